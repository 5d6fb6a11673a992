/-! THE CONSTRUCTORS' RUN: by computation -/
/-- cells beyond the last are dead; rows of references hold nothing beyond their length -/
def xv_ok2 (σ : xv_S) : Prop := xv_dead σ ∧ ∀ k kd n f, σ.2 k = .inl (kd, n, .inr (.inr (.inr (.inr f)))) → ∀ j, n ≤ j → f j = none
theorem xv_ok2_up {σ : xv_S} {r : Nat} {c : xv_C} (h : xv_ok2 σ) (hr : r < σ.1.1) (hc : ∀ kd n f, c = .inl (kd, n, .inr (.inr (.inr (.inr f)))) → ∀ j, n ≤ j → f j = none) : xv_ok2 (σ.1, xv_up σ.2 r c) := by
  refine ⟨xv_dead_up c h.1 hr, fun k kd n f hk j hj => ?_⟩
  by_cases he : k = r
  · have hk2 : xv_up σ.2 r c k = _ := hk
    simp only [xv_up, if_pos he] at hk2
    exact hc kd n f hk2 j hj
  · have hk2 : xv_up σ.2 r c k = _ := hk
    simp only [xv_up, if_neg he] at hk2
    exact h.2 k kd n f hk2 j hj
theorem xv_ok2_push {σ : xv_S} {c : xv_C} {n : Nat} (h : xv_ok2 σ) (hlim : σ.1.1 < 1000000) (hc : ∀ kd n f, c = .inl (kd, n, .inr (.inr (.inr (.inr f)))) → ∀ j, n ≤ j → f j = none) : xv_ok2 ((σ.1.1 + 1, n), xv_up σ.2 σ.1.1 c) := by
  refine ⟨⟨by show σ.1.1 + 1 ≤ _; omega, fun k hk => ?_⟩, fun k kd n f hk j hj => ?_⟩
  · have hk2 : σ.1.1 + 1 ≤ k := hk
    have h5 : ¬ k = σ.1.1 := by omega
    show xv_up σ.2 σ.1.1 c k = _
    simp only [xv_up, if_neg h5]
    exact h.1.2 k (by omega)
  · by_cases he : k = σ.1.1
    · have hk2 : xv_up σ.2 σ.1.1 c k = _ := hk
      simp only [xv_up, if_pos he] at hk2
      exact hc kd n f hk2 j hj
    · have hk2 : xv_up σ.2 σ.1.1 c k = _ := hk
      simp only [xv_up, if_neg he] at hk2
      exact h.2 k kd n f hk2 j hj
theorem xv_lt_of {σ : xv_S} {r : Nat} (h : xv_dead σ) (hne : σ.2 r ≠ .inr (1000, [])) : r < σ.1.1 := by
  rcases Nat.lt_or_ge r σ.1.1 with q | q
  · exact q
  · exact absurd (h.2 r q) hne
theorem xv_hp_ok2 {ro : xv_Ro} {i : Instr} {a b : Nat} {v : Value} {σ σ' : xv_S} {st st' : List Value} (h : xv_hp ro i a b v σ st = some (st', σ')) (h2 : xv_ok2 σ) : xv_ok2 σ' := by
  cases i with
  | getfield k => obtain ⟨z, -, hz⟩ := xv_opt_use h; cases hz; exact h2
  | putfield k =>
    cases v with
    | int t =>
      obtain ⟨z, h0, hz⟩ := xv_opt_use h
      cases hz
      match st, h0 with
      | u :: .ref r :: st, h1 =>
        unfold xv_putf at h1
        dsimp only at h1
        cases hr : σ.2 r with
        | inl y => rw [hr] at h1; cases h1
        | inr y =>
          obtain ⟨ci, fs⟩ := y
          rw [hr] at h1
          dsimp only at h1
          by_cases hc : ci = b ∧ a < fs.length ∧ xv_ty t.toNatClampNeg u = true
          · rw [if_pos hc] at h1
            cases h1
            exact xv_ok2_up h2 (xv_lt_of h2.1 (by rw [hr]; intro e; cases e; exact absurd hc.2.1 (by simp))) (fun _ _ _ e => by cases e)
          · rw [if_neg hc] at h1; cases h1
    | _ => cases h
  | iaload => obtain ⟨z, -, hz⟩ := xv_opt_use h; cases hz; exact h2
  | baload => obtain ⟨z, -, hz⟩ := xv_opt_use h; cases hz; exact h2
  | laload => obtain ⟨z, -, hz⟩ := xv_opt_use h; cases hz; exact h2
  | aaload => obtain ⟨z, -, hz⟩ := xv_opt_use h; cases hz; exact h2
  | iastore =>
    obtain ⟨z, h0, hz⟩ := xv_opt_use h
    cases hz
    match st, h0 with
    | .int u :: .int j :: .ref r :: st, h1 =>
      unfold xv_isto at h1
      dsimp only at h1
      split at h1
      · rename_i k n f hr
        split at h1
        · cases h1
          exact xv_ok2_up h2 (xv_lt_of h2.1 (by rw [hr]; intro e; cases e)) (fun _ _ _ e => by cases e)
        · cases h1
      · cases h1
  | bastore =>
    obtain ⟨z, h0, hz⟩ := xv_opt_use h
    cases hz
    match st, h0 with
    | .int u :: .int j :: .ref r :: st, h1 =>
      unfold xv_isto at h1
      dsimp only at h1
      split at h1
      · rename_i k n f hr
        split at h1
        · cases h1
          exact xv_ok2_up h2 (xv_lt_of h2.1 (by rw [hr]; intro e; cases e)) (fun _ _ _ e => by cases e)
        · cases h1
      · cases h1
  | lastore =>
    obtain ⟨z, h0, hz⟩ := xv_opt_use h
    cases hz
    match st, h0 with
    | .long u :: .int j :: .ref r :: st, h1 =>
      unfold xv_lsto at h1
      dsimp only at h1
      split at h1
      · rename_i k n f hr
        split at h1
        · cases h1
          exact xv_ok2_up h2 (xv_lt_of h2.1 (by rw [hr]; intro e; cases e)) (fun _ _ _ e => by cases e)
        · cases h1
      · cases h1
  | aastore =>
    obtain ⟨z, h0, hz⟩ := xv_opt_use h
    cases hz
    match st, h0 with
    | .ref u :: .int j :: .ref r :: st, h1 =>
      unfold xv_asto at h1
      dsimp only at h1
      split at h1
      · rename_i k n f c fs hr hv
        split at h1
        · rename_i hc
          cases h1
          refine xv_ok2_up h2 (xv_lt_of h2.1 (by rw [hr]; intro e; cases e)) (fun kd m g e q hq => ?_)
          cases e
          have hin := xv_inB_use hc.2
          have hlt : j.toNatClampNeg < n := Nat.not_le.mp fun z => hin (Or.inr z)
          have hne : ¬ q = j.toNatClampNeg := by omega
          simp only [va_up, if_neg hne]
          exact h2.2 r k n f hr q hq
        · cases h1
      · cases h1
  | arraylength => obtain ⟨z, -, hz⟩ := xv_opt_use h; cases hz; exact h2
  | getstatic k => cases h; exact h2
  | new k =>
    change xv_new a σ st = _ at h
    unfold xv_new at h
    by_cases hc : σ.1.1 < 1000000
    · rw [if_pos hc] at h; cases h; exact xv_ok2_push h2 hc (fun _ _ _ e => by cases e)
    · rw [if_neg hc] at h; cases h
  | newarray k =>
    change xv_newa a σ st = _ at h
    match st, h with
    | .int n :: st, h1 =>
      unfold xv_newa at h1
      dsimp only at h1
      by_cases hc : σ.1.1 < 1000000 ∧ 0 ≤ n ∧ n ≤ 100000
      · rw [if_pos hc] at h1; cases h1
        refine xv_ok2_push h2 hc.1 (fun kd m f e j hj => ?_)
        split at e
        · cases e
        · split at e
          · cases e; rfl
          · cases e
      · rw [if_neg hc] at h1; cases h1
  | anewarray k =>
    change xv_newa a σ st = _ at h
    match st, h with
    | .int n :: st, h1 =>
      unfold xv_newa at h1
      dsimp only at h1
      by_cases hc : σ.1.1 < 1000000 ∧ 0 ≤ n ∧ n ≤ 100000
      · rw [if_pos hc] at h1; cases h1
        refine xv_ok2_push h2 hc.1 (fun kd m f e j hj => ?_)
        split at e
        · cases e
        · split at e
          · cases e; rfl
          · cases e
      · rw [if_neg hc] at h1; cases h1
  | _ => cases h
theorem xv_exec_ok2 {mt : Nat → Option xv_M} {ro : xv_Ro} : ∀ (n d : Nat) (M : xv_M) (ops : List xv_Op) (ls : xv_L) (st : List Value) (σ : xv_S) (r : Option Value) (σ' : xv_S), xv_exec mt ro n d M ops ls st σ = some (r, σ') → xv_ok2 σ → xv_ok2 σ' := by
  intro n
  induction n with
  | zero => intro d M ops ls st σ r σ' h; unfold xv_exec at h; cases h
  | succ n ih =>
    intro d M ops ls st σ r σ' h h0
    cases ops with
    | nil => unfold xv_exec at h; cases h
    | cons op ops =>
      obtain ⟨i, a, b, w, v⟩ := op
      rcases xv_kd_lt i with hk | hk | hk | hk | hk
      · obtain ⟨ls', st', -, h2⟩ := xv_exec_0 hk h
        exact ih _ _ _ _ _ _ _ _ h2 h0
      · obtain ⟨t, st', -, h2, h3⟩ := xv_exec_1 hk h
        cases t with
        | none => exact ih _ _ _ _ _ _ _ _ (h3 rfl) h0
        | some c => exact ih _ _ _ _ _ _ _ _ (h2 c rfl) h0
      · obtain ⟨st', σ1, h1, h2⟩ := xv_exec_2 hk h
        exact ih _ _ _ _ _ _ _ _ h2 (xv_hp_ok2 h1 h0)
      · obtain ⟨d', -, h2 | h2⟩ := xv_exec_3 hk h
        · obtain ⟨-, st', rest, -, -, h3⟩ := h2
          exact ih _ _ _ _ _ _ _ _ h3 h0
        · obtain ⟨-, k, as, rest, M', ls0, r1, σ1, -, -, -, -, -, h3, h4⟩ := h2
          exact ih _ _ _ _ _ _ _ _ h4 (ih _ _ _ _ _ _ _ _ h3 h0)
      · obtain ⟨r1, -, h2⟩ := xv_exec_4 hk h
        cases h2
        exact h0
def xv_rn : xv_Ro := fun _ => none
theorem xv_hp_ro {ro : xv_Ro} {i : Instr} {a b : Nat} {v : Value} {σ σ' : xv_S} {st st' : List Value} (h : xv_hp xv_rn i a b v σ st = some (st', σ')) : xv_hp ro i a b v σ st = some (st', σ') := by
  cases i with
  | iaload =>
    by_cases hb : b = 1
    · obtain ⟨z, h0, -⟩ := xv_opt_use h
      rw [if_pos hb] at h0
      match st, h0 with
      | .int j :: .ref r :: st, h1 => cases h1
    · simp only [xv_hp, if_neg hb] at h ⊢; exact h
  | arraylength =>
    by_cases hb : b = 1
    · obtain ⟨z, h0, -⟩ := xv_opt_use h
      rw [if_pos hb] at h0
      match st, h0 with
      | .ref r :: st, h1 => cases h1
    · simp only [xv_hp, if_neg hb] at h ⊢; exact h
  | _ => exact h
theorem xv_exec_ro {mt : Nat → Option xv_M} {ro : xv_Ro} : ∀ (n d : Nat) (M : xv_M) (ops : List xv_Op) (ls : xv_L) (st : List Value) (σ : xv_S) (res : Option Value × xv_S), xv_exec mt xv_rn n d M ops ls st σ = some res → xv_exec mt ro n d M ops ls st σ = some res := by
  intro n
  induction n with
  | zero => intro d M ops ls st σ res h; unfold xv_exec at h; cases h
  | succ n ih =>
    intro d M ops ls st σ res h
    cases ops with
    | nil => unfold xv_exec at h; cases h
    | cons op ops =>
      obtain ⟨i, a, b, w, v⟩ := op
      rcases xv_kd_lt i with hk | hk | hk | hk | hk
      · obtain ⟨ls', st', h1, h2⟩ := xv_exec_0 hk h
        rw [xv_up0 hk h1]; exact ih _ _ _ _ _ _ _ h2
      · obtain ⟨t, st', h1, h2, h3⟩ := xv_exec_1 hk h
        cases t with
        | none => rw [xv_up1n hk h1]; exact ih _ _ _ _ _ _ _ (h3 rfl)
        | some c => rw [xv_up1 hk h1]; exact ih _ _ _ _ _ _ _ (h2 c rfl)
      · obtain ⟨st', σ1, h1, h2⟩ := xv_exec_2 hk h
        rw [xv_up2 hk (xv_hp_ro h1)]; exact ih _ _ _ _ _ _ _ h2
      · obtain ⟨d', rfl, h2 | h2⟩ := xv_exec_3 hk h
        · obtain ⟨rfl, st', rest, h1, hr, h3⟩ := h2
          rw [xv_up3n hk h1 hr]; exact ih _ _ _ _ _ _ _ h3
        · obtain ⟨hv, k, as, rest, M', ls0, r1, σ1, h1, hm, hi, hr, hal, h3, h4⟩ := h2
          rw [xv_up3 hk hv h1 hm hi ⟨hr, hal⟩ (ih _ _ _ _ _ _ _ h3)]; exact ih _ _ _ _ _ _ _ h4
      · obtain ⟨r1, h1, h2⟩ := xv_exec_4 hk h
        subst h2
        rw [xv_up4 hk h1]
/-- the court's constructor, the model's constructor -/
def xv_k0 : xv_S := ((1, (xv_dfs 1).length), xv_up xv_s0.2 0 (.inr (1, xv_dfs 1)))
def xv_kr1 : Option (Option Value × xv_S) := xv_exec xv_mt xv_rn 3000 199 xm_Ct_init (xv_at xl_Ct_init 0) [some (.ref 0)] [] xv_k0
def xv_k1 : xv_S := (xv_kr1.getD (none, xv_s0)).2
def xv_k1b : xv_S := ((xv_k1.1.1 + 1, xv_k1.1.2 + (xv_dfs 0).length), xv_up xv_k1.2 xv_k1.1.1 (.inr (0, xv_dfs 0)))
def xv_kr2 : Option (Option Value × xv_S) := xv_exec xv_mt xv_rn 3000 199 xm_Mo_init (xv_at xl_Mo_init 0) [some (.ref 167), none] [] xv_k1b
def xv_k2 : xv_S := (xv_kr2.getD (none, xv_s0)).2
theorem xv_kr1_ok : (xv_kr1.map fun q => (q.1, q.2.1.1)) = some (none, 167) := by decide +kernel
theorem xv_kr2_ok : (xv_kr2.map fun q => (q.1, q.2.1)) = some (none, xv_SZ) := by decide +kernel
def xv_cff : List (Option Nat) → List Value → Bool
  | [], [] => true
  | some r :: fl, .ref r' :: fs => r == r' && xv_cff fl fs
  | none :: fl, .int _ :: fs => xv_cff fl fs
  | _, _ => false
def xv_cfm (sp : xv_Sp) (c : xv_C) : Bool := match sp, c with
  | .inl (kd, n, _, _), .inl (kd', n', .inl _) => kd == kd' && n == n' && !(kd == 1) && !(kd == 3) && !(kd == 4)
  | .inl (kd, n, _, _), .inl (kd', n', .inr (.inl _)) => kd == kd' && n == n' && kd == 1
  | .inl (kd, n, s, t), .inl (kd', n', .inr (.inr (.inr (.inr f)))) => kd == kd' && n == n' && (kd == 3 || kd == 4) && (List.range n).all fun j => decide (f j = some (s + t * j))
  | .inr (ci, fl), .inr (ci', fs) => ci == ci' && xv_cff fl fs
  | _, _ => false
def xv_rdI (c : xv_C) : Nat → Int32 := match c with
  | .inl (_, _, .inl f) => f
  | .inr (_, fs) => fun j => match fs[j]? with
    | some (.int x) => x
    | _ => 0
  | _ => fun _ => 0
def xv_rdJ (c : xv_C) : Nat → Int64 := match c with
  | .inl (_, _, .inr (.inl f)) => f
  | _ => fun _ => 0
theorem xv_cff_use : ∀ (fl : List (Option Nat)) (fs : List Value) (I : Nat → Int32) (n : Nat), xv_cff fl fs = true → (∀ j x, fs[j]? = some (.int x) → I (n + j) = x) → xv_fl I fl n = fs := by
  intro fl
  induction fl with
  | nil =>
    intro fs I n h _
    cases fs with
    | nil => rfl
    | cons a l => cases h
  | cons f fl ih =>
    intro fs I n h hI
    cases fs with
    | nil => cases f <;> cases h
    | cons v fs =>
      cases f with
      | some r =>
        cases v with
        | ref r' =>
          simp only [xv_cff, Bool.and_eq_true, beq_iff_eq] at h
          obtain ⟨rfl, h⟩ := h
          show Value.ref r :: xv_fl I fl (n + 1) = _
          rw [ih fs I (n + 1) h (fun j x hj => by rw [show n + 1 + j = n + (j + 1) by omega]; exact hI (j + 1) x hj)]
        | _ => cases h
      | none =>
        cases v with
        | int x =>
          show Value.int (I n) :: xv_fl I fl (n + 1) = _
          have h0 : I n = x := hI 0 x rfl
          rw [h0, ih fs I (n + 1) h (fun j x hj => by rw [show n + 1 + j = n + (j + 1) by omega]; exact hI (j + 1) x hj)]
        | _ => cases h
theorem xv_cfm_use {sp : xv_Sp} {c : xv_C} (h : xv_cfm sp c = true) (hn : ∀ kd n f, c = .inl (kd, n, .inr (.inr (.inr (.inr f)))) → ∀ j, n ≤ j → f j = none) : xv_mkc (xv_rdI c) (xv_rdJ c) sp = c := by
  match sp, c, h, hn with
  | .inl (kd, n, s, t), .inl (kd', n', .inl f), h, _ =>
    simp only [xv_cfm, Bool.and_eq_true, beq_iff_eq, Bool.not_eq_true', beq_eq_false_iff_ne, ne_eq] at h
    obtain ⟨⟨⟨⟨rfl, rfl⟩, h1⟩, h3⟩, h4⟩ := h
    simp only [xv_mkc, if_neg h1, if_neg (fun q : kd = 3 ∨ kd = 4 => q.elim h3 h4)]
    rfl
  | .inl (kd, n, s, t), .inl (kd', n', .inr (.inl f)), h, _ =>
    simp only [xv_cfm, Bool.and_eq_true, beq_iff_eq] at h
    obtain ⟨⟨rfl, rfl⟩, h1⟩ := h
    simp only [xv_mkc, if_pos h1]
    rfl
  | .inl (kd, n, s, t), .inl (kd', n', .inr (.inr (.inr (.inr f)))), h, hn =>
    simp only [xv_cfm, Bool.and_eq_true, beq_iff_eq, Bool.or_eq_true, List.all_eq_true, List.mem_range, decide_eq_true_eq] at h
    obtain ⟨⟨⟨rfl, rfl⟩, h1⟩, h2⟩ := h
    have h3 : ¬ kd = 1 := by omega
    simp only [xv_mkc, if_neg h3, if_pos h1]
    congr 7
    funext j
    by_cases hj : j < n
    · rw [if_pos hj, h2 j hj]
    · rw [if_neg hj, hn kd n f rfl j (by omega)]
  | .inr (ci, fl), .inr (ci', fs), h, _ =>
    simp only [xv_cfm, Bool.and_eq_true, beq_iff_eq] at h
    obtain ⟨rfl, h⟩ := h
    simp only [xv_mkc]
    rw [xv_cff_use fl fs _ 0 h (fun j x hj => by rw [Nat.zero_add]; simp only [xv_rdI, hj])]
  | .inl _, .inl (_, _, .inr (.inr (.inl _))), h, _ => cases h
  | .inl _, .inl (_, _, .inr (.inr (.inr (.inl _)))), h, _ => cases h
  | .inl _, .inr _, h, _ => cases h
  | .inr _, .inl _, h, _ => cases h
theorem xv_k2_chk : ((List.range 200).all fun k => match xv_shl[k]? with
  | some sp => xv_cfm sp (xv_k2.2 k)
  | none => false) = true := by decide +kernel
/-- the start's memory -/
def xv_I0 : Nat → Nat → Int32 := fun k => xv_rdI (xv_k2.2 k)
def xv_J0 : Nat → Nat → Int64 := fun k => xv_rdJ (xv_k2.2 k)
