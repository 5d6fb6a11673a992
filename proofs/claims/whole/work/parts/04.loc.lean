/-! THE SMALL MACHINE AND THE JVM: values, locals, and what touches neither heap nor place -/
def xv_sh (ad : Nat → Nat) : Value → Value
  | .ref a => .ref (ad a)
  | v => v
theorem xv_sh_cat (ad : Nat → Nat) (v : Value) : (xv_sh ad v).category = v.category := by cases v <;> rfl
def xv_lv (ad : Nat → Nat) : Nat → xv_L → List (Nat × Value)
  | _, [] => []
  | n, none :: ls => xv_lv ad (n + 1) ls
  | n, some v :: ls => (n, xv_sh ad v) :: xv_lv ad (n + 1) ls
theorem xv_lv_mem {ad : Nat → Nat} : ∀ {ls : xv_L} {n j : Nat} {w : Value}, (j, w) ∈ xv_lv ad n ls ↔ ∃ k v, j = n + k ∧ xv_get ls k = some v ∧ w = xv_sh ad v := by
  intro ls
  induction ls with
  | nil => intro n j w; simp [xv_lv, xv_get]
  | cons a ls ih =>
    intro n j w
    constructor
    · intro h
      cases a with
      | none =>
        obtain ⟨k, v, h1, h2, h3⟩ := ih.mp h
        exact ⟨k + 1, v, by omega, h2, h3⟩
      | some u =>
        rcases List.mem_cons.mp h with h | h
        · cases h; exact ⟨0, u, rfl, rfl, rfl⟩
        · obtain ⟨k, v, h1, h2, h3⟩ := ih.mp h
          exact ⟨k + 1, v, by omega, h2, h3⟩
    · rintro ⟨k, v, h1, h2, h3⟩
      cases k with
      | zero =>
        have h2 : a = some v := h2
        subst h2; subst h1; subst h3
        exact List.mem_cons_self
      | succ k =>
        have := ih.mpr ⟨k, v, (by omega : j = n + 1 + k), h2, h3⟩
        cases a with
        | none => exact this
        | some u => exact List.mem_cons_of_mem _ this
theorem xv_get_set {ls : xv_L} : ∀ {k j : Nat} {o : Option Value} {v : Value}, xv_get (xv_set ls k o) j = some v → (j = k ∧ o = some v) ∨ (j ≠ k ∧ xv_get ls j = some v) := by
  induction ls with
  | nil => intro k j o v h; simp [xv_set, xv_get] at h
  | cons a ls ih =>
    intro k j o v h
    cases k with
    | zero =>
      cases j with
      | zero => exact Or.inl ⟨rfl, h⟩
      | succ j => exact Or.inr ⟨by omega, h⟩
    | succ k =>
      cases j with
      | zero => exact Or.inr ⟨by omega, h⟩
      | succ j =>
        rcases ih (k := k) (j := j) h with ⟨h1, h2⟩ | ⟨h1, h2⟩
        · exact Or.inl ⟨by omega, h2⟩
        · exact Or.inr ⟨by omega, h2⟩
/-- only the longs' places hold longs -/
def xv_lg (longs : List Nat) (ls : xv_L) : Prop := ∀ j v, xv_get ls j = some v → v.category = 2 → j ∈ longs
theorem xv_has_get {ad : Nat → Nat} {LS : Array Slot} {nL k : Nat} {ls : xv_L} {v : Value} (h : lv_has LS nL (xv_lv ad 0 ls)) (hg : xv_get ls k = some v) : LS[k]? = some (.val (xv_sh ad v)) :=
  h.2.2 (k, xv_sh ad v) (xv_lv_mem.mpr ⟨k, v, by omega, hg, rfl⟩)
theorem xv_has_set1 {ad : Nat → Nat} {LS : Array Slot} {nL k : Nat} {ls : xv_L} {v : Value} {longs : List Nat} (hg : xv_lg longs ls) (hk : k = 0 ∨ k - 1 ∉ longs)
    (h : lv_has LS nL ((k, xv_sh ad v) :: (xv_lv ad 0 ls).filter (fun q => !(q.1 == k) && !(q.1 + 1 == k && q.2.category == 2)))) : lv_has LS nL (xv_lv ad 0 (xv_set ls k (some v))) := by
  refine ⟨h.1, h.2.1, fun q hq => ?_⟩
  obtain ⟨j, w⟩ := q
  obtain ⟨j', u, h1, h2, h3⟩ := xv_lv_mem.mp hq
  rw [Nat.zero_add] at h1
  subst h1; subst h3
  rcases xv_get_set h2 with ⟨rfl, h4⟩ | ⟨h4, h5⟩
  · cases h4
    exact h.2.2 _ List.mem_cons_self
  · refine h.2.2 _ (List.mem_cons_of_mem _ (List.mem_filter.mpr ⟨xv_lv_mem.mpr ⟨j, u, by omega, h5, rfl⟩, ?_⟩))
    simp only [Bool.and_eq_true, Bool.not_eq_true', beq_eq_false_iff_ne, ne_eq, Bool.and_eq_false_iff]
    refine ⟨h4, ?_⟩
    by_cases hc : j + 1 = k
    · refine Or.inr fun hcat => ?_
      rw [xv_sh_cat] at hcat
      rcases hk with hk | hk
      · omega
      · exact hk (by rw [← hc]; exact hg j u h5 hcat)
    · exact Or.inl hc
theorem xv_has_set2 {ad : Nat → Nat} {LS : Array Slot} {nL k : Nat} {ls : xv_L} {x : Int64} {longs : List Nat} (hg : xv_lg longs ls) (hk : k = 0 ∨ k - 1 ∉ longs)
    (h : lv_has LS nL ((k, Value.long x) :: (xv_lv ad 0 ls).filter (fun q => !(q.1 == k) && (!(q.1 == k + 1) && !(q.1 + 1 == k && q.2.category == 2))))) : lv_has LS nL (xv_lv ad 0 (xv_set (xv_set ls k (some (.long x))) (k + 1) none)) := by
  refine ⟨h.1, h.2.1, fun q hq => ?_⟩
  obtain ⟨j, w⟩ := q
  obtain ⟨j', u, h1, h2, h3⟩ := xv_lv_mem.mp hq
  rw [Nat.zero_add] at h1
  subst h1; subst h3
  rcases xv_get_set h2 with ⟨rfl, h4⟩ | ⟨h6, h7⟩
  · cases h4
  · rcases xv_get_set h7 with ⟨rfl, h4⟩ | ⟨h4, h5⟩
    · cases h4
      exact h.2.2 _ List.mem_cons_self
    · refine h.2.2 _ (List.mem_cons_of_mem _ (List.mem_filter.mpr ⟨xv_lv_mem.mpr ⟨j, u, by omega, h5, rfl⟩, ?_⟩))
      simp only [Bool.and_eq_true, Bool.not_eq_true', beq_eq_false_iff_ne, ne_eq, Bool.and_eq_false_iff]
      refine ⟨h4, h6, ?_⟩
      by_cases hc : j + 1 = k
      · refine Or.inr fun hcat => ?_
        rw [xv_sh_cat] at hcat
        rcases hk with hk | hk
        · omega
        · exact hk (by rw [← hc]; exact hg j u h5 hcat)
      · exact Or.inl hc
theorem xv_lg_set1 {k : Nat} {ls : xv_L} {v : Value} {longs : List Nat} (hg : xv_lg longs ls) (hv : v.category = 1) : xv_lg longs (xv_set ls k (some v)) := by
  intro j w h hc
  rcases xv_get_set h with ⟨rfl, h4⟩ | ⟨h4, h5⟩
  · cases h4; omega
  · exact hg j w h5 hc
theorem xv_lg_set2 {k : Nat} {ls : xv_L} {x : Int64} {longs : List Nat} (hg : xv_lg longs ls) (hk : k ∈ longs) : xv_lg longs (xv_set (xv_set ls k (some (.long x))) (k + 1) none) := by
  intro j w h hc
  rcases xv_get_set h with ⟨rfl, h4⟩ | ⟨h6, h7⟩
  · cases h4
  · rcases xv_get_set h7 with ⟨rfl, h4⟩ | ⟨h4, h5⟩
    · exact hk
    · exact hg j w h5 hc
/-- an instruction's length -/
def xv_nx : Instr → Nat
  | .bipush _ | .ldc _ | .iload _ | .lload _ | .aload _ | .istore _ | .lstore _ | .astore _ | .newarray _ => 2
  | .sipush _ | .ldc_w _ | .ldc2_w _ | .iinc _ _ | .goto _ | .if_icmp _ _ | .ifCond _ _ | .ifnull _ | .ifnonnull _ | .getfield _ | .putfield _ | .getstatic _ | .new _ | .anewarray _ | .invokevirtual _ | .invokespecial _ | .invokestatic _ => 3
  | _ => 1
def xv_sok (k nL : Nat) (longs : List Nat) : Bool := decide (k < nL) && (k == 0 || !longs.contains (k - 1))
def xv_sok2 (k nL : Nat) (longs : List Nat) : Bool := decide (k + 1 < nL) && (k == 0 || !longs.contains (k - 1)) && longs.contains k
/-- what must hold of a local instruction's numbers -/
def xv_lok (own : String) (nL : Nat) (longs : List Nat) (i : Instr) (w : Nat) (v : Value) : Bool :=
  match i with
  | .iconst n => decide (v = .int (Int32.ofInt n))
  | .bipush n => decide (v = .int (Int8.ofInt n).toInt32)
  | .sipush n => decide (v = .int (Int16.ofInt n).toInt32)
  | .lconst n => decide (v = .long (Int64.ofNat n.1))
  | .ldc k => (match v with | .int x => decide (xv_T[w]? = some (.constant own k x)) | _ => false)
  | .ldc_w k => (match v with | .int x => decide (xv_T[w]? = some (.constant own k x)) | _ => false)
  | .ldc2_w k => (match v with | .long x => decide (xv_T[w]? = some (.constantLong own k x)) | _ => false)
  | .istore k => xv_sok k nL longs
  | .istore_n k => xv_sok k.1 nL longs
  | .astore k => xv_sok k nL longs
  | .astore_n k => xv_sok k.1 nL longs
  | .lstore k => xv_sok2 k nL longs
  | .lstore_n k => xv_sok2 k.1 nL longs
  | .iinc k n => xv_sok k nL longs && decide (v = .int (Int32.ofInt n))
  | _ => true
theorem xv_sok_use {k nL : Nat} {longs : List Nat} (h : xv_sok k nL longs = true) : k < nL ∧ (k = 0 ∨ k - 1 ∉ longs) := by
  simp only [xv_sok, Bool.and_eq_true, decide_eq_true_eq, Bool.or_eq_true, beq_iff_eq, Bool.not_eq_true', List.contains_eq_mem, decide_eq_false_iff_not] at h
  exact h
theorem xv_sok2_use {k nL : Nat} {longs : List Nat} (h : xv_sok2 k nL longs = true) : k + 1 < nL ∧ (k = 0 ∨ k - 1 ∉ longs) ∧ k ∈ longs := by
  simp only [xv_sok2, Bool.and_eq_true, decide_eq_true_eq, Bool.or_eq_true, beq_iff_eq, Bool.not_eq_true', List.contains_eq_mem, decide_eq_false_iff_not] at h
  exact ⟨h.1.1, h.1.2, h.2⟩
section XVL
variable {p : Program} {l : Launch} {e : Env} {R : Room} {s : State} {m : MethodId} {args : Array Value} {below : List Frame} {meth : Method} {c : Code} {H : Heap} {locs : List Loc} {cells slots : Nat} {Q : State → Prop}
variable {cc : ByteArray} {pc : Nat} {LS : Array Slot} {ad : Nat → Nat}
theorem xv_i2_use {f : Int32 → Int32 → Option Int32} {ls ls' : xv_L} {st st' : List Value} (h : ((xv_i2 f st).map fun r => (ls, r)) = some (ls', st')) : ls' = ls ∧ ∃ x y z r, st = .int y :: .int x :: r ∧ f x y = some z ∧ st' = .int z :: r := by
  unfold xv_i2 at h
  split at h
  · rename_i y x r
    cases hz : f x y with
    | none => rw [hz] at h; simp at h
    | some z => rw [hz] at h; simp at h; exact ⟨h.1.symm, x, y, z, r, rfl, hz, h.2.symm⟩
  · simp at h
theorem xv_l2_use {f : Int64 → Int64 → Option Value} {ls ls' : xv_L} {st st' : List Value} (h : ((xv_l2 f st).map fun r => (ls, r)) = some (ls', st')) : ls' = ls ∧ ∃ x y z r, st = .long y :: .long x :: r ∧ f x y = some z ∧ st' = z :: r := by
  unfold xv_l2 at h
  split at h
  · rename_i y x r
    cases hz : f x y with
    | none => rw [hz] at h; simp at h
    | some z => rw [hz] at h; simp at h; exact ⟨h.1.symm, x, y, z, r, rfl, hz, h.2.symm⟩
  · simp at h
theorem xv_loc_ok {own : String} {nL w : Nat} {longs : List Nat} {i : Instr} {v : Value} {ls ls' : xv_L} {st st' : List Value} (hx : p.tables.exec = Jvm.exec) (hb : c.code = cc) (hown : s.vm.findClass own = some m.cls) (hts : ∀ w ∈ xv_T, w.before args s = true)
    (hl : lv_has LS nL (xv_lv ad 0 ls)) (hg : xv_lg longs ls) (hd : decode cc pc = .ok (i, xv_nx i)) (hok : xv_lok own nL longs i w v = true) (hs : xv_loc i v ls st = some (ls', st'))
    (kk : ∀ LS', lv_has LS' nL (xv_lv ad 0 ls') → xv_lg longs ls' → W p l e R s m args below meth c H locs cells slots Q (F0 m (pc + xv_nx i) LS' (st'.map (xv_sh ad)))) : W p l e R s m args below meth c H locs cells slots Q (F0 m pc LS (st.map (xv_sh ad))) := by
  cases i with
  | aconst_null =>
    cases hs
    exact lv_null hx hb hd (kk LS hl hg)
  | iconst n =>
    cases hs
    have hv := of_decide_eq_true hok
    subst hv
    exact lv_iconst hx hb hd rfl (kk LS hl hg)
  | bipush n =>
    cases hs
    have hv := of_decide_eq_true hok
    subst hv
    exact lv_bipush hx hb hd rfl (kk LS hl hg)
  | sipush n =>
    cases hs
    have hv := of_decide_eq_true hok
    subst hv
    exact lv_sipush hx hb hd rfl (kk LS hl hg)
  | lconst n =>
    cases hs
    have hv := of_decide_eq_true hok
    subst hv
    exact lv_lconst hx hb hd rfl (kk LS hl hg)
  | ldc k =>
    cases hs
    cases v with
    | int x => exact lv_ldc hx hb hown (hts _ (List.mem_of_getElem? (of_decide_eq_true hok))) hd (kk LS hl hg)
    | _ => cases hok
  | ldc_w k =>
    cases hs
    cases v with
    | int x => exact lv_ldcw hx hb hown (hts _ (List.mem_of_getElem? (of_decide_eq_true hok))) hd (kk LS hl hg)
    | _ => cases hok
  | ldc2_w k =>
    cases hs
    cases v with
    | long x => exact lv_ldc2 hx hb hown (hts _ (List.mem_of_getElem? (of_decide_eq_true hok))) hd (kk LS hl hg)
    | _ => cases hok
  | iload k =>
    change xv_ld 0 ls k st = _ at hs
    unfold xv_ld at hs
    cases hgk : xv_get ls k with
    | none => rw [hgk] at hs; cases hs
    | some u =>
      rw [hgk] at hs
      dsimp only at hs
      cases u with
      | int x => cases hs; exact lv_iload hx hb hd (xv_has_get hl hgk) (kk LS hl hg)
      | _ => cases hs
  | iload_n k =>
    change xv_ld 0 ls k.1 st = _ at hs
    unfold xv_ld at hs
    cases hgk : xv_get ls k.1 with
    | none => rw [hgk] at hs; cases hs
    | some u =>
      rw [hgk] at hs
      dsimp only at hs
      cases u with
      | int x => cases hs; exact lv_iload_n hx hb hd rfl (xv_has_get hl hgk) (kk LS hl hg)
      | _ => cases hs
  | lload k =>
    change xv_ld 1 ls k st = _ at hs
    unfold xv_ld at hs
    cases hgk : xv_get ls k with
    | none => rw [hgk] at hs; cases hs
    | some u =>
      rw [hgk] at hs
      dsimp only at hs
      cases u with
      | long x => cases hs; exact lv_lload hx hb hd (xv_has_get hl hgk) (kk LS hl hg)
      | _ => cases hs
  | lload_n k =>
    change xv_ld 1 ls k.1 st = _ at hs
    unfold xv_ld at hs
    cases hgk : xv_get ls k.1 with
    | none => rw [hgk] at hs; cases hs
    | some u =>
      rw [hgk] at hs
      dsimp only at hs
      cases u with
      | long x => cases hs; exact lv_lload_n hx hb hd rfl (xv_has_get hl hgk) (kk LS hl hg)
      | _ => cases hs
  | aload k =>
    change xv_ld 3 ls k st = _ at hs
    unfold xv_ld at hs
    cases hgk : xv_get ls k with
    | none => rw [hgk] at hs; cases hs
    | some u =>
      rw [hgk] at hs
      dsimp only at hs
      cases u with
      | ref x => cases hs; exact lv_aload hx hb hd (xv_has_get hl hgk) (kk LS hl hg)
      | null => cases hs; exact lv_aloadN hx hb hd (xv_has_get hl hgk) (kk LS hl hg)
      | _ => cases hs
  | aload_n k =>
    change xv_ld 3 ls k.1 st = _ at hs
    unfold xv_ld at hs
    cases hgk : xv_get ls k.1 with
    | none => rw [hgk] at hs; cases hs
    | some u =>
      rw [hgk] at hs
      dsimp only at hs
      cases u with
      | ref x => cases hs; exact lv_aload_n hx hb hd rfl (xv_has_get hl hgk) (kk LS hl hg)
      | null => cases hs; exact lv_aload_nN hx hb hd rfl (xv_has_get hl hgk) (kk LS hl hg)
      | _ => cases hs
  | istore k =>
    change xv_st 0 ls k st = _ at hs
    obtain ⟨h1, h2⟩ := xv_sok_use hok
    cases st with
    | nil => cases hs
    | cons u r =>
      cases u with
      | int x => cases hs; exact lv_istore hx hb hd hl h1 rfl (fun LS' h => kk LS' (xv_has_set1 hg h2 h) (xv_lg_set1 hg rfl))
      | _ => cases hs
  | istore_n k =>
    change xv_st 0 ls k.1 st = _ at hs
    obtain ⟨h1, h2⟩ := xv_sok_use hok
    cases st with
    | nil => cases hs
    | cons u r =>
      cases u with
      | int x => cases hs; exact lv_istore_n hx hb hd rfl hl h1 rfl (fun LS' h => kk LS' (xv_has_set1 hg h2 h) (xv_lg_set1 hg rfl))
      | _ => cases hs
  | astore k =>
    change xv_st 3 ls k st = _ at hs
    obtain ⟨h1, h2⟩ := xv_sok_use hok
    cases st with
    | nil => cases hs
    | cons u r =>
      cases u with
      | ref x => cases hs; exact lv_astore hx hb hd hl h1 rfl (fun LS' h => kk LS' (xv_has_set1 hg h2 h) (xv_lg_set1 hg rfl))
      | null => cases hs; exact lv_astoreN hx hb hd hl h1 rfl (fun LS' h => kk LS' (xv_has_set1 hg h2 h) (xv_lg_set1 hg rfl))
      | _ => cases hs
  | astore_n k =>
    change xv_st 3 ls k.1 st = _ at hs
    obtain ⟨h1, h2⟩ := xv_sok_use hok
    cases st with
    | nil => cases hs
    | cons u r =>
      cases u with
      | ref x => cases hs; exact lv_astore_n hx hb hd rfl hl h1 rfl (fun LS' h => kk LS' (xv_has_set1 hg h2 h) (xv_lg_set1 hg rfl))
      | null => cases hs; exact lv_astore_nN hx hb hd rfl hl h1 rfl (fun LS' h => kk LS' (xv_has_set1 hg h2 h) (xv_lg_set1 hg rfl))
      | _ => cases hs
  | lstore k =>
    change xv_stl ls k st = _ at hs
    obtain ⟨h1, h2, h3⟩ := xv_sok2_use hok
    cases st with
    | nil => cases hs
    | cons u r =>
      cases u with
      | long x => cases hs; exact lv_lstore hx hb hd hl h1 rfl (fun LS' h => kk LS' (xv_has_set2 hg h2 h) (xv_lg_set2 hg h3))
      | _ => cases hs
  | lstore_n k =>
    change xv_stl ls k.1 st = _ at hs
    obtain ⟨h1, h2, h3⟩ := xv_sok2_use hok
    cases st with
    | nil => cases hs
    | cons u r =>
      cases u with
      | long x => cases hs; exact lv_lstore_n hx hb hd rfl hl h1 rfl (fun LS' h => kk LS' (xv_has_set2 hg h2 h) (xv_lg_set2 hg h3))
      | _ => cases hs
  | iinc k n =>
    change xv_inc ls k v st = _ at hs
    change (xv_sok k nL longs && decide (v = .int (Int32.ofInt n))) = true at hok
    rw [Bool.and_eq_true] at hok
    obtain ⟨h1, h2⟩ := xv_sok_use hok.1
    have hv := of_decide_eq_true hok.2
    subst hv
    unfold xv_inc at hs
    cases hgk : xv_get ls k with
    | none => rw [hgk] at hs; cases hs
    | some u =>
      rw [hgk] at hs
      cases u with
      | int x =>
        cases hs
        obtain ⟨q, hq⟩ := List.getElem?_of_mem (xv_lv_mem.mpr ⟨k, .int x, (Nat.zero_add k).symm, hgk, rfl⟩ : (k, xv_sh ad (.int x)) ∈ xv_lv ad 0 ls)
        exact lv_iinc hx hb hd hl hq rfl h1 rfl (fun LS' h => kk LS' (xv_has_set1 hg h2 h) (xv_lg_set1 hg rfl))
      | _ => cases hs
  | dup =>
    cases st with
    | nil => cases hs
    | cons u r =>
      change ((if u.category = 1 then some (u :: u :: r) else none).map fun r => (ls, r)) = _ at hs
      by_cases hc : u.category = 1
      · rw [if_pos hc] at hs; cases hs; exact lv_dup hx hb hd (by rw [xv_sh_cat]; exact hc) (kk LS hl hg)
      · rw [if_neg hc] at hs; cases hs
  | pop =>
    cases st with
    | nil => cases hs
    | cons u r =>
      change ((if u.category = 1 then some r else none).map fun r => (ls, r)) = _ at hs
      by_cases hc : u.category = 1
      · rw [if_pos hc] at hs; cases hs; exact lv_pop hx hb hd (by rw [xv_sh_cat]; exact hc) (kk LS hl hg)
      · rw [if_neg hc] at hs; cases hs
  | dup2 =>
    match st, hs with
    | u :: z :: r, hs =>
      change ((if u.category = 1 ∧ z.category = 1 then some (u :: z :: u :: z :: r) else none).map fun r => (ls, r)) = _ at hs
      by_cases hc : u.category = 1 ∧ z.category = 1
      · rw [if_pos hc] at hs; cases hs; exact lv_dup2_11 hx hb hd (by rw [xv_sh_cat]; exact hc.1) (by rw [xv_sh_cat]; exact hc.2) (kk LS hl hg)
      · rw [if_neg hc] at hs; cases hs
    | [], hs => cases hs
    | [_], hs => cases hs
  | iadd =>
    obtain ⟨rfl, x, y, z, r, rfl, hf, rfl⟩ := xv_i2_use hs
    cases hf
    exact lv_iadd hx hb hd (kk LS hl hg)
  | isub =>
    obtain ⟨rfl, x, y, z, r, rfl, hf, rfl⟩ := xv_i2_use hs
    cases hf
    exact lv_isub hx hb hd (kk LS hl hg)
  | imul =>
    obtain ⟨rfl, x, y, z, r, rfl, hf, rfl⟩ := xv_i2_use hs
    cases hf
    exact lv_imul hx hb hd (kk LS hl hg)
  | iand =>
    obtain ⟨rfl, x, y, z, r, rfl, hf, rfl⟩ := xv_i2_use hs
    cases hf
    exact lv_iand hx hb hd (kk LS hl hg)
  | ior =>
    obtain ⟨rfl, x, y, z, r, rfl, hf, rfl⟩ := xv_i2_use hs
    cases hf
    exact lv_ior hx hb hd (kk LS hl hg)
  | ixor =>
    obtain ⟨rfl, x, y, z, r, rfl, hf, rfl⟩ := xv_i2_use hs
    cases hf
    exact lv_ixor hx hb hd (kk LS hl hg)
  | ishl =>
    obtain ⟨rfl, x, y, z, r, rfl, hf, rfl⟩ := xv_i2_use hs
    cases hf
    exact lv_ishl hx hb hd (kk LS hl hg)
  | ishr =>
    obtain ⟨rfl, x, y, z, r, rfl, hf, rfl⟩ := xv_i2_use hs
    cases hf
    exact lv_ishr hx hb hd (kk LS hl hg)
  | iushr =>
    obtain ⟨rfl, x, y, z, r, rfl, hf, rfl⟩ := xv_i2_use hs
    cases hf
    exact lv_iushr hx hb hd rfl (kk LS hl hg)
  | idiv =>
    obtain ⟨rfl, x, y, z, r, rfl, hf, rfl⟩ := xv_i2_use hs
    by_cases hy : y = 0
    · rw [if_pos hy] at hf; cases hf
    · rw [if_neg hy] at hf; cases hf; exact lv_idiv hx hb hd hy (kk LS hl hg)
  | irem =>
    obtain ⟨rfl, x, y, z, r, rfl, hf, rfl⟩ := xv_i2_use hs
    by_cases hy : y = 0
    · rw [if_pos hy] at hf; cases hf
    · rw [if_neg hy] at hf; cases hf; exact lv_irem hx hb hd hy (kk LS hl hg)
  | ladd =>
    obtain ⟨rfl, x, y, z, r, rfl, hf, rfl⟩ := xv_l2_use hs
    cases hf
    exact lv_ladd hx hb hd (kk LS hl hg)
  | lsub =>
    obtain ⟨rfl, x, y, z, r, rfl, hf, rfl⟩ := xv_l2_use hs
    cases hf
    exact lv_lsub hx hb hd (kk LS hl hg)
  | lmul =>
    obtain ⟨rfl, x, y, z, r, rfl, hf, rfl⟩ := xv_l2_use hs
    cases hf
    exact lv_lmul hx hb hd (kk LS hl hg)
  | land =>
    obtain ⟨rfl, x, y, z, r, rfl, hf, rfl⟩ := xv_l2_use hs
    cases hf
    exact lv_land hx hb hd (kk LS hl hg)
  | lor =>
    obtain ⟨rfl, x, y, z, r, rfl, hf, rfl⟩ := xv_l2_use hs
    cases hf
    exact lv_lor hx hb hd (kk LS hl hg)
  | lxor =>
    obtain ⟨rfl, x, y, z, r, rfl, hf, rfl⟩ := xv_l2_use hs
    cases hf
    exact lv_lxor hx hb hd (kk LS hl hg)
  | ldiv =>
    obtain ⟨rfl, x, y, z, r, rfl, hf, rfl⟩ := xv_l2_use hs
    by_cases hy : y = 0
    · rw [if_pos hy] at hf; cases hf
    · rw [if_neg hy] at hf; cases hf; exact lv_ldiv hx hb hd hy (kk LS hl hg)
  | lrem =>
    obtain ⟨rfl, x, y, z, r, rfl, hf, rfl⟩ := xv_l2_use hs
    by_cases hy : y = 0
    · rw [if_pos hy] at hf; cases hf
    · rw [if_neg hy] at hf; cases hf; exact lv_lrem hx hb hd hy (kk LS hl hg)
  | lcmp =>
    obtain ⟨rfl, x, y, z, r, rfl, hf, rfl⟩ := xv_l2_use hs
    cases hf
    exact W.lcmp hx hb hd (kk LS hl hg)
  | lshl =>
    match st, hs with
    | .int y :: .long x :: r, hs => cases hs; exact lv_lshl hx hb hd rfl (kk LS hl hg)
  | lshr =>
    match st, hs with
    | .int y :: .long x :: r, hs => cases hs; exact lv_lshr hx hb hd rfl (kk LS hl hg)
  | ineg =>
    match st, hs with
    | .int x :: r, hs => cases hs; exact lv_ineg hx hb hd (kk LS hl hg)
  | i2l =>
    match st, hs with
    | .int x :: r, hs => cases hs; exact lv_i2l hx hb hd rfl (kk LS hl hg)
  | i2b =>
    match st, hs with
    | .int x :: r, hs => cases hs; exact lv_i2b hx hb hd rfl (kk LS hl hg)
  | l2i =>
    match st, hs with
    | .long x :: r, hs => cases hs; exact lv_l2i hx hb hd rfl (kk LS hl hg)
  | lneg =>
    match st, hs with
    | .long x :: r, hs => cases hs; exact lv_lneg hx hb hd (kk LS hl hg)
  | _ => cases hs
end XVL
