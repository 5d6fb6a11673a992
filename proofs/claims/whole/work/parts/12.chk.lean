/-! every instruction of every method stands there as the listing has it -/
def xv_mokB (M : xv_M) (w1 w2 w3 w4 : Nat) : Bool :=
  decide (xv_T[w1]? = some (.code M.1 M.2.1 M.2.2.1 M.2.2.2.1)) && decide (xv_T[w2]? = some (.initialized M.1.cls)) && plainName M.1.cls &&
  decide (M.1.cls ≠ "java/lang/invoke/MethodHandle") && decide (M.1.cls ≠ "java/lang/invoke/VarHandle") && decide ((parseMethodDescriptor M.1.desc).map (fun d => d.parameters.length) = some M.2.2.2.2.1.2.2) && decide (M.2.2.1 ≤ 40) &&
  (if M.2.2.2.2.1.2.1 = 0 then decide (xv_T[w3]? = some (.static M.1)) else decide (xv_T[w3]? = some (.instanceMethod M.1))) &&
  (if M.2.2.2.2.1.2.1 = 1 then decide (xv_T[w4]? = some (.selects M.1.cls M.1 M.1)) && decide ((xv_cl[M.2.2.2.2.1.1]?).map (fun q => q.1) = some M.1.cls) else true) &&
  (if M.2.2.2.2.1.2.1 = 2 then decide (M.1.name = "<init>") && decide (M.2.2.2.1 = none) else true) && M.2.2.2.2.2.2.all fun q => xv_bok xv_mt M q.2 q.1
theorem xv_at_or (L : xv_B) (pc : Nat) : xv_at L pc = [] ∨ (pc, xv_at L pc) ∈ L := by
  induction L with
  | nil => exact Or.inl rfl
  | cons q L ih =>
    obtain ⟨p, b⟩ := q
    unfold xv_at
    by_cases h : p = pc
    · rw [if_pos h]; subst h; exact Or.inr List.mem_cons_self
    · rw [if_neg h]
      rcases ih with h2 | h2
      · exact Or.inl h2
      · exact Or.inr (List.mem_cons_of_mem _ h2)
theorem xv_mokB_use {M : xv_M} {w1 w2 w3 w4 : Nat} (h : xv_mokB M w1 w2 w3 w4 = true) : xv_mok xv_mt M := by
  unfold xv_mokB at h
  simp only [Bool.and_eq_true, decide_eq_true_eq] at h
  obtain ⟨⟨⟨⟨⟨⟨⟨⟨⟨⟨h1, h2⟩, h3⟩, h4⟩, h5⟩, h6⟩, h7⟩, h8⟩, h9⟩, h10⟩, h11⟩ := h
  refine ⟨⟨List.mem_of_getElem? h1, List.mem_of_getElem? h2, h3⟩, ⟨h4, h5, h6⟩, h7, fun hk => ?_, fun hk => ?_, fun hk => ?_, fun pc => ?_⟩
  · rw [if_pos hk] at h8; exact List.mem_of_getElem? (of_decide_eq_true h8)
  · rw [if_neg (by rw [hk]; decide)] at h8
    rw [if_pos hk] at h9
    simp only [Bool.and_eq_true, decide_eq_true_eq] at h9
    refine ⟨List.mem_of_getElem? (of_decide_eq_true h8), List.mem_of_getElem? h9.1, ?_⟩
    cases hq : xv_cl[M.2.2.2.2.1.1]? with
    | none => rw [hq] at h9; exact absurd h9.2 (by simp)
    | some q => rw [hq] at h9; exact ⟨q, rfl, Option.some.inj h9.2⟩
  · rw [if_neg (by rw [hk]; decide)] at h8
    rw [if_pos hk] at h10
    simp only [Bool.and_eq_true, decide_eq_true_eq] at h10
    exact ⟨List.mem_of_getElem? (of_decide_eq_true h8), h10.1, h10.2⟩
  · rcases xv_at_or M.2.2.2.2.2.2 pc with h | h
    · rw [h]; rfl
    · exact List.all_eq_true.mp h11 _ h
