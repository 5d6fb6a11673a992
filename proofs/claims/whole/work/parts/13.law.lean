theorem xk_Root_law : ∀ pc, xv_bok xv_mt xm_Root_law (xv_at xm_Root_law.2.2.2.2.2.2 pc) pc = true := by
  have h : (xl_Root_law.all fun q => xv_bok xv_mt xm_Root_law q.2 q.1) = true := by decide +kernel
  intro pc
  rcases xv_at_or xl_Root_law pc with h2 | h2
  · show xv_bok xv_mt xm_Root_law (xv_at xl_Root_law pc) pc = true
    rw [h2]; rfl
  · exact List.all_eq_true.mp h _ h2
