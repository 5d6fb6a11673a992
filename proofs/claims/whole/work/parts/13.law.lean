theorem xk_Root_law_0 : xv_bok xv_mt xm_Root_law xb_Root_law_0 0 = true := by decide +kernel
theorem xk_Root_law_18 : xv_bok xv_mt xm_Root_law xb_Root_law_18 18 = true := by decide +kernel
theorem xk_Root_law_176 : xv_bok xv_mt xm_Root_law xb_Root_law_176 176 = true := by decide +kernel
theorem xk_Root_law_209 : xv_bok xv_mt xm_Root_law xb_Root_law_209 209 = true := by decide +kernel
theorem xk_Root_law_242 : xv_bok xv_mt xm_Root_law xb_Root_law_242 242 = true := by decide +kernel
theorem xk_Root_law_305 : xv_bok xv_mt xm_Root_law xb_Root_law_305 305 = true := by decide +kernel
theorem xk_Root_law_328 : xv_bok xv_mt xm_Root_law xb_Root_law_328 328 = true := by decide +kernel
theorem xk_Root_law_361 : xv_bok xv_mt xm_Root_law xb_Root_law_361 361 = true := by decide +kernel
theorem xk_Root_law_394 : xv_bok xv_mt xm_Root_law xb_Root_law_394 394 = true := by decide +kernel
theorem xk_Root_law_417 : xv_bok xv_mt xm_Root_law xb_Root_law_417 417 = true := by decide +kernel
theorem xk_Root_law_440 : xv_bok xv_mt xm_Root_law xb_Root_law_440 440 = true := by decide +kernel
theorem xk_Root_law_441 : xv_bok xv_mt xm_Root_law xb_Root_law_441 441 = true := by decide +kernel
theorem xk_Root_law_453 : xv_bok xv_mt xm_Root_law xb_Root_law_453 453 = true := by decide +kernel
theorem xk_Root_law_454 : xv_bok xv_mt xm_Root_law xb_Root_law_454 454 = true := by decide +kernel
theorem xk_Root_law_480 : xv_bok xv_mt xm_Root_law xb_Root_law_480 480 = true := by decide +kernel
theorem xk_Root_law_481 : xv_bok xv_mt xm_Root_law xb_Root_law_481 481 = true := by decide +kernel
theorem xk_Root_law_493 : xv_bok xv_mt xm_Root_law xb_Root_law_493 493 = true := by decide +kernel
theorem xk_Root_law_494 : xv_bok xv_mt xm_Root_law xb_Root_law_494 494 = true := by decide +kernel
theorem xk_Root_law_502 : xv_bok xv_mt xm_Root_law xb_Root_law_502 502 = true := by decide +kernel
theorem xk_Root_law_515 : xv_bok xv_mt xm_Root_law xb_Root_law_515 515 = true := by decide +kernel
theorem xk_Root_law_538 : xv_bok xv_mt xm_Root_law xb_Root_law_538 538 = true := by decide +kernel
theorem xk_Root_law_571 : xv_bok xv_mt xm_Root_law xb_Root_law_571 571 = true := by decide +kernel
theorem xk_Root_law_604 : xv_bok xv_mt xm_Root_law xb_Root_law_604 604 = true := by decide +kernel
theorem xk_Root_law_637 : xv_bok xv_mt xm_Root_law xb_Root_law_637 637 = true := by decide +kernel
theorem xk_Root_law_681 : xv_bok xv_mt xm_Root_law xb_Root_law_681 681 = true := by decide +kernel
theorem xk_Root_law_725 : xv_bok xv_mt xm_Root_law xb_Root_law_725 725 = true := by decide +kernel
theorem xk_Root_law_758 : xv_bok xv_mt xm_Root_law xb_Root_law_758 758 = true := by decide +kernel
theorem xk_Root_law_781 : xv_bok xv_mt xm_Root_law xb_Root_law_781 781 = true := by decide +kernel
theorem xk_Root_law_805 : xv_bok xv_mt xm_Root_law xb_Root_law_805 805 = true := by decide +kernel
theorem xk_Root_law_828 : xv_bok xv_mt xm_Root_law xb_Root_law_828 828 = true := by decide +kernel
theorem xk_Root_law_841 : xv_bok xv_mt xm_Root_law xb_Root_law_841 841 = true := by decide +kernel
theorem xk_Root_law_874 : xv_bok xv_mt xm_Root_law xb_Root_law_874 874 = true := by decide +kernel
theorem xk_Root_law_917 : xv_bok xv_mt xm_Root_law xb_Root_law_917 917 = true := by decide +kernel
theorem xk_Root_law_940 : xv_bok xv_mt xm_Root_law xb_Root_law_940 940 = true := by decide +kernel
theorem xk_Root_law_983 : xv_bok xv_mt xm_Root_law xb_Root_law_983 983 = true := by decide +kernel
theorem xk_Root_law_1026 : xv_bok xv_mt xm_Root_law xb_Root_law_1026 1026 = true := by decide +kernel
theorem xk_Root_law_1059 : xv_bok xv_mt xm_Root_law xb_Root_law_1059 1059 = true := by decide +kernel
theorem xk_Root_law_1092 : xv_bok xv_mt xm_Root_law xb_Root_law_1092 1092 = true := by decide +kernel
theorem xk_Root_law_1115 : xv_bok xv_mt xm_Root_law xb_Root_law_1115 1115 = true := by decide +kernel
theorem xk_Root_law_1128 : xv_bok xv_mt xm_Root_law xb_Root_law_1128 1128 = true := by decide +kernel
theorem xk_Root_law_1141 : xv_bok xv_mt xm_Root_law xb_Root_law_1141 1141 = true := by decide +kernel
theorem xk_Root_law_1174 : xv_bok xv_mt xm_Root_law xb_Root_law_1174 1174 = true := by decide +kernel
theorem xk_Root_law_1197 : xv_bok xv_mt xm_Root_law xb_Root_law_1197 1197 = true := by decide +kernel
theorem xk_Root_law_1203 : xv_bok xv_mt xm_Root_law xb_Root_law_1203 1203 = true := by decide +kernel
theorem xk_Root_law : ∀ pc, xv_bok xv_mt xm_Root_law (xv_at xm_Root_law.2.2.2.2.2.2 pc) pc = true := by
  have h : ∀ q ∈ xl_Root_law, xv_bok xv_mt xm_Root_law q.2 q.1 = true := List.forall_mem_cons.mpr ⟨xk_Root_law_0, List.forall_mem_cons.mpr ⟨xk_Root_law_18, List.forall_mem_cons.mpr ⟨xk_Root_law_176, List.forall_mem_cons.mpr ⟨xk_Root_law_209, List.forall_mem_cons.mpr ⟨xk_Root_law_242, List.forall_mem_cons.mpr ⟨xk_Root_law_305, List.forall_mem_cons.mpr ⟨xk_Root_law_328, List.forall_mem_cons.mpr ⟨xk_Root_law_361, List.forall_mem_cons.mpr ⟨xk_Root_law_394, List.forall_mem_cons.mpr ⟨xk_Root_law_417, List.forall_mem_cons.mpr ⟨xk_Root_law_440, List.forall_mem_cons.mpr ⟨xk_Root_law_441, List.forall_mem_cons.mpr ⟨xk_Root_law_453, List.forall_mem_cons.mpr ⟨xk_Root_law_454, List.forall_mem_cons.mpr ⟨xk_Root_law_480, List.forall_mem_cons.mpr ⟨xk_Root_law_481, List.forall_mem_cons.mpr ⟨xk_Root_law_493, List.forall_mem_cons.mpr ⟨xk_Root_law_494, List.forall_mem_cons.mpr ⟨xk_Root_law_502, List.forall_mem_cons.mpr ⟨xk_Root_law_515, List.forall_mem_cons.mpr ⟨xk_Root_law_538, List.forall_mem_cons.mpr ⟨xk_Root_law_571, List.forall_mem_cons.mpr ⟨xk_Root_law_604, List.forall_mem_cons.mpr ⟨xk_Root_law_637, List.forall_mem_cons.mpr ⟨xk_Root_law_681, List.forall_mem_cons.mpr ⟨xk_Root_law_725, List.forall_mem_cons.mpr ⟨xk_Root_law_758, List.forall_mem_cons.mpr ⟨xk_Root_law_781, List.forall_mem_cons.mpr ⟨xk_Root_law_805, List.forall_mem_cons.mpr ⟨xk_Root_law_828, List.forall_mem_cons.mpr ⟨xk_Root_law_841, List.forall_mem_cons.mpr ⟨xk_Root_law_874, List.forall_mem_cons.mpr ⟨xk_Root_law_917, List.forall_mem_cons.mpr ⟨xk_Root_law_940, List.forall_mem_cons.mpr ⟨xk_Root_law_983, List.forall_mem_cons.mpr ⟨xk_Root_law_1026, List.forall_mem_cons.mpr ⟨xk_Root_law_1059, List.forall_mem_cons.mpr ⟨xk_Root_law_1092, List.forall_mem_cons.mpr ⟨xk_Root_law_1115, List.forall_mem_cons.mpr ⟨xk_Root_law_1128, List.forall_mem_cons.mpr ⟨xk_Root_law_1141, List.forall_mem_cons.mpr ⟨xk_Root_law_1174, List.forall_mem_cons.mpr ⟨xk_Root_law_1197, List.forall_mem_cons.mpr ⟨xk_Root_law_1203, fun _ h => absurd h List.not_mem_nil⟩⟩⟩⟩⟩⟩⟩⟩⟩⟩⟩⟩⟩⟩⟩⟩⟩⟩⟩⟩⟩⟩⟩⟩⟩⟩⟩⟩⟩⟩⟩⟩⟩⟩⟩⟩⟩⟩⟩⟩⟩⟩⟩⟩
  intro pc
  rcases xv_at_or xl_Root_law pc with h2 | h2
  · show xv_bok xv_mt xm_Root_law (xv_at xl_Root_law pc) pc = true
    rw [h2]; rfl
  · exact h _ h2
