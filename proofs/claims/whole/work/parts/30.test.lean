theorem xq_Mo_in (ro : xv_Ro) (d : Nat) (σ : xv_S) (v lo hi : Int32) : xv_evm ro d 40 [.int v, .int lo, .int hi] σ = some (some (.int (if lo ≤ v then (if v ≤ hi then 1 else 0) else 0)), σ) := by
  rw [xe_Mo_in]
  simp only [xr_all, xf_all, xj_Mo_in, xb_Mo_in_0, xb_Mo_in_14, xb_Mo_in_15]
  trace_state
  sorry
theorem xq_Mo_layerOf (ro : xv_Ro) (d : Nat) (z : Nat × Nat) (I : Nat → Nat → Int32) (J : Nat → Nat → Int64) (w i : Int32) : xv_evm ro d 50 [.ref 167, .int w, .int i] (z, xv_mk I J) = some (some (.int 0), (z, xv_mk I J)) := by
  rw [xe_Mo_layerOf]
  simp only [xr_all, xf_all, xj_Mo_layerOf, xb_Mo_layerOf_0]
  trace_state
  sorry
theorem xq_Mo_has (ro : xv_Ro) (d : Nat) (z : Nat × Nat) (I : Nat → Nat → Int32) (J : Nat → Nat → Int64) (w i : Int32) : xv_evm ro (d + 2) 47 [.ref 167, .int w] (z, xv_mk I J) = some (some (.int 0), (z, xv_mk I J)) := by
  rw [xe_Mo_isWitness]
  simp only [xr_all, xf_all, xj_Mo_isWitness, xb_Mo_isWitness_0, xb_Mo_isWitness_30, xb_Mo_isWitness_31]
  trace_state
  sorry
theorem xq_Tape_hasRoomFor (ro : xv_Ro) (d : Nat) (z : Nat × Nat) (I : Nat → Nat → Int32) (J : Nat → Nat → Int64) (w i : Int32) : xv_evm ro (d + 2) 246 [.ref 1, .int w] (z, xv_mk I J) = some (none, (z, xv_mk I J)) := by
  rw [xe_Tape_append]
  simp only [xr_all, xf_all, xj_Tape_append, xb_Tape_append_0, xb_Tape_append_52, xb_Tape_append_58]
  trace_state
  sorry
