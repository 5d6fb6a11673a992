/-! PAIR: agree (the pair) -/
theorem vg_same {I : Nat → Nat → Int32} {n : Nat} (h : ∀ i, i < n → ∀ f, f < 8 → I (25 + 23 + i) f = I 168 (140 + 20 * f + i)) (x1 x2 x3 : Int32) (i : Nat) : vg_t I n x1 x2 x3 i = vg_m I n x1 x2 x3 i := by
  have hp : ∀ x y : Int32, vk_l (vk_p I 25 x y) n = vk_l (vk_q I x y) n := fun x y => vk_l_c (fun j hj => by
    unfold vk_p vk_q
    rw [h j hj 0 (by omega), h j hj 1 (by omega)])
  unfold vg_t vg_m
  rw [hp, hp]
  cases q1 : vk_l (vk_q I x1 (nI i)) n with
  | none => rfl
  | some a =>
    cases q2 : vk_l (vk_q I x2 (nI i)) n with
    | none => rfl
    | some b =>
      have la := vk_l_lt q1
      have lb := vk_l_lt q2
      have e : (fun j => I (25 + 23 + j) 2) a = (fun j => I 168 (180 + j)) a := h a la 2 (by omega)
      have e' : (fun j => I (25 + 23 + j) 2) b = (fun j => I 168 (180 + j)) b := h b lb 2 (by omega)
      simp only [vg_f] at e e' ⊢
      simp only [e, e']
