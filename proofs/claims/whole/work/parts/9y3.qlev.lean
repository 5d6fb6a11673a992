/-! question: the class's readers and the model's steps, level by level -/
abbrev q_R : Type := (Nat × Nat) ⊕ (Int32 × Nat)
def q_C (b : Nat → Nat) (n p : Nat) (I W : Nat → Nat → Int32) (v : Int32) : q_R → Prop
  | .inl (f, q) => 1 ≤ f ∧ f ≤ 9 ∧ q ≤ 260 ∧ tl_fr I W ∧ W 1 4 = -1000 * nI f - nI q
  | .inr (x, p') => v = x ∧ p ≤ p' ∧ tp_C b n p' W ∧ tl_fr I W
theorem q_Ct {b : Nat → Nat} {n p p2 : Nat} {I V W : Nat → Nat → Int32} {v : Int32} {r : q_R} (h1 : tl_fr I V) (hp : p ≤ p2) (h : q_C b n p2 V W v r) : q_C b n p I W v r := by
  match r, h with
  | .inl (f, q), h => exact ⟨h.1, h.2.1, h.2.2.1, tl_frt h1 h.2.2.2.1, h.2.2.2.2⟩
  | .inr (x, p'), h => exact ⟨h.1, Nat.le_trans hp h.2.1, h.2.2.1, tl_frt h1 h.2.2.2⟩
def q_hd (w : Nat) (S : List Nat) : Prop := ∀ s S', S = s :: S' → (s < 30 ∨ w < s) ∧ s ≠ 33
def q_ex (w : Nat) (b : Nat → Nat) (n p : Nat) : Prop := p < n → (30 ≤ w → b p ≠ 38) ∧ (31 ≤ w → b p ≠ 94) ∧ (32 ≤ w → b p ≠ 124)
def q_MP (ro : xv_Ro) (b : Nat → Nat) (n p o : Nat) : q_R → Prop
  | .inl (f, q) => ∀ (x1 x2 : Int32) (M : Nat → Nat → Int32) (J : Nat → Nat → Int64) (S : List Nat) (T : List Int32), q_m M J b n p S T 1 → op_c S = o → q_B ro x1 x2 M J f q
  | .inr (x, p') => ∀ (x1 x2 : Int32) (M : Nat → Nat → Int32) (J : Nat → Nat → Int64) (S : List Nat) (T : List Int32), q_m M J b n p S T 1 → op_c S = o → ∃ V K, q_H ro x1 x2 M J = q_H ro x1 x2 V K ∧ q_m V K b n p' (q_E S x).1 ((q_E S x).2 :: T) 0 ∧ q_g M J V K
def q_MW (ro : xv_Ro) (b : Nat → Nat) (n p o w : Nat) : q_R → Prop
  | .inl (f, q) => ∀ (x1 x2 : Int32) (M : Nat → Nat → Int32) (J : Nat → Nat → Int64) (S : List Nat) (T : List Int32), q_m M J b n p S T 1 → op_c S = o → q_hd w S → q_B ro x1 x2 M J f q
  | .inr (x, p') => (∀ (x1 x2 : Int32) (M : Nat → Nat → Int32) (J : Nat → Nat → Int64) (S : List Nat) (T : List Int32), q_m M J b n p S T 1 → op_c S = o → q_hd w S → ∃ V K S1 T1, q_H ro x1 x2 M J = q_H ro x1 x2 V K ∧ q_m V K b n p' S1 T1 0 ∧ q_J w S1 T1 = some (S, x :: T) ∧ q_g M J V K) ∧ q_ex w b n p'
def q_ML (ro : xv_Ro) (b : Nat → Nat) (n p o w : Nat) (acc : Int32) : q_R → Prop
  | .inl (f, q) => ∀ (x1 x2 : Int32) (M : Nat → Nat → Int32) (J : Nat → Nat → Int64) (S : List Nat) (T : List Int32) (S0 : List Nat) (T0 : List Int32), q_m M J b n p S0 T0 0 → q_J w S0 T0 = some (S, acc :: T) → op_c S = o → q_hd w S → q_B ro x1 x2 M J f q
  | .inr (x, p') => (∀ (x1 x2 : Int32) (M : Nat → Nat → Int32) (J : Nat → Nat → Int64) (S : List Nat) (T : List Int32) (S0 : List Nat) (T0 : List Int32), q_m M J b n p S0 T0 0 → q_J w S0 T0 = some (S, acc :: T) → op_c S = o → q_hd w S → ∃ V K S1 T1, q_H ro x1 x2 M J = q_H ro x1 x2 V K ∧ q_m V K b n p' S1 T1 0 ∧ q_J w S1 T1 = some (S, x :: T) ∧ q_g M J V K) ∧ q_ex w b n p'
def q_lv (ro : xv_Ro) (kk w rq : Nat) (b : Nat → Nat) (n K : Nat) : Prop := ∀ (p o : Nat) (I : Nat → Nat → Int32) (J : Nat → Nat → Int64) (d : Nat), n - p < K → o ≤ 6 → tp_C b n p I → rq + 5 * (6 - o) ≤ d → ∃ (r : q_R) (v : Int32) (W : Nat → Nat → Int32), xv_evm ro d kk [.ref 1, .int (nI o)] (xv_SZ, xv_mk I J) = some (some (.int v), (xv_SZ, xv_mk W J)) ∧ q_C b n (p + 1) I W v r ∧ q_MW ro b n p o w r
def q_pl (ro : xv_Ro) (b : Nat → Nat) (n K : Nat) : Prop := ∀ (p o : Nat) (I : Nat → Nat → Int32) (J : Nat → Nat → Int64) (d : Nat), n - p < K → o ≤ 6 → tp_C b n p I → 4 + 5 * (6 - o) ≤ d → ∃ (r : q_R) (v : Int32) (W : Nat → Nat → Int32), xv_evm ro d 231 [.ref 1, .int (nI o)] (xv_SZ, xv_mk I J) = some (some (.int v), (xv_SZ, xv_mk W J)) ∧ q_C b n (p + 1) I W v r ∧ q_MP ro b n p o r
theorem q_Jh {w : Nat} {S : List Nat} (h : q_hd w S) (T : List Int32) : q_J w S T = some (S, T) := by
  cases S with
  | nil => rfl
  | cons s S =>
    obtain ⟨h1, -⟩ := h s S rfl
    unfold q_J
    rw [if_neg (by omega)]
theorem q_Eh {w : Nat} {S : List Nat} (h : q_hd w S) (x : Int32) : q_E S x = (S, x) := by
  cases S with
  | nil => rfl
  | cons s S =>
    obtain ⟨-, h1⟩ := h s S rfl
    exact if_neg h1
theorem q_Jc {w' w : Nat} (hw : w' ≤ w) : ∀ (S : List Nat) (T : List Int32) (S1 : List Nat) (T1 : List Int32), q_J w' S T = some (S1, T1) → q_J w S T = q_J w S1 T1 := by
  intro S
  induction S with
  | nil => intro T S1 T1 h; cases h; rfl
  | cons s S ih =>
    intro T S1 T1 h
    unfold q_J at h
    by_cases c : 30 ≤ s ∧ s ≤ w'
    · rw [if_pos c] at h
      match T, h with
      | [], h => cases h
      | [a], h => cases h
      | b :: a :: T, h =>
        dsimp only at h
        rw [← ih _ _ _ h]
        conv => lhs; unfold q_J
        rw [if_pos (by omega)]
    · rw [if_neg c] at h
      cases h
      rfl
theorem q_Jo {w : Nat} {S : List Nat} {T : List Int32} {x y : Int32} (hw : 30 ≤ w) (h : q_hd w S) : q_J w (w :: S) (y :: x :: T) = some (S, q_op w x y :: T) := by
  unfold q_J
  rw [if_pos ⟨hw, Nat.le_refl _⟩]
  exact q_Jh h _
theorem q_lv29 {ro : xv_Ro} {b : Nat → Nat} {n K : Nat} (h : q_pl ro b n K) : q_lv ro 231 29 4 b n K := by
  intro p o I J d h1 h2 h3 h4
  obtain ⟨r, v, W, k1, k2, k3⟩ := h p o I J d h1 h2 h3 h4
  refine ⟨r, v, W, k1, k2, ?_⟩
  match r, k3 with
  | .inl (f, q), k3 => exact fun x1 x2 M J S T hm ho _ => k3 x1 x2 M J S T hm ho
  | .inr (x, p'), k3 =>
    refine ⟨fun x1 x2 M J S T hm ho hh => ?_, fun _ => ⟨fun q => by omega, fun q => by omega, fun q => by omega⟩⟩
    obtain ⟨V, K, l1, l2, l3⟩ := k3 x1 x2 M J S T hm ho
    rw [q_Eh hh x] at l2
    exact ⟨V, K, S, x :: T, l1, l2, q_Jh hh _, l3⟩
theorem q_d_pieces (ro : xv_Ro) (e : Nat) (z : Nat × Nat) (I : Nat → Nat → Int32) (J : Nat → Nat → Int64) (x2 acc : Int32) {i : Nat} (hi : i ≤ 61) (h : (I 1 4 = 0) = False) : xv_ev ro (e + 2) xm_Questions_pieces xb_Questions_pieces_8 [some (.ref 1), some (.int x2), some (.int acc), some (.int (nI i))] [] (z, xv_mk I J) = some (some (.int acc), (z, xv_mk I J)) := by
  have ht := xq_take_x ro e z I J (c := 38) h (by omega)
  rw [show nI 38 = (38 : Int32) from rfl] at ht
  conv => lhs; unfold xb_Questions_pieces_8
  by_cases c : i < 60
  · have g : (60 ≤ nI i) = False := by (simp (disch := omega) only [vz_all, if_true, if_false, true_or, or_true, eq_self, ite_not, Bool.false_eq_true, ite_self, and_self, true_and, and_true, false_and, and_false, not_true_eq_false, not_false_eq_true, false_or, or_false])
    simp only [xr_all, xf_all, if_true, if_false, true_or, or_true, eq_self, ite_not, Bool.false_eq_true, ite_self, and_self, true_and, and_true, false_and, and_false, not_true_eq_false, not_false_eq_true, xj_Questions_pieces, xb_Questions_pieces_0, xb_Questions_pieces_37, g, ht]
  · have g : (60 ≤ nI i) = True := by (simp (disch := omega) only [vz_all, if_true, if_false, true_or, or_true, eq_self, ite_not, Bool.false_eq_true, ite_self, and_self, true_and, and_true, false_and, and_false, not_true_eq_false, not_false_eq_true, false_or, or_false])
    simp only [xr_all, xf_all, if_true, if_false, true_or, or_true, eq_self, ite_not, Bool.false_eq_true, ite_self, and_self, true_and, and_true, false_and, and_false, not_true_eq_false, not_false_eq_true, xj_Questions_pieces, xb_Questions_pieces_0, xb_Questions_pieces_37, g]
theorem q_lp_pieces {ro : xv_Ro} {b : Nat → Nat} {n K : Nat} (hn : n ≤ 60) (hY : q_lv ro 231 29 4 b n K) : ∀ (k p i o : Nat) (acc : Int32) (I : Nat → Nat → Int32) (J : Nat → Nat → Int64) (e : Nat), n - p < k → i ≤ p → k ≤ K → o ≤ 6 → tp_C b n p I → 4 + 5 * (6 - o) ≤ e + 1 → q_ex 29 b n p → ∃ (r : q_R) (v : Int32) (W : Nat → Nat → Int32), xv_ev ro (e + 2) xm_Questions_pieces xb_Questions_pieces_8 [some (.ref 1), some (.int (nI o)), some (.int acc), some (.int (nI i))] [] (xv_SZ, xv_mk I J) = some (some (.int v), (xv_SZ, xv_mk W J)) ∧ q_C b n p I W v r ∧ q_ML ro b n p o 30 acc r := by
  intro k
  induction k with
  | zero => intro p i o acc I J e hk; omega
  | succ k ih =>
    intro p i o acc I J e hk hi hkK ho hC he hex
    have hpn := hC.2.1
    have z1 : ((1 : Int32) = 0) = False := eq_false (by decide)
    have ht := xq_take ro e xv_SZ I J (c := 38) hC (by omega)
    rw [show nI 38 = (38 : Int32) from rfl] at ht
    by_cases c : p < n ∧ b p = 38
    · rw [if_pos c] at ht
      have gi : (60 ≤ nI i) = False := by (simp (disch := omega) only [vz_all, if_true, if_false, true_or, or_true, eq_self, ite_not, Bool.false_eq_true, ite_self, and_self, true_and, and_true, false_and, and_false, not_true_eq_false, not_false_eq_true, false_or, or_false])
      have hC1 := tp_Cs hC c.1
      obtain ⟨r1, v1, W1, k1, k2, k3⟩ := hY (p + 1) o _ J (e + 1) (by omega) ho hC1 he
      have cls : xv_ev ro (e + 2) xm_Questions_pieces xb_Questions_pieces_8 [some (.ref 1), some (.int (nI o)), some (.int acc), some (.int (nI i))] [] (xv_SZ, xv_mk I J) = xv_ev ro (e + 2) xm_Questions_pieces xb_Questions_pieces_8 [some (.ref 1), some (.int (nI o)), some (.int (acc &&& v1)), some (.int (nI (i + 1)))] [] (xv_SZ, xv_mk W1 J) := by
        conv => lhs; unfold xb_Questions_pieces_8
        simp only [xr_all, xf_all, if_true, if_false, true_or, or_true, eq_self, ite_not, Bool.false_eq_true, ite_self, and_self, true_and, and_true, false_and, and_false, not_true_eq_false, not_false_eq_true, xj_Questions_pieces, xb_Questions_pieces_0, xb_Questions_pieces_37, gi, ht, z1, k1, nI_1]
      have opc : ∀ S : List Nat, op_c (30 :: S) = op_c S := fun S => by
        show (if 30 = 33 ∨ 30 = 90 then 1 else 0) + op_c S = _
        rw [if_neg (by omega), Nat.zero_add]
      have hdc : ∀ S : List Nat, q_hd 29 (30 :: S) := fun S s S' q => by
        cases q; exact ⟨by omega, by omega⟩
      match r1, k2, k3 with
      | .inl (f, q), k2, k3 =>
        obtain ⟨a1, a2, a3, a4, a5⟩ := k2
        have hd : (W1 1 4 = 0) = False := by rw [a5]; exact tp_f f a1 a2 a3
        refine ⟨.inl (f, q), acc &&& v1, W1, cls.trans (q_d_pieces ro e xv_SZ W1 J (nI o) _ (by omega) hd), ⟨a1, a2, a3, tl_frt (tl_fr3 I _) a4, a5⟩, fun x1 x2 M JM S T S0 T0 hm hj hop hhd => ?_⟩
        obtain ⟨V, L, s1, s2, s3⟩ := q_sP (ro := ro) (x1 := x1) (x2 := x2) (w := 30) hn hm c.1 (by omega) hj
        obtain ⟨V2, L2, t1, t2⟩ := k3 x1 x2 V L (30 :: S) _ s2 (by rw [opc]; exact hop) (hdc S)
        exact ⟨V2, L2, s1.trans t1, q_gt s3 t2⟩
      | .inr (y, p2), k2, k3 =>
        obtain ⟨a1, a2, a3, a4⟩ := k2
        subst a1
        obtain ⟨r, v, W, l1, l2, l3⟩ := ih p2 (i + 1) o (acc &&& v1) W1 J e (by have := a3.2.1; omega) (by omega) (by omega) ho a3 he k3.2
        refine ⟨r, v, W, cls.trans l1, q_Ct (tl_frt (tl_fr3 I _) a4) (by omega) l2, ?_⟩
        have step : ∀ (x1 x2 : Int32) (M : Nat → Nat → Int32) (JM : Nat → Nat → Int64) (S : List Nat) (T : List Int32) (S0 : List Nat) (T0 : List Int32), q_m M JM b n p S0 T0 0 → q_J 30 S0 T0 = some (S, acc :: T) → op_c S = o → q_hd 30 S → ∃ V L S1 T1, q_H ro x1 x2 M JM = q_H ro x1 x2 V L ∧ q_m V L b n p2 S1 T1 0 ∧ q_J 30 S1 T1 = some (S, (acc &&& v1) :: T) ∧ q_g M JM V L := by
          intro x1 x2 M JM S T S0 T0 hm hj hop hhd
          obtain ⟨V, L, s1, s2, s3⟩ := q_sP (ro := ro) (x1 := x1) (x2 := x2) (w := 30) hn hm c.1 (by omega) hj
          obtain ⟨V2, L2, S1, T1, t1, t2, t3, t4⟩ := k3.1 x1 x2 V L (30 :: S) _ s2 (by rw [opc]; exact hop) (hdc S)
          refine ⟨V2, L2, S1, T1, s1.trans t1, t2, ?_, q_gt s3 t4⟩
          rw [q_Jc (show 29 ≤ 30 by omega) _ _ _ _ t3, q_Jo (by omega) hhd]
          rfl
        match r, l3 with
        | .inl (f, q), l3 =>
          intro x1 x2 M JM S T S0 T0 hm hj hop hhd
          obtain ⟨V, L, S1, T1, s1, s2, s3, s4⟩ := step x1 x2 M JM S T S0 T0 hm hj hop hhd
          obtain ⟨V2, L2, t1, t2⟩ := l3 x1 x2 V L S T S1 T1 s2 s3 hop hhd
          exact ⟨V2, L2, s1.trans t1, q_gt s4 t2⟩
        | .inr (x, p'), l3 =>
          refine ⟨fun x1 x2 M JM S T S0 T0 hm hj hop hhd => ?_, l3.2⟩
          obtain ⟨V, L, S1, T1, s1, s2, s3, s4⟩ := step x1 x2 M JM S T S0 T0 hm hj hop hhd
          obtain ⟨V2, L2, S2, T2, t1, t2, t3, t4⟩ := l3.1 x1 x2 V L S T S1 T1 s2 s3 hop hhd
          exact ⟨V2, L2, S2, T2, s1.trans t1, t2, t3, q_gt s4 t4⟩
    · rw [if_neg c] at ht
      refine ⟨.inr (acc, p), acc, I, ?_, ⟨rfl, Nat.le_refl _, hC, tl_frr I⟩, fun x1 x2 M JM S T S0 T0 hm hj hop hhd => ⟨M, JM, S0, T0, rfl, hm, hj, q_gr M JM⟩, fun hp => ?_⟩
      · conv => lhs; unfold xb_Questions_pieces_8
        by_cases ci : i < 60
        · have g : (60 ≤ nI i) = False := by (simp (disch := omega) only [vz_all, if_true, if_false, true_or, or_true, eq_self, ite_not, Bool.false_eq_true, ite_self, and_self, true_and, and_true, false_and, and_false, not_true_eq_false, not_false_eq_true, false_or, or_false])
          simp only [xr_all, xf_all, if_true, if_false, true_or, or_true, eq_self, ite_not, Bool.false_eq_true, ite_self, and_self, true_and, and_true, false_and, and_false, not_true_eq_false, not_false_eq_true, xj_Questions_pieces, xb_Questions_pieces_0, xb_Questions_pieces_37, g, ht]
        · have g : (60 ≤ nI i) = True := by (simp (disch := omega) only [vz_all, if_true, if_false, true_or, or_true, eq_self, ite_not, Bool.false_eq_true, ite_self, and_self, true_and, and_true, false_and, and_false, not_true_eq_false, not_false_eq_true, false_or, or_false])
          simp only [xr_all, xf_all, if_true, if_false, true_or, or_true, eq_self, ite_not, Bool.false_eq_true, ite_self, and_self, true_and, and_true, false_and, and_false, not_true_eq_false, not_false_eq_true, xj_Questions_pieces, xb_Questions_pieces_0, xb_Questions_pieces_37, g]
      · obtain ⟨e1, e2, e3⟩ := hex hp
        have e4 : b p ≠ 38 := fun q => c ⟨hp, q⟩
        refine ⟨fun _ => ?_, fun q => ?_, fun q => ?_⟩
        · exact e4
        · omega
        · omega
theorem q_lv_pieces {ro : xv_Ro} {b : Nat → Nat} {n K : Nat} (hn : n ≤ 60) (hY : q_lv ro 231 29 4 b n K) : q_lv ro 230 30 5 b n K := by
  intro p o I J d hk ho hC hd
  obtain ⟨e, rfl⟩ : ∃ e, d = e + 2 := ⟨d - 2, by omega⟩
  have hpn := hC.2.1
  obtain ⟨r1, v1, W1, k1, k2, k3⟩ := hY p o I J (e + 1) hk ho hC (by omega)
  have cls : xv_evm ro (e + 2) 230 [.ref 1, .int (nI o)] (xv_SZ, xv_mk I J) = xv_ev ro (e + 2) xm_Questions_pieces xb_Questions_pieces_8 [some (.ref 1), some (.int (nI o)), some (.int v1), some (.int (nI 0))] [] (xv_SZ, xv_mk W1 J) := by
    rw [xe_Questions_pieces, show nI 0 = (0 : Int32) from rfl]
    simp only [xr_all, xf_all, if_true, if_false, true_or, or_true, eq_self, ite_not, Bool.false_eq_true, ite_self, and_self, true_and, and_true, false_and, and_false, not_true_eq_false, not_false_eq_true, xj_Questions_pieces, xb_Questions_pieces_0, xb_Questions_pieces_37, k1]
  match r1, k2, k3 with
  | .inl (f, q), k2, k3 =>
    obtain ⟨a1, a2, a3, a4, a5⟩ := k2
    have hd : (W1 1 4 = 0) = False := by rw [a5]; exact tp_f f a1 a2 a3
    exact ⟨.inl (f, q), v1, W1, cls.trans (q_d_pieces ro e xv_SZ W1 J (nI o) v1 (by omega) hd), ⟨a1, a2, a3, a4, a5⟩, fun x1 x2 M JM S T hm hop hhd => k3 x1 x2 M JM S T hm hop (fun s S' q => by obtain ⟨q1, q2⟩ := hhd s S' q; exact ⟨by omega, q2⟩)⟩
  | .inr (y, p2), k2, k3 =>
    obtain ⟨a1, a2, a3, a4⟩ := k2
    subst a1
    obtain ⟨r, v, W, l1, l2, l3⟩ := q_lp_pieces hn hY K p2 0 o v1 W1 J e (by have := a3.2.1; omega) (by omega) (Nat.le_refl _) ho a3 (by omega) k3.2
    refine ⟨r, v, W, cls.trans l1, q_Ct a4 a2 l2, ?_⟩
    have step : ∀ (x1 x2 : Int32) (M : Nat → Nat → Int32) (JM : Nat → Nat → Int64) (S : List Nat) (T : List Int32), q_m M JM b n p S T 1 → op_c S = o → q_hd 30 S → ∃ V L S1 T1, q_H ro x1 x2 M JM = q_H ro x1 x2 V L ∧ q_m V L b n p2 S1 T1 0 ∧ q_J 30 S1 T1 = some (S, v1 :: T) ∧ q_g M JM V L := by
      intro x1 x2 M JM S T hm hop hhd
      obtain ⟨V2, L2, S1, T1, t1, t2, t3, t4⟩ := k3.1 x1 x2 M JM S T hm hop (fun s S' q => by obtain ⟨q1, q2⟩ := hhd s S' q; exact ⟨by omega, q2⟩)
      refine ⟨V2, L2, S1, T1, t1, t2, ?_, t4⟩
      rw [q_Jc (show 29 ≤ 30 by omega) _ _ _ _ t3, q_Jh hhd]
    match r, l3 with
    | .inl (f, q), l3 =>
      intro x1 x2 M JM S T hm hop hhd
      obtain ⟨V, L, S1, T1, s1, s2, s3, s4⟩ := step x1 x2 M JM S T hm hop hhd
      obtain ⟨V2, L2, t1, t2⟩ := l3 x1 x2 V L S T S1 T1 s2 s3 hop hhd
      exact ⟨V2, L2, s1.trans t1, q_gt s4 t2⟩
    | .inr (x, p'), l3 =>
      refine ⟨fun x1 x2 M JM S T hm hop hhd => ?_, l3.2⟩
      obtain ⟨V, L, S1, T1, s1, s2, s3, s4⟩ := step x1 x2 M JM S T hm hop hhd
      obtain ⟨V2, L2, S2, T2, t1, t2, t3, t4⟩ := l3.1 x1 x2 V L S T S1 T1 s2 s3 hop hhd
      exact ⟨V2, L2, S2, T2, s1.trans t1, t2, t3, q_gt s4 t4⟩
theorem q_d_odds (ro : xv_Ro) (e : Nat) (z : Nat × Nat) (I : Nat → Nat → Int32) (J : Nat → Nat → Int64) (x2 acc : Int32) {i : Nat} (hi : i ≤ 61) (h : (I 1 4 = 0) = False) : xv_ev ro (e + 2) xm_Questions_odds xb_Questions_odds_8 [some (.ref 1), some (.int x2), some (.int acc), some (.int (nI i))] [] (z, xv_mk I J) = some (some (.int acc), (z, xv_mk I J)) := by
  have ht := xq_take_x ro e z I J (c := 94) h (by omega)
  rw [show nI 94 = (94 : Int32) from rfl] at ht
  conv => lhs; unfold xb_Questions_odds_8
  by_cases c : i < 60
  · have g : (60 ≤ nI i) = False := by (simp (disch := omega) only [vz_all, if_true, if_false, true_or, or_true, eq_self, ite_not, Bool.false_eq_true, ite_self, and_self, true_and, and_true, false_and, and_false, not_true_eq_false, not_false_eq_true, false_or, or_false])
    simp only [xr_all, xf_all, if_true, if_false, true_or, or_true, eq_self, ite_not, Bool.false_eq_true, ite_self, and_self, true_and, and_true, false_and, and_false, not_true_eq_false, not_false_eq_true, xj_Questions_odds, xb_Questions_odds_0, xb_Questions_odds_37, g, ht]
  · have g : (60 ≤ nI i) = True := by (simp (disch := omega) only [vz_all, if_true, if_false, true_or, or_true, eq_self, ite_not, Bool.false_eq_true, ite_self, and_self, true_and, and_true, false_and, and_false, not_true_eq_false, not_false_eq_true, false_or, or_false])
    simp only [xr_all, xf_all, if_true, if_false, true_or, or_true, eq_self, ite_not, Bool.false_eq_true, ite_self, and_self, true_and, and_true, false_and, and_false, not_true_eq_false, not_false_eq_true, xj_Questions_odds, xb_Questions_odds_0, xb_Questions_odds_37, g]
theorem q_lp_odds {ro : xv_Ro} {b : Nat → Nat} {n K : Nat} (hn : n ≤ 60) (hY : q_lv ro 230 30 5 b n K) : ∀ (k p i o : Nat) (acc : Int32) (I : Nat → Nat → Int32) (J : Nat → Nat → Int64) (e : Nat), n - p < k → i ≤ p → k ≤ K → o ≤ 6 → tp_C b n p I → 5 + 5 * (6 - o) ≤ e + 1 → q_ex 30 b n p → ∃ (r : q_R) (v : Int32) (W : Nat → Nat → Int32), xv_ev ro (e + 2) xm_Questions_odds xb_Questions_odds_8 [some (.ref 1), some (.int (nI o)), some (.int acc), some (.int (nI i))] [] (xv_SZ, xv_mk I J) = some (some (.int v), (xv_SZ, xv_mk W J)) ∧ q_C b n p I W v r ∧ q_ML ro b n p o 31 acc r := by
  intro k
  induction k with
  | zero => intro p i o acc I J e hk; omega
  | succ k ih =>
    intro p i o acc I J e hk hi hkK ho hC he hex
    have hpn := hC.2.1
    have z1 : ((1 : Int32) = 0) = False := eq_false (by decide)
    have ht := xq_take ro e xv_SZ I J (c := 94) hC (by omega)
    rw [show nI 94 = (94 : Int32) from rfl] at ht
    by_cases c : p < n ∧ b p = 94
    · rw [if_pos c] at ht
      have gi : (60 ≤ nI i) = False := by (simp (disch := omega) only [vz_all, if_true, if_false, true_or, or_true, eq_self, ite_not, Bool.false_eq_true, ite_self, and_self, true_and, and_true, false_and, and_false, not_true_eq_false, not_false_eq_true, false_or, or_false])
      have hC1 := tp_Cs hC c.1
      obtain ⟨r1, v1, W1, k1, k2, k3⟩ := hY (p + 1) o _ J (e + 1) (by omega) ho hC1 he
      have cls : xv_ev ro (e + 2) xm_Questions_odds xb_Questions_odds_8 [some (.ref 1), some (.int (nI o)), some (.int acc), some (.int (nI i))] [] (xv_SZ, xv_mk I J) = xv_ev ro (e + 2) xm_Questions_odds xb_Questions_odds_8 [some (.ref 1), some (.int (nI o)), some (.int (acc ^^^ v1)), some (.int (nI (i + 1)))] [] (xv_SZ, xv_mk W1 J) := by
        conv => lhs; unfold xb_Questions_odds_8
        simp only [xr_all, xf_all, if_true, if_false, true_or, or_true, eq_self, ite_not, Bool.false_eq_true, ite_self, and_self, true_and, and_true, false_and, and_false, not_true_eq_false, not_false_eq_true, xj_Questions_odds, xb_Questions_odds_0, xb_Questions_odds_37, gi, ht, z1, k1, nI_1]
      have opc : ∀ S : List Nat, op_c (31 :: S) = op_c S := fun S => by
        show (if 31 = 33 ∨ 31 = 90 then 1 else 0) + op_c S = _
        rw [if_neg (by omega), Nat.zero_add]
      have hdc : ∀ S : List Nat, q_hd 30 (31 :: S) := fun S s S' q => by
        cases q; exact ⟨by omega, by omega⟩
      match r1, k2, k3 with
      | .inl (f, q), k2, k3 =>
        obtain ⟨a1, a2, a3, a4, a5⟩ := k2
        have hd : (W1 1 4 = 0) = False := by rw [a5]; exact tp_f f a1 a2 a3
        refine ⟨.inl (f, q), acc ^^^ v1, W1, cls.trans (q_d_odds ro e xv_SZ W1 J (nI o) _ (by omega) hd), ⟨a1, a2, a3, tl_frt (tl_fr3 I _) a4, a5⟩, fun x1 x2 M JM S T S0 T0 hm hj hop hhd => ?_⟩
        obtain ⟨V, L, s1, s2, s3⟩ := q_sP (ro := ro) (x1 := x1) (x2 := x2) (w := 31) hn hm c.1 (by omega) hj
        obtain ⟨V2, L2, t1, t2⟩ := k3 x1 x2 V L (31 :: S) _ s2 (by rw [opc]; exact hop) (hdc S)
        exact ⟨V2, L2, s1.trans t1, q_gt s3 t2⟩
      | .inr (y, p2), k2, k3 =>
        obtain ⟨a1, a2, a3, a4⟩ := k2
        subst a1
        obtain ⟨r, v, W, l1, l2, l3⟩ := ih p2 (i + 1) o (acc ^^^ v1) W1 J e (by have := a3.2.1; omega) (by omega) (by omega) ho a3 he k3.2
        refine ⟨r, v, W, cls.trans l1, q_Ct (tl_frt (tl_fr3 I _) a4) (by omega) l2, ?_⟩
        have step : ∀ (x1 x2 : Int32) (M : Nat → Nat → Int32) (JM : Nat → Nat → Int64) (S : List Nat) (T : List Int32) (S0 : List Nat) (T0 : List Int32), q_m M JM b n p S0 T0 0 → q_J 31 S0 T0 = some (S, acc :: T) → op_c S = o → q_hd 31 S → ∃ V L S1 T1, q_H ro x1 x2 M JM = q_H ro x1 x2 V L ∧ q_m V L b n p2 S1 T1 0 ∧ q_J 31 S1 T1 = some (S, (acc ^^^ v1) :: T) ∧ q_g M JM V L := by
          intro x1 x2 M JM S T S0 T0 hm hj hop hhd
          obtain ⟨V, L, s1, s2, s3⟩ := q_sP (ro := ro) (x1 := x1) (x2 := x2) (w := 31) hn hm c.1 (by omega) hj
          obtain ⟨V2, L2, S1, T1, t1, t2, t3, t4⟩ := k3.1 x1 x2 V L (31 :: S) _ s2 (by rw [opc]; exact hop) (hdc S)
          refine ⟨V2, L2, S1, T1, s1.trans t1, t2, ?_, q_gt s3 t4⟩
          rw [q_Jc (show 30 ≤ 31 by omega) _ _ _ _ t3, q_Jo (by omega) hhd]
          rfl
        match r, l3 with
        | .inl (f, q), l3 =>
          intro x1 x2 M JM S T S0 T0 hm hj hop hhd
          obtain ⟨V, L, S1, T1, s1, s2, s3, s4⟩ := step x1 x2 M JM S T S0 T0 hm hj hop hhd
          obtain ⟨V2, L2, t1, t2⟩ := l3 x1 x2 V L S T S1 T1 s2 s3 hop hhd
          exact ⟨V2, L2, s1.trans t1, q_gt s4 t2⟩
        | .inr (x, p'), l3 =>
          refine ⟨fun x1 x2 M JM S T S0 T0 hm hj hop hhd => ?_, l3.2⟩
          obtain ⟨V, L, S1, T1, s1, s2, s3, s4⟩ := step x1 x2 M JM S T S0 T0 hm hj hop hhd
          obtain ⟨V2, L2, S2, T2, t1, t2, t3, t4⟩ := l3.1 x1 x2 V L S T S1 T1 s2 s3 hop hhd
          exact ⟨V2, L2, S2, T2, s1.trans t1, t2, t3, q_gt s4 t4⟩
    · rw [if_neg c] at ht
      refine ⟨.inr (acc, p), acc, I, ?_, ⟨rfl, Nat.le_refl _, hC, tl_frr I⟩, fun x1 x2 M JM S T S0 T0 hm hj hop hhd => ⟨M, JM, S0, T0, rfl, hm, hj, q_gr M JM⟩, fun hp => ?_⟩
      · conv => lhs; unfold xb_Questions_odds_8
        by_cases ci : i < 60
        · have g : (60 ≤ nI i) = False := by (simp (disch := omega) only [vz_all, if_true, if_false, true_or, or_true, eq_self, ite_not, Bool.false_eq_true, ite_self, and_self, true_and, and_true, false_and, and_false, not_true_eq_false, not_false_eq_true, false_or, or_false])
          simp only [xr_all, xf_all, if_true, if_false, true_or, or_true, eq_self, ite_not, Bool.false_eq_true, ite_self, and_self, true_and, and_true, false_and, and_false, not_true_eq_false, not_false_eq_true, xj_Questions_odds, xb_Questions_odds_0, xb_Questions_odds_37, g, ht]
        · have g : (60 ≤ nI i) = True := by (simp (disch := omega) only [vz_all, if_true, if_false, true_or, or_true, eq_self, ite_not, Bool.false_eq_true, ite_self, and_self, true_and, and_true, false_and, and_false, not_true_eq_false, not_false_eq_true, false_or, or_false])
          simp only [xr_all, xf_all, if_true, if_false, true_or, or_true, eq_self, ite_not, Bool.false_eq_true, ite_self, and_self, true_and, and_true, false_and, and_false, not_true_eq_false, not_false_eq_true, xj_Questions_odds, xb_Questions_odds_0, xb_Questions_odds_37, g]
      · obtain ⟨e1, e2, e3⟩ := hex hp
        have e4 : b p ≠ 94 := fun q => c ⟨hp, q⟩
        refine ⟨fun _ => ?_, fun q => ?_, fun q => ?_⟩
        · exact e1 (by omega)
        · exact e4
        · omega
theorem q_lv_odds {ro : xv_Ro} {b : Nat → Nat} {n K : Nat} (hn : n ≤ 60) (hY : q_lv ro 230 30 5 b n K) : q_lv ro 229 31 6 b n K := by
  intro p o I J d hk ho hC hd
  obtain ⟨e, rfl⟩ : ∃ e, d = e + 2 := ⟨d - 2, by omega⟩
  have hpn := hC.2.1
  obtain ⟨r1, v1, W1, k1, k2, k3⟩ := hY p o I J (e + 1) hk ho hC (by omega)
  have cls : xv_evm ro (e + 2) 229 [.ref 1, .int (nI o)] (xv_SZ, xv_mk I J) = xv_ev ro (e + 2) xm_Questions_odds xb_Questions_odds_8 [some (.ref 1), some (.int (nI o)), some (.int v1), some (.int (nI 0))] [] (xv_SZ, xv_mk W1 J) := by
    rw [xe_Questions_odds, show nI 0 = (0 : Int32) from rfl]
    simp only [xr_all, xf_all, if_true, if_false, true_or, or_true, eq_self, ite_not, Bool.false_eq_true, ite_self, and_self, true_and, and_true, false_and, and_false, not_true_eq_false, not_false_eq_true, xj_Questions_odds, xb_Questions_odds_0, xb_Questions_odds_37, k1]
  match r1, k2, k3 with
  | .inl (f, q), k2, k3 =>
    obtain ⟨a1, a2, a3, a4, a5⟩ := k2
    have hd : (W1 1 4 = 0) = False := by rw [a5]; exact tp_f f a1 a2 a3
    exact ⟨.inl (f, q), v1, W1, cls.trans (q_d_odds ro e xv_SZ W1 J (nI o) v1 (by omega) hd), ⟨a1, a2, a3, a4, a5⟩, fun x1 x2 M JM S T hm hop hhd => k3 x1 x2 M JM S T hm hop (fun s S' q => by obtain ⟨q1, q2⟩ := hhd s S' q; exact ⟨by omega, q2⟩)⟩
  | .inr (y, p2), k2, k3 =>
    obtain ⟨a1, a2, a3, a4⟩ := k2
    subst a1
    obtain ⟨r, v, W, l1, l2, l3⟩ := q_lp_odds hn hY K p2 0 o v1 W1 J e (by have := a3.2.1; omega) (by omega) (Nat.le_refl _) ho a3 (by omega) k3.2
    refine ⟨r, v, W, cls.trans l1, q_Ct a4 a2 l2, ?_⟩
    have step : ∀ (x1 x2 : Int32) (M : Nat → Nat → Int32) (JM : Nat → Nat → Int64) (S : List Nat) (T : List Int32), q_m M JM b n p S T 1 → op_c S = o → q_hd 31 S → ∃ V L S1 T1, q_H ro x1 x2 M JM = q_H ro x1 x2 V L ∧ q_m V L b n p2 S1 T1 0 ∧ q_J 31 S1 T1 = some (S, v1 :: T) ∧ q_g M JM V L := by
      intro x1 x2 M JM S T hm hop hhd
      obtain ⟨V2, L2, S1, T1, t1, t2, t3, t4⟩ := k3.1 x1 x2 M JM S T hm hop (fun s S' q => by obtain ⟨q1, q2⟩ := hhd s S' q; exact ⟨by omega, q2⟩)
      refine ⟨V2, L2, S1, T1, t1, t2, ?_, t4⟩
      rw [q_Jc (show 30 ≤ 31 by omega) _ _ _ _ t3, q_Jh hhd]
    match r, l3 with
    | .inl (f, q), l3 =>
      intro x1 x2 M JM S T hm hop hhd
      obtain ⟨V, L, S1, T1, s1, s2, s3, s4⟩ := step x1 x2 M JM S T hm hop hhd
      obtain ⟨V2, L2, t1, t2⟩ := l3 x1 x2 V L S T S1 T1 s2 s3 hop hhd
      exact ⟨V2, L2, s1.trans t1, q_gt s4 t2⟩
    | .inr (x, p'), l3 =>
      refine ⟨fun x1 x2 M JM S T hm hop hhd => ?_, l3.2⟩
      obtain ⟨V, L, S1, T1, s1, s2, s3, s4⟩ := step x1 x2 M JM S T hm hop hhd
      obtain ⟨V2, L2, S2, T2, t1, t2, t3, t4⟩ := l3.1 x1 x2 V L S T S1 T1 s2 s3 hop hhd
      exact ⟨V2, L2, S2, T2, s1.trans t1, t2, t3, q_gt s4 t4⟩
theorem q_d_sides (ro : xv_Ro) (e : Nat) (z : Nat × Nat) (I : Nat → Nat → Int32) (J : Nat → Nat → Int64) (x2 acc : Int32) {i : Nat} (hi : i ≤ 61) (h : (I 1 4 = 0) = False) : xv_ev ro (e + 2) xm_Questions_sides xb_Questions_sides_8 [some (.ref 1), some (.int x2), some (.int acc), some (.int (nI i))] [] (z, xv_mk I J) = some (some (.int acc), (z, xv_mk I J)) := by
  have ht := xq_take_x ro e z I J (c := 124) h (by omega)
  rw [show nI 124 = (124 : Int32) from rfl] at ht
  conv => lhs; unfold xb_Questions_sides_8
  by_cases c : i < 60
  · have g : (60 ≤ nI i) = False := by (simp (disch := omega) only [vz_all, if_true, if_false, true_or, or_true, eq_self, ite_not, Bool.false_eq_true, ite_self, and_self, true_and, and_true, false_and, and_false, not_true_eq_false, not_false_eq_true, false_or, or_false])
    simp only [xr_all, xf_all, if_true, if_false, true_or, or_true, eq_self, ite_not, Bool.false_eq_true, ite_self, and_self, true_and, and_true, false_and, and_false, not_true_eq_false, not_false_eq_true, xj_Questions_sides, xb_Questions_sides_0, xb_Questions_sides_37, g, ht]
  · have g : (60 ≤ nI i) = True := by (simp (disch := omega) only [vz_all, if_true, if_false, true_or, or_true, eq_self, ite_not, Bool.false_eq_true, ite_self, and_self, true_and, and_true, false_and, and_false, not_true_eq_false, not_false_eq_true, false_or, or_false])
    simp only [xr_all, xf_all, if_true, if_false, true_or, or_true, eq_self, ite_not, Bool.false_eq_true, ite_self, and_self, true_and, and_true, false_and, and_false, not_true_eq_false, not_false_eq_true, xj_Questions_sides, xb_Questions_sides_0, xb_Questions_sides_37, g]
theorem q_lp_sides {ro : xv_Ro} {b : Nat → Nat} {n K : Nat} (hn : n ≤ 60) (hY : q_lv ro 229 31 6 b n K) : ∀ (k p i o : Nat) (acc : Int32) (I : Nat → Nat → Int32) (J : Nat → Nat → Int64) (e : Nat), n - p < k → i ≤ p → k ≤ K → o ≤ 6 → tp_C b n p I → 6 + 5 * (6 - o) ≤ e + 1 → q_ex 31 b n p → ∃ (r : q_R) (v : Int32) (W : Nat → Nat → Int32), xv_ev ro (e + 2) xm_Questions_sides xb_Questions_sides_8 [some (.ref 1), some (.int (nI o)), some (.int acc), some (.int (nI i))] [] (xv_SZ, xv_mk I J) = some (some (.int v), (xv_SZ, xv_mk W J)) ∧ q_C b n p I W v r ∧ q_ML ro b n p o 32 acc r := by
  intro k
  induction k with
  | zero => intro p i o acc I J e hk; omega
  | succ k ih =>
    intro p i o acc I J e hk hi hkK ho hC he hex
    have hpn := hC.2.1
    have z1 : ((1 : Int32) = 0) = False := eq_false (by decide)
    have ht := xq_take ro e xv_SZ I J (c := 124) hC (by omega)
    rw [show nI 124 = (124 : Int32) from rfl] at ht
    by_cases c : p < n ∧ b p = 124
    · rw [if_pos c] at ht
      have gi : (60 ≤ nI i) = False := by (simp (disch := omega) only [vz_all, if_true, if_false, true_or, or_true, eq_self, ite_not, Bool.false_eq_true, ite_self, and_self, true_and, and_true, false_and, and_false, not_true_eq_false, not_false_eq_true, false_or, or_false])
      have hC1 := tp_Cs hC c.1
      obtain ⟨r1, v1, W1, k1, k2, k3⟩ := hY (p + 1) o _ J (e + 1) (by omega) ho hC1 he
      have cls : xv_ev ro (e + 2) xm_Questions_sides xb_Questions_sides_8 [some (.ref 1), some (.int (nI o)), some (.int acc), some (.int (nI i))] [] (xv_SZ, xv_mk I J) = xv_ev ro (e + 2) xm_Questions_sides xb_Questions_sides_8 [some (.ref 1), some (.int (nI o)), some (.int (acc ||| v1)), some (.int (nI (i + 1)))] [] (xv_SZ, xv_mk W1 J) := by
        conv => lhs; unfold xb_Questions_sides_8
        simp only [xr_all, xf_all, if_true, if_false, true_or, or_true, eq_self, ite_not, Bool.false_eq_true, ite_self, and_self, true_and, and_true, false_and, and_false, not_true_eq_false, not_false_eq_true, xj_Questions_sides, xb_Questions_sides_0, xb_Questions_sides_37, gi, ht, z1, k1, nI_1]
      have opc : ∀ S : List Nat, op_c (32 :: S) = op_c S := fun S => by
        show (if 32 = 33 ∨ 32 = 90 then 1 else 0) + op_c S = _
        rw [if_neg (by omega), Nat.zero_add]
      have hdc : ∀ S : List Nat, q_hd 31 (32 :: S) := fun S s S' q => by
        cases q; exact ⟨by omega, by omega⟩
      match r1, k2, k3 with
      | .inl (f, q), k2, k3 =>
        obtain ⟨a1, a2, a3, a4, a5⟩ := k2
        have hd : (W1 1 4 = 0) = False := by rw [a5]; exact tp_f f a1 a2 a3
        refine ⟨.inl (f, q), acc ||| v1, W1, cls.trans (q_d_sides ro e xv_SZ W1 J (nI o) _ (by omega) hd), ⟨a1, a2, a3, tl_frt (tl_fr3 I _) a4, a5⟩, fun x1 x2 M JM S T S0 T0 hm hj hop hhd => ?_⟩
        obtain ⟨V, L, s1, s2, s3⟩ := q_sP (ro := ro) (x1 := x1) (x2 := x2) (w := 32) hn hm c.1 (by omega) hj
        obtain ⟨V2, L2, t1, t2⟩ := k3 x1 x2 V L (32 :: S) _ s2 (by rw [opc]; exact hop) (hdc S)
        exact ⟨V2, L2, s1.trans t1, q_gt s3 t2⟩
      | .inr (y, p2), k2, k3 =>
        obtain ⟨a1, a2, a3, a4⟩ := k2
        subst a1
        obtain ⟨r, v, W, l1, l2, l3⟩ := ih p2 (i + 1) o (acc ||| v1) W1 J e (by have := a3.2.1; omega) (by omega) (by omega) ho a3 he k3.2
        refine ⟨r, v, W, cls.trans l1, q_Ct (tl_frt (tl_fr3 I _) a4) (by omega) l2, ?_⟩
        have step : ∀ (x1 x2 : Int32) (M : Nat → Nat → Int32) (JM : Nat → Nat → Int64) (S : List Nat) (T : List Int32) (S0 : List Nat) (T0 : List Int32), q_m M JM b n p S0 T0 0 → q_J 32 S0 T0 = some (S, acc :: T) → op_c S = o → q_hd 32 S → ∃ V L S1 T1, q_H ro x1 x2 M JM = q_H ro x1 x2 V L ∧ q_m V L b n p2 S1 T1 0 ∧ q_J 32 S1 T1 = some (S, (acc ||| v1) :: T) ∧ q_g M JM V L := by
          intro x1 x2 M JM S T S0 T0 hm hj hop hhd
          obtain ⟨V, L, s1, s2, s3⟩ := q_sP (ro := ro) (x1 := x1) (x2 := x2) (w := 32) hn hm c.1 (by omega) hj
          obtain ⟨V2, L2, S1, T1, t1, t2, t3, t4⟩ := k3.1 x1 x2 V L (32 :: S) _ s2 (by rw [opc]; exact hop) (hdc S)
          refine ⟨V2, L2, S1, T1, s1.trans t1, t2, ?_, q_gt s3 t4⟩
          rw [q_Jc (show 31 ≤ 32 by omega) _ _ _ _ t3, q_Jo (by omega) hhd]
          rfl
        match r, l3 with
        | .inl (f, q), l3 =>
          intro x1 x2 M JM S T S0 T0 hm hj hop hhd
          obtain ⟨V, L, S1, T1, s1, s2, s3, s4⟩ := step x1 x2 M JM S T S0 T0 hm hj hop hhd
          obtain ⟨V2, L2, t1, t2⟩ := l3 x1 x2 V L S T S1 T1 s2 s3 hop hhd
          exact ⟨V2, L2, s1.trans t1, q_gt s4 t2⟩
        | .inr (x, p'), l3 =>
          refine ⟨fun x1 x2 M JM S T S0 T0 hm hj hop hhd => ?_, l3.2⟩
          obtain ⟨V, L, S1, T1, s1, s2, s3, s4⟩ := step x1 x2 M JM S T S0 T0 hm hj hop hhd
          obtain ⟨V2, L2, S2, T2, t1, t2, t3, t4⟩ := l3.1 x1 x2 V L S T S1 T1 s2 s3 hop hhd
          exact ⟨V2, L2, S2, T2, s1.trans t1, t2, t3, q_gt s4 t4⟩
    · rw [if_neg c] at ht
      refine ⟨.inr (acc, p), acc, I, ?_, ⟨rfl, Nat.le_refl _, hC, tl_frr I⟩, fun x1 x2 M JM S T S0 T0 hm hj hop hhd => ⟨M, JM, S0, T0, rfl, hm, hj, q_gr M JM⟩, fun hp => ?_⟩
      · conv => lhs; unfold xb_Questions_sides_8
        by_cases ci : i < 60
        · have g : (60 ≤ nI i) = False := by (simp (disch := omega) only [vz_all, if_true, if_false, true_or, or_true, eq_self, ite_not, Bool.false_eq_true, ite_self, and_self, true_and, and_true, false_and, and_false, not_true_eq_false, not_false_eq_true, false_or, or_false])
          simp only [xr_all, xf_all, if_true, if_false, true_or, or_true, eq_self, ite_not, Bool.false_eq_true, ite_self, and_self, true_and, and_true, false_and, and_false, not_true_eq_false, not_false_eq_true, xj_Questions_sides, xb_Questions_sides_0, xb_Questions_sides_37, g, ht]
        · have g : (60 ≤ nI i) = True := by (simp (disch := omega) only [vz_all, if_true, if_false, true_or, or_true, eq_self, ite_not, Bool.false_eq_true, ite_self, and_self, true_and, and_true, false_and, and_false, not_true_eq_false, not_false_eq_true, false_or, or_false])
          simp only [xr_all, xf_all, if_true, if_false, true_or, or_true, eq_self, ite_not, Bool.false_eq_true, ite_self, and_self, true_and, and_true, false_and, and_false, not_true_eq_false, not_false_eq_true, xj_Questions_sides, xb_Questions_sides_0, xb_Questions_sides_37, g]
      · obtain ⟨e1, e2, e3⟩ := hex hp
        have e4 : b p ≠ 124 := fun q => c ⟨hp, q⟩
        refine ⟨fun _ => ?_, fun q => ?_, fun q => ?_⟩
        · exact e1 (by omega)
        · exact e2 (by omega)
        · exact e4
theorem q_lv_sides {ro : xv_Ro} {b : Nat → Nat} {n K : Nat} (hn : n ≤ 60) (hY : q_lv ro 229 31 6 b n K) : q_lv ro 228 32 7 b n K := by
  intro p o I J d hk ho hC hd
  obtain ⟨e, rfl⟩ : ∃ e, d = e + 2 := ⟨d - 2, by omega⟩
  have hpn := hC.2.1
  obtain ⟨r1, v1, W1, k1, k2, k3⟩ := hY p o I J (e + 1) hk ho hC (by omega)
  have cls : xv_evm ro (e + 2) 228 [.ref 1, .int (nI o)] (xv_SZ, xv_mk I J) = xv_ev ro (e + 2) xm_Questions_sides xb_Questions_sides_8 [some (.ref 1), some (.int (nI o)), some (.int v1), some (.int (nI 0))] [] (xv_SZ, xv_mk W1 J) := by
    rw [xe_Questions_sides, show nI 0 = (0 : Int32) from rfl]
    simp only [xr_all, xf_all, if_true, if_false, true_or, or_true, eq_self, ite_not, Bool.false_eq_true, ite_self, and_self, true_and, and_true, false_and, and_false, not_true_eq_false, not_false_eq_true, xj_Questions_sides, xb_Questions_sides_0, xb_Questions_sides_37, k1]
  match r1, k2, k3 with
  | .inl (f, q), k2, k3 =>
    obtain ⟨a1, a2, a3, a4, a5⟩ := k2
    have hd : (W1 1 4 = 0) = False := by rw [a5]; exact tp_f f a1 a2 a3
    exact ⟨.inl (f, q), v1, W1, cls.trans (q_d_sides ro e xv_SZ W1 J (nI o) v1 (by omega) hd), ⟨a1, a2, a3, a4, a5⟩, fun x1 x2 M JM S T hm hop hhd => k3 x1 x2 M JM S T hm hop (fun s S' q => by obtain ⟨q1, q2⟩ := hhd s S' q; exact ⟨by omega, q2⟩)⟩
  | .inr (y, p2), k2, k3 =>
    obtain ⟨a1, a2, a3, a4⟩ := k2
    subst a1
    obtain ⟨r, v, W, l1, l2, l3⟩ := q_lp_sides hn hY K p2 0 o v1 W1 J e (by have := a3.2.1; omega) (by omega) (Nat.le_refl _) ho a3 (by omega) k3.2
    refine ⟨r, v, W, cls.trans l1, q_Ct a4 a2 l2, ?_⟩
    have step : ∀ (x1 x2 : Int32) (M : Nat → Nat → Int32) (JM : Nat → Nat → Int64) (S : List Nat) (T : List Int32), q_m M JM b n p S T 1 → op_c S = o → q_hd 32 S → ∃ V L S1 T1, q_H ro x1 x2 M JM = q_H ro x1 x2 V L ∧ q_m V L b n p2 S1 T1 0 ∧ q_J 32 S1 T1 = some (S, v1 :: T) ∧ q_g M JM V L := by
      intro x1 x2 M JM S T hm hop hhd
      obtain ⟨V2, L2, S1, T1, t1, t2, t3, t4⟩ := k3.1 x1 x2 M JM S T hm hop (fun s S' q => by obtain ⟨q1, q2⟩ := hhd s S' q; exact ⟨by omega, q2⟩)
      refine ⟨V2, L2, S1, T1, t1, t2, ?_, t4⟩
      rw [q_Jc (show 31 ≤ 32 by omega) _ _ _ _ t3, q_Jh hhd]
    match r, l3 with
    | .inl (f, q), l3 =>
      intro x1 x2 M JM S T hm hop hhd
      obtain ⟨V, L, S1, T1, s1, s2, s3, s4⟩ := step x1 x2 M JM S T hm hop hhd
      obtain ⟨V2, L2, t1, t2⟩ := l3 x1 x2 V L S T S1 T1 s2 s3 hop hhd
      exact ⟨V2, L2, s1.trans t1, q_gt s4 t2⟩
    | .inr (x, p'), l3 =>
      refine ⟨fun x1 x2 M JM S T hm hop hhd => ?_, l3.2⟩
      obtain ⟨V, L, S1, T1, s1, s2, s3, s4⟩ := step x1 x2 M JM S T hm hop hhd
      obtain ⟨V2, L2, S2, T2, t1, t2, t3, t4⟩ := l3.1 x1 x2 V L S T S1 T1 s2 s3 hop hhd
      exact ⟨V2, L2, S2, T2, s1.trans t1, t2, t3, q_gt s4 t4⟩
