/-! transcript: the lines, both -/
def tr_A (ro : xv_Ro) (R0 : Nat → Int32) (C : Nat → Nat → Int32) (j : Nat) (a1 a2 a3 : Nat → Int32) : Prop := ∀ (X : Nat → Nat → Int32) (JM : Nat → Nat → Int64) (x1 x2 : Int32), X 168 = R0 → (∀ i, i < j → X 190 i = a1 i ∧ X 191 i = a2 i ∧ X 192 i = a3 i) → ∀ m : Nat, X 167 42 = nI m → j ≤ m → m ≤ 20 → ∃ Y : Nat → Nat → Int32, xv_ev ro 199 xm_Mo_transcript xb_Mo_transcript_112 [some (.ref 167), some (.int x1), some (.int x2), some (.int (nI 0))] [] (xv_SZ, xv_mk X JM) = xv_ev ro 199 xm_Mo_transcript xb_Mo_transcript_112 [some (.ref 167), some (.int x1), some (.int x2), some (.int (nI j))] [] (xv_SZ, xv_mk Y JM) ∧ (∀ a, a ≠ 168 → Y a = X a) ∧ vi_A (vz_mg C Y) 111 168
def tr_F (C : Nat → Nat → Int32) (sd tm qm : Nat) (ly : Nat → Nat) : Prop := C 111 2 = nI sd ∧ sd ≤ 20 ∧ (∀ w, w < 10 → C (111 + 3 + 2 * w) 3 = if tm.testBit w = true then 1 else 0) ∧ (∀ w, w < 10 → C (111 + 3 + 2 * w) 1 = nI (ly w) ∧ ly w ≤ 12) ∧ C 3 1 = nI qm
def tr_fr (C W : Nat → Nat → Int32) : Prop := (∀ a, a ≠ 1 → (a < 111 ∨ 154 ≤ a) → W a = C a) ∧ (∀ j, j ≠ 3 → j ≠ 4 → W 1 j = C 1 j) ∧ (vi_B C → vi_B W)
theorem tr_frr (C : Nat → Nat → Int32) : tr_fr C C := ⟨fun _ _ _ => rfl, fun _ _ _ => rfl, fun h => h⟩
theorem tr_frt {C W V : Nat → Nat → Int32} (h1 : tr_fr C W) (h2 : tr_fr W V) : tr_fr C V := ⟨fun a q1 q2 => (h2.1 a q1 q2).trans (h1.1 a q1 q2), fun j q1 q2 => (h2.2.1 j q1 q2).trans (h1.2.1 j q1 q2), fun h => h2.2.2 (h1.2.2 h)⟩
theorem tr_frl {C W : Nat → Nat → Int32} (h : tl_fr C W) : tr_fr C W := by
  have o1 : xv_oc 1 ≠ some 8 ∧ xv_oc 1 ≠ some 9 := by decide
  exact ⟨fun a q _ => h.1 a q, h.2, fun g => vi_B_c g (fun a ha => h.1 a (fun q => by rw [q] at ha; rcases ha with ha | ha; exact o1.1 ha; exact o1.2 ha))⟩
theorem tr_frs {C W : Nat → Nat → Int32} {sd w l : Nat} {k y c : Int32} {x : Int32} (hsd : sd < 20) (hw : w < 10) (hy : y = 0 ∨ y = 1) (hc : c = 0 ∨ c = 1) (h : vy_C (xv_u2 C 1 3 x) W 111 sd w l k y c) : tr_fr C W := by
  have ho := h.2.2.2.2.2.2.2.2.2.2.2.2.2
  refine ⟨fun a q1 q2 => by rw [ho a (by omega) (by omega) (by omega) (by omega), xu_ne q1], fun j q1 q2 => by rw [ho 1 (by omega) (by omega) (by omega) (by omega), xu_ne2 (fun g => q1 g.2)], fun g => ?_⟩
  exact vi_B_say (Or.inr (Or.inr rfl)) hsd hw hy hc (vi_B_n g (by decide) (by decide)) h
theorem tr_d2 : (nI 0 - nI 0 / 2 * 2 = nI 0 ∧ nI 0 / 2 = nI 0) ∧ (nI 1 - nI 1 / 2 * 2 = nI 1 ∧ nI 1 / 2 = nI 0) ∧ (nI 2 - nI 2 / 2 * 2 = nI 0 ∧ nI 2 / 2 = nI 1) ∧ nI 3 - nI 3 / 2 * 2 = nI 1 ∧ nI 3 / 2 = nI 1 := by decide
theorem tr_d2' {y c : Nat} (hy : y ≤ 1) (hc : c ≤ 1) : nI (y + 2 * c) - nI (y + 2 * c) / 2 * 2 = nI y ∧ nI (y + 2 * c) / 2 = nI c := by
  obtain ⟨h0, h1, h2, h3⟩ := tr_d2
  have h4 : y = 0 ∨ y = 1 := by omega
  have h5 : c = 0 ∨ c = 1 := by omega
  rcases h4 with rfl | rfl <;> rcases h5 with rfl | rfl
  · exact h0
  · exact h2
  · exact h1
  · exact h3
theorem tr_step {ro : xv_Ro} {R0 : Nat → Int32} {C W : Nat → Nat → Int32} {j sd tm qm w k y c : Nat} {ly : Nat → Nat} {a1 a2 a3 : Nat → Int32} {x : Int32} (hA : tr_A ro R0 C j a1 a2 a3) (hF : tr_F C sd tm qm ly) (hw : w < 10) (hk : k < 8) (hy : y ≤ 1) (hc : c ≤ 1) (hsd : sd < 20) (hl1 : 1 ≤ ly w) (h : vy_C (xv_u2 C 1 3 x) W 111 sd w (ly w) (nI k) (nI y) (nI c)) : tr_A ro R0 W (j + 1) (fun i => if i = j then nI w else a1 i) (fun i => if i = j then nI k else a2 i) (fun i => if i = j then nI (y + 2 * c) else a3 i) := by
  intro X JM x1 x2 hX hrow m hm hjm hm20
  obtain ⟨Y, y1, y2, y3⟩ := hA X JM x1 x2 hX (fun i hi => by
    obtain ⟨r1, r2, r3⟩ := hrow i (by omega)
    dsimp only at r1 r2 r3
    rw [if_neg (by omega)] at r1 r2 r3
    exact ⟨r1, r2, r3⟩) m hm (by omega) hm20
  obtain ⟨r1, r2, r3⟩ := hrow j (by omega)
  dsimp only at r1 r2 r3
  rw [if_pos rfl] at r1 r2 r3
  obtain ⟨F1, F2, F3, F4, F5⟩ := hF
  have hyv : nI y = 0 ∨ nI y = 1 := by
    have : y = 0 ∨ y = 1 := by omega
    rcases this with rfl | rfl
    · exact Or.inl rfl
    · exact Or.inr rfl
  have hcv : nI c = 0 ∨ nI c = 1 := by
    have : c = 0 ∨ c = 1 := by omega
    rcases this with rfl | rfl
    · exact Or.inl rfl
    · exact Or.inr rfl
  have hy3 := id y3
  obtain ⟨⟨n', p1, p2, p3, p4⟩, -, -, g4⟩ := hy3
  rw [vz_mgC _ _ (by omega)] at p2
  rw [vz_mgM _ _ (by omega)] at p3
  obtain rfl : n' = sd := (nI_eq (by omega) (by omega)).mp (p2.symm.trans F1)
  obtain ⟨-, l', l1, l2, l3, l4⟩ := g4 w hw
  rw [vz_mgC _ _ (by omega)] at l2
  rw [vz_mgM _ _ (by omega)] at l3
  have hl12 := (F4 w hw).2
  obtain rfl : l' = ly w := (nI_eq (by omega) (by omega)).mp (l2.symm.trans (F4 w hw).1)
  obtain ⟨Y1, s1, s2⟩ := xq_answersNow ro 197 xv_SZ Y JM (n := n') (w := w) (l := ly w) (nI k) (nI y) (nI c) p3 hsd hw l3 hl1 hl12
  have s3 := s2.2.2.2.2.2.2.2.2.2.2.2.2
  refine ⟨Y1, ?_, fun a ha => (s3 a ha).trans (y2 a ha), ?_⟩
  · rw [y1]
    have g : (nI m ≤ nI j) = False := by (simp (disch := omega) only [vz_all, if_true, if_false, true_or, or_true, eq_self, ite_not, Bool.false_eq_true, ite_self, and_self, true_and, and_true, false_and, and_false, not_true_eq_false, not_false_eq_true, false_or, or_false])
    have i20 : xv_inB (nI j) 20 = true := by (simp (disch := omega) only [vz_all, if_true, if_false, true_or, or_true, eq_self, ite_not, Bool.false_eq_true, ite_self, and_self, true_and, and_true, false_and, and_false, not_true_eq_false, not_false_eq_true, false_or, or_false])
    have cj := nI_clamp (show j < 2 ^ 31 by omega)
    have e42 : Y 167 42 = nI m := by rw [y2 167 (by omega)]; exact hm
    have e190 : Y 190 j = nI w := by rw [y2 190 (by omega)]; exact r1
    have e191 : Y 191 j = nI k := by rw [y2 191 (by omega)]; exact r2
    have e192 : Y 192 j = nI (y + 2 * c) := by rw [y2 192 (by omega)]; exact r3
    have z2 : ((2 : Int32) = 0) = False := eq_false (by decide)
    obtain ⟨d1, d2⟩ := tr_d2' hy hc
    rw [d2] at d1
    conv => lhs; unfold xb_Mo_transcript_112
    simp only [xr_all, xf_all, if_true, if_false, true_or, or_true, eq_self, ite_not, Bool.false_eq_true, ite_self, and_self, true_and, and_true, false_and, and_false, not_true_eq_false, not_false_eq_true, xj_Mo_transcript, xb_Mo_transcript_0, xb_Mo_transcript_18, xb_Mo_transcript_20, xb_Mo_transcript_51, xb_Mo_transcript_91, xb_Mo_transcript_92, xb_Mo_transcript_110, xb_Mo_transcript_159, e42, g, i20, cj, e190, e191, e192, z2, d1, d2, s1, nI_1]
  · refine vi_say (C := xv_u2 C 1 3 x) (M := Y) (w := w) (l := ly w) (kk := k) (Or.inr (Or.inr rfl)) (vi_A_c y3 (fun f hf => ?_) (fun a q1 q2 => ?_) ?_) (by rw [xu_ne (by omega)]; exact F1) hsd hw (by rw [xu_ne (by omega)]; exact (F4 w hw).1) hl1 hl12 rfl hk hyv hcv h s2
    · rw [vz_mgC _ _ (by omega), vz_mgC _ _ (by omega), xu_ne (by omega)]
    · rw [vz_mgC _ _ (by omega), vz_mgC _ _ (by omega), xu_ne (by omega)]
    · rw [vz_mgM _ _ (by omega), vz_mgM _ _ (by omega)]
theorem tr_Fs {C W : Nat → Nat → Int32} {sd tm qm w : Nat} {ly : Nat → Nat} {k y c x : Int32} (hF : tr_F C sd tm qm ly) (hw : w < 10) (hsd : sd < 20) (hl1 : 1 ≤ ly w) (h : vy_C (xv_u2 C 1 3 x) W 111 sd w (ly w) k y c) : tr_F W (sd + 1) tm qm (fun v => if v = w then ly w - 1 else ly v) := by
  obtain ⟨F1, F2, F3, F4, F5⟩ := hF
  obtain ⟨c0, c1, c2, c3, c4, c5, c6, c7, c8, c9, c10, c11, c12, c13⟩ := h
  refine ⟨c10, by omega, fun v hv => ?_, fun v hv => ?_, by rw [c13 3 (by omega) (by omega) (by omega) (by omega), xu_ne (by omega)]; exact F5⟩
  · by_cases e : v = w
    · rw [e, c11 3 (by omega), xu_ne (by omega)]; exact F3 w hw
    · rw [c13 _ (by omega) (by omega) (by omega) (by omega), xu_ne (by omega)]; exact F3 v hv
  · have h12 := (F4 v hv).2
    dsimp only
    by_cases e : v = w
    · subst e
      rw [if_pos rfl]
      exact ⟨c8, by omega⟩
    · rw [if_neg e, c13 _ (by omega) (by omega) (by omega) (by omega), xu_ne (by omega)]
      exact F4 v hv
theorem xl_hear8x (ro : xv_Ro) (d : Nat) (z : Nat × Nat) (I : Nat → Nat → Int32) (J : Nat → Nat → Int64) {i : Nat} (hi : i ≤ 101) (h : (I 1 4 = 0) = False) : xv_ev ro (d + 2) xm_Archive_hear xb_Archive_hear_8 [some (.ref 111), some (.ref 1), some (.ref 3), some (.int (nI i))] [] (z, xv_mk I J) = some (none, (z, xv_mk I J)) := by
  have ht := xq_take_x ro d z I J (c := 59) h (by omega)
  rw [show nI 59 = (59 : Int32) from rfl] at ht
  have he := xq_expectEnd_x ro d z I J h
  conv => lhs; unfold xb_Archive_hear_8
  by_cases c : i < 100
  · have g : (100 ≤ nI i) = False := by (simp (disch := omega) only [vz_all, if_true, if_false, true_or, or_true, eq_self, ite_not, Bool.false_eq_true, ite_self, and_self, true_and, and_true, false_and, and_false, not_true_eq_false, not_false_eq_true, false_or, or_false])
    simp only [xr_all, xf_all, if_true, if_false, true_or, or_true, eq_self, ite_not, Bool.false_eq_true, ite_self, and_self, true_and, and_true, false_and, and_false, not_true_eq_false, not_false_eq_true, xj_Archive_hear, xb_Archive_hear_0, xb_Archive_hear_35, g, ht, he]
  · have g : (100 ≤ nI i) = True := by (simp (disch := omega) only [vz_all, if_true, if_false, true_or, or_true, eq_self, ite_not, Bool.false_eq_true, ite_self, and_self, true_and, and_true, false_and, and_false, not_true_eq_false, not_false_eq_true, false_or, or_false])
    simp only [xr_all, xf_all, if_true, if_false, true_or, or_true, eq_self, ite_not, Bool.false_eq_true, ite_self, and_self, true_and, and_true, false_and, and_false, not_true_eq_false, not_false_eq_true, xj_Archive_hear, xb_Archive_hear_0, xb_Archive_hear_35, g, he]
theorem xl_tr56x (ro : xv_Ro) (d : Nat) (z : Nat × Nat) (M : Nat → Nat → Int32) (J : Nat → Nat → Int64) (x1 : Int32) : xv_ev ro d xm_Mo_transcript xb_Mo_transcript_56 [some (.ref 167), some (.int x1), some (.int 0), none] [] (z, xv_mk M J) = xv_ev ro d xm_Mo_transcript xb_Mo_transcript_96 [some (.ref 167), some (.int x1), some (.int 0), none] [] (z, xv_mk M J) := by
  conv => lhs; unfold xb_Mo_transcript_56
  simp only [xr_all, xf_all, if_true, if_false, true_or, or_true, eq_self, ite_not, Bool.false_eq_true, ite_self, and_self, true_and, and_true, false_and, and_false, not_true_eq_false, not_false_eq_true, xj_Mo_transcript, xb_Mo_transcript_0, xb_Mo_transcript_18, xb_Mo_transcript_20, xb_Mo_transcript_51, xb_Mo_transcript_91, xb_Mo_transcript_92, xb_Mo_transcript_110, xb_Mo_transcript_159]
/-- how the ends agree -/
def tr_E (ro : xv_Ro) (R0 : Nat → Int32) (W V : Nat → Nat → Int32) (r : Int32) (j' : Nat) (b1 b2 b3 : Nat → Int32) : Prop := (r = 0 ∧ (W 1 4 = 0) = False ∧ V 167 10 = W 1 4) ∨ (r = 1 ∧ W 1 4 = 0 ∧ V 167 42 = nI j' ∧ j' ≤ 20 ∧ tr_A ro R0 W j' b1 b2 b3 ∧ ∀ i, i < j' → V 190 i = b1 i ∧ V 191 i = b2 i ∧ V 192 i = b3 i)
/-- block 8 of the class and block 56 of the model -/
def tr_Q (ro : xv_Ro) (b : Nat → Nat) (n : Nat) (R0 : Nat → Int32) (tm qm : Nat) (k : Nat) : Prop := ∀ (p i sd j : Nat) (ly : Nat → Nat) (a1 a2 a3 : Nat → Int32) (C : Nat → Nat → Int32) (J : Nat → Nat → Int64), n - p < k → i ≤ p → tp_C b n p C → tr_F C sd tm qm ly → tr_A ro R0 C j a1 a2 a3 → j ≤ sd → ∃ (W : Nat → Nat → Int32) (j' : Nat) (b1 b2 b3 : Nat → Int32), xv_ev ro 198 xm_Archive_hear xb_Archive_hear_8 [some (.ref 111), some (.ref 1), some (.ref 3), some (.int (nI i))] [] (xv_SZ, xv_mk C J) = some (none, (xv_SZ, xv_mk W J)) ∧ tr_fr C W ∧ ∀ (M : Nat → Nat → Int32) (JM : Nat → Nat → Int64) (x1 : Int32) (n0 : Nat), tp_M b n p M → tl_m M n0 j sd tm qm ly → (∀ i, i < j → M 190 i = a1 i ∧ M 191 i = a2 i ∧ M 192 i = a3 i) → ∃ (V : Nat → Nat → Int32) (r : Int32), xv_ev ro 199 xm_Mo_transcript xb_Mo_transcript_56 [some (.ref 167), some (.int x1), some (.int 1), none] [] (xv_SZ, xv_mk M JM) = xv_ev ro 199 xm_Mo_transcript xb_Mo_transcript_96 [some (.ref 167), some (.int x1), some (.int r), none] [] (xv_SZ, xv_mk V JM) ∧ tl_g M V ∧ tr_E ro R0 W V r j' b1 b2 b3
/-- a line and what follows -/
theorem xl_hearL (ro : xv_Ro) {b : Nat → Nat} {n : Nat} {R0 : Nat → Int32} {tm qm k : Nat} (hn : n ≤ 100) (htm : tm < 1024) (hqm : qm < 256) (hQ : tr_Q ro b n R0 tm qm k) (p i sd j : Nat) (ly : Nat → Nat) (a1 a2 a3 : Nat → Int32) (C : Nat → Nat → Int32) (J : Nat → Nat → Int64) (hk : n - p ≤ k) (hi : i ≤ p + 1) (hC : tp_C b n p C) (hF : tr_F C sd tm qm ly) (hA : tr_A ro R0 C j a1 a2 a3) (hj : j ≤ sd) : ∃ (W1 W : Nat → Nat → Int32) (j' : Nat) (b1 b2 b3 : Nat → Int32), xv_evm ro 197 172 [.ref 111, .ref 1, .ref 3] (xv_SZ, xv_mk C J) = some (none, (xv_SZ, xv_mk W1 J)) ∧ xv_ev ro 198 xm_Archive_hear xb_Archive_hear_8 [some (.ref 111), some (.ref 1), some (.ref 3), some (.int (nI i))] [] (xv_SZ, xv_mk W1 J) = some (none, (xv_SZ, xv_mk W J)) ∧ tr_fr C W ∧ ∀ (M : Nat → Nat → Int32) (JM : Nat → Nat → Int64) (x1 : Int32) (n0 : Nat), tp_M b n p M → tl_m M n0 j sd tm qm ly → (∀ i, i < j → M 190 i = a1 i ∧ M 191 i = a2 i ∧ M 192 i = a3 i) → ∃ (V1 V : Nat → Nat → Int32) (r1 r : Int32), xv_evm ro 198 93 [.ref 167] (xv_SZ, xv_mk M JM) = some (some (.int r1), (xv_SZ, xv_mk V1 JM)) ∧ (r1 = 0 ∨ r1 = 1) ∧ xv_ev ro 199 xm_Mo_transcript xb_Mo_transcript_56 [some (.ref 167), some (.int x1), some (.int r1), none] [] (xv_SZ, xv_mk V1 JM) = xv_ev ro 199 xm_Mo_transcript xb_Mo_transcript_96 [some (.ref 167), some (.int x1), some (.int r), none] [] (xv_SZ, xv_mk V JM) ∧ tl_g M V ∧ tr_E ro R0 W V r j' b1 b2 b3 := by
  obtain ⟨F1, F2, F3, F4, F5⟩ := id hF
  obtain ⟨o, W1, s1, s2, s3⟩ := xl_line ro 193 194 xv_SZ C J hC F1 F2 htm F3 F4 F5 hqm
  have hpn := hC.2.1
  match o, s2, s3 with
  | .inl (f, q), s2, s3 =>
    obtain ⟨e1, e2, e3, e4, e5⟩ := s2
    have hdead : (W1 1 4 = 0) = False := by rw [e5]; exact tp_f f e1 e2 e3
    refine ⟨W1, W1, 0, a1, a2, a3, s1, xl_hear8x ro 196 xv_SZ W1 J (by omega) hdead, tr_frl e4, fun M JM x1 n0 hM hm hr => ?_⟩
    obtain ⟨V, r, v1, v2, v3, v4⟩ := s3 M JM n0 j hM hm
    subst v2
    exact ⟨V, V, 0, 0, v1, Or.inl rfl, xl_tr56x ro 199 xv_SZ V JM x1, v4, Or.inl ⟨rfl, hdead, by rw [v3, e5]⟩⟩
  | .inr (w, kk, y, c, p'), s2, s3 =>
    obtain ⟨e1, e2, e3, e4, e5, e6, e7, e8, e9⟩ := s2
    have hyv : nI y = 0 ∨ nI y = 1 := by
      have : y = 0 ∨ y = 1 := by omega
      rcases this with rfl | rfl
      · exact Or.inl rfl
      · exact Or.inr rfl
    have hcv : nI c = 0 ∨ nI c = 1 := by
      have : c = 0 ∨ c = 1 := by omega
      rcases this with rfl | rfl
      · exact Or.inl rfl
      · exact Or.inr rfl
    have hp' := e8.2.1
    obtain ⟨W, j', b1, b2, b3, t1, t2, t3⟩ := hQ p' i (sd + 1) (j + 1) _ _ _ _ W1 J (by omega) (by omega) e8 (tr_Fs hF e2 e6 e7 e9) (tr_step hA hF e2 e3 e4 e5 e6 e7 e9) (by omega)
    refine ⟨W1, W, j', b1, b2, b3, s1, t1, tr_frt (tr_frs e6 e2 hyv hcv e9) t2, fun M JM x1 n0 hM hm hr => ?_⟩
    obtain ⟨V1, r1, v1, v2, v3, v4, v5, v6, v7, v8, v9⟩ := s3 M JM n0 j hM hm
    subst v2
    obtain ⟨m1, m2, m3, m4, m5, m6⟩ := hm
    obtain ⟨V, r, u1, u2, u3⟩ := t3 V1 JM x1 n0 v3 ⟨by rw [v4.1 168 (by omega) (by omega) (by omega) (by omega) (by omega)]; exact m1, v5, by omega, by rw [v4.1 168 (by omega) (by omega) (by omega) (by omega) (by omega)]; exact m4, by rw [v4.2 5 (by omega) (by omega) (by omega)]; exact m5, fun v hv => by
      obtain ⟨pc, l0, k1, k2, k3, k4⟩ := m6 v hv
      rw [v6 v, v4.1 168 (by omega) (by omega) (by omega) (by omega) (by omega)]
      by_cases e : v = w
      · subst e
        rw [if_pos rfl]
        exact ⟨pc + 1, l0, by rw [k1, nI_1], k2, k3, by dsimp only; rw [if_pos rfl]; omega⟩
      · rw [if_neg e]
        exact ⟨pc, l0, k1, k2, k3, by dsimp only; rw [if_neg e]; omega⟩⟩ (fun i hi => by
      rw [v7 i, v8 i, v9 i]
      by_cases e : i = j
      · rw [if_pos e, if_pos e, if_pos e, if_pos e, if_pos e, if_pos e]
        exact ⟨rfl, rfl, rfl⟩
      · rw [if_neg e, if_neg e, if_neg e, if_neg e, if_neg e, if_neg e]
        exact hr i (by omega))
    exact ⟨V1, V, 1, r, v1, Or.inr rfl, u1, tl_gt v4 u2, u3⟩
theorem xl_hears (ro : xv_Ro) {b : Nat → Nat} {n : Nat} {R0 : Nat → Int32} {tm qm : Nat} (hn : n ≤ 100) (htm : tm < 1024) (hqm : qm < 256) : ∀ k, tr_Q ro b n R0 tm qm k := by
  intro k
  induction k with
  | zero => intro p i sd j ly a1 a2 a3 C J hk; omega
  | succ k ih =>
    intro p i sd j ly a1 a2 a3 C J hk hi hC hF hA hj
    have hpn := hC.2.1
    have z1 : ((1 : Int32) = 0) = False := eq_false (by decide)
    have ht := xq_take ro 196 xv_SZ C J (c := 59) hC (by omega)
    have he := xq_expectEnd ro 196 xv_SZ C J hC
    rw [show nI 59 = (59 : Int32) from rfl] at ht
    by_cases c : p < n
    · have gi : (100 ≤ nI i) = False := by (simp (disch := omega) only [vz_all, if_true, if_false, true_or, or_true, eq_self, ite_not, Bool.false_eq_true, ite_self, and_self, true_and, and_true, false_and, and_false, not_true_eq_false, not_false_eq_true, false_or, or_false])
      have gp : (nI n ≤ nI p) = False := by (simp (disch := omega) only [vz_all, if_true, if_false, true_or, or_true, eq_self, ite_not, Bool.false_eq_true, ite_self, and_self, true_and, and_true, false_and, and_false, not_true_eq_false, not_false_eq_true, false_or, or_false])
      rw [if_pos c] at he
      by_cases cc : b p = 59
      · rw [if_pos ⟨c, cc⟩] at ht
        have hC1 := tp_Cs hC c
        have hF1 : tr_F (xv_u2 C 1 3 (nI (p + 1))) sd tm qm ly := by
          obtain ⟨F1, F2, F3, F4, F5⟩ := hF
          exact ⟨by rw [xu_ne (by omega)]; exact F1, F2, fun w hw => by rw [xu_ne (by omega)]; exact F3 w hw, fun w hw => by rw [xu_ne (by omega)]; exact F4 w hw, by rw [xu_ne (by omega)]; exact F5⟩
        have hA1 : tr_A ro R0 (xv_u2 C 1 3 (nI (p + 1))) j a1 a2 a3 := by
          intro X JM x1 x2 hX hrow m hm hjm hm20
          obtain ⟨Y, y1, y2, y3⟩ := hA X JM x1 x2 hX hrow m hm hjm hm20
          refine ⟨Y, y1, y2, vi_A_c y3 (fun f hf => ?_) (fun a q1 q2 => ?_) ?_⟩
          · rw [vz_mgC _ _ (by omega), vz_mgC _ _ (by omega), xu_ne (by omega)]
          · rw [vz_mgC _ _ (by omega), vz_mgC _ _ (by omega), xu_ne (by omega)]
          · rw [vz_mgM _ _ (by omega), vz_mgM _ _ (by omega)]
        obtain ⟨W1, W, j', b1, b2, b3, t1, t2, t3, t4⟩ := xl_hearL ro hn htm hqm ih (p + 1) (i + 1) sd j ly a1 a2 a3 _ J (by omega) (by omega) hC1 hF1 hA1 hj
        refine ⟨W, j', b1, b2, b3, ?_, tr_frt (tr_frl (tl_fr3 C _)) t3, fun M JM x1 n0 hM hm hr => ?_⟩
        · rw [← t2]
          conv => lhs; unfold xb_Archive_hear_8
          simp only [xr_all, xf_all, if_true, if_false, true_or, or_true, eq_self, ite_not, Bool.false_eq_true, ite_self, and_self, true_and, and_true, false_and, and_false, not_true_eq_false, not_false_eq_true, xj_Archive_hear, xb_Archive_hear_0, xb_Archive_hear_35, gi, ht, z1, t1, nI_1]
        · have hmt := xq_takes ro 197 xv_SZ M JM (c := 59) hM (by omega)
          rw [if_pos ⟨c, cc⟩, show nI 59 = (59 : Int32) from rfl] at hmt
          have hp8 := hM.2.2.2.1
          have hn9 := hM.2.2.1
          have hm' : tl_m (xv_u2 M 167 8 (nI (p + 1))) n0 j sd tm qm ly := by
            obtain ⟨m1, m2, m3, m4, m5, m6⟩ := hm
            exact ⟨by rw [xu_ne (by omega)]; exact m1, by rw [xu_ne2 (by omega)]; exact m2, m3, by rw [xu_ne (by omega)]; exact m4, by rw [xu_ne2 (by omega)]; exact m5, fun w hw => by rw [xu_ne (by omega), xu_ne (by omega)]; exact m6 w hw⟩
          obtain ⟨V1, V, r1, r, v1, v2, v3, v4, v5⟩ := t4 _ JM x1 n0 (tp_Ms hM c) hm' (fun i hi => by rw [xu_ne (by omega), xu_ne (by omega), xu_ne (by omega)]; exact hr i hi)
          refine ⟨V, r, ?_, tl_gt (tl_g8 M _) v4, v5⟩
          rw [← v3]
          conv => lhs; unfold xb_Mo_transcript_56
          rcases v2 with rfl | rfl
          · simp only [xr_all, xf_all, if_true, if_false, true_or, or_true, eq_self, ite_not, Bool.false_eq_true, ite_self, and_self, true_and, and_true, false_and, and_false, not_true_eq_false, not_false_eq_true, xj_Mo_transcript, xb_Mo_transcript_0, xb_Mo_transcript_18, xb_Mo_transcript_20, xb_Mo_transcript_51, xb_Mo_transcript_91, xb_Mo_transcript_92, xb_Mo_transcript_110, xb_Mo_transcript_159, z1, hp8, hn9, gp, hmt, v1]
          · simp only [xr_all, xf_all, if_true, if_false, true_or, or_true, eq_self, ite_not, Bool.false_eq_true, ite_self, and_self, true_and, and_true, false_and, and_false, not_true_eq_false, not_false_eq_true, xj_Mo_transcript, xb_Mo_transcript_0, xb_Mo_transcript_18, xb_Mo_transcript_20, xb_Mo_transcript_51, xb_Mo_transcript_91, xb_Mo_transcript_92, xb_Mo_transcript_110, xb_Mo_transcript_159, z1, hp8, hn9, gp, hmt, v1]
      · have hno : ¬ (p < n ∧ b p = 59) := fun q => cc q.2
        rw [if_neg hno] at ht
        refine ⟨xv_u2 C 1 4 (-1000 * 1 - nI p), 0, a1, a2, a3, ?_, tr_frl (tl_fr4 C _), fun M JM x1 n0 hM hm hr => ⟨xv_u2 M 167 10 (-1000 * 1 - nI p), 0, ?_, tl_g10 M _, Or.inl ⟨rfl, by rw [xu_eq]; exact tp_f 1 (by omega) (by omega) (by omega), by rw [xu_eq, xu_eq]⟩⟩⟩
        · conv => lhs; unfold xb_Archive_hear_8
          simp only [xr_all, xf_all, if_true, if_false, true_or, or_true, eq_self, ite_not, Bool.false_eq_true, ite_self, and_self, true_and, and_true, false_and, and_false, not_true_eq_false, not_false_eq_true, xj_Archive_hear, xb_Archive_hear_0, xb_Archive_hear_35, gi, ht, he]
        · have hmt := xq_takes ro 197 xv_SZ M JM (c := 59) hM (by omega)
          rw [if_neg hno, show nI 59 = (59 : Int32) from rfl] at hmt
          have hp8 := hM.2.2.2.1
          have hn9 := hM.2.2.1
          rw [← xl_tr56x]
          conv => lhs; unfold xb_Mo_transcript_56
          simp only [xr_all, xf_all, if_true, if_false, true_or, or_true, eq_self, ite_not, Bool.false_eq_true, ite_self, and_self, true_and, and_true, false_and, and_false, not_true_eq_false, not_false_eq_true, xj_Mo_transcript, xb_Mo_transcript_0, xb_Mo_transcript_18, xb_Mo_transcript_20, xb_Mo_transcript_51, xb_Mo_transcript_91, xb_Mo_transcript_92, xb_Mo_transcript_110, xb_Mo_transcript_159, z1, hp8, hn9, gp, hmt]
    · have hno : ¬ (p < n ∧ b p = 59) := fun q => c q.1
      rw [if_neg hno] at ht
      rw [if_neg c] at he
      have gp : (nI n ≤ nI p) = True := by (simp (disch := omega) only [vz_all, if_true, if_false, true_or, or_true, eq_self, ite_not, Bool.false_eq_true, ite_self, and_self, true_and, and_true, false_and, and_false, not_true_eq_false, not_false_eq_true, false_or, or_false])
      refine ⟨C, j, a1, a2, a3, ?_, tr_frr C, fun M JM x1 n0 hM hm hr => ⟨M, 1, ?_, tl_gr M, Or.inr ⟨rfl, hC.2.2.2.2.1, hm.2.1, Nat.le_trans hj hF.2.1, hA, hr⟩⟩⟩
      · conv => lhs; unfold xb_Archive_hear_8
        by_cases ci : i < 100
        · have gi : (100 ≤ nI i) = False := by (simp (disch := omega) only [vz_all, if_true, if_false, true_or, or_true, eq_self, ite_not, Bool.false_eq_true, ite_self, and_self, true_and, and_true, false_and, and_false, not_true_eq_false, not_false_eq_true, false_or, or_false])
          simp only [xr_all, xf_all, if_true, if_false, true_or, or_true, eq_self, ite_not, Bool.false_eq_true, ite_self, and_self, true_and, and_true, false_and, and_false, not_true_eq_false, not_false_eq_true, xj_Archive_hear, xb_Archive_hear_0, xb_Archive_hear_35, gi, ht, he]
        · have gi : (100 ≤ nI i) = True := by (simp (disch := omega) only [vz_all, if_true, if_false, true_or, or_true, eq_self, ite_not, Bool.false_eq_true, ite_self, and_self, true_and, and_true, false_and, and_false, not_true_eq_false, not_false_eq_true, false_or, or_false])
          simp only [xr_all, xf_all, if_true, if_false, true_or, or_true, eq_self, ite_not, Bool.false_eq_true, ite_self, and_self, true_and, and_true, false_and, and_false, not_true_eq_false, not_false_eq_true, xj_Archive_hear, xb_Archive_hear_0, xb_Archive_hear_35, gi, he]
      · have hp8 := hM.2.2.2.1
        have hn9 := hM.2.2.1
        conv => lhs; unfold xb_Mo_transcript_56
        simp only [xr_all, xf_all, if_true, if_false, true_or, or_true, eq_self, ite_not, Bool.false_eq_true, ite_self, and_self, true_and, and_true, false_and, and_false, not_true_eq_false, not_false_eq_true, xj_Mo_transcript, xb_Mo_transcript_0, xb_Mo_transcript_18, xb_Mo_transcript_20, xb_Mo_transcript_51, xb_Mo_transcript_91, xb_Mo_transcript_92, xb_Mo_transcript_110, xb_Mo_transcript_159, z1, hp8, hn9, gp]
