/-! transcript: a line, as one -/
theorem xl_line (ro : xv_Ro) (d e : Nat) (z : Nat × Nat) (I : Nat → Nat → Int32) (J : Nat → Nat → Int64) {b : Nat → Nat} {n p sd tm qm : Nat} {ly : Nat → Nat} (h : tp_C b n p I) (hs : I 111 2 = nI sd) (hs2 : sd ≤ 20) (htm : tm < 1024) (ht : ∀ w, w < 10 → I (111 + 3 + 2 * w) 3 = if tm.testBit w = true then 1 else 0) (hl : ∀ w, w < 10 → I (111 + 3 + 2 * w) 1 = nI (ly w) ∧ ly w ≤ 12) (hq : I 3 1 = nI qm) (hq2 : qm < 256) : ∃ (o : tl_S) (W : Nat → Nat → Int32), xv_evm ro (d + 4) 172 [.ref 111, .ref 1, .ref 3] (z, xv_mk I J) = some (none, (z, xv_mk W J)) ∧ tl_O b n p I W sd ly o ∧ ∀ (M : Nat → Nat → Int32) (JM : Nat → Nat → Int64) (n0 j : Nat), tp_M b n p M → tl_m M n0 j sd tm qm ly → ∃ (V : Nat → Nat → Int32) (r : Int32), xv_evm ro (e + 4) 93 [.ref 167] (z, xv_mk M JM) = some (some (.int r), (z, xv_mk V JM)) ∧ tl_N b n j M V r o := by
  have hn := h.1
  have hpn := h.2.1
  have hb : ∀ q, q < n → b q < 256 := fun q hq => (h.2.2.2.2.2 q hq).1
  cases hd : tp_d b n p with
  | none =>
    have hno : ¬ (p < n ∧ 48 ≤ b p ∧ b p < 48 + 10) := fun q => by
      unfold tp_d at hd
      rw [if_pos ⟨q.1, q.2.1, by omega⟩] at hd
      cases hd
    obtain ⟨-, q2, -⟩ := tl_sub 48 10 (by omega) (by omega) (hb p) hno
    rw [show nI 48 = (48 : Int32) from rfl, show nI 10 = (10 : Int32) from rfl] at q2
    obtain ⟨W, a1, a2, a3⟩ := xl_ln0 ro d z I J (f := 1) h (by omega) (by omega) (xq_wrong_no ro (d + 3) (z, xv_mk I J) q2)
    refine ⟨.inl (1, p), W, a1, ⟨by omega, by omega, by omega, a2, a3⟩, fun M JM n0 j hM hm => ⟨xv_u2 M 167 10 (-1000 * 1 - nI p), 0, ?_, rfl, xu_eq, tl_g10 M _⟩⟩
    have his := xq_isDigit ro (e + 2) z M JM hM
    rw [hd, if_neg (by decide)] at his
    have h4 := hM.2.2.2.1
    have hw := xq_wrongAt ro (e + 3) z M JM 1 (nI p)
    rw [xe_Mo_readsLine]
    simp only [xr_all, xf_all, if_true, if_false, true_or, or_true, eq_self, ite_not, Bool.false_eq_true, ite_self, and_self, true_and, and_true, false_and, and_false, not_true_eq_false, not_false_eq_true, xj_Mo_readsLine, xb_Mo_readsLine_0, xb_Mo_readsLine_17, xb_Mo_readsLine_45, xb_Mo_readsLine_72, xb_Mo_readsLine_139, xb_Mo_readsLine_158, xb_Mo_readsLine_181, xb_Mo_readsLine_194, xb_Mo_readsLine_195, xb_Mo_readsLine_211, xb_Mo_readsLine_234, xb_Mo_readsLine_235, xb_Mo_readsLine_252, his, h4, hw]
  | some w =>
    obtain ⟨c1, c2, c3⟩ := tp_d_s hd
    have hw10 : w < 10 := by omega
    have ev : tp_c b n p - 48 = nI w := by
      unfold tp_c; rw [if_pos c1, c3]; (simp (disch := omega) only [vz_all, if_true, if_false, true_or, or_true, eq_self, ite_not, Bool.false_eq_true, ite_self, and_self, true_and, and_true, false_and, and_false, not_true_eq_false, not_false_eq_true, false_or, or_false])
    have hwr := xq_wrong ro (d + 1) z I J (tb := tm.testBit w) hw10 hs hs2 (ht w hw10) (hl w hw10).1 (hl w hw10).2
    rw [← ev] at hwr
    by_cases hf : tl_f sd (tm.testBit w) (ly w) = 0
    rotate_left
    · have hf9 : tl_f sd (tm.testBit w) (ly w) ≤ 9 := by
        unfold tl_f
        split
        · omega
        · split
          · omega
          · split <;> omega
      obtain ⟨W, a1, a2, a3⟩ := xl_ln0 ro d z I J h (by omega) hf9 hwr
      refine ⟨.inl (_, p), W, a1, ⟨by omega, hf9, by omega, a2, a3⟩, fun M JM n0 j hM hm => ⟨_, 0, (xl_rlw ro e z M JM hM hm hs2 htm hd).1 hf, rfl, xu_eq, tl_g10 M _⟩⟩
    · rw [hf, show nI 0 = (0 : Int32) from rfl] at hwr
      have hsd : sd < 20 ∧ tm.testBit w = true ∧ 1 ≤ ly w := by
        unfold tl_f at hf
        by_cases q1 : sd = 20
        · rw [if_pos q1] at hf; omega
        · rw [if_neg q1] at hf
          by_cases q2 : tm.testBit w = false
          · rw [if_pos q2] at hf; omega
          · rw [if_neg q2] at hf
            by_cases q3 : ly w = 0
            · rw [if_pos q3] at hf; omega
            · exact ⟨by omega, by simpa using q2, by omega⟩
      by_cases hk : p + 1 < n ∧ 65 ≤ b (p + 1) ∧ b (p + 1) < 65 + 8
      rotate_left
      · obtain ⟨q1, q2, q3⟩ := tl_sub 65 8 (by omega) (by omega) (hb (p + 1)) hk
        rw [show nI 65 = (65 : Int32) from rfl] at q1 q2 q3
        rw [show nI 8 = (8 : Int32) from rfl] at q2
        rw [show nI (8 - 1) = (7 : Int32) from rfl] at q3
        obtain ⟨W, a1, a2, a3⟩ := xl_ln1 ro d z I J (f := 1) h c1 hwr (fun V _ => xq_Questions_isTold_no ro (d + 3) (z, xv_mk V J) q1) (Or.inl ⟨rfl, q2⟩)
        refine ⟨.inl (1, p + 1), W, a1, ⟨by omega, by omega, by omega, a2, a3⟩, fun M JM n0 j hM hm => ⟨_, 0, ((xl_rlw ro e z M JM hM hm hs2 htm hd).2 hf).trans (xl_rlk ro e z M JM (qm := qm) (nI w) hM c1 (Or.inl ⟨rfl, q3⟩) hm.2.2.2.2.1), rfl, xu_eq, tl_gt (tl_g8 M _) (tl_g10 _ _)⟩⟩
      · obtain ⟨k1, k2, k3⟩ := hk
        obtain ⟨k, hbk⟩ : ∃ k, b (p + 1) = k + 65 := ⟨b (p + 1) - 65, by omega⟩
        have hk8 : k < 8 := by omega
        have ek : tp_c b n (p + 1) - 65 = nI k := by
          unfold tp_c; rw [if_pos k1, hbk]; (simp (disch := omega) only [vz_all, if_true, if_false, true_or, or_true, eq_self, ite_not, Bool.false_eq_true, ite_self, and_self, true_and, and_true, false_and, and_false, not_true_eq_false, not_false_eq_true, false_or, or_false])
        by_cases hqb : qm.testBit k = true
        rotate_left
        · have g0 : (nI k < 0) = False := by (simp (disch := omega) only [vz_all, if_true, if_false, true_or, or_true, eq_self, ite_not, Bool.false_eq_true, ite_self, and_self, true_and, and_true, false_and, and_false, not_true_eq_false, not_false_eq_true, false_or, or_false])
          have g8 : (nI k < 8) = True := by (simp (disch := omega) only [vz_all, if_true, if_false, true_or, or_true, eq_self, ite_not, Bool.false_eq_true, ite_self, and_self, true_and, and_true, false_and, and_false, not_true_eq_false, not_false_eq_true, false_or, or_false])
          have gin : (0 ≤ nI k ∧ nI k ≤ 7) = True := by (simp (disch := omega) only [vz_all, if_true, if_false, true_or, or_true, eq_self, ite_not, Bool.false_eq_true, ite_self, and_self, true_and, and_true, false_and, and_false, not_true_eq_false, not_false_eq_true, false_or, or_false])
          obtain ⟨W, a1, a2, a3⟩ := xl_ln1 ro d z I J (f := 7) h c1 hwr (fun V hV => by
            rw [ek]
            have := xq_Questions_isTold ro (d + 3) z V J (q := qm) (k := k) (by rw [hV]; exact hq) hq2 hk8
            rw [vz_b0 hqb] at this
            exact this) (Or.inr ⟨rfl, by rw [ek]; exact g0, by rw [ek]; exact g8⟩)
          refine ⟨.inl (7, p + 1), W, a1, ⟨by omega, by omega, by omega, a2, a3⟩, fun M JM n0 j hM hm => ⟨_, 0, ((xl_rlw ro e z M JM hM hm hs2 htm hd).2 hf).trans (xl_rlk ro e z M JM (qm := qm) (nI w) hM c1 (Or.inr ⟨rfl, by rw [ek]; exact gin, fun V hV => by
            rw [ek]
            have := xq_Mo_isQuestion ro (e + 2) z V JM (m := qm) (w := k) hV hq2 hk8
            rw [vz_b0 hqb] at this
            exact this⟩) hm.2.2.2.2.1), rfl, xu_eq, tl_gt (tl_g8 M _) (tl_g10 _ _)⟩⟩
        · have h1 := tp_Cs h c1
          have hT := xq_Questions_isTold ro (d + 3) z (xv_u2 I 1 3 (nI (p + 1))) J (q := qm) (k := k) (by rw [xu_ne (by omega)]; exact hq) hq2 hk8
          rw [vz_b1 hqb, ← ek] at hT
          have z1 : ((1 : Int32) = 0) = False := eq_false (by decide)
          have cls : xv_evm ro (d + 4) 172 [.ref 111, .ref 1, .ref 3] (z, xv_mk I J) = xv_ev ro (d + 4) xm_Archive_line xb_Archive_line_61 [some (.ref 111), some (.ref 1), some (.ref 3), some (.int (nI w)), some (.int (nI k)), none, none] [] (z, xv_mk (xv_u2 I 1 3 (nI (p + 1))) J) := by
            have hsg := xq_sign ro (d + 3) z I J h
            have hr0 := xq_Arefuse_0 ro (d + 2) z I J
            have hst := xq_step ro (d + 3) z I J h c1
            have hs1 := xq_sign ro (d + 3) z _ J h1
            rw [xe_Archive_line]
            simp only [xr_all, xf_all, if_true, if_false, true_or, or_true, eq_self, ite_not, Bool.false_eq_true, ite_self, and_self, true_and, and_true, false_and, and_false, not_true_eq_false, not_false_eq_true, xj_Archive_line, xb_Archive_line_0, xb_Archive_line_52, xb_Archive_line_56, xb_Archive_line_58, xb_Archive_line_84, xb_Archive_line_111, hsg, hwr, hr0, hst, hs1, hT, z1]
            rw [ev, ek]
          by_cases hy : (p + 2 < n ∧ b (p + 2) = 43) ∨ (p + 2 < n ∧ b (p + 2) = 45)
          rotate_left
          · have h43 : ¬ (p + 2 < n ∧ b (p + 2) = 43) := fun q => hy (Or.inl q)
            have h45 : ¬ (p + 2 < n ∧ b (p + 2) = 45) := fun q => hy (Or.inr q)
            obtain ⟨W, a1, a2, a3⟩ := xl_ln2 ro d z _ J (nI w) (nI k) h1 k1 h43 h45
            refine ⟨.inl (1, p + 2), W, cls.trans a1, ⟨by omega, by omega, by omega, tl_frt (tl_fr3 I _) a2, a3⟩, fun M JM n0 j hM hm => ⟨_, 0, ((xl_rlw ro e z M JM hM hm hs2 htm hd).2 hf).trans (xl_rly ro e z M JM (nI w) hM k1 hk8 hbk hm.2.2.2.2.1 hq2 hqb h43 h45), rfl, xu_eq, tl_gt (tl_g8 M _) (tl_g10 _ _)⟩⟩
          · obtain ⟨y, hp2, hy1, hyy⟩ : ∃ y : Nat, p + 2 < n ∧ y ≤ 1 ∧ ((y = 1 ∧ b (p + 2) = 43) ∨ (y = 0 ∧ b (p + 2) = 45)) := by
              rcases hy with hy | hy
              · exact ⟨1, hy.1, by omega, Or.inl ⟨rfl, hy.2⟩⟩
              · exact ⟨0, hy.1, by omega, Or.inr ⟨rfl, hy.2⟩⟩
            obtain ⟨c, p', hc1, hpp, hcc⟩ : ∃ c p' : Nat, c ≤ 1 ∧ p' ≤ n ∧ ((c = 1 ∧ (p + 3 < n ∧ b (p + 3) = 42) ∧ p' = p + 4) ∨ (c = 0 ∧ ¬ (p + 3 < n ∧ b (p + 3) = 42) ∧ p' = p + 3)) := by
              by_cases hc : p + 3 < n ∧ b (p + 3) = 42
              · exact ⟨1, p + 4, by omega, by omega, Or.inl ⟨rfl, hc, rfl⟩⟩
              · exact ⟨0, p + 3, by omega, by omega, Or.inr ⟨rfl, hc, rfl⟩⟩
            have hyv : nI y = 0 ∨ nI y = 1 := by
              rcases hyy with ⟨rfl, -⟩ | ⟨rfl, -⟩
              · exact Or.inr rfl
              · exact Or.inl rfl
            have hcv : nI c = 0 ∨ nI c = 1 := by
              rcases hcc with ⟨rfl, -⟩ | ⟨rfl, -⟩
              · exact Or.inr rfl
              · exact Or.inl rfl
            obtain ⟨W, s1, s2⟩ := xq_say ro d z (xv_u2 I 1 3 (nI p')) J (A := 111) (n := sd) (w := w) (l := ly w) (nI k) (nI y) (nI c) (Or.inr (Or.inr rfl)) (by rw [xu_ne (by omega)]; exact hs) hsd.1 hw10 (by rw [xu_ne (by omega), ht w hw10, if_pos hsd.2.1]) (by rw [xu_ne (by omega)]; exact (hl w hw10).1) hsd.2.2 (hl w hw10).2 hyv hcv
            have hln := xl_ln3 ro d z (xv_u2 I 1 3 (nI (p + 1))) W J (p' := p') (y := y) (c := c) (nI w) (nI k) _ h1 hp2 hyy hcc (by rw [xu_uu]; exact s1)
            have hWo := s2.2.2.2.2.2.2.2.2.2.2.2.2.2
            have hCp := tp_Cq h hpp
            refine ⟨.inr (w, k, y, c, p'), W, cls.trans hln, ⟨by omega, hw10, hk8, hy1, hc1, hsd.1, hsd.2.2, tp_Cc hCp (fun i _ => by rw [hWo 1 (by omega) (by omega) (by omega) (by omega)]) (hWo 2 (by omega) (by omega) (by omega) (by omega)), s2⟩, fun M JM n0 j hM hm => ?_⟩
            have hm1 := xl_rlw ro e z M JM hM hm hs2 htm hd
            obtain ⟨m1, m2, m3, m4, m5, m6⟩ := hm
            obtain ⟨pc, l0, e1, e2, e3, e4⟩ := m6 w hw10
            refine ⟨_, 1, (hm1.2 hf).trans (xl_rls ro e z M JM (p' := p') (pc := pc) (j := j) (y := y) (c := c) hM hp2 hk8 hbk m5 hq2 hqb hw10 e1 m2 (by omega) hyy hcc), rfl, ?_, ⟨fun a q1 q2 q3 q4 q5 => by (repeat (first | rw [xu_ne2 (by omega)] | rw [xu_ne (by omega)] | rw [xu_eq])), fun i q1 q2 q3 => by (repeat (first | rw [xu_ne2 (by omega)] | rw [xu_ne (by omega)] | rw [xu_eq]))⟩, xu_eq, fun v => ?_, fun i => ?_, fun i => ?_, fun i => ?_⟩
            · exact tp_Mc (tp_Mq hM hpp) (by (repeat (first | rw [xu_ne2 (by omega)] | rw [xu_ne (by omega)] | rw [xu_eq]))) (by (repeat (first | rw [xu_ne2 (by omega)] | rw [xu_ne (by omega)] | rw [xu_eq]))) (by (repeat (first | rw [xu_ne2 (by omega)] | rw [xu_ne (by omega)] | rw [xu_eq])))
            · by_cases c : v = w
              · rw [if_pos c, c, xu_ne (by omega), xu_ne (by omega), xu_ne (by omega), xu_ne (by omega), xu_eq, e1, nI_1]
              · rw [if_neg c]; (repeat (first | rw [xu_ne2 (by omega)] | rw [xu_ne (by omega)] | rw [xu_eq]))
            · by_cases c : i = j
              · rw [if_pos c, c]; (repeat (first | rw [xu_ne2 (by omega)] | rw [xu_ne (by omega)] | rw [xu_eq]))
              · rw [if_neg c]; (repeat (first | rw [xu_ne2 (by omega)] | rw [xu_ne (by omega)] | rw [xu_eq]))
            · by_cases c : i = j
              · rw [if_pos c, c]; (repeat (first | rw [xu_ne2 (by omega)] | rw [xu_ne (by omega)] | rw [xu_eq]))
              · rw [if_neg c]; (repeat (first | rw [xu_ne2 (by omega)] | rw [xu_ne (by omega)] | rw [xu_eq]))
            · by_cases c : i = j
              · rw [if_pos c, c]; (repeat (first | rw [xu_ne2 (by omega)] | rw [xu_ne (by omega)] | rw [xu_eq]))
              · rw [if_neg c]; (repeat (first | rw [xu_ne2 (by omega)] | rw [xu_ne (by omega)] | rw [xu_eq]))
