theorem xv_room4 {ad : Nat → Nat} {rest : List Value} (h : rest.length ≤ 4) : ((rest.map (xv_sh ad)).map fun v => v.category).sum ≤ 8 := by
  have key : ∀ l : List Value, ((l.map (xv_sh ad)).map fun v => v.category).sum ≤ 2 * l.length := by
    intro l
    induction l with
    | nil => simp
    | cons v vs ih =>
      have h1 : (xv_sh ad v).category ≤ 2 := by rw [xv_sh_cat]; cases v <;> simp [Value.category]
      simp only [List.map_cons, List.sum_cons, List.length_cons]
      omega
  have := key rest
  omega
theorem xv_bok_use {mt : Nat → Option xv_M} {M : xv_M} {i : Instr} {a b w pc : Nat} {v : Value} {ops : List xv_Op} (hn : ¬ i = .nop) (h : xv_bok mt M ((i, a, b, w, v) :: ops) pc = true) :
    ∃ len, decode M.2.1 pc = .ok (i, len) ∧ (len = xv_nx i ∨ xv_tsw i = true) ∧ xv_lok M.1.cls M.2.2.1 M.2.2.2.2.2.1 i w v = true ∧ xv_jok pc i a = true ∧ xv_hok M.1.cls M.1.name i a b w v = true ∧ xv_cok mt M.1.cls i a b w v = true ∧ xv_rok M.2.2.2.1 i = true ∧ xv_bok mt M ops (pc + xv_nx i) = true := by
  unfold xv_bok at h
  rw [if_neg hn] at h
  cases hd : decode M.2.1 pc with
  | error e => rw [hd] at h; cases h
  | ok q =>
    obtain ⟨j, len⟩ := q
    rw [hd] at h
    simp only [Bool.and_eq_true, decide_eq_true_eq, Bool.or_eq_true] at h
    obtain ⟨⟨⟨⟨⟨⟨⟨h1, h2⟩, h3⟩, h4⟩, h5⟩, h6⟩, h7⟩, h8⟩ := h
    subst h1
    exact ⟨len, rfl, h2, h3, h4, h5, h6, h7, h8⟩
def xv_Body (l : Launch) (base : Nat) (aC : Nat → ClassId) (ad : Nat → Nat) (D : va_G) (mt : Nat → Option xv_M) (ro : xv_Ro) (n : Nat) : Prop :=
  ∀ (d : Nat) (M : xv_M) (ops : List xv_Op) (pc : Nat) (ls : xv_L) (st : List Value) (σ : xv_S) (r : Option Value) (σ' : xv_S), (∀ q, xv_bok mt M (xv_at M.2.2.2.2.2.2 q) q = true) → xv_bok mt M ops pc = true → xv_exec mt ro n d M ops ls st σ = some (r, σ') →
  ∀ (p : Program) (e : Env) (R : Room) (s : State) (m : MethodId) (args : Array Value) (below : List Frame) (meth : Method) (c : Code) (H : Heap) (locs : List Loc) (cells slots : Nat) (LS : Array Slot) (Q : State → Prop) (c0 l0 : Nat),
    p.tables.exec = Jvm.exec → c.code = M.2.1 → c.maxLocals = M.2.2.1 → s.vm.findClass M.1.cls = some m.cls → meth.name = M.1.name → xv_Kn base aC ad D ro s → base ≤ s.heap.size → xv_Wd base aC ad D s.heap H locs σ →
    lv_has LS M.2.2.1 (xv_lv ad 0 ls) → xv_lg M.2.2.2.2.2.1 ls → cells + c0 = σ.1.1 → slots + l0 = σ.1.2 → σ'.1.1 ≤ R.cells + c0 → σ'.1.2 ≤ R.slots + l0 → d ≤ R.frames → 64 * d ≤ R.locals →
    (∀ (H1 : Heap) (locs1 : List Loc) (cells1 slots1 pc1 : Nat) (LS1 : Array Slot) (i : Instr) (st1 : List Value), xv_Wd base aC ad D s.heap H1 locs1 σ' → cells1 + c0 = σ'.1.1 → slots1 + l0 = σ'.1.2 → decode M.2.1 pc1 = .ok (i, 1) → xv_rok M.2.2.2.1 i = true → xv_ret M i st1 = some r →
      W p l e R s m args below meth c H1 locs1 cells1 slots1 Q (F0 m pc1 LS1 (st1.map (xv_sh ad)))) →
    W p l e R s m args below meth c H locs cells slots Q (F0 m pc LS (st.map (xv_sh ad)))
def xv_Meth (l : Launch) (base : Nat) (aC : Nat → ClassId) (ad : Nat → Nat) (D : va_G) (mt : Nat → Option xv_M) (ro : xv_Ro) (n : Nat) : Prop :=
  ∀ (d : Nat) (M : xv_M) (as : List Value) (ls0 : xv_L) (σ : xv_S) (r : Option Value) (σ' : xv_S), xv_mok mt M → xv_ini M as = some ls0 → xv_exec mt ro n d M (xv_at M.2.2.2.2.2.2 0) ls0 [] σ = some (r, σ') →
    Met l M.1 [Cond.code M.1 M.2.1 M.2.2.1 M.2.2.2.1] (xv_rm d (σ'.1.1 - σ.1.1) (σ'.1.2 - σ.1.2)) (xv_Pc base aC ad D ro σ as) (xv_Qc base aC ad D σ' r) (σ'.1.1 - σ.1.1) (σ'.1.2 - σ.1.2) (xv_A base)
theorem xv_meth_of {l : Launch} {base : Nat} {aC : Nat → ClassId} {ad : Nat → Nat} {D : va_G} {mt : Nat → Option xv_M} {ro : xv_Ro} {n : Nat} (hB : xv_Body l base aC ad D mt ro n) : xv_Meth l base aC ad D mt ro n := by
  intro d M as ls0 σ r σ' hM hini hex
  have hmono := xv_mono _ _ _ _ _ _ _ _ _ hex
  refine Met.ofW (cc := M.2.1) (maxL := M.2.2.1) (ret := M.2.2.2.1) hM.1.2.2 rfl ?_
  intro p e s m args below meth c s₁ B hml hPc
  obtain ⟨rfl, hsz, hP, hdead, hKn⟩ := hPc
  obtain ⟨hlg, hfl, rfl⟩ := xv_ini_lg hini
  rw [lg_entry_eq]
  have hlen : (lg_sl (as.map (xv_sh ad))).length ≤ M.2.2.1 := by rw [xv_flat_len]; exact hfl
  have hl := lv_entry (as.map (xv_sh ad)) (n := M.2.2.1) hlen
  have hl2 : lv_has ((lg_sl (as.map (xv_sh ad)) ++ List.replicate (M.2.2.1 - (lg_sl (as.map (xv_sh ad))).length) Slot.unset).toArray) M.2.2.1 (xv_lv ad 0 (xv_flat as ++ List.replicate (M.2.2.1 - (xv_flat as).length) none)) :=
    ⟨hl.1, hl.2.1, fun q hq => hl.2.2 q (xv_lv_args as 0 q hq)⟩
  refine hB d M _ 0 _ [] σ r σ' hM.2.2.2.2.2.2 (hM.2.2.2.2.2.2 0) hex p e _ s m _ below meth c s.heap [] 0 0 _ _ σ.1.1 σ.1.2 B.exec B.bytes hml (findClass_of_methodNamed B.named) (name_of_methodNamed B.named B.method).1 hKn (by rw [hsz]; omega) ⟨hsz, hP, va_S.rf, hdead⟩ hl2 hlg (by omega) (by omega)
    (by show σ'.1.1 ≤ (σ'.1.1 - σ.1.1) + σ.1.1; omega) (by show σ'.1.2 ≤ (σ'.1.2 - σ.1.2) + σ.1.2; omega) (Nat.le_refl d) (Nat.le_refl _) ?_
  intro H1 locs1 cells1 slots1 pc1 LS1 i st1 hw hc hs hd hok hr
  have e1 : cells1 = σ'.1.1 - σ.1.1 := by omega
  have e2 : slots1 = σ'.1.2 - σ.1.2 := by omega
  subst e1; subst e2
  exact xv_ret_ok B.exec B.bytes B.returns B.notSynchronized hd hok hr (fun t ht _ => ⟨⟨rfl, by rw [ht]; exact hw.1, by rw [ht]; exact hw.2.1, hw.2.2.2⟩, hw.2.2.1.F ht⟩) hw.2.2.1.2.2
theorem xv_body_of {l : Launch} {base : Nat} {aC : Nat → ClassId} {ad : Nat → Nat} {D : va_G} {mt : Nat → Option xv_M} {ro : xv_Ro} {n : Nat} (ha : xv_ad base ad) (hmt : ∀ k M, mt k = some M → xv_mok mt M) (hB : xv_Body l base aC ad D mt ro n) (hMe : xv_Meth l base aC ad D mt ro n) : xv_Body l base aC ad D mt ro (n + 1) := by
  intro d M ops pc ls st σ r σ' hM hbok hex p e R s m args below meth c H locs cells slots LS Q c0 l0 hx hb hml hown hname hKn hbs hw hl hlg hc0 hl0 hRc hRs hRf hRl hQ
  have hts : ∀ w ∈ xv_T, w.before args s = true := xv_warmT (State.WarmedH.refl s) hKn.2.2.2
  cases ops with
  | nil => unfold xv_exec at hex; cases hex
  | cons op ops =>
    obtain ⟨i, a, b, w, v⟩ := op
    by_cases hnop : i = .nop
    · subst hnop
      obtain ⟨t, st', h1, h2, -⟩ := xv_exec_1 rfl hex
      cases h1
      have hpc : a = pc := by
        have h3 : decide (a = pc) = true := hbok
        exact of_decide_eq_true h3
      have h4 := h2 a rfl
      exact hB d M _ pc ls st σ r σ' hM (by rw [← hpc]; exact hM a) h4 p e R s m args below meth c H locs cells slots LS Q c0 l0 hx hb hml hown hname hKn hbs hw hl hlg hc0 hl0 hRc hRs hRf hRl hQ
    · obtain ⟨len, hd, hlen, hlok, hjok, hhok, hcok, hrok, hbk⟩ := xv_bok_use hnop hbok
      rcases xv_kd_lt i with hk | hk | hk | hk | hk
      · obtain ⟨ls', st', h1, h2⟩ := xv_exec_0 hk hex
        have hln : len = xv_nx i := by
          rcases hlen with h | h
          · exact h
          · cases i <;> first | (cases h; done) | (cases hk; done)
        subst hln
        exact xv_loc_ok hx hb hown hts hl hlg hd hlok h1 (fun LS' hl' hlg' => hB d M ops _ ls' st' σ r σ' hM hbk h2 p e R s m args below meth c H locs cells slots LS' Q c0 l0 hx hb hml hown hname hKn hbs hw hl' hlg' hc0 hl0 hRc hRs hRf hRl hQ)
      · obtain ⟨t, st', h1, h2, h3⟩ := xv_exec_1 hk hex
        have hln : len = xv_nx i ∨ ∃ d lo hi os, i = .tableswitch d lo hi os := by
          rcases hlen with h | h
          · exact Or.inl h
          · cases i <;> first | (cases h; done) | exact Or.inr ⟨_, _, _, _, rfl⟩
        refine xv_jmp_ok hx hb hnop hd hln hjok h1 (fun q hq => ?_) (fun hq => ?_)
        · exact hB d M _ q ls st' σ r σ' hM (hM q) (h2 q hq) p e R s m args below meth c H locs cells slots LS Q c0 l0 hx hb hml hown hname hKn hbs hw hl hlg hc0 hl0 hRc hRs hRf hRl hQ
        · exact hB d M ops _ ls st' σ r σ' hM hbk (h3 hq) p e R s m args below meth c H locs cells slots LS Q c0 l0 hx hb hml hown hname hKn hbs hw hl hlg hc0 hl0 hRc hRs hRf hRl hQ
      · obtain ⟨st', σ1, h1, h2⟩ := xv_exec_2 hk hex
        have hln : len = xv_nx i := by
          rcases hlen with h | h
          · exact h
          · cases i <;> first | (cases h; done) | (cases hk; done)
        subst hln
        have hm2 := xv_mono _ _ _ _ _ _ _ _ _ h2
        refine xv_hp_ok hx hb hown hts ha hKn.1 hKn.2.1 hKn.2.2.1 hbs hw hd (by rw [hname]; exact hhok) h1 hc0 hl0 (by omega) (by omega) (fun H1 locs1 cells1 slots1 hw1 hc1 hl1 => ?_)
        exact hB d M ops _ ls st' σ1 r σ' hM hbk h2 p e R s m args below meth c H1 locs1 cells1 slots1 LS Q c0 l0 hx hb hml hown hname hKn hbs hw1 hl hlg hc1 hl1 hRc hRs hRf hRl hQ
      · have hln : len = xv_nx i := by
          rcases hlen with h | h
          · exact h
          · cases i <;> first | (cases h; done) | (cases hk; done)
        subst hln
        obtain ⟨d', rfl, h2 | h2⟩ := xv_exec_3 hk hex
        · obtain ⟨rfl, st', rest, hsp, hr4, h3⟩ := h2
          have hbk2 : xv_nx i = 3 := by cases i <;> first | rfl | (cases hk; done)
          rw [hbk2] at hbk
          have hcont : W p l e R s m args below meth c H locs cells slots Q (F0 m (pc + 3) LS (st'.map (xv_sh ad))) := hB (d' + 1) M ops _ ls st' σ r σ' hM hbk h3 p e R s m args below meth c H locs cells slots LS Q c0 l0 hx hb hml hown hname hKn hbs hw hl hlg hc0 hl0 hRc hRs hRf hRl hQ
          have hmo := xv_mono _ _ _ _ _ _ _ _ _ h3
          have hsum := xv_room4 (ad := ad) hr4
          cases i with
          | invokespecial k =>
            match st, hsp with
            | .ref q :: rest', hsp =>
              have e1 : rest' = st' := (congrArg Prod.fst (Option.some.inj hsp))
              have e2 : rest' = rest := (congrArg Prod.snd (Option.some.inj hsp))
              subst e1
              rw [← e2] at hsum
              have hlink : xv_T[w]? = some (.methodLink M.1.cls k Lib.objectInit) := of_decide_eq_true hcok
              have hroom := lv_room (m := m) (pc := pc) (ls := LS) (rest := (Value.ref q :: rest').map (xv_sh ad)) hsum
              exact W.objInit hx hb hown (hts _ (List.mem_of_getElem? hlink)) (hts _ xv_objinit.1) (hts _ xv_objinit.2) rfl (hl.1.trans hml.symm) rfl hd (by omega) (by omega) hcont
          | invokevirtual k => exfalso; dsimp only [xv_cok] at hcok; cases hq : mt a <;> rw [hq] at hcok <;> cases hcok
          | invokestatic k =>
            have hlink : xv_T[w]? = some (.methodLink M.1.cls k (xv_mname a)) := of_decide_eq_true hcok
            have hlk := hts _ (List.mem_of_getElem? hlink)
            have hmls : c.maxLocals = LS.size := hml.trans hl.1.symm
            have hin := hts _ xv_mini
            have hsp2 : xv_math a st = some (st', rest) := hsp
            match a, st, hsp2, hlk with
            | 0, .int x :: r, hsp2, hlk => cases hsp2; exact va_mabs hx hb hmls hown hlk (hts _ xv_m0.1) hin (hts _ xv_m0.2) (by omega) (by omega) (by omega) (by omega) hd hcont
            | 1, .long x :: r, hsp2, hlk => cases hsp2; exact va_mabs_long hx hb hmls hown hlk (hts _ xv_m1.1) hin (hts _ xv_m1.2) (by omega) (by omega) (by omega) (by omega) hd hcont
            | 2, .int y :: .int x :: r, hsp2, hlk => cases hsp2; exact va_mmax hx hb hmls hown hlk (hts _ xv_m2.1) hin (hts _ xv_m2.2) (by omega) (by omega) (by omega) (by omega) hd hcont
            | 3, .long y :: .long x :: r, hsp2, hlk => cases hsp2; exact va_mmax_long hx hb hmls hown hlk (hts _ xv_m3.1) hin (hts _ xv_m3.2) (by omega) (by omega) (by omega) (by omega) hd hcont
            | 4, .int y :: .int x :: r, hsp2, hlk => cases hsp2; exact va_mmin hx hb hmls hown hlk (hts _ xv_m4.1) hin (hts _ xv_m4.2) (by omega) (by omega) (by omega) (by omega) hd hcont
            | 5, .long y :: .long x :: r, hsp2, hlk => cases hsp2; exact va_mmin_long hx hb hmls hown hlk (hts _ xv_m5.1) hin (hts _ xv_m5.2) (by omega) (by omega) (by omega) (by omega) hd hcont
          | _ => cases hk
        · obtain ⟨hv, k, as, rest, M', ls0, r1, σ1, hcall, hm', hini, hr4, hal, h3, h4⟩ := h2
          have hM' := hmt k M' hm'
          have hMet := hMe d' M' as ls0 σ r1 σ1 hM' hini h3
          have hm1 := xv_mono _ _ _ _ _ _ _ _ _ h3
          have hm2 := xv_mono _ _ _ _ _ _ _ _ _ h4
          have hKU : ∀ U : State, U.heap = H → s.WarmedH U.vm → xv_Pc base aC ad D ro σ as (as.map (xv_sh ad)).toArray U := fun U hU hW => ⟨rfl, by rw [hU]; exact hw.1, by rw [hU]; exact hw.2.1, hw.2.2.2, xv_Kn_moved hW hU hw.2.2.1 hKn⟩
          have hf : cells + (σ1.1.1 - σ.1.1) ≤ R.cells ∧ slots + (σ1.1.2 - σ.1.2) ≤ R.slots := ⟨by omega, by omega⟩
          have hR : (xv_rm d' (σ1.1.1 - σ.1.1) (σ1.1.2 - σ.1.2)).frames + 1 ≤ R.frames ∧ 8 + (M'.2.2.1 + 11) + (xv_rm d' (σ1.1.1 - σ.1.1) (σ1.1.2 - σ.1.2)).locals ≤ R.locals := by
            have := hM'.2.2.1
            refine ⟨hRf, ?_⟩
            show 8 + (M'.2.2.1 + 11) + 64 * d' ≤ R.locals
            omega
          have hgood := xv_goodIn M'.1 M'.2.1 M'.2.2.1 M'.2.2.2.1 hM'.1.1
          have hinit := hts _ hM'.1.2.1
          have hcont : ∀ (H1 : Heap) (locs1 : List Loc), xv_Wd base aC ad D s.heap H1 locs1 σ1 → W p l e R s m args below meth c H1 locs1 (cells + (σ1.1.1 - σ.1.1)) (slots + (σ1.1.2 - σ.1.2)) Q (F0 m (pc + 3) LS ((r1.toList ++ rest).map (xv_sh ad))) := by
            intro H1 locs1 hw1
            have hnx : xv_nx i = 3 := by cases i <;> first | rfl | (cases hk; done)
            rw [hnx] at hbk
            exact hB (d' + 1) M ops _ ls _ σ1 r σ' hM hbk h4 p e R s m args below meth c H1 locs1 _ _ LS Q c0 l0 hx hb hml hown hname hKn hbs hw1 hl hlg (by omega) (by omega) hRc hRs hRf hRl hQ
          have hsz : LS.size = M.2.2.1 := hl.1
          have hroom := lv_room (m := m) (pc := pc) (ls := LS) (rest := st.map (xv_sh ad)) (xv_room4 (ad := ad) hr4)
          cases i with
          | invokevirtual idx =>
            dsimp only [xv_call, xv_cv] at hcall
            match hdr : st.drop b, v, hcall, hv, hcok with
            | .ref q :: rest', .int ci, hcall, _, hcok =>
              dsimp only at hcall
              cases hq : σ.2 q with
              | inl y => rw [hq] at hcall; cases hcall
              | inr y =>
                obtain ⟨cq, fs⟩ := y
                rw [hq] at hcall
                dsimp only at hcall
                by_cases hcc : cq = ci.toNatClampNeg
                · rw [if_pos hcc] at hcall
                  cases hcall
                  dsimp only [xv_cok] at hcok
                  rw [hm'] at hcok
                  simp only [Bool.and_eq_true, decide_eq_true_eq] at hcok
                  obtain ⟨g1, g2⟩ := hcok
                  have gk : M'.2.2.2.2.1.2.1 = 1 := by rw [g1]
                  have gn : M'.2.2.2.2.1.2.2 = b := by rw [g1]
                  have gc : M'.2.2.2.2.1.1 = ci.toNatClampNeg := by rw [g1]
                  obtain ⟨w1, w2, qc, w3, w4⟩ := hM'.2.2.2.2.1 gk
                  rw [gc, ← hcc] at w3
                  rw [gk, gn] at hal
                  have hlt := xv_liveR hw.2.2.2 hq w3
                  have hat := xv_w_at (aC := aC) (ad := ad) hlt
                  rw [hq] at hat
                  have hsplit : st.map (xv_sh ad) = (((st.take b).reverse).map (xv_sh ad)).reverse ++ .ref (ad q) :: rest.map (xv_sh ad) := by
                    conv => lhs; rw [← List.take_append_drop b st, hdr]
                    simp [xv_sh]
                  have hrun := va_runV (l := l) (e := e) (below := below) (meth := meth) (As := ((st.take b).reverse).map (xv_sh ad)) (rest := rest.map (xv_sh ad)) (g := F0 m pc LS (st.map (xv_sh ad))) (C := M'.1.cls) (index := idx) (n := b) (cells := cells) (slots := slots) (locs := locs) (b := ad q) ⟨hx, hb, hml, hown, hts⟩ hMet
                    ⟨callB_of b hts hgood rfl rfl rfl hinit (hts _ (List.mem_of_getElem? g2)) (by have := hM'.2.1; rw [gn] at this; exact this) hR, hts _ w1, hts _ w2⟩
                    ⟨xv_Pc_blind, by have := va_recv hKn.1 hw.2.1 w3 hat; rw [w4] at this; exact this, fun U hU hW => hKU U hU hW⟩ rfl (by simp at hal ⊢; omega) hsz hsplit hroom hd hf
                  exact xv_callk hrun hw.2.2.1 hcont
                · rw [if_neg hcc] at hcall; cases hcall
          | invokestatic idx =>
            cases hcall
            dsimp only [xv_cok] at hcok
            rw [if_neg hv, hm'] at hcok
            simp only [Bool.and_eq_true, decide_eq_true_eq] at hcok
            obtain ⟨g1, g2⟩ := hcok
            have gk : M'.2.2.2.2.1.2.1 = 0 := by rw [g1]
            have gn : M'.2.2.2.2.1.2.2 = b := by rw [g1]
            rw [gk, gn] at hal
            have hsplit : st.map (xv_sh ad) = (((st.take b).reverse).map (xv_sh ad)).reverse ++ (st.drop b).map (xv_sh ad) := by
              conv => lhs; rw [← List.take_append_drop b st]
              simp
            have hrun := va_runS (l := l) (e := e) (below := below) (meth := meth) (As := ((st.take b).reverse).map (xv_sh ad)) (rest := (st.drop b).map (xv_sh ad)) (g := F0 m pc LS (st.map (xv_sh ad))) (index := idx) (n := b) (cells := cells) (slots := slots) (locs := locs) ⟨hx, hb, hml, hown, hts⟩ hMet
              ⟨callB_of b hts hgood rfl rfl rfl hinit (hts _ (List.mem_of_getElem? g2)) (by have := hM'.2.1; rw [gn] at this; exact this) hR, hts _ (hM'.2.2.2.1 gk)⟩
              ⟨xv_Pc_blind, fun U hU hW => hKU U hU hW⟩ rfl (by simp at hal ⊢; omega) hsz hsplit hroom hd hf
            exact xv_callk hrun hw.2.2.1 hcont
          | invokespecial idx =>
            dsimp only [xv_call, xv_ci] at hcall
            match hdr : st.drop b, hcall with
            | .ref q :: rest', hcall =>
              cases hcall
              dsimp only [xv_cok] at hcok
              rw [if_neg hv, hm'] at hcok
              simp only [Bool.and_eq_true, decide_eq_true_eq, Bool.or_eq_true] at hcok
              obtain ⟨g1, g2⟩ := hcok
              have gk : M'.2.2.2.2.1.2.1 = 2 := by rw [g1]
              have gn : M'.2.2.2.2.1.2.2 = b := by rw [g1]
              obtain ⟨w1, w2, w3⟩ := hM'.2.2.2.2.2.1 gk
              rw [gk, gn] at hal
              rw [w3] at hMet hgood
              have hsplit : st.map (xv_sh ad) = (((st.take b).reverse).map (xv_sh ad)).reverse ++ .ref (ad q) :: rest.map (xv_sh ad) := by
                conv => lhs; rw [← List.take_append_drop b st, hdr]
                simp [xv_sh]
              rcases g2 with ⟨-, g2⟩ | ⟨-, g2⟩
              · have hrun := va_runI (l := l) (e := e) (below := below) (meth := meth) (As := ((st.take b).reverse).map (xv_sh ad)) (rest := rest.map (xv_sh ad)) (g := F0 m pc LS (st.map (xv_sh ad))) (index := idx) (n := b) (cells := cells) (slots := slots) (locs := locs) (b := ad q) ⟨hx, hb, hml, hown, hts⟩ hMet
                  ⟨callB_of b hts hgood rfl rfl rfl hinit (hts _ (List.mem_of_getElem? g2)) (by have := hM'.2.1; rw [gn] at this; exact this) hR, w2, hts _ w1⟩
                  ⟨xv_Pc_blind, fun U hU hW => hKU U hU hW⟩ rfl (by simp at hal ⊢; omega) hsz hsplit hroom hd hf
                exact xv_callk hrun hw.2.2.1 hcont
              · have hrun := va_runIN (l := l) (e := e) (below := below) (meth := meth) (As := ((st.take b).reverse).map (xv_sh ad)) (rest := rest.map (xv_sh ad)) (g := F0 m pc LS (st.map (xv_sh ad))) (index := idx) (n := b) (cells := cells) (slots := slots) (locs := locs) (b := ad q) ⟨hx, hb, hml, hown, hts⟩ hMet
                  ⟨va_cnB b hts hgood rfl rfl rfl (va_Nw.of rfl (hts _ (List.mem_of_getElem? g2))) hinit (by have := hM'.2.1; rw [gn] at this; exact this) hR, w2, hts _ w1⟩
                  ⟨xv_Pc_blind, fun U hU hW => hKU U hU hW⟩ rfl (by simp at hal ⊢; omega) hsz hsplit hroom hd hf
                exact xv_callk hrun hw.2.2.1 hcont
          | _ => cases hk
      · obtain ⟨r1, h1, h2⟩ := xv_exec_4 hk hex
        cases h2
        have hln : len = 1 := by
          rcases hlen with h | h
          · rw [h]; cases i <;> first | rfl | (cases hk; done)
          · cases i <;> first | (cases h; done) | (cases hk; done)
        subst hln
        exact hQ H locs cells slots pc LS i st hw hc0 hl0 hd hrok h1
theorem xv_sound {l : Launch} {base : Nat} {aC : Nat → ClassId} {ad : Nat → Nat} {D : va_G} {mt : Nat → Option xv_M} {ro : xv_Ro} (ha : xv_ad base ad) (hmt : ∀ k M, mt k = some M → xv_mok mt M) : ∀ n, xv_Body l base aC ad D mt ro n := by
  intro n
  induction n with
  | zero =>
    intro d M ops pc ls st σ r σ' hM hbok hex
    unfold xv_exec at hex
    cases hex
  | succ n ih => exact xv_body_of ha hmt ih (xv_meth_of ih)
