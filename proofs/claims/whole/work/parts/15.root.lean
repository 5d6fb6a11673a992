def R_law : String := "OnionCourtLaw"
def lw_P (b : Addr) (xs : List Int32) (args : Array Value) (s : State) : Prop := args = #[.ref b] ∧ s.IntsAt b xs ∧ xs.length ≤ 3072 ∧ (Jvm.Cond.and given_1 narrow_1).before args s = true
def lw_Q (_ : Array Value) (s : State) (o : Outcome) (t : State) : Prop := o = .returned (some (.int 1)) ∧ Framed s o t [] 600000 7302250
def lw_Z (below : List Frame) (a : Array Value) (s : State) : State → Prop := fun t => ∃ o, t.status = .running ∧ Ended t below o ∧ lw_Q a s o t
/-- the law's own end, with 1 on the stack, nothing written that was there before, its room as the claim has it -/
theorem lw_ret {p : Program} {l : Launch} {e : Env} {s : State} {m : MethodId} {below : List Frame} {meth : Method} {c : Code} {b : Nat} (hx : p.tables.exec = Jvm.exec) (hb : c.code = code) (hr : meth.sig.returnType = ret) (hlocks : meth.locks = false) {pc : Nat} {H : Heap} {ls : Array Slot} (hdg : decode code pc = .ok (.ireturn, 1)) : W p l e room_1 s m #[Value.ref b] below meth c H [] 600000 7302250 (lw_Z below #[Value.ref b] s) (F0 m pc ls [.int 1]) := by
  intro T hT X
  obtain ⟨fs, hret, hrun, hended, hW, hframe⟩ := X.leave (v := some (.int 1)) (hlocks := hlocks) (fun h => by rw [hr] at h; cases h)
  have hmeth' : T.vm.method? m = some meth := X.method'
  refine ⟨T.setFrames fs, ?_, .returned (some (.int 1)), hrun, hended, rfl, ⟨_, rfl⟩, hW, hframe⟩
  jvm_step X.here [X.here.top, hx, hb, hdg, hmeth', hr, ret, narrow_b1]
  (try refine ⟨rfl, ?_⟩); (try refine ⟨rfl, ?_⟩)
  first | (intro acts; rw [hret _ acts rfl rfl rfl]) | rw [hret _ _ rfl rfl rfl]
  exact Steps.refl _
/-- what holds at the law's entry: the machine, the code, the tables' words (any of lw_tbl by 'hts w (by decide +kernel)'), the script of L ints xs at the cell b, what the Statement gives of the start (any of its parts by flat_of_before) -/
def lw_At (p : Program) (s : State) (m : MethodId) (meth : Method) (c : Code) (b L : Nat) (xs : Nat → Int32) : Prop :=
  p.tables.exec = Jvm.exec ∧ c.code = code ∧ meth.sig.returnType = ret ∧ c.maxLocals = 4 ∧ s.vm.findClass R_law = some m.cls ∧ (∀ w ∈ lw_tbl, w.before #[Value.ref b] s = true) ∧ va_X b L xs s s.heap ∧ b < s.heap.size ∧ meth.locks = false ∧ meth.name = "law" ∧ (Jvm.Cond.and given_1 narrow_1).before #[Value.ref b] s = true
/-- THE START: what the tables give for the classes and arrays of the world -/
theorem xv_insts : ∀ (ci : Nat) (q : vw_C), xv_cl[ci]? = some q → Cond.instantiable q.1 q.2.2 ∈ xv_T := by
  intro ci q hq
  match ci, hq with
  | 0, hq => cases hq; exact List.mem_of_getElem? (i := 1088) (by decide +kernel)
  | 1, hq => cases hq; exact List.mem_of_getElem? (i := 89) (by decide +kernel)
  | 2, hq => cases hq; exact List.mem_of_getElem? (i := 97) (by decide +kernel)
  | 3, hq => cases hq; exact List.mem_of_getElem? (i := 120) (by decide +kernel)
  | 4, hq => cases hq; exact List.mem_of_getElem? (i := 133) (by decide +kernel)
  | 5, hq => cases hq; exact List.mem_of_getElem? (i := 168) (by decide +kernel)
  | 6, hq => cases hq; exact List.mem_of_getElem? (i := 199) (by decide +kernel)
  | 7, hq => cases hq; exact List.mem_of_getElem? (i := 212) (by decide +kernel)
  | 8, hq => cases hq; exact List.mem_of_getElem? (i := 221) (by decide +kernel)
  | 9, hq => cases hq; exact List.mem_of_getElem? (i := 239) (by decide +kernel)
  | 10, hq => cases hq; exact List.mem_of_getElem? (i := 294) (by decide +kernel)
  | 11, hq => cases hq; exact List.mem_of_getElem? (i := 316) (by decide +kernel)
  | k + 12, hq => simp [xv_cl] at hq
def xv_wof (j : Nat) : Int32 := match j with
  | 0 => -1431655766
  | 1 => -858993460
  | 2 => -252645136
  | 3 => -16711936
  | _ => -65536
def xv_ro (L : Nat) (xs : Nat → Int32) : xv_Ro := fun k => if k = 1000000 then some (5, xv_wof) else if k = 1000001 then some (L, xs) else none
def xv_s0 : xv_S := ((0, 0), fun _ => .inr (1000, []))
/-- what is left: the small machine runs the law to its end, with 1 -/
def xv_goal : Prop := ∀ (L : Nat) (xs : Nat → Int32), L ≤ 3072 → ∃ (n : Nat) (σ : xv_S), xv_exec xv_mt (xv_ro L xs) n 200 xm_Root_law (xv_at xl_Root_law 0) [some (.ref 1000001), none, none, none] [] xv_s0 = some (some (.int 1), σ) ∧ σ.1.1 ≤ 600000 ∧ σ.1.2 ≤ 7302250
theorem xv_ret1 {M : xv_M} {i : Instr} {st : List Value} {z : Int32} (h : xv_ret M i st = some (some (.int z))) : i = .ireturn ∧ st = [.int z] := by
  cases i with
  | return_ => match st, h with
    | [], h => cases h
  | ireturn => match st, h with
    | [.int y], h =>
      change (if M.2.2.2.1 = some FieldType.int then some (some (Value.int y)) else if M.2.2.2.1 = some FieldType.boolean ∧ (y = 0 ∨ y = 1) then some (some (Value.int y)) else none) = _ at h
      split at h
      · cases h; exact ⟨rfl, rfl⟩
      · split at h
        · cases h; exact ⟨rfl, rfl⟩
        · cases h
  | lreturn => match st, h with
    | [.long y], h => cases h
  | areturn => match st, h with
    | [.null], h => cases h
    | [.ref a], h => cases h
  | _ => cases h
theorem xv_arr_of {s : State} {args : Array Value} {ty : FieldType} (h : (Cond.arrayClass ty).before args s = true) (hn : ∀ C, ty ≠ .object C) : ∃ cA : ClassId, ArrOfT s cA ty ∧ va_RA s cA ty := by
  obtain ⟨c, k, comp, h1, h2, h3⟩ := Cond.arrayClass_spec h
  refine ⟨c, fun n z => ⟨fun k h => (by cases h), k, h2, comp, h3⟩, ?_⟩
  cases ty with
  | object C => exact absurd rfl (hn C)
  | _ => exact h1
theorem xv_arr_ofq {s : State} {args : Array Value} {C : String} (h : (Cond.arrayOver (.object C)).before args s = true) : ∃ cA : ClassId, ArrOfT s cA (.object C) ∧ va_RA s cA (.object C) := by
  obtain ⟨comp, c, k, h1, h2, h3, h4, h5⟩ := Cond.arrayOver_spec h
  exact ⟨c, fun n z => ⟨fun k h => (by cases h), k, h3, comp, h4⟩, ⟨k, comp, h3, h4, h1, h5⟩⟩
theorem whole_start (hgoal : xv_goal) {p : Program} {e : Env} {s : State} {m : MethodId} {below : List Frame} {meth : Method} {c : Code} (l : Launch) {b L : Nat} {xs : Nat → Int32} (hL : L ≤ 3072) (C0 : lw_At p s m meth c b L xs) : W p l e room_1 s m #[Value.ref b] below meth c s.heap [] 0 0 (lw_Z below #[Value.ref b] s) (entryFrame m ([Value.ref b] : List Value).toArray 4) := by
  obtain ⟨hx, hb, hr, hml, hown, hts0, hX, hbl, hlocks, hname, hgv⟩ := C0
  have hts := xv_T_of hts0
  have hs := flat_of_before _ hgv
  have hA : ∀ a : Nat, a < s.heap.size → ¬ xv_A s.heap.size a := fun a h => Nat.not_le.mpr h
  -- classes
  have hc : ∀ ci : Nat, ∃ x : ClassId × (Nat → Nat), ∀ q, xv_cl[ci]? = some q → u_Kn s q.1 q.2.1 q.2.2 x.1 x.2 := by
    intro ci
    cases hq : xv_cl[ci]? with
    | none => exact ⟨(0, fun _ => 0), fun q h => by cases h⟩
    | some q =>
      obtain ⟨cC, iS, h⟩ := u_known (C := q.1) (T := q.2.1) (N := q.2.2) hts (xv_cl_ok ci q hq).1 (hts _ (xv_insts ci q hq))
      exact ⟨(cC, iS), fun q' h' => by cases h'; exact h⟩
  have ha : ∀ k : Nat, ∃ cA : ClassId, ∀ ty, ([FieldType.int, .long, .byte, .object "OnionCourt$Witness", .object "OnionCourt$Answer"] : List FieldType)[k]? = some ty → ArrOfT s cA ty ∧ va_RA s cA ty := by
    intro k
    match k with
    | 0 => obtain ⟨cA, h⟩ := xv_arr_of (ty := .int) (hts _ (List.mem_of_getElem? (i := 118) (by decide +kernel))) (fun C h => by cases h); exact ⟨cA, fun ty h2 => by cases h2; exact h⟩
    | 1 => obtain ⟨cA, h⟩ := xv_arr_of (ty := .long) (hts _ (List.mem_of_getElem? (i := 166) (by decide +kernel))) (fun C h => by cases h); exact ⟨cA, fun ty h2 => by cases h2; exact h⟩
    | 2 => obtain ⟨cA, h⟩ := xv_arr_of (ty := .byte) (hts _ (List.mem_of_getElem? (i := 1250) (by decide +kernel))) (fun C h => by cases h); exact ⟨cA, fun ty h2 => by cases h2; exact h⟩
    | 3 => obtain ⟨cA, h⟩ := xv_arr_ofq (C := "OnionCourt$Witness") (hts _ (List.mem_of_getElem? (i := 218) (by decide +kernel))); exact ⟨cA, fun ty h2 => by cases h2; exact h⟩
    | 4 => obtain ⟨cA, h⟩ := xv_arr_ofq (C := "OnionCourt$Answer") (hts _ (List.mem_of_getElem? (i := 220) (by decide +kernel))); exact ⟨cA, fun ty h2 => by cases h2; exact h⟩
    | k + 5 => exact ⟨0, fun ty h => by simp at h⟩
  generalize hD : (((fun ci => (Classical.choose (hc ci)).1), (fun ci => (Classical.choose (hc ci)).2)) : va_G) = D
  generalize haC : (fun k => Classical.choose (ha k)) = aC
  have hK : va_K D xv_cl (xv_tys aC) s := by
    subst hD; subst haC
    refine ⟨fun ci q hq => Classical.choose_spec (hc ci) q hq, fun k q hq => ?_⟩
    match k, hq with
    | 0, hq => cases hq; exact Classical.choose_spec (ha 0) _ rfl
    | 1, hq => cases hq; exact Classical.choose_spec (ha 1) _ rfl
    | 2, hq => cases hq; exact Classical.choose_spec (ha 2) _ rfl
    | 3, hq => cases hq; exact Classical.choose_spec (ha 3) _ rfl
    | 4, hq => cases hq; exact Classical.choose_spec (ha 4) _ rfl
    | k + 5, hq => simp [xv_tys] at hq
  -- the static row
  obtain ⟨t, ht, hT⟩ := va_Tof (args := #[Value.ref b]) (s := s) (tm := .static "OnionCourt" "WORLDS_OF_FACT" "[I") (ty := .int) (N := 5) (f := fun j => .int (xv_wof j)) (A := xv_A s.heap.size) (by decide) (hs _ (by decide +kernel)) (va_eqt (hs _ (by decide +kernel)))
    (fun j hj => by
      match j, hj with
      | 0, _ => exact va_eqt (hs (.eq (.elem (.static "OnionCourt" "WORLDS_OF_FACT" "[I") (.int 0)) (.int (-1431655766))) (by decide +kernel))
      | 1, _ => exact va_eqt (hs (.eq (.elem (.static "OnionCourt" "WORLDS_OF_FACT" "[I") (.int 1)) (.int (-858993460))) (by decide +kernel))
      | 2, _ => exact va_eqt (hs (.eq (.elem (.static "OnionCourt" "WORLDS_OF_FACT" "[I") (.int 2)) (.int (-252645136))) (by decide +kernel))
      | 3, _ => exact va_eqt (hs (.eq (.elem (.static "OnionCourt" "WORLDS_OF_FACT" "[I") (.int 3)) (.int (-16711936))) (by decide +kernel))
      | 4, _ => exact va_eqt (hs (.eq (.elem (.static "OnionCourt" "WORLDS_OF_FACT" "[I") (.int 4)) (.int (-65536))) (by decide +kernel))) hA
  have hZ := va_Zref (args := #[Value.ref b]) (A := xv_A s.heap.size) (hts0 (.laysStatic "OnionCourt" "WORLDS_OF_FACT" "[I") (List.mem_of_getElem? (i := 564) (by decide +kernel))) (hts0 (.initialized "OnionCourt") (List.mem_of_getElem? (i := 73) (by decide +kernel))) ht hA
  have hXT : va_T .int b L (fun j => .int (xs j)) (xv_A s.heap.size) s s.heap := by
    obtain ⟨scr, h1, h2, h3, h4, h5⟩ := hX
    exact ⟨scr, h1, h2, h3, by omega, by rw [h4] <;> rfl, h5, hA b hbl⟩
  generalize had : (fun k => if k = 1000000 then t else if k = 1000001 then b else s.heap.size + k) = ad
  have hadr : xv_ad s.heap.size ad := by
    intro k hk
    subst had
    dsimp only
    rw [if_neg (by omega), if_neg (by omega)]
  have had0 : ad 1000000 = t := by subst had; rfl
  have had1 : ad 1000001 = b := by subst had; rfl
  have hKn : xv_Kn s.heap.size aC ad D (xv_ro L xs) s := by
    refine ⟨hK, fun k N f hk => ?_, by rw [had0]; exact hZ, xv_warmT (State.WarmedH.refl s) hts⟩
    unfold xv_ro at hk
    by_cases h0 : k = 1000000
    · rw [if_pos h0] at hk; cases hk; rw [h0, had0]; exact hT
    · rw [if_neg h0] at hk
      by_cases h1 : k = 1000001
      · rw [if_pos h1] at hk; cases hk; rw [h1, had1]; exact hXT
      · rw [if_neg h1] at hk; cases hk
  obtain ⟨n, σ, hex, hlc, hls⟩ := hgoal L xs hL
  rw [lg_entry_eq]
  have hl := lv_entry ([.ref b]) (n := 4) (Nat.le_of_ble_eq_true rfl)
  have hl2 : lv_has ((lg_sl ([.ref b]) ++ List.replicate (4 - (lg_sl ([.ref b])).length) Slot.unset).toArray) 4 (xv_lv ad 0 [some (.ref 1000001), none, none, none]) := by
    refine ⟨hl.1, hl.2.1, fun q hq => hl.2.2 q ?_⟩
    rcases List.mem_singleton.mp hq with rfl
    show (0, Value.ref (ad 1000001)) ∈ _
    rw [had1]
    exact List.mem_singleton.mpr rfl
  refine xv_sound (l := l) hadr xv_mt_ok n 200 xm_Root_law _ 0 _ [] xv_s0 _ σ xk_Root_law (xk_Root_law 0) hex p e room_1 s m #[Value.ref b] below meth c s.heap [] 0 0 _ _ 0 0 hx hb hml hown hname hKn (Nat.le_refl _) ⟨rfl, fun k q h => (by simp [xv_w, xv_s0] at h), va_S.rf, ⟨Nat.zero_le _, fun _ _ => rfl⟩⟩ hl2
    (fun j v h1 h2 => by
      exfalso
      match j, h1 with
      | 0, h1 => cases h1; simp [Value.category] at h2
      | 1, h1 => cases h1
      | 2, h1 => cases h1
      | 3, h1 => cases h1
      | j + 4, h1 => simp [xv_get] at h1) rfl rfl (by show σ.1.1 ≤ 600000 + 0; omega) (by show σ.1.2 ≤ 7302250 + 0; omega) (Nat.le_of_ble_eq_true rfl) (Nat.le_of_ble_eq_true rfl) ?_
  intro H1 locs1 cells1 slots1 pc1 LS1 i st1 hw h1 h2 hd hok hrr
  obtain ⟨rfl, rfl⟩ := xv_ret1 hrr
  refine va_forget (fun q hq => hw.2.2.1.2.2 q hq) ?_
  refine W.widen (k := 600000) (n := 7302250) (by omega) (by omega) ?_
  exact lw_ret hx hb hr hlocks hd
set_option maxHeartbeats 4000000 in
theorem lw_walk (hgoal : xv_goal) (l : Launch) (hflags : l.flags = flags0) (b : Addr) (xs : List Int32) : MetFree l x (headSpec (Jvm.Cond.code x code maxLocals ret :: tables_1) room_1) (lw_P b xs) (fun _ _ _ _ _ => True) lw_Q := by
  refine MetFree.of_bodyS (code := code) (maxLocals := maxLocals) (ret := ret) (by decide) ?_ ?_
  · intro args s m h hn
    obtain ⟨meth, c, h1, h2, h3, h4, h5, h6, -, -⟩ := Cond.code_spec hn (atoms_spec (ws := Jvm.Cond.code x code maxLocals ret :: tables_1) h _ List.mem_cons_self)
    exact ⟨meth, c, h1, h2, h3, h4, h5, h6⟩
  · intro p e s m args below meth c s₁ B hml0 hP _
    obtain ⟨rfl, hx, hbd, hgv⟩ := hP
    obtain ⟨scr, harrAt, hlist, hof, hsmall⟩ := hx
    obtain ⟨hcb, hkn, -, -⟩ := State.arrayAt?_spec harrAt
    have hown : s.vm.findClass R_law = some m.cls := findClass_of_methodNamed B.named
    have hts0 : ∀ c ∈ (Jvm.Cond.code x code maxLocals ret :: tables_1), c.before #[Value.ref b] s = true := atoms_spec (ws := Jvm.Cond.code x code maxLocals ret :: tables_1) B.pre
    have hts : ∀ w ∈ lw_tbl, w.before #[Value.ref b] s = true := k2_hts_sels lw_privs (fun w hw => hts0 w (List.mem_cons_of_mem _ hw)) lw_privs_ok
    have hml : c.maxLocals = 4 := B.maxLocals_eq (hts0 _ List.mem_cons_self)
    have X₀ : Stand p l e room_1 s m #[Value.ref b] below meth c s₁ [] 0 0 := Stand.of_body B
    have hh0 : s₁.heap = s.heap := by rw [B.state]; rfl
    have hsz : scr.slots.size = xs.length := by rw [← Array.length_toList, hlist, List.length_map]
    have hval : ∀ j : Nat, j < xs.length → scr.slots[j]? = some (.int (xs.getD j 0)) := fun j hj => by
      rw [← Array.getElem?_toList, hlist]
      simp [hj]
    have hbl : b < s.heap.size := (Array.getElem?_eq_some_iff.mp hcb).1
    have hX : va_X b xs.length (fun j => xs.getD j 0) s s.heap := ⟨scr, hcb, hof, hkn, hsz, hval⟩
    have K : W p l e room_1 s m #[Value.ref b] below meth c s₁.heap [] 0 0 (lw_Z below #[Value.ref b] s) (entryFrame m ([Value.ref b] : List Value).toArray 4) := by
      rw [hh0]
      exact whole_start hgoal l hbd ⟨B.exec, B.bytes, B.returns, hml, hown, hts, hX, hbl, B.notSynchronized, (name_of_methodNamed B.named B.method).1, hgv⟩
    obtain ⟨t, a1, o, b1, b2, b3⟩ := K s₁ rfl X₀
    exact ⟨t, o, a1, b1, b2, b3⟩
theorem lw_pre_spec {args : Array Value} {s : State} (h : (Jvm.Cond.and given_1 narrow_1).before args s = true) (hr : rest_1_c.before args s = true) : ∃ (b : Addr) (xs : List Int32), lw_P b xs args s := by
  have hs := flat_of_before _ h
  have hq := flat_of_before _ hr
  have hc : (Cond.count 1).before args s = true := hs _ (by decide +kernel)
  have harr : (Cond.arrayOf (.arg 0) .int).before args s = true := hs _ (by decide +kernel)
  have hle : (Cond.le (.length (.arg 0)) (.int 3072)).before args s = true := hs _ (by decide +kernel)
  have hlen : (Cond.isInt (.length (.arg 0))).before args s = true := hq _ (by decide +kernel)
  have hall : (Cond.all (.arg 0) (.isInt (.elem (.arg 0) (.index 0)))).before args s = true := hq _ (by decide +kernel)
  obtain ⟨b, xs, hb, hx⟩ := State.ints_of_pre rfl harr hlen hall
  have hsm : xs.length < 2 ^ 31 := hx.choose_spec.2.2.2
  have hev : (Term.length (.arg 0)).eval args s none [] s = some (.int xs.length.toInt32) := hx.length_eval hb
  have hv := Cond.le_ints hev (show (Term.int 3072).eval args s none [] s = some (.int 3072) from rfl)
  have hd : xs.length.toInt32 ≤ 3072 := by
    simpa [Cond.before, Cond.holds, hv] using hle
  have hN : xs.length ≤ 3072 := (Int32.ofNat_le_ofNat hsm (by decide)).mp (show Int32.ofNat xs.length ≤ Int32.ofNat 3072 from hd)
  exact ⟨b, xs, Cond.one_arg hc (show args[0]? = some (.ref b) from hb), hx, hN, h⟩
theorem lw_comes (hgoal : xv_goal) (l : Launch) (hflags : l.flags = flags0) : Comes l x (Jvm.Cond.code x code maxLocals ret :: tables_1) room_1 (fun tb e args s => Calls_1 tb e args s ∧ rest_1 tb e args s ∧ Pre_1 tb e args s)
    (fun _ _ args s o t => lw_Q args s o t) := by
  intro p e ha hc hk s m args below hf hfit hheap happ hpre
  obtain ⟨b, xs, hP⟩ := lw_pre_spec hpre.2.2 hpre.2.1
  obtain ⟨k, o, h1, h2, h3, hQ⟩ := lw_walk hgoal l hflags b xs p e ha hc hk s m args below hf ((Spec.applies_iff_loose hf).mp happ).1 hP trivial
  exact ⟨k, o, h1, h2, h3, hQ⟩
theorem lw_frame {s t : State} {o : Outcome} {args : Array Value} (h : Framed s o t [] 600000 7302250) :
    Framed s o t (fieldLocs frame_1_writes args s ++ arrayLocs frame_1_arrays args s ++ staticLocs frame_1_statics s) 600000 7302250 := h
theorem lw_limb (hgoal : xv_goal) (L : Cond) (hL : ∀ (args : Array Value) (s t : State), L.after args s (.returned (some (.int 1))) t = true) :
    ArmFor flags0 classFile x code maxLocals ret World_1 tables_1 room_1 Calls_1 rest_1 Pre_1
      (fun tb e a s o t => postC L tb e a s o t ∧ Framed s o t (fieldLocs frame_1_writes a s ++ arrayLocs frame_1_arrays a s ++ staticLocs frame_1_statics s) 600000 7302250) := by
  intro l hflags _ _ p e ha hc hk s m args below hf hfit hheap happ hpre
  obtain ⟨k, o, h1, h2, h3, rfl, hF⟩ := lw_comes hgoal l hflags p e ha hc hk s m args below hf hfit hheap happ hpre
  exact ⟨k, _, h1, h2, h3, hL args s _, lw_frame hF⟩
theorem xv_i_vc (hgoal : xv_goal) : Claimed_1_1 ∧ Claimed_1_2 := ⟨lw_limb hgoal limb_1_1 (fun args s t => by simp [limb_1_1, Cond.after, Cond.holds, Cond.value]), lw_limb hgoal limb_1_2 (fun args s t => Cond.after_iff.mpr (by
  first | (rw [show limb_1_2 = Cond.eq .result (.int 1) from rfl, Cond.eq_ints (x := 1) (y := 1) rfl rfl]; simp; done) | (simp [limb_1_2, Cond.value, Term.eval]; done)))⟩
