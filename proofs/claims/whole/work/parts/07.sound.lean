/-! SOUNDNESS: what the small machine does, the JVM does -/
def xv_rok (ret : Option FieldType) (i : Instr) : Bool :=
  match i, ret with
  | .return_, none => true
  | .return_, _ => false
  | .ireturn, some .int => true
  | .ireturn, some .boolean => true
  | .ireturn, _ => false
  | .lreturn, some .long => true
  | .lreturn, _ => false
  | .areturn, some (.object _) => true
  | .areturn, some (.array _) => true
  | .areturn, _ => false
  | _, _ => true
def xv_mname : Nat → MethodName
  | 0 => Lib.Math.abs.name
  | 1 => Lib.MathLoose.abs_long.x
  | 2 => Lib.Math.max.name
  | 3 => Lib.MathLoose.max_long.x
  | 4 => Lib.Math.min.name
  | _ => Lib.MathLoose.min_long.x
def xv_cok (mt : Nat → Option xv_M) (own : String) (i : Instr) (a b w : Nat) (v : Value) : Bool :=
  match i with
  | .invokevirtual k => (match mt a, v with
    | some M, .int ci => decide (M.2.2.2.2.1 = (ci.toNatClampNeg, 1, b)) && decide (xv_T[w]? = some (.methodLink own k M.1))
    | _, _ => false)
  | .invokestatic k => if v = .null then decide (xv_T[w]? = some (.methodLink own k (xv_mname a))) else (match mt a with
    | some M => decide (M.2.2.2.2.1.2 = (0, b)) && decide (xv_T[w]? = some (.methodLink own k M.1))
    | none => false)
  | .invokespecial k => if v = .null then decide (xv_T[w]? = some (.methodLink own k Lib.objectInit)) else (match mt a with
    | some M => decide (M.2.2.2.2.1.2 = (2, b)) && (decide (v = .int 0) && decide (xv_T[w]? = some (.methodLink own k M.1)) || decide (v = .int 1) && decide (xv_T[w]? = some (.methodLinkNest own k M.1 "OnionCourt")))
    | none => false)
  | _ => true
def xv_tsw : Instr → Bool
  | .tableswitch _ _ _ _ => true
  | _ => false
def xv_bok (mt : Nat → Option xv_M) (M : xv_M) : List xv_Op → Nat → Bool
  | [], _ => true
  | (i, a, b, w, v) :: ops, pc => if i = .nop then decide (a = pc) else
    match decode M.2.1 pc with
    | .ok (j, len) => decide (j = i) && (decide (len = xv_nx i) || xv_tsw i) && xv_lok M.1.cls M.2.2.1 M.2.2.2.2.2.1 i w v && xv_jok pc i a && xv_hok M.1.cls M.1.name i a b w v && xv_cok mt M.1.cls i a b w v && xv_rok M.2.2.2.1 i && xv_bok mt M ops (pc + xv_nx i)
    | .error _ => false
def xv_mok (mt : Nat → Option xv_M) (M : xv_M) : Prop :=
  (Cond.code M.1 M.2.1 M.2.2.1 M.2.2.2.1 ∈ xv_T ∧ Cond.initialized M.1.cls ∈ xv_T ∧ plainName M.1.cls = true) ∧
  (M.1.cls ≠ "java/lang/invoke/MethodHandle" ∧ M.1.cls ≠ "java/lang/invoke/VarHandle" ∧ (parseMethodDescriptor M.1.desc).map (fun d => d.parameters.length) = some M.2.2.2.2.1.2.2) ∧ M.2.2.1 ≤ 40 ∧
  (M.2.2.2.2.1.2.1 = 0 → Cond.static M.1 ∈ xv_T) ∧
  (M.2.2.2.2.1.2.1 = 1 → Cond.instanceMethod M.1 ∈ xv_T ∧ Cond.selects M.1.cls M.1 M.1 ∈ xv_T ∧ ∃ q : vw_C, xv_cl[M.2.2.2.2.1.1]? = some q ∧ q.1 = M.1.cls) ∧
  (M.2.2.2.2.1.2.1 = 2 → Cond.instanceMethod M.1 ∈ xv_T ∧ M.1.name = "<init>" ∧ M.2.2.2.1 = none) ∧
  ∀ pc, xv_bok mt M (xv_at M.2.2.2.2.2.2 pc) pc = true
def xv_rm (d mc ms : Nat) : Room := { frames := d, cells := mc, slots := ms, locals := 64 * d }
def xv_Kn (base : Nat) (aC : Nat → ClassId) (ad : Nat → Nat) (D : va_G) (ro : xv_Ro) (U : State) : Prop :=
  va_K D xv_cl (xv_tys aC) U ∧ (∀ k L f, ro k = some (L, f) → va_T .int (ad k) L (fun j => .int (f j)) (xv_A base) U U.heap) ∧ va_Z "OnionCourt" "WORLDS_OF_FACT" "[I" (.ref (ad 1000000)) (xv_A base) U U.heap ∧ ∀ w ∈ xv_T, w.before #[] U = true
def xv_Pc (base : Nat) (aC : Nat → ClassId) (ad : Nat → Nat) (D : va_G) (ro : xv_Ro) (σ : xv_S) (as : List Value) : Array Value → State → Prop := fun v U =>
  v = (as.map (xv_sh ad)).toArray ∧ U.heap.size = base + σ.1.1 ∧ va_P D xv_cl (xv_w aC ad σ) U.heap ∧ xv_dead σ ∧ xv_Kn base aC ad D ro U
def xv_Qc (base : Nat) (aC : Nat → ClassId) (ad : Nat → Nat) (D : va_G) (σ : xv_S) (r : Option Value) : Array Value → State → Outcome → State → Prop := fun _ st o t =>
  (o = .returned (r.map (xv_sh ad)) ∧ t.heap.size = base + σ.1.1 ∧ va_P D xv_cl (xv_w aC ad σ) t.heap ∧ xv_dead σ) ∧ va_F (xv_A base) st t
theorem xv_good1 : xv_T.all xv_wk = true := by decide +kernel
/-- the words stay what they are while the machine warms -/
theorem xv_warm {w : Cond} (hk : xv_wk w = true) {s U : State} {A A' : Array Value} (hW : s.WarmedH U.vm) (h : w.before A s = true) : w.before A' U = true := by
  have gen : (w.onTables && w.keeps) = true → w.before A' U = true := fun h1 => word_at hW (Or.inl h1) h
  cases w with
  | arrayClass ty => exact word_at hW (Or.inr ⟨ty, rfl⟩) h
  | methodLinkNest a i x d => exact va_Nw.use rfl (va_Nw.warmM hW (va_Nw.of rfl h))
  | fieldLinkNest a i b n d x => exact va_Nw.use rfl (va_Nw.warmF hW (va_Nw.of rfl h))
  | privateMethod x => exact va_tabs rfl (rfl : (s.setVm U.vm).vm = U.vm) (by rw [Cond.privateMethod_setVm hW.alike]; exact h)
  | arrayOver ty =>
    cases ty with
    | object C => exact va_AO.use (va_AO.moved hW.alike (va_AO.of h))
    | _ => exact gen hk
  | _ => exact gen hk
theorem xv_warmT {s U : State} {A A' : Array Value} (hW : s.WarmedH U.vm) (h : ∀ w ∈ xv_T, w.before A s = true) : ∀ w ∈ xv_T, w.before A' U = true := fun w hw => xv_warm (List.all_eq_true.mp xv_good1 w hw) hW (h w hw)
theorem xv_goodIn (y : MethodName) (b : ByteArray) (n : Nat) (r : Option FieldType) (hw : Cond.code y b n r ∈ xv_T) : GoodIn xv_T [Cond.code y b n r] := by
  intro v hv
  rcases List.mem_singleton.mp hv with rfl
  refine ⟨hw, Or.inl ?_⟩
  first | rfl | simp [Cond.onTables, Cond.keeps, Cond.steady]
/-- from a method's start to a point of its body -/
theorem xv_Kn_moved {base : Nat} {aC : Nat → ClassId} {ad : Nat → Nat} {D : va_G} {ro : xv_Ro} {u U : State} {H : Heap} {locs : List Loc} (hW : u.WarmedH U.vm) (hH : U.heap = H) (hS : va_S (xv_A base) u.heap H locs) (h : xv_Kn base aC ad D ro u) : xv_Kn base aC ad D ro U := by
  obtain ⟨h1, h2, h3, h4⟩ := h
  subst hH
  refine ⟨h1.moved hW.alike, fun k L f hk => ?_, ?_, xv_warmT hW h4⟩
  · exact ((h2 k L f hk).kept (fun a h1 h2 => hS.2.1 a h1 h2)).moved hW.alike
  · have h5 := h3.moved (U := U) hW.alike
    obtain ⟨cf, kf, fi, f, a, cell, e1, e2, e3, e4, e5, e6, e7, e8⟩ := h5
    exact ⟨cf, kf, fi, f, a, cell, e1, e2, e3, e4, (hS.2.1 a (Array.getElem?_eq_some_iff.mp e5).1 e8).trans e5, e6, e7, e8⟩
theorem xv_Pc_blind {base : Nat} {aC : Nat → ClassId} {ad : Nat → Nat} {D : va_G} {ro : xv_Ro} {σ : xv_S} {as : List Value} : FrameBlind (xv_Pc base aC ad D ro σ as) := by
  intro a U g mk h
  obtain ⟨h1, h2, h3, h4, h5⟩ := h
  exact ⟨h1, h2, h3, h4, xv_Kn_moved (u := U) (U := U.calling g mk a) (State.WarmedH.refl U) rfl va_S.rf h5⟩
theorem xv_mini : Cond.initialized "java/lang/Math" ∈ xv_T := List.mem_of_getElem? (i := 87) (by decide +kernel)
theorem xv_m0 : Cond.static Lib.Math.abs.name ∈ xv_T ∧ Cond.code Lib.Math.abs.name Lib.Math.abs.code 1 (some .int) ∈ xv_T := ⟨List.mem_of_getElem? (i := 978) (by decide +kernel), List.mem_of_getElem? (i := 979) (by decide +kernel)⟩
theorem xv_m1 : Cond.static Lib.MathLoose.abs_long.x ∈ xv_T ∧ Cond.code Lib.MathLoose.abs_long.x Lib.MathLoose.abs_long.code 2 (some .long) ∈ xv_T := ⟨List.mem_of_getElem? (i := 911) (by decide +kernel), List.mem_of_getElem? (i := 912) (by decide +kernel)⟩
theorem xv_m2 : Cond.static Lib.Math.max.name ∈ xv_T ∧ Cond.code Lib.Math.max.name Lib.Math.max.code 2 (some .int) ∈ xv_T := ⟨List.mem_of_getElem? (i := 677) (by decide +kernel), List.mem_of_getElem? (i := 678) (by decide +kernel)⟩
theorem xv_m3 : Cond.static Lib.MathLoose.max_long.x ∈ xv_T ∧ Cond.code Lib.MathLoose.max_long.x Lib.MathLoose.max_long.code 4 (some .long) ∈ xv_T := ⟨List.mem_of_getElem? (i := 753) (by decide +kernel), List.mem_of_getElem? (i := 754) (by decide +kernel)⟩
theorem xv_m4 : Cond.static Lib.Math.min.name ∈ xv_T ∧ Cond.code Lib.Math.min.name Lib.Math.min.code 2 (some .int) ∈ xv_T := ⟨List.mem_of_getElem? (i := 756) (by decide +kernel), List.mem_of_getElem? (i := 757) (by decide +kernel)⟩
theorem xv_m5 : Cond.static Lib.MathLoose.min_long.x ∈ xv_T ∧ Cond.code Lib.MathLoose.min_long.x Lib.MathLoose.min_long.code 4 (some .long) ∈ xv_T := ⟨List.mem_of_getElem? (i := 750) (by decide +kernel), List.mem_of_getElem? (i := 751) (by decide +kernel)⟩
theorem xv_objinit : Cond.instanceMethod Lib.objectInit ∈ xv_T ∧ Cond.code Lib.objectInit ⟨#[0xb1]⟩ 1 none ∈ xv_T := ⟨by decide +kernel, by decide +kernel⟩
/-- the locals at the entry -/
theorem xv_lv_args {ad : Nat → Nat} {k : Nat} : ∀ (as : List Value) (n : Nat) (q : Nat × Value), q ∈ xv_lv ad n (xv_flat as ++ List.replicate k none) → q ∈ lv_args n (as.map (xv_sh ad)) := by
  intro as
  induction as with
  | nil =>
    intro n q h
    exfalso
    obtain ⟨j, w⟩ := q
    obtain ⟨i, v, -, h2, -⟩ := xv_lv_mem.mp h
    have : ∀ (m i : Nat) (v : Value), xv_get (List.replicate m none) i = some v → False := by
      intro m
      induction m with
      | zero => intro i v h; cases h
      | succ m ih =>
        intro i v h
        cases i with
        | zero => cases h
        | succ i => exact ih i v h
    exact this k i v h2
  | cons v vs ih =>
    intro n q h
    by_cases hc : v.category = 2
    · have hf : xv_flat (v :: vs) = some v :: none :: xv_flat vs := by simp [xv_flat, hc]
      rw [hf] at h
      have hc2 : (xv_sh ad v).category = 2 := by rw [xv_sh_cat]; exact hc
      show q ∈ (n, xv_sh ad v) :: lv_args (if (xv_sh ad v).category = 2 then n + 2 else n + 1) (vs.map (xv_sh ad))
      rw [if_pos hc2]
      rcases List.mem_cons.mp h with h | h
      · rw [h]; exact List.mem_cons_self
      · exact List.mem_cons_of_mem _ (ih (n + 2) q h)
    · have hf : xv_flat (v :: vs) = some v :: xv_flat vs := by simp [xv_flat, hc]
      rw [hf] at h
      have hc2 : ¬ (xv_sh ad v).category = 2 := by rw [xv_sh_cat]; exact hc
      show q ∈ (n, xv_sh ad v) :: lv_args (if (xv_sh ad v).category = 2 then n + 2 else n + 1) (vs.map (xv_sh ad))
      rw [if_neg hc2]
      rcases List.mem_cons.mp h with h | h
      · rw [h]; exact List.mem_cons_self
      · exact List.mem_cons_of_mem _ (ih (n + 1) q h)
theorem xv_flat_len {ad : Nat → Nat} (as : List Value) : (lg_sl (as.map (xv_sh ad))).length = (xv_flat as).length := by
  induction as with
  | nil => rfl
  | cons v vs ih =>
    have h1 : lg_sl ((v :: vs).map (xv_sh ad)) = (if (xv_sh ad v).category = 2 then [.val (xv_sh ad v), .second] else [.val (xv_sh ad v)]) ++ lg_sl (vs.map (xv_sh ad)) := by simp [lg_sl]
    rw [h1, List.length_append, ih, xv_sh_cat]
    by_cases hc : v.category = 2
    · simp [xv_flat, hc]; omega
    · simp [xv_flat, hc]; omega
theorem xv_ini_lg {M : xv_M} {as : List Value} {ls : xv_L} (h : xv_ini M as = some ls) : xv_lg M.2.2.2.2.2.1 ls ∧ (xv_flat as).length ≤ M.2.2.1 ∧ ls = xv_flat as ++ List.replicate (M.2.2.1 - (xv_flat as).length) none := by
  unfold xv_ini at h
  by_cases hc : (xv_flat as).length ≤ M.2.2.1 ∧ (xv_lgs 0 as).all (fun j => M.2.2.2.2.2.1.contains j) = true
  · rw [if_pos hc] at h
    cases h
    refine ⟨fun j v hj hv => ?_, hc.1, rfl⟩
    have key : ∀ (as : List Value) (n k j : Nat) (v : Value), xv_get (xv_flat as ++ List.replicate k none) j = some v → v.category = 2 → n + j ∈ xv_lgs n as := by
      intro as
      induction as with
      | nil =>
        intro n k j v h hv
        exfalso
        have : ∀ (m i : Nat) (v : Value), xv_get (List.replicate m none) i = some v → False := by
          intro m
          induction m with
          | zero => intro i v h; cases h
          | succ m ih =>
            intro i v h
            cases i with
            | zero => cases h
            | succ i => exact ih i v h
        exact this k j v h
      | cons u us ih =>
        intro n k j v h hv
        by_cases hu : u.category = 2
        · have hf : xv_flat (u :: us) = some u :: none :: xv_flat us := by simp [xv_flat, hu]
          have hg : xv_lgs n (u :: us) = n :: xv_lgs (n + 2) us := by simp [xv_lgs, hu]
          rw [hf] at h
          rw [hg]
          match j, h with
          | 0, h => exact List.mem_cons_self
          | 1, h => cases h
          | j + 2, h =>
            have := ih (n + 2) k j v h hv
            exact List.mem_cons_of_mem _ (by rw [show n + (j + 2) = n + 2 + j by omega]; exact this)
        · have hf : xv_flat (u :: us) = some u :: xv_flat us := by simp [xv_flat, hu]
          have hg : xv_lgs n (u :: us) = xv_lgs (n + 1) us := by simp [xv_lgs, hu]
          rw [hf] at h
          rw [hg]
          match j, h with
          | 0, h => 
            have h : some u = some v := h
            cases h
            exact absurd hv hu
          | j + 1, h =>
            have := ih (n + 1) k j v h hv
            rw [show n + (j + 1) = n + 1 + j by omega]; exact this
    have h1 := key as 0 _ j v hj hv
    rw [Nat.zero_add] at h1
    have h2 := List.all_eq_true.mp hc.2 j h1
    simpa using h2
  · rw [if_neg hc] at h; cases h
section XVS
variable {p : Program} {l : Launch} {e : Env} {R : Room} {s : State} {m : MethodId} {args : Array Value} {below : List Frame} {meth : Method} {c : Code} {H : Heap} {locs : List Loc} {cells slots : Nat} {Q : State → Prop}
variable {cc : ByteArray} {pc : Nat} {LS : Array Slot} {ad : Nat → Nat} {base : Nat} {aC : Nat → ClassId} {D : va_G} {ro : xv_Ro}
theorem xv_ret_ok {M : xv_M} {i : Instr} {st : List Value} {r : Option Value} {Qc : Array Value → State → Outcome → State → Prop} {free : Addr → Prop} (hx : p.tables.exec = Jvm.exec) (hb : c.code = cc) (hr : meth.sig.returnType = M.2.2.2.1) (hlocks : meth.locks = false)
    (hd : decode cc pc = .ok (i, 1)) (hok : xv_rok M.2.2.2.1 i = true) (hs : xv_ret M i st = some r) (hq : ∀ t : State, t.heap = H → s.WarmedH t.vm → Qc args s (.returned (r.map (xv_sh ad))) t) (hf : ∀ q ∈ locs, free q.base) :
    W p l e R s m args below meth c H locs cells slots (MQ below Qc args s cells slots free) (F0 m pc LS (st.map (xv_sh ad))) := by
  cases i with
  | return_ =>
    match st, hs with
    | [], hs =>
      cases hs
      cases hrt : M.2.2.2.1 with
      | none => exact W.vret hx hb (hr.trans hrt) hq hf hd hlocks
      | some ty => rw [hrt] at hok; cases hok
  | ireturn =>
    match st, hs with
    | [.int x], hs =>
      change (if M.2.2.2.1 = some FieldType.int then some (some (Value.int x)) else if M.2.2.2.1 = some FieldType.boolean ∧ (x = 0 ∨ x = 1) then some (some (Value.int x)) else none) = _ at hs
      by_cases h1 : M.2.2.2.1 = some .int
      · rw [if_pos h1] at hs
        cases hs
        exact W.iret hx hb (hr.trans h1) hq hf hd hlocks
      · rw [if_neg h1] at hs
        by_cases h2 : M.2.2.2.1 = some .boolean ∧ (x = 0 ∨ x = 1)
        · rw [if_pos h2] at hs
          cases hs
          exact W.zret hx hb (hr.trans h2.1) (by rcases h2.2 with rfl | rfl <;> rfl) hq hf hd hlocks
        · rw [if_neg h2] at hs; cases hs
  | lreturn =>
    match st, hs with
    | [.long x], hs =>
      cases hs
      match hrt : M.2.2.2.1, hok with
      | some .long, _ => exact W.lret hx hb (hr.trans hrt) hq hf hd hlocks
  | areturn =>
    have hrt : (∃ n, M.2.2.2.1 = some (.object n)) ∨ ∃ t, M.2.2.2.1 = some (.array t) := by
      match hrt : M.2.2.2.1, hok with
      | some (.object n), _ => exact Or.inl ⟨n, rfl⟩
      | some (.array n), _ => exact Or.inr ⟨n, rfl⟩
    match st, hs with
    | [.null], hs =>
      cases hs
      rcases hrt with ⟨n, hrt⟩ | ⟨n, hrt⟩
      · exact W.aret hx hb (hr.trans hrt) (Or.inl ⟨n, rfl⟩) (Or.inl rfl) hq hf hd hlocks
      · exact W.aret hx hb (hr.trans hrt) (Or.inr ⟨n, rfl⟩) (Or.inl rfl) hq hf hd hlocks
    | [.ref a], hs =>
      cases hs
      rcases hrt with ⟨n, hrt⟩ | ⟨n, hrt⟩
      · exact W.aret hx hb (hr.trans hrt) (Or.inl ⟨n, rfl⟩) (Or.inr ⟨_, rfl⟩) hq hf hd hlocks
      · exact W.aret hx hb (hr.trans hrt) (Or.inr ⟨n, rfl⟩) (Or.inr ⟨_, rfl⟩) hq hf hd hlocks
  | _ => cases hs
theorem xv_callk {σ' : xv_S} {r : Option Value} {rest st0 : List Value} {mc ms : Nat} {a : Array Value} (hr : va_Run p l e R s m args below meth c H locs cells slots mc ms (F0 m pc LS st0) (rest.map (xv_sh ad)) (xv_Qc base aC ad D σ' r a) (xv_A base)) (hS : va_S (xv_A base) s.heap H locs)
    (kk : ∀ (H1 : Heap) (locs1 : List Loc), xv_Wd base aC ad D s.heap H1 locs1 σ' → W p l e R s m args below meth c H1 locs1 (cells + mc) (slots + ms) Q (F0 m (pc + 3) LS ((r.toList ++ rest).map (xv_sh ad)))) : W p l e R s m args below meth c H locs cells slots Q (F0 m pc LS st0) := by
  intro T hT X
  obtain ⟨v, st₀, t, T', L, h0, X', hL, e1, e2, ⟨⟨hv, g1, g2, g3⟩, hz, hk⟩, st⟩ := hr T hT X
  cases hv
  rw [h0] at hz hk
  obtain ⟨t2, a1, b1⟩ := kk T'.heap (locs ++ L) ⟨by rw [e1]; exact g1, by rw [e1]; exact g2, ⟨Nat.le_trans hS.1 (by rw [e1]; exact hz), fun q h1 h2 => by rw [e1, hk q (Nat.lt_of_lt_of_le h1 hS.1) h2]; exact hS.2.1 q h1 h2, fun q hq => by
      rcases List.mem_append.mp hq with h | h
      · exact hS.2.2 q h
      · exact hL q h⟩, g3⟩ T' rfl X'
  refine ⟨t2, st t2 ?_, b1⟩
  have he : (r.map (xv_sh ad)).toList ++ rest.map (xv_sh ad) = (r.toList ++ rest).map (xv_sh ad) := by cases r <;> simp
  rw [he]
  exact a1
end XVS
