/-! the heap: the world of numbered cells, and the instructions that touch it -/
def xv_cA (ad : Nat → Nat) : ((Nat → Int32) ⊕ (Nat → Int64) ⊕ (Nat → UInt32) ⊕ (Nat → UInt64) ⊕ (Nat → Option Nat)) → ((Nat → Int32) ⊕ (Nat → Int64) ⊕ (Nat → UInt32) ⊕ (Nat → UInt64) ⊕ (Nat → Option Nat))
  | .inr (.inr (.inr (.inr f))) => .inr (.inr (.inr (.inr fun j => (f j).map ad)))
  | y => y
def xv_ce (aC : Nat → ClassId) (ad : Nat → Nat) : xv_C → va_E
  | .inl (k, n, y) => .inl (aC k, n, xv_cA ad y)
  | .inr (ci, fs) => .inr (ci, fs.map (xv_sh ad))
def xv_w (aC : Nat → ClassId) (ad : Nat → Nat) (σ : xv_S) : va_W := (List.range σ.1.1).map fun k => (ad k, xv_ce aC ad (σ.2 k))
def xv_tys (aC : Nat → ClassId) : List (ClassId × FieldType) := [(aC 0, .int), (aC 1, .long), (aC 2, .byte), (aC 3, .object "OnionCourt$Witness"), (aC 4, .object "OnionCourt$Answer")]
def xv_dead (σ : xv_S) : Prop := σ.1.1 ≤ 1000000 ∧ ∀ k, σ.1.1 ≤ k → σ.2 k = .inr (1000, [])
def xv_ad (base : Nat) (ad : Nat → Nat) : Prop := ∀ k, k < 1000000 → ad k = base + k
abbrev xv_A (base : Nat) : Nat → Prop := fun q => base ≤ q
def xv_Wd (base : Nat) (aC : Nat → ClassId) (ad : Nat → Nat) (D : va_G) (H0 H : Heap) (locs : List Loc) (σ : xv_S) : Prop := H.size = base + σ.1.1 ∧ va_P D xv_cl (xv_w aC ad σ) H ∧ va_S (xv_A base) H0 H locs ∧ xv_dead σ
theorem xv_w_at {aC : Nat → ClassId} {ad : Nat → Nat} {σ : xv_S} {k : Nat} (h : k < σ.1.1) : (xv_w aC ad σ)[k]? = some (ad k, xv_ce aC ad (σ.2 k)) := by
  simp [xv_w, h]
theorem xv_w_set {aC : Nat → ClassId} {ad : Nat → Nat} {σ : xv_S} {k : Nat} (c : xv_C) : (xv_w aC ad σ).set k (ad k, xv_ce aC ad c) = xv_w aC ad (σ.1, xv_up σ.2 k c) := by
  apply List.ext_getElem?
  intro j
  by_cases hj : j < σ.1.1
  · rw [xv_w_at (σ := (σ.1, xv_up σ.2 k c)) hj, List.getElem?_set]
    by_cases hk : k = j
    · subst hk
      simp [xv_w, hj, xv_up]
    · have hk' : ¬ j = k := fun h => hk h.symm
      rw [if_neg hk, xv_w_at hj]
      simp [xv_up, hk']
  · have h1 : ((xv_w aC ad σ).set k (ad k, xv_ce aC ad c)).length ≤ j := by simp [xv_w]; omega
    have h2 : (xv_w aC ad (σ.1, xv_up σ.2 k c)).length ≤ j := by simp [xv_w]; omega
    rw [List.getElem?_eq_none h1, List.getElem?_eq_none h2]
theorem xv_w_push {aC : Nat → ClassId} {ad : Nat → Nat} {σ : xv_S} {n : Nat} (c : xv_C) : xv_w aC ad σ ++ [(ad σ.1.1, xv_ce aC ad c)] = xv_w aC ad ((σ.1.1 + 1, n), xv_up σ.2 σ.1.1 c) := by
  unfold xv_w
  rw [List.range_succ, List.map_append]
  congr 1
  · apply List.map_congr_left
    intro k hk
    have : k < σ.1.1 := List.mem_range.mp hk
    have h2 : ¬ k = σ.1.1 := by omega
    simp [xv_up, h2]
  · simp [xv_up]
theorem xv_wD {base : Nat} {aC : Nat → ClassId} {ad : Nat → Nat} {σ : xv_S} (ha : xv_ad base ad) (hd : xv_dead σ) : va_D (xv_A base) (xv_w aC ad σ) := by
  have key : ∀ (i : Nat) (p : Nat × va_E), (xv_w aC ad σ)[i]? = some p → i < σ.1.1 ∧ p.1 = base + i := by
    intro i p h
    have hi : i < (xv_w aC ad σ).length := (List.getElem?_eq_some_iff.mp h).1
    have hi2 : i < σ.1.1 := by simpa [xv_w] using hi
    rw [xv_w_at hi2] at h
    cases h
    exact ⟨hi2, ha i (by have := hd.1; omega)⟩
  refine ⟨fun i j p q hp hq hpq => ?_, fun k q h => ?_⟩
  · have h1 := (key i p hp).2
    have h2 := (key j q hq).2
    omega
  · have h1 := (key k q h).2
    show base ≤ q.1
    omega
theorem xv_liveL {σ : xv_S} {r : Nat} {y : Nat × vp_A} (hd : xv_dead σ) (h : σ.2 r = .inl y) : r < σ.1.1 := by
  rcases Nat.lt_or_ge r σ.1.1 with q | q
  · exact q
  · rw [hd.2 r q] at h; cases h
theorem xv_liveR {σ : xv_S} {r ci : Nat} {q : vw_C} {fs : List Value} (hd : xv_dead σ) (h : σ.2 r = .inr (ci, fs)) (hc : xv_cl[ci]? = some q) : r < σ.1.1 := by
  rcases Nat.lt_or_ge r σ.1.1 with z | z
  · exact z
  · rw [hd.2 r z] at h; cases h; simp [xv_cl] at hc
theorem xv_dead_up {σ : xv_S} {r : Nat} (c : xv_C) (hd : xv_dead σ) (h : r < σ.1.1) : xv_dead (σ.1, xv_up σ.2 r c) := by
  refine ⟨hd.1, fun k hk => ?_⟩
  have h2 : ¬ k = r := by have : σ.1.1 ≤ k := hk; omega
  simp only [xv_up, if_neg h2]
  exact hd.2 k hk
theorem xv_inB_use {i : Int32} {n : Nat} (h : xv_inB i n = true) : vp_in i n := by
  simp only [xv_inB, Bool.and_eq_true, decide_eq_true_eq] at h
  exact vp_in_iff.mpr h
/-- behind a store -/
theorem xv_Wd_set {base : Nat} {aC : Nat → ClassId} {ad : Nat → Nat} {D : va_G} {H0 H1 : Heap} {locs1 : List Loc} {σ : xv_S} {r : Nat} (c : xv_C) (hd : xv_dead σ) (hr : r < σ.1.1) (hz : H1.size = base + σ.1.1)
    (hP : va_P D xv_cl ((xv_w aC ad σ).set r (ad r, xv_ce aC ad c)) H1) (hS : va_S (xv_A base) H0 H1 locs1) : xv_Wd base aC ad D H0 H1 locs1 (σ.1, xv_up σ.2 r c) := by
  rw [xv_w_set] at hP
  exact ⟨hz, hP, hS, xv_dead_up c hd hr⟩
/-- a new cell -/
theorem xv_Wd_push {base : Nat} {aC : Nat → ClassId} {ad : Nat → Nat} {D : va_G} {H0 H H1 : Heap} {locs : List Loc} {σ : xv_S} (c : xv_C) (n : Nat) (ha : xv_ad base ad) (hw : xv_Wd base aC ad D H0 H locs σ) (hlim : σ.1.1 < 1000000) (hz : H1.size = H.size + 1)
    (ho : ∀ q, q < H.size → H1[q]? = H[q]?) (hat : va_at D xv_cl (H.size, xv_ce aC ad c) H1) : xv_Wd base aC ad D H0 H1 locs ((σ.1.1 + 1, n), xv_up σ.2 σ.1.1 c) := by
  obtain ⟨h1, h2, h3, h4⟩ := hw
  have hk : ∀ (k : Nat) (q : Nat × va_E), (xv_w aC ad σ)[k]? = some q → H1[q.1]? = H[q.1]? := fun k q hq => ho q.1 ((h2 k q hq).lt)
  refine ⟨by rw [hz, h1]; show _ = base + (σ.1.1 + 1); omega, ?_, ⟨Nat.le_trans h3.1 (by omega), fun q g1 g2 => (ho q (Nat.lt_of_lt_of_le g1 h3.1)).trans (h3.2.1 q g1 g2), h3.2.2⟩, ⟨by show σ.1.1 + 1 ≤ _; omega, fun k hk2 => ?_⟩⟩
  · rw [← xv_w_push]
    refine (h2.kept hk).app (fun k q hq => ?_)
    have hz : k < 1 := (List.getElem?_eq_some_iff.mp hq).1
    rw [show k = 0 by omega] at hq
    cases hq
    rw [ha _ hlim, ← h1]
    exact hat
  · have hk2 : σ.1.1 + 1 ≤ k := hk2
    have h5 : ¬ k = σ.1.1 := by omega
    show xv_up σ.2 σ.1.1 c k = _
    simp only [xv_up, if_neg h5]
    exact h4.2 k (by omega)
def xv_tyd : Nat → FieldType → Bool
  | 0, .int => true
  | 1, .long => true
  | 2, .boolean => true
  | 3, .object _ => true
  | 3, .array _ => true
  | _, _ => false
theorem xv_ty_use {ad : Nat → Nat} {t : Nat} {ty : FieldType} {v : Value} (h : xv_ty t v = true) (ht : xv_tyd t ty = true) : narrow ty (xv_sh ad v) = xv_sh ad v ∧ fits ty (xv_sh ad v) = true := by
  match t, ty, v, h, ht with
  | 0, .int, .int x, _, _ => exact ⟨rfl, rfl⟩
  | 1, .long, .long x, _, _ => exact ⟨rfl, rfl⟩
  | 2, .boolean, .int x, h, _ =>
    simp only [xv_ty, Bool.or_eq_true, beq_iff_eq] at h
    rcases h with rfl | rfl <;> exact ⟨rfl, rfl⟩
  | 3, .object _, .null, _, _ => exact ⟨rfl, rfl⟩
  | 3, .object _, .ref _, _, _ => exact ⟨rfl, rfl⟩
  | 3, .array _, .null, _, _ => exact ⟨rfl, rfl⟩
  | 3, .array _, .ref _, _, _ => exact ⟨rfl, rfl⟩
/-- what must hold of a heap instruction's numbers -/
def xv_hok (own mname : String) (i : Instr) (a b w : Nat) (v : Value) : Bool :=
  match i with
  | .getfield k => (match xv_cl[b]? with
    | some q => decide (a < q.2.2) && decide ((q.2.1 a).1 = q.1) && decide (xv_T[w]? = some (.fieldLink own k q.1 (q.2.1 a).2.1 (q.2.1 a).2.2.1))
    | none => false)
  | .putfield k => (match xv_cl[b]?, v with
    | some q, .int t => decide (a < q.2.2) && decide ((q.2.1 a).1 = q.1) && decide (xv_T[w]? = some (.fieldLink own k q.1 (q.2.1 a).2.1 (q.2.1 a).2.2.1))
      && (match parseFieldDescriptor (q.2.1 a).2.2.1 with | some ty => xv_tyd t.toNatClampNeg ty | none => false) && (decide ((q.2.1 a).2.2.2 = false) || decide (mname = "<init>") && decide ((q.2.1 a).1 = own))
    | _, _ => false)
  | .getstatic k => decide (xv_T[w]? = some (.fieldLinkNest own k "OnionCourt" "WORLDS_OF_FACT" "[I" "OnionCourt"))
  | .new k => (match xv_cl[a]?, v with
    | some q, .int wi => decide (xv_T[w]? = some (.classLink own k q.1)) && decide (xv_T[b]? = some (.instantiable q.1 q.2.2)) && decide (xv_T[wi.toNatClampNeg]? = some (.initialized q.1))
      && (List.range q.2.2).all (fun j => match parseFieldDescriptor (q.2.1 j).2.2.1 with | some ty => decide (defaultValue ty = vp_V (xv_dfs a) j) | none => false) && decide ((xv_dfs a).length = q.2.2)
    | _, _ => false)
  | .newarray t => (decide (t = .int ∧ a = 0) || decide (t = .long ∧ a = 1) || decide (t = .byte ∧ a = 2)) && decide (xv_T[w]? = some (.arrayClass (newarray.typeOf t)))
  | .anewarray k => (decide (a = 3) && decide (xv_T[w]? = some (.classLink own k "OnionCourt$Witness")) && decide (xv_T[b]? = some (.arrayOver (.object "OnionCourt$Witness"))))
      || (decide (a = 4) && decide (xv_T[w]? = some (.classLink own k "OnionCourt$Answer")) && decide (xv_T[b]? = some (.arrayOver (.object "OnionCourt$Answer"))))
  | _ => true
section XVP
variable {p : Program} {l : Launch} {e : Env} {R : Room} {s : State} {m : MethodId} {args : Array Value} {below : List Frame} {meth : Method} {c : Code} {H : Heap} {locs : List Loc} {cells slots : Nat} {Q : State → Prop}
variable {cc : ByteArray} {pc : Nat} {ls : Array Slot} {rest : List Value} {D : va_G} {cl : List vw_C} {ws : va_W} {tys : List (ClassId × FieldType)} {a : Nat}
/-- a field is put; final ones in their class's constructor -/
theorem xv_put (hexec : p.tables.exec = Jvm.exec) (hb : c.code = cc) {own : String} {q : vw_C} {ci index : Nat} (hts : ∀ w ∈ xv_T, w.before args s = true) (hin : ∀ w ∈ u_ws q.1 q.2.1 q.2.2, w ∈ xv_T) (ty0 : Nat → FieldType) (hty : ∀ k, k < q.2.2 → parseFieldDescriptor (q.2.1 k).2.2.1 = some (ty0 k))
    (hnm : ∀ a, a < q.2.2 → ∀ b, b < q.2.2 → a ≠ b → (q.2.1 a).2.1 ≠ (q.2.1 b).2.1) (hown : s.vm.findClass own = some m.cls) (hK : va_K D cl tys s) (hP : va_P D cl ws H) (q0 : Nat) {fs : List Value} (he : ws[q0]? = some (a, .inr (ci, fs))) (hc : cl[ci]? = some q) (k : Nat) (hk : k < q.2.2)
    (hlink : (Cond.fieldLink own index q.1 (q.2.1 k).2.1 (q.2.1 k).2.2.1).before args s = true) (hsame : (q.2.1 k).1 = q.1) (hfin : (q.2.1 k).2.2.2 = false ∨ (meth.name = "<init>" ∧ (q.2.1 k).1 = own)) {ty : FieldType} {v : Value} (hd : parseFieldDescriptor (q.2.1 k).2.2.1 = some ty) (hn : narrow ty v = v) (hfit : fits ty v = true) (hl : k < fs.length)
    (hdg : decode cc pc = .ok (.putfield index, 3)) (kk : ∀ (H1 : Heap) (n : Nat), H1.size = H.size → (∀ q : Nat, q ≠ a → H1[q]? = H[q]?) → va_at D cl (a, .inr (ci, fs.set k v)) H1 → W p l e R s m args below meth c H1 (locs ++ [⟨a, n⟩]) cells slots Q (F0 m (pc + 3) ls rest)) : W p l e R s m args below meth c H locs cells slots Q (F0 m pc ls (v :: .ref a :: rest)) := by
  obtain ⟨C, T, N⟩ := q
  have hap := va_apart (own := own) hts hin ty0 hty hnm hK hc
  obtain ⟨r, h1, cell, q1, q2, q3, q4⟩ := hP q0 _ he
  have hr : r = (C, T, N) := Option.some.inj (h1.symm.trans hc)
  subst hr
  obtain ⟨hS, hfc, kC, hkC, hkind⟩ := hK.1 ci _ hc
  obtain ⟨cf, kf, fi, f, hi, hsl⟩ := hS k hk
  have hi2 := hi
  dsimp only at hsame hlink hd hk hfin hty
  rw [hsame] at hi2
  have hlay := hts _ (hin _ (u_in_lay hk))
  have hst := (u_facts hfc hkC (u_lays hts hin hk) hi).1
  unfold u_lay at hlay
  by_cases hfb : (T k).2.2.2 = true
  · rw [if_pos hfb] at hlay
    obtain ⟨hin2, hdecl⟩ : meth.name = "<init>" ∧ (T k).1 = own := by
      rcases hfin with h | h
      · rw [hfb] at h; cases h
      · exact h
    have hcf : m.cls = cf := by
      obtain ⟨_, _, c', _, _, _, -, -, hf', -, -, -, hown2, -⟩ := Cond.laysFinal_spec hlay
      have e1 : c' = cf := by have := hi.symm.trans hf'; simp at this; exact this.1.symm
      rw [hdecl] at hown2
      rw [← e1]; exact Option.some.inj (hown.symm.trans hown2)
    have h6 := u_fits hfc hkC hkind (Or.inr hlay) hi hd hn hfit
    refine W.putFinK hexec hb hown hlink hi2 hst hcf hin2 (by rw [q2]; exact h6) q1 q3 (by rw [hsl]; exact k2_hasslot (q4 k hk)) rfl rfl hdg fun H' e1 e2 e3 => ?_
    rw [hsl] at e1 ⊢
    exact kk H' _ e2 e3 ⟨_, hc, t_OB.to (V := updV (vp_V fs) k v) ⟨_, e1, q2, q3, t_set q4 hap hk v⟩ (fun j _ => vp_updV_set hl v j)⟩
  · rw [if_neg hfb] at hlay
    have h6 := u_store hfc hkC hkind hlay hi hd hn hfit
    refine W.putK hexec hb (f := f) ⟨hown, hlink, ⟨_, _, _, hi2⟩, hst⟩ (by rw [q2]; exact h6) q1 q3 (by rw [hsl]; exact k2_hasslot (q4 k hk)) rfl rfl hdg fun H' e1 e2 e3 => ?_
    rw [hsl] at e1 ⊢
    exact kk H' _ e2 e3 ⟨_, hc, t_OB.to (V := updV (vp_V fs) k v) ⟨_, e1, q2, q3, t_set q4 hap hk v⟩ (fun j _ => vp_updV_set hl v j)⟩
end XVP
theorem xv_Wd_put {base : Nat} {aC : Nat → ClassId} {ad : Nat → Nat} {D : va_G} {H0 H H1 : Heap} {locs : List Loc} {σ : xv_S} {r : Nat} (c : xv_C) (n : Nat) (ha : xv_ad base ad) (hw : xv_Wd base aC ad D H0 H locs σ) (hr : r < σ.1.1) (hz : H1.size = H.size)
    (oq : ∀ q : Nat, q ≠ ad r → H1[q]? = H[q]?) (hat : va_at D xv_cl (ad r, xv_ce aC ad c) H1) : xv_Wd base aC ad D H0 H1 (locs ++ [⟨ad r, n⟩]) (σ.1, xv_up σ.2 r c) := by
  have hD := xv_wD (aC := aC) ha hw.2.2.2
  refine xv_Wd_set c hw.2.2.2 hr (hz.trans hw.1) (hw.2.1.set hD (xv_w_at hr) hat oq) (hw.2.2.1.put hz oq ?_)
  show base ≤ ad r
  rw [ha r (by have := hw.2.2.2.1; omega)]
  omega
section XVH
variable {p : Program} {l : Launch} {e : Env} {R : Room} {s : State} {m : MethodId} {args : Array Value} {below : List Frame} {meth : Method} {c : Code} {H : Heap} {locs : List Loc} {cells slots : Nat} {Q : State → Prop}
variable {cc : ByteArray} {pc : Nat} {LS : Array Slot} {ad : Nat → Nat} {base : Nat} {aC : Nat → ClassId} {D : va_G} {ro : xv_Ro}
theorem xv_fget {fs : List Value} {k : Nat} {v : Value} (h : fs[k]? = some v) : (fs.map (xv_sh ad))[k]? = some (xv_sh ad v) := by rw [List.getElem?_map, h]; rfl
theorem xv_opt_use {α β γ : Type} {o : Option α} {f : α → β × γ} {x : β} {y : γ} (h : o.map f = some (x, y)) : ∃ z, o = some z ∧ f z = (x, y) := by
  cases o with
  | none => cases h
  | some z => exact ⟨z, rfl, Option.some.inj h⟩
theorem xv_rf_sh (r : Option Nat) : xv_sh ad (va_rf r) = va_rf (r.map ad) := by cases r <;> rfl
theorem xv_hp_ok {own : String} {c0 l0 a b w : Nat} {i : Instr} {v : Value} {st st' : List Value} {σ σ' : xv_S} (hx : p.tables.exec = Jvm.exec) (hb : c.code = cc) (hown : s.vm.findClass own = some m.cls) (hts : ∀ w ∈ xv_T, w.before args s = true)
    (ha : xv_ad base ad) (hK : va_K D xv_cl (xv_tys aC) s) (hro : ∀ k L f, ro k = some (L, f) → va_T .int (ad k) L (fun j => .int (f j)) (xv_A base) s s.heap) (hZ : va_Z "OnionCourt" "WORLDS_OF_FACT" "[I" (.ref (ad 1000000)) (xv_A base) s s.heap) (hbs : base ≤ s.heap.size)
    (hw : xv_Wd base aC ad D s.heap H locs σ) (hd : decode cc pc = .ok (i, xv_nx i)) (hok : xv_hok own meth.name i a b w v = true) (hs : xv_hp ro i a b v σ st = some (st', σ'))
    (hc0 : cells + c0 = σ.1.1) (hl0 : slots + l0 = σ.1.2) (hRc : σ'.1.1 ≤ R.cells + c0) (hRs : σ'.1.2 ≤ R.slots + l0)
    (kk : ∀ (H1 : Heap) (locs1 : List Loc) (cells1 slots1 : Nat), xv_Wd base aC ad D s.heap H1 locs1 σ' → cells1 + c0 = σ'.1.1 → slots1 + l0 = σ'.1.2 → W p l e R s m args below meth c H1 locs1 cells1 slots1 Q (F0 m (pc + xv_nx i) LS (st'.map (xv_sh ad)))) : W p l e R s m args below meth c H locs cells slots Q (F0 m pc LS (st.map (xv_sh ad))) := by
  have hD := xv_wD (aC := aC) ha hw.2.2.2
  have hz := hw.1
  have hP := hw.2.1
  have hS := hw.2.2.1
  have hdd := hw.2.2.2
  cases i with
  | getfield k =>
    obtain ⟨z, hs0, hz2⟩ := xv_opt_use hs
    clear hs
    cases hz2
    match st, hs0 with
    | .ref r :: st, hs1 =>
      dsimp only [xv_getf] at hs1
      cases hr : σ.2 r with
      | inl y => rw [hr] at hs1; cases hs1
      | inr y =>
        obtain ⟨ci, fs⟩ := y
        rw [hr] at hs1
        dsimp only at hs1
        by_cases hc : ci = b
        · subst hc
          rw [if_pos rfl] at hs1
          cases hv : fs[a]? with
          | none => rw [hv] at hs1; cases hs1
          | some u =>
            rw [hv] at hs1
            cases hs1
            dsimp only [xv_hok] at hok
            cases hq : xv_cl[ci]? with
            | none => rw [hq] at hok; cases hok
            | some q =>
              rw [hq] at hok
              simp only [Bool.and_eq_true, decide_eq_true_eq] at hok
              obtain ⟨⟨h1, h2⟩, h3⟩ := hok
              have hlt := xv_liveR hdd hr hq
              have hat : (xv_w aC ad σ)[r]? = some (ad r, .inr (ci, fs.map (xv_sh ad))) := by rw [xv_w_at hlt, hr]; rfl
              exact va_get hx hb hts (xv_cl_ok ci q hq).1 hown hK hP r hat hq a h1 (hts _ (List.mem_of_getElem? h3)) (fun x hx => by rw [h2] at hx; exact hx) (xv_fget hv) hd (kk H locs cells slots hw hc0 hl0)
        · rw [if_neg hc] at hs1; cases hs1
  | putfield k =>
    cases v with
    | int t =>
      obtain ⟨z, hs0, hz2⟩ := xv_opt_use hs
      clear hs
      cases hz2
      match st, hs0 with
      | u :: .ref r :: st, hs1 =>
        dsimp only [xv_putf] at hs1
        cases hr : σ.2 r with
        | inl y => rw [hr] at hs1; cases hs1
        | inr y =>
          obtain ⟨ci, fs⟩ := y
          rw [hr] at hs1
          dsimp only at hs1
          by_cases hc : ci = b ∧ a < fs.length ∧ xv_ty t.toNatClampNeg u = true
          · rw [if_pos hc] at hs1
            obtain ⟨rfl, hlen, hty⟩ := hc
            cases hs1
            dsimp only [xv_hok] at hok
            cases hq : xv_cl[ci]? with
            | none => rw [hq] at hok; cases hok
            | some q =>
              rw [hq] at hok
              cases hpd : parseFieldDescriptor (q.2.1 a).2.2.1 with
              | none => simp only [hpd, Bool.and_eq_true, Bool.false_eq_true, false_and, and_false] at hok
              | some ty =>
                simp only [hpd, Bool.and_eq_true, decide_eq_true_eq, Bool.or_eq_true] at hok
                obtain ⟨⟨⟨⟨h1, h2⟩, h3⟩, h4⟩, h5⟩ := hok
                have hlt := xv_liveR hdd hr hq
                have hat : (xv_w aC ad σ)[r]? = some (ad r, .inr (ci, fs.map (xv_sh ad))) := by rw [xv_w_at hlt, hr]; rfl
                obtain ⟨hin, ⟨ty0, hty0⟩, hnm⟩ := xv_cl_ok ci q hq
                obtain ⟨hn, hf⟩ := xv_ty_use (ad := ad) hty h4
                refine xv_put hx hb hts hin ty0 hty0 hnm hown hK hP r hat hq a h1 (hts _ (List.mem_of_getElem? h3)) h2 h5 hpd hn hf (by rw [List.length_map]; exact hlen) hd (fun H1 n z1 o1 at1 => ?_)
                refine kk H1 _ cells slots (xv_Wd_put (.inr (ci, fs.set a u)) n ha hw hlt z1 o1 ?_) hc0 hl0
                show va_at D xv_cl (ad r, .inr (ci, (fs.set a u).map (xv_sh ad))) H1
                rw [List.map_set]
                exact at1
          · rw [if_neg hc] at hs1; cases hs1
    | _ => cases hs
  | getstatic k => 
    cases hs
    exact va_getsN hx hb hZ hS hown (hts _ (List.mem_of_getElem? (of_decide_eq_true hok))) (fun x h => h) hd (kk H locs cells slots hw hc0 hl0)
  | iaload =>
    obtain ⟨z, hs0, hz2⟩ := xv_opt_use hs
    clear hs
    cases hz2
    by_cases hb1 : b = 1
    · rw [if_pos hb1] at hs0
      match st, hs0 with
      | .int j :: .ref r :: st, hs1 =>
        unfold xv_ildr at hs1
        dsimp only at hs1
        cases hr : ro r with
        | none => rw [hr] at hs1; cases hs1
        | some y =>
          obtain ⟨n, f⟩ := y
          rw [hr] at hs1
          dsimp only at hs1
          by_cases hc : xv_inB j n = true
          · rw [if_pos hc] at hs1
            cases hs1
            exact va_ti hx hb (hro r n f hr) hS (xv_inB_use hc) rfl hd (kk H locs cells slots hw hc0 hl0)
          · rw [if_neg hc] at hs1; cases hs1
    · rw [if_neg hb1] at hs0
      match st, hs0 with
      | .int j :: .ref r :: st, hs1 =>
        unfold xv_ild at hs1
        dsimp only at hs1
        cases hr : σ.2 r with
        | inr y => rw [hr] at hs1; cases hs1
        | inl y =>
          obtain ⟨k, n, f | f | f | f | f⟩ := y
          · rw [hr] at hs1
            dsimp only at hs1
            by_cases hc : k = 0 ∧ xv_inB j n = true
            · rw [if_pos hc] at hs1
              cases hs1
              obtain ⟨hk, hin⟩ := hc
              have hlt := xv_liveL hdd hr
              have hat := xv_w_at (aC := aC) (ad := ad) hlt
              rw [hr] at hat
              subst hk
              exact va_iald hx hb hK hP r 0 hat rfl (xv_inB_use hin) hd (kk H locs cells slots hw hc0 hl0)
            · rw [if_neg hc] at hs1; cases hs1
          · rw [hr] at hs1; cases hs1
          · rw [hr] at hs1; cases hs1
          · rw [hr] at hs1; cases hs1
          · rw [hr] at hs1; cases hs1
  | baload =>
    obtain ⟨z, hs0, hz2⟩ := xv_opt_use hs
    clear hs
    cases hz2
    match st, hs0 with
    | .int j :: .ref r :: st, hs1 =>
      unfold xv_ild at hs1
      dsimp only at hs1
      cases hr : σ.2 r with
      | inr y => rw [hr] at hs1; cases hs1
      | inl y =>
        obtain ⟨k, n, f | f | f | f | f⟩ := y
        · rw [hr] at hs1
          dsimp only at hs1
          by_cases hc : k = 2 ∧ xv_inB j n = true
          · rw [if_pos hc] at hs1
            cases hs1
            obtain ⟨hk, hin⟩ := hc
            have hlt := xv_liveL hdd hr
            have hat := xv_w_at (aC := aC) (ad := ad) hlt
            rw [hr] at hat
            subst hk
            exact va_bald hx hb hK hP r 2 hat rfl (xv_inB_use hin) hd (kk H locs cells slots hw hc0 hl0)
          · rw [if_neg hc] at hs1; cases hs1
        · rw [hr] at hs1; cases hs1
        · rw [hr] at hs1; cases hs1
        · rw [hr] at hs1; cases hs1
        · rw [hr] at hs1; cases hs1
  | laload =>
    obtain ⟨z, hs0, hz2⟩ := xv_opt_use hs
    clear hs
    cases hz2
    match st, hs0 with
    | .int j :: .ref r :: st, hs1 =>
      unfold xv_lld at hs1
      dsimp only at hs1
      cases hr : σ.2 r with
      | inr y => rw [hr] at hs1; cases hs1
      | inl y =>
        obtain ⟨k, n, f | f | f | f | f⟩ := y
        · rw [hr] at hs1; cases hs1
        · rw [hr] at hs1
          dsimp only at hs1
          by_cases hc : k = 1 ∧ xv_inB j n = true
          · rw [if_pos hc] at hs1
            cases hs1
            obtain ⟨hk, hin⟩ := hc
            have hlt := xv_liveL hdd hr
            have hat := xv_w_at (aC := aC) (ad := ad) hlt
            rw [hr] at hat
            subst hk
            exact va_lald hx hb hK hP r 1 hat rfl (xv_inB_use hin) hd (kk H locs cells slots hw hc0 hl0)
          · rw [if_neg hc] at hs1; cases hs1
        · rw [hr] at hs1; cases hs1
        · rw [hr] at hs1; cases hs1
        · rw [hr] at hs1; cases hs1
  | aaload =>
    obtain ⟨z, hs0, hz2⟩ := xv_opt_use hs
    clear hs
    cases hz2
    match st, hs0 with
    | .int j :: .ref r :: st, hs1 =>
      unfold xv_ald at hs1
      dsimp only at hs1
      cases hr : σ.2 r with
      | inr y => rw [hr] at hs1; cases hs1
      | inl y =>
        obtain ⟨k, n, f | f | f | f | f⟩ := y
        · rw [hr] at hs1; cases hs1
        · rw [hr] at hs1; cases hs1
        · rw [hr] at hs1; cases hs1
        · rw [hr] at hs1; cases hs1
        · rw [hr] at hs1
          dsimp only at hs1
          by_cases hc : (k = 3 ∨ k = 4) ∧ xv_inB j n = true
          · rw [if_pos hc] at hs1
            cases hs1
            obtain ⟨hk, hin⟩ := hc
            have hlt := xv_liveL hdd hr
            have hat := xv_w_at (aC := aC) (ad := ad) hlt
            rw [hr] at hat
            have kk2 := kk H locs cells slots hw hc0 hl0
            rw [List.map_cons, xv_rf_sh] at kk2
            rcases hk with rfl | rfl
            · exact va_aldq hx hb hK hP r 3 hat rfl (xv_inB_use hin) hd kk2
            · exact va_aldq hx hb hK hP r 4 hat rfl (xv_inB_use hin) hd kk2
          · rw [if_neg hc] at hs1; cases hs1
  | iastore =>
    obtain ⟨z, hs0, hz2⟩ := xv_opt_use hs
    clear hs
    cases hz2
    match st, hs0 with
    | .int u :: .int j :: .ref r :: st, hs1 =>
      unfold xv_isto at hs1
      dsimp only at hs1
      cases hr : σ.2 r with
      | inr y => rw [hr] at hs1; cases hs1
      | inl y =>
        obtain ⟨k, n, f | f | f | f | f⟩ := y
        · rw [hr] at hs1
          dsimp only at hs1
          by_cases hc : k = 0 ∧ xv_inB j n = true
          · rw [if_pos hc] at hs1
            cases hs1
            obtain ⟨hk, hin⟩ := hc
            have hlt := xv_liveL hdd hr
            have hat := xv_w_at (aC := aC) (ad := ad) hlt
            rw [hr] at hat
            subst hk
            have hvin := xv_inB_use hin
            refine W.iast hx hb (hP r _ hat) ((hK.2 0 _ rfl).1 n (fun j => .int (f j))) (fun q => by cases q) (by show ¬ (j < 0 ∨ (arrV _ _ _).slots.size ≤ _); rw [arrV_size]; exact hvin) rfl rfl hd fun H1 e z oq => ?_
            refine kk H1 _ cells slots (xv_Wd_put _ j.toNatClampNeg ha hw hlt z oq ?_) hc0 hl0
            show H1[ad r]? = some (vp_cell _ _)
            rw [e]
            show some ((vp_cell (aC 0) (n, .inl f)).setSlot j.toNatClampNeg (.int u)) = some (vp_cell (aC 0) (n, .inl (upd f j.toNatClampNeg u)))
            rw [vp_cell_i, vp_cell_i, arrV_store]
            congr 2
            funext q
            by_cases hq : q = j.toNatClampNeg
            · subst hq; simp [updV, upd]
            · simp [updV, upd, hq]
          · rw [if_neg hc] at hs1; cases hs1
        · rw [hr] at hs1; cases hs1
        · rw [hr] at hs1; cases hs1
        · rw [hr] at hs1; cases hs1
        · rw [hr] at hs1; cases hs1
  | bastore =>
    obtain ⟨z, hs0, hz2⟩ := xv_opt_use hs
    clear hs
    cases hz2
    match st, hs0 with
    | .int u :: .int j :: .ref r :: st, hs1 =>
      unfold xv_isto at hs1
      dsimp only at hs1
      cases hr : σ.2 r with
      | inr y => rw [hr] at hs1; cases hs1
      | inl y =>
        obtain ⟨k, n, f | f | f | f | f⟩ := y
        · rw [hr] at hs1
          dsimp only at hs1
          by_cases hc : k = 2 ∧ xv_inB j n = true
          · rw [if_pos hc] at hs1
            cases hs1
            obtain ⟨hk, hin⟩ := hc
            have hlt := xv_liveL hdd hr
            have hat := xv_w_at (aC := aC) (ad := ad) hlt
            rw [hr] at hat
            subst hk
            have hvin := xv_inB_use hin
            refine W.bast hx hb (hP r _ hat) ((hK.2 2 _ rfl).1 n (fun j => .int (f j))) (fun q => by cases q) (by show ¬ (j < 0 ∨ (arrV _ _ _).slots.size ≤ _); rw [arrV_size]; exact hvin) rfl rfl hd fun H1 e z oq => ?_
            refine kk H1 _ cells slots (xv_Wd_put _ j.toNatClampNeg ha hw hlt z oq ?_) hc0 hl0
            show H1[ad r]? = some (vp_cell _ _)
            rw [e]
            show some ((vp_cell (aC 2) (n, .inl f)).setSlot j.toNatClampNeg _) = some (vp_cell (aC 2) (n, .inl (upd f j.toNatClampNeg (vp_nar .byte u))))
            rw [vp_cell_i, vp_cell_i, arrV_store]
            congr 2
            funext q
            by_cases hq : q = j.toNatClampNeg
            · subst hq; simp [updV, upd, vp_nar]; try rfl
            · simp [updV, upd, vp_nar, hq]
          · rw [if_neg hc] at hs1; cases hs1
        · rw [hr] at hs1; cases hs1
        · rw [hr] at hs1; cases hs1
        · rw [hr] at hs1; cases hs1
        · rw [hr] at hs1; cases hs1
  | lastore =>
    obtain ⟨z, hs0, hz2⟩ := xv_opt_use hs
    clear hs
    cases hz2
    match st, hs0 with
    | .long u :: .int j :: .ref r :: st, hs1 =>
      unfold xv_lsto at hs1
      dsimp only at hs1
      cases hr : σ.2 r with
      | inr y => rw [hr] at hs1; cases hs1
      | inl y =>
        obtain ⟨k, n, f | f | f | f | f⟩ := y
        · rw [hr] at hs1; cases hs1
        · rw [hr] at hs1
          dsimp only at hs1
          by_cases hc : k = 1 ∧ xv_inB j n = true
          · rw [if_pos hc] at hs1
            cases hs1
            obtain ⟨hk, hin⟩ := hc
            have hlt := xv_liveL hdd hr
            have hat := xv_w_at (aC := aC) (ad := ad) hlt
            rw [hr] at hat
            subst hk
            have hvin := xv_inB_use hin
            refine W.last hx hb (hP r _ hat) ((hK.2 1 _ rfl).1 n (fun j => .long (f j))) (fun q => by cases q) (by show ¬ (j < 0 ∨ (arrV _ _ _).slots.size ≤ _); rw [arrV_size]; exact hvin) rfl rfl hd fun H1 e z oq => ?_
            refine kk H1 _ cells slots (xv_Wd_put _ j.toNatClampNeg ha hw hlt z oq ?_) hc0 hl0
            show H1[ad r]? = some (vp_cell _ _)
            rw [e]
            show some ((vp_cell (aC 1) (n, .inr (.inl f))).setSlot j.toNatClampNeg (.long u)) = some (vp_cell (aC 1) (n, .inr (.inl (vp_updL f j.toNatClampNeg u))))
            rw [vp_cell_l, vp_cell_l, arrV_store]
            congr 2
            funext q
            by_cases hq : q = j.toNatClampNeg
            · subst hq; simp [updV, vp_updL]
            · simp [updV, vp_updL, hq]
          · rw [if_neg hc] at hs1; cases hs1
        · rw [hr] at hs1; cases hs1
        · rw [hr] at hs1; cases hs1
        · rw [hr] at hs1; cases hs1
  | arraylength =>
    obtain ⟨z, hs0, hz2⟩ := xv_opt_use hs
    clear hs
    cases hz2
    by_cases hb1 : b = 1
    · rw [if_pos hb1] at hs0
      match st, hs0 with
      | .ref r :: st, hs1 =>
        unfold xv_lenr at hs1
        dsimp only at hs1
        cases hr : ro r with
        | none => rw [hr] at hs1; cases hs1
        | some y =>
          obtain ⟨n, f⟩ := y
          rw [hr] at hs1
          cases hs1
          exact va_tlen hx hb (hro r n f hr) hS rfl hd (kk H locs cells slots hw hc0 hl0)
    · rw [if_neg hb1] at hs0
      match st, hs0 with
      | .ref r :: st, hs1 =>
        unfold xv_len at hs1
        dsimp only at hs1
        cases hr : σ.2 r with
        | inr y => rw [hr] at hs1; cases hs1
        | inl y =>
          obtain ⟨k, n, f⟩ := y
          rw [hr] at hs1
          dsimp only at hs1
          by_cases hc : k < 5
          · rw [if_pos hc] at hs1
            cases hs1
            have hlt := xv_liveL hdd hr
            have hat := xv_w_at (aC := aC) (ad := ad) hlt
            rw [hr] at hat
            have kk2 := kk H locs cells slots hw hc0 hl0
            match k, hc, hr, hat with
            | 0, _, hr, hat => exact va_alen hx hb hK hP r 0 hat (by rfl) rfl hd kk2
            | 1, _, hr, hat => exact va_alen hx hb hK hP r 1 hat (by rfl) rfl hd kk2
            | 2, _, hr, hat => exact va_alen hx hb hK hP r 2 hat (by rfl) rfl hd kk2
            | 3, _, hr, hat => exact va_alen hx hb hK hP r 3 hat (by rfl) rfl hd kk2
            | 4, _, hr, hat => exact va_alen hx hb hK hP r 4 hat (by rfl) rfl hd kk2
          · rw [if_neg hc] at hs1; cases hs1
  | aastore =>
    obtain ⟨z, hs0, hz2⟩ := xv_opt_use hs
    clear hs
    cases hz2
    match st, hs0 with
    | .ref v :: .int j :: .ref r :: st, hs1 =>
      unfold xv_asto at hs1
      dsimp only at hs1
      cases hr : σ.2 r with
      | inr y => rw [hr] at hs1; cases hs1
      | inl y =>
        obtain ⟨k, n, f | f | f | f | f⟩ := y
        · rw [hr] at hs1; cases hs1
        · rw [hr] at hs1; cases hs1
        · rw [hr] at hs1; cases hs1
        · rw [hr] at hs1; cases hs1
        · cases hv : σ.2 v with
          | inl y => rw [hr, hv] at hs1; cases hs1
          | inr y =>
            obtain ⟨cv, vs⟩ := y
            rw [hr, hv] at hs1
            dsimp only at hs1
            by_cases hc : (k = 3 ∧ cv = 8 ∨ k = 4 ∧ cv = 9) ∧ xv_inB j n = true
            · rw [if_pos hc] at hs1
              cases hs1
              obtain ⟨hk, hin⟩ := hc
              have hlt := xv_liveL hdd hr
              have hat := xv_w_at (aC := aC) (ad := ad) hlt
              rw [hr] at hat
              have hvin := xv_inB_use hin
              have key : ∀ t0 ci (q : vw_C), k = t0 → cv = ci → xv_cl[ci]? = some q → (xv_tys aC)[t0]? = some (aC t0, .object q.1) → W p l e R s m args below meth c H locs cells slots Q (F0 m pc LS ((.ref v :: .int j :: .ref r :: st).map (xv_sh ad))) := by
                intro t0 ci q e1 e2 hq ht
                subst e1; subst e2
                have hlv := xv_liveR hdd hv hq
                have hav := xv_w_at (aC := aC) (ad := ad) hlv
                rw [hv] at hav
                obtain ⟨r', hr', cellV, g1, g2, g3, -⟩ := hP v _ hav
                have hcls := (hK.1 cv q hq).2
                obtain ⟨kA, comp, k1, k2, k3, -⟩ := (hK.2 k _ ht).2
                have hcomp : comp = D.1 cv := Option.some.inj (k3.symm.trans hcls.1)
                subst hcomp
                obtain ⟨kC, hkC, -⟩ := hcls.2
                have hlt2 : j.toNatClampNeg < n := Nat.not_le.mp fun q => hvin (Or.inr q)
                have h0 : ¬ j < 0 := fun q => hvin (Or.inl q)
                refine W.aast hx hb (hP r _ hat) (fun q h => by cases h) (fun h => by cases h) k1 k2 rfl hkC ⟨h0, by show _ < (arrV _ _ _).slots.size; rw [arrV_size]; exact hlt2⟩ g1 (fun q h => by rw [g3] at h; cases h) (by rw [g2]; exact hkC) (by rw [g2]; exact va_assign hcls) rfl rfl hd fun H1 e z oq => ?_
                refine kk H1 _ cells slots (xv_Wd_put _ j.toNatClampNeg ha hw hlt z oq ?_) hc0 hl0
                show H1[ad r]? = some (vp_cell _ _)
                rw [e]
                show some ((vp_cell (aC k) (n, .inr (.inr (.inr (.inr fun j => (f j).map ad))))).setSlot j.toNatClampNeg (.ref (ad v))) = some (vp_cell (aC k) (n, .inr (.inr (.inr (.inr fun i => (va_up f j.toNatClampNeg (some v) i).map ad)))))
                rw [vp_cell_q, vp_cell_q, arrV_store]
                congr 2
                funext q
                by_cases hq : q = j.toNatClampNeg
                · subst hq
                  simp [updV, va_up, va_rf]
                · simp [updV, va_up, hq]
              rcases hk with ⟨h1, h2⟩ | ⟨h1, h2⟩
              · exact key 3 8 _ h1 h2 rfl rfl
              · exact key 4 9 _ h1 h2 rfl rfl
            · rw [if_neg hc] at hs1; cases hs1
  | new k =>
    change xv_new a σ st = _ at hs
    unfold xv_new at hs
    by_cases hlim : σ.1.1 < 1000000
    · rw [if_pos hlim] at hs
      cases hs
      cases v with
      | int wi =>
        dsimp only [xv_hok] at hok
        cases hq : xv_cl[a]? with
        | none => rw [hq] at hok; cases hok
        | some q =>
          rw [hq] at hok
          simp only [Bool.and_eq_true, decide_eq_true_eq, List.all_eq_true, List.mem_range] at hok
          obtain ⟨⟨⟨⟨h1, h2⟩, h3⟩, h4⟩, h5⟩ := hok
          have hKn := hK.1 a q hq
          obtain ⟨hin, ⟨ty0, hty0⟩, hnm⟩ := xv_cl_ok a q hq
          rw [h5] at hRs kk
          have hRc1 : σ.1.1 + 1 ≤ R.cells + c0 := hRc
          have hRs1 : σ.1.2 + q.2.2 ≤ R.slots + l0 := hRs
          refine W.newcK hx hb hown (hts _ (List.mem_of_getElem? h1)) (hts _ (List.mem_of_getElem? h2)) (hts _ (List.mem_of_getElem? h3)) rfl hd (by omega) (by omega) hKn.2.1 rfl fun H1 kC hkC e1 z1 o1 => ?_
          have hadr : ad σ.1.1 = H.size := by rw [ha _ hlim, hz]
          have kk2 := kk H1 locs (cells + 1) (slots + q.2.2) (xv_Wd_push (.inr (a, xv_dfs a)) _ ha hw hlim z1 o1 ?_) (by show cells + 1 + c0 = σ.1.1 + 1; omega) (by show slots + q.2.2 + l0 = σ.1.2 + q.2.2; omega)
          · rw [List.map_cons] at kk2
            change W p l e R s m args below meth c H1 locs (cells + 1) (slots + q.2.2) Q (F0 m (pc + 3) LS (.ref (ad σ.1.1) :: st.map (xv_sh ad))) at kk2
            rw [hadr] at kk2
            exact kk2
          · have hfs : (xv_dfs a).map (xv_sh ad) = xv_dfs a := by
              unfold xv_dfs
              rw [hq]
              show ((List.range q.2.2).map _).map _ = (List.range q.2.2).map _
              rw [List.map_map]
              apply List.map_congr_left
              intro j _
              simp only [Function.comp]
              split
              · rfl
              · split <;> rfl
            show va_at D xv_cl (H.size, .inr (a, (xv_dfs a).map (xv_sh ad))) H1
            rw [hfs]
            refine ⟨q, hq, (u_born ty0 hts hin hKn hkC e1 hty0).to (fun j hj => ?_)⟩
            have h6 := h4 j hj
            rw [hty0 j hj] at h6
            exact of_decide_eq_true h6
      | _ => dsimp only [xv_hok] at hok; cases hq : xv_cl[a]? <;> rw [hq] at hok <;> cases hok
    · rw [if_neg hlim] at hs; cases hs
  | newarray t =>
    change xv_newa a σ st = _ at hs
    match st, hs with
    | .int n :: st, hs1 =>
      unfold xv_newa at hs1
      dsimp only at hs1
      by_cases hlim : σ.1.1 < 1000000 ∧ 0 ≤ n ∧ n ≤ 100000
      · rw [if_pos hlim] at hs1
        cases hs1
        obtain ⟨hlim, hn0, hn1⟩ := hlim
        have hnn : ¬ n < 0 := by rw [Int32.lt_iff_toInt_lt]; rw [Int32.le_iff_toInt_le] at hn0; omega
        have hnt : n.toNatClampNeg ≤ 100000 := by
          rw [Int32.le_iff_toInt_le] at hn1
          have h9 : (100000 : Int32).toInt = 100000 := by decide
          rw [h9] at hn1
          show n.toInt.toNat ≤ 100000
          omega
        have hRc1 : σ.1.1 + 1 ≤ R.cells + c0 := hRc
        have hRs1 : σ.1.2 + n.toNatClampNeg ≤ R.slots + l0 := hRs
        have hadr : ad σ.1.1 = H.size := by rw [ha _ hlim, hz]
        dsimp only [xv_hok] at hok
        simp only [Bool.and_eq_true, decide_eq_true_eq, Bool.or_eq_true] at hok
        obtain ⟨h1, h2⟩ := hok
        have hbytes : n.toNatClampNeg * componentBytes (newarray.typeOf t) ≤ 536870912 := by
          have : componentBytes (newarray.typeOf t) ≤ 8 := by cases t <;> decide
          have := Nat.mul_le_mul hnt this
          omega
        refine va_newaK hx hb (hts _ (List.mem_of_getElem? h2)) rfl hd rfl hnn rfl hbytes (by omega) (by omega) rfl fun H1 cA e1 z1 o1 hAr hNm => ?_
        have kk2 := kk H1 locs (cells + 1) (slots + n.toNatClampNeg) (xv_Wd_push _ _ ha hw hlim z1 o1 ?_) (by show cells + 1 + c0 = σ.1.1 + 1; omega) (by show slots + n.toNatClampNeg + l0 = σ.1.2 + n.toNatClampNeg; omega)
        · change W p l e R s m args below meth c H1 locs (cells + 1) (slots + n.toNatClampNeg) Q (F0 m (pc + 2) LS (.ref (ad σ.1.1) :: st.map (xv_sh ad))) at kk2
          rw [hadr] at kk2
          exact kk2
        · rcases h1 with (⟨rfl, rfl⟩ | ⟨rfl, rfl⟩) | ⟨rfl, rfl⟩
          · have hcA : cA = aC 0 := Option.some.inj (hNm.symm.trans (hK.2 0 _ rfl).2)
            subst hcA
            exact e1
          · have hcA : cA = aC 1 := Option.some.inj (hNm.symm.trans (hK.2 1 _ rfl).2)
            subst hcA
            exact e1
          · have hcA : cA = aC 2 := Option.some.inj (hNm.symm.trans (hK.2 2 _ rfl).2)
            subst hcA
            exact e1
      · rw [if_neg hlim] at hs1; cases hs1
  | anewarray t =>
    change xv_newa a σ st = _ at hs
    match st, hs with
    | .int n :: st, hs1 =>
      unfold xv_newa at hs1
      dsimp only at hs1
      by_cases hlim : σ.1.1 < 1000000 ∧ 0 ≤ n ∧ n ≤ 100000
      · rw [if_pos hlim] at hs1
        cases hs1
        obtain ⟨hlim, hn0, hn1⟩ := hlim
        have hnn : ¬ n < 0 := by rw [Int32.lt_iff_toInt_lt]; rw [Int32.le_iff_toInt_le] at hn0; omega
        have hnt : n.toNatClampNeg ≤ 100000 := by
          rw [Int32.le_iff_toInt_le] at hn1
          have h9 : (100000 : Int32).toInt = 100000 := by decide
          rw [h9] at hn1
          show n.toInt.toNat ≤ 100000
          omega
        have hRc1 : σ.1.1 + 1 ≤ R.cells + c0 := hRc
        have hRs1 : σ.1.2 + n.toNatClampNeg ≤ R.slots + l0 := hRs
        have hadr : ad σ.1.1 = H.size := by rw [ha _ hlim, hz]
        dsimp only [xv_hok] at hok
        simp only [Bool.and_eq_true, decide_eq_true_eq, Bool.or_eq_true] at hok
        have key : ∀ C : String, a = 3 ∨ a = 4 → (xv_tys aC)[a]? = some (aC a, .object C) → xv_T[w]? = some (.classLink own t C) → xv_T[b]? = some (.arrayOver (.object C)) → W p l e R s m args below meth c H locs cells slots Q (F0 m pc LS ((.int n :: st).map (xv_sh ad))) := by
          intro C ha34 hty h2 h3
          refine W.anew hx hb hown (hts _ (List.mem_of_getElem? h2)) (va_AO.use (hts _ (List.mem_of_getElem? h3))) rfl hd rfl hnn (by omega) (by omega) (by omega) fun cA kA comp f1 f2 f3 f4 => ?_
          generalize hH1 : H.push ({ cls := cA, slots := Array.replicate n.toNatClampNeg .null, vm := .none } : Cell) = H1
          have z1 : H1.size = H.size + 1 := by rw [← hH1, Array.size_push]
          have e1 : H1[H.size]? = some (arrV cA n.toNatClampNeg (fun _ => .null)) := by rw [← hH1, Array.getElem?_push_size, ← arrV_new]
          have o1 : ∀ q : Nat, q < H.size → H1[q]? = H[q]? := fun q hq => by rw [← hH1, Array.getElem?_push, if_neg (Nat.ne_of_lt hq)]
          have kk2 := kk H1 locs (cells + 1) (slots + n.toNatClampNeg) (xv_Wd_push _ _ ha hw hlim z1 o1 ?_) (by show cells + 1 + c0 = σ.1.1 + 1; omega) (by show slots + n.toNatClampNeg + l0 = σ.1.2 + n.toNatClampNeg; omega)
          · change W p l e R s m args below meth c H1 locs (cells + 1) (slots + n.toNatClampNeg) Q (F0 m (pc + 3) LS (.ref (ad σ.1.1) :: st.map (xv_sh ad))) at kk2
            rw [hadr] at kk2
            exact kk2
          · obtain ⟨_, _, -, -, -, hNm⟩ := (hK.2 a _ hty).2
            have hcA : cA = aC a := Option.some.inj (f1.symm.trans hNm)
            subst hcA
            rcases ha34 with rfl | rfl
            · exact e1
            · exact e1
        rcases hok with ⟨⟨rfl, h2⟩, h3⟩ | ⟨⟨rfl, h2⟩, h3⟩
        · exact key _ (Or.inl rfl) rfl h2 h3
        · exact key _ (Or.inr rfl) rfl h2 h3
      · rw [if_neg hlim] at hs1; cases hs1
  | _ => cases hs
end XVH
