/-! THE WORLD behind the constructors: what each cell is; its contents as two maps -/
abbrev xv_Sp : Type := (Nat × Nat × Nat × Nat) ⊕ (Nat × List (Option Nat))
def xv_shl : List xv_Sp := [.inr (1, [some 1, some 3, some 5, some 13, some 21, some 22, some 25, some 68, some 111, none, some 154, some 156, some 160, some 166]),
  .inr (2, [some 2, none, none, none, none]),
  .inl (0, 260, 0, 0),
  .inr (3, [some 4, none]),
  .inl (0, 8, 0, 0),
  .inr (4, [some 6, some 7, some 8, some 9, some 10, some 11, some 12, none, none]),
  .inl (0, 240, 0, 0),
  .inl (0, 240, 0, 0),
  .inl (0, 16, 0, 0),
  .inl (0, 16, 0, 0),
  .inl (0, 16, 0, 0),
  .inl (0, 16, 0, 0),
  .inl (1, 32, 0, 0),
  .inr (4, [some 14, some 15, some 16, some 17, some 18, some 19, some 20, none, none]),
  .inl (0, 240, 0, 0),
  .inl (0, 240, 0, 0),
  .inl (0, 16, 0, 0),
  .inl (0, 16, 0, 0),
  .inl (0, 16, 0, 0),
  .inl (0, 16, 0, 0),
  .inl (1, 32, 0, 0),
  .inr (5, [none, none, none, none, none, none, none, none]),
  .inr (6, [some 23, some 24]),
  .inl (0, 5, 0, 0),
  .inl (1, 32, 0, 0),
  .inr (7, [some 26, some 27, none, none, none, none, none]),
  .inl (3, 10, 28, 2),
  .inl (4, 20, 48, 1),
  .inr (8, [some 29, none, none, none]),
  .inl (0, 12, 0, 0),
  .inr (8, [some 31, none, none, none]),
  .inl (0, 12, 0, 0),
  .inr (8, [some 33, none, none, none]),
  .inl (0, 12, 0, 0),
  .inr (8, [some 35, none, none, none]),
  .inl (0, 12, 0, 0),
  .inr (8, [some 37, none, none, none]),
  .inl (0, 12, 0, 0),
  .inr (8, [some 39, none, none, none]),
  .inl (0, 12, 0, 0),
  .inr (8, [some 41, none, none, none]),
  .inl (0, 12, 0, 0),
  .inr (8, [some 43, none, none, none]),
  .inl (0, 12, 0, 0),
  .inr (8, [some 45, none, none, none]),
  .inl (0, 12, 0, 0),
  .inr (8, [some 47, none, none, none]),
  .inl (0, 12, 0, 0),
  .inr (9, [none, none, none, none, none, none, none, none]),
  .inr (9, [none, none, none, none, none, none, none, none]),
  .inr (9, [none, none, none, none, none, none, none, none]),
  .inr (9, [none, none, none, none, none, none, none, none]),
  .inr (9, [none, none, none, none, none, none, none, none]),
  .inr (9, [none, none, none, none, none, none, none, none]),
  .inr (9, [none, none, none, none, none, none, none, none]),
  .inr (9, [none, none, none, none, none, none, none, none]),
  .inr (9, [none, none, none, none, none, none, none, none]),
  .inr (9, [none, none, none, none, none, none, none, none]),
  .inr (9, [none, none, none, none, none, none, none, none]),
  .inr (9, [none, none, none, none, none, none, none, none]),
  .inr (9, [none, none, none, none, none, none, none, none]),
  .inr (9, [none, none, none, none, none, none, none, none]),
  .inr (9, [none, none, none, none, none, none, none, none]),
  .inr (9, [none, none, none, none, none, none, none, none]),
  .inr (9, [none, none, none, none, none, none, none, none]),
  .inr (9, [none, none, none, none, none, none, none, none]),
  .inr (9, [none, none, none, none, none, none, none, none]),
  .inr (9, [none, none, none, none, none, none, none, none]),
  .inr (7, [some 69, some 70, none, none, none, none, none]),
  .inl (3, 10, 71, 2),
  .inl (4, 20, 91, 1),
  .inr (8, [some 72, none, none, none]),
  .inl (0, 12, 0, 0),
  .inr (8, [some 74, none, none, none]),
  .inl (0, 12, 0, 0),
  .inr (8, [some 76, none, none, none]),
  .inl (0, 12, 0, 0),
  .inr (8, [some 78, none, none, none]),
  .inl (0, 12, 0, 0),
  .inr (8, [some 80, none, none, none]),
  .inl (0, 12, 0, 0),
  .inr (8, [some 82, none, none, none]),
  .inl (0, 12, 0, 0),
  .inr (8, [some 84, none, none, none]),
  .inl (0, 12, 0, 0),
  .inr (8, [some 86, none, none, none]),
  .inl (0, 12, 0, 0),
  .inr (8, [some 88, none, none, none]),
  .inl (0, 12, 0, 0),
  .inr (8, [some 90, none, none, none]),
  .inl (0, 12, 0, 0),
  .inr (9, [none, none, none, none, none, none, none, none]),
  .inr (9, [none, none, none, none, none, none, none, none]),
  .inr (9, [none, none, none, none, none, none, none, none]),
  .inr (9, [none, none, none, none, none, none, none, none]),
  .inr (9, [none, none, none, none, none, none, none, none]),
  .inr (9, [none, none, none, none, none, none, none, none]),
  .inr (9, [none, none, none, none, none, none, none, none]),
  .inr (9, [none, none, none, none, none, none, none, none]),
  .inr (9, [none, none, none, none, none, none, none, none]),
  .inr (9, [none, none, none, none, none, none, none, none]),
  .inr (9, [none, none, none, none, none, none, none, none]),
  .inr (9, [none, none, none, none, none, none, none, none]),
  .inr (9, [none, none, none, none, none, none, none, none]),
  .inr (9, [none, none, none, none, none, none, none, none]),
  .inr (9, [none, none, none, none, none, none, none, none]),
  .inr (9, [none, none, none, none, none, none, none, none]),
  .inr (9, [none, none, none, none, none, none, none, none]),
  .inr (9, [none, none, none, none, none, none, none, none]),
  .inr (9, [none, none, none, none, none, none, none, none]),
  .inr (9, [none, none, none, none, none, none, none, none]),
  .inr (7, [some 112, some 113, none, none, none, none, none]),
  .inl (3, 10, 114, 2),
  .inl (4, 20, 134, 1),
  .inr (8, [some 115, none, none, none]),
  .inl (0, 12, 0, 0),
  .inr (8, [some 117, none, none, none]),
  .inl (0, 12, 0, 0),
  .inr (8, [some 119, none, none, none]),
  .inl (0, 12, 0, 0),
  .inr (8, [some 121, none, none, none]),
  .inl (0, 12, 0, 0),
  .inr (8, [some 123, none, none, none]),
  .inl (0, 12, 0, 0),
  .inr (8, [some 125, none, none, none]),
  .inl (0, 12, 0, 0),
  .inr (8, [some 127, none, none, none]),
  .inl (0, 12, 0, 0),
  .inr (8, [some 129, none, none, none]),
  .inl (0, 12, 0, 0),
  .inr (8, [some 131, none, none, none]),
  .inl (0, 12, 0, 0),
  .inr (8, [some 133, none, none, none]),
  .inl (0, 12, 0, 0),
  .inr (9, [none, none, none, none, none, none, none, none]),
  .inr (9, [none, none, none, none, none, none, none, none]),
  .inr (9, [none, none, none, none, none, none, none, none]),
  .inr (9, [none, none, none, none, none, none, none, none]),
  .inr (9, [none, none, none, none, none, none, none, none]),
  .inr (9, [none, none, none, none, none, none, none, none]),
  .inr (9, [none, none, none, none, none, none, none, none]),
  .inr (9, [none, none, none, none, none, none, none, none]),
  .inr (9, [none, none, none, none, none, none, none, none]),
  .inr (9, [none, none, none, none, none, none, none, none]),
  .inr (9, [none, none, none, none, none, none, none, none]),
  .inr (9, [none, none, none, none, none, none, none, none]),
  .inr (9, [none, none, none, none, none, none, none, none]),
  .inr (9, [none, none, none, none, none, none, none, none]),
  .inr (9, [none, none, none, none, none, none, none, none]),
  .inr (9, [none, none, none, none, none, none, none, none]),
  .inr (9, [none, none, none, none, none, none, none, none]),
  .inr (9, [none, none, none, none, none, none, none, none]),
  .inr (9, [none, none, none, none, none, none, none, none]),
  .inr (9, [none, none, none, none, none, none, none, none]),
  .inr (8, [some 155, none, none, none]),
  .inl (0, 12, 0, 0),
  .inr (10, [some 157, some 158, some 159, none, none]),
  .inl (0, 10, 0, 0),
  .inl (0, 10, 0, 0),
  .inl (0, 10, 0, 0),
  .inr (11, [some 161, some 162, some 163, some 164, some 165, none, none]),
  .inl (0, 5, 0, 0),
  .inl (0, 5, 0, 0),
  .inl (0, 5, 0, 0),
  .inl (0, 5, 0, 0),
  .inl (0, 5, 0, 0),
  .inl (0, 12, 0, 0),
  .inr (0, [some 168, some 169, some 170, some 171, some 172, none, some 173, none, none, none, none, none, none, none, none, none, none, some 174, some 175, some 176, some 177, some 178, some 179, some 180, some 181, some 182, some 183, some 184, some 185, some 186, some 187, some 188, none, none, none, none, some 189, none, some 190, some 191, some 192, some 193, none, none, none, some 194, some 195, some 196, some 197, some 198, some 199, none]),
  .inl (0, 304, 0, 0),
  .inl (0, 304, 0, 0),
  .inl (0, 304, 0, 0),
  .inl (0, 5, 0, 0),
  .inl (1, 8, 0, 0),
  .inl (2, 260, 0, 0),
  .inl (0, 260, 0, 0),
  .inl (0, 260, 0, 0),
  .inl (0, 16, 0, 0),
  .inl (0, 16, 0, 0),
  .inl (0, 16, 0, 0),
  .inl (0, 16, 0, 0),
  .inl (0, 260, 0, 0),
  .inl (0, 16, 0, 0),
  .inl (0, 16, 0, 0),
  .inl (0, 16, 0, 0),
  .inl (0, 16, 0, 0),
  .inl (0, 260, 0, 0),
  .inl (0, 8, 0, 0),
  .inl (0, 60, 0, 0),
  .inl (1, 60, 0, 0),
  .inl (0, 12, 0, 0),
  .inl (0, 20, 0, 0),
  .inl (0, 20, 0, 0),
  .inl (0, 20, 0, 0),
  .inl (0, 10, 0, 0),
  .inl (1, 32, 0, 0),
  .inl (0, 10, 0, 0),
  .inl (0, 11, 0, 0),
  .inl (0, 5, 0, 0),
  .inl (0, 5, 0, 0),
  .inl (0, 5, 0, 0)]
def xv_SZ : Nat × Nat := (200, 5355)
def xv_fl (I : Nat → Int32) : List (Option Nat) → Nat → List Value
  | [], _ => []
  | some r :: l, n => .ref r :: xv_fl I l (n + 1)
  | none :: l, n => .int (I n) :: xv_fl I l (n + 1)
def xv_mkc (I : Nat → Int32) (J : Nat → Int64) : xv_Sp → xv_C
  | .inl (kd, n, s, t) => .inl (kd, n, if kd = 1 then .inr (.inl J) else if kd = 3 ∨ kd = 4 then .inr (.inr (.inr (.inr fun j => if j < n then some (s + t * j) else none))) else .inl I)
  | .inr (ci, fl) => .inr (ci, xv_fl I fl 0)
def xv_mk (I : Nat → Nat → Int32) (J : Nat → Nat → Int64) : xv_H := fun k => match xv_shl[k]? with
  | some sp => xv_mkc (I k) (J k) sp
  | none => .inr (1000, [])
def xv_u2 {α : Type} (I : Nat → Nat → α) (o a : Nat) (x : α) : Nat → Nat → α := fun o' a' => if o' = o ∧ a' = a then x else I o' a'
/-- an object's class and what its field is: a reference for ever, or a number -/
def xv_fv (o a : Nat) : Option (Nat × Option Nat) := match xv_shl[o]? with
  | some (.inr (ci, fl)) => (fl[a]?).map fun x => (ci, x)
  | _ => none
/-- a row's kind and length -/
def xv_ar (k : Nat) : Option (Nat × Nat) := match xv_shl[k]? with
  | some (.inl (kd, n, _, _)) => some (kd, n)
  | _ => none
/-- a row of references: length, first, distance -/
def xv_rr (k : Nat) : Option (Nat × Nat × Nat) := match xv_shl[k]? with
  | some (.inl (kd, n, s, t)) => if kd = 3 ∨ kd = 4 then some (n, s, t) else none
  | _ => none
/-- an object's class -/
def xv_oc (k : Nat) : Option Nat := match xv_shl[k]? with
  | some (.inr (ci, _)) => some ci
  | _ => none
theorem xv_fl_get (I : Nat → Int32) : ∀ (fl : List (Option Nat)) (n a : Nat), (xv_fl I fl n)[a]? = (fl[a]?).map fun x => match x with | some r => Value.ref r | none => Value.int (I (n + a)) := by
  intro fl
  induction fl with
  | nil => intro n a; simp [xv_fl]
  | cons f fl ih =>
    intro n a
    cases a with
    | zero => cases f <;> simp [xv_fl]
    | succ a =>
      cases f with
      | none => show (xv_fl I fl (n + 1))[a]? = _; rw [ih]; simp only [List.getElem?_cons_succ]; rw [show n + 1 + a = n + (a + 1) by omega]
      | some r => show (xv_fl I fl (n + 1))[a]? = _; rw [ih]; simp only [List.getElem?_cons_succ]; rw [show n + 1 + a = n + (a + 1) by omega]
theorem xv_fl_len (I : Nat → Int32) : ∀ (fl : List (Option Nat)) (n : Nat), (xv_fl I fl n).length = fl.length := by
  intro fl
  induction fl with
  | nil => intro n; rfl
  | cons f fl ih => intro n; cases f <;> simp [xv_fl, ih]
theorem xv_fl_set (I : Nat → Int32) (x : Int32) : ∀ (fl : List (Option Nat)) (n a : Nat), fl[a]? = some none → (xv_fl I fl n).set a (.int x) = xv_fl (fun j => if j = n + a then x else I j) fl n := by
  intro fl n a h
  apply List.ext_getElem?
  intro j
  rw [List.getElem?_set, xv_fl_get, xv_fl_get, xv_fl_len]
  have hl : a < fl.length := (List.getElem?_eq_some_iff.mp h).1
  by_cases hj : a = j
  · subst hj
    rw [if_pos rfl, if_pos hl, h]
    simp
  · rw [if_neg hj]
    have h2 : ¬ (n + j = n + a) := by omega
    cases hf : fl[j]? with
    | none => rfl
    | some q => cases q with
      | some r => rfl
      | none =>
        have h3 : ¬ j = a := fun h => hj h.symm
        simp [h3]
theorem xv_mk_set {I I' : Nat → Nat → Int32} {J J' : Nat → Nat → Int64} {k : Nat} {sp : xv_Sp} {c : xv_C} (h : xv_shl[k]? = some sp) (hc : c = xv_mkc (I' k) (J' k) sp) (hI : ∀ j, j ≠ k → I' j = I j) (hJ : ∀ j, j ≠ k → J' j = J j) : xv_up (xv_mk I J) k c = xv_mk I' J' := by
  funext j
  by_cases hj : j = k
  · subst hj
    simp only [xv_up, if_pos, xv_mk, h, hc]
  · simp only [xv_up, if_neg hj, xv_mk, hI j hj, hJ j hj]

theorem xr_null (ro : xv_Ro) (d : Nat) (M : xv_M) (a b w : Nat) (ops : List xv_Op) (ls : xv_L) (st : List Value) (σ : xv_S) (v : Value) : xv_ev ro d M ((.aconst_null, a, b, w, v) :: ops) ls (st) σ = xv_ev ro d M ops ls (.null :: st) σ := xv_ev0 rfl rfl
theorem xr_iconst (ro : xv_Ro) (d : Nat) (M : xv_M) (a b w : Nat) (ops : List xv_Op) (ls : xv_L) (st : List Value) (σ : xv_S) (v : Value) (n : Int) : xv_ev ro d M ((.iconst n, a, b, w, v) :: ops) ls (st) σ = xv_ev ro d M ops ls (v :: st) σ := xv_ev0 rfl rfl
theorem xr_bipush (ro : xv_Ro) (d : Nat) (M : xv_M) (a b w : Nat) (ops : List xv_Op) (ls : xv_L) (st : List Value) (σ : xv_S) (v : Value) (n : Int) : xv_ev ro d M ((.bipush n, a, b, w, v) :: ops) ls (st) σ = xv_ev ro d M ops ls (v :: st) σ := xv_ev0 rfl rfl
theorem xr_sipush (ro : xv_Ro) (d : Nat) (M : xv_M) (a b w : Nat) (ops : List xv_Op) (ls : xv_L) (st : List Value) (σ : xv_S) (v : Value) (n : Int) : xv_ev ro d M ((.sipush n, a, b, w, v) :: ops) ls (st) σ = xv_ev ro d M ops ls (v :: st) σ := xv_ev0 rfl rfl
theorem xr_lconst (ro : xv_Ro) (d : Nat) (M : xv_M) (a b w : Nat) (ops : List xv_Op) (ls : xv_L) (st : List Value) (σ : xv_S) (v : Value) (n : Fin 2) : xv_ev ro d M ((.lconst n, a, b, w, v) :: ops) ls (st) σ = xv_ev ro d M ops ls (v :: st) σ := xv_ev0 rfl rfl
theorem xr_ldc (ro : xv_Ro) (d : Nat) (M : xv_M) (a b w : Nat) (ops : List xv_Op) (ls : xv_L) (st : List Value) (σ : xv_S) (v : Value) (n : Nat) : xv_ev ro d M ((.ldc n, a, b, w, v) :: ops) ls (st) σ = xv_ev ro d M ops ls (v :: st) σ := xv_ev0 rfl rfl
theorem xr_ldc_w (ro : xv_Ro) (d : Nat) (M : xv_M) (a b w : Nat) (ops : List xv_Op) (ls : xv_L) (st : List Value) (σ : xv_S) (v : Value) (n : Nat) : xv_ev ro d M ((.ldc_w n, a, b, w, v) :: ops) ls (st) σ = xv_ev ro d M ops ls (v :: st) σ := xv_ev0 rfl rfl
theorem xr_ldc2_w (ro : xv_Ro) (d : Nat) (M : xv_M) (a b w : Nat) (ops : List xv_Op) (ls : xv_L) (st : List Value) (σ : xv_S) (v : Value) (n : Nat) : xv_ev ro d M ((.ldc2_w n, a, b, w, v) :: ops) ls (st) σ = xv_ev ro d M ops ls (v :: st) σ := xv_ev0 rfl rfl
theorem xr_iload0 (ro : xv_Ro) (d : Nat) (M : xv_M) (a b w : Nat) (ops : List xv_Op) (ls : xv_L) (st : List Value) (σ : xv_S) (v : Value) (x : Int32) : xv_ev ro d M ((.iload_n 0, a, b, w, v) :: ops) (some (.int x) :: ls) (st) σ = xv_ev ro d M ops (some (.int x) :: ls) (.int x :: st) σ := xv_ev0 rfl rfl
theorem xr_istore0 (ro : xv_Ro) (d : Nat) (M : xv_M) (a b w : Nat) (ops : List xv_Op) (ls : xv_L) (st : List Value) (σ : xv_S) (v : Value) (a0 : Option Value) (x : Int32) : xv_ev ro d M ((.istore_n 0, a, b, w, v) :: ops) (a0 :: ls) (.int x :: st) σ = xv_ev ro d M ops (some (.int x) :: ls) (st) σ := xv_ev0 rfl rfl
theorem xr_lload0 (ro : xv_Ro) (d : Nat) (M : xv_M) (a b w : Nat) (ops : List xv_Op) (ls : xv_L) (st : List Value) (σ : xv_S) (v : Value) (x : Int64) : xv_ev ro d M ((.lload_n 0, a, b, w, v) :: ops) (some (.long x) :: ls) (st) σ = xv_ev ro d M ops (some (.long x) :: ls) (.long x :: st) σ := xv_ev0 rfl rfl
theorem xr_lstore0 (ro : xv_Ro) (d : Nat) (M : xv_M) (a b w : Nat) (ops : List xv_Op) (ls : xv_L) (st : List Value) (σ : xv_S) (v : Value) (a0 a1 : Option Value) (x : Int64) : xv_ev ro d M ((.lstore_n 0, a, b, w, v) :: ops) (a0 :: a1 :: ls) (.long x :: st) σ = xv_ev ro d M ops (some (.long x) :: none :: ls) (st) σ := xv_ev0 rfl rfl
theorem xr_aload0 (ro : xv_Ro) (d : Nat) (M : xv_M) (a b w : Nat) (ops : List xv_Op) (ls : xv_L) (st : List Value) (σ : xv_S) (v : Value) (x : Nat) : xv_ev ro d M ((.aload_n 0, a, b, w, v) :: ops) (some (.ref x) :: ls) (st) σ = xv_ev ro d M ops (some (.ref x) :: ls) (.ref x :: st) σ := xv_ev0 rfl rfl
theorem xr_astore0 (ro : xv_Ro) (d : Nat) (M : xv_M) (a b w : Nat) (ops : List xv_Op) (ls : xv_L) (st : List Value) (σ : xv_S) (v : Value) (a0 : Option Value) (x : Nat) : xv_ev ro d M ((.astore_n 0, a, b, w, v) :: ops) (a0 :: ls) (.ref x :: st) σ = xv_ev ro d M ops (some (.ref x) :: ls) (st) σ := xv_ev0 rfl rfl
theorem xr_a0load0 (ro : xv_Ro) (d : Nat) (M : xv_M) (a b w : Nat) (ops : List xv_Op) (ls : xv_L) (st : List Value) (σ : xv_S) (v : Value) : xv_ev ro d M ((.aload_n 0, a, b, w, v) :: ops) (some (.null) :: ls) (st) σ = xv_ev ro d M ops (some (.null) :: ls) (.null :: st) σ := xv_ev0 rfl rfl
theorem xr_a0store0 (ro : xv_Ro) (d : Nat) (M : xv_M) (a b w : Nat) (ops : List xv_Op) (ls : xv_L) (st : List Value) (σ : xv_S) (v : Value) (a0 : Option Value) : xv_ev ro d M ((.astore_n 0, a, b, w, v) :: ops) (a0 :: ls) (.null :: st) σ = xv_ev ro d M ops (some (.null) :: ls) (st) σ := xv_ev0 rfl rfl
theorem xr_iinc0 (ro : xv_Ro) (d : Nat) (M : xv_M) (a b w : Nat) (ops : List xv_Op) (ls : xv_L) (st : List Value) (σ : xv_S) (n : Int) (x c : Int32) : xv_ev ro d M ((.iinc 0 n, a, b, w, .int c) :: ops) (some (.int x) :: ls) (st) σ = xv_ev ro d M ops (some (.int (x + c)) :: ls) (st) σ := xv_ev0 rfl rfl
theorem xr_iload1 (ro : xv_Ro) (d : Nat) (M : xv_M) (a b w : Nat) (ops : List xv_Op) (ls : xv_L) (st : List Value) (σ : xv_S) (v : Value) (a0 : Option Value) (x : Int32) : xv_ev ro d M ((.iload_n 1, a, b, w, v) :: ops) (a0 :: some (.int x) :: ls) (st) σ = xv_ev ro d M ops (a0 :: some (.int x) :: ls) (.int x :: st) σ := xv_ev0 rfl rfl
theorem xr_istore1 (ro : xv_Ro) (d : Nat) (M : xv_M) (a b w : Nat) (ops : List xv_Op) (ls : xv_L) (st : List Value) (σ : xv_S) (v : Value) (a0 a1 : Option Value) (x : Int32) : xv_ev ro d M ((.istore_n 1, a, b, w, v) :: ops) (a0 :: a1 :: ls) (.int x :: st) σ = xv_ev ro d M ops (a0 :: some (.int x) :: ls) (st) σ := xv_ev0 rfl rfl
theorem xr_lload1 (ro : xv_Ro) (d : Nat) (M : xv_M) (a b w : Nat) (ops : List xv_Op) (ls : xv_L) (st : List Value) (σ : xv_S) (v : Value) (a0 : Option Value) (x : Int64) : xv_ev ro d M ((.lload_n 1, a, b, w, v) :: ops) (a0 :: some (.long x) :: ls) (st) σ = xv_ev ro d M ops (a0 :: some (.long x) :: ls) (.long x :: st) σ := xv_ev0 rfl rfl
theorem xr_lstore1 (ro : xv_Ro) (d : Nat) (M : xv_M) (a b w : Nat) (ops : List xv_Op) (ls : xv_L) (st : List Value) (σ : xv_S) (v : Value) (a0 a1 a2 : Option Value) (x : Int64) : xv_ev ro d M ((.lstore_n 1, a, b, w, v) :: ops) (a0 :: a1 :: a2 :: ls) (.long x :: st) σ = xv_ev ro d M ops (a0 :: some (.long x) :: none :: ls) (st) σ := xv_ev0 rfl rfl
theorem xr_aload1 (ro : xv_Ro) (d : Nat) (M : xv_M) (a b w : Nat) (ops : List xv_Op) (ls : xv_L) (st : List Value) (σ : xv_S) (v : Value) (a0 : Option Value) (x : Nat) : xv_ev ro d M ((.aload_n 1, a, b, w, v) :: ops) (a0 :: some (.ref x) :: ls) (st) σ = xv_ev ro d M ops (a0 :: some (.ref x) :: ls) (.ref x :: st) σ := xv_ev0 rfl rfl
theorem xr_astore1 (ro : xv_Ro) (d : Nat) (M : xv_M) (a b w : Nat) (ops : List xv_Op) (ls : xv_L) (st : List Value) (σ : xv_S) (v : Value) (a0 a1 : Option Value) (x : Nat) : xv_ev ro d M ((.astore_n 1, a, b, w, v) :: ops) (a0 :: a1 :: ls) (.ref x :: st) σ = xv_ev ro d M ops (a0 :: some (.ref x) :: ls) (st) σ := xv_ev0 rfl rfl
theorem xr_a0load1 (ro : xv_Ro) (d : Nat) (M : xv_M) (a b w : Nat) (ops : List xv_Op) (ls : xv_L) (st : List Value) (σ : xv_S) (v : Value) (a0 : Option Value) : xv_ev ro d M ((.aload_n 1, a, b, w, v) :: ops) (a0 :: some (.null) :: ls) (st) σ = xv_ev ro d M ops (a0 :: some (.null) :: ls) (.null :: st) σ := xv_ev0 rfl rfl
theorem xr_a0store1 (ro : xv_Ro) (d : Nat) (M : xv_M) (a b w : Nat) (ops : List xv_Op) (ls : xv_L) (st : List Value) (σ : xv_S) (v : Value) (a0 a1 : Option Value) : xv_ev ro d M ((.astore_n 1, a, b, w, v) :: ops) (a0 :: a1 :: ls) (.null :: st) σ = xv_ev ro d M ops (a0 :: some (.null) :: ls) (st) σ := xv_ev0 rfl rfl
theorem xr_iinc1 (ro : xv_Ro) (d : Nat) (M : xv_M) (a b w : Nat) (ops : List xv_Op) (ls : xv_L) (st : List Value) (σ : xv_S) (n : Int) (x c : Int32) (a0 : Option Value) : xv_ev ro d M ((.iinc 1 n, a, b, w, .int c) :: ops) (a0 :: some (.int x) :: ls) (st) σ = xv_ev ro d M ops (a0 :: some (.int (x + c)) :: ls) (st) σ := xv_ev0 rfl rfl
theorem xr_iload2 (ro : xv_Ro) (d : Nat) (M : xv_M) (a b w : Nat) (ops : List xv_Op) (ls : xv_L) (st : List Value) (σ : xv_S) (v : Value) (a0 a1 : Option Value) (x : Int32) : xv_ev ro d M ((.iload_n 2, a, b, w, v) :: ops) (a0 :: a1 :: some (.int x) :: ls) (st) σ = xv_ev ro d M ops (a0 :: a1 :: some (.int x) :: ls) (.int x :: st) σ := xv_ev0 rfl rfl
theorem xr_istore2 (ro : xv_Ro) (d : Nat) (M : xv_M) (a b w : Nat) (ops : List xv_Op) (ls : xv_L) (st : List Value) (σ : xv_S) (v : Value) (a0 a1 a2 : Option Value) (x : Int32) : xv_ev ro d M ((.istore_n 2, a, b, w, v) :: ops) (a0 :: a1 :: a2 :: ls) (.int x :: st) σ = xv_ev ro d M ops (a0 :: a1 :: some (.int x) :: ls) (st) σ := xv_ev0 rfl rfl
theorem xr_lload2 (ro : xv_Ro) (d : Nat) (M : xv_M) (a b w : Nat) (ops : List xv_Op) (ls : xv_L) (st : List Value) (σ : xv_S) (v : Value) (a0 a1 : Option Value) (x : Int64) : xv_ev ro d M ((.lload_n 2, a, b, w, v) :: ops) (a0 :: a1 :: some (.long x) :: ls) (st) σ = xv_ev ro d M ops (a0 :: a1 :: some (.long x) :: ls) (.long x :: st) σ := xv_ev0 rfl rfl
theorem xr_lstore2 (ro : xv_Ro) (d : Nat) (M : xv_M) (a b w : Nat) (ops : List xv_Op) (ls : xv_L) (st : List Value) (σ : xv_S) (v : Value) (a0 a1 a2 a3 : Option Value) (x : Int64) : xv_ev ro d M ((.lstore_n 2, a, b, w, v) :: ops) (a0 :: a1 :: a2 :: a3 :: ls) (.long x :: st) σ = xv_ev ro d M ops (a0 :: a1 :: some (.long x) :: none :: ls) (st) σ := xv_ev0 rfl rfl
theorem xr_aload2 (ro : xv_Ro) (d : Nat) (M : xv_M) (a b w : Nat) (ops : List xv_Op) (ls : xv_L) (st : List Value) (σ : xv_S) (v : Value) (a0 a1 : Option Value) (x : Nat) : xv_ev ro d M ((.aload_n 2, a, b, w, v) :: ops) (a0 :: a1 :: some (.ref x) :: ls) (st) σ = xv_ev ro d M ops (a0 :: a1 :: some (.ref x) :: ls) (.ref x :: st) σ := xv_ev0 rfl rfl
theorem xr_astore2 (ro : xv_Ro) (d : Nat) (M : xv_M) (a b w : Nat) (ops : List xv_Op) (ls : xv_L) (st : List Value) (σ : xv_S) (v : Value) (a0 a1 a2 : Option Value) (x : Nat) : xv_ev ro d M ((.astore_n 2, a, b, w, v) :: ops) (a0 :: a1 :: a2 :: ls) (.ref x :: st) σ = xv_ev ro d M ops (a0 :: a1 :: some (.ref x) :: ls) (st) σ := xv_ev0 rfl rfl
theorem xr_a0load2 (ro : xv_Ro) (d : Nat) (M : xv_M) (a b w : Nat) (ops : List xv_Op) (ls : xv_L) (st : List Value) (σ : xv_S) (v : Value) (a0 a1 : Option Value) : xv_ev ro d M ((.aload_n 2, a, b, w, v) :: ops) (a0 :: a1 :: some (.null) :: ls) (st) σ = xv_ev ro d M ops (a0 :: a1 :: some (.null) :: ls) (.null :: st) σ := xv_ev0 rfl rfl
theorem xr_a0store2 (ro : xv_Ro) (d : Nat) (M : xv_M) (a b w : Nat) (ops : List xv_Op) (ls : xv_L) (st : List Value) (σ : xv_S) (v : Value) (a0 a1 a2 : Option Value) : xv_ev ro d M ((.astore_n 2, a, b, w, v) :: ops) (a0 :: a1 :: a2 :: ls) (.null :: st) σ = xv_ev ro d M ops (a0 :: a1 :: some (.null) :: ls) (st) σ := xv_ev0 rfl rfl
theorem xr_iinc2 (ro : xv_Ro) (d : Nat) (M : xv_M) (a b w : Nat) (ops : List xv_Op) (ls : xv_L) (st : List Value) (σ : xv_S) (n : Int) (x c : Int32) (a0 a1 : Option Value) : xv_ev ro d M ((.iinc 2 n, a, b, w, .int c) :: ops) (a0 :: a1 :: some (.int x) :: ls) (st) σ = xv_ev ro d M ops (a0 :: a1 :: some (.int (x + c)) :: ls) (st) σ := xv_ev0 rfl rfl
theorem xr_iload3 (ro : xv_Ro) (d : Nat) (M : xv_M) (a b w : Nat) (ops : List xv_Op) (ls : xv_L) (st : List Value) (σ : xv_S) (v : Value) (a0 a1 a2 : Option Value) (x : Int32) : xv_ev ro d M ((.iload_n 3, a, b, w, v) :: ops) (a0 :: a1 :: a2 :: some (.int x) :: ls) (st) σ = xv_ev ro d M ops (a0 :: a1 :: a2 :: some (.int x) :: ls) (.int x :: st) σ := xv_ev0 rfl rfl
theorem xr_istore3 (ro : xv_Ro) (d : Nat) (M : xv_M) (a b w : Nat) (ops : List xv_Op) (ls : xv_L) (st : List Value) (σ : xv_S) (v : Value) (a0 a1 a2 a3 : Option Value) (x : Int32) : xv_ev ro d M ((.istore_n 3, a, b, w, v) :: ops) (a0 :: a1 :: a2 :: a3 :: ls) (.int x :: st) σ = xv_ev ro d M ops (a0 :: a1 :: a2 :: some (.int x) :: ls) (st) σ := xv_ev0 rfl rfl
theorem xr_lload3 (ro : xv_Ro) (d : Nat) (M : xv_M) (a b w : Nat) (ops : List xv_Op) (ls : xv_L) (st : List Value) (σ : xv_S) (v : Value) (a0 a1 a2 : Option Value) (x : Int64) : xv_ev ro d M ((.lload_n 3, a, b, w, v) :: ops) (a0 :: a1 :: a2 :: some (.long x) :: ls) (st) σ = xv_ev ro d M ops (a0 :: a1 :: a2 :: some (.long x) :: ls) (.long x :: st) σ := xv_ev0 rfl rfl
theorem xr_lstore3 (ro : xv_Ro) (d : Nat) (M : xv_M) (a b w : Nat) (ops : List xv_Op) (ls : xv_L) (st : List Value) (σ : xv_S) (v : Value) (a0 a1 a2 a3 a4 : Option Value) (x : Int64) : xv_ev ro d M ((.lstore_n 3, a, b, w, v) :: ops) (a0 :: a1 :: a2 :: a3 :: a4 :: ls) (.long x :: st) σ = xv_ev ro d M ops (a0 :: a1 :: a2 :: some (.long x) :: none :: ls) (st) σ := xv_ev0 rfl rfl
theorem xr_aload3 (ro : xv_Ro) (d : Nat) (M : xv_M) (a b w : Nat) (ops : List xv_Op) (ls : xv_L) (st : List Value) (σ : xv_S) (v : Value) (a0 a1 a2 : Option Value) (x : Nat) : xv_ev ro d M ((.aload_n 3, a, b, w, v) :: ops) (a0 :: a1 :: a2 :: some (.ref x) :: ls) (st) σ = xv_ev ro d M ops (a0 :: a1 :: a2 :: some (.ref x) :: ls) (.ref x :: st) σ := xv_ev0 rfl rfl
theorem xr_astore3 (ro : xv_Ro) (d : Nat) (M : xv_M) (a b w : Nat) (ops : List xv_Op) (ls : xv_L) (st : List Value) (σ : xv_S) (v : Value) (a0 a1 a2 a3 : Option Value) (x : Nat) : xv_ev ro d M ((.astore_n 3, a, b, w, v) :: ops) (a0 :: a1 :: a2 :: a3 :: ls) (.ref x :: st) σ = xv_ev ro d M ops (a0 :: a1 :: a2 :: some (.ref x) :: ls) (st) σ := xv_ev0 rfl rfl
theorem xr_a0load3 (ro : xv_Ro) (d : Nat) (M : xv_M) (a b w : Nat) (ops : List xv_Op) (ls : xv_L) (st : List Value) (σ : xv_S) (v : Value) (a0 a1 a2 : Option Value) : xv_ev ro d M ((.aload_n 3, a, b, w, v) :: ops) (a0 :: a1 :: a2 :: some (.null) :: ls) (st) σ = xv_ev ro d M ops (a0 :: a1 :: a2 :: some (.null) :: ls) (.null :: st) σ := xv_ev0 rfl rfl
theorem xr_a0store3 (ro : xv_Ro) (d : Nat) (M : xv_M) (a b w : Nat) (ops : List xv_Op) (ls : xv_L) (st : List Value) (σ : xv_S) (v : Value) (a0 a1 a2 a3 : Option Value) : xv_ev ro d M ((.astore_n 3, a, b, w, v) :: ops) (a0 :: a1 :: a2 :: a3 :: ls) (.null :: st) σ = xv_ev ro d M ops (a0 :: a1 :: a2 :: some (.null) :: ls) (st) σ := xv_ev0 rfl rfl
theorem xr_iinc3 (ro : xv_Ro) (d : Nat) (M : xv_M) (a b w : Nat) (ops : List xv_Op) (ls : xv_L) (st : List Value) (σ : xv_S) (n : Int) (x c : Int32) (a0 a1 a2 : Option Value) : xv_ev ro d M ((.iinc 3 n, a, b, w, .int c) :: ops) (a0 :: a1 :: a2 :: some (.int x) :: ls) (st) σ = xv_ev ro d M ops (a0 :: a1 :: a2 :: some (.int (x + c)) :: ls) (st) σ := xv_ev0 rfl rfl
theorem xr_iload4 (ro : xv_Ro) (d : Nat) (M : xv_M) (a b w : Nat) (ops : List xv_Op) (ls : xv_L) (st : List Value) (σ : xv_S) (v : Value) (a0 a1 a2 a3 : Option Value) (x : Int32) : xv_ev ro d M ((.iload 4, a, b, w, v) :: ops) (a0 :: a1 :: a2 :: a3 :: some (.int x) :: ls) (st) σ = xv_ev ro d M ops (a0 :: a1 :: a2 :: a3 :: some (.int x) :: ls) (.int x :: st) σ := xv_ev0 rfl rfl
theorem xr_istore4 (ro : xv_Ro) (d : Nat) (M : xv_M) (a b w : Nat) (ops : List xv_Op) (ls : xv_L) (st : List Value) (σ : xv_S) (v : Value) (a0 a1 a2 a3 a4 : Option Value) (x : Int32) : xv_ev ro d M ((.istore 4, a, b, w, v) :: ops) (a0 :: a1 :: a2 :: a3 :: a4 :: ls) (.int x :: st) σ = xv_ev ro d M ops (a0 :: a1 :: a2 :: a3 :: some (.int x) :: ls) (st) σ := xv_ev0 rfl rfl
theorem xr_lload4 (ro : xv_Ro) (d : Nat) (M : xv_M) (a b w : Nat) (ops : List xv_Op) (ls : xv_L) (st : List Value) (σ : xv_S) (v : Value) (a0 a1 a2 a3 : Option Value) (x : Int64) : xv_ev ro d M ((.lload 4, a, b, w, v) :: ops) (a0 :: a1 :: a2 :: a3 :: some (.long x) :: ls) (st) σ = xv_ev ro d M ops (a0 :: a1 :: a2 :: a3 :: some (.long x) :: ls) (.long x :: st) σ := xv_ev0 rfl rfl
theorem xr_lstore4 (ro : xv_Ro) (d : Nat) (M : xv_M) (a b w : Nat) (ops : List xv_Op) (ls : xv_L) (st : List Value) (σ : xv_S) (v : Value) (a0 a1 a2 a3 a4 a5 : Option Value) (x : Int64) : xv_ev ro d M ((.lstore 4, a, b, w, v) :: ops) (a0 :: a1 :: a2 :: a3 :: a4 :: a5 :: ls) (.long x :: st) σ = xv_ev ro d M ops (a0 :: a1 :: a2 :: a3 :: some (.long x) :: none :: ls) (st) σ := xv_ev0 rfl rfl
theorem xr_aload4 (ro : xv_Ro) (d : Nat) (M : xv_M) (a b w : Nat) (ops : List xv_Op) (ls : xv_L) (st : List Value) (σ : xv_S) (v : Value) (a0 a1 a2 a3 : Option Value) (x : Nat) : xv_ev ro d M ((.aload 4, a, b, w, v) :: ops) (a0 :: a1 :: a2 :: a3 :: some (.ref x) :: ls) (st) σ = xv_ev ro d M ops (a0 :: a1 :: a2 :: a3 :: some (.ref x) :: ls) (.ref x :: st) σ := xv_ev0 rfl rfl
theorem xr_astore4 (ro : xv_Ro) (d : Nat) (M : xv_M) (a b w : Nat) (ops : List xv_Op) (ls : xv_L) (st : List Value) (σ : xv_S) (v : Value) (a0 a1 a2 a3 a4 : Option Value) (x : Nat) : xv_ev ro d M ((.astore 4, a, b, w, v) :: ops) (a0 :: a1 :: a2 :: a3 :: a4 :: ls) (.ref x :: st) σ = xv_ev ro d M ops (a0 :: a1 :: a2 :: a3 :: some (.ref x) :: ls) (st) σ := xv_ev0 rfl rfl
theorem xr_a0load4 (ro : xv_Ro) (d : Nat) (M : xv_M) (a b w : Nat) (ops : List xv_Op) (ls : xv_L) (st : List Value) (σ : xv_S) (v : Value) (a0 a1 a2 a3 : Option Value) : xv_ev ro d M ((.aload 4, a, b, w, v) :: ops) (a0 :: a1 :: a2 :: a3 :: some (.null) :: ls) (st) σ = xv_ev ro d M ops (a0 :: a1 :: a2 :: a3 :: some (.null) :: ls) (.null :: st) σ := xv_ev0 rfl rfl
theorem xr_a0store4 (ro : xv_Ro) (d : Nat) (M : xv_M) (a b w : Nat) (ops : List xv_Op) (ls : xv_L) (st : List Value) (σ : xv_S) (v : Value) (a0 a1 a2 a3 a4 : Option Value) : xv_ev ro d M ((.astore 4, a, b, w, v) :: ops) (a0 :: a1 :: a2 :: a3 :: a4 :: ls) (.null :: st) σ = xv_ev ro d M ops (a0 :: a1 :: a2 :: a3 :: some (.null) :: ls) (st) σ := xv_ev0 rfl rfl
theorem xr_iinc4 (ro : xv_Ro) (d : Nat) (M : xv_M) (a b w : Nat) (ops : List xv_Op) (ls : xv_L) (st : List Value) (σ : xv_S) (n : Int) (x c : Int32) (a0 a1 a2 a3 : Option Value) : xv_ev ro d M ((.iinc 4 n, a, b, w, .int c) :: ops) (a0 :: a1 :: a2 :: a3 :: some (.int x) :: ls) (st) σ = xv_ev ro d M ops (a0 :: a1 :: a2 :: a3 :: some (.int (x + c)) :: ls) (st) σ := xv_ev0 rfl rfl
theorem xr_iload5 (ro : xv_Ro) (d : Nat) (M : xv_M) (a b w : Nat) (ops : List xv_Op) (ls : xv_L) (st : List Value) (σ : xv_S) (v : Value) (a0 a1 a2 a3 a4 : Option Value) (x : Int32) : xv_ev ro d M ((.iload 5, a, b, w, v) :: ops) (a0 :: a1 :: a2 :: a3 :: a4 :: some (.int x) :: ls) (st) σ = xv_ev ro d M ops (a0 :: a1 :: a2 :: a3 :: a4 :: some (.int x) :: ls) (.int x :: st) σ := xv_ev0 rfl rfl
theorem xr_istore5 (ro : xv_Ro) (d : Nat) (M : xv_M) (a b w : Nat) (ops : List xv_Op) (ls : xv_L) (st : List Value) (σ : xv_S) (v : Value) (a0 a1 a2 a3 a4 a5 : Option Value) (x : Int32) : xv_ev ro d M ((.istore 5, a, b, w, v) :: ops) (a0 :: a1 :: a2 :: a3 :: a4 :: a5 :: ls) (.int x :: st) σ = xv_ev ro d M ops (a0 :: a1 :: a2 :: a3 :: a4 :: some (.int x) :: ls) (st) σ := xv_ev0 rfl rfl
theorem xr_lload5 (ro : xv_Ro) (d : Nat) (M : xv_M) (a b w : Nat) (ops : List xv_Op) (ls : xv_L) (st : List Value) (σ : xv_S) (v : Value) (a0 a1 a2 a3 a4 : Option Value) (x : Int64) : xv_ev ro d M ((.lload 5, a, b, w, v) :: ops) (a0 :: a1 :: a2 :: a3 :: a4 :: some (.long x) :: ls) (st) σ = xv_ev ro d M ops (a0 :: a1 :: a2 :: a3 :: a4 :: some (.long x) :: ls) (.long x :: st) σ := xv_ev0 rfl rfl
theorem xr_lstore5 (ro : xv_Ro) (d : Nat) (M : xv_M) (a b w : Nat) (ops : List xv_Op) (ls : xv_L) (st : List Value) (σ : xv_S) (v : Value) (a0 a1 a2 a3 a4 a5 a6 : Option Value) (x : Int64) : xv_ev ro d M ((.lstore 5, a, b, w, v) :: ops) (a0 :: a1 :: a2 :: a3 :: a4 :: a5 :: a6 :: ls) (.long x :: st) σ = xv_ev ro d M ops (a0 :: a1 :: a2 :: a3 :: a4 :: some (.long x) :: none :: ls) (st) σ := xv_ev0 rfl rfl
theorem xr_aload5 (ro : xv_Ro) (d : Nat) (M : xv_M) (a b w : Nat) (ops : List xv_Op) (ls : xv_L) (st : List Value) (σ : xv_S) (v : Value) (a0 a1 a2 a3 a4 : Option Value) (x : Nat) : xv_ev ro d M ((.aload 5, a, b, w, v) :: ops) (a0 :: a1 :: a2 :: a3 :: a4 :: some (.ref x) :: ls) (st) σ = xv_ev ro d M ops (a0 :: a1 :: a2 :: a3 :: a4 :: some (.ref x) :: ls) (.ref x :: st) σ := xv_ev0 rfl rfl
theorem xr_astore5 (ro : xv_Ro) (d : Nat) (M : xv_M) (a b w : Nat) (ops : List xv_Op) (ls : xv_L) (st : List Value) (σ : xv_S) (v : Value) (a0 a1 a2 a3 a4 a5 : Option Value) (x : Nat) : xv_ev ro d M ((.astore 5, a, b, w, v) :: ops) (a0 :: a1 :: a2 :: a3 :: a4 :: a5 :: ls) (.ref x :: st) σ = xv_ev ro d M ops (a0 :: a1 :: a2 :: a3 :: a4 :: some (.ref x) :: ls) (st) σ := xv_ev0 rfl rfl
theorem xr_a0load5 (ro : xv_Ro) (d : Nat) (M : xv_M) (a b w : Nat) (ops : List xv_Op) (ls : xv_L) (st : List Value) (σ : xv_S) (v : Value) (a0 a1 a2 a3 a4 : Option Value) : xv_ev ro d M ((.aload 5, a, b, w, v) :: ops) (a0 :: a1 :: a2 :: a3 :: a4 :: some (.null) :: ls) (st) σ = xv_ev ro d M ops (a0 :: a1 :: a2 :: a3 :: a4 :: some (.null) :: ls) (.null :: st) σ := xv_ev0 rfl rfl
theorem xr_a0store5 (ro : xv_Ro) (d : Nat) (M : xv_M) (a b w : Nat) (ops : List xv_Op) (ls : xv_L) (st : List Value) (σ : xv_S) (v : Value) (a0 a1 a2 a3 a4 a5 : Option Value) : xv_ev ro d M ((.astore 5, a, b, w, v) :: ops) (a0 :: a1 :: a2 :: a3 :: a4 :: a5 :: ls) (.null :: st) σ = xv_ev ro d M ops (a0 :: a1 :: a2 :: a3 :: a4 :: some (.null) :: ls) (st) σ := xv_ev0 rfl rfl
theorem xr_iinc5 (ro : xv_Ro) (d : Nat) (M : xv_M) (a b w : Nat) (ops : List xv_Op) (ls : xv_L) (st : List Value) (σ : xv_S) (n : Int) (x c : Int32) (a0 a1 a2 a3 a4 : Option Value) : xv_ev ro d M ((.iinc 5 n, a, b, w, .int c) :: ops) (a0 :: a1 :: a2 :: a3 :: a4 :: some (.int x) :: ls) (st) σ = xv_ev ro d M ops (a0 :: a1 :: a2 :: a3 :: a4 :: some (.int (x + c)) :: ls) (st) σ := xv_ev0 rfl rfl
theorem xr_iload6 (ro : xv_Ro) (d : Nat) (M : xv_M) (a b w : Nat) (ops : List xv_Op) (ls : xv_L) (st : List Value) (σ : xv_S) (v : Value) (a0 a1 a2 a3 a4 a5 : Option Value) (x : Int32) : xv_ev ro d M ((.iload 6, a, b, w, v) :: ops) (a0 :: a1 :: a2 :: a3 :: a4 :: a5 :: some (.int x) :: ls) (st) σ = xv_ev ro d M ops (a0 :: a1 :: a2 :: a3 :: a4 :: a5 :: some (.int x) :: ls) (.int x :: st) σ := xv_ev0 rfl rfl
theorem xr_istore6 (ro : xv_Ro) (d : Nat) (M : xv_M) (a b w : Nat) (ops : List xv_Op) (ls : xv_L) (st : List Value) (σ : xv_S) (v : Value) (a0 a1 a2 a3 a4 a5 a6 : Option Value) (x : Int32) : xv_ev ro d M ((.istore 6, a, b, w, v) :: ops) (a0 :: a1 :: a2 :: a3 :: a4 :: a5 :: a6 :: ls) (.int x :: st) σ = xv_ev ro d M ops (a0 :: a1 :: a2 :: a3 :: a4 :: a5 :: some (.int x) :: ls) (st) σ := xv_ev0 rfl rfl
theorem xr_lload6 (ro : xv_Ro) (d : Nat) (M : xv_M) (a b w : Nat) (ops : List xv_Op) (ls : xv_L) (st : List Value) (σ : xv_S) (v : Value) (a0 a1 a2 a3 a4 a5 : Option Value) (x : Int64) : xv_ev ro d M ((.lload 6, a, b, w, v) :: ops) (a0 :: a1 :: a2 :: a3 :: a4 :: a5 :: some (.long x) :: ls) (st) σ = xv_ev ro d M ops (a0 :: a1 :: a2 :: a3 :: a4 :: a5 :: some (.long x) :: ls) (.long x :: st) σ := xv_ev0 rfl rfl
theorem xr_lstore6 (ro : xv_Ro) (d : Nat) (M : xv_M) (a b w : Nat) (ops : List xv_Op) (ls : xv_L) (st : List Value) (σ : xv_S) (v : Value) (a0 a1 a2 a3 a4 a5 a6 a7 : Option Value) (x : Int64) : xv_ev ro d M ((.lstore 6, a, b, w, v) :: ops) (a0 :: a1 :: a2 :: a3 :: a4 :: a5 :: a6 :: a7 :: ls) (.long x :: st) σ = xv_ev ro d M ops (a0 :: a1 :: a2 :: a3 :: a4 :: a5 :: some (.long x) :: none :: ls) (st) σ := xv_ev0 rfl rfl
theorem xr_aload6 (ro : xv_Ro) (d : Nat) (M : xv_M) (a b w : Nat) (ops : List xv_Op) (ls : xv_L) (st : List Value) (σ : xv_S) (v : Value) (a0 a1 a2 a3 a4 a5 : Option Value) (x : Nat) : xv_ev ro d M ((.aload 6, a, b, w, v) :: ops) (a0 :: a1 :: a2 :: a3 :: a4 :: a5 :: some (.ref x) :: ls) (st) σ = xv_ev ro d M ops (a0 :: a1 :: a2 :: a3 :: a4 :: a5 :: some (.ref x) :: ls) (.ref x :: st) σ := xv_ev0 rfl rfl
theorem xr_astore6 (ro : xv_Ro) (d : Nat) (M : xv_M) (a b w : Nat) (ops : List xv_Op) (ls : xv_L) (st : List Value) (σ : xv_S) (v : Value) (a0 a1 a2 a3 a4 a5 a6 : Option Value) (x : Nat) : xv_ev ro d M ((.astore 6, a, b, w, v) :: ops) (a0 :: a1 :: a2 :: a3 :: a4 :: a5 :: a6 :: ls) (.ref x :: st) σ = xv_ev ro d M ops (a0 :: a1 :: a2 :: a3 :: a4 :: a5 :: some (.ref x) :: ls) (st) σ := xv_ev0 rfl rfl
theorem xr_a0load6 (ro : xv_Ro) (d : Nat) (M : xv_M) (a b w : Nat) (ops : List xv_Op) (ls : xv_L) (st : List Value) (σ : xv_S) (v : Value) (a0 a1 a2 a3 a4 a5 : Option Value) : xv_ev ro d M ((.aload 6, a, b, w, v) :: ops) (a0 :: a1 :: a2 :: a3 :: a4 :: a5 :: some (.null) :: ls) (st) σ = xv_ev ro d M ops (a0 :: a1 :: a2 :: a3 :: a4 :: a5 :: some (.null) :: ls) (.null :: st) σ := xv_ev0 rfl rfl
theorem xr_a0store6 (ro : xv_Ro) (d : Nat) (M : xv_M) (a b w : Nat) (ops : List xv_Op) (ls : xv_L) (st : List Value) (σ : xv_S) (v : Value) (a0 a1 a2 a3 a4 a5 a6 : Option Value) : xv_ev ro d M ((.astore 6, a, b, w, v) :: ops) (a0 :: a1 :: a2 :: a3 :: a4 :: a5 :: a6 :: ls) (.null :: st) σ = xv_ev ro d M ops (a0 :: a1 :: a2 :: a3 :: a4 :: a5 :: some (.null) :: ls) (st) σ := xv_ev0 rfl rfl
theorem xr_iinc6 (ro : xv_Ro) (d : Nat) (M : xv_M) (a b w : Nat) (ops : List xv_Op) (ls : xv_L) (st : List Value) (σ : xv_S) (n : Int) (x c : Int32) (a0 a1 a2 a3 a4 a5 : Option Value) : xv_ev ro d M ((.iinc 6 n, a, b, w, .int c) :: ops) (a0 :: a1 :: a2 :: a3 :: a4 :: a5 :: some (.int x) :: ls) (st) σ = xv_ev ro d M ops (a0 :: a1 :: a2 :: a3 :: a4 :: a5 :: some (.int (x + c)) :: ls) (st) σ := xv_ev0 rfl rfl
theorem xr_iload7 (ro : xv_Ro) (d : Nat) (M : xv_M) (a b w : Nat) (ops : List xv_Op) (ls : xv_L) (st : List Value) (σ : xv_S) (v : Value) (a0 a1 a2 a3 a4 a5 a6 : Option Value) (x : Int32) : xv_ev ro d M ((.iload 7, a, b, w, v) :: ops) (a0 :: a1 :: a2 :: a3 :: a4 :: a5 :: a6 :: some (.int x) :: ls) (st) σ = xv_ev ro d M ops (a0 :: a1 :: a2 :: a3 :: a4 :: a5 :: a6 :: some (.int x) :: ls) (.int x :: st) σ := xv_ev0 rfl rfl
theorem xr_istore7 (ro : xv_Ro) (d : Nat) (M : xv_M) (a b w : Nat) (ops : List xv_Op) (ls : xv_L) (st : List Value) (σ : xv_S) (v : Value) (a0 a1 a2 a3 a4 a5 a6 a7 : Option Value) (x : Int32) : xv_ev ro d M ((.istore 7, a, b, w, v) :: ops) (a0 :: a1 :: a2 :: a3 :: a4 :: a5 :: a6 :: a7 :: ls) (.int x :: st) σ = xv_ev ro d M ops (a0 :: a1 :: a2 :: a3 :: a4 :: a5 :: a6 :: some (.int x) :: ls) (st) σ := xv_ev0 rfl rfl
theorem xr_lload7 (ro : xv_Ro) (d : Nat) (M : xv_M) (a b w : Nat) (ops : List xv_Op) (ls : xv_L) (st : List Value) (σ : xv_S) (v : Value) (a0 a1 a2 a3 a4 a5 a6 : Option Value) (x : Int64) : xv_ev ro d M ((.lload 7, a, b, w, v) :: ops) (a0 :: a1 :: a2 :: a3 :: a4 :: a5 :: a6 :: some (.long x) :: ls) (st) σ = xv_ev ro d M ops (a0 :: a1 :: a2 :: a3 :: a4 :: a5 :: a6 :: some (.long x) :: ls) (.long x :: st) σ := xv_ev0 rfl rfl
theorem xr_lstore7 (ro : xv_Ro) (d : Nat) (M : xv_M) (a b w : Nat) (ops : List xv_Op) (ls : xv_L) (st : List Value) (σ : xv_S) (v : Value) (a0 a1 a2 a3 a4 a5 a6 a7 a8 : Option Value) (x : Int64) : xv_ev ro d M ((.lstore 7, a, b, w, v) :: ops) (a0 :: a1 :: a2 :: a3 :: a4 :: a5 :: a6 :: a7 :: a8 :: ls) (.long x :: st) σ = xv_ev ro d M ops (a0 :: a1 :: a2 :: a3 :: a4 :: a5 :: a6 :: some (.long x) :: none :: ls) (st) σ := xv_ev0 rfl rfl
theorem xr_aload7 (ro : xv_Ro) (d : Nat) (M : xv_M) (a b w : Nat) (ops : List xv_Op) (ls : xv_L) (st : List Value) (σ : xv_S) (v : Value) (a0 a1 a2 a3 a4 a5 a6 : Option Value) (x : Nat) : xv_ev ro d M ((.aload 7, a, b, w, v) :: ops) (a0 :: a1 :: a2 :: a3 :: a4 :: a5 :: a6 :: some (.ref x) :: ls) (st) σ = xv_ev ro d M ops (a0 :: a1 :: a2 :: a3 :: a4 :: a5 :: a6 :: some (.ref x) :: ls) (.ref x :: st) σ := xv_ev0 rfl rfl
theorem xr_astore7 (ro : xv_Ro) (d : Nat) (M : xv_M) (a b w : Nat) (ops : List xv_Op) (ls : xv_L) (st : List Value) (σ : xv_S) (v : Value) (a0 a1 a2 a3 a4 a5 a6 a7 : Option Value) (x : Nat) : xv_ev ro d M ((.astore 7, a, b, w, v) :: ops) (a0 :: a1 :: a2 :: a3 :: a4 :: a5 :: a6 :: a7 :: ls) (.ref x :: st) σ = xv_ev ro d M ops (a0 :: a1 :: a2 :: a3 :: a4 :: a5 :: a6 :: some (.ref x) :: ls) (st) σ := xv_ev0 rfl rfl
theorem xr_a0load7 (ro : xv_Ro) (d : Nat) (M : xv_M) (a b w : Nat) (ops : List xv_Op) (ls : xv_L) (st : List Value) (σ : xv_S) (v : Value) (a0 a1 a2 a3 a4 a5 a6 : Option Value) : xv_ev ro d M ((.aload 7, a, b, w, v) :: ops) (a0 :: a1 :: a2 :: a3 :: a4 :: a5 :: a6 :: some (.null) :: ls) (st) σ = xv_ev ro d M ops (a0 :: a1 :: a2 :: a3 :: a4 :: a5 :: a6 :: some (.null) :: ls) (.null :: st) σ := xv_ev0 rfl rfl
theorem xr_a0store7 (ro : xv_Ro) (d : Nat) (M : xv_M) (a b w : Nat) (ops : List xv_Op) (ls : xv_L) (st : List Value) (σ : xv_S) (v : Value) (a0 a1 a2 a3 a4 a5 a6 a7 : Option Value) : xv_ev ro d M ((.astore 7, a, b, w, v) :: ops) (a0 :: a1 :: a2 :: a3 :: a4 :: a5 :: a6 :: a7 :: ls) (.null :: st) σ = xv_ev ro d M ops (a0 :: a1 :: a2 :: a3 :: a4 :: a5 :: a6 :: some (.null) :: ls) (st) σ := xv_ev0 rfl rfl
theorem xr_iinc7 (ro : xv_Ro) (d : Nat) (M : xv_M) (a b w : Nat) (ops : List xv_Op) (ls : xv_L) (st : List Value) (σ : xv_S) (n : Int) (x c : Int32) (a0 a1 a2 a3 a4 a5 a6 : Option Value) : xv_ev ro d M ((.iinc 7 n, a, b, w, .int c) :: ops) (a0 :: a1 :: a2 :: a3 :: a4 :: a5 :: a6 :: some (.int x) :: ls) (st) σ = xv_ev ro d M ops (a0 :: a1 :: a2 :: a3 :: a4 :: a5 :: a6 :: some (.int (x + c)) :: ls) (st) σ := xv_ev0 rfl rfl
theorem xr_iload8 (ro : xv_Ro) (d : Nat) (M : xv_M) (a b w : Nat) (ops : List xv_Op) (ls : xv_L) (st : List Value) (σ : xv_S) (v : Value) (a0 a1 a2 a3 a4 a5 a6 a7 : Option Value) (x : Int32) : xv_ev ro d M ((.iload 8, a, b, w, v) :: ops) (a0 :: a1 :: a2 :: a3 :: a4 :: a5 :: a6 :: a7 :: some (.int x) :: ls) (st) σ = xv_ev ro d M ops (a0 :: a1 :: a2 :: a3 :: a4 :: a5 :: a6 :: a7 :: some (.int x) :: ls) (.int x :: st) σ := xv_ev0 rfl rfl
theorem xr_istore8 (ro : xv_Ro) (d : Nat) (M : xv_M) (a b w : Nat) (ops : List xv_Op) (ls : xv_L) (st : List Value) (σ : xv_S) (v : Value) (a0 a1 a2 a3 a4 a5 a6 a7 a8 : Option Value) (x : Int32) : xv_ev ro d M ((.istore 8, a, b, w, v) :: ops) (a0 :: a1 :: a2 :: a3 :: a4 :: a5 :: a6 :: a7 :: a8 :: ls) (.int x :: st) σ = xv_ev ro d M ops (a0 :: a1 :: a2 :: a3 :: a4 :: a5 :: a6 :: a7 :: some (.int x) :: ls) (st) σ := xv_ev0 rfl rfl
theorem xr_lload8 (ro : xv_Ro) (d : Nat) (M : xv_M) (a b w : Nat) (ops : List xv_Op) (ls : xv_L) (st : List Value) (σ : xv_S) (v : Value) (a0 a1 a2 a3 a4 a5 a6 a7 : Option Value) (x : Int64) : xv_ev ro d M ((.lload 8, a, b, w, v) :: ops) (a0 :: a1 :: a2 :: a3 :: a4 :: a5 :: a6 :: a7 :: some (.long x) :: ls) (st) σ = xv_ev ro d M ops (a0 :: a1 :: a2 :: a3 :: a4 :: a5 :: a6 :: a7 :: some (.long x) :: ls) (.long x :: st) σ := xv_ev0 rfl rfl
theorem xr_lstore8 (ro : xv_Ro) (d : Nat) (M : xv_M) (a b w : Nat) (ops : List xv_Op) (ls : xv_L) (st : List Value) (σ : xv_S) (v : Value) (a0 a1 a2 a3 a4 a5 a6 a7 a8 a9 : Option Value) (x : Int64) : xv_ev ro d M ((.lstore 8, a, b, w, v) :: ops) (a0 :: a1 :: a2 :: a3 :: a4 :: a5 :: a6 :: a7 :: a8 :: a9 :: ls) (.long x :: st) σ = xv_ev ro d M ops (a0 :: a1 :: a2 :: a3 :: a4 :: a5 :: a6 :: a7 :: some (.long x) :: none :: ls) (st) σ := xv_ev0 rfl rfl
theorem xr_aload8 (ro : xv_Ro) (d : Nat) (M : xv_M) (a b w : Nat) (ops : List xv_Op) (ls : xv_L) (st : List Value) (σ : xv_S) (v : Value) (a0 a1 a2 a3 a4 a5 a6 a7 : Option Value) (x : Nat) : xv_ev ro d M ((.aload 8, a, b, w, v) :: ops) (a0 :: a1 :: a2 :: a3 :: a4 :: a5 :: a6 :: a7 :: some (.ref x) :: ls) (st) σ = xv_ev ro d M ops (a0 :: a1 :: a2 :: a3 :: a4 :: a5 :: a6 :: a7 :: some (.ref x) :: ls) (.ref x :: st) σ := xv_ev0 rfl rfl
theorem xr_astore8 (ro : xv_Ro) (d : Nat) (M : xv_M) (a b w : Nat) (ops : List xv_Op) (ls : xv_L) (st : List Value) (σ : xv_S) (v : Value) (a0 a1 a2 a3 a4 a5 a6 a7 a8 : Option Value) (x : Nat) : xv_ev ro d M ((.astore 8, a, b, w, v) :: ops) (a0 :: a1 :: a2 :: a3 :: a4 :: a5 :: a6 :: a7 :: a8 :: ls) (.ref x :: st) σ = xv_ev ro d M ops (a0 :: a1 :: a2 :: a3 :: a4 :: a5 :: a6 :: a7 :: some (.ref x) :: ls) (st) σ := xv_ev0 rfl rfl
theorem xr_a0load8 (ro : xv_Ro) (d : Nat) (M : xv_M) (a b w : Nat) (ops : List xv_Op) (ls : xv_L) (st : List Value) (σ : xv_S) (v : Value) (a0 a1 a2 a3 a4 a5 a6 a7 : Option Value) : xv_ev ro d M ((.aload 8, a, b, w, v) :: ops) (a0 :: a1 :: a2 :: a3 :: a4 :: a5 :: a6 :: a7 :: some (.null) :: ls) (st) σ = xv_ev ro d M ops (a0 :: a1 :: a2 :: a3 :: a4 :: a5 :: a6 :: a7 :: some (.null) :: ls) (.null :: st) σ := xv_ev0 rfl rfl
theorem xr_a0store8 (ro : xv_Ro) (d : Nat) (M : xv_M) (a b w : Nat) (ops : List xv_Op) (ls : xv_L) (st : List Value) (σ : xv_S) (v : Value) (a0 a1 a2 a3 a4 a5 a6 a7 a8 : Option Value) : xv_ev ro d M ((.astore 8, a, b, w, v) :: ops) (a0 :: a1 :: a2 :: a3 :: a4 :: a5 :: a6 :: a7 :: a8 :: ls) (.null :: st) σ = xv_ev ro d M ops (a0 :: a1 :: a2 :: a3 :: a4 :: a5 :: a6 :: a7 :: some (.null) :: ls) (st) σ := xv_ev0 rfl rfl
theorem xr_iinc8 (ro : xv_Ro) (d : Nat) (M : xv_M) (a b w : Nat) (ops : List xv_Op) (ls : xv_L) (st : List Value) (σ : xv_S) (n : Int) (x c : Int32) (a0 a1 a2 a3 a4 a5 a6 a7 : Option Value) : xv_ev ro d M ((.iinc 8 n, a, b, w, .int c) :: ops) (a0 :: a1 :: a2 :: a3 :: a4 :: a5 :: a6 :: a7 :: some (.int x) :: ls) (st) σ = xv_ev ro d M ops (a0 :: a1 :: a2 :: a3 :: a4 :: a5 :: a6 :: a7 :: some (.int (x + c)) :: ls) (st) σ := xv_ev0 rfl rfl
theorem xr_iload9 (ro : xv_Ro) (d : Nat) (M : xv_M) (a b w : Nat) (ops : List xv_Op) (ls : xv_L) (st : List Value) (σ : xv_S) (v : Value) (a0 a1 a2 a3 a4 a5 a6 a7 a8 : Option Value) (x : Int32) : xv_ev ro d M ((.iload 9, a, b, w, v) :: ops) (a0 :: a1 :: a2 :: a3 :: a4 :: a5 :: a6 :: a7 :: a8 :: some (.int x) :: ls) (st) σ = xv_ev ro d M ops (a0 :: a1 :: a2 :: a3 :: a4 :: a5 :: a6 :: a7 :: a8 :: some (.int x) :: ls) (.int x :: st) σ := xv_ev0 rfl rfl
theorem xr_istore9 (ro : xv_Ro) (d : Nat) (M : xv_M) (a b w : Nat) (ops : List xv_Op) (ls : xv_L) (st : List Value) (σ : xv_S) (v : Value) (a0 a1 a2 a3 a4 a5 a6 a7 a8 a9 : Option Value) (x : Int32) : xv_ev ro d M ((.istore 9, a, b, w, v) :: ops) (a0 :: a1 :: a2 :: a3 :: a4 :: a5 :: a6 :: a7 :: a8 :: a9 :: ls) (.int x :: st) σ = xv_ev ro d M ops (a0 :: a1 :: a2 :: a3 :: a4 :: a5 :: a6 :: a7 :: a8 :: some (.int x) :: ls) (st) σ := xv_ev0 rfl rfl
theorem xr_lload9 (ro : xv_Ro) (d : Nat) (M : xv_M) (a b w : Nat) (ops : List xv_Op) (ls : xv_L) (st : List Value) (σ : xv_S) (v : Value) (a0 a1 a2 a3 a4 a5 a6 a7 a8 : Option Value) (x : Int64) : xv_ev ro d M ((.lload 9, a, b, w, v) :: ops) (a0 :: a1 :: a2 :: a3 :: a4 :: a5 :: a6 :: a7 :: a8 :: some (.long x) :: ls) (st) σ = xv_ev ro d M ops (a0 :: a1 :: a2 :: a3 :: a4 :: a5 :: a6 :: a7 :: a8 :: some (.long x) :: ls) (.long x :: st) σ := xv_ev0 rfl rfl
theorem xr_lstore9 (ro : xv_Ro) (d : Nat) (M : xv_M) (a b w : Nat) (ops : List xv_Op) (ls : xv_L) (st : List Value) (σ : xv_S) (v : Value) (a0 a1 a2 a3 a4 a5 a6 a7 a8 a9 a10 : Option Value) (x : Int64) : xv_ev ro d M ((.lstore 9, a, b, w, v) :: ops) (a0 :: a1 :: a2 :: a3 :: a4 :: a5 :: a6 :: a7 :: a8 :: a9 :: a10 :: ls) (.long x :: st) σ = xv_ev ro d M ops (a0 :: a1 :: a2 :: a3 :: a4 :: a5 :: a6 :: a7 :: a8 :: some (.long x) :: none :: ls) (st) σ := xv_ev0 rfl rfl
theorem xr_aload9 (ro : xv_Ro) (d : Nat) (M : xv_M) (a b w : Nat) (ops : List xv_Op) (ls : xv_L) (st : List Value) (σ : xv_S) (v : Value) (a0 a1 a2 a3 a4 a5 a6 a7 a8 : Option Value) (x : Nat) : xv_ev ro d M ((.aload 9, a, b, w, v) :: ops) (a0 :: a1 :: a2 :: a3 :: a4 :: a5 :: a6 :: a7 :: a8 :: some (.ref x) :: ls) (st) σ = xv_ev ro d M ops (a0 :: a1 :: a2 :: a3 :: a4 :: a5 :: a6 :: a7 :: a8 :: some (.ref x) :: ls) (.ref x :: st) σ := xv_ev0 rfl rfl
theorem xr_astore9 (ro : xv_Ro) (d : Nat) (M : xv_M) (a b w : Nat) (ops : List xv_Op) (ls : xv_L) (st : List Value) (σ : xv_S) (v : Value) (a0 a1 a2 a3 a4 a5 a6 a7 a8 a9 : Option Value) (x : Nat) : xv_ev ro d M ((.astore 9, a, b, w, v) :: ops) (a0 :: a1 :: a2 :: a3 :: a4 :: a5 :: a6 :: a7 :: a8 :: a9 :: ls) (.ref x :: st) σ = xv_ev ro d M ops (a0 :: a1 :: a2 :: a3 :: a4 :: a5 :: a6 :: a7 :: a8 :: some (.ref x) :: ls) (st) σ := xv_ev0 rfl rfl
theorem xr_a0load9 (ro : xv_Ro) (d : Nat) (M : xv_M) (a b w : Nat) (ops : List xv_Op) (ls : xv_L) (st : List Value) (σ : xv_S) (v : Value) (a0 a1 a2 a3 a4 a5 a6 a7 a8 : Option Value) : xv_ev ro d M ((.aload 9, a, b, w, v) :: ops) (a0 :: a1 :: a2 :: a3 :: a4 :: a5 :: a6 :: a7 :: a8 :: some (.null) :: ls) (st) σ = xv_ev ro d M ops (a0 :: a1 :: a2 :: a3 :: a4 :: a5 :: a6 :: a7 :: a8 :: some (.null) :: ls) (.null :: st) σ := xv_ev0 rfl rfl
theorem xr_a0store9 (ro : xv_Ro) (d : Nat) (M : xv_M) (a b w : Nat) (ops : List xv_Op) (ls : xv_L) (st : List Value) (σ : xv_S) (v : Value) (a0 a1 a2 a3 a4 a5 a6 a7 a8 a9 : Option Value) : xv_ev ro d M ((.astore 9, a, b, w, v) :: ops) (a0 :: a1 :: a2 :: a3 :: a4 :: a5 :: a6 :: a7 :: a8 :: a9 :: ls) (.null :: st) σ = xv_ev ro d M ops (a0 :: a1 :: a2 :: a3 :: a4 :: a5 :: a6 :: a7 :: a8 :: some (.null) :: ls) (st) σ := xv_ev0 rfl rfl
theorem xr_iinc9 (ro : xv_Ro) (d : Nat) (M : xv_M) (a b w : Nat) (ops : List xv_Op) (ls : xv_L) (st : List Value) (σ : xv_S) (n : Int) (x c : Int32) (a0 a1 a2 a3 a4 a5 a6 a7 a8 : Option Value) : xv_ev ro d M ((.iinc 9 n, a, b, w, .int c) :: ops) (a0 :: a1 :: a2 :: a3 :: a4 :: a5 :: a6 :: a7 :: a8 :: some (.int x) :: ls) (st) σ = xv_ev ro d M ops (a0 :: a1 :: a2 :: a3 :: a4 :: a5 :: a6 :: a7 :: a8 :: some (.int (x + c)) :: ls) (st) σ := xv_ev0 rfl rfl
theorem xr_iload10 (ro : xv_Ro) (d : Nat) (M : xv_M) (a b w : Nat) (ops : List xv_Op) (ls : xv_L) (st : List Value) (σ : xv_S) (v : Value) (a0 a1 a2 a3 a4 a5 a6 a7 a8 a9 : Option Value) (x : Int32) : xv_ev ro d M ((.iload 10, a, b, w, v) :: ops) (a0 :: a1 :: a2 :: a3 :: a4 :: a5 :: a6 :: a7 :: a8 :: a9 :: some (.int x) :: ls) (st) σ = xv_ev ro d M ops (a0 :: a1 :: a2 :: a3 :: a4 :: a5 :: a6 :: a7 :: a8 :: a9 :: some (.int x) :: ls) (.int x :: st) σ := xv_ev0 rfl rfl
theorem xr_istore10 (ro : xv_Ro) (d : Nat) (M : xv_M) (a b w : Nat) (ops : List xv_Op) (ls : xv_L) (st : List Value) (σ : xv_S) (v : Value) (a0 a1 a2 a3 a4 a5 a6 a7 a8 a9 a10 : Option Value) (x : Int32) : xv_ev ro d M ((.istore 10, a, b, w, v) :: ops) (a0 :: a1 :: a2 :: a3 :: a4 :: a5 :: a6 :: a7 :: a8 :: a9 :: a10 :: ls) (.int x :: st) σ = xv_ev ro d M ops (a0 :: a1 :: a2 :: a3 :: a4 :: a5 :: a6 :: a7 :: a8 :: a9 :: some (.int x) :: ls) (st) σ := xv_ev0 rfl rfl
theorem xr_lload10 (ro : xv_Ro) (d : Nat) (M : xv_M) (a b w : Nat) (ops : List xv_Op) (ls : xv_L) (st : List Value) (σ : xv_S) (v : Value) (a0 a1 a2 a3 a4 a5 a6 a7 a8 a9 : Option Value) (x : Int64) : xv_ev ro d M ((.lload 10, a, b, w, v) :: ops) (a0 :: a1 :: a2 :: a3 :: a4 :: a5 :: a6 :: a7 :: a8 :: a9 :: some (.long x) :: ls) (st) σ = xv_ev ro d M ops (a0 :: a1 :: a2 :: a3 :: a4 :: a5 :: a6 :: a7 :: a8 :: a9 :: some (.long x) :: ls) (.long x :: st) σ := xv_ev0 rfl rfl
theorem xr_lstore10 (ro : xv_Ro) (d : Nat) (M : xv_M) (a b w : Nat) (ops : List xv_Op) (ls : xv_L) (st : List Value) (σ : xv_S) (v : Value) (a0 a1 a2 a3 a4 a5 a6 a7 a8 a9 a10 a11 : Option Value) (x : Int64) : xv_ev ro d M ((.lstore 10, a, b, w, v) :: ops) (a0 :: a1 :: a2 :: a3 :: a4 :: a5 :: a6 :: a7 :: a8 :: a9 :: a10 :: a11 :: ls) (.long x :: st) σ = xv_ev ro d M ops (a0 :: a1 :: a2 :: a3 :: a4 :: a5 :: a6 :: a7 :: a8 :: a9 :: some (.long x) :: none :: ls) (st) σ := xv_ev0 rfl rfl
theorem xr_aload10 (ro : xv_Ro) (d : Nat) (M : xv_M) (a b w : Nat) (ops : List xv_Op) (ls : xv_L) (st : List Value) (σ : xv_S) (v : Value) (a0 a1 a2 a3 a4 a5 a6 a7 a8 a9 : Option Value) (x : Nat) : xv_ev ro d M ((.aload 10, a, b, w, v) :: ops) (a0 :: a1 :: a2 :: a3 :: a4 :: a5 :: a6 :: a7 :: a8 :: a9 :: some (.ref x) :: ls) (st) σ = xv_ev ro d M ops (a0 :: a1 :: a2 :: a3 :: a4 :: a5 :: a6 :: a7 :: a8 :: a9 :: some (.ref x) :: ls) (.ref x :: st) σ := xv_ev0 rfl rfl
theorem xr_astore10 (ro : xv_Ro) (d : Nat) (M : xv_M) (a b w : Nat) (ops : List xv_Op) (ls : xv_L) (st : List Value) (σ : xv_S) (v : Value) (a0 a1 a2 a3 a4 a5 a6 a7 a8 a9 a10 : Option Value) (x : Nat) : xv_ev ro d M ((.astore 10, a, b, w, v) :: ops) (a0 :: a1 :: a2 :: a3 :: a4 :: a5 :: a6 :: a7 :: a8 :: a9 :: a10 :: ls) (.ref x :: st) σ = xv_ev ro d M ops (a0 :: a1 :: a2 :: a3 :: a4 :: a5 :: a6 :: a7 :: a8 :: a9 :: some (.ref x) :: ls) (st) σ := xv_ev0 rfl rfl
theorem xr_a0load10 (ro : xv_Ro) (d : Nat) (M : xv_M) (a b w : Nat) (ops : List xv_Op) (ls : xv_L) (st : List Value) (σ : xv_S) (v : Value) (a0 a1 a2 a3 a4 a5 a6 a7 a8 a9 : Option Value) : xv_ev ro d M ((.aload 10, a, b, w, v) :: ops) (a0 :: a1 :: a2 :: a3 :: a4 :: a5 :: a6 :: a7 :: a8 :: a9 :: some (.null) :: ls) (st) σ = xv_ev ro d M ops (a0 :: a1 :: a2 :: a3 :: a4 :: a5 :: a6 :: a7 :: a8 :: a9 :: some (.null) :: ls) (.null :: st) σ := xv_ev0 rfl rfl
theorem xr_a0store10 (ro : xv_Ro) (d : Nat) (M : xv_M) (a b w : Nat) (ops : List xv_Op) (ls : xv_L) (st : List Value) (σ : xv_S) (v : Value) (a0 a1 a2 a3 a4 a5 a6 a7 a8 a9 a10 : Option Value) : xv_ev ro d M ((.astore 10, a, b, w, v) :: ops) (a0 :: a1 :: a2 :: a3 :: a4 :: a5 :: a6 :: a7 :: a8 :: a9 :: a10 :: ls) (.null :: st) σ = xv_ev ro d M ops (a0 :: a1 :: a2 :: a3 :: a4 :: a5 :: a6 :: a7 :: a8 :: a9 :: some (.null) :: ls) (st) σ := xv_ev0 rfl rfl
theorem xr_iinc10 (ro : xv_Ro) (d : Nat) (M : xv_M) (a b w : Nat) (ops : List xv_Op) (ls : xv_L) (st : List Value) (σ : xv_S) (n : Int) (x c : Int32) (a0 a1 a2 a3 a4 a5 a6 a7 a8 a9 : Option Value) : xv_ev ro d M ((.iinc 10 n, a, b, w, .int c) :: ops) (a0 :: a1 :: a2 :: a3 :: a4 :: a5 :: a6 :: a7 :: a8 :: a9 :: some (.int x) :: ls) (st) σ = xv_ev ro d M ops (a0 :: a1 :: a2 :: a3 :: a4 :: a5 :: a6 :: a7 :: a8 :: a9 :: some (.int (x + c)) :: ls) (st) σ := xv_ev0 rfl rfl
theorem xr_dup_i (ro : xv_Ro) (d : Nat) (M : xv_M) (a b w : Nat) (ops : List xv_Op) (ls : xv_L) (st : List Value) (σ : xv_S) (v : Value) (x : Int32) : xv_ev ro d M ((.dup, a, b, w, v) :: ops) ls (.int x :: st) σ = xv_ev ro d M ops ls (.int x :: .int x :: st) σ := xv_ev0 rfl rfl
theorem xr_dup_r (ro : xv_Ro) (d : Nat) (M : xv_M) (a b w : Nat) (ops : List xv_Op) (ls : xv_L) (st : List Value) (σ : xv_S) (v : Value) (x : Nat) : xv_ev ro d M ((.dup, a, b, w, v) :: ops) ls (.ref x :: st) σ = xv_ev ro d M ops ls (.ref x :: .ref x :: st) σ := xv_ev0 rfl rfl
theorem xr_dup2 (ro : xv_Ro) (d : Nat) (M : xv_M) (a b w : Nat) (ops : List xv_Op) (ls : xv_L) (st : List Value) (σ : xv_S) (v : Value) (x : Int32) (y : Nat) : xv_ev ro d M ((.dup2, a, b, w, v) :: ops) ls (.int x :: .ref y :: st) σ = xv_ev ro d M ops ls (.int x :: .ref y :: .int x :: .ref y :: st) σ := xv_ev0 rfl rfl
theorem xr_pop_i (ro : xv_Ro) (d : Nat) (M : xv_M) (a b w : Nat) (ops : List xv_Op) (ls : xv_L) (st : List Value) (σ : xv_S) (v : Value) (x : Int32) : xv_ev ro d M ((.pop, a, b, w, v) :: ops) ls (.int x :: st) σ = xv_ev ro d M ops ls (st) σ := xv_ev0 rfl rfl
theorem xr_pop_r (ro : xv_Ro) (d : Nat) (M : xv_M) (a b w : Nat) (ops : List xv_Op) (ls : xv_L) (st : List Value) (σ : xv_S) (v : Value) (x : Nat) : xv_ev ro d M ((.pop, a, b, w, v) :: ops) ls (.ref x :: st) σ = xv_ev ro d M ops ls (st) σ := xv_ev0 rfl rfl
theorem xr_iadd (ro : xv_Ro) (d : Nat) (M : xv_M) (a b w : Nat) (ops : List xv_Op) (ls : xv_L) (st : List Value) (σ : xv_S) (v : Value) (x y : Int32) : xv_ev ro d M ((.iadd, a, b, w, v) :: ops) ls (.int y :: .int x :: st) σ = xv_ev ro d M ops ls (.int (x + y) :: st) σ := xv_ev0 rfl rfl
theorem xr_isub (ro : xv_Ro) (d : Nat) (M : xv_M) (a b w : Nat) (ops : List xv_Op) (ls : xv_L) (st : List Value) (σ : xv_S) (v : Value) (x y : Int32) : xv_ev ro d M ((.isub, a, b, w, v) :: ops) ls (.int y :: .int x :: st) σ = xv_ev ro d M ops ls (.int (x - y) :: st) σ := xv_ev0 rfl rfl
theorem xr_imul (ro : xv_Ro) (d : Nat) (M : xv_M) (a b w : Nat) (ops : List xv_Op) (ls : xv_L) (st : List Value) (σ : xv_S) (v : Value) (x y : Int32) : xv_ev ro d M ((.imul, a, b, w, v) :: ops) ls (.int y :: .int x :: st) σ = xv_ev ro d M ops ls (.int (x * y) :: st) σ := xv_ev0 rfl rfl
theorem xr_iand (ro : xv_Ro) (d : Nat) (M : xv_M) (a b w : Nat) (ops : List xv_Op) (ls : xv_L) (st : List Value) (σ : xv_S) (v : Value) (x y : Int32) : xv_ev ro d M ((.iand, a, b, w, v) :: ops) ls (.int y :: .int x :: st) σ = xv_ev ro d M ops ls (.int (x &&& y) :: st) σ := xv_ev0 rfl rfl
theorem xr_ior (ro : xv_Ro) (d : Nat) (M : xv_M) (a b w : Nat) (ops : List xv_Op) (ls : xv_L) (st : List Value) (σ : xv_S) (v : Value) (x y : Int32) : xv_ev ro d M ((.ior, a, b, w, v) :: ops) ls (.int y :: .int x :: st) σ = xv_ev ro d M ops ls (.int (x ||| y) :: st) σ := xv_ev0 rfl rfl
theorem xr_ixor (ro : xv_Ro) (d : Nat) (M : xv_M) (a b w : Nat) (ops : List xv_Op) (ls : xv_L) (st : List Value) (σ : xv_S) (v : Value) (x y : Int32) : xv_ev ro d M ((.ixor, a, b, w, v) :: ops) ls (.int y :: .int x :: st) σ = xv_ev ro d M ops ls (.int (x ^^^ y) :: st) σ := xv_ev0 rfl rfl
theorem xr_ishl (ro : xv_Ro) (d : Nat) (M : xv_M) (a b w : Nat) (ops : List xv_Op) (ls : xv_L) (st : List Value) (σ : xv_S) (v : Value) (x y : Int32) : xv_ev ro d M ((.ishl, a, b, w, v) :: ops) ls (.int y :: .int x :: st) σ = xv_ev ro d M ops ls (.int (x <<< (y &&& 31)) :: st) σ := xv_ev0 rfl rfl
theorem xr_ishr (ro : xv_Ro) (d : Nat) (M : xv_M) (a b w : Nat) (ops : List xv_Op) (ls : xv_L) (st : List Value) (σ : xv_S) (v : Value) (x y : Int32) : xv_ev ro d M ((.ishr, a, b, w, v) :: ops) ls (.int y :: .int x :: st) σ = xv_ev ro d M ops ls (.int (x >>> (y &&& 31)) :: st) σ := xv_ev0 rfl rfl
theorem xr_iushr (ro : xv_Ro) (d : Nat) (M : xv_M) (a b w : Nat) (ops : List xv_Op) (ls : xv_L) (st : List Value) (σ : xv_S) (v : Value) (x y : Int32) : xv_ev ro d M ((.iushr, a, b, w, v) :: ops) ls (.int y :: .int x :: st) σ = xv_ev ro d M ops ls (.int ((x.toUInt32 >>> (y.toUInt32 &&& Int32.toUInt32 31)).toInt32) :: st) σ := xv_ev0 rfl rfl
theorem xr_ladd (ro : xv_Ro) (d : Nat) (M : xv_M) (a b w : Nat) (ops : List xv_Op) (ls : xv_L) (st : List Value) (σ : xv_S) (v : Value) (x y : Int64) : xv_ev ro d M ((.ladd, a, b, w, v) :: ops) ls (.long y :: .long x :: st) σ = xv_ev ro d M ops ls (.long (x + y) :: st) σ := xv_ev0 rfl rfl
theorem xr_lsub (ro : xv_Ro) (d : Nat) (M : xv_M) (a b w : Nat) (ops : List xv_Op) (ls : xv_L) (st : List Value) (σ : xv_S) (v : Value) (x y : Int64) : xv_ev ro d M ((.lsub, a, b, w, v) :: ops) ls (.long y :: .long x :: st) σ = xv_ev ro d M ops ls (.long (x - y) :: st) σ := xv_ev0 rfl rfl
theorem xr_lmul (ro : xv_Ro) (d : Nat) (M : xv_M) (a b w : Nat) (ops : List xv_Op) (ls : xv_L) (st : List Value) (σ : xv_S) (v : Value) (x y : Int64) : xv_ev ro d M ((.lmul, a, b, w, v) :: ops) ls (.long y :: .long x :: st) σ = xv_ev ro d M ops ls (.long (x * y) :: st) σ := xv_ev0 rfl rfl
theorem xr_land (ro : xv_Ro) (d : Nat) (M : xv_M) (a b w : Nat) (ops : List xv_Op) (ls : xv_L) (st : List Value) (σ : xv_S) (v : Value) (x y : Int64) : xv_ev ro d M ((.land, a, b, w, v) :: ops) ls (.long y :: .long x :: st) σ = xv_ev ro d M ops ls (.long (x &&& y) :: st) σ := xv_ev0 rfl rfl
theorem xr_lor (ro : xv_Ro) (d : Nat) (M : xv_M) (a b w : Nat) (ops : List xv_Op) (ls : xv_L) (st : List Value) (σ : xv_S) (v : Value) (x y : Int64) : xv_ev ro d M ((.lor, a, b, w, v) :: ops) ls (.long y :: .long x :: st) σ = xv_ev ro d M ops ls (.long (x ||| y) :: st) σ := xv_ev0 rfl rfl
theorem xr_lxor (ro : xv_Ro) (d : Nat) (M : xv_M) (a b w : Nat) (ops : List xv_Op) (ls : xv_L) (st : List Value) (σ : xv_S) (v : Value) (x y : Int64) : xv_ev ro d M ((.lxor, a, b, w, v) :: ops) ls (.long y :: .long x :: st) σ = xv_ev ro d M ops ls (.long (x ^^^ y) :: st) σ := xv_ev0 rfl rfl
theorem xr_lcmp (ro : xv_Ro) (d : Nat) (M : xv_M) (a b w : Nat) (ops : List xv_Op) (ls : xv_L) (st : List Value) (σ : xv_S) (v : Value) (x y : Int64) : xv_ev ro d M ((.lcmp, a, b, w, v) :: ops) ls (.long y :: .long x :: st) σ = xv_ev ro d M ops ls (.int (lg_cmp x y) :: st) σ := xv_ev0 rfl rfl
theorem xr_lshl (ro : xv_Ro) (d : Nat) (M : xv_M) (a b w : Nat) (ops : List xv_Op) (ls : xv_L) (st : List Value) (σ : xv_S) (v : Value) (x : Int64) (y : Int32) : xv_ev ro d M ((.lshl, a, b, w, v) :: ops) ls (.int y :: .long x :: st) σ = xv_ev ro d M ops ls (.long (x <<< (y.toInt64 &&& 63)) :: st) σ := xv_ev0 rfl rfl
theorem xr_lshr (ro : xv_Ro) (d : Nat) (M : xv_M) (a b w : Nat) (ops : List xv_Op) (ls : xv_L) (st : List Value) (σ : xv_S) (v : Value) (x : Int64) (y : Int32) : xv_ev ro d M ((.lshr, a, b, w, v) :: ops) ls (.int y :: .long x :: st) σ = xv_ev ro d M ops ls (.long (x >>> (y.toInt64 &&& 63)) :: st) σ := xv_ev0 rfl rfl
theorem xr_ineg (ro : xv_Ro) (d : Nat) (M : xv_M) (a b w : Nat) (ops : List xv_Op) (ls : xv_L) (st : List Value) (σ : xv_S) (v : Value) (x : Int32) : xv_ev ro d M ((.ineg, a, b, w, v) :: ops) ls (.int x :: st) σ = xv_ev ro d M ops ls (.int (-x) :: st) σ := xv_ev0 rfl rfl
theorem xr_i2l (ro : xv_Ro) (d : Nat) (M : xv_M) (a b w : Nat) (ops : List xv_Op) (ls : xv_L) (st : List Value) (σ : xv_S) (v : Value) (x : Int32) : xv_ev ro d M ((.i2l, a, b, w, v) :: ops) ls (.int x :: st) σ = xv_ev ro d M ops ls (.long x.toInt64 :: st) σ := xv_ev0 rfl rfl
theorem xr_i2b (ro : xv_Ro) (d : Nat) (M : xv_M) (a b w : Nat) (ops : List xv_Op) (ls : xv_L) (st : List Value) (σ : xv_S) (v : Value) (x : Int32) : xv_ev ro d M ((.i2b, a, b, w, v) :: ops) ls (.int x :: st) σ = xv_ev ro d M ops ls (.int x.toInt8.toInt32 :: st) σ := xv_ev0 rfl rfl
theorem xr_l2i (ro : xv_Ro) (d : Nat) (M : xv_M) (a b w : Nat) (ops : List xv_Op) (ls : xv_L) (st : List Value) (σ : xv_S) (v : Value) (x : Int64) : xv_ev ro d M ((.l2i, a, b, w, v) :: ops) ls (.long x :: st) σ = xv_ev ro d M ops ls (.int x.toInt32 :: st) σ := xv_ev0 rfl rfl
theorem xr_lneg (ro : xv_Ro) (d : Nat) (M : xv_M) (a b w : Nat) (ops : List xv_Op) (ls : xv_L) (st : List Value) (σ : xv_S) (v : Value) (x : Int64) : xv_ev ro d M ((.lneg, a, b, w, v) :: ops) ls (.long x :: st) σ = xv_ev ro d M ops ls (.long (-x) :: st) σ := xv_ev0 rfl rfl
theorem xr_idiv (ro : xv_Ro) (d : Nat) (M : xv_M) (a b w : Nat) (v : Value) (ops : List xv_Op) (ls : xv_L) (st : List Value) (σ : xv_S) (x y : Int32) : xv_ev ro d M ((.idiv, a, b, w, v) :: ops) ls (.int y :: .int x :: st) σ = if y = 0 then none else xv_ev ro d M ops ls (.int (x / y) :: st) σ := by
  by_cases h : y = 0
  · rw [if_pos h]; exact xv_ev0n rfl (by simp [xv_loc, xv_i2, h])
  · rw [if_neg h]; exact xv_ev0 rfl (by simp [xv_loc, xv_i2, h])
theorem xr_irem (ro : xv_Ro) (d : Nat) (M : xv_M) (a b w : Nat) (v : Value) (ops : List xv_Op) (ls : xv_L) (st : List Value) (σ : xv_S) (x y : Int32) : xv_ev ro d M ((.irem, a, b, w, v) :: ops) ls (.int y :: .int x :: st) σ = if y = 0 then none else xv_ev ro d M ops ls (.int (x - x / y * y) :: st) σ := by
  by_cases h : y = 0
  · rw [if_pos h]; exact xv_ev0n rfl (by simp [xv_loc, xv_i2, h])
  · rw [if_neg h]; exact xv_ev0 rfl (by simp [xv_loc, xv_i2, h])
theorem xr_ldiv (ro : xv_Ro) (d : Nat) (M : xv_M) (a b w : Nat) (v : Value) (ops : List xv_Op) (ls : xv_L) (st : List Value) (σ : xv_S) (x y : Int64) : xv_ev ro d M ((.ldiv, a, b, w, v) :: ops) ls (.long y :: .long x :: st) σ = if y = 0 then none else xv_ev ro d M ops ls (.long (x / y) :: st) σ := by
  by_cases h : y = 0
  · rw [if_pos h]; exact xv_ev0n rfl (by simp [xv_loc, xv_l2, h])
  · rw [if_neg h]; exact xv_ev0 rfl (by simp [xv_loc, xv_l2, h])
theorem xr_lrem (ro : xv_Ro) (d : Nat) (M : xv_M) (a b w : Nat) (v : Value) (ops : List xv_Op) (ls : xv_L) (st : List Value) (σ : xv_S) (x y : Int64) : xv_ev ro d M ((.lrem, a, b, w, v) :: ops) ls (.long y :: .long x :: st) σ = if y = 0 then none else xv_ev ro d M ops ls (.long (x - x / y * y) :: st) σ := by
  by_cases h : y = 0
  · rw [if_pos h]; exact xv_ev0n rfl (by simp [xv_loc, xv_l2, h])
  · rw [if_neg h]; exact xv_ev0 rfl (by simp [xv_loc, xv_l2, h])
theorem xr_icmp_eq (ro : xv_Ro) (d : Nat) (M : xv_M) (a b w : Nat) (v : Value) (ops : List xv_Op) (ls : xv_L) (st : List Value) (σ : xv_S) (off : Int) (x y : Int32) : xv_ev ro d M ((.if_icmp .eq off, a, b, w, v) :: ops) ls (.int y :: .int x :: st) σ = if x = y then xv_ev ro d M (xv_at M.2.2.2.2.2.2 a) ls st σ else xv_ev ro d M ops ls st σ := by
  by_cases h : x = y
  · rw [if_pos h]; exact xv_ev1 rfl (by simp [xv_jmp, xv_c2, xv_c1, h])
  · rw [if_neg h]; exact xv_ev1n rfl (by simp [xv_jmp, xv_c2, xv_c1, h])
theorem xr_icmp_lt (ro : xv_Ro) (d : Nat) (M : xv_M) (a b w : Nat) (v : Value) (ops : List xv_Op) (ls : xv_L) (st : List Value) (σ : xv_S) (off : Int) (x y : Int32) : xv_ev ro d M ((.if_icmp .lt off, a, b, w, v) :: ops) ls (.int y :: .int x :: st) σ = if x < y then xv_ev ro d M (xv_at M.2.2.2.2.2.2 a) ls st σ else xv_ev ro d M ops ls st σ := by
  by_cases h : x < y
  · rw [if_pos h]; exact xv_ev1 rfl (by simp [xv_jmp, xv_c2, xv_c1, h])
  · rw [if_neg h]; exact xv_ev1n rfl (by simp [xv_jmp, xv_c2, xv_c1, h])
theorem xr_icmp_ge (ro : xv_Ro) (d : Nat) (M : xv_M) (a b w : Nat) (v : Value) (ops : List xv_Op) (ls : xv_L) (st : List Value) (σ : xv_S) (off : Int) (x y : Int32) : xv_ev ro d M ((.if_icmp .ge off, a, b, w, v) :: ops) ls (.int y :: .int x :: st) σ = if y ≤ x then xv_ev ro d M (xv_at M.2.2.2.2.2.2 a) ls st σ else xv_ev ro d M ops ls st σ := by
  by_cases h : y ≤ x
  · rw [if_pos h]; exact xv_ev1 rfl (by simp [xv_jmp, xv_c2, xv_c1, h])
  · rw [if_neg h]; exact xv_ev1n rfl (by simp [xv_jmp, xv_c2, xv_c1, h])
theorem xr_icmp_gt (ro : xv_Ro) (d : Nat) (M : xv_M) (a b w : Nat) (v : Value) (ops : List xv_Op) (ls : xv_L) (st : List Value) (σ : xv_S) (off : Int) (x y : Int32) : xv_ev ro d M ((.if_icmp .gt off, a, b, w, v) :: ops) ls (.int y :: .int x :: st) σ = if y < x then xv_ev ro d M (xv_at M.2.2.2.2.2.2 a) ls st σ else xv_ev ro d M ops ls st σ := by
  by_cases h : y < x
  · rw [if_pos h]; exact xv_ev1 rfl (by simp [xv_jmp, xv_c2, xv_c1, h])
  · rw [if_neg h]; exact xv_ev1n rfl (by simp [xv_jmp, xv_c2, xv_c1, h])
theorem xr_icmp_le (ro : xv_Ro) (d : Nat) (M : xv_M) (a b w : Nat) (v : Value) (ops : List xv_Op) (ls : xv_L) (st : List Value) (σ : xv_S) (off : Int) (x y : Int32) : xv_ev ro d M ((.if_icmp .le off, a, b, w, v) :: ops) ls (.int y :: .int x :: st) σ = if x ≤ y then xv_ev ro d M (xv_at M.2.2.2.2.2.2 a) ls st σ else xv_ev ro d M ops ls st σ := by
  by_cases h : x ≤ y
  · rw [if_pos h]; exact xv_ev1 rfl (by simp [xv_jmp, xv_c2, xv_c1, h])
  · rw [if_neg h]; exact xv_ev1n rfl (by simp [xv_jmp, xv_c2, xv_c1, h])
theorem xr_if_eq (ro : xv_Ro) (d : Nat) (M : xv_M) (a b w : Nat) (v : Value) (ops : List xv_Op) (ls : xv_L) (st : List Value) (σ : xv_S) (off : Int) (x : Int32) : xv_ev ro d M ((.ifCond .eq off, a, b, w, v) :: ops) ls (.int x :: st) σ = if x = 0 then xv_ev ro d M (xv_at M.2.2.2.2.2.2 a) ls st σ else xv_ev ro d M ops ls st σ := by
  by_cases h : x = 0
  · rw [if_pos h]; exact xv_ev1 rfl (by simp [xv_jmp, xv_c2, xv_c1, h])
  · rw [if_neg h]; exact xv_ev1n rfl (by simp [xv_jmp, xv_c2, xv_c1, h])
theorem xr_if_lt (ro : xv_Ro) (d : Nat) (M : xv_M) (a b w : Nat) (v : Value) (ops : List xv_Op) (ls : xv_L) (st : List Value) (σ : xv_S) (off : Int) (x : Int32) : xv_ev ro d M ((.ifCond .lt off, a, b, w, v) :: ops) ls (.int x :: st) σ = if x < 0 then xv_ev ro d M (xv_at M.2.2.2.2.2.2 a) ls st σ else xv_ev ro d M ops ls st σ := by
  by_cases h : x < 0
  · rw [if_pos h]; exact xv_ev1 rfl (by simp [xv_jmp, xv_c2, xv_c1, h])
  · rw [if_neg h]; exact xv_ev1n rfl (by simp [xv_jmp, xv_c2, xv_c1, h])
theorem xr_if_ge (ro : xv_Ro) (d : Nat) (M : xv_M) (a b w : Nat) (v : Value) (ops : List xv_Op) (ls : xv_L) (st : List Value) (σ : xv_S) (off : Int) (x : Int32) : xv_ev ro d M ((.ifCond .ge off, a, b, w, v) :: ops) ls (.int x :: st) σ = if 0 ≤ x then xv_ev ro d M (xv_at M.2.2.2.2.2.2 a) ls st σ else xv_ev ro d M ops ls st σ := by
  by_cases h : 0 ≤ x
  · rw [if_pos h]; exact xv_ev1 rfl (by simp [xv_jmp, xv_c2, xv_c1, h])
  · rw [if_neg h]; exact xv_ev1n rfl (by simp [xv_jmp, xv_c2, xv_c1, h])
theorem xr_if_gt (ro : xv_Ro) (d : Nat) (M : xv_M) (a b w : Nat) (v : Value) (ops : List xv_Op) (ls : xv_L) (st : List Value) (σ : xv_S) (off : Int) (x : Int32) : xv_ev ro d M ((.ifCond .gt off, a, b, w, v) :: ops) ls (.int x :: st) σ = if 0 < x then xv_ev ro d M (xv_at M.2.2.2.2.2.2 a) ls st σ else xv_ev ro d M ops ls st σ := by
  by_cases h : 0 < x
  · rw [if_pos h]; exact xv_ev1 rfl (by simp [xv_jmp, xv_c2, xv_c1, h])
  · rw [if_neg h]; exact xv_ev1n rfl (by simp [xv_jmp, xv_c2, xv_c1, h])
theorem xr_if_le (ro : xv_Ro) (d : Nat) (M : xv_M) (a b w : Nat) (v : Value) (ops : List xv_Op) (ls : xv_L) (st : List Value) (σ : xv_S) (off : Int) (x : Int32) : xv_ev ro d M ((.ifCond .le off, a, b, w, v) :: ops) ls (.int x :: st) σ = if x ≤ 0 then xv_ev ro d M (xv_at M.2.2.2.2.2.2 a) ls st σ else xv_ev ro d M ops ls st σ := by
  by_cases h : x ≤ 0
  · rw [if_pos h]; exact xv_ev1 rfl (by simp [xv_jmp, xv_c2, xv_c1, h])
  · rw [if_neg h]; exact xv_ev1n rfl (by simp [xv_jmp, xv_c2, xv_c1, h])
theorem xr_icmp_ne (ro : xv_Ro) (d : Nat) (M : xv_M) (a b w : Nat) (v : Value) (ops : List xv_Op) (ls : xv_L) (st : List Value) (σ : xv_S) (off : Int) (x y : Int32) : xv_ev ro d M ((.if_icmp .ne off, a, b, w, v) :: ops) ls (.int y :: .int x :: st) σ = if x = y then xv_ev ro d M ops ls st σ else xv_ev ro d M (xv_at M.2.2.2.2.2.2 a) ls st σ := by
  by_cases h : x = y
  · rw [if_pos h]; exact xv_ev1n rfl (by simp [xv_jmp, xv_c2, xv_c1, h])
  · rw [if_neg h]; exact xv_ev1 rfl (by simp [xv_jmp, xv_c2, xv_c1, h])
theorem xr_if_ne (ro : xv_Ro) (d : Nat) (M : xv_M) (a b w : Nat) (v : Value) (ops : List xv_Op) (ls : xv_L) (st : List Value) (σ : xv_S) (off : Int) (x : Int32) : xv_ev ro d M ((.ifCond .ne off, a, b, w, v) :: ops) ls (.int x :: st) σ = if x = 0 then xv_ev ro d M ops ls st σ else xv_ev ro d M (xv_at M.2.2.2.2.2.2 a) ls st σ := by
  by_cases h : x = 0
  · rw [if_pos h]; exact xv_ev1n rfl (by simp [xv_jmp, xv_c2, xv_c1, h])
  · rw [if_neg h]; exact xv_ev1 rfl (by simp [xv_jmp, xv_c2, xv_c1, h])
theorem xr_goto (ro : xv_Ro) (d : Nat) (M : xv_M) (a b w : Nat) (v : Value) (ops : List xv_Op) (ls : xv_L) (st : List Value) (σ : xv_S) (off : Int) : xv_ev ro d M ((.goto off, a, b, w, v) :: ops) ls (st) σ = xv_ev ro d M (xv_at M.2.2.2.2.2.2 a) ls st σ := xv_ev1 rfl rfl
theorem xr_nop (ro : xv_Ro) (d : Nat) (M : xv_M) (a b w : Nat) (v : Value) (ops : List xv_Op) (ls : xv_L) (st : List Value) (σ : xv_S) : xv_ev ro d M ((.nop, a, b, w, v) :: ops) ls (st) σ = xv_ev ro d M (xv_at M.2.2.2.2.2.2 a) ls st σ := xv_ev1 rfl rfl
theorem xr_ifnull_n (ro : xv_Ro) (d : Nat) (M : xv_M) (a b w : Nat) (v : Value) (ops : List xv_Op) (ls : xv_L) (st : List Value) (σ : xv_S) (off : Int) : xv_ev ro d M ((.ifnull off, a, b, w, v) :: ops) ls (.null :: st) σ = xv_ev ro d M (xv_at M.2.2.2.2.2.2 a) ls st σ := xv_ev1 rfl rfl
theorem xr_ifnull_r (ro : xv_Ro) (d : Nat) (M : xv_M) (a b w : Nat) (v : Value) (ops : List xv_Op) (ls : xv_L) (st : List Value) (σ : xv_S) (off : Int) (r : Nat) : xv_ev ro d M ((.ifnull off, a, b, w, v) :: ops) ls (.ref r :: st) σ = xv_ev ro d M (ops) ls st σ := xv_ev1n rfl rfl
theorem xr_ifnonnull_n (ro : xv_Ro) (d : Nat) (M : xv_M) (a b w : Nat) (v : Value) (ops : List xv_Op) (ls : xv_L) (st : List Value) (σ : xv_S) (off : Int) : xv_ev ro d M ((.ifnonnull off, a, b, w, v) :: ops) ls (.null :: st) σ = xv_ev ro d M (ops) ls st σ := xv_ev1n rfl rfl
theorem xr_ifnonnull_r (ro : xv_Ro) (d : Nat) (M : xv_M) (a b w : Nat) (v : Value) (ops : List xv_Op) (ls : xv_L) (st : List Value) (σ : xv_S) (off : Int) (r : Nat) : xv_ev ro d M ((.ifnonnull off, a, b, w, v) :: ops) ls (.ref r :: st) σ = xv_ev ro d M (xv_at M.2.2.2.2.2.2 a) ls st σ := xv_ev1 rfl rfl
def xv_tk {α : Type} (o : Option Int) (f : Int → Option α) : Option α := match o with
  | some x => f x
  | none => none
theorem xr_tk {α : Type} (x : Int) (f : Int → Option α) : xv_tk (some x) f = f x := rfl
theorem xr_tsw (ro : xv_Ro) (d : Nat) (M : xv_M) (a b w : Nat) (v : Value) (ops : List xv_Op) (ls : xv_L) (st : List Value) (σ : xv_S) (df lo hi : Int) (os : Array Int) (x : Int32) : xv_ev ro d M ((.tableswitch df lo hi os, a, b, w, v) :: ops) ls (.int x :: st) σ =
    if x.toInt < lo ∨ hi < x.toInt then xv_ev ro d M (xv_at M.2.2.2.2.2.2 ((a : Int) + df).toNat) ls st σ else xv_tk (os[(x.toInt - lo).toNat]?) fun o => xv_ev ro d M (xv_at M.2.2.2.2.2.2 ((a : Int) + o).toNat) ls st σ := by
  by_cases h : x.toInt < lo ∨ hi < x.toInt
  · rw [if_pos h]; exact xv_ev1 rfl (by show xv_tab a df lo hi os (.int x :: st) = _; unfold xv_tab; dsimp only; rw [if_pos h])
  · rw [if_neg h]
    unfold xv_tk
    cases ho : os[(x.toInt - lo).toNat]? with
    | none =>
      apply xv_opt_ext; intro r; rw [xv_ev_iff]
      constructor
      · rintro ⟨n, hn⟩
        cases n with
        | zero => unfold xv_exec at hn; cases hn
        | succ n =>
          obtain ⟨_, _, h1, _⟩ := xv_exec_1 rfl hn
          have h2 : xv_tab a df lo hi os (.int x :: st) = none := by unfold xv_tab; dsimp only; rw [if_neg h, ho]; rfl
          change xv_tab a df lo hi os (.int x :: st) = _ at h1
          rw [h2] at h1; cases h1
      · intro h; cases h
    | some q => exact xv_ev1 rfl (by show xv_tab a df lo hi os (.int x :: st) = _; unfold xv_tab; dsimp only; rw [if_neg h, ho]; rfl)
/-- a field that is read: a reference for ever, or a number -/
def xv_gk {α : Type} (b : Nat) (o : Option (Nat × Option Nat)) (f : Nat → Option α) (g : Option α) : Option α := match o with
  | some (c, some r) => if c = b then f r else none
  | some (c, none) => if c = b then g else none
  | none => none
theorem xr_gk1 {α : Type} (b r : Nat) (f : Nat → Option α) (g : Option α) : xv_gk b (some (b, some r)) f g = f r := by simp [xv_gk]
theorem xr_gk2 {α : Type} (b : Nat) (f : Nat → Option α) (g : Option α) : xv_gk b (some (b, none)) f g = g := by simp [xv_gk]
def xv_pk {α : Type} (b : Nat) (o : Option (Nat × Option Nat)) (g : Option α) : Option α := match o with
  | some (c, none) => if c = b then g else none
  | _ => none
theorem xr_pk {α : Type} (b : Nat) (g : Option α) : xv_pk b (some (b, none)) g = g := by simp [xv_pk]
def xv_ak {α : Type} (kd : Nat) (i : Int32) (o : Option (Nat × Nat)) (g : Option α) : Option α := match o with
  | some (k, n) => if k = kd ∧ xv_inB i n = true then g else none
  | none => none
theorem xr_ak {α : Type} (kd n : Nat) (i : Int32) (g : Option α) : xv_ak kd i (some (kd, n)) g = if xv_inB i n = true then g else none := by simp [xv_ak]
theorem xv_getf_mk {o a b : Nat} {I : Nat → Nat → Int32} {J : Nat → Nat → Int64} {st : List Value} {α : Type} (F : List Value → Option α) :
    (match xv_getf a b (xv_mk I J) (.ref o :: st) with | some s => F s | none => none) = xv_gk b (xv_fv o a) (fun r => F (.ref r :: st)) (F (.int (I o a) :: st)) := by
  unfold xv_getf xv_fv xv_mk
  dsimp only
  cases h : xv_shl[o]? with
  | none =>
    dsimp only
    by_cases hb : 1000 = b
    · rw [if_pos hb]; simp [xv_gk]
    · rw [if_neg hb]; simp [xv_gk]
  | some sp =>
    match sp with
    | .inl (kd, n, s, t) => simp [xv_mkc, xv_gk]
    | .inr (ci, fl) =>
      dsimp only [xv_mkc]
      by_cases hb : ci = b
      · rw [if_pos hb, xv_fl_get]
        cases hf : fl[a]? with
        | none => simp [xv_gk]
        | some q => cases q <;> simp [xv_gk, hb]
      · rw [if_neg hb]
        cases hf : fl[a]? with
        | none => simp [xv_gk]
        | some q => cases q <;> simp [xv_gk, hb]
theorem xv_getfk (ro : xv_Ro) (d : Nat) (M : xv_M) (a b w : Nat) (v : Value) (ops : List xv_Op) (ls : xv_L) (st : List Value) (z : Nat × Nat) (I : Nat → Nat → Int32) (J : Nat → Nat → Int64) (n o : Nat) : xv_ev ro d M ((.getfield n, a, b, w, v) :: ops) ls (.ref o :: st) (z, xv_mk I J) =
    xv_gk b (xv_fv o a) (fun r => xv_ev ro d M ops ls (.ref r :: st) (z, xv_mk I J)) (xv_ev ro d M ops ls (.int (I o a) :: st) (z, xv_mk I J)) := by
  rw [← xv_getf_mk (F := fun s => xv_ev ro d M ops ls s (z, xv_mk I J))]
  cases h : xv_getf a b (xv_mk I J) (.ref o :: st) with
  | none => exact xv_ev2n rfl (by simp [xv_hp, h])
  | some q => exact xv_ev2 rfl (by simp [xv_hp, h])
theorem xv_putf_mk {o a b : Nat} {I : Nat → Nat → Int32} {J : Nat → Nat → Int64} {st : List Value} {x : Int32} (t : Nat) (hf : xv_fv o a = some (b, none)) (ht : xv_ty t (.int x) = true) : xv_putf a b t (xv_mk I J) (.int x :: .ref o :: st) = some (st, xv_mk (xv_u2 I o a x) J) := by
  unfold xv_fv at hf
  cases h : xv_shl[o]? with
  | none => rw [h] at hf; cases hf
  | some sp =>
    match sp, h with
    | .inl (kd, m, s, t), h => rw [h] at hf; cases hf
    | .inr (ci, fl), h =>
      rw [h] at hf
      dsimp only at hf
      cases hq : fl[a]? with
      | none => rw [hq] at hf; cases hf
      | some q =>
        rw [hq] at hf
        cases hf
        have hl : a < fl.length := (List.getElem?_eq_some_iff.mp hq).1
        have hm : xv_mk I J o = .inr (b, xv_fl (I o) fl 0) := by simp [xv_mk, h, xv_mkc]
        unfold xv_putf
        dsimp only
        rw [hm]
        dsimp only
        rw [if_pos ⟨rfl, by rw [xv_fl_len]; exact hl, ht⟩, xv_fl_set _ _ _ _ _ hq]
        congr 2
        refine xv_mk_set h ?_ (fun j hj => ?_) (fun j hj => rfl)
        · show _ = xv_mkc _ _ (.inr (b, fl))
          unfold xv_mkc
          dsimp only
          refine congrArg (fun g => (Sum.inr (b, xv_fl g fl 0) : xv_C)) ?_
          funext j
          simp [xv_u2]
        · funext a'
          simp [xv_u2, hj]
theorem xr_putf (ro : xv_Ro) (d : Nat) (M : xv_M) (a b w : Nat) (ops : List xv_Op) (ls : xv_L) (st : List Value) (z : Nat × Nat) (I : Nat → Nat → Int32) (J : Nat → Nat → Int64) (n o : Nat) (x : Int32) (hf : xv_fv o a = some (b, none)) : xv_ev ro d M ((.putfield n, a, b, w, .int 0) :: ops) ls (.int x :: .ref o :: st) (z, xv_mk I J) =
    xv_ev ro d M ops ls st (z, xv_mk (xv_u2 I o a x) J) := by
  refine xv_ev2 rfl ?_
  show (xv_putf a b 0 (xv_mk I J) (.int x :: .ref o :: st)).map _ = _
  rw [xv_putf_mk 0 hf rfl]; rfl
theorem xr_putfb (ro : xv_Ro) (d : Nat) (M : xv_M) (a b w : Nat) (ops : List xv_Op) (ls : xv_L) (st : List Value) (z : Nat × Nat) (I : Nat → Nat → Int32) (J : Nat → Nat → Int64) (n o : Nat) (x : Int32) (hf : xv_fv o a = some (b, none)) (hx : x = 0 ∨ x = 1) : xv_ev ro d M ((.putfield n, a, b, w, .int 2) :: ops) ls (.int x :: .ref o :: st) (z, xv_mk I J) =
    xv_ev ro d M ops ls st (z, xv_mk (xv_u2 I o a x) J) := by
  refine xv_ev2 rfl ?_
  show (xv_putf a b 2 (xv_mk I J) (.int x :: .ref o :: st)).map _ = _
  rw [xv_putf_mk 2 hf (by simp [xv_ty, hx])]; rfl

/-- a field's value: a reference for ever, or a number -/
def xv_fw (o : Option (Nat × Option Nat)) (x : Int32) : Value := match o with
  | some (_, some r) => .ref r
  | _ => .int x
def xv_fo (b : Nat) (o : Option (Nat × Option Nat)) : Bool := match o with
  | some (c, _) => c == b
  | none => false
theorem xr_fw1 (c r : Nat) (x : Int32) : xv_fw (some (c, some r)) x = .ref r := rfl
theorem xr_fw2 (c : Nat) (x : Int32) : xv_fw (some (c, none)) x = .int x := rfl
theorem xr_fo (b : Nat) (q : Option Nat) : xv_fo b (some (b, q)) = true := by simp [xv_fo]
theorem xr_getf (ro : xv_Ro) (d : Nat) (M : xv_M) (a b w : Nat) (v : Value) (ops : List xv_Op) (ls : xv_L) (st : List Value) (z : Nat × Nat) (I : Nat → Nat → Int32) (J : Nat → Nat → Int64) (n o : Nat) (h : xv_fo b (xv_fv o a) = true) : xv_ev ro d M ((.getfield n, a, b, w, v) :: ops) ls (.ref o :: st) (z, xv_mk I J) =
    xv_ev ro d M ops ls (xv_fw (xv_fv o a) (I o a) :: st) (z, xv_mk I J) := by
  rw [xv_getfk]
  cases hf : xv_fv o a with
  | none => rw [hf] at h; cases h
  | some q =>
    rw [hf] at h
    obtain ⟨c, r⟩ := q
    have hc : c = b := by simpa [xv_fo] using h
    subst hc
    cases r <;> simp [xv_gk, xv_fw]
theorem xr_iaload (ro : xv_Ro) (d : Nat) (M : xv_M) (a w : Nat) (v : Value) (ops : List xv_Op) (ls : xv_L) (st : List Value) (z : Nat × Nat) (I : Nat → Nat → Int32) (J : Nat → Nat → Int64) (k : Nat) (i : Int32) : xv_ev ro d M ((.iaload, a, 0, w, v) :: ops) ls (.int i :: .ref k :: st) (z, xv_mk I J) = xv_ak 0 i (xv_ar k) (xv_ev ro d M ops ls (.int (I k i.toNatClampNeg) :: st) (z, xv_mk I J)) := by
  have key : xv_ild 0 (xv_mk I J) (.int i :: .ref k :: st) = xv_ak 0 i (xv_ar k) (some (.int (I k i.toNatClampNeg) :: st)) := by
    unfold xv_ild xv_ar xv_mk xv_ak
    dsimp only
    cases h : xv_shl[k]? with
    | none => rfl
    | some sp =>
      match sp with
      | .inr (ci, fl) => rfl
      | .inl (kd, n, s, t) =>
        dsimp only [xv_mkc]
        by_cases h1 : kd = 1
        · subst h1; simp
        · by_cases h34 : kd = 3 ∨ kd = 4
          · rcases h34 with rfl | rfl <;> simp
          · rw [if_neg h1, if_neg h34]
  unfold xv_ak at key ⊢
  cases hr : xv_ar k with
  | none => rw [hr] at key; exact xv_ev2n rfl (by simp [xv_hp]; exact key)
  | some q =>
    rw [hr] at key
    dsimp only at key ⊢
    by_cases hc : q.1 = 0 ∧ xv_inB i q.2 = true
    · rw [if_pos hc] at key ⊢; exact xv_ev2 rfl (by simp [xv_hp, key])
    · rw [if_neg hc] at key ⊢; exact xv_ev2n rfl (by simp [xv_hp]; exact key)
theorem xr_baload (ro : xv_Ro) (d : Nat) (M : xv_M) (a w : Nat) (v : Value) (ops : List xv_Op) (ls : xv_L) (st : List Value) (z : Nat × Nat) (I : Nat → Nat → Int32) (J : Nat → Nat → Int64) (k : Nat) (i : Int32) : xv_ev ro d M ((.baload, a, 0, w, v) :: ops) ls (.int i :: .ref k :: st) (z, xv_mk I J) = xv_ak 2 i (xv_ar k) (xv_ev ro d M ops ls (.int (I k i.toNatClampNeg) :: st) (z, xv_mk I J)) := by
  have key : xv_ild 2 (xv_mk I J) (.int i :: .ref k :: st) = xv_ak 2 i (xv_ar k) (some (.int (I k i.toNatClampNeg) :: st)) := by
    unfold xv_ild xv_ar xv_mk xv_ak
    dsimp only
    cases h : xv_shl[k]? with
    | none => rfl
    | some sp =>
      match sp with
      | .inr (ci, fl) => rfl
      | .inl (kd, n, s, t) =>
        dsimp only [xv_mkc]
        by_cases h1 : kd = 1
        · subst h1; simp
        · by_cases h34 : kd = 3 ∨ kd = 4
          · rcases h34 with rfl | rfl <;> simp
          · rw [if_neg h1, if_neg h34]
  unfold xv_ak at key ⊢
  cases hr : xv_ar k with
  | none => rw [hr] at key; exact xv_ev2n rfl (by simp [xv_hp]; exact key)
  | some q =>
    rw [hr] at key
    dsimp only at key ⊢
    by_cases hc : q.1 = 2 ∧ xv_inB i q.2 = true
    · rw [if_pos hc] at key ⊢; exact xv_ev2 rfl (by simp [xv_hp, key])
    · rw [if_neg hc] at key ⊢; exact xv_ev2n rfl (by simp [xv_hp]; exact key)
theorem xr_laload (ro : xv_Ro) (d : Nat) (M : xv_M) (a w : Nat) (v : Value) (ops : List xv_Op) (ls : xv_L) (st : List Value) (z : Nat × Nat) (I : Nat → Nat → Int32) (J : Nat → Nat → Int64) (k : Nat) (i : Int32) : xv_ev ro d M ((.laload, a, 0, w, v) :: ops) ls (.int i :: .ref k :: st) (z, xv_mk I J) = xv_ak 1 i (xv_ar k) (xv_ev ro d M ops ls (.long (J k i.toNatClampNeg) :: st) (z, xv_mk I J)) := by
  have key : xv_lld (xv_mk I J) (.int i :: .ref k :: st) = xv_ak 1 i (xv_ar k) (some (.long (J k i.toNatClampNeg) :: st)) := by
    unfold xv_lld xv_ar xv_mk xv_ak
    dsimp only
    cases h : xv_shl[k]? with
    | none => rfl
    | some sp =>
      match sp with
      | .inr (ci, fl) => rfl
      | .inl (kd, n, s, t) =>
        dsimp only [xv_mkc]
        by_cases h1 : kd = 1
        · subst h1; simp
        · by_cases h34 : kd = 3 ∨ kd = 4
          · rcases h34 with rfl | rfl <;> simp
          · rw [if_neg h1, if_neg h34]; simp [h1]
  unfold xv_ak at key ⊢
  cases hr : xv_ar k with
  | none => rw [hr] at key; exact xv_ev2n rfl (by simp [xv_hp]; exact key)
  | some q =>
    rw [hr] at key
    dsimp only at key ⊢
    by_cases hc : q.1 = 1 ∧ xv_inB i q.2 = true
    · rw [if_pos hc] at key ⊢; exact xv_ev2 rfl (by simp [xv_hp, key])
    · rw [if_neg hc] at key ⊢; exact xv_ev2n rfl (by simp [xv_hp]; exact key)
theorem xr_iastore (ro : xv_Ro) (d : Nat) (M : xv_M) (a b w : Nat) (v : Value) (ops : List xv_Op) (ls : xv_L) (st : List Value) (z : Nat × Nat) (I : Nat → Nat → Int32) (J : Nat → Nat → Int64) (k : Nat) (i : Int32) (x : Int32) : xv_ev ro d M ((.iastore, a, b, w, v) :: ops) ls (.int x :: .int i :: .ref k :: st) (z, xv_mk I J) = xv_ak 0 i (xv_ar k) (xv_ev ro d M ops ls st (z, xv_mk (xv_u2 I k i.toNatClampNeg x) J)) := by
  have key : xv_isto 0 (fun x => x) (xv_mk I J) (.int x :: .int i :: .ref k :: st) = xv_ak 0 i (xv_ar k) (some (st, xv_mk (xv_u2 I k i.toNatClampNeg x) J)) := by
    have hm : xv_mk I J k = match xv_shl[k]? with | some sp => xv_mkc (I k) (J k) sp | none => .inr (1000, []) := rfl
    unfold xv_isto xv_ar xv_ak
    dsimp only
    rw [hm]
    cases h : xv_shl[k]? with
    | none => rfl
    | some sp =>
      match sp, h with
      | .inr (ci, fl), h => rfl
      | .inl (kd, n, s, t), h =>
        dsimp only [xv_mkc]
        by_cases h1 : kd = 1
        · subst h1; rw [if_pos rfl]; simp
        · by_cases h34 : kd = 3 ∨ kd = 4
          · rcases h34 with rfl | rfl <;> simp
          · rw [if_neg h1, if_neg h34]; dsimp only; by_cases hc : kd = 0 ∧ xv_inB i n = true
            · rw [if_pos hc, if_pos hc]
              obtain ⟨rfl, -⟩ := hc
              congr 2
              refine xv_mk_set h ?_ (fun j hj => by funext a'; simp [xv_u2, hj]) (fun j hj => by rfl)
              simp only [xv_mkc]
              rw [if_neg (by decide), if_neg (by decide)]
              congr 4
              funext q
              simp [xv_u2, upd]
            · rw [if_neg hc, if_neg hc]
  unfold xv_ak at key ⊢
  cases hr : xv_ar k with
  | none => rw [hr] at key; exact xv_ev2n rfl (by simp [xv_hp]; exact key)
  | some q =>
    rw [hr] at key
    dsimp only at key ⊢
    by_cases hc : q.1 = 0 ∧ xv_inB i q.2 = true
    · rw [if_pos hc] at key ⊢; exact xv_ev2 rfl (by simp [xv_hp, key])
    · rw [if_neg hc] at key ⊢; exact xv_ev2n rfl (by simp [xv_hp]; exact key)
theorem xr_bastore (ro : xv_Ro) (d : Nat) (M : xv_M) (a b w : Nat) (v : Value) (ops : List xv_Op) (ls : xv_L) (st : List Value) (z : Nat × Nat) (I : Nat → Nat → Int32) (J : Nat → Nat → Int64) (k : Nat) (i : Int32) (x : Int32) : xv_ev ro d M ((.bastore, a, b, w, v) :: ops) ls (.int x :: .int i :: .ref k :: st) (z, xv_mk I J) = xv_ak 2 i (xv_ar k) (xv_ev ro d M ops ls st (z, xv_mk (xv_u2 I k i.toNatClampNeg (vp_nar .byte x)) J)) := by
  have key : xv_isto 2 (fun x => vp_nar .byte x) (xv_mk I J) (.int x :: .int i :: .ref k :: st) = xv_ak 2 i (xv_ar k) (some (st, xv_mk (xv_u2 I k i.toNatClampNeg (vp_nar .byte x)) J)) := by
    have hm : xv_mk I J k = match xv_shl[k]? with | some sp => xv_mkc (I k) (J k) sp | none => .inr (1000, []) := rfl
    unfold xv_isto xv_ar xv_ak
    dsimp only
    rw [hm]
    cases h : xv_shl[k]? with
    | none => rfl
    | some sp =>
      match sp, h with
      | .inr (ci, fl), h => rfl
      | .inl (kd, n, s, t), h =>
        dsimp only [xv_mkc]
        by_cases h1 : kd = 1
        · subst h1; rw [if_pos rfl]; simp
        · by_cases h34 : kd = 3 ∨ kd = 4
          · rcases h34 with rfl | rfl <;> simp
          · rw [if_neg h1, if_neg h34]; dsimp only; by_cases hc : kd = 2 ∧ xv_inB i n = true
            · rw [if_pos hc, if_pos hc]
              obtain ⟨rfl, -⟩ := hc
              congr 2
              refine xv_mk_set h ?_ (fun j hj => by funext a'; simp [xv_u2, hj]) (fun j hj => by rfl)
              simp only [xv_mkc]
              rw [if_neg (by decide), if_neg (by decide)]
              congr 4
              funext q
              simp [xv_u2, upd]
            · rw [if_neg hc, if_neg hc]
  unfold xv_ak at key ⊢
  cases hr : xv_ar k with
  | none => rw [hr] at key; exact xv_ev2n rfl (by simp [xv_hp]; exact key)
  | some q =>
    rw [hr] at key
    dsimp only at key ⊢
    by_cases hc : q.1 = 2 ∧ xv_inB i q.2 = true
    · rw [if_pos hc] at key ⊢; exact xv_ev2 rfl (by simp [xv_hp, key])
    · rw [if_neg hc] at key ⊢; exact xv_ev2n rfl (by simp [xv_hp]; exact key)
theorem xr_lastore (ro : xv_Ro) (d : Nat) (M : xv_M) (a b w : Nat) (v : Value) (ops : List xv_Op) (ls : xv_L) (st : List Value) (z : Nat × Nat) (I : Nat → Nat → Int32) (J : Nat → Nat → Int64) (k : Nat) (i : Int32) (x : Int64) : xv_ev ro d M ((.lastore, a, b, w, v) :: ops) ls (.long x :: .int i :: .ref k :: st) (z, xv_mk I J) = xv_ak 1 i (xv_ar k) (xv_ev ro d M ops ls st (z, xv_mk I (xv_u2 J k i.toNatClampNeg x))) := by
  have key : xv_lsto (xv_mk I J) (.long x :: .int i :: .ref k :: st) = xv_ak 1 i (xv_ar k) (some (st, xv_mk I (xv_u2 J k i.toNatClampNeg x))) := by
    have hm : xv_mk I J k = match xv_shl[k]? with | some sp => xv_mkc (I k) (J k) sp | none => .inr (1000, []) := rfl
    unfold xv_lsto xv_ar xv_ak
    dsimp only
    rw [hm]
    cases h : xv_shl[k]? with
    | none => rfl
    | some sp =>
      match sp, h with
      | .inr (ci, fl), h => rfl
      | .inl (kd, n, s, t), h =>
        dsimp only [xv_mkc]
        by_cases h1 : kd = 1
        · subst h1; rw [if_pos rfl]; dsimp only
          by_cases hc : 1 = 1 ∧ xv_inB i n = true
          · rw [if_pos hc, if_pos hc]
            congr 2
            refine xv_mk_set h ?_ (fun j hj => by rfl) (fun j hj => by funext a'; simp [xv_u2, hj])
            have hq : vp_updL (J k) i.toNatClampNeg x = (xv_u2 J k i.toNatClampNeg x) k := by funext q; simp [xv_u2, vp_updL]
            rw [hq]
            rfl
          · rw [if_neg hc, if_neg hc]
        · by_cases h34 : kd = 3 ∨ kd = 4
          · rcases h34 with rfl | rfl <;> simp
          · rw [if_neg h1, if_neg h34]; dsimp only; simp [h1]
  unfold xv_ak at key ⊢
  cases hr : xv_ar k with
  | none => rw [hr] at key; exact xv_ev2n rfl (by simp [xv_hp]; exact key)
  | some q =>
    rw [hr] at key
    dsimp only at key ⊢
    by_cases hc : q.1 = 1 ∧ xv_inB i q.2 = true
    · rw [if_pos hc] at key ⊢; exact xv_ev2 rfl (by simp [xv_hp, key])
    · rw [if_neg hc] at key ⊢; exact xv_ev2n rfl (by simp [xv_hp]; exact key)
