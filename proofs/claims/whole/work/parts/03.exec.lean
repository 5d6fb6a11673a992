/-! A SMALL MACHINE of its own, as a function: methods as lists of resolved instructions, a world of cells by their numbers. -/
abbrev xv_C : Type := (Nat × vp_A) ⊕ (Nat × List Value)
abbrev xv_H : Type := Nat → xv_C
abbrev xv_S : Type := (Nat × Nat) × xv_H
abbrev xv_L : Type := List (Option Value)
/-- an instruction; three numbers and a value that resolve it -/
abbrev xv_Op : Type := Instr × Nat × Nat × Nat × Value
abbrev xv_B : Type := List (Nat × List xv_Op)
/-- a method: name, bytes, locals, return type; class, kind (0 static, 1 virtual, 2 constructor), arguments without the receiver; its longs' places; its blocks -/
abbrev xv_M : Type := MethodName × ByteArray × Nat × Option FieldType × (Nat × Nat × Nat) × List Nat × xv_B
abbrev xv_Ro : Type := Nat → Option (Nat × (Nat → Int32))
def xv_at : xv_B → Nat → List xv_Op
  | [], _ => []
  | (p, b) :: L, q => if p = q then b else xv_at L q
def xv_get : xv_L → Nat → Option Value
  | [], _ => none
  | a :: _, 0 => a
  | _ :: ls, n + 1 => xv_get ls n
def xv_set : xv_L → Nat → Option Value → xv_L
  | [], _, _ => []
  | _ :: ls, 0, v => v :: ls
  | a :: ls, n + 1, v => a :: xv_set ls n v
/-- is it a value of that kind: 0 int, 1 long, 2 boolean, 3 reference -/
def xv_ty : Nat → Value → Bool
  | 0, .int _ => true
  | 1, .long _ => true
  | 2, .int x => x == 0 || x == 1
  | 3, .null => true
  | 3, .ref _ => true
  | _, _ => false
def xv_i2 (f : Int32 → Int32 → Option Int32) : List Value → Option (List Value)
  | .int y :: .int x :: r => (f x y).map fun z => .int z :: r
  | _ => none
def xv_l2 (f : Int64 → Int64 → Option Value) : List Value → Option (List Value)
  | .long y :: .long x :: r => (f x y).map fun z => z :: r
  | _ => none
def xv_il (f : Int64 → Int32 → Int64) : List Value → Option (List Value)
  | .int y :: .long x :: r => some (.long (f x y) :: r)
  | _ => none
def xv_i1 (f : Int32 → Value) : List Value → Option (List Value)
  | .int x :: r => some (f x :: r)
  | _ => none
def xv_l1 (f : Int64 → Value) : List Value → Option (List Value)
  | .long x :: r => some (f x :: r)
  | _ => none
def xv_ld (t : Nat) (ls : xv_L) (k : Nat) (st : List Value) : Option (xv_L × List Value) :=
  match xv_get ls k with
  | some v => if xv_ty t v = true then some (ls, v :: st) else none
  | none => none
def xv_st (t : Nat) (ls : xv_L) (k : Nat) : List Value → Option (xv_L × List Value)
  | v :: st => if xv_ty t v = true then some (xv_set ls k (some v), st) else none
  | [] => none
def xv_stl (ls : xv_L) (k : Nat) : List Value → Option (xv_L × List Value)
  | .long x :: st => some (xv_set (xv_set ls k (some (.long x))) (k + 1) none, st)
  | _ => none
def xv_inc (ls : xv_L) (k : Nat) (v : Value) (st : List Value) : Option (xv_L × List Value) :=
  match xv_get ls k, v with
  | some (.int x), .int c => some (xv_set ls k (some (.int (x + c))), st)
  | _, _ => none
def xv_dup : List Value → Option (List Value)
  | v :: r => if v.category = 1 then some (v :: v :: r) else none
  | [] => none
def xv_dup2 : List Value → Option (List Value)
  | v :: w :: r => if v.category = 1 ∧ w.category = 1 then some (v :: w :: v :: w :: r) else none
  | _ => none
def xv_pop : List Value → Option (List Value)
  | v :: r => if v.category = 1 then some r else none
  | [] => none
/-- what touches neither heap nor place -/
def xv_loc (i : Instr) (v : Value) (ls : xv_L) (st : List Value) : Option (xv_L × List Value) :=
  match i with
  | .aconst_null => some (ls, .null :: st)
  | .iconst _ => some (ls, v :: st)
  | .bipush _ => some (ls, v :: st)
  | .sipush _ => some (ls, v :: st)
  | .lconst _ => some (ls, v :: st)
  | .ldc _ => some (ls, v :: st)
  | .ldc_w _ => some (ls, v :: st)
  | .ldc2_w _ => some (ls, v :: st)
  | .iload k => xv_ld 0 ls k st
  | .iload_n k => xv_ld 0 ls k.1 st
  | .lload k => xv_ld 1 ls k st
  | .lload_n k => xv_ld 1 ls k.1 st
  | .aload k => xv_ld 3 ls k st
  | .aload_n k => xv_ld 3 ls k.1 st
  | .istore k => xv_st 0 ls k st
  | .istore_n k => xv_st 0 ls k.1 st
  | .astore k => xv_st 3 ls k st
  | .astore_n k => xv_st 3 ls k.1 st
  | .lstore k => xv_stl ls k st
  | .lstore_n k => xv_stl ls k.1 st
  | .iinc k _ => xv_inc ls k v st
  | .dup => (xv_dup st).map fun r => (ls, r)
  | .dup2 => (xv_dup2 st).map fun r => (ls, r)
  | .pop => (xv_pop st).map fun r => (ls, r)
  | .iadd => (xv_i2 (fun x y => some (x + y)) st).map fun r => (ls, r)
  | .isub => (xv_i2 (fun x y => some (x - y)) st).map fun r => (ls, r)
  | .imul => (xv_i2 (fun x y => some (x * y)) st).map fun r => (ls, r)
  | .iand => (xv_i2 (fun x y => some (x &&& y)) st).map fun r => (ls, r)
  | .ior => (xv_i2 (fun x y => some (x ||| y)) st).map fun r => (ls, r)
  | .ixor => (xv_i2 (fun x y => some (x ^^^ y)) st).map fun r => (ls, r)
  | .ishl => (xv_i2 (fun x y => some (x <<< (y &&& 31))) st).map fun r => (ls, r)
  | .ishr => (xv_i2 (fun x y => some (x >>> (y &&& 31))) st).map fun r => (ls, r)
  | .iushr => (xv_i2 (fun x y => some (x.toUInt32 >>> (y.toUInt32 &&& Int32.toUInt32 31)).toInt32) st).map fun r => (ls, r)
  | .idiv => (xv_i2 (fun x y => if y = 0 then none else some (x / y)) st).map fun r => (ls, r)
  | .irem => (xv_i2 (fun x y => if y = 0 then none else some (x - x / y * y)) st).map fun r => (ls, r)
  | .ineg => (xv_i1 (fun x => .int (-x)) st).map fun r => (ls, r)
  | .i2l => (xv_i1 (fun x => .long x.toInt64) st).map fun r => (ls, r)
  | .i2b => (xv_i1 (fun x => .int x.toInt8.toInt32) st).map fun r => (ls, r)
  | .l2i => (xv_l1 (fun x => .int x.toInt32) st).map fun r => (ls, r)
  | .lneg => (xv_l1 (fun x => .long (-x)) st).map fun r => (ls, r)
  | .ladd => (xv_l2 (fun x y => some (.long (x + y))) st).map fun r => (ls, r)
  | .lsub => (xv_l2 (fun x y => some (.long (x - y))) st).map fun r => (ls, r)
  | .lmul => (xv_l2 (fun x y => some (.long (x * y))) st).map fun r => (ls, r)
  | .land => (xv_l2 (fun x y => some (.long (x &&& y))) st).map fun r => (ls, r)
  | .lor => (xv_l2 (fun x y => some (.long (x ||| y))) st).map fun r => (ls, r)
  | .lxor => (xv_l2 (fun x y => some (.long (x ^^^ y))) st).map fun r => (ls, r)
  | .ldiv => (xv_l2 (fun x y => if y = 0 then none else some (.long (x / y))) st).map fun r => (ls, r)
  | .lrem => (xv_l2 (fun x y => if y = 0 then none else some (.long (x - x / y * y))) st).map fun r => (ls, r)
  | .lcmp => (xv_l2 (fun x y => some (.int (lg_cmp x y))) st).map fun r => (ls, r)
  | .lshl => (xv_il (fun x y => x <<< (y.toInt64 &&& 63)) st).map fun r => (ls, r)
  | .lshr => (xv_il (fun x y => x >>> (y.toInt64 &&& 63)) st).map fun r => (ls, r)
  | _ => none
/-- where a jump goes: 'some (some a)' to a, 'some none' on -/
def xv_c2 (c : Int32 → Int32 → Bool) (a : Nat) : List Value → Option (Option Nat × List Value)
  | .int y :: .int x :: r => some (if c x y = true then some a else none, r)
  | _ => none
def xv_c1 (c : Int32 → Bool) (a : Nat) : List Value → Option (Option Nat × List Value)
  | .int x :: r => some (if c x = true then some a else none, r)
  | _ => none
def xv_nul (b : Bool) (a : Nat) : List Value → Option (Option Nat × List Value)
  | .null :: r => some (if b = true then some a else none, r)
  | .ref _ :: r => some (if b = true then none else some a, r)
  | _ => none
def xv_tab (pc : Nat) (d lo hi : Int) (os : Array Int) : List Value → Option (Option Nat × List Value)
  | .int x :: r => if x.toInt < lo ∨ hi < x.toInt then some (some ((pc : Int) + d).toNat, r) else (os[(x.toInt - lo).toNat]?).map fun o => (some ((pc : Int) + o).toNat, r)
  | _ => none
def xv_jmp (i : Instr) (a : Nat) (st : List Value) : Option (Option Nat × List Value) :=
  match i with
  | .nop => some (some a, st)
  | .goto _ => some (some a, st)
  | .if_icmp .eq _ => xv_c2 (fun x y => decide (x = y)) a st
  | .if_icmp .ne _ => xv_c2 (fun x y => decide (¬ x = y)) a st
  | .if_icmp .lt _ => xv_c2 (fun x y => decide (x < y)) a st
  | .if_icmp .ge _ => xv_c2 (fun x y => decide (y ≤ x)) a st
  | .if_icmp .gt _ => xv_c2 (fun x y => decide (y < x)) a st
  | .if_icmp .le _ => xv_c2 (fun x y => decide (x ≤ y)) a st
  | .ifCond .eq _ => xv_c1 (fun x => decide (x = 0)) a st
  | .ifCond .ne _ => xv_c1 (fun x => decide (¬ x = 0)) a st
  | .ifCond .lt _ => xv_c1 (fun x => decide (x < 0)) a st
  | .ifCond .ge _ => xv_c1 (fun x => decide (0 ≤ x)) a st
  | .ifCond .gt _ => xv_c1 (fun x => decide (0 < x)) a st
  | .ifCond .le _ => xv_c1 (fun x => decide (x ≤ 0)) a st
  | .ifnull _ => xv_nul true a st
  | .ifnonnull _ => xv_nul false a st
  | .tableswitch d lo hi os => xv_tab a d lo hi os st
  | _ => none
/-- a cell's new contents -/
def xv_up (h : xv_H) (k : Nat) (c : xv_C) : xv_H := fun j => if j = k then c else h j
def xv_in (i : Int32) (n : Nat) : Prop := 0 ≤ i.toInt ∧ i.toInt < n
def xv_inB (i : Int32) (n : Nat) : Bool := decide (0 ≤ i.toInt) && decide (i.toInt < n)
def xv_getf (k ci : Nat) (h : xv_H) : List Value → Option (List Value)
  | .ref r :: st => match h r with
    | .inr (c, fs) => if c = ci then (fs[k]?).map fun v => v :: st else none
    | _ => none
  | _ => none
def xv_putf (k ci t : Nat) (h : xv_H) : List Value → Option (List Value × xv_H)
  | v :: .ref r :: st => match h r with
    | .inr (c, fs) => if c = ci ∧ k < fs.length ∧ xv_ty t v = true then some (st, xv_up h r (.inr (c, fs.set k v))) else none
    | _ => none
  | _ => none
def xv_ildr (ro : xv_Ro) : List Value → Option (List Value)
  | .int i :: .ref r :: st => match ro r with
    | some (n, f) => if xv_inB i n = true then some (.int (f i.toNatClampNeg) :: st) else none
    | none => none
  | _ => none
def xv_ild (kd : Nat) (h : xv_H) : List Value → Option (List Value)
  | .int i :: .ref r :: st => match h r with
    | .inl (k, n, .inl f) => if k = kd ∧ xv_inB i n = true then some (.int (f i.toNatClampNeg) :: st) else none
    | _ => none
  | _ => none
def xv_lld (h : xv_H) : List Value → Option (List Value)
  | .int i :: .ref r :: st => match h r with
    | .inl (k, n, .inr (.inl f)) => if k = 1 ∧ xv_inB i n = true then some (.long (f i.toNatClampNeg) :: st) else none
    | _ => none
  | _ => none
def xv_ald (h : xv_H) : List Value → Option (List Value)
  | .int i :: .ref r :: st => match h r with
    | .inl (k, n, .inr (.inr (.inr (.inr f)))) => if (k = 3 ∨ k = 4) ∧ xv_inB i n = true then some (va_rf (f i.toNatClampNeg) :: st) else none
    | _ => none
  | _ => none
def xv_isto (kd : Nat) (g : Int32 → Int32) (h : xv_H) : List Value → Option (List Value × xv_H)
  | .int x :: .int i :: .ref r :: st => match h r with
    | .inl (k, n, .inl f) => if k = kd ∧ xv_inB i n = true then some (st, xv_up h r (.inl (k, n, .inl (upd f i.toNatClampNeg (g x))))) else none
    | _ => none
  | _ => none
def xv_lsto (h : xv_H) : List Value → Option (List Value × xv_H)
  | .long x :: .int i :: .ref r :: st => match h r with
    | .inl (k, n, .inr (.inl f)) => if k = 1 ∧ xv_inB i n = true then some (st, xv_up h r (.inl (k, n, .inr (.inl (vp_updL f i.toNatClampNeg x))))) else none
    | _ => none
  | _ => none
def xv_asto (h : xv_H) : List Value → Option (List Value × xv_H)
  | .ref v :: .int i :: .ref r :: st => match h r, h v with
    | .inl (k, n, .inr (.inr (.inr (.inr f)))), .inr (c, _) => if (k = 3 ∧ c = 8 ∨ k = 4 ∧ c = 9) ∧ xv_inB i n = true then some (st, xv_up h r (.inl (k, n, .inr (.inr (.inr (.inr (va_up f i.toNatClampNeg (some v)))))))) else none
    | _, _ => none
  | _ => none
def xv_len (h : xv_H) : List Value → Option (List Value)
  | .ref r :: st => match h r with
    | .inl (k, n, _) => if k < 5 then some (.int (Int32.ofNat n) :: st) else none
    | _ => none
  | _ => none
def xv_lenr (ro : xv_Ro) : List Value → Option (List Value)
  | .ref r :: st => (ro r).map fun q => .int (Int32.ofNat q.1) :: st
  | _ => none
def xv_dfs (ci : Nat) : List Value := ((xv_cl[ci]?).map fun q => (List.range q.2.2).map fun k => if (q.2.1 k).2.2.1 = "I" ∨ (q.2.1 k).2.2.1 = "Z" then Value.int 0 else if (q.2.1 k).2.2.1 = "J" then .long 0 else .null).getD []
def xv_new (ci : Nat) (σ : xv_S) (st : List Value) : Option (List Value × xv_S) :=
  if σ.1.1 < 1000000 then some (.ref σ.1.1 :: st, ((σ.1.1 + 1, σ.1.2 + (xv_dfs ci).length), xv_up σ.2 σ.1.1 (.inr (ci, xv_dfs ci)))) else none
def xv_newa (k : Nat) (σ : xv_S) : List Value → Option (List Value × xv_S)
  | .int n :: st => if σ.1.1 < 1000000 ∧ 0 ≤ n ∧ n ≤ 100000 then some (.ref σ.1.1 :: st, ((σ.1.1 + 1, σ.1.2 + n.toNatClampNeg), xv_up σ.2 σ.1.1 (.inl (k, n.toNatClampNeg,
      if k = 1 then .inr (.inl fun _ => 0) else if k = 3 ∨ k = 4 then .inr (.inr (.inr (.inr fun _ => none))) else .inl fun _ => 0)))) else none
  | _ => none
def xv_hp (ro : xv_Ro) (i : Instr) (a b : Nat) (v : Value) (σ : xv_S) (st : List Value) : Option (List Value × xv_S) :=
  match i with
  | .getfield _ => (xv_getf a b σ.2 st).map fun r => (r, σ)
  | .putfield _ => (match v with | .int t => (xv_putf a b t.toNatClampNeg σ.2 st).map fun r => (r.1, (σ.1, r.2)) | _ => none)
  | .iaload => ((if b = 1 then xv_ildr ro st else xv_ild 0 σ.2 st)).map fun r => (r, σ)
  | .baload => (xv_ild 2 σ.2 st).map fun r => (r, σ)
  | .laload => (xv_lld σ.2 st).map fun r => (r, σ)
  | .aaload => (xv_ald σ.2 st).map fun r => (r, σ)
  | .iastore => (xv_isto 0 (fun x => x) σ.2 st).map fun r => (r.1, (σ.1, r.2))
  | .bastore => (xv_isto 2 (fun x => vp_nar .byte x) σ.2 st).map fun r => (r.1, (σ.1, r.2))
  | .lastore => (xv_lsto σ.2 st).map fun r => (r.1, (σ.1, r.2))
  | .aastore => (xv_asto σ.2 st).map fun r => (r.1, (σ.1, r.2))
  | .arraylength => ((if b = 1 then xv_lenr ro st else xv_len σ.2 st)).map fun r => (r, σ)
  | .getstatic _ => some (.ref 1000000 :: st, σ)
  | .new _ => xv_new a σ st
  | .newarray _ => xv_newa a σ st
  | .anewarray _ => xv_newa a σ st
  | _ => none
/-- a call: callee, arguments with the receiver, the rest of the stack -/
def xv_cv (a b : Nat) (v : Value) (h : xv_H) (st : List Value) : Option (Nat × List Value × List Value) :=
  match st.drop b, v with
  | .ref r :: rest, .int ci => (match h r with
    | .inr (c, _) => if c = ci.toNatClampNeg then some (a, .ref r :: (st.take b).reverse, rest) else none
    | _ => none)
  | _, _ => none
def xv_ci (a b : Nat) (st : List Value) : Option (Nat × List Value × List Value) :=
  match st.drop b with
  | .ref r :: rest => some (a, .ref r :: (st.take b).reverse, rest)
  | _ => none
def xv_ret (M : xv_M) (i : Instr) (st : List Value) : Option (Option Value) :=
  match i, st with
  | .return_, [] => some none
  | .ireturn, [.int x] => if M.2.2.2.1 = some .int then some (some (.int x)) else if M.2.2.2.1 = some .boolean ∧ (x = 0 ∨ x = 1) then some (some (.int x)) else none
  | .lreturn, [.long x] => some (some (.long x))
  | .areturn, [.null] => some (some .null)
  | .areturn, [.ref a] => some (some (.ref a))
  | _, _ => none
def xv_kd : Instr → Nat
  | .nop | .goto _ | .if_icmp _ _ | .ifCond _ _ | .ifnull _ | .ifnonnull _ | .tableswitch _ _ _ _ => 1
  | .getfield _ | .putfield _ | .iaload | .baload | .laload | .aaload | .iastore | .bastore | .lastore | .aastore | .arraylength | .getstatic _ | .new _ | .newarray _ | .anewarray _ => 2
  | .invokevirtual _ | .invokestatic _ | .invokespecial _ => 3
  | .return_ | .ireturn | .lreturn | .areturn => 4
  | _ => 0
/-- what is known without its code: java.lang.Math's, and Object's constructor -/
def xv_math : Nat → List Value → Option (List Value × List Value)
  | 0, .int x :: r => some (.int (if 0 ≤ x then x else 0 - x) :: r, r)
  | 1, .long x :: r => some (.long (if 0 < x then x else -x) :: r, r)
  | 2, .int y :: .int x :: r => some (.int (if x < y then y else x) :: r, r)
  | 3, .long y :: .long x :: r => some (.long (if y < x then x else y) :: r, r)
  | 4, .int y :: .int x :: r => some (.int (if y < x then y else x) :: r, r)
  | 5, .long y :: .long x :: r => some (.long (if y < x then y else x) :: r, r)
  | _, _ => none
def xv_spc (i : Instr) (a : Nat) (st : List Value) : Option (List Value × List Value) :=
  match i with
  | .invokestatic _ => xv_math a st
  | _ => (match st with
    | .ref _ :: r => some (r, r)
    | _ => none)
/-- locals at a method's entry -/
def xv_flat : List Value → xv_L
  | [] => []
  | v :: vs => if v.category = 2 then some v :: none :: xv_flat vs else some v :: xv_flat vs
def xv_lgs : Nat → List Value → List Nat
  | _, [] => []
  | n, v :: vs => if v.category = 2 then n :: xv_lgs (n + 2) vs else xv_lgs (n + 1) vs
def xv_ini (M : xv_M) (as : List Value) : Option xv_L :=
  if (xv_flat as).length ≤ M.2.2.1 ∧ (xv_lgs 0 as).all (fun j => M.2.2.2.2.2.1.contains j) = true then some (xv_flat as ++ List.replicate (M.2.2.1 - (xv_flat as).length) none) else none
def xv_exec (mt : Nat → Option xv_M) (ro : xv_Ro) : Nat → Nat → xv_M → List xv_Op → xv_L → List Value → xv_S → Option (Option Value × xv_S)
  | 0, _, _, _, _, _, _ => none
  | _ + 1, _, _, [], _, _, _ => none
  | n + 1, d, M, (i, a, b, w, v) :: ops, ls, st, σ =>
    match xv_kd i with
    | 0 => (match xv_loc i v ls st with
      | some (ls', st') => xv_exec mt ro n d M ops ls' st' σ
      | none => none)
    | 1 => (match xv_jmp i a st with
      | some (some t, st') => xv_exec mt ro n d M (xv_at M.2.2.2.2.2.2 t) ls st' σ
      | some (none, st') => xv_exec mt ro n d M ops ls st' σ
      | none => none)
    | 2 => (match xv_hp ro i a b v σ st with
      | some (st', σ') => xv_exec mt ro n d M ops ls st' σ'
      | none => none)
    | 3 => (match d with
      | 0 => none
      | d' + 1 =>
        if v = .null then (match xv_spc i a st with
          | some (st', rest) => if rest.length ≤ 4 then xv_exec mt ro n (d' + 1) M ops ls st' σ else none
          | none => none)
        else (match (match i with
            | .invokevirtual _ => xv_cv a b v σ.2 st
            | .invokespecial _ => xv_ci a b st
            | _ => some (a, (st.take b).reverse, st.drop b)) with
          | some (k, as, rest) => (match mt k with
            | some M' => (match xv_ini M' as with
              | some ls0 => if rest.length ≤ 4 ∧ as.length = M'.2.2.2.2.1.2.2 + (if M'.2.2.2.2.1.2.1 = 0 then 0 else 1) then (match xv_exec mt ro n d' M' (xv_at M'.2.2.2.2.2.2 0) ls0 [] σ with
                | some (r, σ') => xv_exec mt ro n (d' + 1) M ops ls (r.toList ++ rest) σ'
                | none => none) else none
              | none => none)
            | none => none)
          | none => none))
    | _ => (match xv_ret M i st with
      | some r => some (r, σ)
      | none => none)
