/-! jumps -/
def xv_jok (pc : Nat) (i : Instr) (a : Nat) : Bool :=
  match i with
  | .goto off | .if_icmp _ off | .ifCond _ off | .ifnull off | .ifnonnull off => decide ((pc : Int) + off = (a : Int))
  | .tableswitch d lo hi os => decide (a = pc) && decide (0 ≤ (pc : Int) + d) && os.all (fun o => decide (0 ≤ (pc : Int) + o))
  | _ => true
section XVJ
variable {p : Program} {l : Launch} {e : Env} {R : Room} {s : State} {m : MethodId} {args : Array Value} {below : List Frame} {meth : Method} {c : Code} {H : Heap} {locs : List Loc} {cells slots : Nat} {Q : State → Prop}
variable {cc : ByteArray} {pc len : Nat} {LS : Array Slot} {ad : Nat → Nat}
theorem xv_c2_use {f : Int32 → Int32 → Bool} {a : Nat} {t : Option Nat} {st st' : List Value} (h : xv_c2 f a st = some (t, st')) : ∃ x y, st = .int y :: .int x :: st' ∧ (if f x y = true then some a else none) = t := by
  unfold xv_c2 at h
  split at h
  · rename_i y x r
    have h := Option.some.inj h
    cases h
    exact ⟨x, y, rfl, rfl⟩
  · cases h
theorem xv_c1_use {f : Int32 → Bool} {a : Nat} {t : Option Nat} {st st' : List Value} (h : xv_c1 f a st = some (t, st')) : ∃ x, st = .int x :: st' ∧ (if f x = true then some a else none) = t := by
  unfold xv_c1 at h
  split at h
  · rename_i x r
    have h := Option.some.inj h
    cases h
    exact ⟨x, rfl, rfl⟩
  · cases h
theorem xv_jmp_ok {i : Instr} {a : Nat} {t : Option Nat} {st st' : List Value} (hx : p.tables.exec = Jvm.exec) (hb : c.code = cc) (hnop : i ≠ .nop)
    (hd : decode cc pc = .ok (i, len)) (hlen : len = xv_nx i ∨ ∃ d lo hi os, i = .tableswitch d lo hi os) (hok : xv_jok pc i a = true) (hs : xv_jmp i a st = some (t, st'))
    (kt : ∀ b, t = some b → W p l e R s m args below meth c H locs cells slots Q (F0 m b LS (st'.map (xv_sh ad))))
    (kf : t = none → W p l e R s m args below meth c H locs cells slots Q (F0 m (pc + xv_nx i) LS (st'.map (xv_sh ad)))) : W p l e R s m args below meth c H locs cells slots Q (F0 m pc LS (st.map (xv_sh ad))) := by
  cases i with
  | nop => exact absurd rfl hnop
  | goto off =>
    rcases hlen with rfl | ⟨_, _, _, _, h⟩
    · cases hs
      exact lv_goto hx hb hd (of_decide_eq_true hok) (kt a rfl)
    · cases h
  | if_icmp cd off =>
    rcases hlen with rfl | ⟨_, _, _, _, h⟩
    · have ht := of_decide_eq_true hok
      cases cd with
      | eq => obtain ⟨x, y, rfl, rfl⟩ := xv_c2_use hs; exact lv_icmp_eq hx hb hd ht (fun q => kt a (by simp [q])) (fun q => kf (by simp [q]))
      | ne => obtain ⟨x, y, rfl, rfl⟩ := xv_c2_use hs; exact lv_icmp_ne hx hb hd ht (fun q => kt a (by simpa using q)) (fun q => kf (by simpa using q))
      | lt => obtain ⟨x, y, rfl, rfl⟩ := xv_c2_use hs; exact lv_icmp_lt hx hb hd ht (fun q => kt a (by simp [q])) (fun q => kf (by simp [q]))
      | ge => obtain ⟨x, y, rfl, rfl⟩ := xv_c2_use hs; exact lv_icmp_ge hx hb hd ht (fun q => kt a (by simp [q])) (fun q => kf (by simp [q]))
      | gt => obtain ⟨x, y, rfl, rfl⟩ := xv_c2_use hs; exact lv_icmp_gt hx hb hd ht (fun q => kt a (by simp [q])) (fun q => kf (by simp [q]))
      | le => obtain ⟨x, y, rfl, rfl⟩ := xv_c2_use hs; exact lv_icmp_le hx hb hd ht (fun q => kt a (by simp [q])) (fun q => kf (by simp [q]))
    · cases h
  | ifCond cd off =>
    rcases hlen with rfl | ⟨_, _, _, _, h⟩
    · have ht := of_decide_eq_true hok
      cases cd with
      | eq => obtain ⟨x, rfl, rfl⟩ := xv_c1_use hs; exact lv_if_eq hx hb hd ht (fun q => kt a (by simp [q])) (fun q => kf (by simp [q]))
      | ne => obtain ⟨x, rfl, rfl⟩ := xv_c1_use hs; exact lv_if_ne hx hb hd ht (fun q => kt a (by simpa using q)) (fun q => kf (by simpa using q))
      | lt => obtain ⟨x, rfl, rfl⟩ := xv_c1_use hs; exact lv_if_lt hx hb hd ht (fun q => kt a (by simp [q])) (fun q => kf (by simp [q]))
      | ge => obtain ⟨x, rfl, rfl⟩ := xv_c1_use hs; exact lv_if_ge hx hb hd ht (fun q => kt a (by simp [q])) (fun q => kf (by simp [q]))
      | gt => obtain ⟨x, rfl, rfl⟩ := xv_c1_use hs; exact lv_if_gt hx hb hd ht (fun q => kt a (by simp [q])) (fun q => kf (by simp [q]))
      | le => obtain ⟨x, rfl, rfl⟩ := xv_c1_use hs; exact lv_if_le hx hb hd ht (fun q => kt a (by simp [q])) (fun q => kf (by simp [q]))
    · cases h
  | ifnull off =>
    rcases hlen with rfl | ⟨_, _, _, _, h⟩
    · have ht := of_decide_eq_true hok
      match st, hs with
      | .null :: r, hs => cases hs; exact lv_ifnullN hx hb hd ht (kt a rfl)
      | .ref q :: r, hs => cases hs; exact lv_ifnull hx hb hd (kf rfl)
    · cases h
  | ifnonnull off =>
    rcases hlen with rfl | ⟨_, _, _, _, h⟩
    · have ht := of_decide_eq_true hok
      match st, hs with
      | .null :: r, hs => cases hs; exact lv_ifnonnullN hx hb hd (kf rfl)
      | .ref q :: r, hs => cases hs; exact lv_ifnonnull hx hb hd ht (kt a rfl)
    · cases h
  | tableswitch d lo hi os =>
    match st, hs with
    | .int x :: r, hs =>
      change (decide (a = pc) && decide (0 ≤ (pc : Int) + d) && os.all (fun o => decide (0 ≤ (pc : Int) + o))) = true at hok
      simp only [Bool.and_eq_true, decide_eq_true_eq] at hok
      obtain ⟨⟨rfl, h2⟩, h3⟩ := hok
      change (if x.toInt < lo ∨ hi < x.toInt then some (some ((a : Int) + d).toNat, r) else (os[(x.toInt - lo).toNat]?).map fun o => (some ((a : Int) + o).toNat, r)) = _ at hs
      by_cases hc : x.toInt < lo ∨ hi < x.toInt
      · rw [if_pos hc] at hs
        cases hs
        exact lv_tableOut hx hb hd hc (by omega) (kt _ rfl)
      · rw [if_neg hc] at hs
        cases ho : os[(x.toInt - lo).toNat]? with
        | none => rw [ho] at hs; cases hs
        | some o =>
          rw [ho] at hs
          cases hs
          have h4 : 0 ≤ (a : Int) + o := by
            rw [Array.all_eq_true] at h3
            obtain ⟨hlt, he⟩ := Array.getElem?_eq_some_iff.mp ho
            have := h3 _ hlt
            rw [he] at this
            exact of_decide_eq_true this
          exact lv_tableIn hx hb hd (fun q => hc (Or.inl q)) (fun q => hc (Or.inr q)) ho (by omega) (kt _ rfl)
  | _ => cases hs
end XVJ
