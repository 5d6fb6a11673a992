/-! onions for witnesses: all rows in their order, pruned or not -/
abbrev ox_S : Type := Nat × (Nat → Nat)
def ox_n (st : ox_S) (sum : Nat) (row : Nat → Nat) : ox_S := if st.1 ≤ sum then (sum + 1, row) else st
def ox_l (f : Nat → ox_S → ox_S) : Nat → Nat → ox_S → ox_S
  | 0, _, st => st
  | m + 1, j, st => ox_l f m (j + 1) (f j st)
theorem ox_ls (f : Nat → ox_S → ox_S) (m j : Nat) (st : ox_S) : ox_l f (m + 1) j st = ox_l f m (j + 1) (f j st) := rfl
theorem ox_la (f : Nat → ox_S → ox_S) : ∀ (a b j : Nat) (st : ox_S), ox_l f (a + b) j st = ox_l f b (j + a) (ox_l f a j st) := by
  intro a
  induction a with
  | zero => intro b j st; rw [Nat.zero_add]; rfl
  | succ a ih =>
    intro b j st
    rw [show a + 1 + b = a + b + 1 by omega, ox_ls, ih, ox_ls, show j + 1 + a = j + (a + 1) by omega]
theorem ox_lc {f g : Nat → ox_S → ox_S} : ∀ (m j : Nat) (st : ox_S), (∀ q, j ≤ q → q < j + m → ∀ s, f q s = g q s) → ox_l f m j st = ox_l g m j st := by
  intro m
  induction m with
  | zero => intro _ _ _; rfl
  | succ m ih =>
    intro j st h
    rw [ox_ls, ox_ls, h j (Nat.le_refl j) (by omega), ih (j + 1) _ (fun q q1 q2 s => h q (by omega) (by omega) s)]
def ox_G (h o : Nat → Nat) (n : Nat) : Nat → Nat → Nat → Nat → (Nat → Nat) → ox_S → ox_S
  | 0, _, _, sum, row, st => ox_n st sum row
  | k + 1, i, tk, sum, row, st => ox_l (fun j st => if tk.testBit j = true then st else ox_G h o n k (i + 1) (tk ||| 2 ^ j) (sum + h i * o j) (vx_q row i j) st) n 0 st
def ox_f (h o : Nat → Nat) (n k i tk sum : Nat) (row : Nat → Nat) (j : Nat) (st : ox_S) : ox_S := if tk.testBit j = true then st else ox_G h o n k (i + 1) (tk ||| 2 ^ j) (sum + h i * o j) (vx_q row i j) st
theorem ox_Gs (h o : Nat → Nat) (n k i tk sum : Nat) (row : Nat → Nat) (st : ox_S) : ox_G h o n (k + 1) i tk sum row st = ox_l (ox_f h o n k i tk sum row) n 0 st := rfl
def ox_T (n : Nat) (pm : (Nat → Nat) → Bool) (wt : (Nat → Nat) → Nat) : Nat → Nat → (Nat → Nat) → ox_S → ox_S
  | 0, _, row, st => if pm row = true then ox_n st (wt row) row else st
  | k + 1, i, row, st => ox_l (fun j st => ox_T n pm wt k (i + 1) (vx_q row i j) st) n 0 st
theorem ox_Ts (n : Nat) (pm : (Nat → Nat) → Bool) (wt : (Nat → Nat) → Nat) (k i : Nat) (row : Nat → Nat) (st : ox_S) : ox_T n pm wt (k + 1) i row st = ox_l (fun j st => ox_T n pm wt k (i + 1) (vx_q row i j) st) n 0 st := rfl
def ox_inj (row : Nat → Nat) (i : Nat) : Prop := ∀ a b, a < b → b < i → row a ≠ row b
theorem ox_lid {f : Nat → ox_S → ox_S} : ∀ (m j : Nat) (st : ox_S), (∀ q, j ≤ q → q < j + m → ∀ s, f q s = s) → ox_l f m j st = st := by
  intro m
  induction m with
  | zero => intro _ _ _; rfl
  | succ m ih =>
    intro j st h
    rw [ox_ls, h j (Nat.le_refl j) (by omega)]
    exact ih (j + 1) st (fun q q1 q2 s => h q (by omega) (by omega) s)
theorem ox_Tno {n : Nat} {pm : (Nat → Nat) → Bool} {wt : (Nat → Nat) → Nat} (hpm : ∀ row, pm row = true → ox_inj row n) : ∀ (k i : Nat) (row : Nat → Nat) (st : ox_S), i + k = n → ¬ ox_inj row i → ox_T n pm wt k i row st = st := by
  intro k
  induction k with
  | zero =>
    intro i row st hi hno
    obtain rfl : i = n := by omega
    show (if pm row = true then ox_n st (wt row) row else st) = st
    rw [if_neg (fun q => hno (hpm row q))]
  | succ k ih =>
    intro i row st hi hno
    rw [ox_Ts]
    refine ox_lid n 0 st (fun q q1 q2 s => ?_)
    refine ih (i + 1) (vx_q row i q) s (by omega) (fun g => hno (fun a b h1 h2 => ?_))
    have := g a b h1 (by omega)
    unfold vx_q at this
    rw [if_neg (by omega), if_neg (by omega)] at this
    exact this
def ox_w (h o : Nat → Nat) (row : Nat → Nat) : Nat → Nat
  | 0 => 0
  | i + 1 => ox_w h o row i + h i * o (row i)
theorem ox_wc (h o : Nat → Nat) {r s : Nat → Nat} : ∀ {i : Nat}, (∀ j, j < i → r j = s j) → ox_w h o r i = ox_w h o s i := by
  intro i
  induction i with
  | zero => intro _; rfl
  | succ i ih =>
    intro hh
    show ox_w h o r i + h i * o (r i) = ox_w h o s i + h i * o (s i)
    rw [ih (fun j hj => hh j (by omega)), hh i (by omega)]
theorem ox_TG {h o : Nat → Nat} {n : Nat} {pm : (Nat → Nat) → Bool} (hpm : ∀ row, pm row = true ↔ ox_inj row n) : ∀ (k i tk : Nat) (row : Nat → Nat) (st : ox_S), i + k = n → ox_inj row i → (∀ j, j < n → (tk.testBit j = true ↔ ∃ a, a < i ∧ row a = j)) → ox_T n pm (fun r => ox_w h o r n) k i row st = ox_G h o n k i tk (ox_w h o row i) row st := by
  intro k
  induction k with
  | zero =>
    intro i tk row st hi hinj htk
    obtain rfl : i = n := by omega
    show (if pm row = true then ox_n st (ox_w h o row i) row else st) = ox_n st (ox_w h o row i) row
    rw [if_pos ((hpm row).mpr hinj)]
  | succ k ih =>
    intro i tk row st hi hinj htk
    rw [ox_Ts, ox_Gs]
    refine ox_lc n 0 st (fun q _ q2 s => ?_)
    have hq : q < n := by omega
    unfold ox_f
    have hv : ∀ a, a ≠ i → vx_q row i q a = row a := fun a ha => by unfold vx_q; rw [if_neg ha]
    have hvi : vx_q row i q i = q := by unfold vx_q; rw [if_pos rfl]
    by_cases c : tk.testBit q = true
    · rw [if_pos c]
      obtain ⟨a, a1, a2⟩ := (htk q hq).mp c
      refine ox_Tno (fun r hr => (hpm r).mp hr) k (i + 1) (vx_q row i q) s (by omega) (fun g => ?_)
      have := g a i a1 (by omega)
      rw [hv a (by omega), hvi] at this
      exact this a2
    · rw [if_neg c]
      have hw : ox_w h o (vx_q row i q) (i + 1) = ox_w h o row i + h i * o q := by
        show ox_w h o (vx_q row i q) i + h i * o (vx_q row i q i) = _
        rw [hvi, ox_wc h o (fun j hj => hv j (by omega))]
      rw [← hw]
      refine ih (i + 1) (tk ||| 2 ^ q) (vx_q row i q) s (by omega) (fun a b h1 h2 => ?_) (fun j hj => ?_)
      · by_cases e : b = i
        · rw [e, hvi, hv a (by omega)]
          intro g
          exact c ((htk q hq).mpr ⟨a, by omega, g⟩)
        · rw [hv a (by omega), hv b e]
          exact hinj a b h1 (by omega)
      · rw [Nat.testBit_or, Bool.or_eq_true, htk j hj]
        constructor
        · rintro (⟨a, a1, a2⟩ | g)
          · exact ⟨a, by omega, by rw [hv a (by omega)]; exact a2⟩
          · refine ⟨i, by omega, ?_⟩
            rw [hvi]
            rw [Nat.testBit_two_pow] at g
            exact of_decide_eq_true g
        · rintro ⟨a, a1, a2⟩
          by_cases e : a = i
          · right
            rw [e, hvi] at a2
            rw [a2, Nat.testBit_two_pow]
            simp
          · left
            exact ⟨a, by omega, by rw [hv a e] at a2; exact a2⟩
/-- the digits of a code, the first the highest -/
def ox_r (n c i : Nat) : Nat → Nat := fun j => if j < i then c / n ^ (i - 1 - j) % n else 0
theorem ox_rs {n c i j : Nat} (hj : j < n) : vx_q (ox_r n c i) i j = ox_r n (c * n + j) (i + 1) := by
  funext q
  unfold vx_q ox_r
  by_cases h1 : q = i
  · rw [if_pos h1, if_pos (by omega), h1, show i + 1 - 1 - i = 0 by omega, Nat.pow_zero, Nat.div_one, Nat.mul_add_mod_of_lt hj]
  · rw [if_neg h1]
    by_cases h2 : q < i
    · have e : (c * n + j) / n = c := by
        rw [Nat.mul_comm, Nat.mul_add_div (by omega), Nat.div_eq_of_lt hj, Nat.add_zero]
      rw [if_pos h2, if_pos (by omega), show i + 1 - 1 - q = (i - 1 - q) + 1 by omega, Nat.pow_succ, Nat.mul_comm (n ^ (i - 1 - q)), ← Nat.div_div_eq_div_mul, e]
    · rw [if_neg h2, if_neg (by omega)]
theorem ox_CT {n : Nat} (pm : (Nat → Nat) → Bool) (wt : (Nat → Nat) → Nat) : ∀ (k i c : Nat) (st : ox_S), i + k = n → ox_l (fun q s => if pm (ox_r n q n) = true then ox_n s (wt (ox_r n q n)) (ox_r n q n) else s) (n ^ k) (c * n ^ k) st = ox_T n pm wt k i (ox_r n c i) st := by
  intro k
  induction k with
  | zero =>
    intro i c st hi
    obtain rfl : i = n := by omega
    rw [Nat.pow_zero, Nat.mul_one]
    rfl
  | succ k ih =>
    intro i c st hi
    rw [ox_Ts]
    have key : ∀ m j st, j + m = n → ox_l (fun q s => if pm (ox_r n q n) = true then ox_n s (wt (ox_r n q n)) (ox_r n q n) else s) (m * n ^ k) ((c * n + j) * n ^ k) st = ox_l (fun j st => ox_T n pm wt k (i + 1) (vx_q (ox_r n c i) i j) st) m j st := by
      intro m
      induction m with
      | zero => intro j st _; rw [Nat.zero_mul]; rfl
      | succ m ihm =>
        intro j st hj
        rw [show (m + 1) * n ^ k = n ^ k + m * n ^ k by rw [Nat.succ_mul, Nat.add_comm], ox_la, ox_ls, ox_rs (show j < n by omega), ih (i + 1) (c * n + j) st (by omega), ← ihm (j + 1) _ (by omega)]
        congr 1
        rw [show c * n + (j + 1) = (c * n + j) + 1 by omega, Nat.succ_mul]
    have := key n 0 st (by omega)
    rw [Nat.add_zero] at this
    rw [← this, Nat.pow_succ, Nat.mul_comm (n ^ k) n, Nat.mul_assoc]
/-- at least one row is noted -/
theorem ox_n1 (st : ox_S) (sum : Nat) (row : Nat → Nat) : 1 ≤ (ox_n st sum row).1 := by
  unfold ox_n
  by_cases c : st.1 ≤ sum
  · rw [if_pos c]; show 1 ≤ sum + 1; omega
  · rw [if_neg c]; omega
theorem ox_lm {f : Nat → ox_S → ox_S} (hf : ∀ j s, 1 ≤ s.1 → 1 ≤ (f j s).1) : ∀ (m j : Nat) (st : ox_S), 1 ≤ st.1 → 1 ≤ (ox_l f m j st).1 := by
  intro m
  induction m with
  | zero => intro _ _ h; exact h
  | succ m ih => intro j st h; rw [ox_ls]; exact ih (j + 1) _ (hf j st h)
theorem ox_Gm (h o : Nat → Nat) (n : Nat) : ∀ (k i tk sum : Nat) (row : Nat → Nat) (st : ox_S), 1 ≤ st.1 → 1 ≤ (ox_G h o n k i tk sum row st).1 := by
  intro k
  induction k with
  | zero => intro i tk sum row st _; exact ox_n1 st sum row
  | succ k ih =>
    intro i tk sum row st hst
    rw [ox_Gs]
    refine ox_lm (fun j s hs => ?_) n 0 st hst
    unfold ox_f
    by_cases c : tk.testBit j = true
    · rw [if_pos c]; exact hs
    · rw [if_neg c]; exact ih _ _ _ _ _ hs
theorem ox_G1 (h o : Nat → Nat) (n : Nat) : ∀ (k i sum : Nat) (row : Nat → Nat) (st : ox_S), i + k = n → 1 ≤ (ox_G h o n k i (2 ^ i - 1) sum row st).1 := by
  intro k
  induction k with
  | zero => intro i sum row st _; exact ox_n1 st sum row
  | succ k ih =>
    intro i sum row st hi
    rw [ox_Gs, show n = i + (k + 1) by omega, ox_la, ox_ls]
    rw [show i + (k + 1) = n by omega, Nat.zero_add]
    have hm : ∀ j s, 1 ≤ s.1 → 1 ≤ (ox_f h o n k i (2 ^ i - 1) sum row j s).1 := by
      intro j s hs
      unfold ox_f
      by_cases c : (2 ^ i - 1).testBit j = true
      · rw [if_pos c]; exact hs
      · rw [if_neg c]; exact ox_Gm h o n _ _ _ _ _ _ hs
    refine ox_lm hm k (i + 1) _ ?_
    unfold ox_f
    have hlt : 2 ^ i - 1 < 2 ^ i := by have := Nat.two_pow_pos i; omega
    rw [if_neg (by rw [Nat.testBit_lt_two_pow hlt]; decide), vb_set hlt, show 2 ^ i - 1 + 2 ^ i = 2 ^ (i + 1) - 1 by rw [Nat.pow_succ]; have := Nat.two_pow_pos i; omega]
    exact ih (i + 1) _ _ _ (by omega)
