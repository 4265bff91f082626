/-! The two worlds (the hall's and the model's) over one table T, n rows, k conditions (columns kc, ops ko, values kv); and what is said of them. -/
def TR1 : u_T := fun k => match k with
  | 0 => ("ColumnHallModel", "code", "I", false)
  | 1 => ("ColumnHallModel", "count", "I", false)
  | 2 => ("ColumnHallModel", "cells", "[J", true)
  | 3 => ("ColumnHallModel", "conditions", "I", false)
  | 4 => ("ColumnHallModel", "columns", "[I", true)
  | 5 => ("ColumnHallModel", "ops", "[I", true)
  | _ => ("ColumnHallModel", "values", "[J", true)
def tyR1 : Nat → FieldType := fun k => match k with
  | 0 => .int
  | 1 => .int
  | 2 => .array .long
  | 3 => .int
  | 4 => .array .int
  | 5 => .array .int
  | _ => .array .long
theorem nmR1 : ∀ a, a < 7 → ∀ b, b < 7 → a ≠ b → (TR1 a).2.1 ≠ (TR1 b).2.1 := by decide +kernel
theorem tyR1_ok : ∀ k, k < 7 → parseFieldDescriptor (TR1 k).2.2.1 = some (tyR1 k) := by decide +kernel
abbrev c2 : List vw_C := [(RX0, TX0, 11), (RX1, TR1, 7)]
abbrev fX (ad : Nat → Nat) (n k : Nat) : List Value := [.ref (ad 1), .int (nI n), .ref (ad 2), .ref (ad 3), .ref (ad 4), .int (nI k), .ref (ad 5), .ref (ad 6), .ref (ad 7), .ref (ad 8), .ref (ad 9)]
abbrev wX (ad : Nat → Nat) (ca : Nat → ClassId) (T : Nat → Nat → Int64) (n : Nat) (kc ko : Nat → Nat) (kv : Nat → Int64) (k : Nat) (lo hi : Nat → Int64) (bw bb pk : Nat → Nat) : va_W :=
  [(ad 0, .inr (0, fX ad n k)), (ad 1, .inl (ca 1, 512, .inr (.inl (aT T)))), (ad 2, .inl (ca 2, 3, .inl (aN kc))), (ad 3, .inl (ca 3, 3, .inl (aN ko))), (ad 4, .inl (ca 4, 3, .inr (.inl kv))),
   (ad 5, .inl (ca 5, 32, .inr (.inl lo))), (ad 6, .inl (ca 6, 32, .inr (.inl hi))), (ad 7, .inl (ca 7, 32, .inl (aN bw))), (ad 8, .inl (ca 8, 32, .inl (aN bb))), (ad 9, .inl (ca 9, 128, .inl (aN pk)))]
abbrev tX (ca : Nat → ClassId) : List (ClassId × FieldType) := [(ca 1, .long), (ca 2, .int), (ca 3, .int), (ca 4, .long), (ca 5, .long), (ca 6, .long), (ca 7, .int), (ca 8, .int), (ca 9, .int)]
abbrev wR (ad : Nat → Nat) (ca : Nat → ClassId) (T : Nat → Nat → Int64) (n : Nat) (kc ko : Nat → Nat) (kv : Nat → Int64) (k cd : Nat) : va_W :=
  [(ad 0, .inr (1, [.int (nI cd), .int (nI n), .ref (ad 1), .int (nI k), .ref (ad 2), .ref (ad 3), .ref (ad 4)])), (ad 1, .inl (ca 1, 512, .inr (.inl (aR T)))), (ad 2, .inl (ca 2, 3, .inl (aN kc))), (ad 3, .inl (ca 3, 3, .inl (aN ko))), (ad 4, .inl (ca 4, 3, .inr (.inl kv)))]
abbrev tR (ca : Nat → ClassId) : List (ClassId × FieldType) := [(ca 1, .long), (ca 2, .int), (ca 3, .int), (ca 4, .long)]
/-! words of the pure side -/
section PURE
/-- whether a condition holds for a number; whether some number from lo to hi makes it hold -/
def hO (op : Nat) (x v : Int64) : Bool := if op = 0 then decide (x < v) else if op = 1 then !decide (v < x) else if op = 2 then decide (x = v) else if op = 3 then !decide (x < v) else if op = 4 then decide (v < x) else !decide (x = v)
def cH (op : Nat) (v lo hi : Int64) : Bool := if op = 0 then decide (lo < v) else if op = 1 then !decide (v < lo) else if op = 2 then !decide (v < lo) && !decide (hi < v) else if op = 3 then !decide (hi < v) else if op = 4 then decide (v < hi) else !decide (lo = v) || !decide (hi = v)
/-- all of the first k -/
def al (p : Nat → Bool) : Nat → Bool
  | 0 => true
  | j + 1 => al p j && p j
/-- how many of the first n -/
def ct (p : Nat → Bool) : Nat → Nat
  | 0 => 0
  | j + 1 => ct p j + if p j then 1 else 0
/-- what the first n add up to -/
def sm (f : Nat → Int64) : Nat → Int64
  | 0 => 0
  | j + 1 => sm f j + f j
/-- how many the first n add up to -/
def sn (f : Nat → Nat) : Nat → Nat
  | 0 => 0
  | j + 1 => sn f j + f j
/-- row r is chosen -/
def ch (T : Nat → Nat → Int64) (kc ko : Nat → Nat) (kv : Nat → Int64) (k r : Nat) : Bool := al (fun i => hO (ko i) (T r (kc i)) (kv i)) k
theorem al_iff {p : Nat → Bool} : ∀ {n : Nat}, al p n = true ↔ ∀ j, j < n → p j = true
  | 0 => ⟨fun _ j h => by omega, fun _ => rfl⟩
  | n + 1 => by
    rw [al, Bool.and_eq_true, al_iff (n := n)]
    refine ⟨fun h j hj => ?_, fun h => ⟨fun j hj => h j (by omega), h n (by omega)⟩⟩
    rcases Nat.lt_succ_iff_lt_or_eq.mp hj with h1 | h1
    · exact h.1 j h1
    · rw [h1]; exact h.2
theorem al_false {p : Nat → Bool} {n j : Nat} (hj : j < n) (h : p j = false) : al p n = false := by
  cases e : al p n
  · rfl
  · rw [al_iff.mp e j hj] at h; cases h
theorem al_congr {p q : Nat → Bool} {n : Nat} (h : ∀ j, j < n → p j = q j) : al p n = al q n := by
  induction n with
  | zero => rfl
  | succ n ih => rw [al, al, ih (fun j hj => h j (by omega)), h n (by omega)]
theorem ct_le (p : Nat → Bool) : ∀ n, ct p n ≤ n
  | 0 => Nat.le_refl 0
  | n + 1 => by have := ct_le p n; rw [ct]; split <;> omega
theorem ct_mono (p : Nat → Bool) {a b : Nat} (h : a ≤ b) : ct p a ≤ ct p b := by
  induction b with
  | zero => rw [Nat.le_zero.mp h]; exact Nat.le_refl _
  | succ b ih =>
    rcases Nat.lt_succ_iff_lt_or_eq.mp (Nat.lt_succ_of_le h) with h1 | h1
    · have := ih (by omega); rw [ct]; omega
    · rw [h1]; exact Nat.le_refl _
theorem ct_congr {p q : Nat → Bool} {n : Nat} (h : ∀ j, j < n → p j = q j) : ct p n = ct q n := by
  induction n with
  | zero => rfl
  | succ n ih => rw [ct, ct, ih (fun j hj => h j (by omega)), h n (by omega)]
theorem ct_none {p : Nat → Bool} {a b : Nat} (hab : a ≤ b) (h : ∀ j, a ≤ j → j < b → p j = false) : ct p b = ct p a := by
  induction b with
  | zero => rw [Nat.le_zero.mp hab]
  | succ b ih =>
    rcases Nat.lt_succ_iff_lt_or_eq.mp (Nat.lt_succ_of_le hab) with h1 | h1
    · rw [ct, ih (by omega) (fun j h2 h3 => h j h2 (by omega)), h b (by omega) (by omega)]; rfl
    · rw [h1]
theorem eq_lts (v x : Int64) : (!decide (v < x) && !decide (x < v)) = decide (x = v) := by
  by_cases hx : x = v
  · subst hx; simp [Int64.lt_irrefl]
  · rcases Int64.lt_or_lt_of_ne hx with h | h
    · rw [decide_eq_true h, decide_eq_false hx, Bool.not_true, Bool.and_false]
    · rw [decide_eq_true h, decide_eq_false hx, Bool.not_true, Bool.false_and]
theorem cH_one (op : Nat) (v x : Int64) : cH op v x x = hO op x v := by
  unfold cH hO
  by_cases h0 : op = 0
  · rw [if_pos h0, if_pos h0]
  rw [if_neg h0, if_neg h0]
  by_cases h1 : op = 1
  · rw [if_pos h1, if_pos h1]
  rw [if_neg h1, if_neg h1]
  by_cases h2 : op = 2
  · rw [if_pos h2, if_pos h2]; exact eq_lts v x
  rw [if_neg h2, if_neg h2]
  by_cases h3 : op = 3
  · rw [if_pos h3, if_pos h3]
  rw [if_neg h3, if_neg h3]
  by_cases h4 : op = 4
  · rw [if_pos h4, if_pos h4]
  rw [if_neg h4, if_neg h4, Bool.or_self]
end PURE
