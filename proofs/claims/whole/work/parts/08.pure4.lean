/-! Pure rows: a row appended, rows taken away. -/
section PU4
def apT (T : Nat → Nat → Int64) (n : Nat) (a b c : Int32) (d : Int64) : Nat → Nat → Int64 := tS (tS (tS (tS T n 0 (Int32.toInt64 a)) n 1 (Int32.toInt64 b)) n 2 (Int32.toInt64 c)) n 3 d
/-- the table when the first r rows are gone through: those that stay are moved up -/
def pT (P : Nat → Bool) (T : Nat → Nat → Int64) : Nat → Nat → Nat → Int64
  | 0 => T
  | r + 1 => if P r then pT P T r else mvR (pT P T r) r (r - ct P r) 4
theorem pT_t {P : Nat → Bool} {T : Nat → Nat → Int64} {r : Nat} (h : P r = true) : pT P T (r + 1) = pT P T r := by rw [pT, if_pos h]
theorem pT_f {P : Nat → Bool} {T : Nat → Nat → Int64} {r : Nat} (h : P r = false) : pT P T (r + 1) = mvR (pT P T r) r (r - ct P r) 4 := by rw [pT, if_neg (by rw [h]; decide)]
theorem pu_f1 {q : Nat → Nat} {P : Nat → Bool} {n r : Nat} (_ : En q P n) (hr : r < n) (h : ct P n ≤ ct P r) : P r = false := by
  cases e : P r
  · rfl
  · have := ct_lt hr e; omega
theorem pu_f2 {q : Nat → Nat} {P : Nat → Bool} {n r : Nat} (hE : En q P n) (hr : r < n) (h : ¬ q (ct P r) = r) : P r = false := by
  cases e : P r
  · rfl
  · exact absurd (hE r hr e) h
theorem pu_t {q : Nat → Nat} {P : Nat → Bool} {n r : Nat} (hE : En q P n) (h1 : ct P r < ct P n) (h : q (ct P r) = r) : P r = true := by
  have := (en_inv hE _ h1).2.1
  rwa [h] at this
end PU4
