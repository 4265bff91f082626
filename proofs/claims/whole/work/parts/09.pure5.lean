/-! Pure rows for the walks of the model. -/
section PU5
def isC (x : Int32) : Bool := !decide (x < 0) && !decide (nI 3 < x)
theorem isC_n {c : Nat} (h : c < 4) : isC (nI c) = true := by
  unfold isC
  rw [decide_eq_false (nI_pos (by omega)), decide_eq_false (nI_nlt (by omega) (by omega))]
  rfl
theorem isC_of {x : Int32} (h : isC x = true) : ∃ c, c < 4 ∧ x = nI c := by
  unfold isC at h
  rw [Bool.and_eq_true, Bool.not_eq_true', Bool.not_eq_true', decide_eq_false_iff_not, decide_eq_false_iff_not] at h
  rcases pk_ix x (n := 4) (by omega) with h1 | h1 | h1
  · exact absurd h1 h.1
  · exfalso
    apply h.2
    rw [Int32.lt_iff_toInt_lt, nI_toInt (by omega)]
    rw [Int32.le_iff_toInt_le, nI_toInt (by omega)] at h1
    omega
  · exact h1
theorem bad_no {y z : Int32} (hy : y < 0 ∨ z ≤ y) (h1 : ¬ y < 0) (h2 : y < z) : False := by
  rcases hy with h | h
  · exact h1 h
  · rw [Int32.lt_iff_toInt_lt] at h2
    rw [Int32.le_iff_toInt_le] at h
    omega
theorem bad_le {y z : Int32} (hy : y < 0 ∨ z < y) (h1 : ¬ y < 0) (h2 : y ≤ z) : False := by
  rcases hy with h | h
  · exact h1 h
  · rw [Int32.le_iff_toInt_le] at h2
    rw [Int32.lt_iff_toInt_lt] at h
    omega
theorem al2 {p : Nat → Bool} {j : Nat} {x y : Bool} (h1 : al p j = x) (h2 : p j = y) : al p (j + 1) = (x && y) := by rw [al, h1, h2]
theorem lt_of_ne_le {t r : Nat} (h : t ≤ r) (hn : t ≠ r) : t + 1 ≤ r := by omega
theorem mnj_t {x : Nat → Int64} {j : Nat} (h : x j < mn x (j - 1)) : x j = mn x j := by
  cases j with
  | zero => rfl
  | succ j => rw [mn, if_pos (show x (j + 1) < mn x j from h)]
theorem mnj_f {x : Nat → Int64} {j : Nat} (h : ¬ x j < mn x (j - 1)) : mn x (j - 1) = mn x j := by
  cases j with
  | zero => rfl
  | succ j => rw [mn, if_neg (show ¬ x (j + 1) < mn x j from h)]; rfl
theorem mxj_t {x : Nat → Int64} {j : Nat} (h : mx x (j - 1) < x j) : x j = mx x j := by
  cases j with
  | zero => rfl
  | succ j => rw [mx, if_neg (Int64.lt_asymm (show mx x j < x (j + 1) from h))]
theorem mxj_f {x : Nat → Int64} {j : Nat} (h : ¬ mx x (j - 1) < x j) : mx x (j - 1) = mx x j := by
  cases j with
  | zero => rfl
  | succ j =>
    have h1 : ¬ mx x j < x (j + 1) := h
    show mx x j = _
    rw [mx]
    by_cases h2 : x (j + 1) < mx x j
    · rw [if_pos h2]
    · rw [if_neg h2]
      rw [Int64.lt_iff_toInt_lt] at h1 h2
      exact Int64.toInt_inj.mp (by omega)
def cR (o : Nat) (lo hi v : Int64) : Bool := if o = 2 then !decide (v < lo) && !decide (hi < v) else hO o lo v || hO o hi v
def rbk (T : Nat → Nat → Int64) (n : Nat) (kc ko : Nat → Nat) (kv : Nat → Int64) (k b : Nat) : Bool := if b < n / 16 then al (fun i => cR (ko i) (mn (xb T b (kc i)) 15) (mx (xb T b (kc i)) 15) (kv i)) k else true
theorem rbk_full {T : Nat → Nat → Int64} {n : Nat} {kc ko : Nat → Nat} {kv : Nat → Int64} {k b j : Nat} (h : 16 * b + 16 ≤ n ∨ j = 0) (hj : j = k) : al (fun i => cR (ko i) (mn (xb T b (kc i)) 15) (mx (xb T b (kc i)) 15) (kv i)) j = rbk T n kc ko kv k b := by
  subst hj
  unfold rbk
  by_cases hb : b < n / 16
  · rw [if_pos hb]
  · rw [if_neg hb, show j = 0 by omega]; rfl
theorem rbk_part {T : Nat → Nat → Int64} {n : Nat} {kc ko : Nat → Nat} {kv : Nat → Int64} {k b j : Nat} (h : n < 16 * b + 16) (hj : j = 0) : al (fun i => cR (ko i) (mn (xb T b (kc i)) 15) (mx (xb T b (kc i)) 15) (kv i)) j = rbk T n kc ko kv k b := by
  subst hj
  unfold rbk
  rw [if_neg (by omega)]; rfl
end PU5
