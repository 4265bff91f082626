/-! Pure rows for the walks of the model. -/
section PU5
def isC (x : Int32) : Bool := !decide (x < 0) && !decide (nI 3 < x)
theorem isC_n {c : Nat} (h : c < 4) : isC (nI c) = true := by
  unfold isC
  rw [decide_eq_false (nI_pos (by omega)), decide_eq_false (nI_nlt (by omega) (by omega))]
  rfl
theorem isC_of {x : Int32} (h : isC x = true) : ∃ c, c < 4 ∧ x = nI c := by
  unfold isC at h
  rw [Bool.and_eq_true, Bool.not_eq_true', Bool.not_eq_true', decide_eq_false_iff_not, decide_eq_false_iff_not] at h
  rcases pk_ix x (n := 4) (by omega) with h1 | h1 | h1
  · exact absurd h1 h.1
  · exfalso
    apply h.2
    rw [Int32.lt_iff_toInt_lt, nI_toInt (by omega)]
    rw [Int32.le_iff_toInt_le, nI_toInt (by omega)] at h1
    omega
  · exact h1
theorem bad_no {y z : Int32} (hy : y < 0 ∨ z ≤ y) (h1 : ¬ y < 0) (h2 : y < z) : False := by
  rcases hy with h | h
  · exact h1 h
  · rw [Int32.lt_iff_toInt_lt] at h2
    rw [Int32.le_iff_toInt_le] at h
    omega
theorem bad_le {y z : Int32} (hy : y < 0 ∨ z < y) (h1 : ¬ y < 0) (h2 : y ≤ z) : False := by
  rcases hy with h | h
  · exact h1 h
  · rw [Int32.le_iff_toInt_le] at h2
    rw [Int32.lt_iff_toInt_lt] at h
    omega
theorem al2 {p : Nat → Bool} {j : Nat} {x y : Bool} (h1 : al p j = x) (h2 : p j = y) : al p (j + 1) = (x && y) := by rw [al, h1, h2]
theorem lt_of_ne_le {t r : Nat} (h : t ≤ r) (hn : t ≠ r) : t + 1 ≤ r := by omega
theorem mnj_t {x : Nat → Int64} {j : Nat} (h : x j < mn x (j - 1)) : x j = mn x j := by
  cases j with
  | zero => rfl
  | succ j => rw [mn, if_pos (show x (j + 1) < mn x j from h)]
theorem mnj_f {x : Nat → Int64} {j : Nat} (h : ¬ x j < mn x (j - 1)) : mn x (j - 1) = mn x j := by
  cases j with
  | zero => rfl
  | succ j => rw [mn, if_neg (show ¬ x (j + 1) < mn x j from h)]; rfl
theorem mxj_t {x : Nat → Int64} {j : Nat} (h : mx x (j - 1) < x j) : x j = mx x j := by
  cases j with
  | zero => rfl
  | succ j => rw [mx, if_neg (Int64.lt_asymm (show mx x j < x (j + 1) from h))]
theorem mxj_f {x : Nat → Int64} {j : Nat} (h : ¬ mx x (j - 1) < x j) : mx x (j - 1) = mx x j := by
  cases j with
  | zero => rfl
  | succ j =>
    have h1 : ¬ mx x j < x (j + 1) := h
    show mx x j = _
    rw [mx]
    by_cases h2 : x (j + 1) < mx x j
    · rw [if_pos h2]
    · rw [if_neg h2]
      rw [Int64.lt_iff_toInt_lt] at h1 h2
      exact Int64.toInt_inj.mp (by omega)
def cR (o : Nat) (lo hi v : Int64) : Bool := if o = 2 then !decide (v < lo) && !decide (hi < v) else hO o lo v || hO o hi v
def rbk (T : Nat → Nat → Int64) (n : Nat) (kc ko : Nat → Nat) (kv : Nat → Int64) (k b : Nat) : Bool := if b < n / 16 then al (fun i => cR (ko i) (mn (xb T b (kc i)) 15) (mx (xb T b (kc i)) 15) (kv i)) k else true
theorem rbk_full {T : Nat → Nat → Int64} {n : Nat} {kc ko : Nat → Nat} {kv : Nat → Int64} {k b j : Nat} (h : 16 * b + 16 ≤ n ∨ j = 0) (hj : j = k) : al (fun i => cR (ko i) (mn (xb T b (kc i)) 15) (mx (xb T b (kc i)) 15) (kv i)) j = rbk T n kc ko kv k b := by
  subst hj
  unfold rbk
  by_cases hb : b < n / 16
  · rw [if_pos hb]
  · rw [if_neg hb, show j = 0 by omega]; rfl
theorem rbk_part {T : Nat → Nat → Int64} {n : Nat} {kc ko : Nat → Nat} {kv : Nat → Int64} {k b j : Nat} (h : n < 16 * b + 16) (hj : j = 0) : al (fun i => cR (ko i) (mn (xb T b (kc i)) 15) (mx (xb T b (kc i)) 15) (kv i)) j = rbk T n kc ko kv k b := by
  subst hj
  unfold rbk
  rw [if_neg (by omega)]; rfl
theorem wd_stop {x r : Int64} {j : Nat} (h1 : uN r = uN x / 2 ^ j) (h2 : j ≤ wd x) (h3 : r = 0) : wd x = j := by
  subst h3
  have h4 : uN x < 2 ^ j := Nat.lt_of_div_eq_zero (Nat.two_pow_pos j) h1.symm
  have h5 : wd x ≤ j := wN_le.mpr h4
  omega
theorem wd_next {x r : Int64} {j : Nat} (h1 : uN r = uN x / 2 ^ j) (h3 : ¬ r = 0) : j + 1 ≤ wd x := by
  apply Nat.succ_le_of_lt
  apply Nat.lt_of_not_le
  intro h4
  have h5 : uN x < 2 ^ j := wN_le.mp h4
  rw [Nat.div_eq_of_lt h5] at h1
  exact h3 (uN_inj (h1.trans rfl))
/-- what a way needs; the best way among the first -/
def ndz (x : Nat → Int64) (cb w : Nat) : Nat := if w = 0 then 16 * cb else if w = 3 then zO x cb else if w = 1 then zR x cb else zW x cb
def bW (x : Nat → Int64) (cb : Nat) : Nat → Nat
  | 0 => 0
  | k + 1 => if ndz x cb (k + 1) < ndz x cb (bW x cb k) then k + 1 else bW x cb k
theorem bW_le (x : Nat → Int64) (cb : Nat) : ∀ k, bW x cb k ≤ k
  | 0 => Nat.le_refl 0
  | k + 1 => by have := bW_le x cb k; rw [bW]; split <;> omega
theorem ndz_le (x : Nat → Int64) (c w : Nat) : ndz x (cb c) w ≤ 10000 := by
  have h1 := zR_le x c
  have h2 := zW_le x c
  have h3 := zO_le x c
  have h4 := cb_le c
  unfold ndz
  split
  · omega
  · split
    · omega
    · split <;> omega
theorem rns_eq (x : Nat → Int64) : ct (fun j => decide (j = 0) || !decide (x (j - 1) = x j)) 16 = rns x := by
  have key : ∀ m, ct (fun j => decide (j = 0) || !decide (x (j - 1) = x j)) (m + 1) = 1 + ct (fun j => !decide (x (j + 1) = x j)) m := by
    intro m
    induction m with
    | zero => rfl
    | succ m ih =>
      rw [ct, ih, ct]
      have e : (decide (m + 1 = 0) || !decide (x (m + 1 - 1) = x (m + 1))) = !decide (x (m + 1) = x m) := by
        rw [decide_eq_false (by omega), Bool.false_or, show m + 1 - 1 = m by omega]
        by_cases h : x m = x (m + 1)
        · rw [decide_eq_true h, decide_eq_true h.symm]
        · rw [decide_eq_false h, decide_eq_false (fun q => h q.symm)]
      rw [e, Nat.add_assoc]
  exact key 15
theorem wds_eq (x : Nat → Int64) : ct (fun j => al (fun q => !decide (x q = x j)) j) 16 = wds x := by
  unfold wds sb
  exact ct_congr fun j _ => (Bool.not_not _).symm
theorem bW_pck (x : Nat → Int64) (cb : Nat) : bW x cb 3 = (pck x cb).1 ∧ ndz x cb (bW x cb 3) = (pck x cb).2 := by
  have key : ∀ (a : Nat × Nat) (w : Nat), ndz x cb a.1 = a.2 → (if ndz x cb w < ndz x cb a.1 then w else a.1) = (stp a w (ndz x cb w)).1 ∧ ndz x cb (if ndz x cb w < ndz x cb a.1 then w else a.1) = (stp a w (ndz x cb w)).2 := by
    intro a w h
    unfold stp
    rw [h]
    by_cases h1 : ndz x cb w < a.2
    · rw [if_pos h1, if_pos h1]; exact ⟨rfl, rfl⟩
    · rw [if_neg h1, if_neg h1]; exact ⟨rfl, h⟩
  have e1 := key (0, 16 * cb) 1 rfl
  have e2 := key (stp (0, 16 * cb) 1 (ndz x cb 1)) 2 (by rw [← e1.1]; exact e1.2)
  have e3 := key (stp (stp (0, 16 * cb) 1 (ndz x cb 1)) 2 (ndz x cb 2)) 3 (by rw [← e2.1]; exact e2.2)
  have b1 : bW x cb 1 = (stp (0, 16 * cb) 1 (ndz x cb 1)).1 := e1.1
  have b2 : bW x cb 2 = (stp (stp (0, 16 * cb) 1 (ndz x cb 1)) 2 (ndz x cb 2)).1 := by rw [bW, b1]; exact e2.1
  have b3 : bW x cb 3 = (stp (stp (stp (0, 16 * cb) 1 (ndz x cb 1)) 2 (ndz x cb 2)) 3 (ndz x cb 3)).1 := by rw [bW, b2]; exact e3.1
  refine ⟨b3, ?_⟩
  rw [b3, ← e3.1]
  exact e3.2
/-- the bound as the model has it -/
def bR (P : Nat → Bool) (f : Nat → Int64) (d : Bool) : Nat → Int64
  | 0 => if d then -9223372036854775808 else 9223372036854775807
  | r + 1 => if P r && bef d (f r) (bR P f d r) then f r else bR P f d r
theorem bR_t {P : Nat → Bool} {f : Nat → Int64} {d : Bool} {r : Nat} (h1 : P r = true) (h2 : bef d (f r) (bR P f d r) = true) : f r = bR P f d (r + 1) := by rw [bR, if_pos (by rw [h1, h2]; rfl)]
theorem bR_f {P : Nat → Bool} {f : Nat → Int64} {d : Bool} {r : Nat} (_ : P r = true) (h2 : bef d (f r) (bR P f d r) = false) : bR P f d r = bR P f d (r + 1) := by rw [bR, if_neg (by rw [h2, Bool.and_false]; decide)]
theorem bR_n {P : Nat → Bool} {f : Nat → Int64} {d : Bool} {r : Nat} (h1 : P r = false) : bR P f d r = bR P f d (r + 1) := by rw [bR, if_neg (by rw [h1, Bool.false_and]; decide)]
theorem bT_t {d : Bool} {x y : Int64} (hd : d = true) (h : y < x) : bef d x y = true := by rw [hd]; exact bef_Tt h
theorem bT_f {d : Bool} {x y : Int64} (hd : d = true) (h : ¬ y < x) : bef d x y = false := by rw [hd]; exact bef_Tf h
theorem bF_t {d : Bool} {x y : Int64} (hd : d = false) (h : x < y) : bef d x y = true := by rw [hd]; exact bef_Ft h
theorem bF_f {d : Bool} {x y : Int64} (hd : d = false) (h : ¬ x < y) : bef d x y = false := by rw [hd]; exact bef_Ff h
theorem if2 {x y z : Bool} {p : Nat → Bool} {j : Nat} (h1 : (x && al p j) = y) (h2 : p j = z) : (x && al p (j + 1)) = (y && z) := by rw [al, ← Bool.and_assoc, h1, h2]
theorem fo_t {r t : Nat} (h : t = r) : t = if r < t + 1 then r else 0 := by rw [if_pos (by omega)]; exact h
theorem fo_f {r t : Nat} (h : ¬ r = t) : (if r < t then r else 0) = if r < t + 1 then r else 0 := by
  by_cases h1 : r < t
  · rw [if_pos h1, if_pos (by omega)]
  · rw [if_neg h1, if_neg (by omega)]
/-- the best of those for which K holds, beginning with the first -/
def gB (K : Nat → Bool) (f : Nat → Int64) (d : Bool) : Nat → Int64
  | 0 => f 0
  | j + 1 => if K j && bef d (f j) (gB K f d j) then f j else gB K f d j
theorem gB_t {K : Nat → Bool} {f : Nat → Int64} {d : Bool} {j : Nat} (h1 : K j = true) (h2 : bef d (f j) (gB K f d j) = true) : f j = gB K f d (j + 1) := by rw [gB, if_pos (by rw [h1, h2]; rfl)]
theorem gB_f {K : Nat → Bool} {f : Nat → Int64} {d : Bool} {j : Nat} (_ : K j = true) (h2 : bef d (f j) (gB K f d j) = false) : gB K f d j = gB K f d (j + 1) := by rw [gB, if_neg (by rw [h2, Bool.and_false]; decide)]
theorem gB_n {K : Nat → Bool} {f : Nat → Int64} {d : Bool} {j : Nat} (h1 : K j = false) : gB K f d j = gB K f d (j + 1) := by rw [gB, if_neg (by rw [h1, Bool.false_and]; decide)]
theorem sm_y {K : Nat → Bool} {f : Nat → Int64} {j : Nat} (h : K j = true) : sm (fun j => if K j then f j else 0) j + f j = sm (fun j => if K j then f j else 0) (j + 1) := by rw [sm, if_pos h]
theorem sm_n {K : Nat → Bool} {f : Nat → Int64} {j : Nat} (h : K j = false) : sm (fun j => if K j then f j else 0) j = sm (fun j => if K j then f j else 0) (j + 1) := by rw [sm, if_neg (by rw [h]; decide), Int64.add_zero]
theorem pr_n {P : Nat → Bool} {g : Nat → Nat → Bool} {t : Nat} (h : P t = false) : sn (fun t => if P t then ct (g t) t else 0) t + ct (g t) 0 = sn (fun t => if P t then ct (g t) t else 0) (t + 1) := by rw [sn, if_neg (by rw [h]; decide)]; rfl
theorem pr_y {P : Nat → Bool} {g : Nat → Nat → Bool} {t u : Nat} (h : P t = true ∨ u = 0) (hu : u = t) : sn (fun t => if P t then ct (g t) t else 0) t + ct (g t) u = sn (fun t => if P t then ct (g t) t else 0) (t + 1) := by
  subst hu
  rw [sn]
  by_cases e : P u = true
  · rw [if_pos e]
  · rw [if_neg e]
    rcases h with h | h
    · exact absurd h e
    · subst h; rfl
/-- rows not yet gone through stand as they stood -/
theorem pT_row {P : Nat → Bool} {T : Nat → Nat → Int64} : ∀ {r i : Nat}, r ≤ i → pT P T r i = T i
  | 0, i, _ => rfl
  | r + 1, i, h => by
    have ih := pT_row (P := P) (T := T) (r := r) (i := i) (by omega)
    by_cases hP : P r = true
    · rw [pT_t hP, ih]
    · rw [pT_f (by simpa using hP)]
      funext j
      show (if i = r - ct P r ∧ j < 4 then _ else pT P T r i j) = _
      rw [if_neg (by omega), ih]
theorem pT_ch {T : Nat → Nat → Int64} {kc ko : Nat → Nat} {kv : Nat → Int64} {k : Nat} (r : Nat) : ch (pT (ch T kc ko kv k) T r) kc ko kv k r = ch T kc ko kv k r := by
  unfold ch
  rw [show pT (fun r => al (fun i => hO (ko i) (T r (kc i)) (kv i)) k) T r r = T r from pT_row (Nat.le_refl r)]
end PU5
