/-! Pure rows for the walks of the hall: choosing, packing. The rows uN .. uN_sk are from the bits to paste. -/
section PU1
/-! ===== Int64 as an unsigned number: uN x ===== -/
def uN (x : Int64) : Nat := x.toUInt64.toNat
theorem uN_lt (x : Int64) : uN x < 18446744073709551616 := x.toUInt64.toNat_lt
theorem uN_inj {x y : Int64} (h : uN x = uN y) : x = y := congrArg UInt64.toInt64 (UInt64.toNat_inj.mp h)
theorem uN_shr (x : Int64) (s : UInt64) : uN (x.toUInt64 >>> s).toInt64 = uN x / 2 ^ (s.toNat % 64) := by
  show (x.toUInt64 >>> s).toNat = _
  rw [UInt64.toNat_shiftRight, Nat.shiftRight_eq_div_pow]
  rfl
theorem uN_sk (x : Int64) {k : Nat} (hk : k < 64) : uN (x.toUInt64 >>> ((nI k).toInt64.toUInt64 &&& Int64.toUInt64 63)).toInt64 = uN x / 2 ^ k := by
  have h : ((nI k).toInt64.toUInt64 &&& Int64.toUInt64 63).toNat % 64 = k := by
    rw [nI_l (by omega), UInt64.toNat_and]
    have e : (lN k).toUInt64.toNat = k % 2 ^ 64 := rfl
    have e2 : (Int64.toUInt64 63).toNat = 2 ^ 6 - 1 := by decide
    rw [e, e2, Nat.and_two_pow_sub_one_eq_mod]
    omega
  rw [uN_shr, h]
theorem al_s {p : Nat → Bool} {j : Nat} (h1 : al p j = true) (h2 : p j = true) : al p (j + 1) = true := by rw [al, h1, h2]; rfl
theorem ct_t {p : Nat → Bool} {j : Nat} (h : p j = true) : ct p (j + 1) = ct p j + 1 := by rw [ct, if_pos h]
theorem ct_f {p : Nat → Bool} {j : Nat} (h : p j = false) : ct p (j + 1) = ct p j := by rw [ct, if_neg (by rw [h]; decide)]; rfl
theorem nd_t {x y : Int64} (h : x = y) : (!decide (x = y)) = false := by rw [decide_eq_true h]; rfl
theorem nd_f {x y : Int64} (h : ¬ x = y) : (!decide (x = y)) = true := by rw [decide_eq_false h]; rfl
/-- q lists the rows below r for which P holds, by rising numbers -/
def En (q : Nat → Nat) (P : Nat → Bool) (r : Nat) : Prop := ∀ t, t < r → P t = true → q (ct P t) = t
theorem en_0 (q : Nat → Nat) (P : Nat → Bool) : En q P 0 := fun t h => by omega
theorem en_t {q : Nat → Nat} {P : Nat → Bool} {r : Nat} (h : En q P r) (hP : P r = true) : En (fS q (ct P r) r) P (r + 1) := by
  intro t ht hPt
  rcases Nat.lt_succ_iff_lt_or_eq.mp ht with h1 | h1
  · have h2 := ct_mono P (show t + 1 ≤ r by omega)
    rw [ct_t hPt] at h2
    rw [fS_n (by omega)]
    exact h t h1 hPt
  · subst h1; exact fS_s
theorem en_f {q : Nat → Nat} {P : Nat → Bool} {r : Nat} (h : En q P r) (hP : P r = false) : En q P (r + 1) := by
  intro t ht hPt
  rcases Nat.lt_succ_iff_lt_or_eq.mp ht with h1 | h1
  · exact h t h1 hPt
  · subst h1; rw [hP] at hPt; cases hPt
theorem en_none {q : Nat → Nat} {P : Nat → Bool} {a b : Nat} (h : En q P a) (hn : ∀ j, a ≤ j → j < b → P j = false) : En q P b := by
  intro t ht hPt
  by_cases h1 : t < a
  · exact h t h1 hPt
  · rw [hn t (by omega) ht] at hPt; cases hPt
/-- the conditions are such; the full blocks' least and greatest bound their cells -/
def iK (kc ko : Nat → Nat) (k : Nat) : Prop := k ≤ 3 ∧ (∀ j, kc j < 4) ∧ (∀ j, ko j < 6)
def iB (T : Nat → Nat → Int64) (n : Nat) (lo hi : Nat → Int64) : Prop := ∀ b c j, b < n / 16 → c < 4 → j < 16 → ¬ T (16 * b + j) c < lo (b * 4 + c) ∧ ¬ hi (b * 4 + c) < T (16 * b + j) c
/-- block b is passed over -/
def po (n : Nat) (kc ko : Nat → Nat) (kv : Nat → Int64) (k : Nat) (lo hi : Nat → Int64) (b : Nat) : Bool := decide (b < n / 16) && !al (fun i => cH (ko i) (kv i) (lo (b * 4 + kc i)) (hi (b * 4 + kc i))) k
theorem po_ge {n : Nat} {kc ko : Nat → Nat} {kv : Nat → Int64} {k : Nat} {lo hi : Nat → Int64} {b : Nat} (h : n / 16 ≤ b) : po n kc ko kv k lo hi b = false := by
  rw [po, decide_eq_false (by omega)]; rfl
theorem po_lt {n : Nat} {kc ko : Nat → Nat} {kv : Nat → Int64} {k : Nat} {lo hi : Nat → Int64} {b : Nat} (h : b < n / 16) : po n kc ko kv k lo hi b = !al (fun i => cH (ko i) (kv i) (lo (b * 4 + kc i)) (hi (b * 4 + kc i))) k := by
  rw [po, decide_eq_true h]; rfl
theorem cH_wide {op : Nat} {v x lo hi : Int64} (h1 : ¬ x < lo) (h2 : ¬ hi < x) (h : hO op x v = true) : cH op v lo hi = true := by
  rw [Int64.lt_iff_toInt_lt] at h1 h2
  unfold hO at h
  unfold cH
  by_cases h0 : op = 0
  · simp only [h0, if_true, decide_eq_true_eq, Int64.lt_iff_toInt_lt] at h ⊢; omega
  by_cases h3 : op = 1
  · simp [h3, Int64.le_iff_toInt_le] at h ⊢; omega
  by_cases h4 : op = 2
  · simp [h4, Int64.le_iff_toInt_le] at h ⊢; subst h; omega
  by_cases h5 : op = 3
  · simp [h5, Int64.le_iff_toInt_le] at h ⊢; omega
  by_cases h6 : op = 4
  · simp [h6, Int64.lt_iff_toInt_lt] at h ⊢; omega
  · simp [h0, h3, h4, h5, h6] at h ⊢
    by_cases e : lo = v
    · right
      intro e2
      subst e; subst e2
      exact h (Int64.toInt_inj.mp (by omega))
    · exact Or.inl e
/-- a block that is passed over has no chosen row -/
theorem po_none {T : Nat → Nat → Int64} {n : Nat} {kc ko : Nat → Nat} {kv : Nat → Int64} {k : Nat} {lo hi : Nat → Int64} {b : Nat} (hB : iB T n lo hi) (hkc : ∀ j, kc j < 4) (h : po n kc ko kv k lo hi b = true) : ∀ j, b * 16 ≤ j → j < b * 16 + 16 → ch T kc ko kv k j = false := by
  intro j h1 h2
  unfold po at h
  rw [Bool.and_eq_true, Bool.not_eq_true'] at h
  obtain ⟨hb, ha⟩ := h
  have hb := of_decide_eq_true hb
  cases e : ch T kc ko kv k j
  · rfl
  · exfalso
    have hall : al (fun i => cH (ko i) (kv i) (lo (b * 4 + kc i)) (hi (b * 4 + kc i))) k = true := by
      rw [al_iff]
      intro i hi
      have e1 := (al_iff (p := fun i => hO (ko i) (T j (kc i)) (kv i))).mp e i hi
      have e2 := hB b (kc i) (j - b * 16) hb (hkc i) (by omega)
      rw [show 16 * b + (j - b * 16) = j by omega] at e2
      exact cH_wide e2.1 e2.2 e1
    rw [hall] at ha
    cases ha
theorem po_full {n : Nat} {kc ko : Nat → Nat} {kv : Nat → Int64} {k : Nat} {lo hi : Nat → Int64} {b : Nat} (h : po n kc ko kv k lo hi b = true) : b < n / 16 := by
  unfold po at h
  rw [Bool.and_eq_true] at h
  exact of_decide_eq_true h.1
/-- how many binary figures -/
def wN (m : Nat) : Nat := if m = 0 then 0 else Nat.log2 m + 1
def wd (x : Int64) : Nat := wN (uN x)
theorem wN_le {m w : Nat} : wN m ≤ w ↔ m < 2 ^ w := by
  unfold wN
  by_cases h : m = 0
  · subst h; simp [Nat.two_pow_pos]
  · rw [if_neg h, Nat.succ_le_iff, Nat.log2_lt h]
theorem wd_le64 (x : Int64) : wd x ≤ 64 := wN_le.mpr (uN_lt x)
theorem wd_sh (x : Int64) {w : Nat} (hw : w < 64) : (x.toUInt64 >>> ((nI w).toInt64.toUInt64 &&& Int64.toUInt64 63)).toInt64 = 0 ↔ wd x ≤ w := by
  rw [wd, wN_le]
  constructor
  · intro h
    have h1 := uN_sk x hw
    rw [h] at h1
    have h2 : uN 0 = 0 := rfl
    rw [h2] at h1
    exact Nat.lt_of_div_eq_zero (Nat.two_pow_pos w) h1.symm
  · intro h
    apply uN_inj
    rw [uN_sk x hw, Nat.div_eq_of_lt h]
    rfl
/-- the 16 cells of a column of a block; the least, the greatest; the ways -/
def xb (T : Nat → Nat → Int64) (b c : Nat) : Nat → Int64 := fun j => T (16 * b + j) c
def mn (x : Nat → Int64) : Nat → Int64
  | 0 => x 0
  | j + 1 => if x (j + 1) < mn x j then x (j + 1) else mn x j
def mx (x : Nat → Int64) : Nat → Int64
  | 0 => x 0
  | j + 1 => if x (j + 1) < mx x j then mx x j else x (j + 1)
def sb (x : Nat → Int64) (a : Nat) : Bool := !al (fun i => !decide (x i = x a)) a
def wds (x : Nat → Int64) : Nat := ct (fun j => !sb x j) 16
def rns (x : Nat → Int64) : Nat := 1 + ct (fun j => !decide (x (j + 1) = x j)) 15
def cb (c : Nat) : Nat := if c = 3 then 64 else 32
def stp (a : Nat × Nat) (w z : Nat) : Nat × Nat := if z < a.2 then (w, z) else a
def zR (x : Nat → Int64) (cb : Nat) : Nat := rns x * (cb + 5)
def zW (x : Nat → Int64) (cb : Nat) : Nat := wds x * cb + 16 * wd (lN (wds x - 1))
def zO (x : Nat → Int64) (cb : Nat) : Nat := cb + 7 + 16 * wd (mx x 15 - mn x 15)
def pck (x : Nat → Int64) (cb : Nat) : Nat × Nat := stp (stp (stp (0, 16 * cb) 1 (zR x cb)) 2 (zW x cb)) 3 (zO x cb)
theorem fS_fS {α : Type} (f : Nat → α) (p : Nat) (a b : α) : fS (fS f p a) p b = fS f p b := by
  funext j
  by_cases h : j = p <;> simp [fS, h]
theorem rns_le (x : Nat → Int64) : rns x ≤ 16 := by have := ct_le (fun j => !decide (x (j + 1) = x j)) 15; unfold rns; omega
theorem wds_le (x : Nat → Int64) : wds x ≤ 16 := ct_le _ 16
theorem wds_pos (x : Nat → Int64) : 1 ≤ wds x := by
  have h1 : ct (fun j => !sb x j) 1 = 1 := rfl
  have h2 := ct_mono (fun j => !sb x j) (show 1 ≤ 16 by omega)
  rw [h1] at h2
  exact h2
theorem cb_le (c : Nat) : cb c ≤ 64 := by unfold cb; split <;> omega
theorem zR_le (x : Nat → Int64) (c : Nat) : zR x (cb c) ≤ 16 * 69 := Nat.mul_le_mul (rns_le x) (by have := cb_le c; omega)
theorem zW_le (x : Nat → Int64) (c : Nat) : zW x (cb c) ≤ 16 * 64 + 16 * 64 := by
  have h1 := Nat.mul_le_mul (wds_le x) (cb_le c)
  have h2 := wd_le64 (lN (wds x - 1))
  unfold zW
  omega
theorem zO_le (x : Nat → Int64) (c : Nat) : zO x (cb c) ≤ 71 + 16 * 64 := by
  have h1 := cb_le c
  have h2 := wd_le64 (mx x 15 - mn x 15)
  unfold zO
  omega
theorem stp_le {a : Nat × Nat} {w z M : Nat} (h : a.2 ≤ M) : (stp a w z).2 ≤ M := by
  unfold stp
  split
  · show z ≤ M; omega
  · exact h
/-- what is known of column c of block b -/
def Pk (T : Nat → Nat → Int64) (b c : Nat) (lo hi : Nat → Int64) (bw bb : Nat → Nat) : Prop := lo (b * 4 + c) = mn (xb T b c) 15 ∧ hi (b * 4 + c) = mx (xb T b c) 15 ∧ bw (b * 4 + c) = (pck (xb T b c) (cb c)).1 ∧ bb (b * 4 + c) = (pck (xb T b c) (cb c)).2
theorem mn_le (x : Nat → Int64) {d j : Nat} (h : j ≤ d) : ¬ x j < mn x d := by
  induction d with
  | zero => rw [Nat.le_zero.mp h]; exact Int64.lt_irrefl
  | succ d ih =>
    rw [mn]
    rcases Nat.lt_succ_iff_lt_or_eq.mp (Nat.lt_succ_of_le h) with h1 | h1
    · have h2 := ih (by omega)
      split
      · intro h3
        exact h2 (Int64.lt_trans h3 (by assumption))
      · exact h2
    · subst h1
      split
      · exact Int64.lt_irrefl
      · assumption
theorem mx_ge (x : Nat → Int64) {d j : Nat} (h : j ≤ d) : ¬ mx x d < x j := by
  induction d with
  | zero => rw [Nat.le_zero.mp h]; exact Int64.lt_irrefl
  | succ d ih =>
    rw [mx]
    rcases Nat.lt_succ_iff_lt_or_eq.mp (Nat.lt_succ_of_le h) with h1 | h1
    · have h2 := ih (by omega)
      split
      · exact h2
      · rename_i h4
        intro h3
        rw [Int64.not_lt] at h4 h2
        exact Int64.lt_irrefl (Int64.lt_of_lt_of_le h3 (Int64.le_trans h2 h4))
    · subst h1
      split
      · rename_i h4
        exact Int64.lt_asymm h4
      · exact Int64.lt_irrefl
theorem iB_of {T : Nat → Nat → Int64} {n : Nat} {lo hi : Nat → Int64} {bw bb : Nat → Nat} (h : ∀ b c, b < n / 16 → c < 4 → Pk T b c lo hi bw bb) : iB T n lo hi := by
  intro b c j hb hc hj
  obtain ⟨h1, h2, -⟩ := h b c hb hc
  rw [h1, h2]
  exact ⟨mn_le (xb T b c) (show j ≤ 15 by omega), mx_ge (xb T b c) (show j ≤ 15 by omega)⟩
theorem nI_min {a b : Nat} (ha : a < 2 ^ 31) (hb : b < 2 ^ 31) : (if nI b < nI a then nI b else nI a) = nI (min a b) := by
  by_cases h : b < a
  · rw [if_pos ((nI_ltI hb ha).mpr h), Nat.min_eq_right (by omega)]
  · rw [if_neg (fun q => h ((nI_ltI hb ha).mp q)), Nat.min_eq_left (by omega)]
theorem o6 {o : Nat} (h : o < 6) : o = 0 ∨ o = 1 ∨ o = 2 ∨ o = 3 ∨ o = 4 ∨ o = 5 := by omega
theorem qk_s {T : Nat → Nat → Int64} {b c : Nat} {lo hi : Nat → Int64} {bw bb : Nat → Nat} (h : ∀ d, d < c → Pk T b d lo hi bw bb) : ∀ d, d < c + 1 → Pk T b d (fS lo (b * 4 + c) (mn (xb T b c) 15)) (fS hi (b * 4 + c) (mx (xb T b c) 15)) (fS bw (b * 4 + c) (pck (xb T b c) (cb c)).1) (fS bb (b * 4 + c) (pck (xb T b c) (cb c)).2) := by
  intro d hd
  rcases Nat.lt_succ_iff_lt_or_eq.mp hd with h1 | h1
  · obtain ⟨e1, e2, e3, e4⟩ := h d h1
    have hne : b * 4 + d ≠ b * 4 + c := by omega
    exact ⟨by rw [fS_n hne]; exact e1, by rw [fS_n hne]; exact e2, by rw [fS_n hne]; exact e3, by rw [fS_n hne]; exact e4⟩
  · subst h1
    exact ⟨fS_s, fS_s, fS_s, fS_s⟩
theorem qu_s {lo lo' hi hi' : Nat → Int64} {bw bw' bb bb' : Nat → Nat} {i p w z : Nat} {x y : Int64} (h : lo' i = lo i ∧ hi' i = hi i ∧ bw' i = bw i ∧ bb' i = bb i) (hp : i ≠ p) : fS lo' p x i = lo i ∧ fS hi' p y i = hi i ∧ fS bw' p w i = bw i ∧ fS bb' p z i = bb i :=
  ⟨by rw [fS_n hp]; exact h.1, by rw [fS_n hp]; exact h.2.1, by rw [fS_n hp]; exact h.2.2.1, by rw [fS_n hp]; exact h.2.2.2⟩
theorem qk_b {T : Nat → Nat → Int64} {b : Nat} {lo hi lo' hi' : Nat → Int64} {bw bb bw' bb' : Nat → Nat} (h : ∀ a c, a < b → c < 4 → Pk T a c lo hi bw bb) (h1 : ∀ c, c < 4 → Pk T b c lo' hi' bw' bb') (h2 : ∀ i, (i < b * 4 ∨ b * 4 + 4 ≤ i) → lo' i = lo i ∧ hi' i = hi i ∧ bw' i = bw i ∧ bb' i = bb i) : ∀ a c, a < b + 1 → c < 4 → Pk T a c lo' hi' bw' bb' := by
  intro a c ha hc
  rcases Nat.lt_succ_iff_lt_or_eq.mp ha with h3 | h3
  · obtain ⟨e1, e2, e3, e4⟩ := h a c h3 hc
    obtain ⟨f1, f2, f3, f4⟩ := h2 (a * 4 + c) (by omega)
    exact ⟨f1.trans e1, f2.trans e2, f3.trans e3, f4.trans e4⟩
  · subst h3
    exact h1 c hc
/-- a row moved -/
def mvR (T : Nat → Nat → Int64) (a b d : Nat) : Nat → Nat → Int64 := fun i j => if i = b ∧ j < d then T a j else T i j
theorem mvR_0 (T : Nat → Nat → Int64) (a b : Nat) : mvR T a b 0 = T := by
  funext i j
  simp [mvR]
theorem mvR_s (T : Nat → Nat → Int64) (a b d : Nat) : tS (mvR T a b d) b d (mvR T a b d a d) = mvR T a b (d + 1) := by
  have e : mvR T a b d a d = T a d := by simp [mvR]
  rw [e]
  funext i j
  by_cases h1 : i = b
  · subst h1
    by_cases h2 : j = d
    · subst h2; simp [tS, mvR]
    · by_cases h3 : j < d
      · simp [tS, mvR, h2, h3, Nat.lt_succ_of_lt h3]
      · simp [tS, mvR, h2, h3, show ¬ j < d + 1 by omega]
  · simp [tS, mvR, h1]
end PU1
