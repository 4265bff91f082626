/-! Pure rows: lists of rows, sorting by insertion, ranks. -/
section PU2
theorem en_inv {q : Nat → Nat} {P : Nat → Bool} : ∀ {n : Nat}, En q P n → ∀ j, j < ct P n → q j < n ∧ P (q j) = true ∧ ct P (q j) = j
  | 0, _, j, hj => by exact absurd hj (Nat.not_lt_zero j)
  | n + 1, h, j, hj => by
    have h0 : En q P n := fun t ht => h t (by omega)
    by_cases hP : P n = true
    · rw [ct_t hP] at hj
      by_cases hj2 : j < ct P n
      · obtain ⟨a, b, c⟩ := en_inv h0 j hj2
        exact ⟨by omega, b, c⟩
      · have hj3 : j = ct P n := by omega
        have e := h n (by omega) hP
        subst hj3
        rw [e]
        exact ⟨by omega, hP, rfl⟩
    · rw [ct_f (by simpa using hP)] at hj
      obtain ⟨a, b, c⟩ := en_inv h0 j hj
      exact ⟨by omega, b, c⟩
theorem en_up {q : Nat → Nat} {P : Nat → Bool} {n : Nat} (h : En q P n) {i j : Nat} (hij : i < j) (hj : j < ct P n) : q i < q j := by
  obtain ⟨-, b1, c1⟩ := en_inv h i (by omega)
  obtain ⟨-, -, c2⟩ := en_inv h j hj
  apply Classical.byContradiction
  intro hn
  have h1 := ct_mono P (show q j ≤ q i by omega)
  omega
theorem ct_tr {q : Nat → Nat} {P : Nat → Bool} {n : Nat} (h : En q P n) (g : Nat → Bool) : ∀ {r : Nat}, r ≤ n → ct (fun t => P t && g t) r = ct (fun j => g (q j)) (ct P r)
  | 0, _ => rfl
  | r + 1, hr => by
    have ih := ct_tr h g (r := r) (by omega)
    by_cases hP : P r = true
    · have e := h r (by omega) hP
      rw [ct_t hP, ct, ct, ih, hP, e]
      rfl
    · have hP2 : P r = false := by simpa using hP
      rw [ct_f hP2, ct, ih, hP2]
      rfl
theorem sm_tr {q : Nat → Nat} {P : Nat → Bool} {n : Nat} (h : En q P n) (f : Nat → Int64) : ∀ {r : Nat}, r ≤ n → sm (fun t => if P t then f t else 0) r = sm (fun j => f (q j)) (ct P r)
  | 0, _ => rfl
  | r + 1, hr => by
    have ih := sm_tr h f (r := r) (by omega)
    by_cases hP : P r = true
    · have e := h r (by omega) hP
      rw [ct_t hP, sm, sm, ih, if_pos hP, e]
    · have hP2 : P r = false := by simpa using hP
      rw [ct_f hP2, sm, ih, if_neg hP, Int64.add_zero]
/-- which cell comes before; which row -/
def bef (d : Bool) (x y : Int64) : Bool := if d then decide (y < x) else decide (x < y)
def bfb (T : Nat → Nat → Int64) (c : Nat) (d : Bool) (a b : Nat) : Bool := bef d (T a c) (T b c) || (decide (T a c = T b c) && decide (a < b))
theorem bef_tr {d : Bool} {x y z : Int64} (h1 : bef d x y = true) (h2 : bef d y z = true) : bef d x z = true := by
  cases d
  · simp only [bef, Bool.false_eq_true, if_false, decide_eq_true_eq, Int64.lt_iff_toInt_lt] at h1 h2 ⊢; omega
  · simp only [bef, if_true, decide_eq_true_eq, Int64.lt_iff_toInt_lt] at h1 h2 ⊢; omega
theorem bef_irr (d : Bool) (x : Int64) : bef d x x = false := by cases d <;> simp [bef]
theorem bef_tri (d : Bool) (x y : Int64) : bef d x y = true ∨ x = y ∨ bef d y x = true := by
  cases d
  · simp only [bef, Bool.false_eq_true, if_false, decide_eq_true_eq, Int64.lt_iff_toInt_lt, ← Int64.toInt_inj]; omega
  · simp only [bef, if_true, decide_eq_true_eq, Int64.lt_iff_toInt_lt, ← Int64.toInt_inj]; omega
theorem bfb_iff {T : Nat → Nat → Int64} {c : Nat} {d : Bool} {a b : Nat} : bfb T c d a b = true ↔ (bef d (T a c) (T b c) = true ∨ (T a c = T b c ∧ a < b)) := by
  simp [bfb]
theorem bfb_tr {T : Nat → Nat → Int64} {c : Nat} {d : Bool} {x y z : Nat} (h1 : bfb T c d x y = true) (h2 : bfb T c d y z = true) : bfb T c d x z = true := by
  rw [bfb_iff] at h1 h2 ⊢
  rcases h1 with h1 | ⟨e1, h1⟩ <;> rcases h2 with h2 | ⟨e2, h2⟩
  · exact Or.inl (bef_tr h1 h2)
  · exact Or.inl (by rw [← e2]; exact h1)
  · exact Or.inl (by rw [e1]; exact h2)
  · exact Or.inr ⟨e1.trans e2, by omega⟩
theorem bfb_irr {T : Nat → Nat → Int64} {c : Nat} {d : Bool} {x : Nat} : bfb T c d x x = false := by
  cases e : bfb T c d x x
  · rfl
  · rw [bfb_iff, bef_irr] at e
    rcases e with e | ⟨-, e⟩
    · cases e
    · omega
theorem bfb_asym {T : Nat → Nat → Int64} {c : Nat} {d : Bool} {x y : Nat} (h : bfb T c d x y = true) : bfb T c d y x = false := by
  cases e : bfb T c d y x
  · rfl
  · have := bfb_tr h e
    rw [bfb_irr] at this
    cases this
/-- the row at i put at h, what stood there moved up; the same while the hole is at h -/
def iA (f : Nat → Nat) (h i : Nat) : Nat → Nat := fun j => if j = h then f i else if h < j ∧ j ≤ i then f (j - 1) else f j
def hA (f : Nat → Nat) (h i : Nat) : Nat → Nat := fun j => if h < j ∧ j ≤ i then f (j - 1) else f j
theorem hA_0 (f : Nat → Nat) (i : Nat) : hA f i i = f := by
  funext j
  unfold hA
  rw [if_neg (by omega)]
theorem hA_at {f : Nat → Nat} {h i j : Nat} (hj : j ≤ h) : hA f h i j = f j := by
  unfold hA
  rw [if_neg (by omega)]
theorem hA_s (f : Nat → Nat) {h i : Nat} (h0 : 0 < h) (hi : h ≤ i) : fS (hA f h i) h (f (h - 1)) = hA f (h - 1) i := by
  funext j
  by_cases hj : j = h
  · subst hj
    rw [fS_s]
    unfold hA
    rw [if_pos (by omega)]
  · rw [fS_n hj]
    unfold hA
    by_cases h1 : h < j ∧ j ≤ i
    · rw [if_pos h1, if_pos (by omega)]
    · rw [if_neg h1, if_neg (by omega)]
theorem hA_f (f : Nat → Nat) (h i : Nat) : fS (hA f h i) h (f i) = iA f h i := by
  funext j
  by_cases hj : j = h
  · subst hj
    rw [fS_s]
    unfold iA
    rw [if_pos rfl]
  · rw [fS_n hj]
    unfold iA hA
    rw [if_neg hj]
/-- the same rows, in another order -/
def Pm (q p : Nat → Nat) (m : Nat) : Prop := (∀ g : Nat → Bool, ct (fun j => g (q j)) m = ct (fun j => g (p j)) m) ∧ (∀ f : Nat → Int64, sm (fun j => f (q j)) m = sm (fun j => f (p j)) m)
theorem Pm.rf (q : Nat → Nat) (m : Nat) : Pm q q m := ⟨fun _ => rfl, fun _ => rfl⟩
theorem Pm.tr {q p o : Nat → Nat} {m : Nat} (h1 : Pm q p m) (h2 : Pm p o m) : Pm q o m := ⟨fun g => (h1.1 g).trans (h2.1 g), fun f => (h1.2 f).trans (h2.2 f)⟩
def swp {α : Type} (F : Nat → α) (a : Nat) : Nat → α := fun j => if j = a then F (a + 1) else if j = a + 1 then F a else F j
theorem sm_congr {f g : Nat → Int64} {n : Nat} (h : ∀ j, j < n → f j = g j) : sm f n = sm g n := by
  induction n with
  | zero => rfl
  | succ n ih => rw [sm, sm, ih (fun j hj => h j (by omega)), h n (by omega)]
theorem ct_swp (p : Nat → Bool) (a : Nat) : ∀ {m : Nat}, a + 1 < m → ct (swp p a) m = ct p m := by
  intro m
  induction m with
  | zero => intro h; omega
  | succ m ih =>
    intro h
    by_cases h1 : a + 1 < m
    · rw [ct, ct, ih h1, show swp p a m = p m by unfold swp; rw [if_neg (by omega), if_neg (by omega)]]
    · have hm : m = a + 1 := by omega
      subst hm
      have e1 : ct (swp p a) a = ct p a := ct_congr fun j hj => by unfold swp; rw [if_neg (by omega), if_neg (by omega)]
      have e2 : swp p a a = p (a + 1) := by unfold swp; rw [if_pos rfl]
      have e3 : swp p a (a + 1) = p a := by unfold swp; rw [if_neg (by omega), if_pos rfl]
      rw [ct, ct, ct, ct, e1, e2, e3]
      omega
theorem sm_swp (p : Nat → Int64) (a : Nat) : ∀ {m : Nat}, a + 1 < m → sm (swp p a) m = sm p m := by
  intro m
  induction m with
  | zero => intro h; omega
  | succ m ih =>
    intro h
    by_cases h1 : a + 1 < m
    · rw [sm, sm, ih h1, show swp p a m = p m by unfold swp; rw [if_neg (by omega), if_neg (by omega)]]
    · have hm : m = a + 1 := by omega
      subst hm
      have e1 : sm (swp p a) a = sm p a := sm_congr fun j hj => by unfold swp; rw [if_neg (by omega), if_neg (by omega)]
      have e2 : swp p a a = p (a + 1) := by unfold swp; rw [if_pos rfl]
      have e3 : swp p a (a + 1) = p a := by unfold swp; rw [if_neg (by omega), if_pos rfl]
      rw [sm, sm, sm, sm, e1, e2, e3, Int64.add_assoc, Int64.add_assoc, Int64.add_comm (p a)]
theorem pm_sw (q : Nat → Nat) {a m : Nat} (h : a + 1 < m) : Pm (swp q a) q m := by
  refine ⟨fun g => ?_, fun f => ?_⟩
  · have e : (fun j => g (swp q a j)) = swp (fun j => g (q j)) a := by
      funext j; unfold swp; split <;> (try split) <;> rfl
    rw [e, ct_swp _ a h]
  · have e : (fun j => f (swp q a j)) = swp (fun j => f (q j)) a := by
      funext j; unfold swp; split <;> (try split) <;> rfl
    rw [e, sm_swp _ a h]
theorem iA_i (f : Nat → Nat) (i : Nat) : iA f i i = f := by
  funext j
  unfold iA
  by_cases h : j = i
  · rw [if_pos h, h]
  · rw [if_neg h, if_neg (by omega)]
theorem iA_s (f : Nat → Nat) {h i : Nat} (hi : h < i) : iA f h i = swp (iA f (h + 1) i) h := by
  funext j
  unfold swp
  by_cases h1 : j = h
  · subst h1
    rw [if_pos rfl]
    unfold iA
    rw [if_pos rfl, if_pos rfl]
  · rw [if_neg h1]
    by_cases h2 : j = h + 1
    · subst h2
      rw [if_pos rfl]
      unfold iA
      rw [if_neg (by omega), if_pos (by omega), if_neg (by omega), if_neg (by omega)]
      rfl
    · rw [if_neg h2]
      unfold iA
      rw [if_neg h1, if_neg h2]
      by_cases h3 : h < j ∧ j ≤ i
      · rw [if_pos h3, if_pos (by omega)]
      · rw [if_neg h3, if_neg (by omega)]
theorem pm_iA (f : Nat → Nat) {i m : Nat} (hm : i < m) : ∀ (t h : Nat), h + t = i → Pm (iA f h i) f m
  | 0, h, e => by rw [show h = i by omega, iA_i]; exact Pm.rf f m
  | t + 1, h, e => by
    rw [iA_s f (by omega)]
    exact (pm_sw _ (by omega)).tr (pm_iA f hm t (h + 1) (by omega))
/-- sorted -/
def Sd (T : Nat → Nat → Int64) (c : Nat) (d : Bool) (q : Nat → Nat) (m : Nat) : Prop := ∀ i j, i < j → j < m → bfb T c d (q i) (q j) = true
theorem Sd.ins {T : Nat → Nat → Int64} {c : Nat} {d : Bool} {q : Nat → Nat} {h i : Nat} (hs : Sd T c d q i) (hi : h ≤ i) (hx : h = 0 ∨ bef d (T (q i) c) (T (q (h - 1)) c) = false) (hm : ∀ j, h ≤ j → j < i → bef d (T (q i) c) (T (q j) c) = true) (hlt : ∀ j, j < i → q j < q i) : Sd T c d (iA q h i) (i + 1) := by
  have X : ∀ a, a < h → bfb T c d (q a) (q i) = true := by
    intro a ha
    rcases hx with hx | hx
    · omega
    · have h1 : bfb T c d (q (h - 1)) (q i) = true := by
        rw [bfb_iff]
        rcases bef_tri d (T (q i) c) (T (q (h - 1)) c) with e | e | e
        · rw [hx] at e; cases e
        · exact Or.inr ⟨e.symm, hlt _ (by omega)⟩
        · exact Or.inl e
      by_cases h2 : a = h - 1
      · rw [h2]; exact h1
      · exact bfb_tr (hs a (h - 1) (by omega) (by omega)) h1
  intro a b hab hb
  unfold iA
  by_cases hb1 : b = h
  · rw [if_neg (show ¬ a = h by omega), if_neg (show ¬ (h < a ∧ a ≤ i) by omega), if_pos hb1]
    exact X a (by omega)
  · rw [if_neg hb1]
    by_cases hb2 : h < b ∧ b ≤ i
    · rw [if_pos hb2]
      by_cases ha1 : a = h
      · rw [if_pos ha1, bfb_iff]
        exact Or.inl (hm (b - 1) (by omega) (by omega))
      · rw [if_neg ha1]
        by_cases ha2 : h < a ∧ a ≤ i
        · rw [if_pos ha2]; exact hs (a - 1) (b - 1) (by omega) (by omega)
        · rw [if_neg ha2]; exact hs a (b - 1) (by omega) (by omega)
    · rw [if_neg hb2, if_neg (show ¬ a = h by omega), if_neg (show ¬ (h < a ∧ a ≤ i) by omega)]
      exact hs a b hab (by omega)
theorem iA_lt {q : Nat → Nat} {h i j t : Nat} (hj : j < i + 1) (hlt : ∀ j, j < i → q j < t) (ht : q i < t) : iA q h i j < t := by
  unfold iA
  split
  · exact ht
  · split
    · exact hlt _ (by omega)
    · by_cases e : j = i
      · rw [e]; exact ht
      · exact hlt _ (by omega)
theorem iA_ge {q : Nat → Nat} {h i j : Nat} (hi : h ≤ i) (hj : i < j) : iA q h i j = q j := by
  unfold iA
  rw [if_neg (by omega), if_neg (by omega)]
theorem ct_all {p : Nat → Bool} {n : Nat} (h : ∀ j, j < n → p j = true) : ct p n = n := by
  induction n with
  | zero => rfl
  | succ n ih => rw [ct_t (h n (by omega)), ih fun j hj => h j (by omega)]
/-- a row's rank in a sorted list -/
theorem Sd.rank {T : Nat → Nat → Int64} {c : Nat} {d : Bool} {q : Nat → Nat} {m k : Nat} (hs : Sd T c d q m) (hk : k < m) : ct (fun j => bfb T c d (q j) (q k)) m = k := by
  rw [ct_none (a := k) (by omega) (fun j h1 h2 => ?_), ct_all fun j hj => hs j k hj hk]
  by_cases e : j = k
  · show bfb T c d (q j) (q k) = false
    rw [e]; exact bfb_irr
  · exact bfb_asym (hs k j (by omega) h2)
theorem ct_pos {p : Nat → Bool} : ∀ {n : Nat}, 0 < ct p n → ∃ j, j < n ∧ p j = true
  | 0, h => absurd h (Nat.not_lt_zero 0)
  | n + 1, h => by
    by_cases hp : p n = true
    · exact ⟨n, by omega, hp⟩
    · rw [ct_f (by simpa using hp)] at h
      obtain ⟨j, h1, h2⟩ := ct_pos h
      exact ⟨j, by omega, h2⟩
theorem pos_ct {p : Nat → Bool} {n j : Nat} (hj : j < n) (hp : p j = true) : 0 < ct p n := by
  have h1 := ct_mono p (show j + 1 ≤ n by omega)
  rw [ct_t hp] at h1
  omega
/-- what the one list holds the other holds -/
theorem Pm.mem {q p : Nat → Nat} {m : Nat} (h : Pm q p m) {j : Nat} (hj : j < m) : ∃ i, i < m ∧ q i = p j := by
  have h1 := h.1 (fun x => decide (x = p j))
  have h2 : 0 < ct (fun i => decide (q i = p j)) m := by
    rw [h1]
    exact pos_ct hj (decide_eq_true rfl)
  obtain ⟨i, h3, h4⟩ := ct_pos h2
  exact ⟨i, h3, of_decide_eq_true h4⟩
theorem Pm.sym {q p : Nat → Nat} {m : Nat} (h : Pm q p m) : Pm p q m := ⟨fun g => (h.1 g).symm, fun f => (h.2 f).symm⟩
end PU2
