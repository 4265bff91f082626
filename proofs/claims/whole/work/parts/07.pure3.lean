/-! Pure rows: groups of a sorted list, and the same said of the rows themselves. -/
section PU3
/-- a group begins at i; row r is the first of its group -/
def sg (T : Nat → Nat → Int64) (c : Nat) (q : Nat → Nat) (i : Nat) : Bool := decide (i = 0) || !decide (T (q i) c = T (q (i - 1)) c)
def isF (P : Nat → Bool) (T : Nat → Nat → Int64) (c r : Nat) : Bool := P r && al (fun t => !(P t && decide (T t c = T r c))) r
/-- q is the list of the chosen rows below n, sorted by column c, the least first -/
def Gr (P : Nat → Bool) (T : Nat → Nat → Int64) (c n : Nat) (q : Nat → Nat) : Prop := (∃ p, En p P n ∧ Pm q p (ct P n)) ∧ Sd T c false q (ct P n)
theorem pm_row {P : Nat → Bool} {n : Nat} {q : Nat → Nat} (h : ∃ p, En p P n ∧ Pm q p (ct P n)) {j : Nat} (hj : j < ct P n) : q j < n ∧ P (q j) = true := by
  obtain ⟨p, h1, h2⟩ := h
  obtain ⟨i, hi, e⟩ := h2.sym.mem hj
  obtain ⟨a, b, -⟩ := en_inv h1 i hi
  rw [← e]
  exact ⟨a, b⟩
theorem pm_of {P : Nat → Bool} {n : Nat} {q : Nat → Nat} (h : ∃ p, En p P n ∧ Pm q p (ct P n)) {r : Nat} (hr : r < n) (hP : P r = true) : ∃ j, j < ct P n ∧ q j = r := by
  obtain ⟨p, h1, h2⟩ := h
  have h3 := ct_mono P (show r + 1 ≤ n by omega)
  rw [ct_t hP] at h3
  obtain ⟨j, hj, e⟩ := h2.mem (show ct P r < ct P n by omega)
  exact ⟨j, hj, e.trans (h1 r hr hP)⟩
theorem pm_ct {P : Nat → Bool} {n : Nat} {q : Nat → Nat} (h : ∃ p, En p P n ∧ Pm q p (ct P n)) (g : Nat → Bool) : ct (fun t => P t && g t) n = ct (fun j => g (q j)) (ct P n) := by
  obtain ⟨p, h1, h2⟩ := h
  rw [ct_tr h1 g (Nat.le_refl n), h2.1 g]
theorem pm_sm {P : Nat → Bool} {n : Nat} {q : Nat → Nat} (h : ∃ p, En p P n ∧ Pm q p (ct P n)) (f : Nat → Int64) : sm (fun t => if P t then f t else 0) n = sm (fun j => f (q j)) (ct P n) := by
  obtain ⟨p, h1, h2⟩ := h
  rw [sm_tr h1 f (Nat.le_refl n), h2.2 f]
theorem Sd.le {T : Nat → Nat → Int64} {c : Nat} {q : Nat → Nat} {m i j : Nat} (hs : Sd T c false q m) (hij : i ≤ j) (hj : j < m) : (T (q i) c).toInt ≤ (T (q j) c).toInt := by
  by_cases e : i = j
  · rw [e]; exact Int.le_refl _
  · have h := hs i j (by omega) hj
    rw [bfb_iff] at h
    rcases h with h | ⟨h, -⟩
    · simp only [bef, Bool.false_eq_true, if_false, decide_eq_true_eq, Int64.lt_iff_toInt_lt] at h
      omega
    · rw [h]; exact Int.le_refl _
theorem sg_f {T : Nat → Nat → Int64} {c : Nat} {q : Nat → Nat} {i : Nat} (h : sg T c q i = false) : i ≠ 0 ∧ T (q i) c = T (q (i - 1)) c := by
  simpa [sg] using h
theorem sg_t {T : Nat → Nat → Int64} {c : Nat} {q : Nat → Nat} {i : Nat} (h : sg T c q i = true) : i = 0 ∨ T (q i) c ≠ T (q (i - 1)) c := by
  simpa [sg] using h
theorem isF_iff {P : Nat → Bool} {T : Nat → Nat → Int64} {c r : Nat} : isF P T c r = true ↔ P r = true ∧ ∀ t, t < r → P t = true → T t c ≠ T r c := by
  unfold isF
  rw [Bool.and_eq_true, al_iff]
  refine and_congr_right fun _ => ⟨fun h t ht hP e => ?_, fun h t ht => ?_⟩
  · have h1 := h t ht
    simp [hP, e] at h1
  · cases hP : P t
    · rfl
    · simp [h t ht hP]
theorem Gr.first {P : Nat → Bool} {T : Nat → Nat → Int64} {c n : Nat} {q : Nat → Nat} (h : Gr P T c n q) {i : Nat} (hi : i < ct P n) : sg T c q i = isF P T c (q i) := by
  obtain ⟨hm, hs⟩ := h
  obtain ⟨hqn, hqP⟩ := pm_row hm hi
  cases e : sg T c q i
  · obtain ⟨h0, he⟩ := sg_f e
    cases e2 : isF P T c (q i)
    · rfl
    · exfalso
      rw [isF_iff] at e2
      have h1 := hs (i - 1) i (by omega) hi
      rw [bfb_iff, he, bef_irr] at h1
      rcases h1 with h1 | ⟨-, h1⟩
      · cases h1
      · exact e2.2 _ h1 (pm_row hm (show i - 1 < ct P n by omega)).2 he.symm
  · symm
    rw [isF_iff]
    refine ⟨hqP, fun t ht hPt et => ?_⟩
    obtain ⟨j, hj, ej⟩ := pm_of hm (show t < n by omega) hPt
    have h1 : bfb T c false (q j) (q i) = true := by
      rw [bfb_iff, ej]
      exact Or.inr ⟨et, ht⟩
    have hji : j < i := by
      apply Classical.byContradiction
      intro hn
      by_cases e1 : j = i
      · rw [e1, bfb_irr] at h1; cases h1
      · have h2 := bfb_asym (hs i j (by omega) hj)
        rw [h2] at h1; cases h1
    rcases sg_t e with e1 | e1
    · omega
    · have h2 := hs.le (show j ≤ i - 1 by omega) (by omega)
      have h3 := hs.le (show i - 1 ≤ i by omega) hi
      rw [ej, et] at h2
      exact e1 (Int64.toInt_inj.mp (by omega))
/-- as many groups by the one count as by the other -/
theorem Gr.count {P : Nat → Bool} {T : Nat → Nat → Int64} {c n : Nat} {q : Nat → Nat} (h : Gr P T c n q) : ct (sg T c q) (ct P n) = ct (isF P T c) n := by
  have e1 : ct (sg T c q) (ct P n) = ct (fun j => isF P T c (q j)) (ct P n) := ct_congr fun j hj => h.first hj
  rw [e1, ← pm_ct h.1 (isF P T c)]
  refine ct_congr fun t _ => ?_
  cases e : isF P T c t
  · exact Bool.and_false _
  · rw [(isF_iff.mp e).1]; rfl
theorem ct_at {p : Nat → Bool} : ∀ {n j : Nat}, j < ct p n → ∃ i, i < n ∧ p i = true ∧ ct p i = j
  | 0, j, h => absurd h (Nat.not_lt_zero j)
  | n + 1, j, h => by
    by_cases hp : p n = true
    · rw [ct_t hp] at h
      by_cases h1 : j < ct p n
      · obtain ⟨i, a, b⟩ := ct_at h1
        exact ⟨i, by omega, b⟩
      · exact ⟨n, by omega, hp, by omega⟩
    · rw [ct_f (by simpa using hp)] at h
      obtain ⟨i, a, b⟩ := ct_at h
      exact ⟨i, by omega, b⟩
theorem ct_lt {p : Nat → Bool} {n i : Nat} (hi : i < n) (hp : p i = true) : ct p i < ct p n := by
  have h1 := ct_mono p (show i + 1 ≤ n by omega)
  rw [ct_t hp] at h1
  omega
theorem ct_inj {p : Nat → Bool} {i j : Nat} (hi : p i = true) (hj : p j = true) (e : ct p i = ct p j) : i = j := by
  apply Classical.byContradiction
  intro hn
  rcases Nat.lt_or_gt_of_ne hn with h | h
  · have := ct_lt h hi; omega
  · have := ct_lt h hj; omega
/-- the group that begins at i is the k-th by its cell -/
theorem Gr.less {P : Nat → Bool} {T : Nat → Nat → Int64} {c n : Nat} {q : Nat → Nat} (h : Gr P T c n q) {i : Nat} (hi : i < ct P n) (hg : sg T c q i = true) : ct (fun t => isF P T c t && decide (T t c < T (q i) c)) n = ct (sg T c q) i := by
  have e0 : ct (fun t => isF P T c t && decide (T t c < T (q i) c)) n = ct (fun t => P t && (isF P T c t && decide (T t c < T (q i) c))) n := by
    refine ct_congr fun t _ => ?_
    cases e : isF P T c t
    · exact (Bool.and_false _).symm
    · rw [(isF_iff.mp e).1]; rfl
  rw [e0, pm_ct h.1 (fun t => isF P T c t && decide (T t c < T (q i) c))]
  have hs := h.2
  rw [ct_none (a := i) (by omega) (fun j h1 h2 => ?_)]
  · refine ct_congr fun j hj => ?_
    show (isF P T c (q j) && decide (T (q j) c < T (q i) c)) = _
    rw [← h.first (show j < ct P n by omega)]
    have h1 : T (q j) c < T (q i) c := by
      rcases sg_t hg with e | e
      · omega
      · have h2 := hs.le (show j ≤ i - 1 by omega) (by omega)
        have h3 := hs.le (show i - 1 ≤ i by omega) hi
        rw [Int64.lt_iff_toInt_lt]
        have h4 : (T (q i) c).toInt ≠ (T (q (i - 1)) c).toInt := fun z => e (Int64.toInt_inj.mp z)
        omega
    rw [decide_eq_true h1, Bool.and_true]
  · have h3 := hs.le h1 h2
    show (isF P T c (q j) && decide (T (q j) c < T (q i) c)) = false
    rw [decide_eq_false (by rw [Int64.lt_iff_toInt_lt]; omega), Bool.and_false]
/-- which places hold the group -/
theorem Gr.win {P : Nat → Bool} {T : Nat → Nat → Int64} {c n : Nat} {q : Nat → Nat} (h : Gr P T c n q) {a b : Nat} (hab : a < b) (hb : b ≤ ct P n) (hg : sg T c q a = true) (hno : ∀ j, a < j → j < b → sg T c q j = false) (hend : b = ct P n ∨ sg T c q b = true) {j : Nat} (hj : j < ct P n) : T (q j) c = T (q a) c ↔ a ≤ j ∧ j < b := by
  have hs := h.2
  have heq : ∀ d, a + d < b → T (q (a + d)) c = T (q a) c := by
    intro d
    induction d with
    | zero => intro _; rfl
    | succ d ih =>
      intro hd
      have h1 := (sg_f (hno (a + (d + 1)) (by omega) hd)).2
      rw [h1, show a + (d + 1) - 1 = a + d by omega]
      exact ih (by omega)
  constructor
  · intro e
    refine ⟨Nat.le_of_not_lt fun h1 => ?_, Nat.lt_of_not_le fun h1 => ?_⟩
    · rcases sg_t hg with e1 | e1
      · omega
      · have h2 := hs.le (show j ≤ a - 1 by omega) (by omega)
        have h3 := hs.le (show a - 1 ≤ a by omega) (by omega)
        rw [e] at h2
        exact e1 (Int64.toInt_inj.mp (by omega))
    · rcases hend with e1 | e1
      · omega
      · rcases sg_t e1 with e2 | e2
        · omega
        · have h2 := hs.le h1 hj
          have h3 := hs.le (show b - 1 ≤ b by omega) (by omega)
          have h4 := heq (b - 1 - a) (by omega)
          rw [show a + (b - 1 - a) = b - 1 by omega] at h4
          rw [e, ← h4] at h2
          exact e2 (Int64.toInt_inj.mp (by omega))
  · intro ⟨h1, h2⟩
    have h3 := heq (j - a) (by omega)
    rwa [show a + (j - a) = j by omega] at h3
theorem sm_win {f : Nat → Int64} {p : Nat → Bool} {a b : Nat} (hab : a ≤ b) : ∀ {m : Nat}, b ≤ m → (∀ j, j < m → (p j = true ↔ a ≤ j ∧ j < b)) → sm (fun j => if p j then f j else 0) m = sm (fun j => f (a + j)) (b - a) := by
  intro m
  induction m generalizing b with
  | zero => intro hb _; rw [show b - a = 0 by omega]; rfl
  | succ m ih =>
    intro hb h
    by_cases hbm : b = m + 1
    · by_cases ham : a = m + 1
      · have e := ih (b := a) (Nat.le_refl a)
        clear e
        rw [show b - a = 0 by omega]
        have e0 : ∀ j, j < m + 1 → (if p j then f j else 0) = (0 : Int64) := fun j hj => by
          rw [if_neg]
          intro z
          have := (h j hj).mp z
          omega
        have e1 : ∀ d, d ≤ m + 1 → sm (fun j => if p j then f j else 0) d = 0 := by
          intro d
          induction d with
          | zero => intro _; rfl
          | succ d ih2 => intro hd; rw [sm, ih2 (by omega), e0 d (by omega)]; rfl
        exact e1 (m + 1) (Nat.le_refl _)
      · subst hbm
        have e1 := ih (b := m) (by omega) (Nat.le_refl m) (fun j hj => by have := h j (by omega); rw [this]; omega)
        rw [sm, e1, if_pos ((h m (by omega)).mpr ⟨by omega, by omega⟩), show m + 1 - a = (m - a) + 1 by omega, sm, show a + (m - a) = m by omega]
    · have e1 := ih hab (by omega) (fun j hj => h j (by omega))
      rw [sm, e1, if_neg (fun z => by have := (h m (by omega)).mp z; omega), Int64.add_zero]
theorem ct_win {p : Nat → Bool} {a b m : Nat} (hab : a ≤ b) (hb : b ≤ m) (h : ∀ j, j < m → (p j = true ↔ a ≤ j ∧ j < b)) : ct p m = b - a := by
  have hf : ∀ j, j < m → ¬ (a ≤ j ∧ j < b) → p j = false := fun j hj hn => by
    cases e : p j
    · rfl
    · exact absurd ((h j hj).mp e) hn
  rw [ct_none (a := b) hb (fun j h1 h2 => hf j h2 (by omega))]
  have e0 : ct p a = 0 := by rw [ct_none (a := 0) (Nat.zero_le a) (fun j _ h2 => hf j (by omega) (by omega))]; rfl
  have e1 : ∀ d, a + d ≤ b → ct p (a + d) = d := by
    intro d
    induction d with
    | zero => intro _; exact e0
    | succ d ih => intro hd; rw [← Nat.add_assoc, ct_t ((h (a + d) (by omega)).mpr ⟨by omega, by omega⟩), ih (by omega)]
  have := e1 (b - a) (by omega)
  rwa [show a + (b - a) = b by omega] at this
/-- the greatest (d = true) or the least of f at a .. a + j -/
def bnd (f : Nat → Int64) (d : Bool) : Nat → Int64
  | 0 => f 0
  | j + 1 => if bef d (f (j + 1)) (bnd f d j) then f (j + 1) else bnd f d j
theorem bnd_in (f : Nat → Int64) (d : Bool) : ∀ j, ∃ i, i ≤ j ∧ bnd f d j = f i
  | 0 => ⟨0, Nat.le_refl _, rfl⟩
  | j + 1 => by
    rw [bnd]
    split
    · exact ⟨j + 1, Nat.le_refl _, rfl⟩
    · obtain ⟨i, h1, h2⟩ := bnd_in f d j
      exact ⟨i, by omega, h2⟩
theorem bnd_ge (f : Nat → Int64) (d : Bool) : ∀ {j i : Nat}, i ≤ j → bef d (f i) (bnd f d j) = false
  | 0, i, h => by rw [Nat.le_zero.mp h]; exact bef_irr d _
  | j + 1, i, h => by
    rw [bnd]
    by_cases e : bef d (f (j + 1)) (bnd f d j) = true
    · rw [if_pos e]
      by_cases h1 : i = j + 1
      · rw [h1]; exact bef_irr d _
      · have h2 := bnd_ge f d (show i ≤ j by omega)
        cases e2 : bef d (f i) (f (j + 1))
        · rfl
        · rw [bef_tr e2 e] at h2; cases h2
    · rw [if_neg e]
      by_cases h1 : i = j + 1
      · rw [h1]; simpa using e
      · exact bnd_ge f d (show i ≤ j by omega)
/-- the best of a set is one -/
theorem best_eq {d : Bool} {x y : Int64} (h1 : bef d x y = false) (h2 : bef d y x = false) : x = y := by
  rcases bef_tri d x y with e | e | e
  · rw [h1] at e; cases e
  · exact e
  · rw [h2] at e; cases e
theorem bnd_t {f : Nat → Int64} {d : Bool} {j : Nat} (h : bef d (f (j + 1)) (bnd f d j) = true) : bnd f d (j + 1) = f (j + 1) := by rw [bnd, if_pos h]
theorem bnd_f {f : Nat → Int64} {d : Bool} {j : Nat} (h : bef d (f (j + 1)) (bnd f d j) = false) : bnd f d (j + 1) = bnd f d j := by rw [bnd, if_neg (by rw [h]; decide)]
theorem bef_Tt {x y : Int64} (h : y < x) : bef true x y = true := decide_eq_true h
theorem bef_Tf {x y : Int64} (h : ¬ y < x) : bef true x y = false := decide_eq_false h
theorem bef_Ft {x y : Int64} (h : x < y) : bef false x y = true := decide_eq_true h
theorem bef_Ff {x y : Int64} (h : ¬ x < y) : bef false x y = false := decide_eq_false h
theorem pm_lt {q p : Nat → Nat} {m M : Nat} (h : Pm q p m) (hp : ∀ j, j < m → p j < M) : ∀ j, j < m → q j < M := by
  intro j hj
  obtain ⟨i, hi, e⟩ := h.sym.mem hj
  rw [← e]
  exact hp i hi
theorem hm_s {p : Nat → Prop} {h i : Nat} (hm : ∀ j, h ≤ j → j < i → p j) (h1 : p (h - 1)) : ∀ j, h - 1 ≤ j → j < i → p j := by
  intro j h2 h3
  by_cases e : j = h - 1
  · rw [e]; exact h1
  · exact hm j (by omega) h3
theorem Sd.less {T : Nat → Nat → Int64} {c : Nat} {d : Bool} {q : Nat → Nat} {m i : Nat} (h : Sd T c d q i) (hm : m ≤ i) : Sd T c d q m := fun a b h1 h2 => h a b h1 (by omega)
/-- where group x begins, or -1; where the group ends -/
def gsF (p : Nat → Bool) (x : Int32) (i : Nat) : Nat → Int32
  | 0 => -1
  | f + 1 => if p i && decide (nI (ct p i) = x) then nI i else gsF p x (i + 1) f
def gE (p : Nat → Bool) (i : Nat) : Nat → Nat
  | 0 => i
  | f + 1 => if p i then i else gE p (i + 1) f
theorem gsF_some {p : Nat → Bool} {a k : Nat} (hp : p a = true) (hk : ct p a = k) (hk2 : k < 2 ^ 31) : ∀ (f i : Nat), i ≤ a → a < i + f → gsF p (nI k) i f = nI a
  | 0, i, h1, h2 => by omega
  | f + 1, i, h1, h2 => by
    rw [gsF]
    by_cases e : i = a
    · subst e
      rw [if_pos (by rw [hp, hk, decide_eq_true rfl]; rfl)]
    · rw [if_neg]
      · exact gsF_some hp hk hk2 f (i + 1) (by omega) (by omega)
      · intro h
        rw [Bool.and_eq_true, decide_eq_true_eq] at h
        have h3 := ct_lt (show i < a by omega) h.1
        have h4 := (nI_eq (by omega) hk2).mp h.2
        omega
theorem gsF_none {p : Nat → Bool} {x : Int32} : ∀ (f i : Nat), (∀ j, i ≤ j → j < i + f → p j = true → nI (ct p j) ≠ x) → gsF p x i f = -1
  | 0, i, _ => rfl
  | f + 1, i, h => by
    rw [gsF, if_neg]
    · exact gsF_none f (i + 1) fun j h1 h2 h3 => h j (by omega) (by omega) h3
    · intro h1
      rw [Bool.and_eq_true, decide_eq_true_eq] at h1
      exact h i (by omega) (by omega) h1.1 h1.2
theorem gE_spec {p : Nat → Bool} : ∀ (f i : Nat), i ≤ gE p i f ∧ gE p i f ≤ i + f ∧ (∀ j, i ≤ j → j < gE p i f → p j = false) ∧ (gE p i f = i + f ∨ p (gE p i f) = true)
  | 0, i => ⟨Nat.le_refl _, Nat.le_refl _, fun j h1 h2 => by simp [gE] at h2; omega, Or.inl rfl⟩
  | f + 1, i => by
    rw [gE]
    by_cases hp : p i = true
    · rw [if_pos hp]
      exact ⟨Nat.le_refl _, by omega, fun j h1 h2 => by omega, Or.inr hp⟩
    · rw [if_neg hp]
      obtain ⟨h1, h2, h3, h4⟩ := gE_spec (p := p) f (i + 1)
      refine ⟨by omega, by omega, fun j h5 h6 => ?_, ?_⟩
      · by_cases e : j = i
        · rw [e]; simpa using hp
        · exact h3 j (by omega) h6
      · rcases h4 with h4 | h4
        · exact Or.inl (by omega)
        · exact Or.inr h4
theorem sn_end {f : Nat → Nat → Bool} {t m : Nat} (h : t = m ∨ (t = 1 ∧ m = 0)) : nI (sn (fun t => ct (f t) t) t) = nI (sn (fun t => ct (f t) t) m) := by
  rcases h with h | ⟨h, h2⟩
  · rw [h]
  · rw [h, h2]; rfl
end PU3
