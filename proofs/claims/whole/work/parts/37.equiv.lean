/-! The hall's answers and the model's are one: pure rows. -/
section EQ1
theorem col_c (x : Int32) : (∃ c, c < 4 ∧ x = nI c) ∨ (isC x = false ∧ (x < 0 ∨ nI 4 ≤ x)) := by
  rcases pk_ix x (n := 4) (by omega) with h | h | h
  · refine Or.inr ⟨?_, Or.inl h⟩
    unfold isC
    rw [decide_eq_true h]; rfl
  · refine Or.inr ⟨?_, Or.inr h⟩
    unfold isC
    have h2 : nI 3 < x := by
      rw [Int32.le_iff_toInt_le, nI_toInt (by omega)] at h
      rw [Int32.lt_iff_toInt_lt, nI_toInt (by omega)]
      omega
    rw [decide_eq_true h2, Bool.not_true, Bool.and_false]
  · exact Or.inl h
theorem ix_c (y : Int32) {n : Nat} (hn : n < 2 ^ 31) : (∃ r, r < n ∧ y = nI r) ∨ (y < 0 ∨ nI n ≤ y) := by
  rcases pk_ix y hn with h | h | h
  · exact Or.inr (Or.inl h)
  · exact Or.inr (Or.inr h)
  · exact Or.inl h
theorem le_c (y : Int32) {n : Nat} (hn : n + 1 < 2 ^ 31) : (∃ r, r < n + 1 ∧ y = nI r) ∨ (y < 0 ∨ nI n < y) := by
  rcases pk_ix y hn with h | h | h
  · exact Or.inr (Or.inl h)
  · refine Or.inr (Or.inr ?_)
    rw [Int32.le_iff_toInt_le, nI_toInt (by omega)] at h
    rw [Int32.lt_iff_toInt_lt, nI_toInt (by omega)]
    omega
  · exact Or.inl h
theorem nI_bad {y : Int32} {a m : Nat} (hy : y < 0 ∨ nI m ≤ y) (ha : a < m) (hm : m < 2 ^ 31) : nI a ≠ y := by
  intro e
  rcases hy with h | h
  · rw [← e] at h; exact nI_pos (by omega) h
  · rw [← e] at h
    have := (nI_leI hm (by omega)).mp h
    omega
theorem ct_sub {p q : Nat → Bool} {n t : Nat} (h : ∀ u, u < n → p u = true → q u = true) (ht : t < n) (h1 : q t = true) (h2 : p t = false) : ct p n < ct q n := by
  have mono : ∀ m, m ≤ n → ct p m ≤ ct q m := by
    intro m
    induction m with
    | zero => intro _; exact Nat.le_refl 0
    | succ m ih =>
      intro hm
      have := ih (by omega)
      rw [ct, ct]
      cases e : p m
      · simp; omega
      · rw [h m (by omega) e]; simp; omega
  have key : ∀ m, t < m → m ≤ n → ct p m < ct q m := by
    intro m
    induction m with
    | zero => intro h3; omega
    | succ m ih =>
      intro h3 hm
      by_cases e : t = m
      · subst e
        have := mono t (by omega)
        rw [ct, ct, h1, h2]; simp; omega
      · have := ih (by omega) (by omega)
        rw [ct, ct]
        cases e : p m
        · simp; omega
        · rw [h m (by omega) e]; simp; omega
  exact key n ht (Nat.le_refl n)
/-- blocks -/
theorem mn_mx (x : Nat → Int64) (d : Nat) : (mn x d).toInt ≤ (mx x d).toInt := by
  have h1 := mn_le x (Nat.zero_le d)
  have h2 := mx_ge x (Nat.zero_le d)
  rw [Int64.lt_iff_toInt_lt] at h1 h2
  omega
theorem cR_cH {o : Nat} {lo hi v : Int64} (h : lo.toInt ≤ hi.toInt) : cR o lo hi v = cH o v lo hi := by
  unfold cR cH
  by_cases h0 : o = 0
  · subst h0
    simp only [hO, if_true, show ¬ (0 = 2) by omega, if_false]
    by_cases h1 : lo < v
    · simp [h1]
    · have h2 : ¬ hi < v := by rw [Int64.lt_iff_toInt_lt] at h1 ⊢; omega
      simp [h1, h2]
  by_cases h3 : o = 1
  · subst h3
    simp only [hO, show ¬ (1 = 2) by omega, show ¬ (1 = 0) by omega, if_false, if_true]
    by_cases h1 : v < lo
    · have h2 : v < hi := by rw [Int64.lt_iff_toInt_lt] at h1 ⊢; omega
      simp [h1, h2]
    · simp [h1]
  by_cases h4 : o = 2
  · subst h4; simp
  by_cases h5 : o = 3
  · subst h5
    simp only [hO, show ¬ (3 = 2) by omega, show ¬ (3 = 0) by omega, show ¬ (3 = 1) by omega, if_false, if_true]
    by_cases h1 : hi < v
    · have h2 : lo < v := by rw [Int64.lt_iff_toInt_lt] at h1 ⊢; omega
      simp [h1, h2]
    · simp [h1]
  by_cases h6 : o = 4
  · subst h6
    simp only [hO, show ¬ (4 = 2) by omega, show ¬ (4 = 0) by omega, show ¬ (4 = 1) by omega, show ¬ (4 = 3) by omega, if_false, if_true]
    by_cases h1 : v < hi
    · simp [h1]
    · have h2 : ¬ v < lo := by rw [Int64.lt_iff_toInt_lt] at h1 ⊢; omega
      simp [h1, h2]
  simp [hO, h0, h3, h4, h5, h6]
def Pks (T : Nat → Nat → Int64) (n : Nat) (lo hi : Nat → Int64) (bw bb : Nat → Nat) : Prop := ∀ b c, b < n / 16 → c < 4 → Pk T b c lo hi bw bb
theorem blocks_eq {T : Nat → Nat → Int64} {n : Nat} {kc ko : Nat → Nat} {kv : Nat → Int64} {k : Nat} {lo hi : Nat → Int64} {bw bb : Nat → Nat} (h : Pks T n lo hi bw bb) (hkc : ∀ j, kc j < 4) : ct (fun b => !po n kc ko kv k lo hi b) ((n + 16 - 1) / 16) = ct (rbk T n kc ko kv k) ((n + 15) / 16) := by
  rw [show n + 16 - 1 = n + 15 by omega]
  refine ct_congr fun b _ => ?_
  show (!po n kc ko kv k lo hi b) = _
  by_cases hb : b < n / 16
  · rw [po_lt hb, Bool.not_not]
    unfold rbk
    rw [if_pos hb]
    refine al_congr fun i _ => ?_
    obtain ⟨h1, h2, -⟩ := h b (kc i) hb (hkc i)
    rw [h1, h2]
    exact (cR_cH (mn_mx _ 15)).symm
  · rw [po_ge (by omega)]
    unfold rbk
    rw [if_neg hb]; rfl
/-- bound -/
theorem bR_ge {P : Nat → Bool} {f : Nat → Int64} {d : Bool} : ∀ {n t : Nat}, t < n → P t = true → bef d (f t) (bR P f d n) = false
  | 0, t, h, _ => absurd h (Nat.not_lt_zero t)
  | n + 1, t, h, hP => by
    rw [bR]
    by_cases e : (P n && bef d (f n) (bR P f d n)) = true
    · rw [if_pos e]
      rw [Bool.and_eq_true] at e
      by_cases h1 : t = n
      · rw [h1]; exact bef_irr d _
      · have h2 := bR_ge (P := P) (f := f) (d := d) (show t < n by omega) hP
        cases e2 : bef d (f t) (f n)
        · rfl
        · rw [bef_tr e2 e.2] at h2; cases h2
    · rw [if_neg e]
      by_cases h1 : t = n
      · subst h1
        rw [hP, Bool.true_and] at e
        simpa using e
      · exact bR_ge (show t < n by omega) hP
theorem bR_in {P : Nat → Bool} {f : Nat → Int64} {d : Bool} : ∀ {n : Nat}, (bR P f d n = if d then -9223372036854775808 else 9223372036854775807) ∨ ∃ t, t < n ∧ P t = true ∧ bR P f d n = f t
  | 0 => Or.inl rfl
  | n + 1 => by
    rw [bR]
    by_cases e : (P n && bef d (f n) (bR P f d n)) = true
    · rw [if_pos e]
      rw [Bool.and_eq_true] at e
      exact Or.inr ⟨n, by omega, e.1, rfl⟩
    · rw [if_neg e]
      rcases bR_in (P := P) (f := f) (d := d) (n := n) with h | ⟨t, h1, h2⟩
      · exact Or.inl h
      · exact Or.inr ⟨t, by omega, h2⟩
theorem bef_ext (d : Bool) (y : Int64) : bef d (if d then -9223372036854775808 else 9223372036854775807) y = false := by
  cases d
  · simp only [bef, Bool.false_eq_true, if_false]
    rw [decide_eq_false]
    exact Int64.not_maxValue_lt
  · simp only [bef, if_true]
    rw [decide_eq_false]
    exact Int64.not_lt_minValue
theorem bound_eq {P : Nat → Bool} {f : Nat → Int64} {d : Bool} {n : Nat} {q : Nat → Nat} (hE : En q P n) (hp : 0 < ct P n) : bnd (fun j => f (q j)) d (ct P n - 1) = bR P f d n := by
  apply best_eq (d := d)
  · obtain ⟨i, h1, h2⟩ := bnd_in (fun j => f (q j)) d (ct P n - 1)
    obtain ⟨h3, h4, -⟩ := en_inv hE i (by omega)
    rw [h2]
    exact bR_ge h3 h4
  · rcases bR_in (P := P) (f := f) (d := d) (n := n) with h | ⟨t, h1, h2, h3⟩
    · rw [h]; exact bef_ext d _
    · rw [h3, ← hE t h1 h2]
      exact bnd_ge (fun j => f (q j)) d (show ct P t ≤ ct P n - 1 by have := ct_lt h1 h2; omega)
/-- ranked -/
theorem rank_of {P : Nat → Bool} {T : Nat → Nat → Int64} {c n : Nat} {q : Nat → Nat} (hm : ∃ p, En p P n ∧ Pm q p (ct P n)) (hs : Sd T c true q (ct P n)) {j : Nat} (hj : j < ct P n) : ct (fun u => P u && bfb T c true u (q j)) n = j := by
  rw [pm_ct hm (fun u => bfb T c true u (q j))]
  exact hs.rank hj
theorem rank_un {P : Nat → Bool} {T : Nat → Nat → Int64} {c n : Nat} {q : Nat → Nat} (hm : ∃ p, En p P n ∧ Pm q p (ct P n)) (hs : Sd T c true q (ct P n)) {i : Nat} : ∀ t, t < n → P t = true → ct (fun u => P u && bfb T c true u t) n = i → t = q i := by
  intro t ht hP e
  obtain ⟨j, hj, ej⟩ := pm_of hm ht hP
  subst ej
  rw [rank_of hm hs hj] at e
  rw [e]
theorem rank_lt {P : Nat → Bool} {T : Nat → Nat → Int64} {c n t : Nat} (ht : t < n) (hP : P t = true) : ct (fun u => P u && bfb T c true u t) n < ct P n :=
  ct_sub (t := t) (fun u _ h => by rw [Bool.and_eq_true] at h; exact h.1) ht hP (by show (P t && bfb T c true t t) = false; rw [bfb_irr, Bool.and_false])
/-- pairs -/
theorem pairs_eq {P : Nat → Bool} {n : Nat} {q : Nat → Nat} (hE : En q P n) (g : Nat → Nat → Bool) : ∀ {r : Nat}, r ≤ n → sn (fun t => ct (fun j => g (q t) (q j)) t) (ct P r) = sn (fun t => if P t then ct (fun u => P u && g t u) t else 0) r
  | 0, _ => rfl
  | r + 1, hr => by
    have ih := pairs_eq hE g (r := r) (by omega)
    by_cases hP : P r = true
    · rw [ct_t hP, sn, sn, ih, if_pos hP, hE r (by omega) hP, ct_tr hE (fun u => g r u) (show r ≤ n by omega)]
    · rw [ct_f (by simpa using hP), sn, ih, if_neg hP]; rfl
end EQ1
section EQ2
/-- group -/
theorem Gr.un {P : Nat → Bool} {T : Nat → Nat → Int64} {c n : Nat} {q : Nat → Nat} (h : Gr P T c n q) {a i : Nat} (ha : a < ct P n) (hg : sg T c q a = true) (hi : ct (sg T c q) a = i) : isF P T c (q a) = true ∧ q a < n ∧ ct (fun u => isF P T c u && decide (T u c < T (q a) c)) n = i ∧ ∀ t, t < n → isF P T c t = true → ct (fun u => isF P T c u && decide (T u c < T t c)) n = i → t = q a := by
  have hF : isF P T c (q a) = true := by rw [← h.first ha]; exact hg
  refine ⟨hF, (pm_row h.1 ha).1, (h.less ha hg).trans hi, fun t ht hFt e => ?_⟩
  obtain ⟨j, hj, ej⟩ := pm_of h.1 ht (isF_iff.mp hFt).1
  subst ej
  have hgj : sg T c q j = true := by rw [h.first hj]; exact hFt
  rw [h.less hj hgj] at e
  rw [ct_inj hgj hg (e.trans hi.symm)]
theorem ct_off {p : Nat → Bool} {r : Nat} (h : ∀ t, t < r → p t = false) : ∀ d, ct (fun j => p (r + j)) d = ct p (r + d)
  | 0 => by
    show 0 = ct p r
    rw [ct_none (a := 0) (Nat.zero_le r) (fun j _ h2 => h j h2)]; rfl
  | d + 1 => by rw [ct, ct_off h d, ← Nat.add_assoc, ct]
theorem sm_off {f : Nat → Int64} {r : Nat} (h : ∀ t, t < r → f t = 0) : ∀ d, sm (fun j => f (r + j)) d = sm f (r + d)
  | 0 => by
    show 0 = sm f r
    have e : ∀ m, m ≤ r → sm f m = 0 := by
      intro m
      induction m with
      | zero => intro _; rfl
      | succ m ih => intro hm; rw [sm, ih (by omega), h m (by omega)]; rfl
    exact (e r (Nat.le_refl r)).symm
  | d + 1 => by rw [sm, sm_off h d, ← Nat.add_assoc, sm]
theorem gB_ge {K : Nat → Bool} {f : Nat → Int64} {d : Bool} : ∀ {n j : Nat}, j < n → K j = true → bef d (f j) (gB K f d n) = false
  | 0, j, h, _ => absurd h (Nat.not_lt_zero j)
  | n + 1, j, h, hK => by
    rw [gB]
    by_cases e : (K n && bef d (f n) (gB K f d n)) = true
    · rw [if_pos e]
      rw [Bool.and_eq_true] at e
      by_cases h1 : j = n
      · rw [h1]; exact bef_irr d _
      · have h2 := gB_ge (K := K) (f := f) (d := d) (show j < n by omega) hK
        cases e2 : bef d (f j) (f n)
        · rfl
        · rw [bef_tr e2 e.2] at h2; cases h2
    · rw [if_neg e]
      by_cases h1 : j = n
      · subst h1
        rw [hK, Bool.true_and] at e
        simpa using e
      · exact gB_ge (show j < n by omega) hK
theorem gB_in {K : Nat → Bool} {f : Nat → Int64} {d : Bool} (h0 : K 0 = true) : ∀ {n : Nat}, ∃ j, (j < n ∨ j = 0) ∧ K j = true ∧ gB K f d n = f j
  | 0 => ⟨0, Or.inr rfl, h0, rfl⟩
  | n + 1 => by
    rw [gB]
    by_cases e : (K n && bef d (f n) (gB K f d n)) = true
    · rw [if_pos e]
      rw [Bool.and_eq_true] at e
      exact ⟨n, Or.inl (by omega), e.1, rfl⟩
    · rw [if_neg e]
      obtain ⟨j, h1, h2⟩ := gB_in (K := K) (f := f) (d := d) h0 (n := n)
      exact ⟨j, by omega, h2⟩
theorem group_eq {P : Nat → Bool} {T : Nat → Nat → Int64} {c o n w : Nat} {q : Nat → Nat} (h : Gr P T c n q) {a b : Nat} (hab : a < b) (hb : b ≤ ct P n) (hg : sg T c q a = true) (hno : ∀ j, a < j → j < b → sg T c q j = false) (hend : b = ct P n ∨ sg T c q b = true) :
    (if w = 0 then T (q a) c else if w = 1 then lN (b - a) else if w = 2 then sm (fun j => T (q (a + j)) o) (b - a) else bnd (fun j => T (q (a + j)) o) (decide (w = 4)) (b - a - 1)) =
    (if w = 0 then T (q a) c else if w = 1 then lN (ct (fun j => P (q a + j) && decide (T (q a + j) c = T (q a) c)) (n - q a)) else if w = 2 then sm (fun j => if P (q a + j) && decide (T (q a + j) c = T (q a) c) then T (q a + j) o else 0) (n - q a) else gB (fun j => P (q a + j) && decide (T (q a + j) c = T (q a) c)) (fun j => T (q a + j) o) (decide (w = 4)) (n - q a)) := by
  have hF : isF P T c (q a) = true := by rw [← h.first (show a < ct P n by omega)]; exact hg
  obtain ⟨hqn, hqP⟩ := pm_row h.1 (show a < ct P n by omega)
  have hearly : ∀ t, t < q a → (P t && decide (T t c = T (q a) c)) = false := by
    intro t ht
    cases e : P t
    · rfl
    · rw [decide_eq_false ((isF_iff.mp hF).2 t ht e)]; rfl
  have hwin : ∀ j, j < ct P n → (decide (T (q j) c = T (q a) c) = true ↔ a ≤ j ∧ j < b) := fun j hj => by
    rw [decide_eq_true_eq]; exact h.win hab hb hg hno hend hj
  have e1 : ct (fun j => P (q a + j) && decide (T (q a + j) c = T (q a) c)) (n - q a) = b - a := by
    rw [ct_off (p := fun t => P t && decide (T t c = T (q a) c)) hearly, show q a + (n - q a) = n by omega, pm_ct h.1 (fun t => decide (T t c = T (q a) c))]
    exact ct_win (by omega) hb hwin
  have e2 : sm (fun j => if P (q a + j) && decide (T (q a + j) c = T (q a) c) then T (q a + j) o else 0) (n - q a) = sm (fun j => T (q (a + j)) o) (b - a) := by
    rw [sm_off (f := fun t => if P t && decide (T t c = T (q a) c) then T t o else 0) (fun t ht => by rw [hearly t ht]; rfl), show q a + (n - q a) = n by omega]
    have e3 : sm (fun t => if P t && decide (T t c = T (q a) c) then T t o else 0) n = sm (fun t => if P t then (if decide (T t c = T (q a) c) then T t o else 0) else 0) n := sm_congr fun t _ => by
      cases P t
      · rfl
      · rw [Bool.true_and]; rfl
    rw [e3, pm_sm h.1 (fun t => if decide (T t c = T (q a) c) then T t o else 0)]
    exact sm_win (f := fun j => T (q j) o) (p := fun j => decide (T (q j) c = T (q a) c)) (by omega) hb hwin
  have e4 : ∀ d, gB (fun j => P (q a + j) && decide (T (q a + j) c = T (q a) c)) (fun j => T (q a + j) o) d (n - q a) = bnd (fun j => T (q (a + j)) o) d (b - a - 1) := by
    intro d
    have h0 : (P (q a + 0) && decide (T (q a + 0) c = T (q a) c)) = true := by
      rw [Nat.add_zero, hqP, decide_eq_true rfl]; rfl
    apply best_eq (d := d)
    · obtain ⟨j, h1, h2, h3⟩ := gB_in (K := fun j => P (q a + j) && decide (T (q a + j) c = T (q a) c)) (f := fun j => T (q a + j) o) (d := d) h0 (n := n - q a)
      rw [h3]
      rw [Bool.and_eq_true, decide_eq_true_eq] at h2
      obtain ⟨i, hi, ei⟩ := pm_of h.1 (show q a + j < n by omega) h2.1
      have hw := (h.win hab hb hg hno hend hi).mp (by rw [ei]; exact h2.2)
      have h5 := bnd_ge (fun j => T (q (a + j)) o) d (show i - a ≤ b - a - 1 by omega)
      simp only [show a + (i - a) = i by omega, ei] at h5
      exact h5
    · obtain ⟨i, h1, h2⟩ := bnd_in (fun j => T (q (a + j)) o) d (b - a - 1)
      rw [h2]
      have hi : a + i < ct P n := by omega
      have hw := (h.win hab hb hg hno hend hi).mpr ⟨by omega, by omega⟩
      obtain ⟨hrn, hrP⟩ := pm_row h.1 hi
      have hle : q a ≤ q (a + i) := by
        apply Nat.le_of_not_lt
        intro hlt
        have := hearly _ hlt
        rw [hrP, decide_eq_true hw] at this
        cases this
      have h5 := gB_ge (K := fun j => P (q a + j) && decide (T (q a + j) c = T (q a) c)) (f := fun j => T (q a + j) o) (d := d) (n := n - q a) (j := q (a + i) - q a) (by omega) (by
        show (P (q a + (q (a + i) - q a)) && decide (T (q a + (q (a + i) - q a)) c = T (q a) c)) = true
        rw [show q a + (q (a + i) - q a) = q (a + i) by omega, hrP, decide_eq_true hw]; rfl)
      simp only [show q a + (q (a + i) - q a) = q (a + i) by omega] at h5
      exact h5
  rw [e1, e2, e4]
end EQ2
section EQ3
/-- what append and where keep -/
theorem mn_congr {x y : Nat → Int64} {d : Nat} (h : ∀ j, j ≤ d → x j = y j) : mn x d = mn y d := by
  induction d with
  | zero => exact h 0 (Nat.le_refl 0)
  | succ d ih => rw [mn, mn, ih (fun j hj => h j (by omega)), h (d + 1) (Nat.le_refl _)]
theorem mx_congr {x y : Nat → Int64} {d : Nat} (h : ∀ j, j ≤ d → x j = y j) : mx x d = mx y d := by
  induction d with
  | zero => exact h 0 (Nat.le_refl 0)
  | succ d ih => rw [mx, mx, ih (fun j hj => h j (by omega)), h (d + 1) (Nat.le_refl _)]
theorem pck_congr {x y : Nat → Int64} (h : ∀ j, j ≤ 15 → x j = y j) (cb : Nat) : pck x cb = pck y cb := by
  have hr : rns x = rns y := by
    unfold rns
    rw [ct_congr (p := fun j => !decide (x (j + 1) = x j)) (q := fun j => !decide (y (j + 1) = y j)) fun j hj => by rw [h j (by omega), h (j + 1) (by omega)]]
  have hw : wds x = wds y := by
    unfold wds
    refine ct_congr fun j hj => ?_
    unfold sb
    rw [al_congr (p := fun i => !decide (x i = x j)) (q := fun i => !decide (y i = y j)) fun i hi => by rw [h i (by omega), h j (by omega)]]
  unfold pck zR zW zO
  rw [hr, hw, mn_congr h, mx_congr h]
theorem Pk_congr {T T' : Nat → Nat → Int64} {b c : Nat} {lo hi lo' hi' : Nat → Int64} {bw bb bw' bb' : Nat → Nat} (h : Pk T b c lo hi bw bb) (hT : ∀ j, j ≤ 15 → T' (16 * b + j) c = T (16 * b + j) c) (h1 : lo' (b * 4 + c) = lo (b * 4 + c)) (h2 : hi' (b * 4 + c) = hi (b * 4 + c)) (h3 : bw' (b * 4 + c) = bw (b * 4 + c)) (h4 : bb' (b * 4 + c) = bb (b * 4 + c)) : Pk T' b c lo' hi' bw' bb' := by
  obtain ⟨e1, e2, e3, e4⟩ := h
  have hx : ∀ j, j ≤ 15 → xb T b c j = xb T' b c j := fun j hj => (hT j hj).symm
  exact ⟨by rw [h1, e1, mn_congr hx], by rw [h2, e2, mx_congr hx], by rw [h3, e3, pck_congr hx], by rw [h4, e4, pck_congr hx]⟩
theorem apT_row {T : Nat → Nat → Int64} {n i : Nat} {a b c : Int32} {d : Int64} (h : i ≠ n) (j : Nat) : apT T n a b c d i j = T i j := by
  simp [apT, tS, h]
theorem Pks_append {T : Nat → Nat → Int64} {n : Nat} {lo hi lo' hi' : Nat → Int64} {bw bb bw' bb' : Nat → Nat} {a b c : Int32} {d : Int64} (h : Pks T n lo hi bw bb)
    (h1 : ∀ c0, (n + 1) % 16 = 0 → c0 < 4 → Pk (apT T n a b c d) (n / 16) c0 lo' hi' bw' bb')
    (h2 : ∀ i, ((n + 1) % 16 ≠ 0 ∨ i < n / 16 * 4 ∨ n / 16 * 4 + 4 ≤ i) → lo' i = lo i ∧ hi' i = hi i ∧ bw' i = bw i ∧ bb' i = bb i) : Pks (apT T n a b c d) (n + 1) lo' hi' bw' bb' := by
  intro b0 c0 hb hc
  by_cases e : b0 < n / 16
  · obtain ⟨f1, f2, f3, f4⟩ := h2 (b0 * 4 + c0) (by omega)
    exact Pk_congr (h b0 c0 e hc) (fun j hj => apT_row (by omega) c0) f1 f2 f3 f4
  · have e1 : b0 = n / 16 := by omega
    subst e1
    exact h1 c0 (by omega) hc
theorem iK_where {kc ko : Nat → Nat} {k c o : Nat} (h : iK kc ko k) (hk : k < 3) (hc : c < 4) (ho : o < 6) : iK (fS kc k c) (fS ko k o) (k + 1) := by
  refine ⟨by omega, fun j => ?_, fun j => ?_⟩
  · by_cases e : j = k
    · rw [e, fS_s]; exact hc
    · rw [fS_n e]; exact h.2.1 j
  · by_cases e : j = k
    · rw [e, fS_s]; exact ho
    · rw [fS_n e]; exact h.2.2 j
theorem iK_0 {kc ko : Nat → Nat} {k : Nat} (h : iK kc ko k) : iK kc ko 0 := ⟨by omega, h.2⟩
end EQ3
