/-! The base of this proof: one list of words for every method, one way into a method, rows over Nat, calls, loops, arrays. -/
section CHB0
/-- the words that every method is given: all good words of the tables -/
def tG : List Cond := lw_tbl.filter goodWord
theorem tG_good : ∀ w ∈ tG, goodWord w = true := fun _ h => (List.mem_filter.mp h).2
theorem tG_in {w : Cond} (h : w ∈ lw_tbl) (hg : goodWord w = true) : w ∈ tG := List.mem_filter.mpr ⟨h, hg⟩
abbrev wA (y : MethodName) (b : ByteArray) (n : Nat) (r : Option FieldType) : List Cond := .code y b n r :: tG
theorem gA {y : MethodName} {b : ByteArray} {n : Nat} {r : Option FieldType} (hc : Cond.code y b n r ∈ tG) : GoodIn tG (wA y b n r) := by
  intro w hw
  rcases List.mem_cons.mp hw with rfl | h
  · exact ⟨hc, good_of_word (tG_good _ hc)⟩
  · exact ⟨h, good_of_word (tG_good _ h)⟩
/-- the room of a method that calls d deep and makes nothing -/
abbrev rN (d : Nat) : Room := { frames := d, cells := 0, slots := 0, locals := 40 * d }
/-- a truth value on the stack -/
def bI (b : Bool) : Int32 := if b then 1 else 0
theorem bI_t : bI true = 1 := rfl
theorem bI_f : bI false = 0 := rfl
theorem bI_nar (b : Bool) : narrow .boolean (.int (bI b)) = .int (bI b) := by cases b <;> rfl
/-- arrays of small numbers; a number set -/
def aN (f : Nat → Nat) : Nat → Int32 := fun j => nI (f j)
def fS {α : Type} (f : Nat → α) (i : Nat) (x : α) : Nat → α := fun j => if j = i then x else f j
theorem fS_s {α : Type} {f : Nat → α} {i : Nat} {x : α} : fS f i x i = x := by simp [fS]
theorem fS_n {α : Type} {f : Nat → α} {i j : Nat} {x : α} (h : j ≠ i) : fS f i x j = f j := by simp [fS, h]
theorem aN_set (f : Nat → Nat) (i x : Nat) : upd (aN f) i (nI x) = aN (fS f i x) := by
  funext j
  by_cases h : j = i
  · subst h; simp [upd, aN, fS]
  · simp [upd, aN, fS, h]
theorem aL_set (f : Nat → Int64) (i : Nat) (x : Int64) : vp_updL f i x = fS f i x := rfl
/-- the table of cells, by row and column; as the hall keeps it (column behind column) and as the reference does (row behind row) -/
def tS (T : Nat → Nat → Int64) (r c : Nat) (v : Int64) : Nat → Nat → Int64 := fun i j => if i = r ∧ j = c then v else T i j
def aT (T : Nat → Nat → Int64) : Nat → Int64 := fun i => T (i % 128) (i / 128)
def aR (T : Nat → Nat → Int64) : Nat → Int64 := fun i => T (i / 4) (i % 4)
theorem aT_at (T : Nat → Nat → Int64) {r c i : Nat} (hi : i = c * 128 + r) (hr : r < 128) : aT T i = T r c := by
  subst hi
  have h1 : (c * 128 + r) % 128 = r := by omega
  have h2 : (c * 128 + r) / 128 = c := by omega
  show T _ _ = _
  rw [h1, h2]
theorem aR_at (T : Nat → Nat → Int64) {r c i : Nat} (hi : i = 4 * r + c) (hc : c < 4) : aR T i = T r c := by
  subst hi
  have h1 : (4 * r + c) % 4 = c := by omega
  have h2 : (4 * r + c) / 4 = r := by omega
  show T _ _ = _
  rw [h1, h2]
theorem aT_set (T : Nat → Nat → Int64) {r c i : Nat} (v : Int64) (hi : i = c * 128 + r) (hr : r < 128) : vp_updL (aT T) i v = aT (tS T r c v) := by
  subst hi
  funext j
  by_cases h : j = c * 128 + r
  · subst h
    have h1 : (c * 128 + r) % 128 = r := by omega
    have h2 : (c * 128 + r) / 128 = c := by omega
    simp [vp_updL, aT, tS, h1, h2]
  · have h1 : ¬ (j % 128 = r ∧ j / 128 = c) := by omega
    simp [vp_updL, aT, tS, h, h1]
theorem aR_set (T : Nat → Nat → Int64) {r c i : Nat} (v : Int64) (hi : i = 4 * r + c) (hc : c < 4) : vp_updL (aR T) i v = aR (tS T r c v) := by
  subst hi
  funext j
  by_cases h : j = 4 * r + c
  · subst h
    have h1 : (4 * r + c) % 4 = c := by omega
    have h2 : (4 * r + c) / 4 = r := by omega
    simp [vp_updL, aR, tS, h1, h2]
  · have h1 : ¬ (j / 4 = r ∧ j % 4 = c) := by omega
    simp [vp_updL, aR, tS, h, h1]
/-- a world whose cells lie at ad 0, ad 1 .. : what may change, and that they are apart -/
def fA (ad : Nat → Nat) (N : Nat) : Nat → Prop := fun q => ∃ i, i < N ∧ q = ad i
def inj (ad : Nat → Nat) (N : Nat) : Prop := ∀ i j, i < N → j < N → ad i = ad j → i = j
theorem dW_at {ad : Nat → Nat} {N : Nat} {ws : va_W} (h : ws.map Prod.fst = (List.range N).map ad) {i : Nat} {p : Nat × va_E} (hp : ws[i]? = some p) : i < N ∧ p.1 = ad i := by
  have h1 : (ws.map Prod.fst)[i]? = some p.1 := by rw [List.getElem?_map, hp]; rfl
  rw [h, List.getElem?_map] at h1
  by_cases hi : i < N
  · rw [List.getElem?_range hi] at h1
    exact ⟨hi, (Option.some.inj h1).symm⟩
  · rw [List.getElem?_eq_none (by simp; omega)] at h1
    cases h1
theorem dW {ad : Nat → Nat} {N : Nat} {ws : va_W} (hN : inj ad N) (h : ws.map Prod.fst = (List.range N).map ad) : va_D (fA ad N) ws := by
  refine ⟨fun i j p q hp hq e => ?_, fun k q hq => ?_⟩
  · obtain ⟨h1, h2⟩ := dW_at h hp
    obtain ⟨h3, h4⟩ := dW_at h hq
    exact hN i j h1 h3 (by rw [← h2, ← h4]; exact e)
  · obtain ⟨h1, h2⟩ := dW_at h hq
    exact ⟨k, h1, h2⟩
/-- numbers -/
theorem inc1 (a : Nat) : nI a + Int32.ofInt 1 = nI (a + 1) := nI_1 a
theorem p31 {a : Nat} (h : a ≤ 1000000) : a < 2 ^ 31 := by omega
end CHB0
section CHB1
/-- into a method -/
theorem met_of {l : Launch} {y : MethodName} {cc : ByteArray} {maxL : Nat} {ret : Option FieldType} {rm : Room} {As : List Value} {B : State → Prop} {Qc : Array Value → State → Outcome → State → Prop} {mc ms : Nat} {free : Addr → Prop} (own : String) (ho : y.cls = own) (hy : plainName y.cls = true) (hn : (lg_sl As).length ≤ maxL)
    (body : ∀ (p : Program) (e : Env) (s : State) (m : MethodId) (below : List Frame) (meth : Method) (c : Code) (ls : Array Slot), CallFix p m c cc maxL s As.toArray tG own → meth.sig.returnType = ret → meth.locks = false → meth.name = y.name → B s → lv_has ls maxL (lv_args 0 As) → W p l e rm s m As.toArray below meth c s.heap [] 0 0 (MQ below Qc As.toArray s mc ms free) (F0 m 0 ls [])) : Met l y (wA y cc maxL ret) rm (va_Pc As B) Qc mc ms free := by
  subst ho
  refine Met.ofW (cc := cc) (maxL := maxL) (ret := ret) hy rfl ?_
  intro p e s m args below meth c s₁ Bd hml hv
  obtain ⟨rfl, hB⟩ := hv
  have hts := atoms_spec (ws := wA y cc maxL ret) Bd.pre
  rw [lg_entry_eq]
  exact body p e s m below meth c _ ⟨Bd.exec, Bd.bytes, hml, findClass_of_methodNamed Bd.named, fun w h => hts w (List.mem_cons_of_mem _ h)⟩ Bd.returns Bd.notSynchronized (name_of_methodNamed Bd.named Bd.method).1 hB (lv_entry As hn)
end CHB1
section CHB2
variable {p : Program} {l : Launch} {e : Env} {R : Room} {s : State} {m : MethodId} {args : Array Value} {below : List Frame} {meth : Method} {c : Code} {H : Heap} {locs : List Loc} {cells slots : Nat} {Q : State → Prop}
variable {cc : ByteArray} {pc : Nat} {ls : Array Slot} {rest : List Value} {nL : Nat} {own : String}
theorem tpi {x y : Int32} (h : x = y) (k : W p l e R s m args below meth c H locs cells slots Q (F0 m pc ls (.int y :: rest))) : W p l e R s m args below meth c H locs cells slots Q (F0 m pc ls (.int x :: rest)) := h ▸ k
theorem tpl {x y : Int64} (h : x = y) (k : W p l e R s m args below meth c H locs cells slots Q (F0 m pc ls (.long y :: rest))) : W p l e R s m args below meth c H locs cells slots Q (F0 m pc ls (.long x :: rest)) := h ▸ k
theorem n_iadd (E : CallFix p m c cc nL s args tG own) {a b : Nat} (hdg : decode cc pc = .ok (.iadd, 1)) (k : W p l e R s m args below meth c H locs cells slots Q (F0 m (pc + 1) ls (.int (nI (a + b)) :: rest))) : W p l e R s m args below meth c H locs cells slots Q (F0 m pc ls (.int (nI b) :: .int (nI a) :: rest)) := lv_iadd E.1 E.2.1 hdg (tpi (nI_add a b) k)
theorem n_isub (E : CallFix p m c cc nL s args tG own) {a b : Nat} (h : b ≤ a) (hdg : decode cc pc = .ok (.isub, 1)) (k : W p l e R s m args below meth c H locs cells slots Q (F0 m (pc + 1) ls (.int (nI (a - b)) :: rest))) : W p l e R s m args below meth c H locs cells slots Q (F0 m pc ls (.int (nI b) :: .int (nI a) :: rest)) := lv_isub E.1 E.2.1 hdg (tpi (pk_sub h) k)
theorem n_imul (E : CallFix p m c cc nL s args tG own) {a b : Nat} (hdg : decode cc pc = .ok (.imul, 1)) (k : W p l e R s m args below meth c H locs cells slots Q (F0 m (pc + 1) ls (.int (nI (a * b)) :: rest))) : W p l e R s m args below meth c H locs cells slots Q (F0 m pc ls (.int (nI b) :: .int (nI a) :: rest)) := lv_imul E.1 E.2.1 hdg (tpi (pk_mul a b) k)
theorem n_icmp_lt (E : CallFix p m c cc nL s args tG own) {a b : Nat} {off : Int} {tgt : Nat} (hdg : decode cc pc = .ok (.if_icmp .lt off, 3)) (ht : (pc : Int) + off = (tgt : Int)) (ha : a < 2 ^ 31) (hb : b < 2 ^ 31)
    (kt : a < b → W p l e R s m args below meth c H locs cells slots Q (F0 m tgt ls rest)) (kf : b ≤ a → W p l e R s m args below meth c H locs cells slots Q (F0 m (pc + 3) ls rest)) : W p l e R s m args below meth c H locs cells slots Q (F0 m pc ls (.int (nI b) :: .int (nI a) :: rest)) :=
  lv_icmp_lt E.1 E.2.1 hdg ht (fun h => kt ((nI_ltI ha hb).mp h)) (fun h => kf (Nat.not_lt.mp fun q => h ((nI_ltI ha hb).mpr q)))
theorem n_icmp_ge (E : CallFix p m c cc nL s args tG own) {a b : Nat} {off : Int} {tgt : Nat} (hdg : decode cc pc = .ok (.if_icmp .ge off, 3)) (ht : (pc : Int) + off = (tgt : Int)) (ha : a < 2 ^ 31) (hb : b < 2 ^ 31)
    (kt : b ≤ a → W p l e R s m args below meth c H locs cells slots Q (F0 m tgt ls rest)) (kf : a < b → W p l e R s m args below meth c H locs cells slots Q (F0 m (pc + 3) ls rest)) : W p l e R s m args below meth c H locs cells slots Q (F0 m pc ls (.int (nI b) :: .int (nI a) :: rest)) :=
  lv_icmp_ge E.1 E.2.1 hdg ht (fun h => kt ((nI_leI hb ha).mp h)) (fun h => kf (Nat.not_le.mp fun q => h ((nI_leI hb ha).mpr q)))
theorem n_icmp_gt (E : CallFix p m c cc nL s args tG own) {a b : Nat} {off : Int} {tgt : Nat} (hdg : decode cc pc = .ok (.if_icmp .gt off, 3)) (ht : (pc : Int) + off = (tgt : Int)) (ha : a < 2 ^ 31) (hb : b < 2 ^ 31)
    (kt : b < a → W p l e R s m args below meth c H locs cells slots Q (F0 m tgt ls rest)) (kf : a ≤ b → W p l e R s m args below meth c H locs cells slots Q (F0 m (pc + 3) ls rest)) : W p l e R s m args below meth c H locs cells slots Q (F0 m pc ls (.int (nI b) :: .int (nI a) :: rest)) :=
  lv_icmp_gt E.1 E.2.1 hdg ht (fun h => kt ((nI_ltI hb ha).mp h)) (fun h => kf (Nat.not_lt.mp fun q => h ((nI_ltI hb ha).mpr q)))
theorem n_icmp_le (E : CallFix p m c cc nL s args tG own) {a b : Nat} {off : Int} {tgt : Nat} (hdg : decode cc pc = .ok (.if_icmp .le off, 3)) (ht : (pc : Int) + off = (tgt : Int)) (ha : a < 2 ^ 31) (hb : b < 2 ^ 31)
    (kt : a ≤ b → W p l e R s m args below meth c H locs cells slots Q (F0 m tgt ls rest)) (kf : b < a → W p l e R s m args below meth c H locs cells slots Q (F0 m (pc + 3) ls rest)) : W p l e R s m args below meth c H locs cells slots Q (F0 m pc ls (.int (nI b) :: .int (nI a) :: rest)) :=
  lv_icmp_le E.1 E.2.1 hdg ht (fun h => kt ((nI_leI ha hb).mp h)) (fun h => kf (Nat.not_le.mp fun q => h ((nI_leI ha hb).mpr q)))
theorem n_icmp_eq (E : CallFix p m c cc nL s args tG own) {a b : Nat} {off : Int} {tgt : Nat} (hdg : decode cc pc = .ok (.if_icmp .eq off, 3)) (ht : (pc : Int) + off = (tgt : Int)) (ha : a < 2 ^ 31) (hb : b < 2 ^ 31)
    (kt : a = b → W p l e R s m args below meth c H locs cells slots Q (F0 m tgt ls rest)) (kf : ¬ a = b → W p l e R s m args below meth c H locs cells slots Q (F0 m (pc + 3) ls rest)) : W p l e R s m args below meth c H locs cells slots Q (F0 m pc ls (.int (nI b) :: .int (nI a) :: rest)) :=
  lv_icmp_eq E.1 E.2.1 hdg ht (fun h => kt ((nI_eq ha hb).mp h)) (fun h => kf (fun q => h ((nI_eq ha hb).mpr q)))
theorem n_icmp_ne (E : CallFix p m c cc nL s args tG own) {a b : Nat} {off : Int} {tgt : Nat} (hdg : decode cc pc = .ok (.if_icmp .ne off, 3)) (ht : (pc : Int) + off = (tgt : Int)) (ha : a < 2 ^ 31) (hb : b < 2 ^ 31)
    (kt : ¬ a = b → W p l e R s m args below meth c H locs cells slots Q (F0 m tgt ls rest)) (kf : a = b → W p l e R s m args below meth c H locs cells slots Q (F0 m (pc + 3) ls rest)) : W p l e R s m args below meth c H locs cells slots Q (F0 m pc ls (.int (nI b) :: .int (nI a) :: rest)) :=
  lv_icmp_ne E.1 E.2.1 hdg ht (fun h => kt (fun q => h ((nI_eq ha hb).mpr q))) (fun h => kf ((nI_eq ha hb).mp h))
/-- branches on a number -/
theorem n_if_eq (E : CallFix p m c cc nL s args tG own) {a : Nat} {off : Int} {tgt : Nat} (hdg : decode cc pc = .ok (.ifCond .eq off, 3)) (ht : (pc : Int) + off = (tgt : Int)) (ha : a < 2 ^ 31)
    (kt : a = 0 → W p l e R s m args below meth c H locs cells slots Q (F0 m tgt ls rest)) (kf : ¬ a = 0 → W p l e R s m args below meth c H locs cells slots Q (F0 m (pc + 3) ls rest)) : W p l e R s m args below meth c H locs cells slots Q (F0 m pc ls (.int (nI a) :: rest)) :=
  lv_if_eq E.1 E.2.1 hdg ht (fun h => kt ((nI_eq ha (p31 (by omega : 0 ≤ 1000000))).mp (h.trans nI_0.symm))) (fun h => kf (fun q => h (by rw [q]; exact nI_0)))
theorem n_if_ne (E : CallFix p m c cc nL s args tG own) {a : Nat} {off : Int} {tgt : Nat} (hdg : decode cc pc = .ok (.ifCond .ne off, 3)) (ht : (pc : Int) + off = (tgt : Int)) (ha : a < 2 ^ 31)
    (kt : ¬ a = 0 → W p l e R s m args below meth c H locs cells slots Q (F0 m tgt ls rest)) (kf : a = 0 → W p l e R s m args below meth c H locs cells slots Q (F0 m (pc + 3) ls rest)) : W p l e R s m args below meth c H locs cells slots Q (F0 m pc ls (.int (nI a) :: rest)) :=
  lv_if_ne E.1 E.2.1 hdg ht (fun h => kt (fun q => h (by rw [q]; exact nI_0))) (fun h => kf ((nI_eq ha (p31 (by omega : 0 ≤ 1000000))).mp (h.trans nI_0.symm)))
theorem n_if_le (E : CallFix p m c cc nL s args tG own) {a : Nat} {off : Int} {tgt : Nat} (hdg : decode cc pc = .ok (.ifCond .le off, 3)) (ht : (pc : Int) + off = (tgt : Int)) (ha : a < 2 ^ 31)
    (kt : a = 0 → W p l e R s m args below meth c H locs cells slots Q (F0 m tgt ls rest)) (kf : 0 < a → W p l e R s m args below meth c H locs cells slots Q (F0 m (pc + 3) ls rest)) : W p l e R s m args below meth c H locs cells slots Q (F0 m pc ls (.int (nI a) :: rest)) :=
  lv_if_le E.1 E.2.1 hdg ht (fun h => kt (Nat.eq_zero_of_not_pos fun q => nI_nle q ha h)) (fun h => kf (Nat.pos_of_ne_zero fun q => h (by rw [q, nI_0]; decide)))
theorem n_if_ge (E : CallFix p m c cc nL s args tG own) {a : Nat} {off : Int} {tgt : Nat} (hdg : decode cc pc = .ok (.ifCond .ge off, 3)) (ht : (pc : Int) + off = (tgt : Int)) (ha : a < 2 ^ 31)
    (kt : W p l e R s m args below meth c H locs cells slots Q (F0 m tgt ls rest)) : W p l e R s m args below meth c H locs cells slots Q (F0 m pc ls (.int (nI a) :: rest)) :=
  lv_if_ge E.1 E.2.1 hdg ht (fun _ => kt) (fun h => absurd (nI_pos' ha) h)
theorem n_if_lt (E : CallFix p m c cc nL s args tG own) {a : Nat} {off : Int} {tgt : Nat} (hdg : decode cc pc = .ok (.ifCond .lt off, 3)) (ht : (pc : Int) + off = (tgt : Int)) (ha : a < 2 ^ 31)
    (kf : W p l e R s m args below meth c H locs cells slots Q (F0 m (pc + 3) ls rest)) : W p l e R s m args below meth c H locs cells slots Q (F0 m pc ls (.int (nI a) :: rest)) :=
  lv_if_lt E.1 E.2.1 hdg ht (fun h => absurd h (nI_pos ha)) (fun _ => kf)
/-- branches on a truth value -/
theorem b_if_eq (E : CallFix p m c cc nL s args tG own) {b : Bool} {off : Int} {tgt : Nat} (hdg : decode cc pc = .ok (.ifCond .eq off, 3)) (ht : (pc : Int) + off = (tgt : Int))
    (kt : b = false → W p l e R s m args below meth c H locs cells slots Q (F0 m tgt ls rest)) (kf : b = true → W p l e R s m args below meth c H locs cells slots Q (F0 m (pc + 3) ls rest)) : W p l e R s m args below meth c H locs cells slots Q (F0 m pc ls (.int (bI b) :: rest)) :=
  lv_if_eq E.1 E.2.1 hdg ht (fun h => kt (by cases b; rfl; exact absurd h (by decide))) (fun h => kf (by cases b; exact absurd rfl h; rfl))
theorem b_if_ne (E : CallFix p m c cc nL s args tG own) {b : Bool} {off : Int} {tgt : Nat} (hdg : decode cc pc = .ok (.ifCond .ne off, 3)) (ht : (pc : Int) + off = (tgt : Int))
    (kt : b = true → W p l e R s m args below meth c H locs cells slots Q (F0 m tgt ls rest)) (kf : b = false → W p l e R s m args below meth c H locs cells slots Q (F0 m (pc + 3) ls rest)) : W p l e R s m args below meth c H locs cells slots Q (F0 m pc ls (.int (bI b) :: rest)) :=
  lv_if_ne E.1 E.2.1 hdg ht (fun h => kt (by cases b; exact absurd rfl h; rfl)) (fun h => kf (by cases b; rfl; exact absurd h (by decide)))
/-- branches on two longs: the compare and the jump behind it -/
theorem l_if_lt (E : CallFix p m c cc nL s args tG own) {x y : Int64} {off : Int} {tgt : Nat} (hd1 : decode cc pc = .ok (.lcmp, 1)) (hd2 : decode cc (pc + 1) = .ok (.ifCond .lt off, 3)) (ht : ((pc + 1 : Nat) : Int) + off = (tgt : Int))
    (kt : x < y → W p l e R s m args below meth c H locs cells slots Q (F0 m tgt ls rest)) (kf : ¬ x < y → W p l e R s m args below meth c H locs cells slots Q (F0 m (pc + 1 + 3) ls rest)) : W p l e R s m args below meth c H locs cells slots Q (F0 m pc ls (.long y :: .long x :: rest)) :=
  W.lcmp E.1 E.2.1 hd1 (lv_if_lt E.1 E.2.1 hd2 ht (fun h => kt ((lg_cmp_lt x y).mp h)) (fun h => kf fun q => h ((lg_cmp_lt x y).mpr q)))
theorem l_if_ge (E : CallFix p m c cc nL s args tG own) {x y : Int64} {off : Int} {tgt : Nat} (hd1 : decode cc pc = .ok (.lcmp, 1)) (hd2 : decode cc (pc + 1) = .ok (.ifCond .ge off, 3)) (ht : ((pc + 1 : Nat) : Int) + off = (tgt : Int))
    (kt : ¬ x < y → W p l e R s m args below meth c H locs cells slots Q (F0 m tgt ls rest)) (kf : x < y → W p l e R s m args below meth c H locs cells slots Q (F0 m (pc + 1 + 3) ls rest)) : W p l e R s m args below meth c H locs cells slots Q (F0 m pc ls (.long y :: .long x :: rest)) :=
  W.lcmp E.1 E.2.1 hd1 (lv_if_ge E.1 E.2.1 hd2 ht (fun h => kt (Int64.not_lt.mpr ((lg_cmp_ge x y).mp h))) (fun h => kf (Classical.byContradiction fun q => h ((lg_cmp_ge x y).mpr (Int64.not_lt.mp q)))))
theorem l_if_gt (E : CallFix p m c cc nL s args tG own) {x y : Int64} {off : Int} {tgt : Nat} (hd1 : decode cc pc = .ok (.lcmp, 1)) (hd2 : decode cc (pc + 1) = .ok (.ifCond .gt off, 3)) (ht : ((pc + 1 : Nat) : Int) + off = (tgt : Int))
    (kt : y < x → W p l e R s m args below meth c H locs cells slots Q (F0 m tgt ls rest)) (kf : ¬ y < x → W p l e R s m args below meth c H locs cells slots Q (F0 m (pc + 1 + 3) ls rest)) : W p l e R s m args below meth c H locs cells slots Q (F0 m pc ls (.long y :: .long x :: rest)) :=
  W.lcmp E.1 E.2.1 hd1 (lv_if_gt E.1 E.2.1 hd2 ht (fun h => kt ((lg_cmp_gt x y).mp h)) (fun h => kf fun q => h ((lg_cmp_gt x y).mpr q)))
theorem l_if_le (E : CallFix p m c cc nL s args tG own) {x y : Int64} {off : Int} {tgt : Nat} (hd1 : decode cc pc = .ok (.lcmp, 1)) (hd2 : decode cc (pc + 1) = .ok (.ifCond .le off, 3)) (ht : ((pc + 1 : Nat) : Int) + off = (tgt : Int))
    (kt : ¬ y < x → W p l e R s m args below meth c H locs cells slots Q (F0 m tgt ls rest)) (kf : y < x → W p l e R s m args below meth c H locs cells slots Q (F0 m (pc + 1 + 3) ls rest)) : W p l e R s m args below meth c H locs cells slots Q (F0 m pc ls (.long y :: .long x :: rest)) :=
  W.lcmp E.1 E.2.1 hd1 (lv_if_le E.1 E.2.1 hd2 ht (fun h => kt (Int64.not_lt.mpr ((lg_cmp_le x y).mp h))) (fun h => kf (Classical.byContradiction fun q => h ((lg_cmp_le x y).mpr (Int64.not_lt.mp q)))))
theorem l_if_eq (E : CallFix p m c cc nL s args tG own) {x y : Int64} {off : Int} {tgt : Nat} (hd1 : decode cc pc = .ok (.lcmp, 1)) (hd2 : decode cc (pc + 1) = .ok (.ifCond .eq off, 3)) (ht : ((pc + 1 : Nat) : Int) + off = (tgt : Int))
    (kt : x = y → W p l e R s m args below meth c H locs cells slots Q (F0 m tgt ls rest)) (kf : ¬ x = y → W p l e R s m args below meth c H locs cells slots Q (F0 m (pc + 1 + 3) ls rest)) : W p l e R s m args below meth c H locs cells slots Q (F0 m pc ls (.long y :: .long x :: rest)) :=
  W.lcmp E.1 E.2.1 hd1 (lv_if_eq E.1 E.2.1 hd2 ht (fun h => kt ((lg_cmp_eq x y).mp h)) (fun h => kf fun q => h ((lg_cmp_eq x y).mpr q)))
theorem l_if_ne (E : CallFix p m c cc nL s args tG own) {x y : Int64} {off : Int} {tgt : Nat} (hd1 : decode cc pc = .ok (.lcmp, 1)) (hd2 : decode cc (pc + 1) = .ok (.ifCond .ne off, 3)) (ht : ((pc + 1 : Nat) : Int) + off = (tgt : Int))
    (kt : ¬ x = y → W p l e R s m args below meth c H locs cells slots Q (F0 m tgt ls rest)) (kf : x = y → W p l e R s m args below meth c H locs cells slots Q (F0 m (pc + 1 + 3) ls rest)) : W p l e R s m args below meth c H locs cells slots Q (F0 m pc ls (.long y :: .long x :: rest)) :=
  W.lcmp E.1 E.2.1 hd1 (lv_if_ne E.1 E.2.1 hd2 ht (fun h => kt fun q => h ((lg_cmp_eq x y).mpr q)) (fun h => kf ((lg_cmp_eq x y).mp h)))
/-- loops: the heap stays (one, two, three things that change) -/
theorem w_lp1 {A1 : Type} (I : A1 → Prop) (μ : A1 → Nat) (lv : A1 → List (Nat × Value)) (a1 : A1) (h0 : I a1) (hl : lv_has ls nL (lv a1))
    (step : ∀ (a1 : A1) (ls : Array Slot), I a1 → lv_has ls nL (lv a1) → (∀ (b1 : A1) (ls' : Array Slot), I b1 → μ b1 < μ a1 → lv_has ls' nL (lv b1) → W p l e R s m args below meth c H locs cells slots Q (F0 m pc ls' rest)) → W p l e R s m args below meth c H locs cells slots Q (F0 m pc ls rest)) : W p l e R s m args below meth c H locs cells slots Q (F0 m pc ls rest) := by
  have key : ∀ (n : Nat) (a1 : A1) (ls : Array Slot), μ a1 < n → I a1 → lv_has ls nL (lv a1) → W p l e R s m args below meth c H locs cells slots Q (F0 m pc ls rest) := by
    intro n
    induction n with
    | zero => intro a1 ls h; omega
    | succ n ih => intro a1 ls h hI hl; exact step a1 ls hI hl (fun b1 ls' hb hm hl' => ih b1 ls' (by omega) hb hl')
  exact key _ a1 ls (Nat.lt_succ_self _) h0 hl
theorem w_lp2 {A1 A2 : Type} (I : A1 → A2 → Prop) (μ : A1 → A2 → Nat) (lv : A1 → A2 → List (Nat × Value)) (a1 : A1) (a2 : A2) (h0 : I a1 a2) (hl : lv_has ls nL (lv a1 a2))
    (step : ∀ (a1 : A1) (a2 : A2) (ls : Array Slot), I a1 a2 → lv_has ls nL (lv a1 a2) → (∀ (b1 : A1) (b2 : A2) (ls' : Array Slot), I b1 b2 → μ b1 b2 < μ a1 a2 → lv_has ls' nL (lv b1 b2) → W p l e R s m args below meth c H locs cells slots Q (F0 m pc ls' rest)) → W p l e R s m args below meth c H locs cells slots Q (F0 m pc ls rest)) : W p l e R s m args below meth c H locs cells slots Q (F0 m pc ls rest) :=
  w_lp1 (A1 := A1 × A2) (fun x => I x.1 x.2) (fun x => μ x.1 x.2) (fun x => lv x.1 x.2) (a1, a2) h0 hl (fun x ls hI hl ih => step x.1 x.2 ls hI hl (fun b1 b2 ls' hb hm hl' => ih (b1, b2) ls' hb hm hl'))
theorem w_lp3 {A1 A2 A3 : Type} (I : A1 → A2 → A3 → Prop) (μ : A1 → A2 → A3 → Nat) (lv : A1 → A2 → A3 → List (Nat × Value)) (a1 : A1) (a2 : A2) (a3 : A3) (h0 : I a1 a2 a3) (hl : lv_has ls nL (lv a1 a2 a3))
    (step : ∀ (a1 : A1) (a2 : A2) (a3 : A3) (ls : Array Slot), I a1 a2 a3 → lv_has ls nL (lv a1 a2 a3) → (∀ (b1 : A1) (b2 : A2) (b3 : A3) (ls' : Array Slot), I b1 b2 b3 → μ b1 b2 b3 < μ a1 a2 a3 → lv_has ls' nL (lv b1 b2 b3) → W p l e R s m args below meth c H locs cells slots Q (F0 m pc ls' rest)) → W p l e R s m args below meth c H locs cells slots Q (F0 m pc ls rest)) : W p l e R s m args below meth c H locs cells slots Q (F0 m pc ls rest) :=
  w_lp1 (A1 := A1 × A2 × A3) (fun x => I x.1 x.2.1 x.2.2) (fun x => μ x.1 x.2.1 x.2.2) (fun x => lv x.1 x.2.1 x.2.2) (a1, a2, a3) h0 hl (fun x ls hI hl ih => step x.1 x.2.1 x.2.2 ls hI hl (fun b1 b2 b3 ls' hb hm hl' => ih (b1, b2, b3) ls' hb hm hl'))
/-- loops that write -/
theorem w_lq1 {A1 : Type} (I : A1 → Prop) (μ : A1 → Nat) (lv : A1 → List (Nat × Value)) (B : A1 → Heap → List Loc → Prop) (a1 : A1) (h0 : I a1) (hB : B a1 H locs) (hl : lv_has ls nL (lv a1))
    (step : ∀ (a1 : A1) (ls : Array Slot) (H : Heap) (locs : List Loc), I a1 → B a1 H locs → lv_has ls nL (lv a1) → (∀ (b1 : A1) (ls' : Array Slot) (H' : Heap) (locs' : List Loc), I b1 → μ b1 < μ a1 → B b1 H' locs' → lv_has ls' nL (lv b1) → W p l e R s m args below meth c H' locs' cells slots Q (F0 m pc ls' rest)) → W p l e R s m args below meth c H locs cells slots Q (F0 m pc ls rest)) : W p l e R s m args below meth c H locs cells slots Q (F0 m pc ls rest) := by
  have key : ∀ (n : Nat) (a1 : A1) (ls : Array Slot) (H : Heap) (locs : List Loc), μ a1 < n → I a1 → B a1 H locs → lv_has ls nL (lv a1) → W p l e R s m args below meth c H locs cells slots Q (F0 m pc ls rest) := by
    intro n
    induction n with
    | zero => intro a1 ls H locs h; omega
    | succ n ih => intro a1 ls H locs h hI hB hl; exact step a1 ls H locs hI hB hl (fun b1 ls' H' locs' hb hm hB' hl' => ih b1 ls' H' locs' (by omega) hb hB' hl')
  exact key _ a1 ls H locs (Nat.lt_succ_self _) h0 hB hl
theorem w_lq2 {A1 A2 : Type} (I : A1 → A2 → Prop) (μ : A1 → A2 → Nat) (lv : A1 → A2 → List (Nat × Value)) (B : A1 → A2 → Heap → List Loc → Prop) (a1 : A1) (a2 : A2) (h0 : I a1 a2) (hB : B a1 a2 H locs) (hl : lv_has ls nL (lv a1 a2))
    (step : ∀ (a1 : A1) (a2 : A2) (ls : Array Slot) (H : Heap) (locs : List Loc), I a1 a2 → B a1 a2 H locs → lv_has ls nL (lv a1 a2) → (∀ (b1 : A1) (b2 : A2) (ls' : Array Slot) (H' : Heap) (locs' : List Loc), I b1 b2 → μ b1 b2 < μ a1 a2 → B b1 b2 H' locs' → lv_has ls' nL (lv b1 b2) → W p l e R s m args below meth c H' locs' cells slots Q (F0 m pc ls' rest)) → W p l e R s m args below meth c H locs cells slots Q (F0 m pc ls rest)) : W p l e R s m args below meth c H locs cells slots Q (F0 m pc ls rest) :=
  w_lq1 (A1 := A1 × A2) (fun x => I x.1 x.2) (fun x => μ x.1 x.2) (fun x => lv x.1 x.2) (fun x => B x.1 x.2) (a1, a2) h0 hB hl (fun x ls H locs hI hB hl ih => step x.1 x.2 ls H locs hI hB hl (fun b1 b2 ls' H' locs' hb hm hB' hl' => ih (b1, b2) ls' H' locs' hb hm hB' hl'))
theorem w_lq3 {A1 A2 A3 : Type} (I : A1 → A2 → A3 → Prop) (μ : A1 → A2 → A3 → Nat) (lv : A1 → A2 → A3 → List (Nat × Value)) (B : A1 → A2 → A3 → Heap → List Loc → Prop) (a1 : A1) (a2 : A2) (a3 : A3) (h0 : I a1 a2 a3) (hB : B a1 a2 a3 H locs) (hl : lv_has ls nL (lv a1 a2 a3))
    (step : ∀ (a1 : A1) (a2 : A2) (a3 : A3) (ls : Array Slot) (H : Heap) (locs : List Loc), I a1 a2 a3 → B a1 a2 a3 H locs → lv_has ls nL (lv a1 a2 a3) → (∀ (b1 : A1) (b2 : A2) (b3 : A3) (ls' : Array Slot) (H' : Heap) (locs' : List Loc), I b1 b2 b3 → μ b1 b2 b3 < μ a1 a2 a3 → B b1 b2 b3 H' locs' → lv_has ls' nL (lv b1 b2 b3) → W p l e R s m args below meth c H' locs' cells slots Q (F0 m pc ls' rest)) → W p l e R s m args below meth c H locs cells slots Q (F0 m pc ls rest)) : W p l e R s m args below meth c H locs cells slots Q (F0 m pc ls rest) :=
  w_lq1 (A1 := A1 × A2 × A3) (fun x => I x.1 x.2.1 x.2.2) (fun x => μ x.1 x.2.1 x.2.2) (fun x => lv x.1 x.2.1 x.2.2) (fun x => B x.1 x.2.1 x.2.2) (a1, a2, a3) h0 hB hl (fun x ls H locs hI hB hl ih => step x.1 x.2.1 x.2.2 ls H locs hI hB hl (fun b1 b2 b3 ls' H' locs' hb hm hB' hl' => ih (b1, b2, b3) ls' H' locs' hb hm hB' hl'))
end CHB2
section CHB3
variable {p : Program} {l : Launch} {e : Env} {R : Room} {s : State} {m : MethodId} {args : Array Value} {below : List Frame} {meth : Method} {c : Code} {H : Heap} {locs : List Loc} {cells slots : Nat} {Q : State → Prop}
variable {cc : ByteArray} {pc : Nat} {ls : Array Slot} {rest : List Value} {nL : Nat} {own : String}
variable {D : va_G} {cl : List vw_C} {A : Nat → Prop} {a : Nat} {tys : List (ClassId × FieldType)} {ws : va_W} {H0 : Heap}
/-- fields -/
theorem n_get (E : CallFix p m c cc nL s args tG own) {C : String} {T : u_T} {N ci index : Nat} (hin : ∀ w ∈ u_ws C T N, w ∈ tG) (hK : va_K D cl tys s) (hP : va_P D cl ws H) (q0 : Nat) {fs : List Value} (he : ws[q0]? = some (a, .inr (ci, fs))) (hc : cl[ci]? = some (C, T, N)) (k : Nat) (hk : k < N) (hlink : Cond.fieldLink own index C (T k).2.1 (T k).2.2.1 ∈ tG) (hdecl : (T k).1 = C) {v : Value} (hv : fs[k]? = some v) (hdg : decode cc pc = .ok (.getfield index, 3))
    (kk : W p l e R s m args below meth c H locs cells slots Q (F0 m (pc + 3) ls (v :: rest))) : W p l e R s m args below meth c H locs cells slots Q (F0 m pc ls (.ref a :: rest)) :=
  va_get E.1 E.2.1 E.2.2.2.2 hin E.2.2.2.1 hK hP q0 he hc k hk (E.2.2.2.2 _ hlink) (fun x h => by rw [hdecl] at h; exact h) hv hdg kk
theorem n_put (E : CallFix p m c cc nL s args tG own) {C : String} {T : u_T} {N ci index : Nat} (hin : ∀ w ∈ u_ws C T N, w ∈ tG) (ty0 : Nat → FieldType) (hty : ∀ k, k < N → parseFieldDescriptor (T k).2.2.1 = some (ty0 k)) (hnm : ∀ a, a < N → ∀ b, b < N → a ≠ b → (T a).2.1 ≠ (T b).2.1) (hK : va_K D cl tys s) (hP : va_P D cl ws H) (hD : va_D A ws) (hS : va_S A H0 H locs) (q0 : Nat) {fs : List Value} (he : ws[q0]? = some (a, .inr (ci, fs))) (hc : cl[ci]? = some (C, T, N)) (k : Nat) (hk : k < N) (hlink : Cond.fieldLink own index C (T k).2.1 (T k).2.2.1 ∈ tG) (hdecl : (T k).1 = C) (hfin : (T k).2.2.2 = false) (hd : parseFieldDescriptor (T k).2.2.1 = some .int) {x : Int32} (hl : k < fs.length) (hdg : decode cc pc = .ok (.putfield index, 3))
    (kk : ∀ (H1 : Heap) (locs1 : List Loc), va_P D cl (ws.set q0 (a, .inr (ci, fs.set k (.int x)))) H1 → va_S A H0 H1 locs1 → W p l e R s m args below meth c H1 locs1 cells slots Q (F0 m (pc + 3) ls rest)) : W p l e R s m args below meth c H locs cells slots Q (F0 m pc ls (.int x :: .ref a :: rest)) :=
  va_put E.1 E.2.1 E.2.2.2.2 hin ty0 hty hnm E.2.2.2.1 hK hP hD hS q0 he hc k hk (E.2.2.2.2 _ hlink) (fun x h => by rw [hdecl] at h; exact h) hfin hd (vp_nar_int x) rfl hl hdg (fun H1 locs1 h1 _ h3 => kk H1 locs1 h1 h3)
/-- arrays -/
theorem n_iald (E : CallFix p m c cc nL s args tG own) (hK : va_K D cl tys s) (hP : va_P D cl ws H) (q0 t0 : Nat) {cA : ClassId} {n : Nat} {f : Nat → Nat} (ha : ws[q0]? = some (a, .inl (cA, n, .inl (aN f)))) (ht : tys[t0]? = some (cA, .int)) {i : Nat} (hn : n < 2 ^ 31) (hi : i < n) (hdg : decode cc pc = .ok (.iaload, 1))
    (kk : W p l e R s m args below meth c H locs cells slots Q (F0 m (pc + 1) ls (.int (nI (f i)) :: rest))) : W p l e R s m args below meth c H locs cells slots Q (F0 m pc ls (.int (nI i) :: .ref a :: rest)) :=
  va_iald E.1 E.2.1 hK hP q0 t0 ha ht (vp_in_nI hi hn) hdg (tpi (by show nI (f _) = _; rw [nI_clamp (Nat.lt_trans hi hn)]) kk)
theorem n_lald (E : CallFix p m c cc nL s args tG own) (hK : va_K D cl tys s) (hP : va_P D cl ws H) (q0 t0 : Nat) {cA : ClassId} {n : Nat} {f : Nat → Int64} (ha : ws[q0]? = some (a, .inl (cA, n, .inr (.inl f)))) (ht : tys[t0]? = some (cA, .long)) {i : Nat} (hn : n < 2 ^ 31) (hi : i < n) (hdg : decode cc pc = .ok (.laload, 1))
    (kk : W p l e R s m args below meth c H locs cells slots Q (F0 m (pc + 1) ls (.long (f i) :: rest))) : W p l e R s m args below meth c H locs cells slots Q (F0 m pc ls (.int (nI i) :: .ref a :: rest)) :=
  va_lald E.1 E.2.1 hK hP q0 t0 ha ht (vp_in_nI hi hn) hdg (tpl (by rw [nI_clamp (Nat.lt_trans hi hn)]) kk)
/-- a cell of the table of the hall -/
theorem n_cald (E : CallFix p m c cc nL s args tG own) (hK : va_K D cl tys s) (hP : va_P D cl ws H) (q0 t0 : Nat) {cA : ClassId} {T : Nat → Nat → Int64} (ha : ws[q0]? = some (a, .inl (cA, 512, .inr (.inl (aT T))))) (ht : tys[t0]? = some (cA, .long)) {i : Nat} (r c0 : Nat) (hi : i = c0 * 128 + r) (hr : r < 128) (hc : c0 < 4) (hdg : decode cc pc = .ok (.laload, 1))
    (kk : W p l e R s m args below meth c H locs cells slots Q (F0 m (pc + 1) ls (.long (T r c0) :: rest))) : W p l e R s m args below meth c H locs cells slots Q (F0 m pc ls (.int (nI i) :: .ref a :: rest)) :=
  n_lald E hK hP q0 t0 ha ht (by omega) (by omega) hdg (tpl (aT_at T hi hr) kk)
/-- a cell of the reference's table -/
theorem n_rald (E : CallFix p m c cc nL s args tG own) (hK : va_K D cl tys s) (hP : va_P D cl ws H) (q0 t0 : Nat) {cA : ClassId} {T : Nat → Nat → Int64} (ha : ws[q0]? = some (a, .inl (cA, 512, .inr (.inl (aR T))))) (ht : tys[t0]? = some (cA, .long)) {i : Nat} (r c0 : Nat) (hi : i = 4 * r + c0) (hr : r < 128) (hc : c0 < 4) (hdg : decode cc pc = .ok (.laload, 1))
    (kk : W p l e R s m args below meth c H locs cells slots Q (F0 m (pc + 1) ls (.long (T r c0) :: rest))) : W p l e R s m args below meth c H locs cells slots Q (F0 m pc ls (.int (nI i) :: .ref a :: rest)) :=
  n_lald E hK hP q0 t0 ha ht (by omega) (by omega) hdg (tpl (aR_at T hi hc) kk)
theorem n_iast (E : CallFix p m c cc nL s args tG own) (hK : va_K D cl tys s) (hP : va_P D cl ws H) (hD : va_D A ws) (hS : va_S A H0 H locs) (q0 t0 : Nat) {cA : ClassId} {n : Nat} {f : Nat → Nat} (ha : ws[q0]? = some (a, .inl (cA, n, .inl (aN f)))) (ht : tys[t0]? = some (cA, .int)) {i x : Nat} (hn : n < 2 ^ 31) (hi : i < n) (hdg : decode cc pc = .ok (.iastore, 1))
    (kk : ∀ (H1 : Heap) (locs1 : List Loc), va_P D cl (ws.set q0 (a, .inl (cA, n, .inl (aN (fS f i x))))) H1 → va_S A H0 H1 locs1 → W p l e R s m args below meth c H1 locs1 cells slots Q (F0 m (pc + 1) ls rest)) : W p l e R s m args below meth c H locs cells slots Q (F0 m pc ls (.int (nI x) :: .int (nI i) :: .ref a :: rest)) :=
  va_iast E.1 E.2.1 hK hP hD hS q0 t0 ha ht (vp_in_nI hi hn) hdg (fun H1 locs1 h1 _ h3 => kk H1 locs1 (by rw [nI_clamp (Nat.lt_trans hi hn), aN_set] at h1; exact h1) h3)
theorem n_last (E : CallFix p m c cc nL s args tG own) (hK : va_K D cl tys s) (hP : va_P D cl ws H) (hD : va_D A ws) (hS : va_S A H0 H locs) (q0 t0 : Nat) {cA : ClassId} {n : Nat} {f : Nat → Int64} (ha : ws[q0]? = some (a, .inl (cA, n, .inr (.inl f)))) (ht : tys[t0]? = some (cA, .long)) {i : Nat} {x : Int64} (hn : n < 2 ^ 31) (hi : i < n) (hdg : decode cc pc = .ok (.lastore, 1))
    (kk : ∀ (H1 : Heap) (locs1 : List Loc), va_P D cl (ws.set q0 (a, .inl (cA, n, .inr (.inl (fS f i x))))) H1 → va_S A H0 H1 locs1 → W p l e R s m args below meth c H1 locs1 cells slots Q (F0 m (pc + 1) ls rest)) : W p l e R s m args below meth c H locs cells slots Q (F0 m pc ls (.long x :: .int (nI i) :: .ref a :: rest)) :=
  va_last E.1 E.2.1 hK hP hD hS q0 t0 ha ht (vp_in_nI hi hn) hdg (fun H1 locs1 h1 _ h3 => kk H1 locs1 (by rw [nI_clamp (Nat.lt_trans hi hn), aL_set] at h1; exact h1) h3)
theorem n_cast (E : CallFix p m c cc nL s args tG own) (hK : va_K D cl tys s) (hP : va_P D cl ws H) (hD : va_D A ws) (hS : va_S A H0 H locs) (q0 t0 : Nat) {cA : ClassId} {T : Nat → Nat → Int64} (ha : ws[q0]? = some (a, .inl (cA, 512, .inr (.inl (aT T))))) (ht : tys[t0]? = some (cA, .long)) {i : Nat} {x : Int64} (r c0 : Nat) (hi : i = c0 * 128 + r) (hr : r < 128) (hc : c0 < 4) (hdg : decode cc pc = .ok (.lastore, 1))
    (kk : ∀ (H1 : Heap) (locs1 : List Loc), va_P D cl (ws.set q0 (a, .inl (cA, 512, .inr (.inl (aT (tS T r c0 x)))))) H1 → va_S A H0 H1 locs1 → W p l e R s m args below meth c H1 locs1 cells slots Q (F0 m (pc + 1) ls rest)) : W p l e R s m args below meth c H locs cells slots Q (F0 m pc ls (.long x :: .int (nI i) :: .ref a :: rest)) :=
  n_last E hK hP hD hS q0 t0 ha ht (by omega) (by omega) hdg (fun H1 locs1 h1 h3 => kk H1 locs1 (by rw [← aT_set T x hi hr]; exact h1) h3)
theorem n_rast (E : CallFix p m c cc nL s args tG own) (hK : va_K D cl tys s) (hP : va_P D cl ws H) (hD : va_D A ws) (hS : va_S A H0 H locs) (q0 t0 : Nat) {cA : ClassId} {T : Nat → Nat → Int64} (ha : ws[q0]? = some (a, .inl (cA, 512, .inr (.inl (aR T))))) (ht : tys[t0]? = some (cA, .long)) {i : Nat} {x : Int64} (r c0 : Nat) (hi : i = 4 * r + c0) (hr : r < 128) (hc : c0 < 4) (hdg : decode cc pc = .ok (.lastore, 1))
    (kk : ∀ (H1 : Heap) (locs1 : List Loc), va_P D cl (ws.set q0 (a, .inl (cA, 512, .inr (.inl (aR (tS T r c0 x)))))) H1 → va_S A H0 H1 locs1 → W p l e R s m args below meth c H1 locs1 cells slots Q (F0 m (pc + 1) ls rest)) : W p l e R s m args below meth c H locs cells slots Q (F0 m pc ls (.long x :: .int (nI i) :: .ref a :: rest)) :=
  n_last E hK hP hD hS q0 t0 ha ht (by omega) (by omega) hdg (fun H1 locs1 h1 h3 => kk H1 locs1 (by rw [← aR_set T x hi hc]; exact h1) h3)
end CHB3
section CHB4
variable {p : Program} {l : Launch} {e : Env} {R : Room} {s : State} {m : MethodId} {args : Array Value} {below : List Frame} {meth : Method} {c : Code} {H : Heap} {locs : List Loc} {cells slots : Nat} {Q : State → Prop}
variable {cc : ByteArray} {pc : Nat} {ls : Array Slot} {st rest : List Value} {nL : Nat} {own : String}
variable {D : va_G} {cl : List vw_C} {tys : List (ClassId × FieldType)} {w : va_W} {H0 : Heap}
variable {y : MethodName} {b : ByteArray} {n na idx : Nat} {r : Option FieldType} {rm : Room} {Pc : Array Value → State → Prop} {Qc : Array Value → State → Outcome → State → Prop} {mc ms : Nat} {free : Addr → Prop} {As : List Value}
/-- what the tables must say of a call -/
def kB (own : String) (idx : Nat) (y : MethodName) (b : ByteArray) (n : Nat) (r : Option FieldType) (na : Nat) : Prop := Cond.methodLink own idx y ∈ tG ∧ Cond.code y b n r ∈ tG ∧ Cond.initialized y.cls ∈ tG ∧ y.cls ≠ "java/lang/invoke/MethodHandle" ∧ y.cls ≠ "java/lang/invoke/VarHandle" ∧ (parseMethodDescriptor y.desc).map (fun d => d.parameters.length) = some na
def kS (own : String) (idx : Nat) (y : MethodName) (b : ByteArray) (n : Nat) (r : Option FieldType) (na : Nat) : Prop := kB own idx y b n r na ∧ Cond.static y ∈ tG
def kV (own : String) (idx : Nat) (y : MethodName) (b : ByteArray) (n : Nat) (r : Option FieldType) (na : Nat) : Prop := kB own idx y b n r na ∧ Cond.instanceMethod y ∈ tG ∧ Cond.selects y.cls y y ∈ tG
theorem k_cb (E : CallFix p m c cc nL s args tG own) (hk : kB own idx y b n r na) (hrc : rm.cells = mc) (hrs : rm.slots = ms) (hR : rm.frames + 1 ≤ R.frames ∧ 8 + (n + 11) + rm.locals ≤ R.locals) : CallB R s args own idx y b n r (wA y b n r) rm mc ms na :=
  callB_of na E.2.2.2.2 (gA hk.2.1) rfl hrc hrs (E.2.2.2.2 _ hk.2.2.1) (E.2.2.2.2 _ hk.1) ⟨hk.2.2.2.1, hk.2.2.2.2.1, hk.2.2.2.2.2⟩ hR
theorem pre0 {s : State} {H : Heap} {As : List Value} : PreS s H (va_Pc As (fun _ => True)) As := ⟨fun _ _ _ _ q => ⟨q.1, trivial⟩, fun _ _ _ => ⟨rfl, trivial⟩⟩
/-- a world as a premise -/
abbrev pW (D : va_G) (cl : List vw_C) (tys : List (ClassId × FieldType)) (w : va_W) : State → Prop := fun U => va_P D cl w U.heap ∧ va_K D cl tys U
theorem preW (hK : va_K D cl tys s) (hP : va_P D cl w H) (As : List Value) : PreS s H (va_Pc As (pW D cl tys w)) As :=
  ⟨fun a U g mk q => ⟨q.1, q.2.1, va_K.moved (u := U) (U := U.calling g mk a) (Vm.Alike.refl U.vm) q.2.2⟩, fun U hU hW => ⟨rfl, by rw [hU]; exact hP, va_K.moved hW.alike hK⟩⟩
theorem run_S (E : CallFix p m c cc nL s args tG own) (hM : Met l y (wA y b n r) rm Pc Qc mc ms free) (hk : kS own idx y b n r na) (hrc : rm.cells = mc) (hrs : rm.slots = ms) (hR : rm.frames + 1 ≤ R.frames ∧ 8 + (n + 11) + rm.locals ≤ R.locals) (hp : PreS s H Pc As) (hn : As.length = na) (hz : ls.size = nL) (hst : st = As.reverse ++ rest) (hW : (rest.map fun v => v.category).sum ≤ 8) (hdg : decode cc pc = .ok (.invokestatic idx, 3)) (hf : cells + mc ≤ R.cells ∧ slots + ms ≤ R.slots) :
    va_Run p l e R s m args below meth c H locs cells slots mc ms (F0 m pc ls st) rest (Qc As.toArray) free :=
  va_runS E hM ⟨k_cb E hk.1 hrc hrs hR, E.2.2.2.2 _ hk.2⟩ hp rfl hn hz hst (lv_room hW) hdg hf
theorem run_V (E : CallFix p m c cc nL s args tG own) (hM : Met l y (wA y b n r) rm Pc Qc mc ms free) (hk : kV own idx y b n r na) (hrc : rm.cells = mc) (hrs : rm.slots = ms) (hR : rm.frames + 1 ≤ R.frames ∧ 8 + (n + 11) + rm.locals ≤ R.locals) {a : Nat} (hp : PreV s H y.cls a Pc As) (hn : As.length = na) (hz : ls.size = nL) (hst : st = As.reverse ++ .ref a :: rest) (hW : (rest.map fun v => v.category).sum ≤ 8) (hdg : decode cc pc = .ok (.invokevirtual idx, 3)) (hf : cells + mc ≤ R.cells ∧ slots + ms ≤ R.slots) :
    va_Run p l e R s m args below meth c H locs cells slots mc ms (F0 m pc ls st) rest (Qc (Value.ref a :: As).toArray) free :=
  va_runV E hM ⟨k_cb E hk.1 hrc hrs hR, E.2.2.2.2 _ hk.2.1, E.2.2.2.2 _ hk.2.2⟩ hp rfl hn hz hst (lv_room hW) hdg hf
/-- static calls that read nothing and write nothing -/
theorem cS_i (E : CallFix p m c cc nL s args tG own) {v : Int32} (hM : Met l y (wA y b n r) rm (va_Pc As (fun _ => True)) (vp_Si (fun z => z = v)) 0 0 (fun _ => False)) (hk : kS own idx y b n r na) (hrc : rm.cells = 0) (hrs : rm.slots = 0) (hR : rm.frames + 1 ≤ R.frames ∧ 8 + (n + 11) + rm.locals ≤ R.locals) (hn : As.length = na) (hl : ls.size = nL) (hst : st = As.reverse ++ rest) (hW : (rest.map fun v => v.category).sum ≤ 8) (hdg : decode cc pc = .ok (.invokestatic idx, 3)) (hf : cells ≤ R.cells ∧ slots ≤ R.slots)
    (kk : W p l e R s m args below meth c H locs cells slots Q (F0 m (pc + 3) ls (.int v :: rest))) : W p l e R s m args below meth c H locs cells slots Q (F0 m pc ls st) :=
  vp_callSi (run_S E hM hk hrc hrs hR pre0 hn hl hst hW hdg hf).run (fun z hz => by rw [hz]; exact kk)
theorem cS_v (E : CallFix p m c cc nL s args tG own) (hM : Met l y (wA y b n r) rm (va_Pc As (fun _ => True)) (va_Sv (fun _ => True)) 0 0 (fun _ => False)) (hk : kS own idx y b n r na) (hrc : rm.cells = 0) (hrs : rm.slots = 0) (hR : rm.frames + 1 ≤ R.frames ∧ 8 + (n + 11) + rm.locals ≤ R.locals) (hn : As.length = na) (hl : ls.size = nL) (hst : st = As.reverse ++ rest) (hW : (rest.map fun v => v.category).sum ≤ 8) (hdg : decode cc pc = .ok (.invokestatic idx, 3)) (hf : cells ≤ R.cells ∧ slots ≤ R.slots)
    (kk : W p l e R s m args below meth c H locs cells slots Q (F0 m (pc + 3) ls rest)) : W p l e R s m args below meth c H locs cells slots Q (F0 m pc ls st) :=
  va_csv (run_S E hM hk hrc hrs hR pre0 hn hl hst hW hdg hf).run (fun _ => kk)
theorem cV_v (E : CallFix p m c cc nL s args tG own) {a : Nat} (hM : Met l y (wA y b n r) rm (va_Pc (.ref a :: As) (pW D cl tys w)) (va_Sv (fun _ => True)) 0 0 (fun _ => False)) (hk : kV own idx y b n r na) (hK : va_K D cl tys s) (hP : va_P D cl w H) (q0 : Nat) {ci N : Nat} {T : u_T} {fs : List Value} (he : w[q0]? = some (a, .inr (ci, fs))) (hc : cl[ci]? = some (y.cls, T, N)) (hrc : rm.cells = 0) (hrs : rm.slots = 0) (hR : rm.frames + 1 ≤ R.frames ∧ 8 + (n + 11) + rm.locals ≤ R.locals) (hn : As.length = na) (hl : ls.size = nL) (hst : st = As.reverse ++ .ref a :: rest) (hW : (rest.map fun v => v.category).sum ≤ 8) (hdg : decode cc pc = .ok (.invokevirtual idx, 3)) (hf : cells ≤ R.cells ∧ slots ≤ R.slots)
    (kk : W p l e R s m args below meth c H locs cells slots Q (F0 m (pc + 3) ls rest)) : W p l e R s m args below meth c H locs cells slots Q (F0 m pc ls st) :=
  va_csv (run_V E hM hk hrc hrs hR ⟨(preW hK hP (.ref a :: As)).1, va_recv hK hP hc he, (preW hK hP (.ref a :: As)).2⟩ hn hl hst hW hdg hf).run (fun _ => kk)
/-- calls on an object of a world that stays: int, long -/
theorem cV_i (E : CallFix p m c cc nL s args tG own) {v : Int32} {a : Nat} (hM : Met l y (wA y b n r) rm (va_Pc (.ref a :: As) (pW D cl tys w)) (vp_Si (fun z => z = v)) 0 0 (fun _ => False)) (hk : kV own idx y b n r na) (hK : va_K D cl tys s) (hP : va_P D cl w H) (q0 : Nat) {ci N : Nat} {T : u_T} {fs : List Value} (he : w[q0]? = some (a, .inr (ci, fs))) (hc : cl[ci]? = some (y.cls, T, N)) (hrc : rm.cells = 0) (hrs : rm.slots = 0) (hR : rm.frames + 1 ≤ R.frames ∧ 8 + (n + 11) + rm.locals ≤ R.locals) (hn : As.length = na) (hl : ls.size = nL) (hst : st = As.reverse ++ .ref a :: rest) (hW : (rest.map fun v => v.category).sum ≤ 8) (hdg : decode cc pc = .ok (.invokevirtual idx, 3)) (hf : cells ≤ R.cells ∧ slots ≤ R.slots)
    (kk : W p l e R s m args below meth c H locs cells slots Q (F0 m (pc + 3) ls (.int v :: rest))) : W p l e R s m args below meth c H locs cells slots Q (F0 m pc ls st) :=
  vp_callSi (run_V E hM hk hrc hrs hR ⟨(preW hK hP (.ref a :: As)).1, va_recv hK hP hc he, (preW hK hP (.ref a :: As)).2⟩ hn hl hst hW hdg hf).run (fun z hz => by rw [hz]; exact kk)
theorem cV_l (E : CallFix p m c cc nL s args tG own) {v : Int64} {a : Nat} (hM : Met l y (wA y b n r) rm (va_Pc (.ref a :: As) (pW D cl tys w)) (vp_Sl (fun z => z = v)) 0 0 (fun _ => False)) (hk : kV own idx y b n r na) (hK : va_K D cl tys s) (hP : va_P D cl w H) (q0 : Nat) {ci N : Nat} {T : u_T} {fs : List Value} (he : w[q0]? = some (a, .inr (ci, fs))) (hc : cl[ci]? = some (y.cls, T, N)) (hrc : rm.cells = 0) (hrs : rm.slots = 0) (hR : rm.frames + 1 ≤ R.frames ∧ 8 + (n + 11) + rm.locals ≤ R.locals) (hn : As.length = na) (hl : ls.size = nL) (hst : st = As.reverse ++ .ref a :: rest) (hW : (rest.map fun v => v.category).sum ≤ 8) (hdg : decode cc pc = .ok (.invokevirtual idx, 3)) (hf : cells ≤ R.cells ∧ slots ≤ R.slots)
    (kk : W p l e R s m args below meth c H locs cells slots Q (F0 m (pc + 3) ls (.long v :: rest))) : W p l e R s m args below meth c H locs cells slots Q (F0 m pc ls st) :=
  vp_callSl (run_V E hM hk hrc hrs hR ⟨(preW hK hP (.ref a :: As)).1, va_recv hK hP hc he, (preW hK hP (.ref a :: As)).2⟩ hn hl hst hW hdg hf).run (fun z hz => by rw [hz]; exact kk)
/-- calls on an object of a world that becomes another: void, int -/
abbrev qV {S : Type} (post : S → Prop) (D : va_G) (cl : List vw_C) (w : S → va_W) (A : Nat → Prop) : Array Value → State → Outcome → State → Prop := va_Qv post (fun u t => va_P D cl (w u) t.heap) A
abbrev qI {S : Type} (post : Int32 → S → Prop) (D : va_G) (cl : List vw_C) (w : S → va_W) (A : Nat → Prop) : Array Value → State → Outcome → State → Prop := va_Qi post (fun u t => va_P D cl (w u) t.heap) A
abbrev qL {S : Type} (post : Int64 → S → Prop) (D : va_G) (cl : List vw_C) (w : S → va_W) (A : Nat → Prop) : Array Value → State → Outcome → State → Prop := va_Ql post (fun u t => va_P D cl (w u) t.heap) A
theorem cV_wv (E : CallFix p m c cc nL s args tG own) {a : Nat} {S : Type} {post : S → Prop} {w1 : S → va_W} {A A0 : Nat → Prop} (hM : Met l y (wA y b n r) rm (va_Pc (.ref a :: As) (pW D cl tys w)) (qV post D cl w1 A) 0 0 A) (hk : kV own idx y b n r na) (hK : va_K D cl tys s) (hP : va_P D cl w H) (hS : va_S A0 H0 H locs) (hA : ∀ q, A q → A0 q) (q0 : Nat) {ci N : Nat} {T : u_T} {fs : List Value} (he : w[q0]? = some (a, .inr (ci, fs))) (hc : cl[ci]? = some (y.cls, T, N)) (hrc : rm.cells = 0) (hrs : rm.slots = 0) (hR : rm.frames + 1 ≤ R.frames ∧ 8 + (n + 11) + rm.locals ≤ R.locals) (hn : As.length = na) (hl : ls.size = nL) (hst : st = As.reverse ++ .ref a :: rest) (hW : (rest.map fun v => v.category).sum ≤ 8) (hdg : decode cc pc = .ok (.invokevirtual idx, 3)) (hf : cells ≤ R.cells ∧ slots ≤ R.slots)
    (kk : ∀ (u : S) (H1 : Heap) (locs1 : List Loc), post u → va_P D cl (w1 u) H1 → H.size ≤ H1.size → (∀ q : Nat, q < H.size → ¬ A q → H1[q]? = H[q]?) → va_S A0 H0 H1 locs1 → W p l e R s m args below meth c H1 locs1 cells slots Q (F0 m (pc + 3) ls rest)) : W p l e R s m args below meth c H locs cells slots Q (F0 m pc ls st) :=
  va_callv (run_V E hM hk hrc hrs hR ⟨(preW hK hP (.ref a :: As)).1, va_recv hK hP hc he, (preW hK hP (.ref a :: As)).2⟩ hn hl hst hW hdg hf) hS (fun q _ h => hA q h) hA (fun u t H1 locs1 ht _ hp hB hz hk1 hS1 => kk u H1 locs1 hp (by rw [← ht]; exact hB) hz hk1 hS1)
theorem cV_wi (E : CallFix p m c cc nL s args tG own) {a : Nat} {S : Type} {post : Int32 → S → Prop} {w1 : S → va_W} {A A0 : Nat → Prop} (hM : Met l y (wA y b n r) rm (va_Pc (.ref a :: As) (pW D cl tys w)) (qI post D cl w1 A) 0 0 A) (hk : kV own idx y b n r na) (hK : va_K D cl tys s) (hP : va_P D cl w H) (hS : va_S A0 H0 H locs) (hA : ∀ q, A q → A0 q) (q0 : Nat) {ci N : Nat} {T : u_T} {fs : List Value} (he : w[q0]? = some (a, .inr (ci, fs))) (hc : cl[ci]? = some (y.cls, T, N)) (hrc : rm.cells = 0) (hrs : rm.slots = 0) (hR : rm.frames + 1 ≤ R.frames ∧ 8 + (n + 11) + rm.locals ≤ R.locals) (hn : As.length = na) (hl : ls.size = nL) (hst : st = As.reverse ++ .ref a :: rest) (hW : (rest.map fun v => v.category).sum ≤ 8) (hdg : decode cc pc = .ok (.invokevirtual idx, 3)) (hf : cells ≤ R.cells ∧ slots ≤ R.slots)
    (kk : ∀ (z : Int32) (u : S) (H1 : Heap) (locs1 : List Loc), post z u → va_P D cl (w1 u) H1 → H.size ≤ H1.size → (∀ q : Nat, q < H.size → ¬ A q → H1[q]? = H[q]?) → va_S A0 H0 H1 locs1 → W p l e R s m args below meth c H1 locs1 cells slots Q (F0 m (pc + 3) ls (.int z :: rest))) : W p l e R s m args below meth c H locs cells slots Q (F0 m pc ls st) :=
  va_calli (run_V E hM hk hrc hrs hR ⟨(preW hK hP (.ref a :: As)).1, va_recv hK hP hc he, (preW hK hP (.ref a :: As)).2⟩ hn hl hst hW hdg hf) hS (fun q _ h => hA q h) hA (fun z u t H1 locs1 ht _ hp hB hz hk1 hS1 => kk z u H1 locs1 hp (by rw [← ht]; exact hB) hz hk1 hS1)
theorem cV_wl (E : CallFix p m c cc nL s args tG own) {a : Nat} {S : Type} {post : Int64 → S → Prop} {w1 : S → va_W} {A A0 : Nat → Prop} (hM : Met l y (wA y b n r) rm (va_Pc (.ref a :: As) (pW D cl tys w)) (qL post D cl w1 A) 0 0 A) (hk : kV own idx y b n r na) (hK : va_K D cl tys s) (hP : va_P D cl w H) (hS : va_S A0 H0 H locs) (hA : ∀ q, A q → A0 q) (q0 : Nat) {ci N : Nat} {T : u_T} {fs : List Value} (he : w[q0]? = some (a, .inr (ci, fs))) (hc : cl[ci]? = some (y.cls, T, N)) (hrc : rm.cells = 0) (hrs : rm.slots = 0) (hR : rm.frames + 1 ≤ R.frames ∧ 8 + (n + 11) + rm.locals ≤ R.locals) (hn : As.length = na) (hl : ls.size = nL) (hst : st = As.reverse ++ .ref a :: rest) (hW : (rest.map fun v => v.category).sum ≤ 8) (hdg : decode cc pc = .ok (.invokevirtual idx, 3)) (hf : cells ≤ R.cells ∧ slots ≤ R.slots)
    (kk : ∀ (z : Int64) (u : S) (H1 : Heap) (locs1 : List Loc), post z u → va_P D cl (w1 u) H1 → H.size ≤ H1.size → (∀ q : Nat, q < H.size → ¬ A q → H1[q]? = H[q]?) → va_S A0 H0 H1 locs1 → W p l e R s m args below meth c H1 locs1 cells slots Q (F0 m (pc + 3) ls (.long z :: rest))) : W p l e R s m args below meth c H locs cells slots Q (F0 m pc ls st) :=
  va_calll (run_V E hM hk hrc hrs hR ⟨(preW hK hP (.ref a :: As)).1, va_recv hK hP hc he, (preW hK hP (.ref a :: As)).2⟩ hn hl hst hW hdg hf) hS (fun q _ h => hA q h) hA (fun z u t H1 locs1 ht _ hp hB hz hk1 hS1 => kk z u H1 locs1 hp (by rw [← ht]; exact hB) hz hk1 hS1)
/-- ends -/
theorem e_v (E : CallFix p m c cc nL s args tG own) (hr : meth.sig.returnType = none) (hlk : meth.locks = false) (hdg : decode cc pc = .ok (.return_, 1)) : W p l e R s m args below meth c s.heap [] 0 0 (MQ below (va_Sv (fun _ => True)) args s 0 0 (fun _ => False)) (F0 m pc ls []) :=
  W.vret E.1 E.2.1 hr (fun t ht _ => ⟨rfl, trivial, ht⟩) (fun q h => nomatch h) hdg hlk
theorem e_i (E : CallFix p m c cc nL s args tG own) (hr : meth.sig.returnType = some .int) (hlk : meth.locks = false) {v w : Int32} (hv : v = w) (hdg : decode cc pc = .ok (.ireturn, 1)) : W p l e R s m args below meth c s.heap [] 0 0 (MQ below (vp_Si (fun z => z = w)) args s 0 0 (fun _ => False)) (F0 m pc ls [.int v]) :=
  W.iret E.1 E.2.1 hr (fun t ht _ => ⟨v, rfl, hv, ht⟩) (fun q h => nomatch h) hdg hlk
theorem e_z (E : CallFix p m c cc nL s args tG own) (hr : meth.sig.returnType = some .boolean) (hlk : meth.locks = false) {v : Int32} {w : Bool} (hv : v = bI w) (hdg : decode cc pc = .ok (.ireturn, 1)) : W p l e R s m args below meth c s.heap [] 0 0 (MQ below (vp_Si (fun z => z = bI w)) args s 0 0 (fun _ => False)) (F0 m pc ls [.int v]) :=
  W.zret E.1 E.2.1 hr (by rw [hv]; exact bI_nar w) (fun t ht _ => ⟨v, rfl, hv, ht⟩) (fun q h => nomatch h) hdg hlk
theorem e_l (E : CallFix p m c cc nL s args tG own) (hr : meth.sig.returnType = some .long) (hlk : meth.locks = false) {v w : Int64} (hv : v = w) (hdg : decode cc pc = .ok (.lreturn, 1)) : W p l e R s m args below meth c s.heap [] 0 0 (MQ below (vp_Sl (fun z => z = w)) args s 0 0 (fun _ => False)) (F0 m pc ls [.long v]) :=
  W.lret E.1 E.2.1 hr (fun t ht _ => ⟨v, rfl, hv, ht⟩) (fun q h => nomatch h) hdg hlk
theorem e_wv (E : CallFix p m c cc nL s args tG own) (hr : meth.sig.returnType = none) (hlk : meth.locks = false) {S : Type} {post : S → Prop} {w1 : S → va_W} {A : Nat → Prop} (hS : va_S A s.heap H locs) (u : S) (hp : post u) (hP : va_P D cl (w1 u) H) (hdg : decode cc pc = .ok (.return_, 1)) : W p l e R s m args below meth c H locs 0 0 (MQ below (qV post D cl w1 A) args s 0 0 A) (F0 m pc ls []) :=
  W.vret E.1 E.2.1 hr (fun t ht _ => ⟨⟨u, rfl, hp, (show va_P D cl (w1 u) t.heap by rw [ht]; exact hP)⟩, hS.F ht⟩) hS.2.2 hdg hlk
theorem e_wi (E : CallFix p m c cc nL s args tG own) (hr : meth.sig.returnType = some .int) (hlk : meth.locks = false) {S : Type} {post : Int32 → S → Prop} {w1 : S → va_W} {A : Nat → Prop} (hS : va_S A s.heap H locs) {v : Int32} (u : S) (hp : post v u) (hP : va_P D cl (w1 u) H) (hdg : decode cc pc = .ok (.ireturn, 1)) : W p l e R s m args below meth c H locs 0 0 (MQ below (qI post D cl w1 A) args s 0 0 A) (F0 m pc ls [.int v]) :=
  W.iret E.1 E.2.1 hr (fun t ht _ => ⟨⟨v, u, rfl, hp, (show va_P D cl (w1 u) t.heap by rw [ht]; exact hP)⟩, hS.F ht⟩) hS.2.2 hdg hlk
theorem e_wz (E : CallFix p m c cc nL s args tG own) (hr : meth.sig.returnType = some .boolean) (hlk : meth.locks = false) {S : Type} {post : Int32 → S → Prop} {w1 : S → va_W} {A : Nat → Prop} (hS : va_S A s.heap H locs) {v : Bool} (u : S) (hp : post (bI v) u) (hP : va_P D cl (w1 u) H) (hdg : decode cc pc = .ok (.ireturn, 1)) : W p l e R s m args below meth c H locs 0 0 (MQ below (qI post D cl w1 A) args s 0 0 A) (F0 m pc ls [.int (bI v)]) :=
  W.zret E.1 E.2.1 hr (bI_nar v) (fun t ht _ => ⟨⟨bI v, u, rfl, hp, (show va_P D cl (w1 u) t.heap by rw [ht]; exact hP)⟩, hS.F ht⟩) hS.2.2 hdg hlk
theorem e_wl (E : CallFix p m c cc nL s args tG own) (hr : meth.sig.returnType = some .long) (hlk : meth.locks = false) {S : Type} {post : Int64 → S → Prop} {w1 : S → va_W} {A : Nat → Prop} (hS : va_S A s.heap H locs) {v : Int64} (u : S) (hp : post v u) (hP : va_P D cl (w1 u) H) (hdg : decode cc pc = .ok (.lreturn, 1)) : W p l e R s m args below meth c H locs 0 0 (MQ below (qL post D cl w1 A) args s 0 0 A) (F0 m pc ls [.long v]) :=
  W.lret E.1 E.2.1 hr (fun t ht _ => ⟨⟨v, u, rfl, hp, (show va_P D cl (w1 u) t.heap by rw [ht]; exact hP)⟩, hS.F ht⟩) hS.2.2 hdg hlk
end CHB4
section CHB5
variable {p : Program} {l : Launch} {e : Env} {R : Room} {s : State} {m : MethodId} {args : Array Value} {below : List Frame} {meth : Method} {c : Code} {H : Heap} {locs : List Loc} {cells slots : Nat} {Q : State → Prop}
variable {cc : ByteArray} {pc : Nat} {ls : Array Slot} {rest : List Value} {nL : Nat} {own : String}
theorem n_idiv (E : CallFix p m c cc nL s args tG own) {a b : Nat} (ha : a < 2 ^ 31) (h0 : 0 < b) (hb : b < 2 ^ 31) (hdg : decode cc pc = .ok (.idiv, 1)) (k : W p l e R s m args below meth c H locs cells slots Q (F0 m (pc + 1) ls (.int (nI (a / b)) :: rest))) : W p l e R s m args below meth c H locs cells slots Q (F0 m pc ls (.int (nI b) :: .int (nI a) :: rest)) := lv_idiv E.1 E.2.1 hdg (nI_ne0 h0 hb) (tpi (pk_div ha h0 hb) k)
theorem n_irem (E : CallFix p m c cc nL s args tG own) {a b : Nat} (ha : a < 2 ^ 31) (h0 : 0 < b) (hb : b < 2 ^ 31) (hdg : decode cc pc = .ok (.irem, 1)) (k : W p l e R s m args below meth c H locs cells slots Q (F0 m (pc + 1) ls (.int (nI (a % b)) :: rest))) : W p l e R s m args below meth c H locs cells slots Q (F0 m pc ls (.int (nI b) :: .int (nI a) :: rest)) := lv_irem E.1 E.2.1 hdg (nI_ne0 h0 hb) (tpi (pk_rem ha h0 hb) k)
theorem n_i2l (E : CallFix p m c cc nL s args tG own) {a : Nat} (ha : a < 2 ^ 31) (hdg : decode cc pc = .ok (.i2l, 1)) (k : W p l e R s m args below meth c H locs cells slots Q (F0 m (pc + 1) ls (.long (lN a) :: rest))) : W p l e R s m args below meth c H locs cells slots Q (F0 m pc ls (.int (nI a) :: rest)) := lv_i2l E.1 E.2.1 hdg (nI_l ha) k
theorem dec1 {a : Nat} (h : 0 < a) : nI a + Int32.ofInt (-1) = nI (a - 1) := by
  obtain ⟨b, rfl⟩ : ∃ b, a = b + 1 := ⟨a - 1, by omega⟩
  exact pk_m1 b
end CHB5
