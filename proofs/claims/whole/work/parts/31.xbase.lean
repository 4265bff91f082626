/-! Throwing: what a throw needs of the start (xE), how it is carried, rows for a throw and for a call that throws. -/
section XB1
def nm2 : List String := ["java/lang/RuntimeException", "java/lang/Exception"]
def cIAE : String := "java/lang/IllegalArgumentException"
def cISE : String := "java/lang/IllegalStateException"
def cIOB : String := "java/lang/IndexOutOfBoundsException"
def cNSE : String := "java/util/NoSuchElementException"
def badWs : List Cond := (vx_atS RX0 72 cIAE nm2 ++ (vx_atS RX0 49 cISE nm2 ++ (vx_atS RX0 67 cIOB nm2 ++ vx_atS RX0 96 cNSE nm2))).filter (fun w => !goodWord w)
def dcW : Cond → Bool
  | .declares _ => true
  | .castable _ _ => true
  | _ => false
set_option maxRecDepth 100000 in
theorem badWs_dc : ∀ w ∈ badWs, dcW w = true := by decide +kernel
set_option maxRecDepth 100000 in
theorem badWs_in : ∀ w ∈ badWs, w ∈ lw_tbl := by decide +kernel
theorem dcW_warm {w : Cond} (h : dcW w = true) {s U : State} (hW : s.WarmedH U.vm) (hZ : va_Nw w s) : va_Nw w U := by
  cases w <;> first | exact va_Nw.warmD hW hZ | exact va_Nw.warmC hW hZ | (simp [dcW] at h)
theorem dcW_tab {w : Cond} (h : dcW w = true) : w.onTables = true := by
  cases w <;> first | rfl | (simp [dcW] at h)
/-- the texts, by their places in the pool -/
def six (i : Nat) : Nat × String := match i with
  | 0 => (47, "there is no room for a row")
  | 1 => (65, "there is no such row")
  | 2 => (70, "there is no such op")
  | 3 => (73, "there is no room for a condition")
  | 4 => (79, "there is no such chosen row")
  | 5 => (94, "no row is chosen")
  | 6 => (109, "a group has nothing of this kind")
  | 7 => (115, "there is no such group")
  | 8 => (133, "there is no such column")
  | _ => (138, "there is no such full block")
def xE (lo : Nat) (sa : Nat → Nat) (U : State) (H : Heap) : Prop :=
  vx_Zq Bundle.tN "UNASSIGNED_STACK" Bundle.steD (fun q => lo ≤ q) U H ∧ vx_Zq Bundle.tN "SUPPRESSED_SENTINEL" Bundle.listD (fun q => lo ≤ q) U H ∧
  (∀ w ∈ badWs, va_Nw w U) ∧ (∀ i, i < 10 → vk_R RX0 (six i).1 (six i).2 (sa i) U) ∧ va_Nc cIOB cIAE U ∧ va_Nc cISE cIAE U ∧ va_Nc cNSE cIAE U
theorem xE.warm {lo : Nat} {sa : Nat → Nat} {s U : State} {H : Heap} (hW : s.WarmedH U.vm) (h : xE lo sa s H) : xE lo sa U H :=
  ⟨vx_Zq.moved hW.alike h.1, vx_Zq.moved hW.alike h.2.1, fun w hw => dcW_warm (badWs_dc w hw) hW (h.2.2.1 w hw), fun i hi => vk_R.warm hW (h.2.2.2.1 i hi), va_Nc.moved hW.alike h.2.2.2.2.1, va_Nc.moved hW.alike h.2.2.2.2.2.1, va_Nc.moved hW.alike h.2.2.2.2.2.2⟩
theorem xE.same {lo : Nat} {sa : Nat → Nat} {s U : State} {H : Heap} (hv : s.vm = U.vm) (h : xE lo sa s H) : xE lo sa U H := by
  have ha : s.vm.Alike U.vm := by rw [hv]; exact Vm.Alike.refl _
  exact ⟨vx_Zq.moved ha h.1, vx_Zq.moved ha h.2.1, fun w hw => va_Nw.same (dcW_tab (badWs_dc w hw)) hv (h.2.2.1 w hw), fun i hi => vk_R.same hv.symm (h.2.2.2.1 i hi), va_Nc.moved ha h.2.2.2.2.1, va_Nc.moved ha h.2.2.2.2.2.1, va_Nc.moved ha h.2.2.2.2.2.2⟩
theorem xE.kept {lo : Nat} {sa : Nat → Nat} {s : State} {H H1 : Heap} (h : xE lo sa s H) (hk : ∀ a : Nat, a < H.size → ¬ lo ≤ a → H1[a]? = H[a]?) : xE lo sa s H1 :=
  ⟨vx_Zq.kept h.1 hk, vx_Zq.kept h.2.1 hk, h.2.2⟩
abbrev pZ (D : va_G) (cl : List vw_C) (tys : List (ClassId × FieldType)) (w : va_W) (lo : Nat) (sa : Nat → Nat) : State → Prop := fun U => va_P D cl w U.heap ∧ va_K D cl tys U ∧ xE lo sa U U.heap
theorem preZ {D : va_G} {cl : List vw_C} {tys : List (ClassId × FieldType)} {w : va_W} {lo : Nat} {sa : Nat → Nat} {s : State} {H : Heap} (hK : va_K D cl tys s) (hP : va_P D cl w H) (hZ : xE lo sa s H) (As : List Value) : PreS s H (va_Pc As (pZ D cl tys w lo sa)) As :=
  ⟨fun a U g mk q => ⟨q.1, q.2.1, va_K.moved (u := U) (U := U.calling g mk a) (Vm.Alike.refl U.vm) q.2.2.1, xE.same (s := U) (U := U.calling g mk a) rfl q.2.2.2⟩, fun U hU hW => ⟨rfl, by rw [hU]; exact hP, va_K.moved hW.alike hK, by rw [hU]; exact hZ.warm hW⟩⟩
/-- what a method that has thrown leaves -/
abbrev xX {S : Type} (cls : String) (px : S → Prop) (D : va_G) (cl : List vw_C) (w : S → va_W) (A : Nat → Prop) : String → State → State → Prop := vx_X px (fun E u t => E = cls ∧ va_P D cl (w u) t.heap) A
def xK (ik ic : Nat) (cls : String) : Prop := Cond.classLink RX0 ik cls ∈ tG ∧ Cond.initialized cls ∈ tG ∧ Bundle.fit cls = true ∧ (∀ w ∈ (vx_atS RX0 ic cls nm2).filter goodWord, w ∈ tG) ∧ (∀ w ∈ (vx_atS RX0 ic cls nm2).filter (fun w => !goodWord w), w ∈ badWs) ∧ (∀ w ∈ Cond.classLink RX0 ik cls :: Cond.initialized cls :: vx_atS RX0 ic cls nm2, vx_ot w = true)
theorem nm2_fit : ∀ n ∈ nm2, Bundle.fit n = true := by decide +kernel
/-- into a method that throws -/
theorem xmet_of {l : Launch} {y : MethodName} {cc : ByteArray} {maxL : Nat} {ret : Option FieldType} {rm : Room} {As : List Value} {B : State → Prop} {Qc : Array Value → State → Outcome → State → Prop} {XC : String → State → State → Prop} {mc ms : Nat} {free : Addr → Prop} (own : String) (ho : y.cls = own) (hy : plainName y.cls = true) (hn : (lg_sl As).length ≤ maxL)
    (body : ∀ (p : Program) (e : Env) (s : State) (m : MethodId) (below : List Frame) (meth : Method) (c : Code) (ls : Array Slot), CallFix p m c cc maxL s As.toArray tG own → meth.sig.returnType = ret → meth.locks = false → (∀ x ∈ c.exceptionTable.toList, False) → B s → lv_has ls maxL (lv_args 0 As) → W p l e rm s m As.toArray below meth c s.heap [] 0 0 (vx_MQ below Qc XC As.toArray s mc ms free) (F0 m 0 ls [])) : vx_Met l y (wA y cc maxL ret) rm (va_Pc As B) Qc XC mc ms free := by
  subst ho
  refine vx_ofW (cc := cc) (maxL := maxL) (ret := ret) hy rfl ?_
  intro p e s m args below meth c s₁ Bd hml hex hv
  obtain ⟨rfl, hB⟩ := hv
  have hts := atoms_spec (ws := wA y cc maxL ret) Bd.pre
  rw [lg_entry_eq]
  exact body p e s m below meth c _ ⟨Bd.exec, Bd.bytes, hml, findClass_of_methodNamed Bd.named, fun w h => hts w (List.mem_cons_of_mem _ h)⟩ Bd.returns Bd.notSynchronized hex hB (lv_entry As hn)
end XB1
section XB2
variable {p : Program} {l : Launch} {e : Env} {R : Room} {s : State} {m : MethodId} {args : Array Value} {below : List Frame} {meth : Method} {c : Code} {H : Heap} {locs : List Loc} {cells slots : Nat} {Q : State → Prop}
variable {cc : ByteArray} {pc : Nat} {ls : Array Slot} {st rest : List Value} {nL : Nat} {own : String}
variable {D : va_G} {cl : List vw_C} {tys : List (ClassId × FieldType)} {w : va_W} {H0 : Heap} {lo : Nat} {sa : Nat → Nat} {A : Nat → Prop}
variable {y : MethodName} {b : ByteArray} {n na idx : Nat} {r : Option FieldType} {rm : Room} {As : List Value} {Qc : Array Value → State → Outcome → State → Prop}
/-- a throw of the hall -/
theorem x_thr (E : CallFix p m c cc nL s args tG RX0) (hl : l.stackTraces = false) (hZ : xE lo sa s s.heap) {cls : String} {ik ic is : Nat} (K : xK ik ic cls) (i : Nat) (hi : i < 10) (his : (six i).1 = is) (hS : va_S A s.heap H locs) (hlo : ∀ q, A q → lo ≤ q) (hz : ls.size = nL)
    (d0 : decode cc pc = .ok (.new ik, 3)) (d3 : decode cc (pc + 3) = .ok (.dup, 1)) (d4 : decode cc (pc + 4) = .ok (.ldc is, 2)) (d6 : decode cc (pc + 6) = .ok (.invokespecial ic, 3)) (d9 : decode cc (pc + 9) = .ok (.athrow, 1))
    (hex : ∀ x ∈ c.exceptionTable.toList, False) (hRf : 5 < R.frames) (hRl : (rest.map fun v => v.category).sum + 82 ≤ R.locals) (hRc : 1 ≤ R.cells) (hRs : 6 ≤ R.slots) (hlk : meth.locks = false)
    {S : Type} {px : S → Prop} {w1 : S → va_W} (u : S) (hpx : px u) (hP : va_P D cl (w1 u) H) :
    W p l e R s m args below meth c H locs 0 0 (vx_MQ below Qc (xX cls px D cl w1 A) args s 1 6 (fun q => lo ≤ q)) (F0 m pc ls rest) := by
  obtain ⟨k1, k2, k3, k4, k5, k6⟩ := K
  have hS2 : va_S (fun q => lo ≤ q) s.heap H locs := ⟨hS.1, fun q h1 h2 => hS.2.1 q h1 (fun z => h2 (hlo q z)), fun z hz => hlo _ (hS.2.2 z hz)⟩
  have hat : ∀ w ∈ vx_atS RX0 ic cls nm2, w.before args s = true := vx_hat (B := badWs) (fun w hw => E.2.2.2.2 w (k4 w hw)) k5 (fun w hw => va_Nw.use (dcW_tab (badWs_dc w hw)) (hZ.2.2.1 w hw))
  have hstr := hZ.2.2.2.1 i hi
  rw [his] at hstr
  refine vx_throwS (names := nm2) (cls := cls) E.1 E.2.1 hl E.2.2.2.1 k3 nm2_fit (E.2.2.2.2 _ k1) (E.2.2.2.2 _ k2) hstr hat k6 hZ.1 hZ.2.1 hS2 (hz.trans E.2.2.1.symm) d0 d3 d4 d6 d9 (fun x hx => (hex x hx).elim) hRf hRl (by omega) (by omega) hlk (fun t _ h1 h2 => ⟨u, hpx, ⟨rfl, ?_⟩, ?_, ?_⟩) (fun z hz => hlo _ (hS.2.2 z hz)) (Nat.le_refl _) (Nat.le_refl _)
  · exact hP.kept (fun k q hk => h2 _ (vx_lt hP hk))
  · exact Nat.le_trans hS.1 h1
  · intro q h3 h4
    rw [h2 q (Nat.lt_of_lt_of_le h3 hS.1)]
    exact hS.2.1 q h3 h4
theorem x_keep {S : Type} {cls : String} {px : S → Prop} {w1 : S → va_W} {H1 : Heap} {u : S} {t : State} (hS : va_S A s.heap H locs) (h1 : H.size ≤ H1.size) (h2 : ∀ q : Nat, q < H.size → ¬ A q → H1[q]? = H[q]?) (hpx : px u) (hP : va_P D cl (w1 u) H1) (ht : t.heap = H1) : xX cls px D cl w1 A cls s t := by
  refine ⟨u, hpx, ⟨rfl, ?_⟩, ?_, ?_⟩
  · show va_P D cl (w1 u) t.heap
    rw [ht]; exact hP
  · rw [ht]; exact Nat.le_trans hS.1 h1
  · intro q h3 h4
    rw [ht, h2 q (Nat.lt_of_lt_of_le h3 hS.1) h4]
    exact hS.2.1 q h3 h4
/-- a call that throws, and is not caught here -/
theorem x_go {S : Type} {cls : String} {px : S → Prop} {w1 : S → va_W} (hr : vx_Run p l e R s m args below meth c H locs 0 0 1 6 (F0 m pc ls st) rest (va_Qv (fun _ : Unit => False) (fun _ _ => True) A args) (xX cls px D cl w1 A) (fun q => lo ≤ q)) (hS : va_S A s.heap H locs) (hlo : ∀ q, A q → lo ≤ q) (hex : ∀ x ∈ c.exceptionTable.toList, False) (hlk : meth.locks = false) :
    W p l e R s m args below meth c H locs 0 0 (vx_MQ below Qc (xX cls px D cl w1 A) args s 1 6 (fun q => lo ≤ q)) (F0 m pc ls st) := by
  have hS2 : va_S (fun q => lo ≤ q) s.heap H locs := ⟨hS.1, fun q h1 h2 => hS.2.1 q h1 (fun z => h2 (hlo q z)), fun z hz => hlo _ (hS.2.2 z hz)⟩
  refine vx_callv hr hS2 (fun q _ h => hlo q h) (fun q h => h) (fun q _ h => hlo q h) ?_ (fun u t H1 locs1 _ _ h => h.elim)
  intro E ce q9 u t H1 locs1 ht _ hp hB h1 h2 hS1 hce hcv hcl
  obtain ⟨rfl, hP⟩ := hB
  have hP : va_P D cl (w1 u) H1 := by rw [← ht]; exact hP
  exact vx_out (fun x hx => (hex x hx).elim) hlk hce hcv hcl (fun t ht _ => x_keep hS h1 h2 hp hP ht) hS1.2.2 (by omega) (by omega)
/-- the same for what is asked of a number: whatever the callee would return, it doesn't -/
abbrev qX : Array Value → State → Outcome → State → Prop := fun _ _ _ _ => False
theorem x_goX {S : Type} {cls : String} {px : S → Prop} {w1 : S → va_W} {mc ms : Nat} (hc : cells + 1 ≤ mc) (hs : slots + 6 ≤ ms) (hr : vx_Run p l e R s m args below meth c H locs cells slots 1 6 (F0 m pc ls st) rest (fun _ _ _ => False) (xX cls px D cl w1 A) (fun q => lo ≤ q)) (hS : va_S A s.heap H locs) (hlo : ∀ q, A q → lo ≤ q) (hex : ∀ x ∈ c.exceptionTable.toList, False) (hlk : meth.locks = false) :
    W p l e R s m args below meth c H locs cells slots (vx_MQ below Qc (xX cls px D cl w1 A) args s mc ms (fun q => lo ≤ q)) (F0 m pc ls st) := by
  have hS2 : va_S (fun q => lo ≤ q) s.heap H locs := ⟨hS.1, fun q h1 h2 => hS.2.1 q h1 (fun z => h2 (hlo q z)), fun z hz => hlo _ (hS.2.2 z hz)⟩
  intro T hT X
  rcases hr T hT X with ⟨v, st₀, t, T', L, h0, X', hL, e1, e2, hF, st⟩ | ⟨q, st₀, t, T', L, E, ce, h0, X', hL, e1, e2, ⟨u, hp, ⟨rfl, hb⟩, hF⟩, hce, hcv, hcl, st⟩
  · exact hF.elim
  · obtain ⟨k1, k2, k3⟩ := vx_keep h0 e1 hS2 (fun q _ h => hlo q h) (fun q h => h) hL hF
    have hP : va_P D cl (w1 u) T'.heap := by rw [e1]; exact hb
    obtain ⟨t2, a1, b1⟩ := (vx_out (p := p) (l := l) (e := e) (R := R) (Qc := Qc) (XC := xX E px D cl w1 A) (ls := ls) (rest := rest) (pc := pc) (fun x hx => (hex x hx).elim) hlk (show T'.heap[q]? = some ce by rw [e1]; exact hce) hcv hcl (fun t9 ht _ => x_keep hS k1 k2 hp hP ht) k3.2.2 hc hs : vx_W p l e R s m args below meth c T'.heap (locs ++ L) (cells + 1) (slots + 6) (vx_MQ below Qc (xX E px D cl w1 A) args s mc ms (fun q => lo ≤ q)) (F0 m pc ls rest) q) T' rfl X'
    exact ⟨t2, st.trans a1, b1⟩
theorem xrun_S (E : CallFix p m c cc nL s args tG own) {XC : String → State → State → Prop} {Pc : Array Value → State → Prop} {mc ms : Nat} {free : Addr → Prop} (hM : vx_Met l y (wA y b n r) rm Pc Qc XC mc ms free) (hk : kS own idx y b n r na) (hrc : rm.cells = mc) (hrs : rm.slots = ms) (hR : rm.frames + 1 ≤ R.frames ∧ 8 + (n + 11) + rm.locals ≤ R.locals) (hp : PreS s H Pc As) (hn : As.length = na) (hz : ls.size = nL) (hst : st = As.reverse ++ rest) (hW : (rest.map fun v => v.category).sum ≤ 8) (hdg : decode cc pc = .ok (.invokestatic idx, 3)) (hf : cells + mc ≤ R.cells ∧ slots + ms ≤ R.slots) :
    vx_Run p l e R s m args below meth c H locs cells slots mc ms (F0 m pc ls st) rest (Qc As.toArray) XC free :=
  vx_runS E hM ⟨k_cb E hk.1 hrc hrs hR, E.2.2.2.2 _ hk.2⟩ hp rfl hn hz hst (lv_room hW) hdg hf
theorem xrun_V (E : CallFix p m c cc nL s args tG own) {XC : String → State → State → Prop} {Pc : Array Value → State → Prop} {mc ms : Nat} {free : Addr → Prop} (hM : vx_Met l y (wA y b n r) rm Pc Qc XC mc ms free) (hk : kV own idx y b n r na) (hrc : rm.cells = mc) (hrs : rm.slots = ms) (hR : rm.frames + 1 ≤ R.frames ∧ 8 + (n + 11) + rm.locals ≤ R.locals) {a : Nat} (hp : PreV s H y.cls a Pc As) (hn : As.length = na) (hz : ls.size = nL) (hst : st = As.reverse ++ .ref a :: rest) (hW : (rest.map fun v => v.category).sum ≤ 8) (hdg : decode cc pc = .ok (.invokevirtual idx, 3)) (hf : cells + mc ≤ R.cells ∧ slots + ms ≤ R.slots) :
    vx_Run p l e R s m args below meth c H locs cells slots mc ms (F0 m pc ls st) rest (Qc (Value.ref a :: As).toArray) XC free :=
  vx_runV E hM ⟨k_cb E hk.1 hrc hrs hR, E.2.2.2.2 _ hk.2.1, E.2.2.2.2 _ hk.2.2⟩ hp rfl hn hz hst (lv_room hW) hdg hf
end XB2
set_option maxRecDepth 100000 in
theorem xK_IAE : xK 68 72 cIAE := ⟨tG_in (by decide +kernel) (by decide +kernel), tG_in (by decide +kernel) (by decide +kernel), by decide +kernel, fun w hw => tG_in ((show ∀ w ∈ (vx_atS RX0 72 cIAE nm2).filter goodWord, w ∈ lw_tbl by decide +kernel) w hw) (List.mem_filter.mp hw).2, by decide +kernel, by decide +kernel⟩
set_option maxRecDepth 100000 in
theorem xK_ISE : xK 45 49 cISE := ⟨tG_in (by decide +kernel) (by decide +kernel), tG_in (by decide +kernel) (by decide +kernel), by decide +kernel, fun w hw => tG_in ((show ∀ w ∈ (vx_atS RX0 49 cISE nm2).filter goodWord, w ∈ lw_tbl by decide +kernel) w hw) (List.mem_filter.mp hw).2, by decide +kernel, by decide +kernel⟩
set_option maxRecDepth 100000 in
theorem xK_IOB : xK 63 67 cIOB := ⟨tG_in (by decide +kernel) (by decide +kernel), tG_in (by decide +kernel) (by decide +kernel), by decide +kernel, fun w hw => tG_in ((show ∀ w ∈ (vx_atS RX0 67 cIOB nm2).filter goodWord, w ∈ lw_tbl by decide +kernel) w hw) (List.mem_filter.mp hw).2, by decide +kernel, by decide +kernel⟩
abbrev rX (d : Nat) : Room := { frames := 6 + d, cells := 1, slots := 6, locals := 90 + 40 * d }
theorem gs_bad {P : Nat → Bool} {T : Nat → Nat → Int64} {c n : Nat} {q : Nat → Nat} {y : Int32} (h : Gr P T c n q) (hn : n ≤ 128) (hy : y < 0 ∨ nI (ct (isF P T c) n) ≤ y) : gsF (sg T c q) y 0 (ct P n) = -1 := by
  refine gsF_none _ 0 fun j _ h2 h3 e => ?_
  have h4 := ct_lt (show j < ct P n by omega) h3
  have h5 := ct_le P n
  have h6 := ct_le (sg T c q) j
  rw [h.count] at h4
  have h7 := ct_le (isF P T c) n
  rcases hy with hy | hy
  · rw [← e] at hy
    exact nI_pos (by omega) hy
  · rw [← e] at hy
    have := (nI_leI (by omega) (by omega)).mp hy
    omega
