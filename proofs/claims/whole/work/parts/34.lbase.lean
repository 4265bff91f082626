/-! The law's wrappers: bodies with handlers, the cell for the answer. -/
section LB1
abbrev wW (y : MethodName) (b : ByteArray) (n : Nat) (r : Option FieldType) (hh : List (Nat × Nat × Nat × Nat)) : List Cond := .codeWith y b n r hh :: tG
abbrev wO (ao : Nat) (co : ClassId) (ov : Nat → Int64) : va_W := [(ao, .inl (co, 1, .inr (.inl ov)))]
abbrev tO (co : ClassId) : List (ClassId × FieldType) := [(co, .long)]
def fO (ad : Nat → Nat) (ao : Nat) : Nat → Prop := fun q => fA ad 10 q ∨ q = ao
/-- a world and the answer's cell, as a premise; the same with what a throw needs -/
abbrev pO (D : va_G) (tys : List (ClassId × FieldType)) (w : va_W) (ao : Nat) (co : ClassId) (ov : Nat → Int64) : State → Prop := fun U => va_P D c2 w U.heap ∧ va_P D c2 (wO ao co ov) U.heap ∧ va_K D c2 tys U ∧ va_K D c2 (tO co) U
abbrev pOZ (D : va_G) (tys : List (ClassId × FieldType)) (w : va_W) (ao : Nat) (co : ClassId) (ov : Nat → Int64) (lz : Nat) (sa : Nat → Nat) : State → Prop := fun U => va_P D c2 w U.heap ∧ va_P D c2 (wO ao co ov) U.heap ∧ va_K D c2 tys U ∧ va_K D c2 (tO co) U ∧ xE lz sa U U.heap
theorem preO {D : va_G} {tys : List (ClassId × FieldType)} {w : va_W} {ao : Nat} {co : ClassId} {ov : Nat → Int64} {s : State} {H : Heap} (hP : va_P D c2 w H) (hO : va_P D c2 (wO ao co ov) H) (hK : va_K D c2 tys s) (hKO : va_K D c2 (tO co) s) (As : List Value) : PreS s H (va_Pc As (pO D tys w ao co ov)) As :=
  ⟨fun a U g mk q => ⟨q.1, q.2.1, q.2.2.1, va_K.moved (u := U) (U := U.calling g mk a) (Vm.Alike.refl U.vm) q.2.2.2.1, va_K.moved (u := U) (U := U.calling g mk a) (Vm.Alike.refl U.vm) q.2.2.2.2⟩, fun U hU hW => ⟨rfl, by rw [hU]; exact hP, by rw [hU]; exact hO, va_K.moved hW.alike hK, va_K.moved hW.alike hKO⟩⟩
theorem preOZ {D : va_G} {tys : List (ClassId × FieldType)} {w : va_W} {ao : Nat} {co : ClassId} {ov : Nat → Int64} {lz : Nat} {sa : Nat → Nat} {s : State} {H : Heap} (hP : va_P D c2 w H) (hO : va_P D c2 (wO ao co ov) H) (hK : va_K D c2 tys s) (hKO : va_K D c2 (tO co) s) (hZ : xE lz sa s H) (As : List Value) : PreS s H (va_Pc As (pOZ D tys w ao co ov lz sa)) As :=
  ⟨fun a U g mk q => ⟨q.1, q.2.1, q.2.2.1, va_K.moved (u := U) (U := U.calling g mk a) (Vm.Alike.refl U.vm) q.2.2.2.1, va_K.moved (u := U) (U := U.calling g mk a) (Vm.Alike.refl U.vm) q.2.2.2.2.1, xE.same (s := U) (U := U.calling g mk a) rfl q.2.2.2.2.2⟩, fun U hU hW => ⟨rfl, by rw [hU]; exact hP, by rw [hU]; exact hO, va_K.moved hW.alike hK, va_K.moved hW.alike hKO, by rw [hU]; exact hZ.warm hW⟩⟩
theorem wmet_of {l : Launch} {y : MethodName} {cc : ByteArray} {maxL : Nat} {ret : Option FieldType} {hh : List (Nat × Nat × Nat × Nat)} {rm : Room} {As : List Value} {B : State → Prop} {Qc : Array Value → State → Outcome → State → Prop} {mc ms : Nat} {free : Addr → Prop} (own : String) (ho : y.cls = own) (hy : plainName y.cls = true) (hn : (lg_sl As).length ≤ maxL)
    (body : ∀ (p : Program) (e : Env) (s : State) (m : MethodId) (below : List Frame) (meth : Method) (c : Code) (ls : Array Slot), CallFix p m c cc maxL s As.toArray tG own → meth.sig.returnType = ret → meth.locks = false → c.exceptionTable.toList = tableOf hh → B s → lv_has ls maxL (lv_args 0 As) → W p l e rm s m As.toArray below meth c s.heap [] 0 0 (MQ below Qc As.toArray s mc ms free) (F0 m 0 ls [])) : Met l y (wW y cc maxL ret hh) rm (va_Pc As B) Qc mc ms free := by
  subst ho
  refine va_MetW (cc := cc) (maxL := maxL) (ret := ret) (hh := hh) hy rfl ?_
  intro p e s m args below meth c s₁ Bd hml hv
  obtain ⟨rfl, hB⟩ := hv
  have hts := atoms_spec (ws := wW y cc maxL ret hh) Bd.pre
  have hex := vx_table (x := y) Bd (hts (.codeWith y cc maxL ret hh) List.mem_cons_self)
  rw [lg_entry_eq]
  exact body p e s m below meth c _ ⟨Bd.exec, Bd.bytes, hml, findClass_of_methodNamed Bd.named, fun w h => hts w (List.mem_cons_of_mem _ h)⟩ Bd.returns Bd.notSynchronized hex hB (lv_entry As hn)
def kW (own : String) (idx : Nat) (y : MethodName) (b : ByteArray) (n : Nat) (r : Option FieldType) (hh : List (Nat × Nat × Nat × Nat)) (na : Nat) : Prop := Cond.methodLink own idx y ∈ tG ∧ Cond.codeWith y b n r hh ∈ tG ∧ Cond.initialized y.cls ∈ tG ∧ Cond.static y ∈ tG ∧ y.cls ≠ "java/lang/invoke/MethodHandle" ∧ y.cls ≠ "java/lang/invoke/VarHandle" ∧ (parseMethodDescriptor y.desc).map (fun d => d.parameters.length) = some na
theorem gW {own : String} {idx : Nat} {y : MethodName} {b : ByteArray} {n : Nat} {r : Option FieldType} {hh : List (Nat × Nat × Nat × Nat)} {na : Nat} (h : kW own idx y b n r hh na) : GoodIn tG (va_wsS own idx y (wW y b n r hh)) := by
  intro w hw
  have key : ∀ w, w ∈ tG → w ∈ tG ∧ ((w.onTables && w.keeps) = true ∨ ∃ ty, w = .arrayClass ty) := fun w h => ⟨h, good_of_word (tG_good _ h)⟩
  unfold va_wsS at hw
  rcases List.mem_append.mp hw with h1 | h1
  · simp only [List.mem_cons, List.not_mem_nil, or_false] at h1
    rcases h1 with rfl | rfl | rfl
    · exact key _ h.1
    · exact key _ h.2.2.2.1
    · exact key _ h.2.2.1
  · rcases List.mem_cons.mp h1 with rfl | h1
    · exact key _ h.2.1
    · exact key _ h1
end LB1
section LB2
variable {p : Program} {l : Launch} {e : Env} {R : Room} {s : State} {m : MethodId} {args : Array Value} {below : List Frame} {meth : Method} {c : Code} {H : Heap} {locs : List Loc} {cells slots : Nat} {Q : State → Prop}
variable {cc : ByteArray} {pc : Nat} {ls : Array Slot} {st rest : List Value} {nL : Nat} {own : String}
variable {D : va_G} {cl : List vw_C} {tys : List (ClassId × FieldType)} {w : va_W} {H0 : Heap} {lz : Nat} {sa : Nat → Nat} {A : Nat → Prop}
theorem run_W (E : CallFix p m c cc nL s args tG own) {y : MethodName} {b : ByteArray} {n na idx : Nat} {r : Option FieldType} {hh : List (Nat × Nat × Nat × Nat)} {rm : Room} {Pc : Array Value → State → Prop} {Qc : Array Value → State → Outcome → State → Prop} {mc ms : Nat} {free : Addr → Prop} {As : List Value} (hM : Met l y (wW y b n r hh) rm Pc Qc mc ms free) (hk : kW own idx y b n r hh na) (hrc : rm.cells = mc) (hrs : rm.slots = ms) (hR : rm.frames + 1 ≤ R.frames ∧ 8 + (n + 11) + rm.locals ≤ R.locals) (hp : PreS s H Pc As) (hn : As.length = na) (hz : ls.size = nL) (hst : st = As.reverse ++ rest) (hW : (rest.map fun v => v.category).sum ≤ 8) (hdg : decode cc pc = .ok (.invokestatic idx, 3)) (hf : cells + mc ≤ R.cells ∧ slots + ms ≤ R.slots) :
    va_Run p l e R s m args below meth c H locs cells slots mc ms (F0 m pc ls st) rest (Qc As.toArray) free :=
  vx_runSW E hM (vx_cwSW na E.2.2.2.2 (gW hk) rfl hrc hrs ⟨hk.2.2.2.2.1, hk.2.2.2.2.2.1, hk.2.2.2.2.2.2⟩ hR) hp rfl hn hz hst (lv_room hW) hdg hf
/-- a call that throws: what is caught -/
theorem x_got {S : Type} {cls : String} {px : S → Prop} {w1 : S → va_W} (hr : vx_Run p l e R s m args below meth c s.heap [] 0 0 1 6 (F0 m pc ls st) rest (fun _ _ _ => False) (xX cls px D cl w1 A) (fun q => lz ≤ q))
    (kk : ∀ (ce : Cell) (q9 : Addr) (u : S) (H1 : Heap) (locs1 : List Loc), va_P D cl (w1 u) H1 → s.heap.size ≤ H1.size → (∀ q : Nat, q < s.heap.size → ¬ A q → H1[q]? = s.heap[q]?) → (∀ z ∈ locs1, lz ≤ z.base) → H1[q9]? = some ce → ce.vm = .none → s.vm.findClass cls = some ce.cls → vx_W p l e R s m args below meth c H1 locs1 1 6 Q (F0 m pc ls rest) q9) :
    W p l e R s m args below meth c s.heap [] 0 0 Q (F0 m pc ls st) := by
  intro T hT X
  rcases hr T hT X with ⟨v, st₀, t, T', L, h0, X', hL, e1, e2, hF, st⟩ | ⟨q, st₀, t, T', L, E, ce, h0, X', hL, e1, e2, ⟨u, hp, ⟨rfl, hb⟩, hF⟩, hce, hcv, hcl, st⟩
  · exact hF.elim
  · obtain ⟨k1, k2⟩ := hF
    rw [h0] at k1 k2
    obtain ⟨t2, a1, b1⟩ := kk ce q u T'.heap ([] ++ L) (by rw [e1]; exact hb) (by rw [e1]; exact k1) (fun q h1 h2 => by rw [e1]; exact k2 q h1 h2) (fun z hz => hL z hz) (by rw [e1]; exact hce) hcv hcl T' rfl X'
    exact ⟨t2, st.trans a1, b1⟩
/-- a wrapper's end behind a catch -/
theorem e_cx (E : CallFix p m c cc nL s args tG own) (hr : meth.sig.returnType = some .int) (hlk : meth.locks = false) {S : Type} {post : Int32 → S → Prop} {w1 : S → va_W} {ad : Nat → Nat} {ao : Nat} {co : ClassId} {ov : Nat → Int64} {v : Int32} (u : S) (hp : post v u) (hP : va_P D c2 (w1 u) H) (hO : va_P D c2 (wO ao co ov) H) (h1 : s.heap.size ≤ H.size) (h2 : ∀ q : Nat, q < s.heap.size → ¬ fA ad 10 q → H[q]? = s.heap[q]?) (h3 : ∀ z ∈ locs, lz ≤ z.base) (hdg : decode cc pc = .ok (.ireturn, 1)) :
    W p l e R s m args below meth c H locs 1 6 (MQ below (va_Qi post (fun u t => va_P D c2 (w1 u) t.heap ∧ va_P D c2 (wO ao co ov) t.heap) (fO ad ao)) args s 1 6 (fun q => lz ≤ q)) (F0 m pc ls [.int v]) :=
  W.iret E.1 E.2.1 hr (fun t ht _ => ⟨⟨v, u, rfl, hp, by rw [ht]; exact hP, by rw [ht]; exact hO⟩, ⟨by rw [ht]; exact h1, fun q h4 h5 => by rw [ht]; exact h2 q h4 (fun z => h5 (Or.inl z))⟩⟩) h3 hdg hlk
theorem e_cg (E : CallFix p m c cc nL s args tG own) (hr : meth.sig.returnType = some .int) (hlk : meth.locks = false) {S : Type} {post : Int32 → S × Int64 → Prop} {w1 : S → va_W} {ad : Nat → Nat} {ao : Nat} {co : ClassId} {ov : Nat → Int64} {v : Int32} (u : S) (x : Int64) (hp : post v (u, x)) (hP : va_P D c2 (w1 u) H) (hO : va_P D c2 (wO ao co (fS ov 0 x)) H) (hS : va_S (fO ad ao) s.heap H locs) (hdg : decode cc pc = .ok (.ireturn, 1)) :
    W p l e R s m args below meth c H locs 0 0 (MQ below (va_Qi post (fun u t => va_P D c2 (w1 u.1) t.heap ∧ va_P D c2 (wO ao co (fS ov 0 u.2)) t.heap) (fO ad ao)) args s 0 0 (fO ad ao)) (F0 m pc ls [.int v]) :=
  W.iret E.1 E.2.1 hr (fun t ht _ => ⟨⟨v, (u, x), rfl, hp, by rw [ht]; exact hP, by rw [ht]; exact hO⟩, hS.F ht⟩) hS.2.2 hdg hlk
/-- worlds apart stay -/
theorem apart_kept {ws : va_W} {H1 : Heap} (h : va_P D cl ws H) (hd : ∀ (k : Nat) (q : Nat × va_E), ws[k]? = some q → ¬ A q.1) (hk : ∀ q : Nat, q < H.size → ¬ A q → H1[q]? = H[q]?) : va_P D cl ws H1 := h.kept (fun k q hq => hk _ (vx_lt h hq) (hd k q hq))
theorem wO_d {ad : Nat → Nat} {ao : Nat} {co : ClassId} {ov : Nat → Int64} (h : ¬ fA ad 10 ao) : ∀ (k : Nat) (q : Nat × va_E), (wO ao co ov)[k]? = some q → ¬ fA ad 10 q.1 := by
  intro k q hq
  have h1 := (List.getElem?_eq_some_iff.mp hq).1
  simp at h1
  subst h1
  cases hq
  exact h
theorem dO {ad : Nat → Nat} {ao : Nat} {co : ClassId} {ov : Nat → Int64} : va_D (fO ad ao) (wO ao co ov) := by
  refine ⟨fun i j p q hi hj _ => ?_, fun k q hq => ?_⟩
  · have h1 := (List.getElem?_eq_some_iff.mp hi).1
    have h2 := (List.getElem?_eq_some_iff.mp hj).1
    simp at h1 h2
    omega
  · have h1 := (List.getElem?_eq_some_iff.mp hq).1
    simp at h1
    subst h1
    cases hq
    exact Or.inr rfl
/-- the answer is put into its cell; a world apart stays -/
theorem o_put (E : CallFix p m c cc nL s args tG own) {ad : Nat → Nat} {ao : Nat} {co : ClassId} {ov : Nat → Int64} (hK : va_K D c2 (tO co) s) (hO : va_P D c2 (wO ao co ov) H) {w : va_W} (hP : va_P D c2 w H) (hw : ∀ (k : Nat) (q : Nat × va_E), w[k]? = some q → q.1 ≠ ao) (hS : va_S (fO ad ao) H0 H locs) {x : Int64} (hdg : decode cc pc = .ok (.lastore, 1))
    (kk : ∀ (H1 : Heap) (locs1 : List Loc), va_P D c2 (wO ao co (fS ov 0 x)) H1 → va_P D c2 w H1 → va_S (fO ad ao) H0 H1 locs1 → W p l e R s m args below meth c H1 locs1 cells slots Q (F0 m (pc + 1) ls rest)) : W p l e R s m args below meth c H locs cells slots Q (F0 m pc ls (.long x :: .int (nI 0) :: .ref ao :: rest)) := by
  refine W.last E.1 E.2.1 (hO 0 _ rfl) ((hK.2 0 _ rfl).1 1 (fun j => .long (ov j))) (fun q => by cases q) (by show ¬ (nI 0 < 0 ∨ (arrV _ _ _).slots.size ≤ _); rw [arrV_size]; exact vp_in_nI (n := 0) (N := 1) (by omega) (by omega)) rfl rfl hdg fun H1 e z oq => ?_
  refine kk H1 _ ?_ (hP.kept fun k q hq => oq _ (hw k q hq)) (hS.put z oq (Or.inr rfl))
  intro k q hq
  have h1 := (List.getElem?_eq_some_iff.mp hq).1
  simp at h1
  subst h1
  cases hq
  show H1[ao]? = some (vp_cell _ _)
  rw [e]
  have e0 : (nI 0).toNatClampNeg = 0 := nI_clamp (by omega)
  rw [vp_cell_l, vp_cell_l, arrV_store, e0]
  congr 2
  funext q
  by_cases hq : q = 0
  · subst hq
    simp [updV, fS]
  · simp [updV, fS, hq]
theorem wX_d {ad : Nat → Nat} {ca : Nat → ClassId} {T : Nat → Nat → Int64} {n : Nat} {kc ko : Nat → Nat} {kv : Nat → Int64} {k : Nat} {lo hi : Nat → Int64} {bw bb pk : Nat → Nat} {ao : Nat} (h : ¬ fA ad 10 ao) : ∀ (j : Nat) (q : Nat × va_E), (wX ad ca T n kc ko kv k lo hi bw bb pk)[j]? = some q → q.1 ≠ ao := by
  intro j q hq e
  obtain ⟨h1, h2⟩ := dW_at (ad := ad) (N := 10) (ws := wX ad ca T n kc ko kv k lo hi bw bb pk) rfl hq
  exact h ⟨j, h1, by rw [← e]; exact h2⟩
end LB2
