/-! ===== BEGIN words of one list among another's, by their places ===== -/
theorem goodIn_r {big : List Cond} (ws : List Cond) (ps : List Nat) (hp : ws = ps.filterMap (fun i => big[i]?)) (h : ws.all goodWord = true) : GoodIn big ws := by
  intro w hw
  have h1 := List.all_eq_true.mp h w hw
  rw [hp] at hw
  obtain ⟨i, -, hi⟩ := List.mem_filterMap.mp hw
  have hm : w ∈ big := by first | exact List.mem_of_getElem? hi | exact List.getElem?_mem hi
  exact ⟨hm, good_of_word h1⟩
theorem goodIn_app {big a b : List Cond} (ha : GoodIn big a) (hb : GoodIn big b) : GoodIn big (a ++ b) := fun w h => (List.mem_append.mp h).elim (ha w) (hb w)
theorem goodIn_ca {big a b : List Cond} {c : Cond} (ha : GoodIn big (c :: a)) (hb : GoodIn big b) : GoodIn big (c :: (a ++ b)) := fun w h => (List.mem_cons.mp h).elim (fun e => ha w (List.mem_cons.mpr (Or.inl e))) (fun h => (List.mem_append.mp h).elim (fun h => ha w (List.mem_cons.mpr (Or.inr h))) (hb w))
theorem goodIn_sub {big ws : List Cond} (hm : ∀ w ∈ ws, w ∈ big) (h : ws.all goodWord = true) : GoodIn big ws := fun w hw => ⟨hm w hw, good_of_word (List.all_eq_true.mp h w hw)⟩
/-! ===== END ===== -/

/-! ===== BEGIN exceptions that leave a method, and their catching by the caller (launches without stack traces) ===== -/
section VXA
/-! The laws vx_back, vx_callV, vx_callS, vx_callSW, vx_throw0, vx_throwS follow proofs of the library, with one case more: JvmDerived/Free/Laws.lean (Back.of_free), Shelf42/LK1.lean (callV, callS), Shelf/KitTraced.lean (throwNew0V, throwNewS). -/
open Bundle
/-- where a method has thrown q: the class by its name, the cell, what was written, the world -/
def vx_T (XC : String → State → State → Prop) (st : State) (q : Addr) (t : State) (mc ms : Nat) (free : Addr → Prop) : Prop :=
  ∃ (E : String) (ce : Cell) (L : List Loc), XC E st t ∧ t.heap[q]? = some ce ∧ ce.vm = .none ∧ st.vm.findClass E = some ce.cls ∧ st.WarmedH t.vm ∧ st.sameButNew ({ t with vm := st.vm } : State) L mc ms ∧ ∀ z ∈ L, free z.base
def vx_Q (Qc : Array Value → State → Outcome → State → Prop) (XC : String → State → State → Prop) (mc ms : Nat) (free : Addr → Prop) : Array Value → State → Outcome → State → Prop := fun a st o t =>
  (Qc a st o t ∧ ∃ L, FrameEnd st o t L mc ms ∧ ∀ q ∈ L, free q.base) ∨ ∃ q, o = .threw q ∧ vx_T XC st q t mc ms free
/-- a callee that returns or throws -/
def vx_Met (l : Launch) (y : MethodName) (ws : List Cond) (rm : Room) (Pc : Array Value → State → Prop) (Qc : Array Value → State → Outcome → State → Prop) (XC : String → State → State → Prop) (mc ms : Nat) (free : Addr → Prop) : Prop :=
  MetFree l y (headSpec ws rm) Pc (fun _ _ _ _ _ => True) (vx_Q Qc XC mc ms free)
def vx_Post (XC : String → State → State → Prop) (mc ms : Nat) (free : Addr → Prop) : Pt → Array Value → Addr → Pt → Prop := fun A a q B =>
  ∃ (g : JFrame) (mk : MethodId) (t : State) (L : List Loc) (E : String) (ce : Cell), B.U.heap = t.heap ∧ B.U.vm = t.vm ∧ XC E (A.U.calling g mk a) t ∧ t.heap[q]? = some ce ∧ ce.vm = .none ∧ A.U.vm.findClass E = some ce.cls ∧ B.locs = A.locs ++ L ∧ (∀ z ∈ L, free z.base) ∧ B.cells = A.cells + mc ∧ B.slots = A.slots + ms
def vx_Back (l : Launch) (R : Room) (p : Program) (e : Env) (below : List Frame) (s : State) (sargs : Array Value) (y : MethodName) (len W9 : Nat)
    (Pre : Pt → Array Value → Prop) (Post : Pt → Array Value → Option Value → Pt → Prop) (PostX : Pt → Array Value → Addr → Pt → Prop) : Prop :=
  ∀ (m : MethodId) (meth : Method) (c : Code) (A : Pt) (g : JFrame) (ig : Instr) (mk : MethodId) (a : Array Value),
    Stand p l e R s m sargs below meth c A.U A.locs A.cells A.slots → g.method = m → g.locals.size = c.maxLocals → decode c.code g.pc = .ok (ig, len) →
    2 * g.monitorRoom + (g.stack.map fun v => v.category).sum ≤ W9 → A.U.methodNamed? y = some mk → Pre A a →
    (∃ (v : Option Value) (B : Pt), Stand p l e R s m sargs below meth c B.U B.locs B.cells B.slots ∧ Post A a v B ∧
      Steps p.tables e below (doInvoke e (A.U.setTop g) [] mk a).1 (B.U.setTop { g with pc := g.pc + len, stack := v.toList ++ g.stack })) ∨
    (∃ (q : Addr) (B : Pt), Stand p l e R s m sargs below meth c B.U B.locs B.cells B.slots ∧ PostX A a q B ∧
      Steps p.tables e below (doInvoke e (A.U.setTop g) [] mk a).1 ((B.U.setTop g).pushFrame (.throwing q)))
section Payer
variable {l : Launch} {R : Room} {p : Program} {e : Env} {below : List Frame} {s : State} {sargs : Array Value} {y : MethodName} {len W9 : Nat}
theorem vx_back {ws : List Cond} {rm : Room} {Pc : Array Value → State → Prop} {Qc : Array Value → State → Outcome → State → Prop} {XC : String → State → State → Prop} {mc ms : Nat} {free : Addr → Prop} {bytes : ByteArray} {maxL : Nat} {ret : Option FieldType}
    (hM : vx_Met l y ws rm Pc Qc XC mc ms free) (hblind : FrameBlind Pc) (hrc : rm.cells = mc) (hrs : rm.slots = ms)
    (hframes : rm.frames + 1 ≤ R.frames) (hlocals : W9 + (maxL + 11) + rm.locals ≤ R.locals)
    (hws : ∀ w ∈ ws, ∀ a' U, s.WarmedH U.vm → w.before a' U = true) (hcode : Cond.code y bytes maxL ret ∈ ws) (hinit : ∀ a' U, s.WarmedH U.vm → (Cond.initialized y.cls).before a' U = true) :
    vx_Back l R p e below s sargs y len W9 (PreOf R mc ms Pc) (PostOf Qc mc ms free) (vx_Post XC mc ms free) := by
  intro m meth c A g ig mk a X hg hsize hdg hW hn hp
  have h1 : (headSpec ws rm).pre.before a A.U = true := atoms_intro fun w hw => hws w hw _ _ X.warmed
  have h2 : (Cond.code y bytes maxL ret).before a A.U = true := hws _ hcode _ _ X.warmed
  have h3 : (Cond.initialized y.cls).before a A.U = true := hinit _ _ X.warmed
  have h4 : A.cells + (headSpec ws rm).room.cells ≤ R.cells := by rw [show (headSpec ws rm).room.cells = mc from hrc]; exact hp.1
  have h5 : A.slots + (headSpec ws rm).room.slots ≤ R.slots := by rw [show (headSpec ws rm).room.slots = ms from hrs]; exact hp.2.1
  have hPc : Pc a (A.U.calling g mk a) := hblind _ _ _ _ hp.2.2
  obtain ⟨U, Ls, c0, s0⟩ := A
  dsimp only [Pt.U, Pt.locs, Pt.cells, Pt.slots] at h1 h2 h3 h4 h5 X hn hPc ⊢
  obtain ⟨methY, cY, hmY, hcY, -, hlY, -, -, -, -⟩ := Cond.code_spec hn h2
  obtain ⟨kY, hkY, -⟩ := className_of_methodNamed hn
  have hinitY : kY.init = .initialized := Cond.initialized_spec (findClass_of_methodNamed hn) hkY h3
  have h : At U g.method c below := by rw [hg]; exact X.here
  have hlocals9 : W9 + (maxL + 11) + (headSpec ws rm).room.locals ≤ R.locals := hlocals
  have happ : (headSpec ws rm).appliesLoose y e.platform (U.calling g mk a) = true :=
    Spec.appliesLoose_calling (g := g) h hdg hn hkY hinitY
      (X.room_calling (g := g) (R' := (headSpec ws rm).room) hsize hmY hcY hframes (by rw [hlY]; omega) h4 h5) h1
  obtain ⟨mid, hmid⟩ := h.above
  have hfr : (U.setTop g).frames = (.java g :: mid) ++ below := by rw [State.frames_setTop' g h.top, hmid]; rfl
  obtain ⟨o, s₂, hsteps, -, hend, hq⟩ := Steps.callFree hM p X.admits X.cas X.clock (acts := []) hfr happ hPc trivial
  have hq' : vx_Q Qc XC mc ms free a (U.calling g mk a) o s₂ := hq
  rw [State.frames_setTop' g h.top] at hend
  obtain ⟨g₀, hg0⟩ := Option.isSome_iff_exists.mp h.top
  obtain ⟨r, hr⟩ := State.topJava?_eq_some.mp hg0
  have hr' : (({ U with heap := s₂.heap, slotsUsed := s₂.slotsUsed } : State).setVm s₂.vm).frames = .java g₀ :: r := hr
  rcases hq' with ⟨hqc, L, hfe, hL⟩ | ⟨q, rfl, E, ce, L, hx, hce, hcv, hcl, hW₂, hsm, hL⟩
  · obtain ⟨⟨v, rfl⟩, hW₂, e2, q2, q3, q4, q5, q6⟩ := id hfe
    have e3 : s₂ = ({ (U.calling g mk a).setFrames s₂.frames with heap := s₂.heap, slotsUsed := s₂.slotsUsed } : State).setVm s₂.vm := by
      have : s₂ = ({ s₂ with vm := (U.calling g mk a).vm } : State).setVm s₂.vm := rfl
      rw [e2] at this
      exact this
    obtain ⟨c₂, i₂, len₂, hc₂, hd₂, hf₂⟩ := hend
    have hW' : U.WarmedH s₂.vm := hW₂
    have hcc : c₂ = c := by
      have h1 : s₂.code? g.method = U.code? g.method := by
        rw [State.code?_eq, State.code?_eq, hW'.alike.method?]
      exact Option.some.inj (hc₂.symm.trans (h1.trans h.code))
    subst hcc
    have hlen : len₂ = len := by rw [hdg] at hd₂; cases hd₂; rfl
    subst hlen
    have hs₂ : s₂ = (({ U with heap := s₂.heap, slotsUsed := s₂.slotsUsed } : State).setVm s₂.vm).setTop { g with pc := g.pc + len₂, stack := v.toList ++ g.stack } := by
      refine e3.trans ?_
      rw [hf₂, State.calling_eq h.top, State.setFrames_setFrames, State.setTop_of_frames _ hr', hr]
      rfl
    have hsame : U.sameButNew ({ U with heap := s₂.heap, slotsUsed := s₂.slotsUsed } : State) L mc ms := by
      refine ⟨?_, q2, q3, q4, q5, q6⟩
      obtain ⟨t, ht, -⟩ := State.frames_cons hr
      show ({ U with heap := s₂.heap, slotsUsed := s₂.slotsUsed } : State) = { U.setFrames U.frames with heap := s₂.heap, slotsUsed := s₂.slotsUsed }
      rw [State.setFrames_self ht]
    subst hg
    refine Or.inl ⟨v, ⟨(({ U with heap := s₂.heap, slotsUsed := s₂.slotsUsed } : State).setVm s₂.vm), Ls ++ L, c0 + mc, s0 + ms⟩,
      ⟨X.admits, X.cas, X.clock, X.frames, X.room, X.hears, X.method, X.code, (X.here.setHeapUsed s₂.heap s₂.slotsUsed).setVm hW'.alike, X.tail, State.WarmedH.trans X.warmed hW', X.limits, X.bytes, X.same.trans (hsame.setVm s.vm)⟩,
      ⟨g, mk, s₂, L, rfl, rfl, hqc, rfl, hL, rfl, rfl⟩, ?_⟩
    show Steps p.tables e below _ ((({ U with heap := s₂.heap, slotsUsed := s₂.slotsUsed } : State).setVm s₂.vm).setTop { g with pc := g.pc + len₂, stack := v.toList ++ g.stack })
    rw [← hs₂]
    exact hsteps
  · obtain ⟨e2, q2, q3, q4, q5, q6⟩ := id hsm
    have e3 : s₂ = ({ (U.calling g mk a).setFrames s₂.frames with heap := s₂.heap, slotsUsed := s₂.slotsUsed } : State).setVm s₂.vm := by
      have : s₂ = ({ s₂ with vm := (U.calling g mk a).vm } : State).setVm s₂.vm := rfl
      rw [e2] at this
      exact this
    have hf₂ : s₂.frames = .throwing q :: .java g :: U.frames.tail := hend
    have hW' : U.WarmedH s₂.vm := hW₂
    have hs₂ : s₂ = ((({ U with heap := s₂.heap, slotsUsed := s₂.slotsUsed } : State).setVm s₂.vm).setTop g).pushFrame (.throwing q) := by
      refine e3.trans ?_
      rw [hf₂, State.calling_eq h.top, State.setFrames_setFrames, State.pushFrame, State.frames_setTop _ hr', State.setTop_of_frames _ hr', State.setFrames_setFrames, hr]
      rfl
    have hsame : U.sameButNew ({ U with heap := s₂.heap, slotsUsed := s₂.slotsUsed } : State) L mc ms := by
      refine ⟨?_, q2, q3, q4, q5, q6⟩
      obtain ⟨t, ht, -⟩ := State.frames_cons hr
      show ({ U with heap := s₂.heap, slotsUsed := s₂.slotsUsed } : State) = { U.setFrames U.frames with heap := s₂.heap, slotsUsed := s₂.slotsUsed }
      rw [State.setFrames_self ht]
    subst hg
    refine Or.inr ⟨q, ⟨(({ U with heap := s₂.heap, slotsUsed := s₂.slotsUsed } : State).setVm s₂.vm), Ls ++ L, c0 + mc, s0 + ms⟩,
      ⟨X.admits, X.cas, X.clock, X.frames, X.room, X.hears, X.method, X.code, (X.here.setHeapUsed s₂.heap s₂.slotsUsed).setVm hW'.alike, X.tail, State.WarmedH.trans X.warmed hW', X.limits, X.bytes, X.same.trans (hsame.setVm s.vm)⟩,
      ⟨g, mk, s₂, L, E, ce, rfl, rfl, hx, hce, hcv, hcl, rfl, hL, rfl, rfl⟩, ?_⟩
    show Steps p.tables e below _ (((({ U with heap := s₂.heap, slotsUsed := s₂.slotsUsed } : State).setVm s₂.vm).setTop g).pushFrame (.throwing q))
    rw [← hs₂]
    exact hsteps
end Payer
section Calls
variable {p : Program} {l : Launch} {e : Env} {R : Room} {s : State} {m : MethodId} {args : Array Value} {below : List Frame} {meth : Method} {c : Code} {T : State} {locs : List Loc} {cells slots : Nat}
theorem vx_callV (X : Stand p l e R s m args below meth c T locs cells slots) (hexec : p.tables.exec = Jvm.exec) {own C : String} {index : Nat} {y : MethodName} {bytes : ByteArray} {maxL : Nat} {ret : Option FieldType}
    (hown : s.vm.findClass own = some m.cls) (hlink : (Cond.methodLink own index y).before args s = true) (hinst : (Cond.instanceMethod y).before args s = true) (hsel : (Cond.selects C y y).before args s = true)
    (hcode : (Cond.code y bytes maxL ret).before args s = true) (hy : y.cls ≠ "java/lang/invoke/MethodHandle" ∧ y.cls ≠ "java/lang/invoke/VarHandle")
    {W9 : Nat} {Pre : Pt → Array Value → Prop} {Post : Pt → Array Value → Option Value → Pt → Prop} {PostX : Pt → Array Value → Addr → Pt → Prop} (hK : vx_Back l R p e below s args y 3 W9 Pre Post PostX)
    {b : Addr} {cellB : Cell} (hcell : T.heap[b]? = some cellB) (hobj : cellB.vm.isStatics = false) (hcls : s.vm.findClass C = some cellB.cls)
    {g : JFrame} (hg : g.method = m) (hsize : g.locals.size = c.maxLocals) {argsL rest : List Value} (hlen : ∀ sig, parseMethodDescriptor y.desc = some sig → argsL.length = sig.parameters.length)
    (hstack : g.stack = argsL.reverse ++ .ref b :: rest) (hW : 2 * g.monitorRoom + (rest.map fun v => v.category).sum ≤ W9) (hdg : decode c.code g.pc = .ok (.invokevirtual index, 3))
    (hpre : ∀ vm₁, s.WarmedH vm₁ → Pre ⟨T.setVm vm₁, locs, cells, slots⟩ (Value.ref b :: argsL).toArray) :
    (∃ (v : Option Value) (vm₁ : Vm) (B : Pt), s.WarmedH vm₁ ∧ Stand p l e R s m args below meth c B.U B.locs B.cells B.slots ∧ Post ⟨T.setVm vm₁, locs, cells, slots⟩ (Value.ref b :: argsL).toArray v B ∧
      ∀ target, Steps p.tables e below (B.U.setTop { g with pc := g.pc + 3, stack := v.toList ++ rest }) target → Steps p.tables e below (T.setTop g) target) ∨
    (∃ (q : Addr) (vm₁ : Vm) (B : Pt), s.WarmedH vm₁ ∧ Stand p l e R s m args below meth c B.U B.locs B.cells B.slots ∧ PostX ⟨T.setVm vm₁, locs, cells, slots⟩ (Value.ref b :: argsL).toArray q B ∧
      Steps p.tables e below (T.setTop g) ((B.U.setTop { g with stack := rest }).pushFrame (.throwing q))) := by
  obtain ⟨mk, methM, hnamed, hmethM, hstM, habM⟩ := Cond.instanceMethod_spec hinst
  obtain ⟨methM', cM, hmethM', -, -, -, -, -, -, hsigM⟩ := Cond.code_spec hnamed hcode
  cases hmethM.symm.trans hmethM'
  obtain ⟨c2, r2, m2, q1, q2, q3, q4, kP, hkP, hkPi⟩ := Cond.selects_spec hsel
  cases hcls.symm.trans q1
  cases (State.methodFound?_of_named hnamed hy).symm.trans q2
  cases hnamed.symm.trans q3
  have hselP : selectMethod e.platform s.vm cellB.cls mk = .method mk := by rw [Launch.admits_selectMethod X.admits]; exact q4
  obtain ⟨vm₁, X₁, hstep₁⟩ := X.invokevirtual hexec hown hlink hnamed hmethM hstM hkP hkPi hy (a := b) (cell := cellB) hcell
    (fun z h => by rw [h] at hobj; cases hobj) hselP hmethM habM hkP hkPi (g := g) hg (argsL := argsL) (rest := rest) (hlen _ hsigM) hstack hdg
  rcases hK m meth c ⟨T.setVm vm₁, locs, cells, slots⟩ { g with stack := rest } (.invokevirtual index) mk (Value.ref b :: argsL).toArray X₁ hg hsize hdg hW (X₁.named hnamed) (hpre vm₁ X₁.warmed) with ⟨v, B, X', hpost, hsteps⟩ | ⟨q, B, X', hpost, hsteps⟩
  · exact Or.inl ⟨v, vm₁, B, X₁.warmed, X', hpost, fun target h => hstep₁ _ fun acts => by rw [doInvoke_state]; exact hsteps.trans h⟩
  · exact Or.inr ⟨q, vm₁, B, X₁.warmed, X', hpost, hstep₁ _ fun acts => by rw [doInvoke_state]; exact hsteps⟩
theorem vx_callS (X : Stand p l e R s m args below meth c T locs cells slots) (hexec : p.tables.exec = Jvm.exec) {own : String} {index : Nat} {y : MethodName} {bytes : ByteArray} {maxL : Nat} {ret : Option FieldType}
    (hown : s.vm.findClass own = some m.cls) (hlink : (Cond.methodLink own index y).before args s = true) (hstat : (Cond.static y).before args s = true) (hinit : (Cond.initialized y.cls).before args s = true)
    (hcode : (Cond.code y bytes maxL ret).before args s = true) (hy : y.cls ≠ "java/lang/invoke/MethodHandle" ∧ y.cls ≠ "java/lang/invoke/VarHandle")
    {W9 : Nat} {Pre : Pt → Array Value → Prop} {Post : Pt → Array Value → Option Value → Pt → Prop} {PostX : Pt → Array Value → Addr → Pt → Prop} (hK : vx_Back l R p e below s args y 3 W9 Pre Post PostX)
    {g : JFrame} (hg : g.method = m) (hsize : g.locals.size = c.maxLocals) {argsL rest : List Value} (hlen : ∀ sig, parseMethodDescriptor y.desc = some sig → argsL.length = sig.parameters.length)
    (hstack : g.stack = argsL.reverse ++ rest) (hW : 2 * g.monitorRoom + (rest.map fun v => v.category).sum ≤ W9) (hdg : decode c.code g.pc = .ok (.invokestatic index, 3))
    (hpre : ∀ vm₁, s.WarmedH vm₁ → Pre ⟨T.setVm vm₁, locs, cells, slots⟩ argsL.toArray) :
    (∃ (v : Option Value) (vm₁ : Vm) (B : Pt), s.WarmedH vm₁ ∧ Stand p l e R s m args below meth c B.U B.locs B.cells B.slots ∧ Post ⟨T.setVm vm₁, locs, cells, slots⟩ argsL.toArray v B ∧
      ∀ target, Steps p.tables e below (B.U.setTop { g with pc := g.pc + 3, stack := v.toList ++ rest }) target → Steps p.tables e below (T.setTop g) target) ∨
    (∃ (q : Addr) (vm₁ : Vm) (B : Pt), s.WarmedH vm₁ ∧ Stand p l e R s m args below meth c B.U B.locs B.cells B.slots ∧ PostX ⟨T.setVm vm₁, locs, cells, slots⟩ argsL.toArray q B ∧
      Steps p.tables e below (T.setTop g) ((B.U.setTop { g with stack := rest }).pushFrame (.throwing q))) := by
  obtain ⟨mk, hnamed⟩ := Cond.code_named hcode
  obtain ⟨methM, cM, hmethM, -, -, -, -, -, -, hsigM⟩ := Cond.code_spec hnamed hcode
  have hstatic : methM.isStatic = true := Cond.static_spec hnamed hmethM hstat
  obtain ⟨kP, hkP, -⟩ := className_of_methodNamed hnamed
  have hinitP : kP.init = .initialized := Cond.initialized_spec (findClass_of_methodNamed hnamed) hkP hinit
  obtain ⟨vm₁, X₁, hstep₁⟩ := X.invokestatic hexec hown hlink hnamed hmethM hstatic hkP hinitP hy (g := g) hg (argsL := argsL) (rest := rest) (hlen _ hsigM) hstack hdg
  rcases hK m meth c ⟨T.setVm vm₁, locs, cells, slots⟩ { g with stack := rest } (.invokestatic index) mk argsL.toArray X₁ hg hsize hdg hW (X₁.named hnamed) (hpre vm₁ X₁.warmed) with ⟨v, B, X', hpost, hsteps⟩ | ⟨q, B, X', hpost, hsteps⟩
  · exact Or.inl ⟨v, vm₁, B, X₁.warmed, X', hpost, fun target h => hstep₁ _ fun acts => by rw [doInvoke_state]; exact hsteps.trans h⟩
  · exact Or.inr ⟨q, vm₁, B, X₁.warmed, X', hpost, hstep₁ _ fun acts => by rw [doInvoke_state]; exact hsteps⟩
end Calls
theorem vx_cls {s : State} {T : State} {vm₁ : Vm} {E : String} {k : ClassId} (hW : s.WarmedH vm₁) (h : (T.setVm vm₁).vm.findClass E = some k) : s.vm.findClass E = some k := by
  have h1 : vm₁.findClass E = some k := h
  rw [hW.alike.findClass] at h1
  exact h1
/-- the method's frame g, with q thrown over it -/
def vx_W (p : Program) (l : Launch) (e : Env) (R : Room) (s : State) (m : MethodId) (args : Array Value) (below : List Frame) (meth : Method) (c : Code) (H : Heap) (locs : List Loc) (cells slots : Nat) (Q : State → Prop) (g : JFrame) (q : Addr) : Prop :=
  ∀ T : State, T.heap = H → Stand p l e R s m args below meth c T locs cells slots → ∃ t, Steps p.tables e below ((T.setTop g).pushFrame (.throwing q)) t ∧ Q t
def vx_Run (p : Program) (l : Launch) (e : Env) (R : Room) (s : State) (m : MethodId) (args : Array Value) (below : List Frame) (meth : Method) (c : Code) (H : Heap) (locs : List Loc) (cells slots mc ms : Nat) (g : JFrame) (rest : List Value) (Qa : State → Outcome → State → Prop) (XC : String → State → State → Prop) (free : Addr → Prop) : Prop :=
  ∀ T : State, T.heap = H → Stand p l e R s m args below meth c T locs cells slots →
    (∃ (v : Option Value) (st₀ t T' : State) (L : List Loc), st₀.heap = H ∧ Stand p l e R s m args below meth c T' (locs ++ L) (cells + mc) (slots + ms) ∧ (∀ q ∈ L, free q.base) ∧ T'.heap = t.heap ∧ T'.vm = t.vm ∧ Qa st₀ (.returned v) t ∧
      Goes p e below T g T' { g with pc := g.pc + 3, stack := v.toList ++ rest }) ∨
    (∃ (q : Addr) (st₀ t T' : State) (L : List Loc) (E : String) (ce : Cell), st₀.heap = H ∧ Stand p l e R s m args below meth c T' (locs ++ L) (cells + mc) (slots + ms) ∧ (∀ z ∈ L, free z.base) ∧ T'.heap = t.heap ∧ T'.vm = t.vm ∧ XC E st₀ t ∧ t.heap[q]? = some ce ∧ ce.vm = .none ∧ s.vm.findClass E = some ce.cls ∧
      Steps p.tables e below (T.setTop g) ((T'.setTop { g with stack := rest }).pushFrame (.throwing q)))
def vx_X {S : Type} (px : S → Prop) (B : String → S → State → Prop) (A : Nat → Prop) : String → State → State → Prop := fun E st t => ∃ u : S, px u ∧ B E u t ∧ va_F A st t
section Runs
variable {p : Program} {l : Launch} {e : Env} {R : Room} {s : State} {m : MethodId} {args : Array Value} {below : List Frame} {meth : Method} {c : Code} {H : Heap} {locs : List Loc} {cells slots : Nat}
variable {y : MethodName} {bytes cc : ByteArray} {maxL nL mc ms n index : Nat} {ret : Option FieldType} {ws : List Cond} {rm : Room} {Pc : Array Value → State → Prop} {Qc : Array Value → State → Outcome → State → Prop} {XC : String → State → State → Prop} {free : Addr → Prop} {Ts : List Cond} {own C : String} {b : Addr} {As rest : List Value} {g : JFrame}
theorem vx_callBack (cb : CallB R s args own index y bytes maxL ret ws rm mc ms n) (hM : vx_Met l y ws rm Pc Qc XC mc ms free) (hbl : FrameBlind Pc) : vx_Back l R p e below s args y 3 8 (PreOf R mc ms Pc) (PostOf Qc mc ms free) (vx_Post XC mc ms free) := by
  obtain ⟨hrc, hrs, hfr, hlo, hws, hcw, -, hini, -⟩ := cb
  exact vx_back (bytes := bytes) (maxL := maxL) (ret := ret) hM hbl hrc hrs hfr hlo hws hcw (fun a' U hW => word_at hW (Or.inl (by first | rfl | simp [Cond.onTables, Cond.keeps, Cond.steady])) hini)
theorem vx_runV (S : CallFix p m c cc nL s args Ts own) (hM : vx_Met l y ws rm Pc Qc XC mc ms free) (cw : CallW R s args own C index y bytes maxL ret ws rm mc ms n) (hp : PreV s H C b Pc As)
    (hg : g.method = m) (hn : As.length = n) (hsize : g.locals.size = nL) (hstack : g.stack = As.reverse ++ .ref b :: rest) (hW : 2 * g.monitorRoom + (rest.map fun v => v.category).sum ≤ 8) (hdg : decode cc g.pc = .ok (.invokevirtual index, 3)) (hf : cells + mc ≤ R.cells ∧ slots + ms ≤ R.slots) :
    vx_Run p l e R s m args below meth c H locs cells slots mc ms g rest (Qc (Value.ref b :: As).toArray) XC free := by
  have hK : vx_Back l R p e below s args y 3 8 (PreOf R mc ms Pc) (PostOf Qc mc ms free) (vx_Post XC mc ms free) := vx_callBack cw.1 hM hp.1
  obtain ⟨⟨-, -, -, -, -, -, hcode, -, hy, hlen, hl⟩, hin, hse⟩ := cw
  obtain ⟨hx, hb, hml, ho, -⟩ := S
  obtain ⟨-, ⟨cellB, hcB, hoB, hclB⟩, hPc⟩ := hp
  intro T hT X
  rcases vx_callV X hx (C := C) (bytes := bytes) (maxL := maxL) (ret := ret) ho hl hin hse hcode hy hK (by rw [hT]; exact hcB) hoB hclB hg (hsize.trans hml.symm) (argsL := As) (rest := rest) (fun sig h => hn.trans (hlen sig h)) hstack hW (by rw [hb]; exact hdg)
    (fun vm₁ hW₁ => ⟨hf.1, hf.2, hPc (T.setVm vm₁) hT hW₁⟩) with ⟨v, vm₁, ⟨U', l2, c2, s2⟩, hW₁, X', ⟨g', mk, t, L, e1, e2, hq, h1, hL, h2, h3⟩, st⟩ | ⟨q, vm₁, ⟨U', l2, c2, s2⟩, hW₁, X', ⟨g', mk, t, L, E, ce, e1, e2, hq, hce, hcv, hcl, h1, hL, h2, h3⟩, st⟩
  · dsimp only [Pt.U, Pt.locs, Pt.cells, Pt.slots] at X' e1 e2 h1 h2 h3 st
    subst h1; subst h2; subst h3
    exact Or.inl ⟨v, (T.setVm vm₁).calling g' mk (Value.ref b :: As).toArray, t, U', L, hT, X', hL, e1, e2, hq, st⟩
  · dsimp only [Pt.U, Pt.locs, Pt.cells, Pt.slots] at X' e1 e2 h1 h2 h3 st hcl
    subst h1; subst h2; subst h3
    exact Or.inr ⟨q, (T.setVm vm₁).calling g' mk (Value.ref b :: As).toArray, t, U', L, E, ce, hT, X', hL, e1, e2, hq, hce, hcv, vx_cls hW₁ hcl, st⟩
theorem vx_runS (S : CallFix p m c cc nL s args Ts own) (hM : vx_Met l y ws rm Pc Qc XC mc ms free) (cw : CallB R s args own index y bytes maxL ret ws rm mc ms n ∧ (Cond.static y).before args s = true) (hp : PreS s H Pc As)
    (hg : g.method = m) (hn : As.length = n) (hsize : g.locals.size = nL) (hstack : g.stack = As.reverse ++ rest) (hW : 2 * g.monitorRoom + (rest.map fun v => v.category).sum ≤ 8) (hdg : decode cc g.pc = .ok (.invokestatic index, 3)) (hf : cells + mc ≤ R.cells ∧ slots + ms ≤ R.slots) :
    vx_Run p l e R s m args below meth c H locs cells slots mc ms g rest (Qc As.toArray) XC free := by
  have hK : vx_Back l R p e below s args y 3 8 (PreOf R mc ms Pc) (PostOf Qc mc ms free) (vx_Post XC mc ms free) := vx_callBack cw.1 hM hp.1
  obtain ⟨⟨-, -, -, -, -, -, hcode, hini, hy, hlen, hl⟩, hstt⟩ := cw
  obtain ⟨hx, hb, hml, ho, -⟩ := S
  intro T hT X
  rcases vx_callS X hx (bytes := bytes) (maxL := maxL) (ret := ret) ho hl hstt hini hcode hy hK hg (hsize.trans hml.symm) (argsL := As) (rest := rest) (fun sig h => hn.trans (hlen sig h)) hstack hW (by rw [hb]; exact hdg)
    (fun vm₁ hW₁ => ⟨hf.1, hf.2, hp.2 (T.setVm vm₁) hT hW₁⟩) with ⟨v, vm₁, ⟨U', l2, c2, s2⟩, hW₁, X', ⟨g', mk, t, L, e1, e2, hq, h1, hL, h2, h3⟩, st⟩ | ⟨q, vm₁, ⟨U', l2, c2, s2⟩, hW₁, X', ⟨g', mk, t, L, E, ce, e1, e2, hq, hce, hcv, hcl, h1, hL, h2, h3⟩, st⟩
  · dsimp only [Pt.U, Pt.locs, Pt.cells, Pt.slots] at X' e1 e2 h1 h2 h3 st
    subst h1; subst h2; subst h3
    exact Or.inl ⟨v, (T.setVm vm₁).calling g' mk As.toArray, t, U', L, hT, X', hL, e1, e2, hq, st⟩
  · dsimp only [Pt.U, Pt.locs, Pt.cells, Pt.slots] at X' e1 e2 h1 h2 h3 st hcl
    subst h1; subst h2; subst h3
    exact Or.inr ⟨q, (T.setVm vm₁).calling g' mk As.toArray, t, U', L, E, ce, hT, X', hL, e1, e2, hq, hce, hcv, vx_cls hW₁ hcl, st⟩
end Runs
section Rows
variable {p : Program} {l : Launch} {e : Env} {R : Room} {s : State} {m : MethodId} {args : Array Value} {below : List Frame} {meth : Method} {c : Code} {H : Heap} {locs : List Loc} {cells slots : Nat} {Q : State → Prop}
variable {mc ms : Nat} {free : Addr → Prop} {A0 A1 : Nat → Prop} {H0 : Heap} {a : Array Value} {pc : Nat} {ls : Array Slot} {st0 rest : List Value}
theorem vx_keep {st₀ t T' : State} {L : List Loc} (h0 : st₀.heap = H) (e1 : T'.heap = t.heap) (hS : va_S A0 H0 H locs) (hA : ∀ q, q < H.size → A1 q → A0 q) (hf : ∀ q, free q → A0 q) (hL : ∀ q ∈ L, free q.base) (hF : va_F A1 st₀ t) :
    H.size ≤ T'.heap.size ∧ (∀ q : Nat, q < H.size → ¬ A1 q → T'.heap[q]? = H[q]?) ∧ va_S A0 H0 T'.heap (locs ++ L) := by
  obtain ⟨hz, hk⟩ := hF
  rw [h0] at hz hk
  exact ⟨by rw [e1]; exact hz, fun q h1 h2 => by rw [e1]; exact hk q h1 h2,
    ⟨Nat.le_trans hS.1 (by rw [e1]; exact hz), fun q h1 h2 => by rw [e1, hk q (Nat.lt_of_lt_of_le h1 hS.1) (fun z => h2 (hA q (Nat.lt_of_lt_of_le h1 hS.1) z))]; exact hS.2.1 q h1 h2, fun q hq => by
      rcases List.mem_append.mp hq with h | h
      · exact hS.2.2 q h
      · exact hf _ (hL q h)⟩⟩
theorem vx_calli {S SX : Type} {post : Int32 → S → Prop} {px : SX → Prop} {B : S → State → Prop} {BX : String → SX → State → Prop} {AX : Nat → Prop} (hr : vx_Run p l e R s m args below meth c H locs cells slots mc ms (F0 m pc ls st0) rest (va_Qi post B A1 a) (vx_X px BX AX) free) (hS : va_S A0 H0 H locs) (hA : ∀ q, q < H.size → A1 q → A0 q) (hf : ∀ q, free q → A0 q) (hAX : ∀ q, q < H.size → AX q → A0 q)
    (kx : ∀ (E : String) (ce : Cell) (q9 : Addr) (u : SX) (t : State) (H1 : Heap) (locs1 : List Loc), t.heap = H1 → s.vm.Alike t.vm → px u → BX E u t → H.size ≤ H1.size → (∀ q : Nat, q < H.size → ¬ AX q → H1[q]? = H[q]?) → va_S A0 H0 H1 locs1 → H1[q9]? = some ce → ce.vm = .none → s.vm.findClass E = some ce.cls → vx_W p l e R s m args below meth c H1 locs1 (cells + mc) (slots + ms) Q (F0 m pc ls rest) q9)
    (kk : ∀ (r : Int32) (u : S) (t : State) (H1 : Heap) (locs1 : List Loc), t.heap = H1 → s.vm.Alike t.vm → post r u → B u t → H.size ≤ H1.size → (∀ q : Nat, q < H.size → ¬ A1 q → H1[q]? = H[q]?) → va_S A0 H0 H1 locs1 → W p l e R s m args below meth c H1 locs1 (cells + mc) (slots + ms) Q (F0 m (pc + 3) ls (.int r :: rest))) : W p l e R s m args below meth c H locs cells slots Q (F0 m pc ls st0) := by
  intro T hT X
  rcases hr T hT X with ⟨v, st₀, t, T', L, h0, X', hL, e1, e2, ⟨⟨r, u, hv, hp, hb⟩, hF⟩, st⟩ | ⟨q, st₀, t, T', L, E, ce, h0, X', hL, e1, e2, ⟨u, hp, hb, hF⟩, hce, hcv, hcl, st⟩
  · cases hv
    obtain ⟨k1, k2, k3⟩ := vx_keep h0 e1 hS hA hf hL hF
    obtain ⟨t2, a1, b1⟩ := kk r u t T'.heap (locs ++ L) e1.symm (by rw [← e2]; exact X'.warmed.alike) hp hb k1 k2 k3 T' rfl X'
    exact ⟨t2, st t2 a1, b1⟩
  · obtain ⟨k1, k2, k3⟩ := vx_keep h0 e1 hS hAX hf hL hF
    obtain ⟨t2, a1, b1⟩ := kx E ce q u t T'.heap (locs ++ L) e1.symm (by rw [← e2]; exact X'.warmed.alike) hp hb k1 k2 k3 (by rw [e1]; exact hce) hcv hcl T' rfl X'
    exact ⟨t2, st.trans a1, b1⟩
theorem vx_calll {S SX : Type} {post : Int64 → S → Prop} {px : SX → Prop} {B : S → State → Prop} {BX : String → SX → State → Prop} {AX : Nat → Prop} (hr : vx_Run p l e R s m args below meth c H locs cells slots mc ms (F0 m pc ls st0) rest (va_Ql post B A1 a) (vx_X px BX AX) free) (hS : va_S A0 H0 H locs) (hA : ∀ q, q < H.size → A1 q → A0 q) (hf : ∀ q, free q → A0 q) (hAX : ∀ q, q < H.size → AX q → A0 q)
    (kx : ∀ (E : String) (ce : Cell) (q9 : Addr) (u : SX) (t : State) (H1 : Heap) (locs1 : List Loc), t.heap = H1 → s.vm.Alike t.vm → px u → BX E u t → H.size ≤ H1.size → (∀ q : Nat, q < H.size → ¬ AX q → H1[q]? = H[q]?) → va_S A0 H0 H1 locs1 → H1[q9]? = some ce → ce.vm = .none → s.vm.findClass E = some ce.cls → vx_W p l e R s m args below meth c H1 locs1 (cells + mc) (slots + ms) Q (F0 m pc ls rest) q9)
    (kk : ∀ (r : Int64) (u : S) (t : State) (H1 : Heap) (locs1 : List Loc), t.heap = H1 → s.vm.Alike t.vm → post r u → B u t → H.size ≤ H1.size → (∀ q : Nat, q < H.size → ¬ A1 q → H1[q]? = H[q]?) → va_S A0 H0 H1 locs1 → W p l e R s m args below meth c H1 locs1 (cells + mc) (slots + ms) Q (F0 m (pc + 3) ls (.long r :: rest))) : W p l e R s m args below meth c H locs cells slots Q (F0 m pc ls st0) := by
  intro T hT X
  rcases hr T hT X with ⟨v, st₀, t, T', L, h0, X', hL, e1, e2, ⟨⟨r, u, hv, hp, hb⟩, hF⟩, st⟩ | ⟨q, st₀, t, T', L, E, ce, h0, X', hL, e1, e2, ⟨u, hp, hb, hF⟩, hce, hcv, hcl, st⟩
  · cases hv
    obtain ⟨k1, k2, k3⟩ := vx_keep h0 e1 hS hA hf hL hF
    obtain ⟨t2, a1, b1⟩ := kk r u t T'.heap (locs ++ L) e1.symm (by rw [← e2]; exact X'.warmed.alike) hp hb k1 k2 k3 T' rfl X'
    exact ⟨t2, st t2 a1, b1⟩
  · obtain ⟨k1, k2, k3⟩ := vx_keep h0 e1 hS hAX hf hL hF
    obtain ⟨t2, a1, b1⟩ := kx E ce q u t T'.heap (locs ++ L) e1.symm (by rw [← e2]; exact X'.warmed.alike) hp hb k1 k2 k3 (by rw [e1]; exact hce) hcv hcl T' rfl X'
    exact ⟨t2, st.trans a1, b1⟩
theorem vx_callf {S SX : Type} {post : UInt32 → S → Prop} {px : SX → Prop} {B : S → State → Prop} {BX : String → SX → State → Prop} {AX : Nat → Prop} (hr : vx_Run p l e R s m args below meth c H locs cells slots mc ms (F0 m pc ls st0) rest (va_Qf post B A1 a) (vx_X px BX AX) free) (hS : va_S A0 H0 H locs) (hA : ∀ q, q < H.size → A1 q → A0 q) (hf : ∀ q, free q → A0 q) (hAX : ∀ q, q < H.size → AX q → A0 q)
    (kx : ∀ (E : String) (ce : Cell) (q9 : Addr) (u : SX) (t : State) (H1 : Heap) (locs1 : List Loc), t.heap = H1 → s.vm.Alike t.vm → px u → BX E u t → H.size ≤ H1.size → (∀ q : Nat, q < H.size → ¬ AX q → H1[q]? = H[q]?) → va_S A0 H0 H1 locs1 → H1[q9]? = some ce → ce.vm = .none → s.vm.findClass E = some ce.cls → vx_W p l e R s m args below meth c H1 locs1 (cells + mc) (slots + ms) Q (F0 m pc ls rest) q9)
    (kk : ∀ (r : UInt32) (u : S) (t : State) (H1 : Heap) (locs1 : List Loc), t.heap = H1 → s.vm.Alike t.vm → post r u → B u t → H.size ≤ H1.size → (∀ q : Nat, q < H.size → ¬ A1 q → H1[q]? = H[q]?) → va_S A0 H0 H1 locs1 → W p l e R s m args below meth c H1 locs1 (cells + mc) (slots + ms) Q (F0 m (pc + 3) ls (.float r :: rest))) : W p l e R s m args below meth c H locs cells slots Q (F0 m pc ls st0) := by
  intro T hT X
  rcases hr T hT X with ⟨v, st₀, t, T', L, h0, X', hL, e1, e2, ⟨⟨r, u, hv, hp, hb⟩, hF⟩, st⟩ | ⟨q, st₀, t, T', L, E, ce, h0, X', hL, e1, e2, ⟨u, hp, hb, hF⟩, hce, hcv, hcl, st⟩
  · cases hv
    obtain ⟨k1, k2, k3⟩ := vx_keep h0 e1 hS hA hf hL hF
    obtain ⟨t2, a1, b1⟩ := kk r u t T'.heap (locs ++ L) e1.symm (by rw [← e2]; exact X'.warmed.alike) hp hb k1 k2 k3 T' rfl X'
    exact ⟨t2, st t2 a1, b1⟩
  · obtain ⟨k1, k2, k3⟩ := vx_keep h0 e1 hS hAX hf hL hF
    obtain ⟨t2, a1, b1⟩ := kx E ce q u t T'.heap (locs ++ L) e1.symm (by rw [← e2]; exact X'.warmed.alike) hp hb k1 k2 k3 (by rw [e1]; exact hce) hcv hcl T' rfl X'
    exact ⟨t2, st.trans a1, b1⟩
theorem vx_calld {S SX : Type} {post : UInt64 → S → Prop} {px : SX → Prop} {B : S → State → Prop} {BX : String → SX → State → Prop} {AX : Nat → Prop} (hr : vx_Run p l e R s m args below meth c H locs cells slots mc ms (F0 m pc ls st0) rest (va_Qd post B A1 a) (vx_X px BX AX) free) (hS : va_S A0 H0 H locs) (hA : ∀ q, q < H.size → A1 q → A0 q) (hf : ∀ q, free q → A0 q) (hAX : ∀ q, q < H.size → AX q → A0 q)
    (kx : ∀ (E : String) (ce : Cell) (q9 : Addr) (u : SX) (t : State) (H1 : Heap) (locs1 : List Loc), t.heap = H1 → s.vm.Alike t.vm → px u → BX E u t → H.size ≤ H1.size → (∀ q : Nat, q < H.size → ¬ AX q → H1[q]? = H[q]?) → va_S A0 H0 H1 locs1 → H1[q9]? = some ce → ce.vm = .none → s.vm.findClass E = some ce.cls → vx_W p l e R s m args below meth c H1 locs1 (cells + mc) (slots + ms) Q (F0 m pc ls rest) q9)
    (kk : ∀ (r : UInt64) (u : S) (t : State) (H1 : Heap) (locs1 : List Loc), t.heap = H1 → s.vm.Alike t.vm → post r u → B u t → H.size ≤ H1.size → (∀ q : Nat, q < H.size → ¬ A1 q → H1[q]? = H[q]?) → va_S A0 H0 H1 locs1 → W p l e R s m args below meth c H1 locs1 (cells + mc) (slots + ms) Q (F0 m (pc + 3) ls (.double r :: rest))) : W p l e R s m args below meth c H locs cells slots Q (F0 m pc ls st0) := by
  intro T hT X
  rcases hr T hT X with ⟨v, st₀, t, T', L, h0, X', hL, e1, e2, ⟨⟨r, u, hv, hp, hb⟩, hF⟩, st⟩ | ⟨q, st₀, t, T', L, E, ce, h0, X', hL, e1, e2, ⟨u, hp, hb, hF⟩, hce, hcv, hcl, st⟩
  · cases hv
    obtain ⟨k1, k2, k3⟩ := vx_keep h0 e1 hS hA hf hL hF
    obtain ⟨t2, a1, b1⟩ := kk r u t T'.heap (locs ++ L) e1.symm (by rw [← e2]; exact X'.warmed.alike) hp hb k1 k2 k3 T' rfl X'
    exact ⟨t2, st t2 a1, b1⟩
  · obtain ⟨k1, k2, k3⟩ := vx_keep h0 e1 hS hAX hf hL hF
    obtain ⟨t2, a1, b1⟩ := kx E ce q u t T'.heap (locs ++ L) e1.symm (by rw [← e2]; exact X'.warmed.alike) hp hb k1 k2 k3 (by rw [e1]; exact hce) hcv hcl T' rfl X'
    exact ⟨t2, st.trans a1, b1⟩
theorem vx_callv {S SX : Type} {post : S → Prop} {px : SX → Prop} {B : S → State → Prop} {BX : String → SX → State → Prop} {AX : Nat → Prop} (hr : vx_Run p l e R s m args below meth c H locs cells slots mc ms (F0 m pc ls st0) rest (va_Qv post B A1 a) (vx_X px BX AX) free) (hS : va_S A0 H0 H locs) (hA : ∀ q, q < H.size → A1 q → A0 q) (hf : ∀ q, free q → A0 q) (hAX : ∀ q, q < H.size → AX q → A0 q)
    (kx : ∀ (E : String) (ce : Cell) (q9 : Addr) (u : SX) (t : State) (H1 : Heap) (locs1 : List Loc), t.heap = H1 → s.vm.Alike t.vm → px u → BX E u t → H.size ≤ H1.size → (∀ q : Nat, q < H.size → ¬ AX q → H1[q]? = H[q]?) → va_S A0 H0 H1 locs1 → H1[q9]? = some ce → ce.vm = .none → s.vm.findClass E = some ce.cls → vx_W p l e R s m args below meth c H1 locs1 (cells + mc) (slots + ms) Q (F0 m pc ls rest) q9)
    (kk : ∀ (u : S) (t : State) (H1 : Heap) (locs1 : List Loc), t.heap = H1 → s.vm.Alike t.vm → post u → B u t → H.size ≤ H1.size → (∀ q : Nat, q < H.size → ¬ A1 q → H1[q]? = H[q]?) → va_S A0 H0 H1 locs1 → W p l e R s m args below meth c H1 locs1 (cells + mc) (slots + ms) Q (F0 m (pc + 3) ls (rest))) : W p l e R s m args below meth c H locs cells slots Q (F0 m pc ls st0) := by
  intro T hT X
  rcases hr T hT X with ⟨v, st₀, t, T', L, h0, X', hL, e1, e2, ⟨⟨u, hv, hp, hb⟩, hF⟩, st⟩ | ⟨q, st₀, t, T', L, E, ce, h0, X', hL, e1, e2, ⟨u, hp, hb, hF⟩, hce, hcv, hcl, st⟩
  · cases hv
    obtain ⟨k1, k2, k3⟩ := vx_keep h0 e1 hS hA hf hL hF
    obtain ⟨t2, a1, b1⟩ := kk u t T'.heap (locs ++ L) e1.symm (by rw [← e2]; exact X'.warmed.alike) hp hb k1 k2 k3 T' rfl X'
    exact ⟨t2, st t2 a1, b1⟩
  · obtain ⟨k1, k2, k3⟩ := vx_keep h0 e1 hS hAX hf hL hF
    obtain ⟨t2, a1, b1⟩ := kx E ce q u t T'.heap (locs ++ L) e1.symm (by rw [← e2]; exact X'.warmed.alike) hp hb k1 k2 k3 (by rw [e1]; exact hce) hcv hcl T' rfl X'
    exact ⟨t2, st.trans a1, b1⟩
/-- caught by the row x of this method's table; the rows ahead don't take it -/
theorem vx_catch {own name : String} {E : String} {ce : Cell} {q : Addr} (hown : s.vm.findClass own = some m.cls) (pre : List ExceptionTableEntry) (x : ExceptionTableEntry) (suf : List ExceptionTableEntry) (hsplit : c.exceptionTable.toList = pre ++ x :: suf)
    (hpass : ∀ z ∈ pre, covers z pc = false ∨ (z.catchType ≠ 0 ∧ ∃ nm : String, (Cond.classLink own z.catchType nm).before args s = true ∧ va_Nc E nm s)) (hx : covers x pc = true) (h0 : x.catchType ≠ 0)
    (hlink : (Cond.classLink own x.catchType name).before args s = true) (hcast : (Cond.castable E name).before args s = true) (hcell : H[q]? = some ce) (hv : ce.vm = .none) (hcl : s.vm.findClass E = some ce.cls)
    (kk : W p l e R s m args below meth c H locs cells slots Q (F0 m x.handlerPc ls [.ref q])) : vx_W p l e R s m args below meth c H locs cells slots Q (F0 m pc ls rest) q := by
  intro T hT X
  have hpl : e.platform.magicAccessors = ({} : Platform).magicAccessors := by rw [X.admits.platform]
  obtain ⟨c3, c4, hc3, hc4, hasg⟩ := Cond.castable_spec hcast
  cases Option.some.inj (hc3.symm.trans hcl)
  obtain ⟨c5, hc5, hcl5⟩ := Cond.classLink_spec hown hlink e.platform hpl
  cases Option.some.inj (hc4.symm.trans hc5)
  obtain ⟨vm', X', st⟩ := X.thenCaughtThrough q (g := F0 m pc ls rest) rfl (Steps.refl _) (by rw [hT]; exact hcell) (by rw [hv]; rfl) (by obtain ⟨k9, h9, -⟩ := Vm.findClass_spec hcl; exact ⟨k9, h9⟩) pre x suf hsplit
    (fun z hz => by
      rcases hpass z hz with h | ⟨hz0, nm, hl1, hn1⟩
      · exact Or.inl h
      · obtain ⟨c6, hc6, hcl6⟩ := Cond.classLink_spec hown hl1 e.platform hpl
        obtain ⟨a8, b8, h1, h2, h3⟩ := hn1
        cases Option.some.inj (h1.symm.trans hcl)
        cases Option.some.inj (h2.symm.trans hc6)
        exact Or.inr ⟨hz0, _, hcl6, h3⟩) hx (Or.inr ⟨h0, c4, hcl5, hasg⟩)
  obtain ⟨t, a1, b1⟩ := kk (T.setVm vm') hT X'
  exact ⟨t, st.trans a1, b1⟩
end Rows
section Ends
variable {p : Program} {l : Launch} {e : Env} {R : Room} {s : State} {m : MethodId} {args : Array Value} {below : List Frame} {meth : Method} {c : Code} {H : Heap} {locs : List Loc} {cells slots : Nat} {Q : State → Prop}
variable {mc ms : Nat} {free : Addr → Prop} {A0 A1 : Nat → Prop} {H0 : Heap} {a : Array Value} {ls : Array Slot} {st0 rest : List Value}
variable {Qc : Array Value → State → Outcome → State → Prop} {XC : String → State → State → Prop}
/-- what a body that may throw owes at its end -/
def vx_MQ (below : List Frame) (Qc : Array Value → State → Outcome → State → Prop) (XC : String → State → State → Prop) (a : Array Value) (s : State) (mc ms : Nat) (free : Addr → Prop) : State → Prop := fun t =>
  ∃ o, t.status = .running ∧ Ended t below o ∧ vx_Q Qc XC mc ms free a s o t
theorem vx_ret {g : JFrame} {mc ms : Nat} (k : W p l e R s m args below meth c H locs cells slots (MQ below Qc args s mc ms free) g) : W p l e R s m args below meth c H locs cells slots (vx_MQ below Qc XC args s mc ms free) g := by
  intro T hT X
  obtain ⟨t, a1, o, b1, b2, b3, b4⟩ := k T hT X
  exact ⟨t, a1, o, b1, b2, Or.inl ⟨b3, b4⟩⟩
/-- not caught here: it goes on to the caller -/
theorem vx_widen {g : JFrame} {q : Addr} {k n : Nat} (h1 : cells ≤ k) (h2 : slots ≤ n) (kk : vx_W p l e R s m args below meth c H locs k n Q g q) : vx_W p l e R s m args below meth c H locs cells slots Q g q := fun T hT X => kk T hT (stand_widen X h1 h2)
theorem vx_out {pc : Nat} {E : String} {ce : Cell} {q : Addr} {mc ms : Nat} (hout : ∀ x ∈ c.exceptionTable.toList, covers x pc = false) (hlocks : meth.locks = false) (hcell : H[q]? = some ce) (hv : ce.vm = .none) (hcl : s.vm.findClass E = some ce.cls)
    (hx : ∀ t : State, t.heap = H → s.vm.Alike t.vm → XC E s t) (hf : ∀ z ∈ locs, free z.base) (hc : cells ≤ mc) (hs : slots ≤ ms) :
    vx_W p l e R s m args below meth c H locs cells slots (vx_MQ below Qc XC args s mc ms free) (F0 m pc ls rest) q := by
  intro T hT X
  obtain ⟨st1, hrun, hend, hW, hsm⟩ := X.leaveThrown q (g := F0 m pc ls rest) rfl rfl rfl hout hlocks
  have hcell9 : (T.setFrames (.throwing q :: below)).heap[q]? = some ce := by
    show T.heap[q]? = some ce
    rw [hT]; exact hcell
  exact ⟨_, st1, .threw q, hrun, hend, Or.inr ⟨q, rfl, E, ce, locs, hx _ hT hW.alike, hcell9, hv, hcl, hW, hsm.mono hc hs, hf⟩⟩
theorem vx_frame {U : State} {k n : Nat} (h : s.sameButNew ({ U with vm := s.vm } : State) locs k n) : s.heap.size ≤ U.heap.size ∧ ∀ q : Nat, q < s.heap.size → (∀ z ∈ locs, z.base ≠ q) → U.heap[q]? = s.heap[q]? := by
  obtain ⟨-, h2, -, -, -, h6⟩ := h
  refine ⟨h2, fun q hq hz => ?_⟩
  obtain ⟨c9, e1, e2, e3, e4⟩ := h6 q _ (Array.getElem?_eq_getElem hq)
  have hs : c9.slots = (s.heap[q]).slots := Array.ext_getElem? fun i => e4 i fun hm => hz _ hm rfl
  have h9 : c9 = s.heap[q] := by
    rw [hs] at e2
    exact e2
  have e5 : U.heap[q]? = some c9 := e1
  rw [e5, h9, Array.getElem?_eq_getElem hq]
/-- the words of a throw but the four that speak of the heap -/
def vx_no (w : Cond) : Bool := decide (w ≠ .isRef (.static tN "UNASSIGNED_STACK" steD)) && decide (w ≠ .isRef (.static tN "SUPPRESSED_SENTINEL" listD)) && decide (w ≠ .laysStatic tN "UNASSIGNED_STACK" steD) && decide (w ≠ .laysStatic tN "SUPPRESSED_SENTINEL" listD)
def vx_at0 (own : String) (ic : Nat) (X : String) (names : List String) : List Cond := (ownAtoms0 own ic X names).filter vx_no
def vx_atS (own : String) (ic : Nat) (X : String) (names : List String) : List Cond := (ownAtoms own ic X names).filter vx_no
/-- a word that the tables alone decide, or a good one -/
def vx_ot (w : Cond) : Bool := w.onTables || goodWord w
theorem vx_ot_at {args a' : Array Value} {s U : State} {w : Cond} (hW : s.WarmedH U.vm) (hvm : s.vm = U.vm) (hg : vx_ot w = true) (h : w.before args s = true) : w.before a' U = true := by
  simp only [vx_ot, Bool.or_eq_true] at hg
  rcases hg with hg | hg
  · exact va_tabs hg hvm h
  · exact word_at hW (good_of_word hg) h
/-- a list's words: the good ones out of the method's own list, the others by premises of their own -/
theorem vx_hat {args : Array Value} {s : State} {L B : List Cond} (h1 : ∀ w ∈ L.filter goodWord, w.before args s = true) (h2 : ∀ w ∈ L.filter (fun w => !goodWord w), w ∈ B) (h3 : ∀ w ∈ B, w.before args s = true) : ∀ w ∈ L, w.before args s = true := by
  intro w hw
  by_cases g : goodWord w = true
  · exact h1 w (List.mem_filter.mpr ⟨hw, g⟩)
  · refine h3 w (h2 w (List.mem_filter.mpr ⟨hw, ?_⟩))
    show (!goodWord w) = true
    cases hgw : goodWord w
    · rfl
    · exact absurd hgw g
theorem vx_c {args : Array Value} {s : State} {w : Cond} {B : List Cond} (h : w.before args s = true) (t : ∀ w ∈ B, w.before args s = true) : ∀ w' ∈ w :: B, w'.before args s = true := fun w' h' => (List.mem_cons.mp h').elim (fun e => by rw [e]; exact h) (t w')
theorem vx_n {args : Array Value} {s : State} : ∀ w ∈ ([] : List Cond), w.before args s = true := fun _ h => nomatch h
theorem vx_own {args : Array Value} {s : State} {L : List Cond} (h1 : ∀ w ∈ L.filter vx_no, w.before args s = true)
    (hU : (Cond.isRef (.static tN "UNASSIGNED_STACK" steD)).before args s = true) (hN : (Cond.isRef (.static tN "SUPPRESSED_SENTINEL" listD)).before args s = true)
    (lU : (Cond.laysStatic tN "UNASSIGNED_STACK" steD).before args s = true) (lN : (Cond.laysStatic tN "SUPPRESSED_SENTINEL" listD).before args s = true) : ∀ w ∈ L, w.before args s = true := by
  intro w hw
  by_cases e1 : w = .isRef (.static tN "UNASSIGNED_STACK" steD)
  · rw [e1]; exact hU
  · by_cases e2 : w = .isRef (.static tN "SUPPRESSED_SENTINEL" listD)
    · rw [e2]; exact hN
    · by_cases e3 : w = .laysStatic tN "UNASSIGNED_STACK" steD
      · rw [e3]; exact lU
      · by_cases e4 : w = .laysStatic tN "SUPPRESSED_SENTINEL" listD
        · rw [e4]; exact lN
        · exact h1 w (List.mem_filter.mpr ⟨hw, by unfold vx_no; rw [decide_eq_true e1, decide_eq_true e2, decide_eq_true e3, decide_eq_true e4]; rfl⟩)
/-- where a static field lies, its class's statics cell in H -/
def vx_L (C n d : String) (A : Nat → Prop) (U : State) (H : Heap) : Prop := ∃ (c : ClassId) (k : Class) (i : Nat) (f : Field) (a : Nat) (cell : Cell), U.vm.findClass C = some c ∧ U.fieldFound? C n d = some (c, k, i, f) ∧ f.isStatic = true ∧ k.statics = some a ∧ H[a]? = some cell ∧ cell.vm.isStatics = true ∧ cell.cls = c ∧ f.slot < cell.slots.size ∧ k.staticTypes[f.slot]? = some f.type ∧ ¬ A a
theorem vx_L.moved {C n d : String} {A : Nat → Prop} {u U : State} {H : Heap} (hvm : u.vm.Alike U.vm) (h : vx_L C n d A u H) : vx_L C n d A U H := by
  obtain ⟨c, k, i, f, a, cell, h1, h2, h3, h4, h5, h6, h7, h8, h9, h10⟩ := h
  obtain ⟨k', hi', he⟩ := State.fieldFound?_setVm hvm h2
  exact ⟨c, k', i, f, a, cell, by rw [hvm.findClass]; exact h1, hi', h3, by rw [he]; exact h4, h5, h6, h7, h8, by rw [he]; exact h9, h10⟩
theorem vx_L.kept {C n d : String} {A : Nat → Prop} {U : State} {H H1 : Heap} (h : vx_L C n d A U H) (hq : ∀ a : Nat, a < H.size → ¬ A a → H1[a]? = H[a]?) : vx_L C n d A U H1 := by
  obtain ⟨c, k, i, f, a, cell, h1, h2, h3, h4, h5, h6, h7, h8, h9, h10⟩ := h
  exact ⟨c, k, i, f, a, cell, h1, h2, h3, h4, by rw [hq a (Array.getElem?_eq_some_iff.mp h5).1 h10]; exact h5, h6, h7, h8, h9, h10⟩
theorem vx_L.narrow {C n d : String} {A B : Nat → Prop} {U : State} {H : Heap} (h : vx_L C n d A U H) (hAB : ∀ q, B q → A q) : vx_L C n d B U H := by
  obtain ⟨c, k, i, f, a, cell, h1, h2, h3, h4, h5, h6, h7, h8, h9, h10⟩ := h
  exact ⟨c, k, i, f, a, cell, h1, h2, h3, h4, h5, h6, h7, h8, h9, fun z => h10 (hAB _ z)⟩
theorem vx_L.word {C n d : String} {A : Nat → Prop} {s : State} {args : Array Value} (h : vx_L C n d A s s.heap) : (Cond.laysStatic C n d).before args s = true := by
  obtain ⟨c, k, i, f, a, cell, h1, h2, h3, h4, h5, h6, h7, h8, h9, -⟩ := h
  show (Cond.laysStatic C n d).holds args s none s [] = true
  exact Cond.laysStatic_of h1 h2 h3 h4 h5 h6 h7 h8 h9
/-- .. and what it holds: null or some reference -/
def vx_Zq (C n d : String) (A : Nat → Prop) (U : State) (H : Heap) : Prop := va_Zq C n d A U H ∧ vx_L C n d A U H
theorem vx_Zq.moved {C n d : String} {A : Nat → Prop} {u U : State} {H : Heap} (hvm : u.vm.Alike U.vm) (h : vx_Zq C n d A u H) : vx_Zq C n d A U H := ⟨va_Zq.moved hvm h.1, vx_L.moved hvm h.2⟩
theorem vx_Zq.kept {C n d : String} {A : Nat → Prop} {U : State} {H H1 : Heap} (h : vx_Zq C n d A U H) (hq : ∀ a : Nat, a < H.size → ¬ A a → H1[a]? = H[a]?) : vx_Zq C n d A U H1 := ⟨va_Zq.kept h.1 hq, vx_L.kept h.2 hq⟩
theorem vx_Zq.narrow {C n d : String} {A B : Nat → Prop} {U : State} {H : Heap} (h : vx_Zq C n d A U H) (hAB : ∀ q, B q → A q) : vx_Zq C n d B U H := ⟨va_Zq.narrow h.1 hAB, vx_L.narrow h.2 hAB⟩
theorem vx_Zqof {args : Array Value} {s : State} {C n d : String} {A : Nat → Prop} (hl : (Cond.laysStatic C n d).before args s = true) (hini : (Cond.initialized C).before args s = true) (h : (Cond.isRef (.static C n d)).before args s = true) (hA : ∀ a : Nat, a < s.heap.size → ¬ A a) : vx_Zq C n d A s s.heap := by
  refine ⟨va_Zqof hl hini h hA, ?_⟩
  obtain ⟨c, k, i, f, a, cell, h1, h2, h3, h4, h5, h6, h7, h8, h9⟩ := Cond.laysStatic_spec hl
  exact ⟨c, k, i, f, a, cell, h1, h2, h3, h4, h5, h6, h7, h8, h9, hA a (Array.getElem?_eq_some_iff.mp h5).1⟩
theorem vx_isRef {C n d : String} {v : Value} {A : Nat → Prop} {s : State} {args : Array Value} (h : va_Z C n d v A s s.heap) (hv : v.isRef = true) : (Cond.isRef (.static C n d)).before args s = true := by
  obtain ⟨cf, kf, fi, f, a, cell, h1, h2, h3, h4, h5, h6, h7, -⟩ := h
  have he : (Term.static C n d).eval args s none [] s = some v := by
    simp [Term.eval, State.fieldNamed?, h1, h2, h4, h5, h6, h7]
  simp only [Cond.before, Cond.holds, Cond.value, he]
  cases v <;> simp_all [Value.isRef]
theorem vx_isRefq {C n d : String} {A : Nat → Prop} {s : State} {args : Array Value} (h : va_Zq C n d A s s.heap) : (Cond.isRef (.static C n d)).before args s = true := by
  rcases h with h | ⟨t, h⟩
  · exact vx_isRef h rfl
  · exact vx_isRef h rfl
/-- the same frame, seen from here: as if the method were called anew in this heap -/
theorem vx_rebase {T : State} (X : Stand p l e R s m args below meth c T locs cells slots) {R' : Room} (hf : R'.frames ≤ R.frames) (hl : R'.locals ≤ R.locals) (hc : cells + R'.cells ≤ R.cells) (hs : slots + R'.slots ≤ R.slots) :
    Stand p l e R' ((T.setVm s.vm).setFrames (.invoking m args :: below)) m args below meth c T [] 0 0 := by
  have htop : (T.setVm s.vm).topJava?.isSome := X.here.top
  have hF : ((T.setVm s.vm).setFrames (.invoking m args :: below)).frames = .invoking m args :: below := State.frames_setFrames _ (State.cur_lt_of_top htop)
  obtain ⟨g₀, hg0⟩ := Option.isSome_iff_exists.mp htop
  obtain ⟨r, hr⟩ := State.topJava?_eq_some.mp hg0
  have hl9 : e.platform.stackLimits (T.setVm s.vm).me = e.platform.stackLimits s.me := X.limits
  have hb9 : (T.setVm s.vm).me.stackBytes = s.me.stackBytes := X.bytes
  refine ⟨X.admits, X.cas, X.clock, hF, ?_, X.hears, X.method, X.code, X.here, X.tail, X.warmed, ?_, ?_, ?_⟩
  · have h := X.room
    have hU : ((T.setVm s.vm).setFrames (.invoking m args :: below)).localsInUse = s.localsInUse := by
      rw [State.localsInUse_invoking hF (meth := meth) (c := c) X.method X.code, State.localsInUse_invoking X.frames X.method X.code]
    simp only [State.hasRoom, Bool.and_eq_true, decide_eq_true_eq] at h ⊢
    obtain ⟨⟨⟨⟨h1, h2, h3, h4, h5, h6⟩, h7⟩, h8⟩, h9⟩ := h
    rw [X.frames, List.length_cons] at h2 h3
    have q1 := X.heapSize
    have q2 := X.used
    simp only [hF, hU, List.length_cons, State.stackLimits_setFrames, State.stackBytes_setFrames, hl9, hb9]
    refine ⟨⟨⟨⟨by omega, by omega, by omega, by omega, by omega, h6⟩, ?_⟩, ?_⟩, X.book⟩
    · show T.heap.size + R'.cells ≤ e.platform.maxCells
      omega
    · show T.slotsUsed + R'.slots ≤ e.platform.maxSlots
      omega
  · rw [State.stackLimits_setFrames]; rfl
  · rw [State.stackBytes_setFrames]; rfl
  · refine ⟨?_, Nat.le_refl _, Nat.le_refl _, ?_, ?_, fun a c9 h9 => ⟨c9, h9, rfl, rfl, fun _ _ => rfl⟩⟩
    · obtain ⟨t, ht, -⟩ := State.frames_cons hr
      show T.setVm s.vm = { ((T.setVm s.vm).setFrames (.invoking m args :: below)).setFrames (T.setVm s.vm).frames with heap := T.heap, slotsUsed := T.slotsUsed }
      rw [State.setFrames_setFrames, State.setFrames_self ht]
      rfl
    · show T.slotsUsed = T.slotsUsed + ((T.heap.toList.drop T.heap.size).map (·.slots.size)).sum
      rw [List.drop_eq_nil_of_le (Nat.le_of_eq Array.length_toList)]
      rfl
    · show ((T.heap.toList.drop T.heap.size).map (·.slots.size)).sum ≤ 0
      rw [List.drop_eq_nil_of_le (Nat.le_of_eq Array.length_toList)]
      exact Nat.le_refl _
/-- 'throw new E()': new; dup; invokespecial; athrow -/
theorem vx_throw0 {cc : ByteArray} {pc : Nat} (hexec : p.tables.exec = Jvm.exec) (hb : c.code = cc) (hl : l.stackTraces = false) {own cls : String} {names : List String} {ik ic mc ms : Nat} {A : Nat → Prop}
    (hown : s.vm.findClass own = some m.cls) (hcls : fit cls = true) (hnames : ∀ n ∈ names, fit n = true)
    (hk : (Cond.classLink own ik cls).before args s = true) (hini : (Cond.initialized cls).before args s = true) (hat : ∀ w ∈ vx_at0 own ic cls names, w.before args s = true)
    (hgood : ∀ w ∈ Cond.classLink own ik cls :: Cond.initialized cls :: vx_at0 own ic cls names, vx_ot w = true)
    (hU : vx_Zq tN "UNASSIGNED_STACK" steD A s s.heap) (hN : vx_Zq tN "SUPPRESSED_SENTINEL" listD A s s.heap) (hS : va_S A s.heap H locs) (hsize : ls.size = c.maxLocals)
    (d0 : decode cc pc = .ok (.new ik, 3)) (d3 : decode cc (pc + 3) = .ok (.dup, 1)) (d4 : decode cc (pc + 4) = .ok (.invokespecial ic, 3)) (d7 : decode cc (pc + 7) = .ok (.athrow, 1))
    (hout : ∀ x ∈ c.exceptionTable.toList, covers x (pc + 7) = false)
    (hRframes : names.length + 3 < R.frames) (hRlocals : (rest.map fun v => v.category).sum + (13 * (names.length + 1) + 42) ≤ R.locals) (hRcells : cells + 1 ≤ R.cells) (hRslots : slots + 6 ≤ R.slots) (hlocks : meth.locks = false)
    (hx : ∀ t : State, s.vm.Alike t.vm → H.size ≤ t.heap.size → (∀ q : Nat, q < H.size → t.heap[q]? = H[q]?) → XC cls s t)
    (hf : ∀ z ∈ locs, free z.base) (hc : cells + 1 ≤ mc) (hs : slots + 6 ≤ ms) :
    W p l e R s m args below meth c H locs cells slots (vx_MQ below Qc XC args s mc ms free) (F0 m pc ls rest) := by
  intro T hT X
  have htr : e.platform.stackTraces = false := (show e.platform.stackTraces = l.stackTraces by rw [X.admits.platform]).trans hl
  have Y := vx_rebase X (R' := { frames := R.frames, locals := R.locals, cells := 1, slots := 6 }) (Nat.le_refl _) (Nat.le_refl _) hRcells hRslots
  obtain ⟨s', hA⟩ : ∃ z, z = (T.setVm s.vm).setFrames (.invoking m args :: below) := ⟨_, rfl⟩
  rw [← hA] at Y
  have hvm : s'.vm = s.vm := by rw [hA]; rfl
  have hhp : s'.heap = H := by rw [hA]; exact hT
  have hW0 : s.WarmedH s'.vm := by rw [hvm]; exact State.WarmedH.refl s
  have hat' : ∀ w ∈ vx_at0 own ic cls names, w.before args s' = true := fun w hw => vx_ot_at hW0 hvm.symm (hgood w (List.mem_cons_of_mem _ (List.mem_cons_of_mem _ hw))) (hat w hw)
  have hk' : (Cond.classLink own ik cls).before args s' = true := vx_ot_at hW0 hvm.symm (hgood _ List.mem_cons_self) hk
  have hini' : (Cond.initialized cls).before args s' = true := vx_ot_at hW0 hvm.symm (hgood _ (List.mem_cons_of_mem _ List.mem_cons_self)) hini
  have hU' : vx_Zq tN "UNASSIGNED_STACK" steD A s' s'.heap := by rw [hhp]; exact vx_Zq.moved hW0.alike (hU.kept hS.2.1)
  have hN' : vx_Zq tN "SUPPRESSED_SENTINEL" listD A s' s'.heap := by rw [hhp]; exact vx_Zq.moved hW0.alike (hN.kept hS.2.1)
  have h : ∀ w ∈ ownAtoms0 own ic cls names, w.before args s' = true := vx_own hat' (vx_isRefq hU'.1) (vx_isRefq hN'.1) hU'.2.word hN'.2.word
  have hown' : s'.vm.findClass own = some m.cls := by rw [hvm]; exact hown
  have hins : (Cond.instantiable cls 6).before args s' = true := h _ (by simp [ownAtoms0])
  obtain ⟨vm₁, cX, kX, hfX, hkX, -, -, X₁, st1⟩ := Y.newCold hexec (own := own) (C := cls) (index := ik) (n := 6) hown' hk' hins hini'
    (g := F0 m pc ls rest) rfl (by rw [hb]; exact d0) (Nat.le_refl _) (Nat.le_refl _)
  generalize hT1 : (T.setVm vm₁).pushCell { cls := cX, slots := kX.instanceTypes.map defaultValue, vm := .none } = T1 at X₁ st1
  have hcat : (Value.ref T.heap.size).category = 1 := rfl
  have hcellA : T1.heap[T.heap.size]? = some (freshCell cX kX) := by rw [← hT1]; exact State.heap_pushCell_size _ _
  have d3' : decode c.code (pc + 3) = .ok (.dup, 1) := by rw [hb]; exact d3
  obtain ⟨U, hsteps, hrun, hend, hW, hsame, ce, hce, hO⟩ := X₁.ctorThrow0 hexec htr (own := own) (cls := cls) (names := names) (ic := ic) hown' hcls hnames h (fun x hx => nomatch hx) hfX hkX hcellA (by rw [hhp, hT]; exact Nat.le_refl _)
    (g := { method := m, pc := pc + 4, locals := ls, stack := .ref T.heap.size :: .ref T.heap.size :: rest, locked := none }) rfl hsize rfl rfl (rest := rest) rfl
    (by rw [hb]; exact d4) (by rw [hb]; exact d7) hout hRframes (by simp only [List.map_cons, List.sum_cons, hcat]; omega) hlocks
  obtain ⟨f1, f2⟩ := vx_frame hsame
  rw [hhp] at f1 f2
  have hWs : s.WarmedH U.vm := State.WarmedH.trans hW0 hW
  have hcl : s.vm.findClass cls = some ce.cls := by
    have h9 := hO.cls
    rw [hvm] at h9
    exact h9
  have hall : s.sameButNew ({ U with vm := s.vm } : State) locs mc ms := by
    subst hA
    obtain ⟨e1, e2⟩ := hsame
    rw [State.setFrames_setFrames] at e1
    have h2 : (T.setVm s.vm).sameButNew ({ U with vm := s.vm } : State) [] (0 + 1) (0 + 6) := ⟨e1, e2⟩
    have h3 := X.same.trans h2
    rw [List.append_nil] at h3
    exact h3.mono hc hs
  refine ⟨U, ?_, .threw T.heap.size, hrun, hend, Or.inr ⟨T.heap.size, rfl, cls, ce, locs, hx U hWs.alike f1 (fun q hq => f2 q hq (fun z hz => nomatch hz)), hce, hO.vm, hcl, hWs, hall, hf⟩⟩
  refine st1 _ ?_
  show Steps p.tables e below (T1.setTop { method := m, pc := pc + 3, locals := ls, stack := .ref T.heap.size :: rest, locked := none }) _
  jvm_step X₁.here [X₁.here.top, hexec, d3', Value.category]
  exact hsteps
/-- 'throw new E("text")': new; dup; ldc; invokespecial; athrow -/
theorem vx_throwS {cc : ByteArray} {pc : Nat} (hexec : p.tables.exec = Jvm.exec) (hb : c.code = cc) (hl : l.stackTraces = false) {own cls text : String} {names : List String} {ik is ic mc ms sa : Nat} {A : Nat → Prop}
    (hown : s.vm.findClass own = some m.cls) (hcls : fit cls = true) (hnames : ∀ n ∈ names, fit n = true)
    (hk : (Cond.classLink own ik cls).before args s = true) (hini : (Cond.initialized cls).before args s = true) (hstr : vk_R own is text sa s) (hat : ∀ w ∈ vx_atS own ic cls names, w.before args s = true)
    (hgood : ∀ w ∈ Cond.classLink own ik cls :: Cond.initialized cls :: vx_atS own ic cls names, vx_ot w = true)
    (hU : vx_Zq tN "UNASSIGNED_STACK" steD A s s.heap) (hN : vx_Zq tN "SUPPRESSED_SENTINEL" listD A s s.heap) (hS : va_S A s.heap H locs) (hsize : ls.size = c.maxLocals)
    (d0 : decode cc pc = .ok (.new ik, 3)) (d3 : decode cc (pc + 3) = .ok (.dup, 1)) (d4 : decode cc (pc + 4) = .ok (.ldc is, 2)) (d6 : decode cc (pc + 6) = .ok (.invokespecial ic, 3)) (d9 : decode cc (pc + 9) = .ok (.athrow, 1))
    (hout : ∀ x ∈ c.exceptionTable.toList, covers x (pc + 9) = false)
    (hRframes : names.length + 3 < R.frames) (hRlocals : (rest.map fun v => v.category).sum + (13 * (names.length + 1) + 43) ≤ R.locals) (hRcells : cells + 1 ≤ R.cells) (hRslots : slots + 6 ≤ R.slots) (hlocks : meth.locks = false)
    (hx : ∀ t : State, s.vm.Alike t.vm → H.size ≤ t.heap.size → (∀ q : Nat, q < H.size → t.heap[q]? = H[q]?) → XC cls s t)
    (hf : ∀ z ∈ locs, free z.base) (hc : cells + 1 ≤ mc) (hs : slots + 6 ≤ ms) :
    W p l e R s m args below meth c H locs cells slots (vx_MQ below Qc XC args s mc ms free) (F0 m pc ls rest) := by
  intro T hT X
  have htr : e.platform.stackTraces = false := (show e.platform.stackTraces = l.stackTraces by rw [X.admits.platform]).trans hl
  have Y := vx_rebase X (R' := { frames := R.frames, locals := R.locals, cells := 1, slots := 6 }) (Nat.le_refl _) (Nat.le_refl _) hRcells hRslots
  obtain ⟨s', hA⟩ : ∃ z, z = (T.setVm s.vm).setFrames (.invoking m args :: below) := ⟨_, rfl⟩
  rw [← hA] at Y
  have hvm : s'.vm = s.vm := by rw [hA]; rfl
  have hhp : s'.heap = H := by rw [hA]; exact hT
  have hW0 : s.WarmedH s'.vm := by rw [hvm]; exact State.WarmedH.refl s
  have hat' : ∀ w ∈ vx_atS own ic cls names, w.before args s' = true := fun w hw => vx_ot_at hW0 hvm.symm (hgood w (List.mem_cons_of_mem _ (List.mem_cons_of_mem _ hw))) (hat w hw)
  have hk' : (Cond.classLink own ik cls).before args s' = true := vx_ot_at hW0 hvm.symm (hgood _ List.mem_cons_self) hk
  have hini' : (Cond.initialized cls).before args s' = true := vx_ot_at hW0 hvm.symm (hgood _ (List.mem_cons_of_mem _ List.mem_cons_self)) hini
  have hU' : vx_Zq tN "UNASSIGNED_STACK" steD A s' s'.heap := by rw [hhp]; exact vx_Zq.moved hW0.alike (hU.kept hS.2.1)
  have hN' : vx_Zq tN "SUPPRESSED_SENTINEL" listD A s' s'.heap := by rw [hhp]; exact vx_Zq.moved hW0.alike (hN.kept hS.2.1)
  have h : ∀ w ∈ ownAtoms own ic cls names, w.before args s' = true := vx_own hat' (vx_isRefq hU'.1) (vx_isRefq hN'.1) hU'.2.word hN'.2.word
  have hown' : s'.vm.findClass own = some m.cls := by rw [hvm]; exact hown
  have hins : (Cond.instantiable cls 6).before args s' = true := h _ (by simp [ownAtoms])
  obtain ⟨vm₁, cX, kX, hfX, hkX, -, -, X₁, st1⟩ := Y.newCold hexec (own := own) (C := cls) (index := ik) (n := 6) hown' hk' hins hini'
    (g := F0 m pc ls rest) rfl (by rw [hb]; exact d0) (Nat.le_refl _) (Nat.le_refl _)
  generalize hT1 : (T.setVm vm₁).pushCell { cls := cX, slots := kX.instanceTypes.map defaultValue, vm := .none } = T1 at X₁ st1
  have hcat : (Value.ref T.heap.size).category = 1 := rfl
  have hcellA : T1.heap[T.heap.size]? = some (freshCell cX kX) := by rw [← hT1]; exact State.heap_pushCell_size _ _
  have d3' : decode c.code (pc + 3) = .ok (.dup, 1) := by rw [hb]; exact d3
  have d4' : decode c.code (pc + 4) = .ok (.ldc is, 2) := by rw [hb]; exact d4
  have hstr' : vk_R own is text sa s' := vk_R.warm hW0 hstr
  obtain ⟨U, hsteps, hrun, hend, hW, hsame, ce, hce, hO⟩ := X₁.ctorThrowS hexec htr (own := own) (cls := cls) (names := names) (ic := ic) hown' hcls hnames h (fun x hx => nomatch hx) hfX hkX hcellA (by rw [hhp, hT]; exact Nat.le_refl _) (msg := .ref sa) rfl
    (g := { method := m, pc := pc + 6, locals := ls, stack := .ref sa :: .ref T.heap.size :: .ref T.heap.size :: rest, locked := none }) rfl hsize rfl rfl (rest := rest) rfl
    (by rw [hb]; exact d6) (by rw [hb]; exact d9) hout hRframes (by simp only [List.map_cons, List.sum_cons, hcat]; omega) hlocks
  obtain ⟨f1, f2⟩ := vx_frame hsame
  rw [hhp] at f1 f2
  have hWs : s.WarmedH U.vm := State.WarmedH.trans hW0 hW
  have hcl : s.vm.findClass cls = some ce.cls := by
    have h9 := hO.cls
    rw [hvm] at h9
    exact h9
  have hall : s.sameButNew ({ U with vm := s.vm } : State) locs mc ms := by
    subst hA
    obtain ⟨e1, e2⟩ := hsame
    rw [State.setFrames_setFrames] at e1
    have h2 : (T.setVm s.vm).sameButNew ({ U with vm := s.vm } : State) [] (0 + 1) (0 + 6) := ⟨e1, e2⟩
    have h3 := X.same.trans h2
    rw [List.append_nil] at h3
    exact h3.mono hc hs
  refine ⟨U, ?_, .threw T.heap.size, hrun, hend, Or.inr ⟨T.heap.size, rfl, cls, ce, locs, hx U hWs.alike f1 (fun q hq => f2 q hq (fun z hz => nomatch hz)), hce, hO.vm, hcl, hWs, hall, hf⟩⟩
  refine st1 _ ?_
  show Steps p.tables e below (T1.setTop { method := m, pc := pc + 3, locals := ls, stack := .ref T.heap.size :: rest, locked := none }) _
  jvm_step X₁.here [X₁.here.top, hexec, d3', Value.category]
  exact X₁.ldcString hexec (own := own) (text := text) (index := is) (a := sa) hown' hstr'.1 hstr'.2
    (g := { method := m, pc := pc + 4, locals := ls, stack := .ref T.heap.size :: .ref T.heap.size :: rest, locked := none }) rfl d4' _ hsteps
/-- 'throw new E("text")', the text by a wide index -/
theorem vx_throwSW {cc : ByteArray} {pc : Nat} (hexec : p.tables.exec = Jvm.exec) (hb : c.code = cc) (hl : l.stackTraces = false) {own cls text : String} {names : List String} {ik is ic mc ms sa : Nat} {A : Nat → Prop}
    (hown : s.vm.findClass own = some m.cls) (hcls : fit cls = true) (hnames : ∀ n ∈ names, fit n = true)
    (hk : (Cond.classLink own ik cls).before args s = true) (hini : (Cond.initialized cls).before args s = true) (hstr : vk_R own is text sa s) (hat : ∀ w ∈ vx_atS own ic cls names, w.before args s = true)
    (hgood : ∀ w ∈ Cond.classLink own ik cls :: Cond.initialized cls :: vx_atS own ic cls names, vx_ot w = true)
    (hU : vx_Zq tN "UNASSIGNED_STACK" steD A s s.heap) (hN : vx_Zq tN "SUPPRESSED_SENTINEL" listD A s s.heap) (hS : va_S A s.heap H locs) (hsize : ls.size = c.maxLocals)
    (d0 : decode cc pc = .ok (.new ik, 3)) (d3 : decode cc (pc + 3) = .ok (.dup, 1)) (d4 : decode cc (pc + 4) = .ok (.ldc_w is, 3)) (d7 : decode cc (pc + 7) = .ok (.invokespecial ic, 3)) (d10 : decode cc (pc + 10) = .ok (.athrow, 1))
    (hout : ∀ x ∈ c.exceptionTable.toList, covers x (pc + 10) = false)
    (hRframes : names.length + 3 < R.frames) (hRlocals : (rest.map fun v => v.category).sum + (13 * (names.length + 1) + 43) ≤ R.locals) (hRcells : cells + 1 ≤ R.cells) (hRslots : slots + 6 ≤ R.slots) (hlocks : meth.locks = false)
    (hx : ∀ t : State, s.vm.Alike t.vm → H.size ≤ t.heap.size → (∀ q : Nat, q < H.size → t.heap[q]? = H[q]?) → XC cls s t)
    (hf : ∀ z ∈ locs, free z.base) (hc : cells + 1 ≤ mc) (hs : slots + 6 ≤ ms) :
    W p l e R s m args below meth c H locs cells slots (vx_MQ below Qc XC args s mc ms free) (F0 m pc ls rest) := by
  intro T hT X
  have htr : e.platform.stackTraces = false := (show e.platform.stackTraces = l.stackTraces by rw [X.admits.platform]).trans hl
  have Y := vx_rebase X (R' := { frames := R.frames, locals := R.locals, cells := 1, slots := 6 }) (Nat.le_refl _) (Nat.le_refl _) hRcells hRslots
  obtain ⟨s', hA⟩ : ∃ z, z = (T.setVm s.vm).setFrames (.invoking m args :: below) := ⟨_, rfl⟩
  rw [← hA] at Y
  have hvm : s'.vm = s.vm := by rw [hA]; rfl
  have hhp : s'.heap = H := by rw [hA]; exact hT
  have hW0 : s.WarmedH s'.vm := by rw [hvm]; exact State.WarmedH.refl s
  have hat' : ∀ w ∈ vx_atS own ic cls names, w.before args s' = true := fun w hw => vx_ot_at hW0 hvm.symm (hgood w (List.mem_cons_of_mem _ (List.mem_cons_of_mem _ hw))) (hat w hw)
  have hk' : (Cond.classLink own ik cls).before args s' = true := vx_ot_at hW0 hvm.symm (hgood _ List.mem_cons_self) hk
  have hini' : (Cond.initialized cls).before args s' = true := vx_ot_at hW0 hvm.symm (hgood _ (List.mem_cons_of_mem _ List.mem_cons_self)) hini
  have hU' : vx_Zq tN "UNASSIGNED_STACK" steD A s' s'.heap := by rw [hhp]; exact vx_Zq.moved hW0.alike (hU.kept hS.2.1)
  have hN' : vx_Zq tN "SUPPRESSED_SENTINEL" listD A s' s'.heap := by rw [hhp]; exact vx_Zq.moved hW0.alike (hN.kept hS.2.1)
  have h : ∀ w ∈ ownAtoms own ic cls names, w.before args s' = true := vx_own hat' (vx_isRefq hU'.1) (vx_isRefq hN'.1) hU'.2.word hN'.2.word
  have hown' : s'.vm.findClass own = some m.cls := by rw [hvm]; exact hown
  have hins : (Cond.instantiable cls 6).before args s' = true := h _ (by simp [ownAtoms])
  obtain ⟨vm₁, cX, kX, hfX, hkX, -, -, X₁, st1⟩ := Y.newCold hexec (own := own) (C := cls) (index := ik) (n := 6) hown' hk' hins hini'
    (g := F0 m pc ls rest) rfl (by rw [hb]; exact d0) (Nat.le_refl _) (Nat.le_refl _)
  generalize hT1 : (T.setVm vm₁).pushCell { cls := cX, slots := kX.instanceTypes.map defaultValue, vm := .none } = T1 at X₁ st1
  have hcat : (Value.ref T.heap.size).category = 1 := rfl
  have hcellA : T1.heap[T.heap.size]? = some (freshCell cX kX) := by rw [← hT1]; exact State.heap_pushCell_size _ _
  have d3' : decode c.code (pc + 3) = .ok (.dup, 1) := by rw [hb]; exact d3
  have d4' : decode c.code (pc + 4) = .ok (.ldc_w is, 3) := by rw [hb]; exact d4
  have hstr' : vk_R own is text sa s' := vk_R.warm hW0 hstr
  obtain ⟨U, hsteps, hrun, hend, hW, hsame, ce, hce, hO⟩ := X₁.ctorThrowS hexec htr (own := own) (cls := cls) (names := names) (ic := ic) hown' hcls hnames h (fun x hx => nomatch hx) hfX hkX hcellA (by rw [hhp, hT]; exact Nat.le_refl _) (msg := .ref sa) rfl
    (g := { method := m, pc := pc + 7, locals := ls, stack := .ref sa :: .ref T.heap.size :: .ref T.heap.size :: rest, locked := none }) rfl hsize rfl rfl (rest := rest) rfl
    (by rw [hb]; exact d7) (by rw [hb]; exact d10) hout hRframes (by simp only [List.map_cons, List.sum_cons, hcat]; omega) hlocks
  obtain ⟨f1, f2⟩ := vx_frame hsame
  rw [hhp] at f1 f2
  have hWs : s.WarmedH U.vm := State.WarmedH.trans hW0 hW
  have hcl : s.vm.findClass cls = some ce.cls := by
    have h9 := hO.cls
    rw [hvm] at h9
    exact h9
  have hall : s.sameButNew ({ U with vm := s.vm } : State) locs mc ms := by
    subst hA
    obtain ⟨e1, e2⟩ := hsame
    rw [State.setFrames_setFrames] at e1
    have h2 : (T.setVm s.vm).sameButNew ({ U with vm := s.vm } : State) [] (0 + 1) (0 + 6) := ⟨e1, e2⟩
    have h3 := X.same.trans h2
    rw [List.append_nil] at h3
    exact h3.mono hc hs
  refine ⟨U, ?_, .threw T.heap.size, hrun, hend, Or.inr ⟨T.heap.size, rfl, cls, ce, locs, hx U hWs.alike f1 (fun q hq => f2 q hq (fun z hz => nomatch hz)), hce, hO.vm, hcl, hWs, hall, hf⟩⟩
  refine st1 _ ?_
  show Steps p.tables e below (T1.setTop { method := m, pc := pc + 3, locals := ls, stack := .ref T.heap.size :: rest, locked := none }) _
  jvm_step X₁.here [X₁.here.top, hexec, d3', Value.category]
  exact X₁.ldcStringW hexec (own := own) (text := text) (index := is) (a := sa) hown' hstr'.1 hstr'.2
    (g := { method := m, pc := pc + 4, locals := ls, stack := .ref T.heap.size :: .ref T.heap.size :: rest, locked := none }) rfl d4' _ hsteps
end Ends
section Bodies
variable {l : Launch}
theorem vx_ofW {y : MethodName} {ws ws' : List Cond} {rm : Room} {Pc : Array Value → State → Prop} {Qc : Array Value → State → Outcome → State → Prop} {XC : String → State → State → Prop} {mc ms : Nat} {free : Addr → Prop} {cc : ByteArray} {maxL : Nat} {ret : Option FieldType}
    (hy : plainName y.cls = true) (hw : ws = Cond.code y cc maxL ret :: ws')
    (body : ∀ p e s m args below meth c s₁, BodyLoose p l y (headSpec ws rm) cc maxL ret e s m args below meth c s₁ → c.maxLocals = maxL → (∀ x ∈ c.exceptionTable.toList, False) → Pc args s →
      W p l e (headSpec ws rm).room s m args below meth c s.heap [] 0 0 (vx_MQ below Qc XC args s mc ms free) (entryFrame m args maxL)) : vx_Met l y ws rm Pc Qc XC mc ms free := by
  refine MetFree.of_bodyS (code := cc) (maxLocals := maxL) (ret := ret) hy ?_ ?_
  · intro args s m h hn
    obtain ⟨meth, c, h1, h2, h3, h4, h5, h6, -, -⟩ := Cond.code_spec hn (atoms_spec (ws := ws) h _ (by rw [hw]; exact List.mem_cons_self))
    exact ⟨meth, c, h1, h2, h3, h4, h5, h6⟩
  · intro p e s m args below meth c s₁ B hml hP _
    have hh0 : s₁.heap = s.heap := by rw [B.state]; rfl
    have ht : ∀ x ∈ c.exceptionTable.toList, False := by
      obtain ⟨meth9, c9, h1, h2, -, -, -, -, h7, -⟩ := Cond.code_spec B.named (atoms_spec (ws := ws) B.pre _ (by rw [hw]; exact List.mem_cons_self))
      cases Option.some.inj (h1.symm.trans B.method)
      cases Option.some.inj (h2.symm.trans (Stand.of_body B).code)
      intro x hx
      rw [Array.isEmpty_iff.mp h7] at hx
      cases hx
    obtain ⟨t, a1, o, b1, b2, b3⟩ := body p e s m args below meth c s₁ B hml ht hP s₁ hh0 (Stand.of_body B)
    exact ⟨t, o, a1, b1, b2, b3⟩
/-- the table of a body with handlers -/
theorem vx_table {p : Program} {x y : MethodName} {S : Spec} {cc bytes : ByteArray} {maxL maxL' : Nat} {ret ret' : Option FieldType} {e : Env} {s s₁ : State} {m : MethodId} {args : Array Value} {below : List Frame} {meth : Method} {c : Code} {hh : List (Nat × Nat × Nat × Nat)}
    (B : BodyLoose p l y S cc maxL ret e s m args below meth c s₁) (h : (Cond.codeWith y bytes maxL' ret' hh).before args s = true) : c.exceptionTable.toList = tableOf hh := by
  obtain ⟨m9, meth9, c9, hn9, h1, h2, -, -, h6, -⟩ := Cond.codeWith_spec h
  cases Option.some.inj (hn9.symm.trans B.named)
  cases Option.some.inj (h1.symm.trans B.method)
  cases Option.some.inj (h2.symm.trans (Stand.of_body B).code)
  rw [← h6, table_eq]
end Bodies
end VXA
/-! ===== END ===== -/
/-! ===== BEGIN a static call of a method with an exception table ===== -/
section VXS
variable {p : Program} {l : Launch} {e : Env} {R : Room} {s : State} {m : MethodId} {args : Array Value} {below : List Frame} {meth : Method} {c : Code} {T : State} {H : Heap} {locs : List Loc} {cells slots : Nat}
abbrev vx_CSW (R : Room) (s : State) (args : Array Value) (own : String) (index : Nat) (y : MethodName) (bytes : ByteArray) (maxL : Nat) (ret : Option FieldType) (hh : List (Nat × Nat × Nat × Nat)) (ws : List Cond) (rm : Room) (mc ms n : Nat) : Prop :=
  (rm.cells = mc ∧ rm.slots = ms ∧ rm.frames + 1 ≤ R.frames ∧ 8 + (maxL + 11) + rm.locals ≤ R.locals ∧ (∀ w ∈ ws, ∀ (a' : Array Value) (U : State), s.WarmedH U.vm → w.before a' U = true) ∧ Cond.codeWith y bytes maxL ret hh ∈ ws) ∧
  (Cond.codeWith y bytes maxL ret hh).before args s = true ∧ (Cond.initialized y.cls).before args s = true ∧ (y.cls ≠ "java/lang/invoke/MethodHandle" ∧ y.cls ≠ "java/lang/invoke/VarHandle") ∧
  (∀ sig, parseMethodDescriptor y.desc = some sig → n = sig.parameters.length) ∧ (Cond.methodLink own index y).before args s = true ∧ (Cond.static y).before args s = true
theorem vx_cwSW {own : String} {index maxL mc ms : Nat} {y : MethodName} {bytes : ByteArray} {ret : Option FieldType} {hh : List (Nat × Nat × Nat × Nat)} {Ts ws ws' : List Cond} {rm : Room} (n : Nat) (ht : ∀ w ∈ Ts, w.before args s = true) (hT : GoodIn Ts (va_wsS own index y ws)) (hw : ws = Cond.codeWith y bytes maxL ret hh :: ws') (hrc : rm.cells = mc) (hrs : rm.slots = ms)
    (hd : y.cls ≠ "java/lang/invoke/MethodHandle" ∧ y.cls ≠ "java/lang/invoke/VarHandle" ∧ (parseMethodDescriptor y.desc).map (fun d => d.parameters.length) = some n) (hR : rm.frames + 1 ≤ R.frames ∧ 8 + (maxL + 11) + rm.locals ≤ R.locals) :
    vx_CSW R s args own index y bytes maxL ret hh ws rm mc ms n := by
  have ok : ∀ w ∈ va_wsS own index y ws, w.before args s = true := fun w h => ht w (hT w h).1
  have hG : GoodIn Ts ws := fun w h => hT w (by unfold va_wsS; exact List.mem_append_right _ h)
  have hc : Cond.codeWith y bytes maxL ret hh ∈ ws := by rw [hw]; exact List.mem_cons_self
  refine ⟨⟨hrc, hrs, hR.1, hR.2, pay_in ht hG, hc⟩, ht _ (hG _ hc).1, ok _ (by simp [va_wsS]), ⟨hd.1, hd.2.1⟩, fun sig h => ?_, ok _ (by simp [va_wsS]), ok _ (by simp [va_wsS])⟩
  have h2 := hd.2.2
  rw [h] at h2
  exact (Option.some.inj h2).symm
theorem vx_callSW (X : Stand p l e R s m args below meth c T locs cells slots) (hexec : p.tables.exec = Jvm.exec) {own : String} {index : Nat} {y : MethodName} {bytes : ByteArray} {maxL : Nat} {ret : Option FieldType} {hh : List (Nat × Nat × Nat × Nat)}
    (hown : s.vm.findClass own = some m.cls) (hlink : (Cond.methodLink own index y).before args s = true) (hstat : (Cond.static y).before args s = true) (hinit : (Cond.initialized y.cls).before args s = true)
    (hcode : (Cond.codeWith y bytes maxL ret hh).before args s = true) (hy : y.cls ≠ "java/lang/invoke/MethodHandle" ∧ y.cls ≠ "java/lang/invoke/VarHandle")
    {W9 : Nat} {Pre : Pt → Array Value → Prop} {Post : Pt → Array Value → Option Value → Pt → Prop} (hK : Back l R p e below s args y 3 W9 Pre Post)
    {g : JFrame} (hg : g.method = m) (hsize : g.locals.size = c.maxLocals) {argsL rest : List Value} (hlen : ∀ sig, parseMethodDescriptor y.desc = some sig → argsL.length = sig.parameters.length)
    (hstack : g.stack = argsL.reverse ++ rest) (hW : 2 * g.monitorRoom + (rest.map fun v => v.category).sum ≤ W9) (hdg : decode c.code g.pc = .ok (.invokestatic index, 3))
    (hpre : ∀ vm₁, s.WarmedH vm₁ → Pre ⟨T.setVm vm₁, locs, cells, slots⟩ argsL.toArray) :
    ∃ (v : Option Value) (vm₁ : Vm) (B : Pt), s.WarmedH vm₁ ∧ Stand p l e R s m args below meth c B.U B.locs B.cells B.slots ∧ Post ⟨T.setVm vm₁, locs, cells, slots⟩ argsL.toArray v B ∧
      ∀ target, Steps p.tables e below (B.U.setTop { g with pc := g.pc + 3, stack := v.toList ++ rest }) target → Steps p.tables e below (T.setTop g) target := by
  obtain ⟨mk, methM, cM, hnamed, hmethM, -, -, -, -, -, -, hsigM⟩ := Cond.codeWith_spec hcode
  have hstatic : methM.isStatic = true := Cond.static_spec hnamed hmethM hstat
  obtain ⟨kP, hkP, -⟩ := className_of_methodNamed hnamed
  have hinitP : kP.init = .initialized := Cond.initialized_spec (findClass_of_methodNamed hnamed) hkP hinit
  obtain ⟨vm₁, X₁, hstep₁⟩ := X.invokestatic hexec hown hlink hnamed hmethM hstatic hkP hinitP hy (g := g) hg (argsL := argsL) (rest := rest) (hlen _ hsigM) hstack hdg
  obtain ⟨v, B, X', hpost, hsteps⟩ := hK m meth c ⟨T.setVm vm₁, locs, cells, slots⟩ { g with stack := rest } (.invokestatic index) mk argsL.toArray X₁ hg hsize hdg hW (X₁.named hnamed) (hpre vm₁ X₁.warmed)
  exact ⟨v, vm₁, B, X₁.warmed, X', hpost, fun target h => hstep₁ _ fun acts => by rw [doInvoke_state]; exact hsteps.trans h⟩
theorem vx_runSW {y : MethodName} {bytes cc : ByteArray} {maxL nL mc ms n index : Nat} {ret : Option FieldType} {hh : List (Nat × Nat × Nat × Nat)} {ws : List Cond} {rm : Room} {Pc : Array Value → State → Prop} {Qc : Array Value → State → Outcome → State → Prop} {free : Addr → Prop} {Ts : List Cond} {own : String} {As rest : List Value} {g : JFrame}
    (S : CallFix p m c cc nL s args Ts own) (hM : Met l y ws rm Pc Qc mc ms free) (cw : vx_CSW R s args own index y bytes maxL ret hh ws rm mc ms n) (hp : PreS s H Pc As)
    (hg : g.method = m) (hn : As.length = n) (hsize : g.locals.size = nL) (hstack : g.stack = As.reverse ++ rest) (hW : 2 * g.monitorRoom + (rest.map fun v => v.category).sum ≤ 8) (hdg : decode cc g.pc = .ok (.invokestatic index, 3)) (hf : cells + mc ≤ R.cells ∧ slots + ms ≤ R.slots) :
    va_Run p l e R s m args below meth c H locs cells slots mc ms g rest (Qc As.toArray) (free) := by
  obtain ⟨⟨hrc, hrs, hfr, hlo, hws, hcw⟩, hcode, hini, hy, hlen, hl, hstt⟩ := cw
  have hK : Back l R p e below s args y 3 8 (PreOf R mc ms Pc) (PostOf Qc mc ms free) := va_backW (hh := hh) (bytes := bytes) (maxL := maxL) (ret := ret) hM hp.1 hrc hrs hfr hlo hws hcw (fun a' U hW => word_at hW (Or.inl (by first | rfl | simp [Cond.onTables, Cond.keeps, Cond.steady])) hini)
  obtain ⟨hx, hb, hml, ho, -⟩ := S
  intro T hT X
  obtain ⟨v, vm₁, ⟨U', l2, c2, s2⟩, hW₁, X', ⟨g', mk, t, L, e1, e2, hq, h1, hL, h2, h3⟩, st⟩ := vx_callSW X hx (hh := hh) (bytes := bytes) (maxL := maxL) (ret := ret) ho hl hstt hini hcode hy hK hg (hsize.trans hml.symm) (argsL := As) (rest := rest) (fun sig h => hn.trans (hlen sig h)) hstack hW (by rw [hb]; exact hdg)
    (fun vm₁ hW₁ => ⟨hf.1, hf.2, hp.2 (T.setVm vm₁) hT hW₁⟩)
  dsimp only [Pt.U, Pt.locs, Pt.cells, Pt.slots] at X' e1 e2 h1 h2 h3 st
  subst h1; subst h2; subst h3
  exact ⟨v, (T.setVm vm₁).calling g' mk As.toArray, t, U', L, hT, X', hL, e1, e2, hq, st⟩
/-- not caught here, past rows that name other classes: it goes on to the caller -/
theorem vx_outP {p : Program} {l : Launch} {e : Env} {R : Room} {s : State} {m : MethodId} {args : Array Value} {below : List Frame} {meth : Method} {c : Code} {H : Heap} {locs : List Loc} {cells slots : Nat} {free : Addr → Prop} {ls : Array Slot} {rest : List Value} {Qc : Array Value → State → Outcome → State → Prop} {XC : String → State → State → Prop}
    {pc : Nat} {own E : String} {ce : Cell} {q : Addr} {mc ms : Nat} (hown : s.vm.findClass own = some m.cls) (hlocks : meth.locks = false)
    (hpass : ∀ z ∈ c.exceptionTable.toList, covers z pc = false ∨ (z.catchType ≠ 0 ∧ ∃ nm : String, (Cond.classLink own z.catchType nm).before args s = true ∧ va_Nc E nm s)) (hcell : H[q]? = some ce) (hv : ce.vm = .none) (hcl : s.vm.findClass E = some ce.cls)
    (hx : ∀ t : State, t.heap = H → s.vm.Alike t.vm → XC E s t) (hf : ∀ z ∈ locs, free z.base) (hc : cells ≤ mc) (hs : slots ≤ ms) :
    vx_W p l e R s m args below meth c H locs cells slots (vx_MQ below Qc XC args s mc ms free) (F0 m pc ls rest) q := by
  intro T hT X
  have hpl : e.platform.magicAccessors = ({} : Platform).magicAccessors := by rw [X.admits.platform]
  obtain ⟨vm', hW', X', st⟩ := X.outThrough hlocks q (g := F0 m pc ls rest) rfl rfl rfl (cell := ce) (by rw [hT]; exact hcell) (by rw [hv]; rfl)
    (by obtain ⟨k9, h9, -⟩ := Vm.findClass_spec hcl; exact ⟨k9, h9⟩) (fun z hz => by
      rcases hpass z hz with h | ⟨hz0, nm, hl1, hn1⟩
      · exact Or.inl h
      · obtain ⟨c6, hc6, hcl6⟩ := Cond.classLink_spec hown hl1 e.platform hpl
        obtain ⟨a8, b8, h1, h2, h3⟩ := hn1
        cases Option.some.inj (h1.symm.trans hcl)
        cases Option.some.inj (h2.symm.trans hc6)
        exact Or.inr ⟨hz0, _, hcl6, h3⟩)
  obtain ⟨g₀, hfr⟩ := X'.frames_eq
  have hcell9 : ((T.setVm vm').setFrames (.throwing q :: below)).heap[q]? = some ce := by
    show T.heap[q]? = some ce
    rw [hT]; exact hcell
  have hend : Ended ((T.setVm vm').setFrames (.throwing q :: below)) below (.threw q) := State.frames_setFrames _ (State.cur_lt_of_frames hfr)
  refine ⟨(T.setVm vm').setFrames (.throwing q :: below), ?_, .threw q, X'.here.running, hend, Or.inr ⟨q, rfl, E, ce, locs, hx _ hT (X'.ends _).1.alike, hcell9, hv, hcl, (X'.ends _).1, (X'.ends _).2.mono hc hs, hf⟩⟩
  rw [X.pushThrowing_eq]
  exact st
/-- a thing of a world lies in the heap -/
theorem vx_lt {D : va_G} {cl : List vw_C} {ws : va_W} {H1 : Heap} (h : va_P D cl ws H1) {k : Nat} {q : Nat × va_E} (hk : ws[k]? = some q) : q.1 < H1.size := (h k q hk).lt
end VXS
/-! ===== END ===== -/
/-! ===== BEGIN methods with a table of their own: called by a name, returning or throwing ===== -/
section VXH
/-! vx_backW, vx_callVX, vx_callSX, vx_callVW, vx_runVW, vx_runVX, vx_runSX, vx_ofWH follow the same proofs as their sisters above (Free/Laws.lean, Shelf42/LK1.lean); vx_outP calls Shelf42/NT130.lean (outThrough). -/
section
variable {l : Launch} {R : Room} {p : Program} {e : Env} {below : List Frame} {s : State} {sargs : Array Value} {y : MethodName} {len W9 : Nat}
theorem vx_backW {ws : List Cond} {rm : Room} {Pc : Array Value → State → Prop} {Qc : Array Value → State → Outcome → State → Prop} {XC : String → State → State → Prop} {mc ms : Nat} {free : Addr → Prop} {bytes : ByteArray} {maxL : Nat} {ret : Option FieldType} {hh : List (Nat × Nat × Nat × Nat)}
    (hM : vx_Met l y ws rm Pc Qc XC mc ms free) (hblind : FrameBlind Pc) (hrc : rm.cells = mc) (hrs : rm.slots = ms)
    (hframes : rm.frames + 1 ≤ R.frames) (hlocals : W9 + (maxL + 11) + rm.locals ≤ R.locals)
    (hws : ∀ w ∈ ws, ∀ a' U, s.WarmedH U.vm → w.before a' U = true) (hcode : Cond.codeWith y bytes maxL ret hh ∈ ws) (hinit : ∀ a' U, s.WarmedH U.vm → (Cond.initialized y.cls).before a' U = true) :
    vx_Back l R p e below s sargs y len W9 (PreOf R mc ms Pc) (PostOf Qc mc ms free) (vx_Post XC mc ms free) := by
  intro m meth c A g ig mk a X hg hsize hdg hW hn hp
  have h1 : (headSpec ws rm).pre.before a A.U = true := atoms_intro fun w hw => hws w hw _ _ X.warmed
  have h2 : (Cond.codeWith y bytes maxL ret hh).before a A.U = true := hws _ hcode _ _ X.warmed
  have h3 : (Cond.initialized y.cls).before a A.U = true := hinit _ _ X.warmed
  have h4 : A.cells + (headSpec ws rm).room.cells ≤ R.cells := by rw [show (headSpec ws rm).room.cells = mc from hrc]; exact hp.1
  have h5 : A.slots + (headSpec ws rm).room.slots ≤ R.slots := by rw [show (headSpec ws rm).room.slots = ms from hrs]; exact hp.2.1
  have hPc : Pc a (A.U.calling g mk a) := hblind _ _ _ _ hp.2.2
  obtain ⟨U, Ls, c0, s0⟩ := A
  dsimp only [Pt.U, Pt.locs, Pt.cells, Pt.slots] at h1 h2 h3 h4 h5 X hn hPc ⊢
  obtain ⟨m9, methY, cY, hn9, hmY, hcY, -, hlY, -⟩ := Cond.codeWith_spec h2
  cases Option.some.inj (hn9.symm.trans hn)
  obtain ⟨kY, hkY, -⟩ := className_of_methodNamed hn
  have hinitY : kY.init = .initialized := Cond.initialized_spec (findClass_of_methodNamed hn) hkY h3
  have h : At U g.method c below := by rw [hg]; exact X.here
  have hlocals9 : W9 + (maxL + 11) + (headSpec ws rm).room.locals ≤ R.locals := hlocals
  have happ : (headSpec ws rm).appliesLoose y e.platform (U.calling g mk a) = true :=
    Spec.appliesLoose_calling (g := g) h hdg hn hkY hinitY
      (X.room_calling (g := g) (R' := (headSpec ws rm).room) hsize hmY hcY hframes (by rw [hlY]; omega) h4 h5) h1
  obtain ⟨mid, hmid⟩ := h.above
  have hfr : (U.setTop g).frames = (.java g :: mid) ++ below := by rw [State.frames_setTop' g h.top, hmid]; rfl
  obtain ⟨o, s₂, hsteps, -, hend, hq⟩ := Steps.callFree hM p X.admits X.cas X.clock (acts := []) hfr happ hPc trivial
  have hq' : vx_Q Qc XC mc ms free a (U.calling g mk a) o s₂ := hq
  rw [State.frames_setTop' g h.top] at hend
  obtain ⟨g₀, hg0⟩ := Option.isSome_iff_exists.mp h.top
  obtain ⟨r, hr⟩ := State.topJava?_eq_some.mp hg0
  have hr' : (({ U with heap := s₂.heap, slotsUsed := s₂.slotsUsed } : State).setVm s₂.vm).frames = .java g₀ :: r := hr
  rcases hq' with ⟨hqc, L, hfe, hL⟩ | ⟨q, rfl, E, ce, L, hx, hce, hcv, hcl, hW₂, hsm, hL⟩
  · obtain ⟨⟨v, rfl⟩, hW₂, e2, q2, q3, q4, q5, q6⟩ := id hfe
    have e3 : s₂ = ({ (U.calling g mk a).setFrames s₂.frames with heap := s₂.heap, slotsUsed := s₂.slotsUsed } : State).setVm s₂.vm := by
      have : s₂ = ({ s₂ with vm := (U.calling g mk a).vm } : State).setVm s₂.vm := rfl
      rw [e2] at this
      exact this
    obtain ⟨c₂, i₂, len₂, hc₂, hd₂, hf₂⟩ := hend
    have hW' : U.WarmedH s₂.vm := hW₂
    have hcc : c₂ = c := by
      have h1 : s₂.code? g.method = U.code? g.method := by
        rw [State.code?_eq, State.code?_eq, hW'.alike.method?]
      exact Option.some.inj (hc₂.symm.trans (h1.trans h.code))
    subst hcc
    have hlen : len₂ = len := by rw [hdg] at hd₂; cases hd₂; rfl
    subst hlen
    have hs₂ : s₂ = (({ U with heap := s₂.heap, slotsUsed := s₂.slotsUsed } : State).setVm s₂.vm).setTop { g with pc := g.pc + len₂, stack := v.toList ++ g.stack } := by
      refine e3.trans ?_
      rw [hf₂, State.calling_eq h.top, State.setFrames_setFrames, State.setTop_of_frames _ hr', hr]
      rfl
    have hsame : U.sameButNew ({ U with heap := s₂.heap, slotsUsed := s₂.slotsUsed } : State) L mc ms := by
      refine ⟨?_, q2, q3, q4, q5, q6⟩
      obtain ⟨t, ht, -⟩ := State.frames_cons hr
      show ({ U with heap := s₂.heap, slotsUsed := s₂.slotsUsed } : State) = { U.setFrames U.frames with heap := s₂.heap, slotsUsed := s₂.slotsUsed }
      rw [State.setFrames_self ht]
    subst hg
    refine Or.inl ⟨v, ⟨(({ U with heap := s₂.heap, slotsUsed := s₂.slotsUsed } : State).setVm s₂.vm), Ls ++ L, c0 + mc, s0 + ms⟩,
      ⟨X.admits, X.cas, X.clock, X.frames, X.room, X.hears, X.method, X.code, (X.here.setHeapUsed s₂.heap s₂.slotsUsed).setVm hW'.alike, X.tail, State.WarmedH.trans X.warmed hW', X.limits, X.bytes, X.same.trans (hsame.setVm s.vm)⟩,
      ⟨g, mk, s₂, L, rfl, rfl, hqc, rfl, hL, rfl, rfl⟩, ?_⟩
    show Steps p.tables e below _ ((({ U with heap := s₂.heap, slotsUsed := s₂.slotsUsed } : State).setVm s₂.vm).setTop { g with pc := g.pc + len₂, stack := v.toList ++ g.stack })
    rw [← hs₂]
    exact hsteps
  · obtain ⟨e2, q2, q3, q4, q5, q6⟩ := id hsm
    have e3 : s₂ = ({ (U.calling g mk a).setFrames s₂.frames with heap := s₂.heap, slotsUsed := s₂.slotsUsed } : State).setVm s₂.vm := by
      have : s₂ = ({ s₂ with vm := (U.calling g mk a).vm } : State).setVm s₂.vm := rfl
      rw [e2] at this
      exact this
    have hf₂ : s₂.frames = .throwing q :: .java g :: U.frames.tail := hend
    have hW' : U.WarmedH s₂.vm := hW₂
    have hs₂ : s₂ = ((({ U with heap := s₂.heap, slotsUsed := s₂.slotsUsed } : State).setVm s₂.vm).setTop g).pushFrame (.throwing q) := by
      refine e3.trans ?_
      rw [hf₂, State.calling_eq h.top, State.setFrames_setFrames, State.pushFrame, State.frames_setTop _ hr', State.setTop_of_frames _ hr', State.setFrames_setFrames, hr]
      rfl
    have hsame : U.sameButNew ({ U with heap := s₂.heap, slotsUsed := s₂.slotsUsed } : State) L mc ms := by
      refine ⟨?_, q2, q3, q4, q5, q6⟩
      obtain ⟨t, ht, -⟩ := State.frames_cons hr
      show ({ U with heap := s₂.heap, slotsUsed := s₂.slotsUsed } : State) = { U.setFrames U.frames with heap := s₂.heap, slotsUsed := s₂.slotsUsed }
      rw [State.setFrames_self ht]
    subst hg
    refine Or.inr ⟨q, ⟨(({ U with heap := s₂.heap, slotsUsed := s₂.slotsUsed } : State).setVm s₂.vm), Ls ++ L, c0 + mc, s0 + ms⟩,
      ⟨X.admits, X.cas, X.clock, X.frames, X.room, X.hears, X.method, X.code, (X.here.setHeapUsed s₂.heap s₂.slotsUsed).setVm hW'.alike, X.tail, State.WarmedH.trans X.warmed hW', X.limits, X.bytes, X.same.trans (hsame.setVm s.vm)⟩,
      ⟨g, mk, s₂, L, E, ce, rfl, rfl, hx, hce, hcv, hcl, rfl, hL, rfl, rfl⟩, ?_⟩
    show Steps p.tables e below _ (((({ U with heap := s₂.heap, slotsUsed := s₂.slotsUsed } : State).setVm s₂.vm).setTop g).pushFrame (.throwing q))
    rw [← hs₂]
    exact hsteps
end
variable {p : Program} {l : Launch} {e : Env} {R : Room} {s : State} {m : MethodId} {args : Array Value} {below : List Frame} {meth : Method} {c : Code} {T : State} {H : Heap} {locs : List Loc} {cells slots : Nat}
theorem vx_callVX (X : Stand p l e R s m args below meth c T locs cells slots) (hexec : p.tables.exec = Jvm.exec) {own C : String} {index : Nat} {y : MethodName} {bytes : ByteArray} {maxL : Nat} {ret : Option FieldType} {hh : List (Nat × Nat × Nat × Nat)}
    (hown : s.vm.findClass own = some m.cls) (hlink : (Cond.methodLink own index y).before args s = true) (hinst : (Cond.instanceMethod y).before args s = true) (hsel : (Cond.selects C y y).before args s = true)
    (hcode : (Cond.codeWith y bytes maxL ret hh).before args s = true) (hy : y.cls ≠ "java/lang/invoke/MethodHandle" ∧ y.cls ≠ "java/lang/invoke/VarHandle")
    {W9 : Nat} {Pre : Pt → Array Value → Prop} {Post : Pt → Array Value → Option Value → Pt → Prop} {PostX : Pt → Array Value → Addr → Pt → Prop} (hK : vx_Back l R p e below s args y 3 W9 Pre Post PostX)
    {b : Addr} {cellB : Cell} (hcell : T.heap[b]? = some cellB) (hobj : cellB.vm.isStatics = false) (hcls : s.vm.findClass C = some cellB.cls)
    {g : JFrame} (hg : g.method = m) (hsize : g.locals.size = c.maxLocals) {argsL rest : List Value} (hlen : ∀ sig, parseMethodDescriptor y.desc = some sig → argsL.length = sig.parameters.length)
    (hstack : g.stack = argsL.reverse ++ .ref b :: rest) (hW : 2 * g.monitorRoom + (rest.map fun v => v.category).sum ≤ W9) (hdg : decode c.code g.pc = .ok (.invokevirtual index, 3))
    (hpre : ∀ vm₁, s.WarmedH vm₁ → Pre ⟨T.setVm vm₁, locs, cells, slots⟩ (Value.ref b :: argsL).toArray) :
    (∃ (v : Option Value) (vm₁ : Vm) (B : Pt), s.WarmedH vm₁ ∧ Stand p l e R s m args below meth c B.U B.locs B.cells B.slots ∧ Post ⟨T.setVm vm₁, locs, cells, slots⟩ (Value.ref b :: argsL).toArray v B ∧
      ∀ target, Steps p.tables e below (B.U.setTop { g with pc := g.pc + 3, stack := v.toList ++ rest }) target → Steps p.tables e below (T.setTop g) target) ∨
    (∃ (q : Addr) (vm₁ : Vm) (B : Pt), s.WarmedH vm₁ ∧ Stand p l e R s m args below meth c B.U B.locs B.cells B.slots ∧ PostX ⟨T.setVm vm₁, locs, cells, slots⟩ (Value.ref b :: argsL).toArray q B ∧
      Steps p.tables e below (T.setTop g) ((B.U.setTop { g with stack := rest }).pushFrame (.throwing q))) := by
  obtain ⟨mk, methM, hnamed, hmethM, hstM, habM⟩ := Cond.instanceMethod_spec hinst
  obtain ⟨m8, methM', cM, hn8, hmethM', -, -, -, -, -, -, hsigM⟩ := Cond.codeWith_spec hcode
  cases Option.some.inj (hn8.symm.trans hnamed)
  cases hmethM.symm.trans hmethM'
  obtain ⟨c2, r2, m2, q1, q2, q3, q4, kP, hkP, hkPi⟩ := Cond.selects_spec hsel
  cases hcls.symm.trans q1
  cases (State.methodFound?_of_named hnamed hy).symm.trans q2
  cases hnamed.symm.trans q3
  have hselP : selectMethod e.platform s.vm cellB.cls mk = .method mk := by rw [Launch.admits_selectMethod X.admits]; exact q4
  obtain ⟨vm₁, X₁, hstep₁⟩ := X.invokevirtual hexec hown hlink hnamed hmethM hstM hkP hkPi hy (a := b) (cell := cellB) hcell
    (fun z h => by rw [h] at hobj; cases hobj) hselP hmethM habM hkP hkPi (g := g) hg (argsL := argsL) (rest := rest) (hlen _ hsigM) hstack hdg
  rcases hK m meth c ⟨T.setVm vm₁, locs, cells, slots⟩ { g with stack := rest } (.invokevirtual index) mk (Value.ref b :: argsL).toArray X₁ hg hsize hdg hW (X₁.named hnamed) (hpre vm₁ X₁.warmed) with ⟨v, B, X', hpost, hsteps⟩ | ⟨q, B, X', hpost, hsteps⟩
  · exact Or.inl ⟨v, vm₁, B, X₁.warmed, X', hpost, fun target h => hstep₁ _ fun acts => by rw [doInvoke_state]; exact hsteps.trans h⟩
  · exact Or.inr ⟨q, vm₁, B, X₁.warmed, X', hpost, hstep₁ _ fun acts => by rw [doInvoke_state]; exact hsteps⟩
theorem vx_callSX (X : Stand p l e R s m args below meth c T locs cells slots) (hexec : p.tables.exec = Jvm.exec) {own : String} {index : Nat} {y : MethodName} {bytes : ByteArray} {maxL : Nat} {ret : Option FieldType} {hh : List (Nat × Nat × Nat × Nat)}
    (hown : s.vm.findClass own = some m.cls) (hlink : (Cond.methodLink own index y).before args s = true) (hstat : (Cond.static y).before args s = true) (hinit : (Cond.initialized y.cls).before args s = true)
    (hcode : (Cond.codeWith y bytes maxL ret hh).before args s = true) (hy : y.cls ≠ "java/lang/invoke/MethodHandle" ∧ y.cls ≠ "java/lang/invoke/VarHandle")
    {W9 : Nat} {Pre : Pt → Array Value → Prop} {Post : Pt → Array Value → Option Value → Pt → Prop} {PostX : Pt → Array Value → Addr → Pt → Prop} (hK : vx_Back l R p e below s args y 3 W9 Pre Post PostX)
    {g : JFrame} (hg : g.method = m) (hsize : g.locals.size = c.maxLocals) {argsL rest : List Value} (hlen : ∀ sig, parseMethodDescriptor y.desc = some sig → argsL.length = sig.parameters.length)
    (hstack : g.stack = argsL.reverse ++ rest) (hW : 2 * g.monitorRoom + (rest.map fun v => v.category).sum ≤ W9) (hdg : decode c.code g.pc = .ok (.invokestatic index, 3))
    (hpre : ∀ vm₁, s.WarmedH vm₁ → Pre ⟨T.setVm vm₁, locs, cells, slots⟩ argsL.toArray) :
    (∃ (v : Option Value) (vm₁ : Vm) (B : Pt), s.WarmedH vm₁ ∧ Stand p l e R s m args below meth c B.U B.locs B.cells B.slots ∧ Post ⟨T.setVm vm₁, locs, cells, slots⟩ argsL.toArray v B ∧
      ∀ target, Steps p.tables e below (B.U.setTop { g with pc := g.pc + 3, stack := v.toList ++ rest }) target → Steps p.tables e below (T.setTop g) target) ∨
    (∃ (q : Addr) (vm₁ : Vm) (B : Pt), s.WarmedH vm₁ ∧ Stand p l e R s m args below meth c B.U B.locs B.cells B.slots ∧ PostX ⟨T.setVm vm₁, locs, cells, slots⟩ argsL.toArray q B ∧
      Steps p.tables e below (T.setTop g) ((B.U.setTop { g with stack := rest }).pushFrame (.throwing q))) := by
  obtain ⟨mk, methM, cM, hnamed, hmethM, -, -, -, -, -, -, hsigM⟩ := Cond.codeWith_spec hcode
  have hstatic : methM.isStatic = true := Cond.static_spec hnamed hmethM hstat
  obtain ⟨kP, hkP, -⟩ := className_of_methodNamed hnamed
  have hinitP : kP.init = .initialized := Cond.initialized_spec (findClass_of_methodNamed hnamed) hkP hinit
  obtain ⟨vm₁, X₁, hstep₁⟩ := X.invokestatic hexec hown hlink hnamed hmethM hstatic hkP hinitP hy (g := g) hg (argsL := argsL) (rest := rest) (hlen _ hsigM) hstack hdg
  rcases hK m meth c ⟨T.setVm vm₁, locs, cells, slots⟩ { g with stack := rest } (.invokestatic index) mk argsL.toArray X₁ hg hsize hdg hW (X₁.named hnamed) (hpre vm₁ X₁.warmed) with ⟨v, B, X', hpost, hsteps⟩ | ⟨q, B, X', hpost, hsteps⟩
  · exact Or.inl ⟨v, vm₁, B, X₁.warmed, X', hpost, fun target h => hstep₁ _ fun acts => by rw [doInvoke_state]; exact hsteps.trans h⟩
  · exact Or.inr ⟨q, vm₁, B, X₁.warmed, X', hpost, hstep₁ _ fun acts => by rw [doInvoke_state]; exact hsteps⟩
theorem vx_callVW (X : Stand p l e R s m args below meth c T locs cells slots) (hexec : p.tables.exec = Jvm.exec) {own C : String} {index : Nat} {y : MethodName} {bytes : ByteArray} {maxL : Nat} {ret : Option FieldType} {hh : List (Nat × Nat × Nat × Nat)}
    (hown : s.vm.findClass own = some m.cls) (hlink : (Cond.methodLink own index y).before args s = true) (hinst : (Cond.instanceMethod y).before args s = true) (hsel : (Cond.selects C y y).before args s = true)
    (hcode : (Cond.codeWith y bytes maxL ret hh).before args s = true) (hy : y.cls ≠ "java/lang/invoke/MethodHandle" ∧ y.cls ≠ "java/lang/invoke/VarHandle")
    {W9 : Nat} {Pre : Pt → Array Value → Prop} {Post : Pt → Array Value → Option Value → Pt → Prop} (hK : Back l R p e below s args y 3 W9 Pre Post)
    {b : Addr} {cellB : Cell} (hcell : T.heap[b]? = some cellB) (hobj : cellB.vm.isStatics = false) (hcls : s.vm.findClass C = some cellB.cls)
    {g : JFrame} (hg : g.method = m) (hsize : g.locals.size = c.maxLocals) {argsL rest : List Value} (hlen : ∀ sig, parseMethodDescriptor y.desc = some sig → argsL.length = sig.parameters.length)
    (hstack : g.stack = argsL.reverse ++ .ref b :: rest) (hW : 2 * g.monitorRoom + (rest.map fun v => v.category).sum ≤ W9) (hdg : decode c.code g.pc = .ok (.invokevirtual index, 3))
    (hpre : ∀ vm₁, s.WarmedH vm₁ → Pre ⟨T.setVm vm₁, locs, cells, slots⟩ (Value.ref b :: argsL).toArray) :
    ∃ (v : Option Value) (vm₁ : Vm) (B : Pt), s.WarmedH vm₁ ∧ Stand p l e R s m args below meth c B.U B.locs B.cells B.slots ∧ Post ⟨T.setVm vm₁, locs, cells, slots⟩ (Value.ref b :: argsL).toArray v B ∧
      ∀ target, Steps p.tables e below (B.U.setTop { g with pc := g.pc + 3, stack := v.toList ++ rest }) target → Steps p.tables e below (T.setTop g) target := by
  obtain ⟨mk, methM, hnamed, hmethM, hstM, habM⟩ := Cond.instanceMethod_spec hinst
  obtain ⟨m8, methM', cM, hn8, hmethM', -, -, -, -, -, -, hsigM⟩ := Cond.codeWith_spec hcode
  cases Option.some.inj (hn8.symm.trans hnamed)
  cases hmethM.symm.trans hmethM'
  obtain ⟨c2, r2, m2, q1, q2, q3, q4, kP, hkP, hkPi⟩ := Cond.selects_spec hsel
  cases hcls.symm.trans q1
  cases (State.methodFound?_of_named hnamed hy).symm.trans q2
  cases hnamed.symm.trans q3
  have hselP : selectMethod e.platform s.vm cellB.cls mk = .method mk := by rw [Launch.admits_selectMethod X.admits]; exact q4
  obtain ⟨vm₁, X₁, hstep₁⟩ := X.invokevirtual hexec hown hlink hnamed hmethM hstM hkP hkPi hy (a := b) (cell := cellB) hcell
    (fun z h => by rw [h] at hobj; cases hobj) hselP hmethM habM hkP hkPi (g := g) hg (argsL := argsL) (rest := rest) (hlen _ hsigM) hstack hdg
  obtain ⟨v, B, X', hpost, hsteps⟩ := hK m meth c ⟨T.setVm vm₁, locs, cells, slots⟩ { g with stack := rest } (.invokevirtual index) mk (Value.ref b :: argsL).toArray X₁ hg hsize hdg hW (X₁.named hnamed) (hpre vm₁ X₁.warmed)
  exact ⟨v, vm₁, B, X₁.warmed, X', hpost, fun target h => hstep₁ _ fun acts => by rw [doInvoke_state]; exact hsteps.trans h⟩
abbrev vx_CVW (R : Room) (s : State) (args : Array Value) (own C : String) (index : Nat) (y : MethodName) (bytes : ByteArray) (maxL : Nat) (ret : Option FieldType) (hh : List (Nat × Nat × Nat × Nat)) (ws : List Cond) (rm : Room) (mc ms n : Nat) : Prop :=
  (rm.cells = mc ∧ rm.slots = ms ∧ rm.frames + 1 ≤ R.frames ∧ 8 + (maxL + 11) + rm.locals ≤ R.locals ∧ (∀ w ∈ ws, ∀ (a' : Array Value) (U : State), s.WarmedH U.vm → w.before a' U = true) ∧ Cond.codeWith y bytes maxL ret hh ∈ ws) ∧
  (Cond.codeWith y bytes maxL ret hh).before args s = true ∧ (Cond.initialized y.cls).before args s = true ∧ (y.cls ≠ "java/lang/invoke/MethodHandle" ∧ y.cls ≠ "java/lang/invoke/VarHandle") ∧
  (∀ sig, parseMethodDescriptor y.desc = some sig → n = sig.parameters.length) ∧ (Cond.methodLink own index y).before args s = true ∧ (Cond.instanceMethod y).before args s = true ∧ (Cond.selects C y y).before args s = true
theorem vx_cwVW {own C : String} {index maxL mc ms : Nat} {y : MethodName} {bytes : ByteArray} {ret : Option FieldType} {hh : List (Nat × Nat × Nat × Nat)} {Ts ws ws' : List Cond} {rm : Room} (n : Nat) (ht : ∀ w ∈ Ts, w.before args s = true) (hT : GoodIn Ts (wsV own index C y ws)) (hw : ws = Cond.codeWith y bytes maxL ret hh :: ws') (hrc : rm.cells = mc) (hrs : rm.slots = ms)
    (hd : y.cls = C ∧ y.cls ≠ "java/lang/invoke/MethodHandle" ∧ y.cls ≠ "java/lang/invoke/VarHandle" ∧ (parseMethodDescriptor y.desc).map (fun d => d.parameters.length) = some n) (hR : rm.frames + 1 ≤ R.frames ∧ 8 + (maxL + 11) + rm.locals ≤ R.locals) :
    vx_CVW R s args own C index y bytes maxL ret hh ws rm mc ms n := by
  obtain ⟨hC, hd⟩ := hd
  subst hC
  have ok : ∀ w ∈ wsV own index y.cls y ws, w.before args s = true := fun w h => ht w (hT w h).1
  have hG : GoodIn Ts ws := fun w h => hT w (by unfold wsV; exact List.mem_append_right _ h)
  have hc : Cond.codeWith y bytes maxL ret hh ∈ ws := by rw [hw]; exact List.mem_cons_self
  refine ⟨⟨hrc, hrs, hR.1, hR.2, pay_in ht hG, hc⟩, ht _ (hG _ hc).1, ok _ (by simp [wsV]), ⟨hd.1, hd.2.1⟩, fun sig h => ?_, ok _ (by simp [wsV]), ok _ (by simp [wsV]), ok _ (by simp [wsV])⟩
  have h2 := hd.2.2
  rw [h] at h2
  exact (Option.some.inj h2).symm
theorem vx_runVW {y : MethodName} {bytes cc : ByteArray} {maxL nL mc ms n index : Nat} {ret : Option FieldType} {hh : List (Nat × Nat × Nat × Nat)} {ws : List Cond} {rm : Room} {Pc : Array Value → State → Prop} {Qc : Array Value → State → Outcome → State → Prop} {free : Addr → Prop} {Ts : List Cond} {own C : String} {b : Addr} {As rest : List Value} {g : JFrame}
    (S : CallFix p m c cc nL s args Ts own) (hM : Met l y ws rm Pc Qc mc ms free) (cw : vx_CVW R s args own C index y bytes maxL ret hh ws rm mc ms n) (hp : PreV s H C b Pc As)
    (hg : g.method = m) (hn : As.length = n) (hsize : g.locals.size = nL) (hstack : g.stack = As.reverse ++ .ref b :: rest) (hW : 2 * g.monitorRoom + (rest.map fun v => v.category).sum ≤ 8) (hdg : decode cc g.pc = .ok (.invokevirtual index, 3)) (hf : cells + mc ≤ R.cells ∧ slots + ms ≤ R.slots) :
    va_Run p l e R s m args below meth c H locs cells slots mc ms g rest (Qc (Value.ref b :: As).toArray) free := by
  obtain ⟨⟨hrc, hrs, hfr, hlo, hws, hcw⟩, hcode, hini, hy, hlen, hl, hin, hse⟩ := cw
  have hK : Back l R p e below s args y 3 8 (PreOf R mc ms Pc) (PostOf Qc mc ms free) := va_backW (hh := hh) (bytes := bytes) (maxL := maxL) (ret := ret) hM hp.1 hrc hrs hfr hlo hws hcw (fun a' U hW => word_at hW (Or.inl (by first | rfl | simp [Cond.onTables, Cond.keeps, Cond.steady])) hini)
  obtain ⟨hx, hb, hml, ho, -⟩ := S
  obtain ⟨-, ⟨cellB, hcB, hoB, hclB⟩, hPc⟩ := hp
  intro T hT X
  obtain ⟨v, vm₁, ⟨U', l2, c2, s2⟩, hW₁, X', ⟨g', mk, t, L, e1, e2, hq, h1, hL, h2, h3⟩, st⟩ := vx_callVW X hx (C := C) (hh := hh) (bytes := bytes) (maxL := maxL) (ret := ret) ho hl hin hse hcode hy hK (by rw [hT]; exact hcB) hoB hclB hg (hsize.trans hml.symm) (argsL := As) (rest := rest) (fun sig h => hn.trans (hlen sig h)) hstack hW (by rw [hb]; exact hdg)
    (fun vm₁ hW₁ => ⟨hf.1, hf.2, hPc (T.setVm vm₁) hT hW₁⟩)
  dsimp only [Pt.U, Pt.locs, Pt.cells, Pt.slots] at X' e1 e2 h1 h2 h3 st
  subst h1; subst h2; subst h3
  exact ⟨v, (T.setVm vm₁).calling g' mk (Value.ref b :: As).toArray, t, U', L, hT, X', hL, e1, e2, hq, st⟩
section
variable {y : MethodName} {bytes cc : ByteArray} {maxL nL mc ms n index : Nat} {ret : Option FieldType} {ws : List Cond} {rm : Room} {Pc : Array Value → State → Prop} {Qc : Array Value → State → Outcome → State → Prop} {XC : String → State → State → Prop} {free : Addr → Prop} {Ts : List Cond} {own C : String} {b : Addr} {As rest : List Value} {g : JFrame}
theorem vx_runVX {hh : List (Nat × Nat × Nat × Nat)} (S : CallFix p m c cc nL s args Ts own) (hM : vx_Met l y ws rm Pc Qc XC mc ms free) (cw : vx_CVW R s args own C index y bytes maxL ret hh ws rm mc ms n) (hp : PreV s H C b Pc As)
    (hg : g.method = m) (hn : As.length = n) (hsize : g.locals.size = nL) (hstack : g.stack = As.reverse ++ .ref b :: rest) (hW : 2 * g.monitorRoom + (rest.map fun v => v.category).sum ≤ 8) (hdg : decode cc g.pc = .ok (.invokevirtual index, 3)) (hf : cells + mc ≤ R.cells ∧ slots + ms ≤ R.slots) :
    vx_Run p l e R s m args below meth c H locs cells slots mc ms g rest (Qc (Value.ref b :: As).toArray) XC free := by
  obtain ⟨⟨hrc, hrs, hfr, hlo, hws, hcw⟩, hcode, hini, hy, hlen, hl, hin, hse⟩ := cw
  have hK : vx_Back l R p e below s args y 3 8 (PreOf R mc ms Pc) (PostOf Qc mc ms free) (vx_Post XC mc ms free) := vx_backW (hh := hh) (bytes := bytes) (maxL := maxL) (ret := ret) hM hp.1 hrc hrs hfr hlo hws hcw (fun a' U hW => word_at hW (Or.inl (by first | rfl | simp [Cond.onTables, Cond.keeps, Cond.steady])) hini)
  obtain ⟨hx, hb, hml, ho, -⟩ := S
  obtain ⟨-, ⟨cellB, hcB, hoB, hclB⟩, hPc⟩ := hp
  intro T hT X
  rcases vx_callVX X hx (C := C) (hh := hh) (bytes := bytes) (maxL := maxL) (ret := ret) ho hl hin hse hcode hy hK (by rw [hT]; exact hcB) hoB hclB hg (hsize.trans hml.symm) (argsL := As) (rest := rest) (fun sig h => hn.trans (hlen sig h)) hstack hW (by rw [hb]; exact hdg)
    (fun vm₁ hW₁ => ⟨hf.1, hf.2, hPc (T.setVm vm₁) hT hW₁⟩) with ⟨v, vm₁, ⟨U', l2, c2, s2⟩, hW₁, X', ⟨g', mk, t, L, e1, e2, hq, h1, hL, h2, h3⟩, st⟩ | ⟨q, vm₁, ⟨U', l2, c2, s2⟩, hW₁, X', ⟨g', mk, t, L, E, ce, e1, e2, hq, hce, hcv, hcl, h1, hL, h2, h3⟩, st⟩
  · dsimp only [Pt.U, Pt.locs, Pt.cells, Pt.slots] at X' e1 e2 h1 h2 h3 st
    subst h1; subst h2; subst h3
    exact Or.inl ⟨v, (T.setVm vm₁).calling g' mk (Value.ref b :: As).toArray, t, U', L, hT, X', hL, e1, e2, hq, st⟩
  · dsimp only [Pt.U, Pt.locs, Pt.cells, Pt.slots] at X' e1 e2 h1 h2 h3 st hcl
    subst h1; subst h2; subst h3
    exact Or.inr ⟨q, (T.setVm vm₁).calling g' mk (Value.ref b :: As).toArray, t, U', L, E, ce, hT, X', hL, e1, e2, hq, hce, hcv, vx_cls hW₁ hcl, st⟩
theorem vx_runSX {hh : List (Nat × Nat × Nat × Nat)} (S : CallFix p m c cc nL s args Ts own) (hM : vx_Met l y ws rm Pc Qc XC mc ms free) (cw : vx_CSW R s args own index y bytes maxL ret hh ws rm mc ms n) (hp : PreS s H Pc As)
    (hg : g.method = m) (hn : As.length = n) (hsize : g.locals.size = nL) (hstack : g.stack = As.reverse ++ rest) (hW : 2 * g.monitorRoom + (rest.map fun v => v.category).sum ≤ 8) (hdg : decode cc g.pc = .ok (.invokestatic index, 3)) (hf : cells + mc ≤ R.cells ∧ slots + ms ≤ R.slots) :
    vx_Run p l e R s m args below meth c H locs cells slots mc ms g rest (Qc As.toArray) XC free := by
  obtain ⟨⟨hrc, hrs, hfr, hlo, hws, hcw⟩, hcode, hini, hy, hlen, hl, hstt⟩ := cw
  have hK : vx_Back l R p e below s args y 3 8 (PreOf R mc ms Pc) (PostOf Qc mc ms free) (vx_Post XC mc ms free) := vx_backW (hh := hh) (bytes := bytes) (maxL := maxL) (ret := ret) hM hp.1 hrc hrs hfr hlo hws hcw (fun a' U hW => word_at hW (Or.inl (by first | rfl | simp [Cond.onTables, Cond.keeps, Cond.steady])) hini)
  obtain ⟨hx, hb, hml, ho, -⟩ := S
  intro T hT X
  rcases vx_callSX X hx (hh := hh) (bytes := bytes) (maxL := maxL) (ret := ret) ho hl hstt hini hcode hy hK hg (hsize.trans hml.symm) (argsL := As) (rest := rest) (fun sig h => hn.trans (hlen sig h)) hstack hW (by rw [hb]; exact hdg)
    (fun vm₁ hW₁ => ⟨hf.1, hf.2, hp.2 (T.setVm vm₁) hT hW₁⟩) with ⟨v, vm₁, ⟨U', l2, c2, s2⟩, hW₁, X', ⟨g', mk, t, L, e1, e2, hq, h1, hL, h2, h3⟩, st⟩ | ⟨q, vm₁, ⟨U', l2, c2, s2⟩, hW₁, X', ⟨g', mk, t, L, E, ce, e1, e2, hq, hce, hcv, hcl, h1, hL, h2, h3⟩, st⟩
  · dsimp only [Pt.U, Pt.locs, Pt.cells, Pt.slots] at X' e1 e2 h1 h2 h3 st
    subst h1; subst h2; subst h3
    exact Or.inl ⟨v, (T.setVm vm₁).calling g' mk As.toArray, t, U', L, hT, X', hL, e1, e2, hq, st⟩
  · dsimp only [Pt.U, Pt.locs, Pt.cells, Pt.slots] at X' e1 e2 h1 h2 h3 st hcl
    subst h1; subst h2; subst h3
    exact Or.inr ⟨q, (T.setVm vm₁).calling g' mk As.toArray, t, U', L, E, ce, hT, X', hL, e1, e2, hq, hce, hcv, vx_cls hW₁ hcl, st⟩
end
end VXH
theorem vx_ofWH {l : Launch} {y : MethodName} {ws ws' : List Cond} {rm : Room} {Pc : Array Value → State → Prop} {Qc : Array Value → State → Outcome → State → Prop} {XC : String → State → State → Prop} {mc ms : Nat} {free : Addr → Prop} {cc : ByteArray} {maxL : Nat} {ret : Option FieldType} {hh : List (Nat × Nat × Nat × Nat)}
    (hy : plainName y.cls = true) (hw : ws = Cond.codeWith y cc maxL ret hh :: ws')
    (body : ∀ p e s m args below meth c s₁, BodyLoose p l y (headSpec ws rm) cc maxL ret e s m args below meth c s₁ → c.maxLocals = maxL → Pc args s →
      W p l e (headSpec ws rm).room s m args below meth c s.heap [] 0 0 (vx_MQ below Qc XC args s mc ms free) (entryFrame m args maxL)) : vx_Met l y ws rm Pc Qc XC mc ms free := by
  refine MetFree.of_bodyS (code := cc) (maxLocals := maxL) (ret := ret) hy ?_ ?_
  · intro args s m h hn
    obtain ⟨m9, meth, c, hn9, h1, h2, h3, h4, -, h5, h6, -⟩ := Cond.codeWith_spec (atoms_spec (ws := ws) h _ (by rw [hw]; exact List.mem_cons_self))
    cases hn.symm.trans hn9
    exact ⟨meth, c, h1, h2, h3, h4, h5, h6⟩
  · intro p e s m args below meth c s₁ B hml hP _
    have hh0 : s₁.heap = s.heap := by rw [B.state]; rfl
    obtain ⟨t, a1, o, b1, b2, b3⟩ := body p e s m args below meth c s₁ B hml hP s₁ hh0 (Stand.of_body B)
    exact ⟨t, o, a1, b1, b2, b3⟩
/-! ===== END ===== -/

/-! ===== BEGIN printed: names, fields, word lists, decode rows ===== -/
def RX0 : String := "ColumnHall"
def TX0 : u_T := fun k => match k with
  | 0 => ("ColumnHall", "cells", "[J", true)
  | 1 => ("ColumnHall", "rowCount", "I", false)
  | 2 => ("ColumnHall", "conditionColumns", "[I", true)
  | 3 => ("ColumnHall", "conditionOps", "[I", true)
  | 4 => ("ColumnHall", "conditionValues", "[J", true)
  | 5 => ("ColumnHall", "conditionCount", "I", false)
  | 6 => ("ColumnHall", "leastCells", "[J", true)
  | 7 => ("ColumnHall", "greatestCells", "[J", true)
  | 8 => ("ColumnHall", "bestWays", "[I", true)
  | 9 => ("ColumnHall", "bestBits", "[I", true)
  | _ => ("ColumnHall", "picked", "[I", true)
def tyX0 : Nat → FieldType := fun k => match k with
  | 0 => .array .long
  | 1 => .int
  | 2 => .array .int
  | 3 => .array .int
  | 4 => .array .long
  | 5 => .int
  | 6 => .array .long
  | 7 => .array .long
  | 8 => .array .int
  | 9 => .array .int
  | _ => .array .int
abbrev wsX00 : List Cond := u_ws RX0 TX0 11
theorem nmX0 : ∀ a, a < 11 → ∀ b, b < 11 → a ≠ b → (TX0 a).2.1 ≠ (TX0 b).2.1 := by decide +kernel
theorem tyX0_ok : ∀ k, k < 11 → parseFieldDescriptor (TX0 k).2.2.1 = some (tyX0 k) := by decide +kernel
abbrev cX0_init : ByteArray := prog_1_method_1_code
def yX0_init : MethodName := ⟨RX0, "<init>", "()V"⟩
abbrev cX0_append : ByteArray := prog_1_method_2_code
def yX0_append : MethodName := ⟨RX0, "append", "(IIIJ)I"⟩
abbrev cX0_rows : ByteArray := prog_1_method_3_code
def yX0_rows : MethodName := ⟨RX0, "rows", "()I"⟩
abbrev cX0_all : ByteArray := prog_1_method_6_code
def yX0_all : MethodName := ⟨RX0, "all", "()I"⟩
abbrev cX0_chosen : ByteArray := prog_1_method_7_code
def yX0_chosen : MethodName := ⟨RX0, "chosen", "()I"⟩
abbrev cX0_blocks : ByteArray := prog_1_method_9_code
def yX0_blocks : MethodName := ⟨RX0, "blocks", "()I"⟩
abbrev cX0_purge : ByteArray := prog_1_method_18_code
def yX0_purge : MethodName := ⟨RX0, "purge", "()I"⟩
abbrev cX0_spot : ByteArray := prog_1_method_21_code
def yX0_spot : MethodName := ⟨RX0, "spot", "(II)I"⟩
abbrev cX0_place : ByteArray := prog_1_method_22_code
def yX0_place : MethodName := ⟨RX0, "place", "(II)I"⟩
abbrev cX0_fullBlocks : ByteArray := prog_1_method_23_code
def yX0_fullBlocks : MethodName := ⟨RX0, "fullBlocks", "()I"⟩
abbrev cX0_startedBlocks : ByteArray := prog_1_method_24_code
def yX0_startedBlocks : MethodName := ⟨RX0, "startedBlocks", "()I"⟩
abbrev cX0_moveRow : ByteArray := prog_1_method_25_code
def yX0_moveRow : MethodName := ⟨RX0, "moveRow", "(II)V"⟩
abbrev cX0_pick : ByteArray := prog_1_method_26_code
def yX0_pick : MethodName := ⟨RX0, "pick", "()I"⟩
abbrev cX0_pickFromBlock : ByteArray := prog_1_method_27_code
def yX0_pickFromBlock : MethodName := ⟨RX0, "pickFromBlock", "(II)I"⟩
abbrev cX0_isChosen : ByteArray := prog_1_method_28_code
def yX0_isChosen : MethodName := ⟨RX0, "isChosen", "(I)Z"⟩
abbrev cX0_isPassedOver : ByteArray := prog_1_method_29_code
def yX0_isPassedOver : MethodName := ⟨RX0, "isPassedOver", "(I)Z"⟩
abbrev cX0_couldHold : ByteArray := prog_1_method_30_code
def yX0_couldHold : MethodName := ⟨RX0, "couldHold", "(IJJJ)Z"⟩
abbrev cX0_packFullBlocks : ByteArray := prog_1_method_38_code
def yX0_packFullBlocks : MethodName := ⟨RX0, "packFullBlocks", "()V"⟩
abbrev cX0_packBlock : ByteArray := prog_1_method_39_code
def yX0_packBlock : MethodName := ⟨RX0, "packBlock", "(I)V"⟩
abbrev cX0_packColumn : ByteArray := prog_1_method_40_code
def yX0_packColumn : MethodName := ⟨RX0, "packColumn", "(II)V"⟩
abbrev cX0_offerWay : ByteArray := prog_1_method_41_code
def yX0_offerWay : MethodName := ⟨RX0, "offerWay", "(III)V"⟩
abbrev cX0_noteBounds : ByteArray := prog_1_method_42_code
def yX0_noteBounds : MethodName := ⟨RX0, "noteBounds", "(II)V"⟩
abbrev cX0_runsOfCells : ByteArray := prog_1_method_43_code
def yX0_runsOfCells : MethodName := ⟨RX0, "runsOfCells", "(I)I"⟩
abbrev cX0_differentCells : ByteArray := prog_1_method_44_code
def yX0_differentCells : MethodName := ⟨RX0, "differentCells", "(I)I"⟩
abbrev cX0_stoodBefore : ByteArray := prog_1_method_45_code
def yX0_stoodBefore : MethodName := ⟨RX0, "stoodBefore", "(II)Z"⟩
abbrev cX0_widthOf : ByteArray := prog_1_method_46_code
def yX0_widthOf : MethodName := ⟨RX0, "widthOf", "(J)I"⟩
def RX1 : String := "ColumnHallModel"
def TX1 : u_T := fun k => match k with
  | _ => ("", "", "", false)
def tyX1 : Nat → FieldType := fun k => match k with
  | _ => .int
abbrev wsX10 : List Cond := u_ws RX1 TX1 0
theorem nmX1 : ∀ a, a < 0 → ∀ b, b < 0 → a ≠ b → (TX1 a).2.1 ≠ (TX1 b).2.1 := by decide +kernel
theorem tyX1_ok : ∀ k, k < 0 → parseFieldDescriptor (TX1 k).2.2.1 = some (tyX1 k) := by decide +kernel
def RJ9 : String := "java/lang/Math"
def TJ9 : u_T := fun k => match k with
  | _ => ("", "", "", false)
def tyJ9 : Nat → FieldType := fun k => match k with
  | _ => .int
abbrev wsJ90 : List Cond := u_ws RJ9 TJ9 0
theorem nmJ9 : ∀ a, a < 0 → ∀ b, b < 0 → a ≠ b → (TJ9 a).2.1 ≠ (TJ9 b).2.1 := by decide +kernel
theorem tyJ9_ok : ∀ k, k < 0 → parseFieldDescriptor (TJ9 k).2.2.1 = some (tyJ9 k) := by decide +kernel
abbrev cJ9_max_f86c9 : ByteArray := prog_8_method_66_code
def yJ9_max_f86c9 : MethodName := ⟨RJ9, "max", "(JJ)J"⟩
abbrev cJ9_min_7cf53 : ByteArray := prog_8_method_69_code
def yJ9_min_7cf53 : MethodName := ⟨RJ9, "min", "(II)I"⟩
abbrev cJ9_min_f86c9 : ByteArray := prog_8_method_70_code
def yJ9_min_f86c9 : MethodName := ⟨RJ9, "min", "(JJ)J"⟩
def RJ0 : String := "java/lang/String"
def TJ0 : u_T := fun k => match k with
  | _ => ("", "", "", false)
def tyJ0 : Nat → FieldType := fun k => match k with
  | _ => .int
abbrev wsJ00 : List Cond := u_ws RJ0 TJ0 0
theorem nmJ0 : ∀ a, a < 0 → ∀ b, b < 0 → a ≠ b → (TJ0 a).2.1 ≠ (TJ0 b).2.1 := by decide +kernel
theorem tyJ0_ok : ∀ k, k < 0 → parseFieldDescriptor (TJ0 k).2.2.1 = some (tyJ0 k) := by decide +kernel
def RL : String := "ColumnHallLaw"
abbrev cL_append : ByteArray := method_3_code
def yL_append : MethodName := ⟨RL, "append", "(LColumnHall;IIIJ[J)I"⟩
abbrev cL_cell : ByteArray := method_4_code
def yL_cell : MethodName := ⟨RL, "cell", "(LColumnHall;II[J)I"⟩
abbrev cL_law : ByteArray := code
def yL_law : MethodName := ⟨RL, "law", "([I)Z"⟩
def wsX0_init : List Cond := .code yX0_init cX0_init 1 none :: ([.methodLink RX0 3 objectInit, .instanceMethod objectInit, .code objectInit ⟨#[0xb1]⟩ 1 none, .arrayClass .long, .fieldLink RX0 9 "ColumnHall" "cells" "[J", .fieldLink RX0 13 "ColumnHall" "rowCount" "I", .arrayClass .int, .fieldLink RX0 17 "ColumnHall" "conditionColumns" "[I", .fieldLink RX0 21 "ColumnHall" "conditionOps" "[I", .fieldLink RX0 24 "ColumnHall" "conditionValues" "[J", .fieldLink RX0 27 "ColumnHall" "conditionCount" "I", .fieldLink RX0 30 "ColumnHall" "leastCells" "[J", .fieldLink RX0 33 "ColumnHall" "greatestCells" "[J", .fieldLink RX0 36 "ColumnHall" "bestWays" "[I", .fieldLink RX0 39 "ColumnHall" "bestBits" "[I", .fieldLink RX0 42 "ColumnHall" "picked" "[I"] ++ wsX00)
def wsX0_spot : List Cond := .code yX0_spot cX0_spot 2 (some .int) :: ([])
def wsX0_place : List Cond := .code yX0_place cX0_place 2 (some .int) :: ([])
def wsX0_noteBounds : List Cond := .code yX0_noteBounds cX0_noteBounds 8 none :: ([.fieldLink RX0 9 "ColumnHall" "cells" "[J", .methodLink RX0 180 Lib.MathLoose.min_long.x, .static Lib.MathLoose.min_long.x, .initialized "java/lang/Math", .code Lib.MathLoose.min_long.x Lib.MathLoose.min_long.code 4 (some .long), .methodLink RX0 183 Lib.MathLoose.max_long.x, .static Lib.MathLoose.max_long.x, .code Lib.MathLoose.max_long.x Lib.MathLoose.max_long.code 4 (some .long), .fieldLink RX0 30 "ColumnHall" "leastCells" "[J", .fieldLink RX0 33 "ColumnHall" "greatestCells" "[J"] ++ wsX00)
def wsX0_stoodBefore : List Cond := .code yX0_stoodBefore cX0_stoodBefore 4 (some .boolean) :: ([.fieldLink RX0 9 "ColumnHall" "cells" "[J"] ++ wsX00)
def wsX0_differentCells : List Cond := .code yX0_differentCells cX0_differentCells 4 (some .int) :: ([.methodLink RX0 186 yX0_stoodBefore, .instanceMethod yX0_stoodBefore, .selects RX0 yX0_stoodBefore yX0_stoodBefore, .initialized RX0, .code yX0_stoodBefore cX0_stoodBefore 4 (some .boolean), .fieldLink RX0 9 "ColumnHall" "cells" "[J"] ++ wsX00)
def wsX0_widthOf : List Cond := .code yX0_widthOf cX0_widthOf 3 (some .int) :: ([])
def wsX0_runsOfCells : List Cond := .code yX0_runsOfCells cX0_runsOfCells 4 (some .int) :: ([.fieldLink RX0 9 "ColumnHall" "cells" "[J"] ++ wsX00)
def wsX0_offerWay : List Cond := .code yX0_offerWay cX0_offerWay 4 none :: ([.fieldLink RX0 39 "ColumnHall" "bestBits" "[I", .fieldLink RX0 36 "ColumnHall" "bestWays" "[I"] ++ wsX00)
def wsX0_packColumn_r1 : List Cond := [Cond.fieldLink RX0 33 "ColumnHall" "greatestCells" "[J", Cond.fieldLink RX0 30 "ColumnHall" "leastCells" "[J", Cond.fieldLink RX0 36 "ColumnHall" "bestWays" "[I", Cond.fieldLink RX0 39 "ColumnHall" "bestBits" "[I", Cond.methodLink RX0 52 yX0_spot, Cond.static yX0_spot, Cond.initialized RX0, Cond.code yX0_spot cX0_spot 2 (some .int), Cond.methodLink RX0 123 yX0_place, Cond.static yX0_place, Cond.code yX0_place cX0_place 2 (some .int), Cond.methodLink RX0 162 yX0_noteBounds, Cond.instanceMethod yX0_noteBounds, Cond.selects RX0 yX0_noteBounds yX0_noteBounds, Cond.code yX0_noteBounds cX0_noteBounds 8 none, Cond.fieldLink RX0 9 "ColumnHall" "cells" "[J", Cond.methodLink RX0 180 Lib.MathLoose.min_long.x, Cond.static Lib.MathLoose.min_long.x, Cond.initialized "java/lang/Math", Cond.code Lib.MathLoose.min_long.x Lib.MathLoose.min_long.code 4 (some .long), Cond.methodLink RX0 183 Lib.MathLoose.max_long.x, Cond.static Lib.MathLoose.max_long.x, Cond.code Lib.MathLoose.max_long.x Lib.MathLoose.max_long.code 4 (some .long), Cond.methodLink RX0 165 yX0_differentCells]
def wsX0_packColumn_r2 : List Cond := [Cond.instanceMethod yX0_differentCells, Cond.selects RX0 yX0_differentCells yX0_differentCells, Cond.code yX0_differentCells cX0_differentCells 4 (some .int), Cond.methodLink RX0 186 yX0_stoodBefore, Cond.instanceMethod yX0_stoodBefore, Cond.selects RX0 yX0_stoodBefore yX0_stoodBefore, Cond.code yX0_stoodBefore cX0_stoodBefore 4 (some .boolean), Cond.methodLink RX0 169 yX0_widthOf, Cond.static yX0_widthOf, Cond.code yX0_widthOf cX0_widthOf 3 (some .int), Cond.methodLink RX0 173 yX0_runsOfCells, Cond.instanceMethod yX0_runsOfCells, Cond.selects RX0 yX0_runsOfCells yX0_runsOfCells, Cond.code yX0_runsOfCells cX0_runsOfCells 4 (some .int), Cond.methodLink RX0 176 yX0_offerWay, Cond.instanceMethod yX0_offerWay, Cond.selects RX0 yX0_offerWay yX0_offerWay, Cond.code yX0_offerWay cX0_offerWay 4 none]
def wsX0_packColumn : List Cond := .code yX0_packColumn cX0_packColumn 8 none :: ((wsX0_packColumn_r1 ++ wsX0_packColumn_r2) ++ wsX00)
def wsX0_packBlock_r1 : List Cond := [Cond.methodLink RX0 159 yX0_packColumn, Cond.instanceMethod yX0_packColumn, Cond.selects RX0 yX0_packColumn yX0_packColumn, Cond.initialized RX0, Cond.code yX0_packColumn cX0_packColumn 8 none, Cond.fieldLink RX0 33 "ColumnHall" "greatestCells" "[J", Cond.fieldLink RX0 30 "ColumnHall" "leastCells" "[J", Cond.fieldLink RX0 36 "ColumnHall" "bestWays" "[I", Cond.fieldLink RX0 39 "ColumnHall" "bestBits" "[I", Cond.methodLink RX0 52 yX0_spot, Cond.static yX0_spot, Cond.code yX0_spot cX0_spot 2 (some .int), Cond.methodLink RX0 123 yX0_place, Cond.static yX0_place, Cond.code yX0_place cX0_place 2 (some .int), Cond.methodLink RX0 162 yX0_noteBounds, Cond.instanceMethod yX0_noteBounds, Cond.selects RX0 yX0_noteBounds yX0_noteBounds, Cond.code yX0_noteBounds cX0_noteBounds 8 none, Cond.fieldLink RX0 9 "ColumnHall" "cells" "[J", Cond.methodLink RX0 180 Lib.MathLoose.min_long.x, Cond.static Lib.MathLoose.min_long.x, Cond.initialized "java/lang/Math", Cond.code Lib.MathLoose.min_long.x Lib.MathLoose.min_long.code 4 (some .long)]
def wsX0_packBlock_r2 : List Cond := [Cond.methodLink RX0 183 Lib.MathLoose.max_long.x, Cond.static Lib.MathLoose.max_long.x, Cond.code Lib.MathLoose.max_long.x Lib.MathLoose.max_long.code 4 (some .long), Cond.methodLink RX0 165 yX0_differentCells, Cond.instanceMethod yX0_differentCells, Cond.selects RX0 yX0_differentCells yX0_differentCells, Cond.code yX0_differentCells cX0_differentCells 4 (some .int), Cond.methodLink RX0 186 yX0_stoodBefore, Cond.instanceMethod yX0_stoodBefore, Cond.selects RX0 yX0_stoodBefore yX0_stoodBefore, Cond.code yX0_stoodBefore cX0_stoodBefore 4 (some .boolean), Cond.methodLink RX0 169 yX0_widthOf, Cond.static yX0_widthOf, Cond.code yX0_widthOf cX0_widthOf 3 (some .int), Cond.methodLink RX0 173 yX0_runsOfCells, Cond.instanceMethod yX0_runsOfCells, Cond.selects RX0 yX0_runsOfCells yX0_runsOfCells, Cond.code yX0_runsOfCells cX0_runsOfCells 4 (some .int), Cond.methodLink RX0 176 yX0_offerWay, Cond.instanceMethod yX0_offerWay, Cond.selects RX0 yX0_offerWay yX0_offerWay, Cond.code yX0_offerWay cX0_offerWay 4 none]
def wsX0_packBlock : List Cond := .code yX0_packBlock cX0_packBlock 3 none :: ((wsX0_packBlock_r1 ++ wsX0_packBlock_r2) ++ wsX00)
def wsX0_append_r1 : List Cond := [Cond.classLink RX0 45 "java/lang/IllegalStateException", Cond.initialized "java/lang/IllegalStateException", Cond.fieldLink RX0 13 "ColumnHall" "rowCount" "I", Cond.fieldLink RX0 9 "ColumnHall" "cells" "[J", Cond.methodLink RX0 52 yX0_spot, Cond.static yX0_spot, Cond.initialized RX0, Cond.code yX0_spot cX0_spot 2 (some .int), Cond.methodLink RX0 56 yX0_packBlock, Cond.instanceMethod yX0_packBlock, Cond.selects RX0 yX0_packBlock yX0_packBlock, Cond.code yX0_packBlock cX0_packBlock 3 none, Cond.methodLink RX0 159 yX0_packColumn, Cond.instanceMethod yX0_packColumn, Cond.selects RX0 yX0_packColumn yX0_packColumn, Cond.code yX0_packColumn cX0_packColumn 8 none, Cond.fieldLink RX0 33 "ColumnHall" "greatestCells" "[J", Cond.fieldLink RX0 30 "ColumnHall" "leastCells" "[J", Cond.fieldLink RX0 36 "ColumnHall" "bestWays" "[I", Cond.fieldLink RX0 39 "ColumnHall" "bestBits" "[I", Cond.methodLink RX0 123 yX0_place, Cond.static yX0_place, Cond.code yX0_place cX0_place 2 (some .int), Cond.methodLink RX0 162 yX0_noteBounds]
def wsX0_append_r2 : List Cond := [Cond.instanceMethod yX0_noteBounds, Cond.selects RX0 yX0_noteBounds yX0_noteBounds, Cond.code yX0_noteBounds cX0_noteBounds 8 none, Cond.methodLink RX0 180 Lib.MathLoose.min_long.x, Cond.static Lib.MathLoose.min_long.x, Cond.initialized "java/lang/Math", Cond.code Lib.MathLoose.min_long.x Lib.MathLoose.min_long.code 4 (some .long), Cond.methodLink RX0 183 Lib.MathLoose.max_long.x, Cond.static Lib.MathLoose.max_long.x, Cond.code Lib.MathLoose.max_long.x Lib.MathLoose.max_long.code 4 (some .long), Cond.methodLink RX0 165 yX0_differentCells, Cond.instanceMethod yX0_differentCells, Cond.selects RX0 yX0_differentCells yX0_differentCells, Cond.code yX0_differentCells cX0_differentCells 4 (some .int), Cond.methodLink RX0 186 yX0_stoodBefore, Cond.instanceMethod yX0_stoodBefore, Cond.selects RX0 yX0_stoodBefore yX0_stoodBefore, Cond.code yX0_stoodBefore cX0_stoodBefore 4 (some .boolean), Cond.methodLink RX0 169 yX0_widthOf, Cond.static yX0_widthOf, Cond.code yX0_widthOf cX0_widthOf 3 (some .int), Cond.methodLink RX0 173 yX0_runsOfCells, Cond.instanceMethod yX0_runsOfCells, Cond.selects RX0 yX0_runsOfCells yX0_runsOfCells]
def wsX0_append_r3 : List Cond := [Cond.code yX0_runsOfCells cX0_runsOfCells 4 (some .int), Cond.methodLink RX0 176 yX0_offerWay, Cond.instanceMethod yX0_offerWay, Cond.selects RX0 yX0_offerWay yX0_offerWay, Cond.code yX0_offerWay cX0_offerWay 4 none]
def wsX0_append : List Cond := .code yX0_append cX0_append 7 (some .int) :: ((wsX0_append_r1 ++ (wsX0_append_r2 ++ wsX0_append_r3)) ++ wsX00 ++ (vx_atS RX0 49 "java/lang/IllegalStateException" ["java/lang/RuntimeException", "java/lang/Exception"]).filter goodWord)
def wsX0_rows : List Cond := .code yX0_rows cX0_rows 1 (some .int) :: ([.fieldLink RX0 13 "ColumnHall" "rowCount" "I"] ++ wsX00)
def wsX0_all : List Cond := .code yX0_all cX0_all 2 (some .int) :: ([.fieldLink RX0 27 "ColumnHall" "conditionCount" "I"] ++ wsX00)
def wsX0_startedBlocks : List Cond := .code yX0_startedBlocks cX0_startedBlocks 1 (some .int) :: ([.fieldLink RX0 13 "ColumnHall" "rowCount" "I"] ++ wsX00)
def wsX0_fullBlocks : List Cond := .code yX0_fullBlocks cX0_fullBlocks 1 (some .int) :: ([.fieldLink RX0 13 "ColumnHall" "rowCount" "I"] ++ wsX00)
def wsX0_couldHold : List Cond := .code yX0_couldHold cX0_couldHold 7 (some .boolean) :: ([])
def wsX0_isPassedOver : List Cond := .code yX0_isPassedOver cX0_isPassedOver 4 (some .boolean) :: ([.fieldLink RX0 27 "ColumnHall" "conditionCount" "I", .fieldLink RX0 17 "ColumnHall" "conditionColumns" "[I", .fieldLink RX0 21 "ColumnHall" "conditionOps" "[I", .fieldLink RX0 24 "ColumnHall" "conditionValues" "[J", .fieldLink RX0 30 "ColumnHall" "leastCells" "[J", .fieldLink RX0 33 "ColumnHall" "greatestCells" "[J", .methodLink RX0 135 yX0_fullBlocks, .instanceMethod yX0_fullBlocks, .selects RX0 yX0_fullBlocks yX0_fullBlocks, .initialized RX0, .code yX0_fullBlocks cX0_fullBlocks 1 (some .int), .fieldLink RX0 13 "ColumnHall" "rowCount" "I", .methodLink RX0 123 yX0_place, .static yX0_place, .code yX0_place cX0_place 2 (some .int), .methodLink RX0 151 yX0_couldHold, .static yX0_couldHold, .code yX0_couldHold cX0_couldHold 7 (some .boolean)] ++ wsX00)
def wsX0_isChosen : List Cond := .code yX0_isChosen cX0_isChosen 5 (some .boolean) :: ([.fieldLink RX0 27 "ColumnHall" "conditionCount" "I", .fieldLink RX0 9 "ColumnHall" "cells" "[J", .fieldLink RX0 17 "ColumnHall" "conditionColumns" "[I", .fieldLink RX0 21 "ColumnHall" "conditionOps" "[I", .fieldLink RX0 24 "ColumnHall" "conditionValues" "[J", .methodLink RX0 52 yX0_spot, .static yX0_spot, .initialized RX0, .code yX0_spot cX0_spot 2 (some .int), .methodLink RX0 151 yX0_couldHold, .static yX0_couldHold, .code yX0_couldHold cX0_couldHold 7 (some .boolean)] ++ wsX00)
def wsX0_pickFromBlock : List Cond := .code yX0_pickFromBlock cX0_pickFromBlock 6 (some .int) :: ([.fieldLink RX0 13 "ColumnHall" "rowCount" "I", .methodLink RX0 143 Lib.Math.min.name, .static Lib.Math.min.name, .initialized "java/lang/Math", .code Lib.Math.min.name Lib.Math.min.code 2 (some .int), .fieldLink RX0 42 "ColumnHall" "picked" "[I", .methodLink RX0 148 yX0_isChosen, .instanceMethod yX0_isChosen, .selects RX0 yX0_isChosen yX0_isChosen, .initialized RX0, .code yX0_isChosen cX0_isChosen 5 (some .boolean), .fieldLink RX0 27 "ColumnHall" "conditionCount" "I", .fieldLink RX0 9 "ColumnHall" "cells" "[J", .fieldLink RX0 17 "ColumnHall" "conditionColumns" "[I", .fieldLink RX0 21 "ColumnHall" "conditionOps" "[I", .fieldLink RX0 24 "ColumnHall" "conditionValues" "[J", .methodLink RX0 52 yX0_spot, .static yX0_spot, .code yX0_spot cX0_spot 2 (some .int), .methodLink RX0 151 yX0_couldHold, .static yX0_couldHold, .code yX0_couldHold cX0_couldHold 7 (some .boolean)] ++ wsX00)
def wsX0_pick_r1 : List Cond := [Cond.methodLink RX0 81 yX0_startedBlocks, Cond.instanceMethod yX0_startedBlocks, Cond.selects RX0 yX0_startedBlocks yX0_startedBlocks, Cond.initialized RX0, Cond.code yX0_startedBlocks cX0_startedBlocks 1 (some .int), Cond.fieldLink RX0 13 "ColumnHall" "rowCount" "I", Cond.methodLink RX0 84 yX0_isPassedOver, Cond.instanceMethod yX0_isPassedOver, Cond.selects RX0 yX0_isPassedOver yX0_isPassedOver, Cond.code yX0_isPassedOver cX0_isPassedOver 4 (some .boolean), Cond.fieldLink RX0 27 "ColumnHall" "conditionCount" "I", Cond.fieldLink RX0 17 "ColumnHall" "conditionColumns" "[I", Cond.fieldLink RX0 21 "ColumnHall" "conditionOps" "[I", Cond.fieldLink RX0 24 "ColumnHall" "conditionValues" "[J", Cond.fieldLink RX0 30 "ColumnHall" "leastCells" "[J", Cond.fieldLink RX0 33 "ColumnHall" "greatestCells" "[J", Cond.methodLink RX0 135 yX0_fullBlocks, Cond.instanceMethod yX0_fullBlocks, Cond.selects RX0 yX0_fullBlocks yX0_fullBlocks, Cond.code yX0_fullBlocks cX0_fullBlocks 1 (some .int), Cond.methodLink RX0 123 yX0_place, Cond.static yX0_place, Cond.code yX0_place cX0_place 2 (some .int), Cond.methodLink RX0 151 yX0_couldHold]
def wsX0_pick_r2 : List Cond := [Cond.static yX0_couldHold, Cond.code yX0_couldHold cX0_couldHold 7 (some .boolean), Cond.methodLink RX0 140 yX0_pickFromBlock, Cond.instanceMethod yX0_pickFromBlock, Cond.selects RX0 yX0_pickFromBlock yX0_pickFromBlock, Cond.code yX0_pickFromBlock cX0_pickFromBlock 6 (some .int), Cond.methodLink RX0 143 Lib.Math.min.name, Cond.static Lib.Math.min.name, Cond.initialized "java/lang/Math", Cond.code Lib.Math.min.name Lib.Math.min.code 2 (some .int), Cond.fieldLink RX0 42 "ColumnHall" "picked" "[I", Cond.methodLink RX0 148 yX0_isChosen, Cond.instanceMethod yX0_isChosen, Cond.selects RX0 yX0_isChosen yX0_isChosen, Cond.code yX0_isChosen cX0_isChosen 5 (some .boolean), Cond.fieldLink RX0 9 "ColumnHall" "cells" "[J", Cond.methodLink RX0 52 yX0_spot, Cond.static yX0_spot, Cond.code yX0_spot cX0_spot 2 (some .int)]
def wsX0_pick : List Cond := .code yX0_pick cX0_pick 3 (some .int) :: ((wsX0_pick_r1 ++ wsX0_pick_r2) ++ wsX00)
def wsX0_chosen_r1 : List Cond := [Cond.methodLink RX0 75 yX0_pick, Cond.instanceMethod yX0_pick, Cond.selects RX0 yX0_pick yX0_pick, Cond.initialized RX0, Cond.code yX0_pick cX0_pick 3 (some .int), Cond.methodLink RX0 81 yX0_startedBlocks, Cond.instanceMethod yX0_startedBlocks, Cond.selects RX0 yX0_startedBlocks yX0_startedBlocks, Cond.code yX0_startedBlocks cX0_startedBlocks 1 (some .int), Cond.fieldLink RX0 13 "ColumnHall" "rowCount" "I", Cond.methodLink RX0 84 yX0_isPassedOver, Cond.instanceMethod yX0_isPassedOver, Cond.selects RX0 yX0_isPassedOver yX0_isPassedOver, Cond.code yX0_isPassedOver cX0_isPassedOver 4 (some .boolean), Cond.fieldLink RX0 27 "ColumnHall" "conditionCount" "I", Cond.fieldLink RX0 17 "ColumnHall" "conditionColumns" "[I", Cond.fieldLink RX0 21 "ColumnHall" "conditionOps" "[I", Cond.fieldLink RX0 24 "ColumnHall" "conditionValues" "[J", Cond.fieldLink RX0 30 "ColumnHall" "leastCells" "[J", Cond.fieldLink RX0 33 "ColumnHall" "greatestCells" "[J", Cond.methodLink RX0 135 yX0_fullBlocks, Cond.instanceMethod yX0_fullBlocks, Cond.selects RX0 yX0_fullBlocks yX0_fullBlocks, Cond.code yX0_fullBlocks cX0_fullBlocks 1 (some .int)]
def wsX0_chosen_r2 : List Cond := [Cond.methodLink RX0 123 yX0_place, Cond.static yX0_place, Cond.code yX0_place cX0_place 2 (some .int), Cond.methodLink RX0 151 yX0_couldHold, Cond.static yX0_couldHold, Cond.code yX0_couldHold cX0_couldHold 7 (some .boolean), Cond.methodLink RX0 140 yX0_pickFromBlock, Cond.instanceMethod yX0_pickFromBlock, Cond.selects RX0 yX0_pickFromBlock yX0_pickFromBlock, Cond.code yX0_pickFromBlock cX0_pickFromBlock 6 (some .int), Cond.methodLink RX0 143 Lib.Math.min.name, Cond.static Lib.Math.min.name, Cond.initialized "java/lang/Math", Cond.code Lib.Math.min.name Lib.Math.min.code 2 (some .int), Cond.fieldLink RX0 42 "ColumnHall" "picked" "[I", Cond.methodLink RX0 148 yX0_isChosen, Cond.instanceMethod yX0_isChosen, Cond.selects RX0 yX0_isChosen yX0_isChosen, Cond.code yX0_isChosen cX0_isChosen 5 (some .boolean), Cond.fieldLink RX0 9 "ColumnHall" "cells" "[J", Cond.methodLink RX0 52 yX0_spot, Cond.static yX0_spot, Cond.code yX0_spot cX0_spot 2 (some .int)]
def wsX0_chosen : List Cond := .code yX0_chosen cX0_chosen 1 (some .int) :: ((wsX0_chosen_r1 ++ wsX0_chosen_r2) ++ wsX00)
def wsX0_blocks_r1 : List Cond := [Cond.methodLink RX0 81 yX0_startedBlocks, Cond.instanceMethod yX0_startedBlocks, Cond.selects RX0 yX0_startedBlocks yX0_startedBlocks, Cond.initialized RX0, Cond.code yX0_startedBlocks cX0_startedBlocks 1 (some .int), Cond.fieldLink RX0 13 "ColumnHall" "rowCount" "I", Cond.methodLink RX0 84 yX0_isPassedOver, Cond.instanceMethod yX0_isPassedOver, Cond.selects RX0 yX0_isPassedOver yX0_isPassedOver, Cond.code yX0_isPassedOver cX0_isPassedOver 4 (some .boolean), Cond.fieldLink RX0 27 "ColumnHall" "conditionCount" "I", Cond.fieldLink RX0 17 "ColumnHall" "conditionColumns" "[I", Cond.fieldLink RX0 21 "ColumnHall" "conditionOps" "[I", Cond.fieldLink RX0 24 "ColumnHall" "conditionValues" "[J", Cond.fieldLink RX0 30 "ColumnHall" "leastCells" "[J", Cond.fieldLink RX0 33 "ColumnHall" "greatestCells" "[J", Cond.methodLink RX0 135 yX0_fullBlocks, Cond.instanceMethod yX0_fullBlocks, Cond.selects RX0 yX0_fullBlocks yX0_fullBlocks, Cond.code yX0_fullBlocks cX0_fullBlocks 1 (some .int), Cond.methodLink RX0 123 yX0_place, Cond.static yX0_place, Cond.code yX0_place cX0_place 2 (some .int), Cond.methodLink RX0 151 yX0_couldHold]
def wsX0_blocks_r2 : List Cond := [Cond.static yX0_couldHold, Cond.code yX0_couldHold cX0_couldHold 7 (some .boolean)]
def wsX0_blocks : List Cond := .code yX0_blocks cX0_blocks 3 (some .int) :: ((wsX0_blocks_r1 ++ wsX0_blocks_r2) ++ wsX00)
def wsX0_moveRow : List Cond := .code yX0_moveRow cX0_moveRow 4 none :: ([.fieldLink RX0 9 "ColumnHall" "cells" "[J", .methodLink RX0 52 yX0_spot, .static yX0_spot, .initialized RX0, .code yX0_spot cX0_spot 2 (some .int)] ++ wsX00)
def wsX0_packFullBlocks_r1 : List Cond := [Cond.methodLink RX0 135 yX0_fullBlocks, Cond.instanceMethod yX0_fullBlocks, Cond.selects RX0 yX0_fullBlocks yX0_fullBlocks, Cond.initialized RX0, Cond.code yX0_fullBlocks cX0_fullBlocks 1 (some .int), Cond.fieldLink RX0 13 "ColumnHall" "rowCount" "I", Cond.methodLink RX0 56 yX0_packBlock, Cond.instanceMethod yX0_packBlock, Cond.selects RX0 yX0_packBlock yX0_packBlock, Cond.code yX0_packBlock cX0_packBlock 3 none, Cond.methodLink RX0 159 yX0_packColumn, Cond.instanceMethod yX0_packColumn, Cond.selects RX0 yX0_packColumn yX0_packColumn, Cond.code yX0_packColumn cX0_packColumn 8 none, Cond.fieldLink RX0 33 "ColumnHall" "greatestCells" "[J", Cond.fieldLink RX0 30 "ColumnHall" "leastCells" "[J", Cond.fieldLink RX0 36 "ColumnHall" "bestWays" "[I", Cond.fieldLink RX0 39 "ColumnHall" "bestBits" "[I", Cond.methodLink RX0 52 yX0_spot, Cond.static yX0_spot, Cond.code yX0_spot cX0_spot 2 (some .int), Cond.methodLink RX0 123 yX0_place, Cond.static yX0_place, Cond.code yX0_place cX0_place 2 (some .int)]
def wsX0_packFullBlocks_r2 : List Cond := [Cond.methodLink RX0 162 yX0_noteBounds, Cond.instanceMethod yX0_noteBounds, Cond.selects RX0 yX0_noteBounds yX0_noteBounds, Cond.code yX0_noteBounds cX0_noteBounds 8 none, Cond.fieldLink RX0 9 "ColumnHall" "cells" "[J", Cond.methodLink RX0 180 Lib.MathLoose.min_long.x, Cond.static Lib.MathLoose.min_long.x, Cond.initialized "java/lang/Math", Cond.code Lib.MathLoose.min_long.x Lib.MathLoose.min_long.code 4 (some .long), Cond.methodLink RX0 183 Lib.MathLoose.max_long.x, Cond.static Lib.MathLoose.max_long.x, Cond.code Lib.MathLoose.max_long.x Lib.MathLoose.max_long.code 4 (some .long), Cond.methodLink RX0 165 yX0_differentCells, Cond.instanceMethod yX0_differentCells, Cond.selects RX0 yX0_differentCells yX0_differentCells, Cond.code yX0_differentCells cX0_differentCells 4 (some .int), Cond.methodLink RX0 186 yX0_stoodBefore, Cond.instanceMethod yX0_stoodBefore, Cond.selects RX0 yX0_stoodBefore yX0_stoodBefore, Cond.code yX0_stoodBefore cX0_stoodBefore 4 (some .boolean), Cond.methodLink RX0 169 yX0_widthOf, Cond.static yX0_widthOf, Cond.code yX0_widthOf cX0_widthOf 3 (some .int), Cond.methodLink RX0 173 yX0_runsOfCells]
def wsX0_packFullBlocks_r3 : List Cond := [Cond.instanceMethod yX0_runsOfCells, Cond.selects RX0 yX0_runsOfCells yX0_runsOfCells, Cond.code yX0_runsOfCells cX0_runsOfCells 4 (some .int), Cond.methodLink RX0 176 yX0_offerWay, Cond.instanceMethod yX0_offerWay, Cond.selects RX0 yX0_offerWay yX0_offerWay, Cond.code yX0_offerWay cX0_offerWay 4 none]
def wsX0_packFullBlocks : List Cond := .code yX0_packFullBlocks cX0_packFullBlocks 2 none :: ((wsX0_packFullBlocks_r1 ++ (wsX0_packFullBlocks_r2 ++ wsX0_packFullBlocks_r3)) ++ wsX00)
def wsX0_purge_r1 : List Cond := [Cond.fieldLink RX0 13 "ColumnHall" "rowCount" "I", Cond.fieldLink RX0 42 "ColumnHall" "picked" "[I", Cond.methodLink RX0 75 yX0_pick, Cond.instanceMethod yX0_pick, Cond.selects RX0 yX0_pick yX0_pick, Cond.initialized RX0, Cond.code yX0_pick cX0_pick 3 (some .int), Cond.methodLink RX0 81 yX0_startedBlocks, Cond.instanceMethod yX0_startedBlocks, Cond.selects RX0 yX0_startedBlocks yX0_startedBlocks, Cond.code yX0_startedBlocks cX0_startedBlocks 1 (some .int), Cond.methodLink RX0 84 yX0_isPassedOver, Cond.instanceMethod yX0_isPassedOver, Cond.selects RX0 yX0_isPassedOver yX0_isPassedOver, Cond.code yX0_isPassedOver cX0_isPassedOver 4 (some .boolean), Cond.fieldLink RX0 27 "ColumnHall" "conditionCount" "I", Cond.fieldLink RX0 17 "ColumnHall" "conditionColumns" "[I", Cond.fieldLink RX0 21 "ColumnHall" "conditionOps" "[I", Cond.fieldLink RX0 24 "ColumnHall" "conditionValues" "[J", Cond.fieldLink RX0 30 "ColumnHall" "leastCells" "[J", Cond.fieldLink RX0 33 "ColumnHall" "greatestCells" "[J", Cond.methodLink RX0 135 yX0_fullBlocks, Cond.instanceMethod yX0_fullBlocks, Cond.selects RX0 yX0_fullBlocks yX0_fullBlocks]
def wsX0_purge_r2 : List Cond := [Cond.code yX0_fullBlocks cX0_fullBlocks 1 (some .int), Cond.methodLink RX0 123 yX0_place, Cond.static yX0_place, Cond.code yX0_place cX0_place 2 (some .int), Cond.methodLink RX0 151 yX0_couldHold, Cond.static yX0_couldHold, Cond.code yX0_couldHold cX0_couldHold 7 (some .boolean), Cond.methodLink RX0 140 yX0_pickFromBlock, Cond.instanceMethod yX0_pickFromBlock, Cond.selects RX0 yX0_pickFromBlock yX0_pickFromBlock, Cond.code yX0_pickFromBlock cX0_pickFromBlock 6 (some .int), Cond.methodLink RX0 143 Lib.Math.min.name, Cond.static Lib.Math.min.name, Cond.initialized "java/lang/Math", Cond.code Lib.Math.min.name Lib.Math.min.code 2 (some .int), Cond.methodLink RX0 148 yX0_isChosen, Cond.instanceMethod yX0_isChosen, Cond.selects RX0 yX0_isChosen yX0_isChosen, Cond.code yX0_isChosen cX0_isChosen 5 (some .boolean), Cond.fieldLink RX0 9 "ColumnHall" "cells" "[J", Cond.methodLink RX0 52 yX0_spot, Cond.static yX0_spot, Cond.code yX0_spot cX0_spot 2 (some .int), Cond.methodLink RX0 126 yX0_moveRow]
def wsX0_purge_r3 : List Cond := [Cond.instanceMethod yX0_moveRow, Cond.selects RX0 yX0_moveRow yX0_moveRow, Cond.code yX0_moveRow cX0_moveRow 4 none, Cond.methodLink RX0 130 yX0_packFullBlocks, Cond.instanceMethod yX0_packFullBlocks, Cond.selects RX0 yX0_packFullBlocks yX0_packFullBlocks, Cond.code yX0_packFullBlocks cX0_packFullBlocks 2 none, Cond.methodLink RX0 56 yX0_packBlock, Cond.instanceMethod yX0_packBlock, Cond.selects RX0 yX0_packBlock yX0_packBlock, Cond.code yX0_packBlock cX0_packBlock 3 none, Cond.methodLink RX0 159 yX0_packColumn, Cond.instanceMethod yX0_packColumn, Cond.selects RX0 yX0_packColumn yX0_packColumn, Cond.code yX0_packColumn cX0_packColumn 8 none, Cond.fieldLink RX0 36 "ColumnHall" "bestWays" "[I", Cond.fieldLink RX0 39 "ColumnHall" "bestBits" "[I", Cond.methodLink RX0 162 yX0_noteBounds, Cond.instanceMethod yX0_noteBounds, Cond.selects RX0 yX0_noteBounds yX0_noteBounds, Cond.code yX0_noteBounds cX0_noteBounds 8 none, Cond.methodLink RX0 180 Lib.MathLoose.min_long.x, Cond.static Lib.MathLoose.min_long.x, Cond.code Lib.MathLoose.min_long.x Lib.MathLoose.min_long.code 4 (some .long)]
def wsX0_purge_r4 : List Cond := [Cond.methodLink RX0 183 Lib.MathLoose.max_long.x, Cond.static Lib.MathLoose.max_long.x, Cond.code Lib.MathLoose.max_long.x Lib.MathLoose.max_long.code 4 (some .long), Cond.methodLink RX0 165 yX0_differentCells, Cond.instanceMethod yX0_differentCells, Cond.selects RX0 yX0_differentCells yX0_differentCells, Cond.code yX0_differentCells cX0_differentCells 4 (some .int), Cond.methodLink RX0 186 yX0_stoodBefore, Cond.instanceMethod yX0_stoodBefore, Cond.selects RX0 yX0_stoodBefore yX0_stoodBefore, Cond.code yX0_stoodBefore cX0_stoodBefore 4 (some .boolean), Cond.methodLink RX0 169 yX0_widthOf, Cond.static yX0_widthOf, Cond.code yX0_widthOf cX0_widthOf 3 (some .int), Cond.methodLink RX0 173 yX0_runsOfCells, Cond.instanceMethod yX0_runsOfCells, Cond.selects RX0 yX0_runsOfCells yX0_runsOfCells, Cond.code yX0_runsOfCells cX0_runsOfCells 4 (some .int), Cond.methodLink RX0 176 yX0_offerWay, Cond.instanceMethod yX0_offerWay, Cond.selects RX0 yX0_offerWay yX0_offerWay, Cond.code yX0_offerWay cX0_offerWay 4 none]
def wsX0_purge : List Cond := .code yX0_purge cX0_purge 5 (some .int) :: ((wsX0_purge_r1 ++ (wsX0_purge_r2 ++ (wsX0_purge_r3 ++ wsX0_purge_r4))) ++ wsX00)
def wsJ9_max_f86c9 : List Cond := .code yJ9_max_f86c9 cJ9_max_f86c9 4 (some .long) :: ([])
def wsJ9_min_7cf53 : List Cond := .code yJ9_min_7cf53 cJ9_min_7cf53 2 (some .int) :: ([])
def wsJ9_min_f86c9 : List Cond := .code yJ9_min_f86c9 cJ9_min_f86c9 4 (some .long) :: ([])
def wsL_append_r1 : List Cond := [Cond.classLink RL 13 "java/lang/IllegalStateException", Cond.methodLink RL 7 yX0_append, Cond.instanceMethod yX0_append, Cond.selects RX0 yX0_append yX0_append, Cond.initialized RX0, Cond.code yX0_append cX0_append 7 (some .int), Cond.classLink RX0 45 "java/lang/IllegalStateException", Cond.initialized "java/lang/IllegalStateException", Cond.fieldLink RX0 13 "ColumnHall" "rowCount" "I", Cond.fieldLink RX0 9 "ColumnHall" "cells" "[J", Cond.methodLink RX0 52 yX0_spot, Cond.static yX0_spot, Cond.code yX0_spot cX0_spot 2 (some .int), Cond.methodLink RX0 56 yX0_packBlock, Cond.instanceMethod yX0_packBlock, Cond.selects RX0 yX0_packBlock yX0_packBlock, Cond.code yX0_packBlock cX0_packBlock 3 none, Cond.methodLink RX0 159 yX0_packColumn, Cond.instanceMethod yX0_packColumn, Cond.selects RX0 yX0_packColumn yX0_packColumn, Cond.code yX0_packColumn cX0_packColumn 8 none, Cond.fieldLink RX0 33 "ColumnHall" "greatestCells" "[J", Cond.fieldLink RX0 30 "ColumnHall" "leastCells" "[J", Cond.fieldLink RX0 36 "ColumnHall" "bestWays" "[I"]
def wsL_append_r2 : List Cond := [Cond.fieldLink RX0 39 "ColumnHall" "bestBits" "[I", Cond.methodLink RX0 123 yX0_place, Cond.static yX0_place, Cond.code yX0_place cX0_place 2 (some .int), Cond.methodLink RX0 162 yX0_noteBounds, Cond.instanceMethod yX0_noteBounds, Cond.selects RX0 yX0_noteBounds yX0_noteBounds, Cond.code yX0_noteBounds cX0_noteBounds 8 none, Cond.methodLink RX0 180 Lib.MathLoose.min_long.x, Cond.static Lib.MathLoose.min_long.x, Cond.initialized "java/lang/Math", Cond.code Lib.MathLoose.min_long.x Lib.MathLoose.min_long.code 4 (some .long), Cond.methodLink RX0 183 Lib.MathLoose.max_long.x, Cond.static Lib.MathLoose.max_long.x, Cond.code Lib.MathLoose.max_long.x Lib.MathLoose.max_long.code 4 (some .long), Cond.methodLink RX0 165 yX0_differentCells, Cond.instanceMethod yX0_differentCells, Cond.selects RX0 yX0_differentCells yX0_differentCells, Cond.code yX0_differentCells cX0_differentCells 4 (some .int), Cond.methodLink RX0 186 yX0_stoodBefore, Cond.instanceMethod yX0_stoodBefore, Cond.selects RX0 yX0_stoodBefore yX0_stoodBefore, Cond.code yX0_stoodBefore cX0_stoodBefore 4 (some .boolean), Cond.methodLink RX0 169 yX0_widthOf]
def wsL_append_r3 : List Cond := [Cond.static yX0_widthOf, Cond.code yX0_widthOf cX0_widthOf 3 (some .int), Cond.methodLink RX0 173 yX0_runsOfCells, Cond.instanceMethod yX0_runsOfCells, Cond.selects RX0 yX0_runsOfCells yX0_runsOfCells, Cond.code yX0_runsOfCells cX0_runsOfCells 4 (some .int), Cond.methodLink RX0 176 yX0_offerWay, Cond.instanceMethod yX0_offerWay, Cond.selects RX0 yX0_offerWay yX0_offerWay, Cond.code yX0_offerWay cX0_offerWay 4 none]
def wsL_append : List Cond := .codeWith yL_append cL_append 8 (some .int) [(0, 14, 17, 13)] :: ((wsL_append_r1 ++ (wsL_append_r2 ++ wsL_append_r3)) ++ wsX00 ++ (vx_atS RX0 49 "java/lang/IllegalStateException" ["java/lang/RuntimeException", "java/lang/Exception"]).filter goodWord)
def wsL_cell : List Cond := .codeWith yL_cell cL_cell 5 (some .int) [(0, 9, 12, 19), (0, 9, 16, 21)] :: ([])
def wsL_law0_r1 : List Cond := [Cond.classLink RL 8 RX0, Cond.instantiable RX0 11, Cond.initialized RX0, Cond.arrayClass .long, Cond.methodLink RL 61 yX0_init, Cond.instanceMethod yX0_init, Cond.code yX0_init cX0_init 1 none, Cond.methodLink RX0 3 objectInit, Cond.instanceMethod objectInit, Cond.code objectInit ⟨#[0xb1]⟩ 1 none, Cond.fieldLink RX0 9 "ColumnHall" "cells" "[J", Cond.fieldLink RX0 13 "ColumnHall" "rowCount" "I", Cond.arrayClass .int, Cond.fieldLink RX0 17 "ColumnHall" "conditionColumns" "[I", Cond.fieldLink RX0 21 "ColumnHall" "conditionOps" "[I", Cond.fieldLink RX0 24 "ColumnHall" "conditionValues" "[J", Cond.fieldLink RX0 27 "ColumnHall" "conditionCount" "I", Cond.fieldLink RX0 30 "ColumnHall" "leastCells" "[J", Cond.fieldLink RX0 33 "ColumnHall" "greatestCells" "[J", Cond.fieldLink RX0 36 "ColumnHall" "bestWays" "[I", Cond.fieldLink RX0 39 "ColumnHall" "bestBits" "[I", Cond.fieldLink RX0 42 "ColumnHall" "picked" "[I", Cond.methodLink RL 67 yL_append, Cond.static yL_append]
def wsL_law0_r2 : List Cond := [Cond.initialized RL, Cond.codeWith yL_append cL_append 8 (some .int) [(0, 14, 17, 13)], Cond.classLink RL 13 "java/lang/IllegalStateException", Cond.methodLink RL 7 yX0_append, Cond.instanceMethod yX0_append, Cond.selects RX0 yX0_append yX0_append, Cond.code yX0_append cX0_append 7 (some .int), Cond.classLink RX0 45 "java/lang/IllegalStateException", Cond.initialized "java/lang/IllegalStateException", Cond.methodLink RX0 52 yX0_spot, Cond.static yX0_spot, Cond.code yX0_spot cX0_spot 2 (some .int), Cond.methodLink RX0 56 yX0_packBlock, Cond.instanceMethod yX0_packBlock, Cond.selects RX0 yX0_packBlock yX0_packBlock, Cond.code yX0_packBlock cX0_packBlock 3 none, Cond.methodLink RX0 159 yX0_packColumn, Cond.instanceMethod yX0_packColumn, Cond.selects RX0 yX0_packColumn yX0_packColumn, Cond.code yX0_packColumn cX0_packColumn 8 none, Cond.methodLink RX0 123 yX0_place, Cond.static yX0_place, Cond.code yX0_place cX0_place 2 (some .int), Cond.methodLink RX0 162 yX0_noteBounds]
def wsL_law0_r3 : List Cond := [Cond.instanceMethod yX0_noteBounds, Cond.selects RX0 yX0_noteBounds yX0_noteBounds, Cond.code yX0_noteBounds cX0_noteBounds 8 none, Cond.methodLink RX0 180 Lib.MathLoose.min_long.x, Cond.static Lib.MathLoose.min_long.x, Cond.initialized "java/lang/Math", Cond.code Lib.MathLoose.min_long.x Lib.MathLoose.min_long.code 4 (some .long), Cond.methodLink RX0 183 Lib.MathLoose.max_long.x, Cond.static Lib.MathLoose.max_long.x, Cond.code Lib.MathLoose.max_long.x Lib.MathLoose.max_long.code 4 (some .long), Cond.methodLink RX0 165 yX0_differentCells, Cond.instanceMethod yX0_differentCells, Cond.selects RX0 yX0_differentCells yX0_differentCells, Cond.code yX0_differentCells cX0_differentCells 4 (some .int), Cond.methodLink RX0 186 yX0_stoodBefore, Cond.instanceMethod yX0_stoodBefore, Cond.selects RX0 yX0_stoodBefore yX0_stoodBefore, Cond.code yX0_stoodBefore cX0_stoodBefore 4 (some .boolean), Cond.methodLink RX0 169 yX0_widthOf, Cond.static yX0_widthOf, Cond.code yX0_widthOf cX0_widthOf 3 (some .int), Cond.methodLink RX0 173 yX0_runsOfCells, Cond.instanceMethod yX0_runsOfCells, Cond.selects RX0 yX0_runsOfCells yX0_runsOfCells]
def wsL_law0_r4 : List Cond := [Cond.code yX0_runsOfCells cX0_runsOfCells 4 (some .int), Cond.methodLink RX0 176 yX0_offerWay, Cond.instanceMethod yX0_offerWay, Cond.selects RX0 yX0_offerWay yX0_offerWay, Cond.code yX0_offerWay cX0_offerWay 4 none, Cond.methodLink RL 77 yX0_rows, Cond.instanceMethod yX0_rows, Cond.selects RX0 yX0_rows yX0_rows, Cond.code yX0_rows cX0_rows 1 (some .int), Cond.methodLink RL 81 yL_cell, Cond.static yL_cell, Cond.codeWith yL_cell cL_cell 5 (some .int) [(0, 9, 12, 19), (0, 9, 16, 21)], Cond.methodLink RL 89 yX0_all, Cond.instanceMethod yX0_all, Cond.selects RX0 yX0_all yX0_all, Cond.code yX0_all cX0_all 2 (some .int), Cond.methodLink RL 93 yX0_chosen, Cond.instanceMethod yX0_chosen, Cond.selects RX0 yX0_chosen yX0_chosen, Cond.code yX0_chosen cX0_chosen 1 (some .int), Cond.methodLink RX0 75 yX0_pick, Cond.instanceMethod yX0_pick, Cond.selects RX0 yX0_pick yX0_pick, Cond.code yX0_pick cX0_pick 3 (some .int)]
def wsL_law0_r5 : List Cond := [Cond.methodLink RX0 81 yX0_startedBlocks, Cond.instanceMethod yX0_startedBlocks, Cond.selects RX0 yX0_startedBlocks yX0_startedBlocks, Cond.code yX0_startedBlocks cX0_startedBlocks 1 (some .int), Cond.methodLink RX0 84 yX0_isPassedOver, Cond.instanceMethod yX0_isPassedOver, Cond.selects RX0 yX0_isPassedOver yX0_isPassedOver, Cond.code yX0_isPassedOver cX0_isPassedOver 4 (some .boolean), Cond.methodLink RX0 135 yX0_fullBlocks, Cond.instanceMethod yX0_fullBlocks, Cond.selects RX0 yX0_fullBlocks yX0_fullBlocks, Cond.code yX0_fullBlocks cX0_fullBlocks 1 (some .int), Cond.methodLink RX0 151 yX0_couldHold, Cond.static yX0_couldHold, Cond.code yX0_couldHold cX0_couldHold 7 (some .boolean), Cond.methodLink RX0 140 yX0_pickFromBlock, Cond.instanceMethod yX0_pickFromBlock, Cond.selects RX0 yX0_pickFromBlock yX0_pickFromBlock, Cond.code yX0_pickFromBlock cX0_pickFromBlock 6 (some .int), Cond.methodLink RX0 143 Lib.Math.min.name, Cond.static Lib.Math.min.name, Cond.code Lib.Math.min.name Lib.Math.min.code 2 (some .int), Cond.methodLink RX0 148 yX0_isChosen, Cond.instanceMethod yX0_isChosen]
def wsL_law0_r6 : List Cond := [Cond.selects RX0 yX0_isChosen yX0_isChosen, Cond.code yX0_isChosen cX0_isChosen 5 (some .boolean), Cond.methodLink RL 101 yX0_blocks, Cond.instanceMethod yX0_blocks, Cond.selects RX0 yX0_blocks yX0_blocks, Cond.code yX0_blocks cX0_blocks 3 (some .int), Cond.methodLink RL 131 yX0_purge, Cond.instanceMethod yX0_purge, Cond.selects RX0 yX0_purge yX0_purge, Cond.code yX0_purge cX0_purge 5 (some .int), Cond.methodLink RX0 126 yX0_moveRow, Cond.instanceMethod yX0_moveRow, Cond.selects RX0 yX0_moveRow yX0_moveRow, Cond.code yX0_moveRow cX0_moveRow 4 none, Cond.methodLink RX0 130 yX0_packFullBlocks, Cond.instanceMethod yX0_packFullBlocks, Cond.selects RX0 yX0_packFullBlocks yX0_packFullBlocks, Cond.code yX0_packFullBlocks cX0_packFullBlocks 2 none]
def wsL_law0 : List Cond := (wsL_law0_r1 ++ (wsL_law0_r2 ++ (wsL_law0_r3 ++ (wsL_law0_r4 ++ (wsL_law0_r5 ++ wsL_law0_r6))))) ++ wsX00 ++ ([] : List Cond)
def wsL_law : List Cond := wsL_law0 ++ (vx_atS RX0 49 "java/lang/IllegalStateException" ["java/lang/RuntimeException", "java/lang/Exception"]).filter goodWord
set_option maxRecDepth 20000 in
theorem wsL_law_in0 : ∀ w ∈ wsL_law0, w ∈ lw_tbl := fun w h => (goodIn_p wsL_law0 [31, 34, 179, 118, 138, 142, 101, 146, 149, 152, 156, 160, 163, 167, 171, 74, 78, 82, 86, 90, 94, 98, 104, 108, 111, 115, 122, 126, 130, 134] (by decide +kernel) (by decide +kernel) w h).1
theorem wsL_law_x0 : ∀ w ∈ (vx_atS RX0 49 "java/lang/IllegalStateException" ["java/lang/RuntimeException", "java/lang/Exception"]).filter goodWord, w ∈ lw_tbl := by decide +kernel
theorem wsL_law_in : ∀ w ∈ wsL_law, w ∈ lw_tbl := fun w h => (List.mem_append.mp h).elim (fun h => wsL_law_in0 w h) (fun h => wsL_law_x0 w h)
theorem inlX0 : ∀ w ∈ wsX00, w ∈ wsL_law := fun _ h => List.mem_append_left _ (List.mem_append_left _ (List.mem_append_right _ h))
theorem inX0 : ∀ w ∈ wsX00, w ∈ lw_tbl := fun w h => wsL_law_in w (inlX0 w h)
theorem inX1 : ∀ w ∈ wsX10, w ∈ lw_tbl := by decide +kernel
theorem inJ9 : ∀ w ∈ wsJ90, w ∈ lw_tbl := by decide +kernel
theorem inJ0 : ∀ w ∈ wsJ00, w ∈ lw_tbl := by decide +kernel
theorem dX0_init_0 : decode cX0_init 0 = .ok (.aload_n 0, 1) := by decide +kernel
theorem dX0_init_1 : decode cX0_init 1 = .ok (.invokespecial 3, 3) := by decide +kernel
theorem dX0_init_4 : decode cX0_init 4 = .ok (.aload_n 0, 1) := by decide +kernel
theorem dX0_init_5 : decode cX0_init 5 = .ok (.sipush 512, 3) := by decide +kernel
theorem dX0_init_8 : decode cX0_init 8 = .ok (.newarray .long, 2) := by decide +kernel
theorem dX0_init_10 : decode cX0_init 10 = .ok (.putfield 9, 3) := by decide +kernel
theorem dX0_init_13 : decode cX0_init 13 = .ok (.aload_n 0, 1) := by decide +kernel
theorem dX0_init_14 : decode cX0_init 14 = .ok (.iconst 0, 1) := by decide +kernel
theorem dX0_init_15 : decode cX0_init 15 = .ok (.putfield 13, 3) := by decide +kernel
theorem dX0_init_18 : decode cX0_init 18 = .ok (.aload_n 0, 1) := by decide +kernel
theorem dX0_init_19 : decode cX0_init 19 = .ok (.iconst 3, 1) := by decide +kernel
theorem dX0_init_20 : decode cX0_init 20 = .ok (.newarray .int, 2) := by decide +kernel
theorem dX0_init_22 : decode cX0_init 22 = .ok (.putfield 17, 3) := by decide +kernel
theorem dX0_init_25 : decode cX0_init 25 = .ok (.aload_n 0, 1) := by decide +kernel
theorem dX0_init_26 : decode cX0_init 26 = .ok (.iconst 3, 1) := by decide +kernel
theorem dX0_init_27 : decode cX0_init 27 = .ok (.newarray .int, 2) := by decide +kernel
theorem dX0_init_29 : decode cX0_init 29 = .ok (.putfield 21, 3) := by decide +kernel
theorem dX0_init_32 : decode cX0_init 32 = .ok (.aload_n 0, 1) := by decide +kernel
theorem dX0_init_33 : decode cX0_init 33 = .ok (.iconst 3, 1) := by decide +kernel
theorem dX0_init_34 : decode cX0_init 34 = .ok (.newarray .long, 2) := by decide +kernel
theorem dX0_init_36 : decode cX0_init 36 = .ok (.putfield 24, 3) := by decide +kernel
theorem dX0_init_39 : decode cX0_init 39 = .ok (.aload_n 0, 1) := by decide +kernel
theorem dX0_init_40 : decode cX0_init 40 = .ok (.iconst 0, 1) := by decide +kernel
theorem dX0_init_41 : decode cX0_init 41 = .ok (.putfield 27, 3) := by decide +kernel
theorem dX0_init_44 : decode cX0_init 44 = .ok (.aload_n 0, 1) := by decide +kernel
theorem dX0_init_45 : decode cX0_init 45 = .ok (.bipush 32, 2) := by decide +kernel
theorem dX0_init_47 : decode cX0_init 47 = .ok (.newarray .long, 2) := by decide +kernel
theorem dX0_init_49 : decode cX0_init 49 = .ok (.putfield 30, 3) := by decide +kernel
theorem dX0_init_52 : decode cX0_init 52 = .ok (.aload_n 0, 1) := by decide +kernel
theorem dX0_init_53 : decode cX0_init 53 = .ok (.bipush 32, 2) := by decide +kernel
theorem dX0_init_55 : decode cX0_init 55 = .ok (.newarray .long, 2) := by decide +kernel
theorem dX0_init_57 : decode cX0_init 57 = .ok (.putfield 33, 3) := by decide +kernel
theorem dX0_init_60 : decode cX0_init 60 = .ok (.aload_n 0, 1) := by decide +kernel
theorem dX0_init_61 : decode cX0_init 61 = .ok (.bipush 32, 2) := by decide +kernel
theorem dX0_init_63 : decode cX0_init 63 = .ok (.newarray .int, 2) := by decide +kernel
theorem dX0_init_65 : decode cX0_init 65 = .ok (.putfield 36, 3) := by decide +kernel
theorem dX0_init_68 : decode cX0_init 68 = .ok (.aload_n 0, 1) := by decide +kernel
theorem dX0_init_69 : decode cX0_init 69 = .ok (.bipush 32, 2) := by decide +kernel
theorem dX0_init_71 : decode cX0_init 71 = .ok (.newarray .int, 2) := by decide +kernel
theorem dX0_init_73 : decode cX0_init 73 = .ok (.putfield 39, 3) := by decide +kernel
theorem dX0_init_76 : decode cX0_init 76 = .ok (.aload_n 0, 1) := by decide +kernel
theorem dX0_init_77 : decode cX0_init 77 = .ok (.sipush 128, 3) := by decide +kernel
theorem dX0_init_80 : decode cX0_init 80 = .ok (.newarray .int, 2) := by decide +kernel
theorem dX0_init_82 : decode cX0_init 82 = .ok (.putfield 42, 3) := by decide +kernel
theorem dX0_init_85 : decode cX0_init 85 = .ok (.return_, 1) := by decide +kernel
set_option maxRecDepth 20000 in
theorem ggX0_append_X0_spot : GoodIn wsX0_append wsX0_spot := goodIn_r _ [8] (by decide +kernel) (by decide +kernel)
set_option maxRecDepth 20000 in
theorem gX0_append_X0_spot : GoodIn wsX0_append (va_wsS RX0 52 yX0_spot wsX0_spot) := goodIn_app (goodIn_of _ (by decide +kernel)) ggX0_append_X0_spot
set_option maxRecDepth 20000 in
theorem ggX0_append_X0_packBlock : GoodIn wsX0_append wsX0_packBlock := goodIn_r _ [12, 13, 14, 15, 7, 16, 17, 18, 19, 20, 5, 6, 8, 21, 22, 23, 24, 25, 26, 27, 4, 28, 29, 30, 31, 32, 33, 34, 35, 36, 37, 38, 39, 40, 41, 42, 43, 44, 45, 46, 47, 48, 49, 50, 51, 52, 53, 54, 55, 56, 57, 58, 59, 60, 61, 62, 63, 64] (by decide +kernel) (by decide +kernel)
set_option maxRecDepth 20000 in
theorem gX0_append_X0_packBlock : GoodIn wsX0_append (wsV RX0 56 RX0 yX0_packBlock wsX0_packBlock) := goodIn_app (goodIn_of _ (by decide +kernel)) ggX0_append_X0_packBlock
theorem dX0_append_0 : decode cX0_append 0 = .ok (.aload_n 0, 1) := by decide +kernel
theorem dX0_append_1 : decode cX0_append 1 = .ok (.getfield 13, 3) := by decide +kernel
theorem dX0_append_4 : decode cX0_append 4 = .ok (.sipush 128, 3) := by decide +kernel
theorem dX0_append_7 : decode cX0_append 7 = .ok (.if_icmp .lt 13, 3) := by decide +kernel
theorem dX0_append_10 : decode cX0_append 10 = .ok (.new 45, 3) := by decide +kernel
theorem dX0_append_13 : decode cX0_append 13 = .ok (.dup, 1) := by decide +kernel
theorem dX0_append_14 : decode cX0_append 14 = .ok (.ldc 47, 2) := by decide +kernel
theorem dX0_append_16 : decode cX0_append 16 = .ok (.invokespecial 49, 3) := by decide +kernel
theorem dX0_append_19 : decode cX0_append 19 = .ok (.athrow, 1) := by decide +kernel
theorem dX0_append_20 : decode cX0_append 20 = .ok (.aload_n 0, 1) := by decide +kernel
theorem dX0_append_21 : decode cX0_append 21 = .ok (.getfield 13, 3) := by decide +kernel
theorem dX0_append_24 : decode cX0_append 24 = .ok (.istore 6, 2) := by decide +kernel
theorem dX0_append_26 : decode cX0_append 26 = .ok (.aload_n 0, 1) := by decide +kernel
theorem dX0_append_27 : decode cX0_append 27 = .ok (.getfield 9, 3) := by decide +kernel
theorem dX0_append_30 : decode cX0_append 30 = .ok (.iload 6, 2) := by decide +kernel
theorem dX0_append_32 : decode cX0_append 32 = .ok (.iconst 0, 1) := by decide +kernel
theorem dX0_append_33 : decode cX0_append 33 = .ok (.invokestatic 52, 3) := by decide +kernel
theorem dX0_append_36 : decode cX0_append 36 = .ok (.iload_n 1, 1) := by decide +kernel
theorem dX0_append_37 : decode cX0_append 37 = .ok (.i2l, 1) := by decide +kernel
theorem dX0_append_38 : decode cX0_append 38 = .ok (.lastore, 1) := by decide +kernel
theorem dX0_append_39 : decode cX0_append 39 = .ok (.aload_n 0, 1) := by decide +kernel
theorem dX0_append_40 : decode cX0_append 40 = .ok (.getfield 9, 3) := by decide +kernel
theorem dX0_append_43 : decode cX0_append 43 = .ok (.iload 6, 2) := by decide +kernel
theorem dX0_append_45 : decode cX0_append 45 = .ok (.iconst 1, 1) := by decide +kernel
theorem dX0_append_46 : decode cX0_append 46 = .ok (.invokestatic 52, 3) := by decide +kernel
theorem dX0_append_49 : decode cX0_append 49 = .ok (.iload_n 2, 1) := by decide +kernel
theorem dX0_append_50 : decode cX0_append 50 = .ok (.i2l, 1) := by decide +kernel
theorem dX0_append_51 : decode cX0_append 51 = .ok (.lastore, 1) := by decide +kernel
theorem dX0_append_52 : decode cX0_append 52 = .ok (.aload_n 0, 1) := by decide +kernel
theorem dX0_append_53 : decode cX0_append 53 = .ok (.getfield 9, 3) := by decide +kernel
theorem dX0_append_56 : decode cX0_append 56 = .ok (.iload 6, 2) := by decide +kernel
theorem dX0_append_58 : decode cX0_append 58 = .ok (.iconst 2, 1) := by decide +kernel
theorem dX0_append_59 : decode cX0_append 59 = .ok (.invokestatic 52, 3) := by decide +kernel
theorem dX0_append_62 : decode cX0_append 62 = .ok (.iload_n 3, 1) := by decide +kernel
theorem dX0_append_63 : decode cX0_append 63 = .ok (.i2l, 1) := by decide +kernel
theorem dX0_append_64 : decode cX0_append 64 = .ok (.lastore, 1) := by decide +kernel
theorem dX0_append_65 : decode cX0_append 65 = .ok (.aload_n 0, 1) := by decide +kernel
theorem dX0_append_66 : decode cX0_append 66 = .ok (.getfield 9, 3) := by decide +kernel
theorem dX0_append_69 : decode cX0_append 69 = .ok (.iload 6, 2) := by decide +kernel
theorem dX0_append_71 : decode cX0_append 71 = .ok (.iconst 3, 1) := by decide +kernel
theorem dX0_append_72 : decode cX0_append 72 = .ok (.invokestatic 52, 3) := by decide +kernel
theorem dX0_append_75 : decode cX0_append 75 = .ok (.lload 4, 2) := by decide +kernel
theorem dX0_append_77 : decode cX0_append 77 = .ok (.lastore, 1) := by decide +kernel
theorem dX0_append_78 : decode cX0_append 78 = .ok (.aload_n 0, 1) := by decide +kernel
theorem dX0_append_79 : decode cX0_append 79 = .ok (.iload 6, 2) := by decide +kernel
theorem dX0_append_81 : decode cX0_append 81 = .ok (.iconst 1, 1) := by decide +kernel
theorem dX0_append_82 : decode cX0_append 82 = .ok (.iadd, 1) := by decide +kernel
theorem dX0_append_83 : decode cX0_append 83 = .ok (.putfield 13, 3) := by decide +kernel
theorem dX0_append_86 : decode cX0_append 86 = .ok (.aload_n 0, 1) := by decide +kernel
theorem dX0_append_87 : decode cX0_append 87 = .ok (.getfield 13, 3) := by decide +kernel
theorem dX0_append_90 : decode cX0_append 90 = .ok (.bipush 16, 2) := by decide +kernel
theorem dX0_append_92 : decode cX0_append 92 = .ok (.irem, 1) := by decide +kernel
theorem dX0_append_93 : decode cX0_append 93 = .ok (.ifCond .ne 12, 3) := by decide +kernel
theorem dX0_append_96 : decode cX0_append 96 = .ok (.aload_n 0, 1) := by decide +kernel
theorem dX0_append_97 : decode cX0_append 97 = .ok (.iload 6, 2) := by decide +kernel
theorem dX0_append_99 : decode cX0_append 99 = .ok (.bipush 16, 2) := by decide +kernel
theorem dX0_append_101 : decode cX0_append 101 = .ok (.idiv, 1) := by decide +kernel
theorem dX0_append_102 : decode cX0_append 102 = .ok (.invokevirtual 56, 3) := by decide +kernel
theorem dX0_append_105 : decode cX0_append 105 = .ok (.iload 6, 2) := by decide +kernel
theorem dX0_append_107 : decode cX0_append 107 = .ok (.ireturn, 1) := by decide +kernel
theorem dX0_rows_0 : decode cX0_rows 0 = .ok (.aload_n 0, 1) := by decide +kernel
theorem dX0_rows_1 : decode cX0_rows 1 = .ok (.getfield 13, 3) := by decide +kernel
theorem dX0_rows_4 : decode cX0_rows 4 = .ok (.ireturn, 1) := by decide +kernel
theorem dX0_all_0 : decode cX0_all 0 = .ok (.aload_n 0, 1) := by decide +kernel
theorem dX0_all_1 : decode cX0_all 1 = .ok (.getfield 27, 3) := by decide +kernel
theorem dX0_all_4 : decode cX0_all 4 = .ok (.istore_n 1, 1) := by decide +kernel
theorem dX0_all_5 : decode cX0_all 5 = .ok (.aload_n 0, 1) := by decide +kernel
theorem dX0_all_6 : decode cX0_all 6 = .ok (.iconst 0, 1) := by decide +kernel
theorem dX0_all_7 : decode cX0_all 7 = .ok (.putfield 27, 3) := by decide +kernel
theorem dX0_all_10 : decode cX0_all 10 = .ok (.iload_n 1, 1) := by decide +kernel
theorem dX0_all_11 : decode cX0_all 11 = .ok (.ireturn, 1) := by decide +kernel
set_option maxRecDepth 20000 in
theorem ggX0_chosen_X0_pick : GoodIn wsX0_chosen wsX0_pick := goodIn_r _ [5, 6, 7, 8, 4, 9, 10, 11, 12, 13, 14, 15, 16, 17, 18, 19, 20, 21, 22, 23, 24, 25, 26, 27, 28, 29, 30, 31, 32, 33, 34, 35, 36, 37, 38, 39, 40, 41, 42, 43, 44, 45, 46, 47, 48, 49, 50, 51, 52, 53, 54, 55, 56, 57, 58] (by decide +kernel) (by decide +kernel)
set_option maxRecDepth 20000 in
theorem gX0_chosen_X0_pick : GoodIn wsX0_chosen (wsV RX0 75 RX0 yX0_pick wsX0_pick) := goodIn_app (goodIn_of _ (by decide +kernel)) ggX0_chosen_X0_pick
theorem dX0_chosen_0 : decode cX0_chosen 0 = .ok (.aload_n 0, 1) := by decide +kernel
theorem dX0_chosen_1 : decode cX0_chosen 1 = .ok (.invokevirtual 75, 3) := by decide +kernel
theorem dX0_chosen_4 : decode cX0_chosen 4 = .ok (.ireturn, 1) := by decide +kernel
set_option maxRecDepth 20000 in
theorem ggX0_blocks_X0_startedBlocks : GoodIn wsX0_blocks wsX0_startedBlocks := goodIn_r _ [5, 6, 27, 28, 29, 30, 31, 32, 33, 34, 35, 36, 37] (by decide +kernel) (by decide +kernel)
set_option maxRecDepth 20000 in
theorem gX0_blocks_X0_startedBlocks : GoodIn wsX0_blocks (wsV RX0 81 RX0 yX0_startedBlocks wsX0_startedBlocks) := goodIn_app (goodIn_of _ (by decide +kernel)) ggX0_blocks_X0_startedBlocks
set_option maxRecDepth 20000 in
theorem ggX0_blocks_X0_isPassedOver : GoodIn wsX0_blocks wsX0_isPassedOver := goodIn_r _ [10, 11, 12, 13, 14, 15, 16, 17, 18, 19, 4, 20, 6, 21, 22, 23, 24, 25, 26, 27, 28, 29, 30, 31, 32, 33, 34, 35, 36, 37] (by decide +kernel) (by decide +kernel)
set_option maxRecDepth 20000 in
theorem gX0_blocks_X0_isPassedOver : GoodIn wsX0_blocks (wsV RX0 84 RX0 yX0_isPassedOver wsX0_isPassedOver) := goodIn_app (goodIn_of _ (by decide +kernel)) ggX0_blocks_X0_isPassedOver
theorem dX0_blocks_0 : decode cX0_blocks 0 = .ok (.iconst 0, 1) := by decide +kernel
theorem dX0_blocks_1 : decode cX0_blocks 1 = .ok (.istore_n 1, 1) := by decide +kernel
theorem dX0_blocks_2 : decode cX0_blocks 2 = .ok (.iconst 0, 1) := by decide +kernel
theorem dX0_blocks_3 : decode cX0_blocks 3 = .ok (.istore_n 2, 1) := by decide +kernel
theorem dX0_blocks_4 : decode cX0_blocks 4 = .ok (.iload_n 2, 1) := by decide +kernel
theorem dX0_blocks_5 : decode cX0_blocks 5 = .ok (.aload_n 0, 1) := by decide +kernel
theorem dX0_blocks_6 : decode cX0_blocks 6 = .ok (.invokevirtual 81, 3) := by decide +kernel
theorem dX0_blocks_9 : decode cX0_blocks 9 = .ok (.if_icmp .ge 20, 3) := by decide +kernel
theorem dX0_blocks_12 : decode cX0_blocks 12 = .ok (.aload_n 0, 1) := by decide +kernel
theorem dX0_blocks_13 : decode cX0_blocks 13 = .ok (.iload_n 2, 1) := by decide +kernel
theorem dX0_blocks_14 : decode cX0_blocks 14 = .ok (.invokevirtual 84, 3) := by decide +kernel
theorem dX0_blocks_17 : decode cX0_blocks 17 = .ok (.ifCond .ne 6, 3) := by decide +kernel
theorem dX0_blocks_20 : decode cX0_blocks 20 = .ok (.iinc 1 1, 3) := by decide +kernel
theorem dX0_blocks_23 : decode cX0_blocks 23 = .ok (.iinc 2 1, 3) := by decide +kernel
theorem dX0_blocks_26 : decode cX0_blocks 26 = .ok (.goto (-22), 3) := by decide +kernel
theorem dX0_blocks_29 : decode cX0_blocks 29 = .ok (.iload_n 1, 1) := by decide +kernel
theorem dX0_blocks_30 : decode cX0_blocks 30 = .ok (.ireturn, 1) := by decide +kernel
set_option maxRecDepth 20000 in
theorem ggX0_purge_X0_pick : GoodIn wsX0_purge wsX0_pick := goodIn_r _ [7, 8, 9, 10, 6, 11, 1, 12, 13, 14, 15, 16, 17, 18, 19, 20, 21, 22, 23, 24, 25, 26, 27, 28, 29, 30, 31, 32, 33, 34, 35, 36, 37, 38, 39, 2, 40, 41, 42, 43, 44, 45, 46, 47, 95, 96, 97, 98, 99, 100, 101, 102, 103, 104, 105] (by decide +kernel) (by decide +kernel)
set_option maxRecDepth 20000 in
theorem gX0_purge_X0_pick : GoodIn wsX0_purge (wsV RX0 75 RX0 yX0_pick wsX0_pick) := goodIn_app (goodIn_of _ (by decide +kernel)) ggX0_purge_X0_pick
set_option maxRecDepth 20000 in
theorem ggX0_purge_X0_moveRow : GoodIn wsX0_purge wsX0_moveRow := goodIn_r _ [51, 44, 45, 46, 6, 47, 95, 96, 97, 98, 99, 100, 101, 102, 103, 104, 105] (by decide +kernel) (by decide +kernel)
set_option maxRecDepth 20000 in
theorem gX0_purge_X0_moveRow : GoodIn wsX0_purge (wsV RX0 126 RX0 yX0_moveRow wsX0_moveRow) := goodIn_app (goodIn_of _ (by decide +kernel)) ggX0_purge_X0_moveRow
set_option maxRecDepth 20000 in
theorem ggX0_purge_X0_packFullBlocks : GoodIn wsX0_purge wsX0_packFullBlocks := goodIn_r _ [55, 22, 23, 24, 6, 25, 1, 56, 57, 58, 59, 60, 61, 62, 63, 21, 20, 64, 65, 45, 46, 47, 26, 27, 28, 66, 67, 68, 69, 44, 70, 71, 38, 72, 73, 74, 75, 76, 77, 78, 79, 80, 81, 82, 83, 84, 85, 86, 87, 88, 89, 90, 91, 92, 93, 94, 95, 96, 97, 98, 99, 100, 101, 102, 103, 104, 105] (by decide +kernel) (by decide +kernel)
set_option maxRecDepth 20000 in
theorem gX0_purge_X0_packFullBlocks : GoodIn wsX0_purge (wsV RX0 130 RX0 yX0_packFullBlocks wsX0_packFullBlocks) := goodIn_app (goodIn_of _ (by decide +kernel)) ggX0_purge_X0_packFullBlocks
theorem dX0_purge_0 : decode cX0_purge 0 = .ok (.aload_n 0, 1) := by decide +kernel
theorem dX0_purge_1 : decode cX0_purge 1 = .ok (.invokevirtual 75, 3) := by decide +kernel
theorem dX0_purge_4 : decode cX0_purge 4 = .ok (.istore_n 1, 1) := by decide +kernel
theorem dX0_purge_5 : decode cX0_purge 5 = .ok (.iconst 0, 1) := by decide +kernel
theorem dX0_purge_6 : decode cX0_purge 6 = .ok (.istore_n 2, 1) := by decide +kernel
theorem dX0_purge_7 : decode cX0_purge 7 = .ok (.iconst 0, 1) := by decide +kernel
theorem dX0_purge_8 : decode cX0_purge 8 = .ok (.istore_n 3, 1) := by decide +kernel
theorem dX0_purge_9 : decode cX0_purge 9 = .ok (.iconst 0, 1) := by decide +kernel
theorem dX0_purge_10 : decode cX0_purge 10 = .ok (.istore 4, 2) := by decide +kernel
theorem dX0_purge_12 : decode cX0_purge 12 = .ok (.iload 4, 2) := by decide +kernel
theorem dX0_purge_14 : decode cX0_purge 14 = .ok (.aload_n 0, 1) := by decide +kernel
theorem dX0_purge_15 : decode cX0_purge 15 = .ok (.getfield 13, 3) := by decide +kernel
theorem dX0_purge_18 : decode cX0_purge 18 = .ok (.if_icmp .ge 41, 3) := by decide +kernel
theorem dX0_purge_21 : decode cX0_purge 21 = .ok (.iload_n 3, 1) := by decide +kernel
theorem dX0_purge_22 : decode cX0_purge 22 = .ok (.iload_n 1, 1) := by decide +kernel
theorem dX0_purge_23 : decode cX0_purge 23 = .ok (.if_icmp .ge 20, 3) := by decide +kernel
theorem dX0_purge_26 : decode cX0_purge 26 = .ok (.aload_n 0, 1) := by decide +kernel
theorem dX0_purge_27 : decode cX0_purge 27 = .ok (.getfield 42, 3) := by decide +kernel
theorem dX0_purge_30 : decode cX0_purge 30 = .ok (.iload_n 3, 1) := by decide +kernel
theorem dX0_purge_31 : decode cX0_purge 31 = .ok (.iaload, 1) := by decide +kernel
theorem dX0_purge_32 : decode cX0_purge 32 = .ok (.iload 4, 2) := by decide +kernel
theorem dX0_purge_34 : decode cX0_purge 34 = .ok (.if_icmp .ne 9, 3) := by decide +kernel
theorem dX0_purge_37 : decode cX0_purge 37 = .ok (.iinc 3 1, 3) := by decide +kernel
theorem dX0_purge_40 : decode cX0_purge 40 = .ok (.goto 13, 3) := by decide +kernel
theorem dX0_purge_43 : decode cX0_purge 43 = .ok (.aload_n 0, 1) := by decide +kernel
theorem dX0_purge_44 : decode cX0_purge 44 = .ok (.iload 4, 2) := by decide +kernel
theorem dX0_purge_46 : decode cX0_purge 46 = .ok (.iload_n 2, 1) := by decide +kernel
theorem dX0_purge_47 : decode cX0_purge 47 = .ok (.invokevirtual 126, 3) := by decide +kernel
theorem dX0_purge_50 : decode cX0_purge 50 = .ok (.iinc 2 1, 3) := by decide +kernel
theorem dX0_purge_53 : decode cX0_purge 53 = .ok (.iinc 4 1, 3) := by decide +kernel
theorem dX0_purge_56 : decode cX0_purge 56 = .ok (.goto (-44), 3) := by decide +kernel
theorem dX0_purge_59 : decode cX0_purge 59 = .ok (.aload_n 0, 1) := by decide +kernel
theorem dX0_purge_60 : decode cX0_purge 60 = .ok (.iload_n 2, 1) := by decide +kernel
theorem dX0_purge_61 : decode cX0_purge 61 = .ok (.putfield 13, 3) := by decide +kernel
theorem dX0_purge_64 : decode cX0_purge 64 = .ok (.aload_n 0, 1) := by decide +kernel
theorem dX0_purge_65 : decode cX0_purge 65 = .ok (.invokevirtual 130, 3) := by decide +kernel
theorem dX0_purge_68 : decode cX0_purge 68 = .ok (.iload_n 1, 1) := by decide +kernel
theorem dX0_purge_69 : decode cX0_purge 69 = .ok (.ireturn, 1) := by decide +kernel
theorem dX0_spot_0 : decode cX0_spot 0 = .ok (.iload_n 1, 1) := by decide +kernel
theorem dX0_spot_1 : decode cX0_spot 1 = .ok (.sipush 128, 3) := by decide +kernel
theorem dX0_spot_4 : decode cX0_spot 4 = .ok (.imul, 1) := by decide +kernel
theorem dX0_spot_5 : decode cX0_spot 5 = .ok (.iload_n 0, 1) := by decide +kernel
theorem dX0_spot_6 : decode cX0_spot 6 = .ok (.iadd, 1) := by decide +kernel
theorem dX0_spot_7 : decode cX0_spot 7 = .ok (.ireturn, 1) := by decide +kernel
theorem dX0_place_0 : decode cX0_place 0 = .ok (.iload_n 0, 1) := by decide +kernel
theorem dX0_place_1 : decode cX0_place 1 = .ok (.iconst 4, 1) := by decide +kernel
theorem dX0_place_2 : decode cX0_place 2 = .ok (.imul, 1) := by decide +kernel
theorem dX0_place_3 : decode cX0_place 3 = .ok (.iload_n 1, 1) := by decide +kernel
theorem dX0_place_4 : decode cX0_place 4 = .ok (.iadd, 1) := by decide +kernel
theorem dX0_place_5 : decode cX0_place 5 = .ok (.ireturn, 1) := by decide +kernel
theorem dX0_fullBlocks_0 : decode cX0_fullBlocks 0 = .ok (.aload_n 0, 1) := by decide +kernel
theorem dX0_fullBlocks_1 : decode cX0_fullBlocks 1 = .ok (.getfield 13, 3) := by decide +kernel
theorem dX0_fullBlocks_4 : decode cX0_fullBlocks 4 = .ok (.bipush 16, 2) := by decide +kernel
theorem dX0_fullBlocks_6 : decode cX0_fullBlocks 6 = .ok (.idiv, 1) := by decide +kernel
theorem dX0_fullBlocks_7 : decode cX0_fullBlocks 7 = .ok (.ireturn, 1) := by decide +kernel
theorem dX0_startedBlocks_0 : decode cX0_startedBlocks 0 = .ok (.aload_n 0, 1) := by decide +kernel
theorem dX0_startedBlocks_1 : decode cX0_startedBlocks 1 = .ok (.getfield 13, 3) := by decide +kernel
theorem dX0_startedBlocks_4 : decode cX0_startedBlocks 4 = .ok (.bipush 16, 2) := by decide +kernel
theorem dX0_startedBlocks_6 : decode cX0_startedBlocks 6 = .ok (.iadd, 1) := by decide +kernel
theorem dX0_startedBlocks_7 : decode cX0_startedBlocks 7 = .ok (.iconst 1, 1) := by decide +kernel
theorem dX0_startedBlocks_8 : decode cX0_startedBlocks 8 = .ok (.isub, 1) := by decide +kernel
theorem dX0_startedBlocks_9 : decode cX0_startedBlocks 9 = .ok (.bipush 16, 2) := by decide +kernel
theorem dX0_startedBlocks_11 : decode cX0_startedBlocks 11 = .ok (.idiv, 1) := by decide +kernel
theorem dX0_startedBlocks_12 : decode cX0_startedBlocks 12 = .ok (.ireturn, 1) := by decide +kernel
set_option maxRecDepth 20000 in
theorem ggX0_moveRow_X0_spot : GoodIn wsX0_moveRow wsX0_spot := goodIn_r _ [5] (by decide +kernel) (by decide +kernel)
set_option maxRecDepth 20000 in
theorem gX0_moveRow_X0_spot : GoodIn wsX0_moveRow (va_wsS RX0 52 yX0_spot wsX0_spot) := goodIn_app (goodIn_of _ (by decide +kernel)) ggX0_moveRow_X0_spot
theorem dX0_moveRow_0 : decode cX0_moveRow 0 = .ok (.iconst 0, 1) := by decide +kernel
theorem dX0_moveRow_1 : decode cX0_moveRow 1 = .ok (.istore_n 3, 1) := by decide +kernel
theorem dX0_moveRow_2 : decode cX0_moveRow 2 = .ok (.iload_n 3, 1) := by decide +kernel
theorem dX0_moveRow_3 : decode cX0_moveRow 3 = .ok (.iconst 4, 1) := by decide +kernel
theorem dX0_moveRow_4 : decode cX0_moveRow 4 = .ok (.if_icmp .ge 29, 3) := by decide +kernel
theorem dX0_moveRow_7 : decode cX0_moveRow 7 = .ok (.aload_n 0, 1) := by decide +kernel
theorem dX0_moveRow_8 : decode cX0_moveRow 8 = .ok (.getfield 9, 3) := by decide +kernel
theorem dX0_moveRow_11 : decode cX0_moveRow 11 = .ok (.iload_n 2, 1) := by decide +kernel
theorem dX0_moveRow_12 : decode cX0_moveRow 12 = .ok (.iload_n 3, 1) := by decide +kernel
theorem dX0_moveRow_13 : decode cX0_moveRow 13 = .ok (.invokestatic 52, 3) := by decide +kernel
theorem dX0_moveRow_16 : decode cX0_moveRow 16 = .ok (.aload_n 0, 1) := by decide +kernel
theorem dX0_moveRow_17 : decode cX0_moveRow 17 = .ok (.getfield 9, 3) := by decide +kernel
theorem dX0_moveRow_20 : decode cX0_moveRow 20 = .ok (.iload_n 1, 1) := by decide +kernel
theorem dX0_moveRow_21 : decode cX0_moveRow 21 = .ok (.iload_n 3, 1) := by decide +kernel
theorem dX0_moveRow_22 : decode cX0_moveRow 22 = .ok (.invokestatic 52, 3) := by decide +kernel
theorem dX0_moveRow_25 : decode cX0_moveRow 25 = .ok (.laload, 1) := by decide +kernel
theorem dX0_moveRow_26 : decode cX0_moveRow 26 = .ok (.lastore, 1) := by decide +kernel
theorem dX0_moveRow_27 : decode cX0_moveRow 27 = .ok (.iinc 3 1, 3) := by decide +kernel
theorem dX0_moveRow_30 : decode cX0_moveRow 30 = .ok (.goto (-28), 3) := by decide +kernel
theorem dX0_moveRow_33 : decode cX0_moveRow 33 = .ok (.return_, 1) := by decide +kernel
set_option maxRecDepth 20000 in
theorem ggX0_pick_X0_startedBlocks : GoodIn wsX0_pick wsX0_startedBlocks := goodIn_r _ [5, 6, 44, 45, 46, 47, 48, 49, 50, 51, 52, 53, 54] (by decide +kernel) (by decide +kernel)
set_option maxRecDepth 20000 in
theorem gX0_pick_X0_startedBlocks : GoodIn wsX0_pick (wsV RX0 81 RX0 yX0_startedBlocks wsX0_startedBlocks) := goodIn_app (goodIn_of _ (by decide +kernel)) ggX0_pick_X0_startedBlocks
set_option maxRecDepth 20000 in
theorem ggX0_pick_X0_isPassedOver : GoodIn wsX0_pick wsX0_isPassedOver := goodIn_r _ [10, 11, 12, 13, 14, 15, 16, 17, 18, 19, 4, 20, 6, 21, 22, 23, 24, 25, 26, 44, 45, 46, 47, 48, 49, 50, 51, 52, 53, 54] (by decide +kernel) (by decide +kernel)
set_option maxRecDepth 20000 in
theorem gX0_pick_X0_isPassedOver : GoodIn wsX0_pick (wsV RX0 84 RX0 yX0_isPassedOver wsX0_isPassedOver) := goodIn_app (goodIn_of _ (by decide +kernel)) ggX0_pick_X0_isPassedOver
set_option maxRecDepth 20000 in
theorem ggX0_pick_X0_pickFromBlock : GoodIn wsX0_pick wsX0_pickFromBlock := goodIn_r _ [30, 6, 31, 32, 33, 34, 35, 36, 37, 38, 4, 39, 11, 40, 12, 13, 14, 41, 42, 43, 24, 25, 26, 44, 45, 46, 47, 48, 49, 50, 51, 52, 53, 54] (by decide +kernel) (by decide +kernel)
set_option maxRecDepth 20000 in
theorem gX0_pick_X0_pickFromBlock : GoodIn wsX0_pick (wsV RX0 140 RX0 yX0_pickFromBlock wsX0_pickFromBlock) := goodIn_app (goodIn_of _ (by decide +kernel)) ggX0_pick_X0_pickFromBlock
theorem dX0_pick_0 : decode cX0_pick 0 = .ok (.iconst 0, 1) := by decide +kernel
theorem dX0_pick_1 : decode cX0_pick 1 = .ok (.istore_n 1, 1) := by decide +kernel
theorem dX0_pick_2 : decode cX0_pick 2 = .ok (.iconst 0, 1) := by decide +kernel
theorem dX0_pick_3 : decode cX0_pick 3 = .ok (.istore_n 2, 1) := by decide +kernel
theorem dX0_pick_4 : decode cX0_pick 4 = .ok (.iload_n 2, 1) := by decide +kernel
theorem dX0_pick_5 : decode cX0_pick 5 = .ok (.aload_n 0, 1) := by decide +kernel
theorem dX0_pick_6 : decode cX0_pick 6 = .ok (.invokevirtual 81, 3) := by decide +kernel
theorem dX0_pick_9 : decode cX0_pick 9 = .ok (.if_icmp .ge 24, 3) := by decide +kernel
theorem dX0_pick_12 : decode cX0_pick 12 = .ok (.aload_n 0, 1) := by decide +kernel
theorem dX0_pick_13 : decode cX0_pick 13 = .ok (.iload_n 2, 1) := by decide +kernel
theorem dX0_pick_14 : decode cX0_pick 14 = .ok (.invokevirtual 84, 3) := by decide +kernel
theorem dX0_pick_17 : decode cX0_pick 17 = .ok (.ifCond .ne 10, 3) := by decide +kernel
theorem dX0_pick_20 : decode cX0_pick 20 = .ok (.aload_n 0, 1) := by decide +kernel
theorem dX0_pick_21 : decode cX0_pick 21 = .ok (.iload_n 2, 1) := by decide +kernel
theorem dX0_pick_22 : decode cX0_pick 22 = .ok (.iload_n 1, 1) := by decide +kernel
theorem dX0_pick_23 : decode cX0_pick 23 = .ok (.invokevirtual 140, 3) := by decide +kernel
theorem dX0_pick_26 : decode cX0_pick 26 = .ok (.istore_n 1, 1) := by decide +kernel
theorem dX0_pick_27 : decode cX0_pick 27 = .ok (.iinc 2 1, 3) := by decide +kernel
theorem dX0_pick_30 : decode cX0_pick 30 = .ok (.goto (-26), 3) := by decide +kernel
theorem dX0_pick_33 : decode cX0_pick 33 = .ok (.iload_n 1, 1) := by decide +kernel
theorem dX0_pick_34 : decode cX0_pick 34 = .ok (.ireturn, 1) := by decide +kernel
set_option maxRecDepth 20000 in
theorem ggX0_pickFromBlock_X0_isChosen : GoodIn wsX0_pickFromBlock wsX0_isChosen := goodIn_r _ [11, 12, 13, 14, 15, 16, 17, 18, 10, 19, 20, 21, 22, 23, 24, 25, 26, 27, 28, 29, 30, 31, 32, 33] (by decide +kernel) (by decide +kernel)
set_option maxRecDepth 20000 in
theorem gX0_pickFromBlock_X0_isChosen : GoodIn wsX0_pickFromBlock (wsV RX0 148 RX0 yX0_isChosen wsX0_isChosen) := goodIn_app (goodIn_of _ (by decide +kernel)) ggX0_pickFromBlock_X0_isChosen
theorem dX0_pickFromBlock_0 : decode cX0_pickFromBlock 0 = .ok (.iload_n 2, 1) := by decide +kernel
theorem dX0_pickFromBlock_1 : decode cX0_pickFromBlock 1 = .ok (.istore_n 3, 1) := by decide +kernel
theorem dX0_pickFromBlock_2 : decode cX0_pickFromBlock 2 = .ok (.aload_n 0, 1) := by decide +kernel
theorem dX0_pickFromBlock_3 : decode cX0_pickFromBlock 3 = .ok (.getfield 13, 3) := by decide +kernel
theorem dX0_pickFromBlock_6 : decode cX0_pickFromBlock 6 = .ok (.iload_n 1, 1) := by decide +kernel
theorem dX0_pickFromBlock_7 : decode cX0_pickFromBlock 7 = .ok (.iconst 1, 1) := by decide +kernel
theorem dX0_pickFromBlock_8 : decode cX0_pickFromBlock 8 = .ok (.iadd, 1) := by decide +kernel
theorem dX0_pickFromBlock_9 : decode cX0_pickFromBlock 9 = .ok (.bipush 16, 2) := by decide +kernel
theorem dX0_pickFromBlock_11 : decode cX0_pickFromBlock 11 = .ok (.imul, 1) := by decide +kernel
theorem dX0_pickFromBlock_12 : decode cX0_pickFromBlock 12 = .ok (.invokestatic 143, 3) := by decide +kernel
theorem dX0_pickFromBlock_15 : decode cX0_pickFromBlock 15 = .ok (.istore 4, 2) := by decide +kernel
theorem dX0_pickFromBlock_17 : decode cX0_pickFromBlock 17 = .ok (.iload_n 1, 1) := by decide +kernel
theorem dX0_pickFromBlock_18 : decode cX0_pickFromBlock 18 = .ok (.bipush 16, 2) := by decide +kernel
theorem dX0_pickFromBlock_20 : decode cX0_pickFromBlock 20 = .ok (.imul, 1) := by decide +kernel
theorem dX0_pickFromBlock_21 : decode cX0_pickFromBlock 21 = .ok (.istore 5, 2) := by decide +kernel
theorem dX0_pickFromBlock_23 : decode cX0_pickFromBlock 23 = .ok (.iload 5, 2) := by decide +kernel
theorem dX0_pickFromBlock_25 : decode cX0_pickFromBlock 25 = .ok (.iload 4, 2) := by decide +kernel
theorem dX0_pickFromBlock_27 : decode cX0_pickFromBlock 27 = .ok (.if_icmp .ge 29, 3) := by decide +kernel
theorem dX0_pickFromBlock_30 : decode cX0_pickFromBlock 30 = .ok (.aload_n 0, 1) := by decide +kernel
theorem dX0_pickFromBlock_31 : decode cX0_pickFromBlock 31 = .ok (.iload 5, 2) := by decide +kernel
theorem dX0_pickFromBlock_33 : decode cX0_pickFromBlock 33 = .ok (.invokevirtual 148, 3) := by decide +kernel
theorem dX0_pickFromBlock_36 : decode cX0_pickFromBlock 36 = .ok (.ifCond .eq 14, 3) := by decide +kernel
theorem dX0_pickFromBlock_39 : decode cX0_pickFromBlock 39 = .ok (.aload_n 0, 1) := by decide +kernel
theorem dX0_pickFromBlock_40 : decode cX0_pickFromBlock 40 = .ok (.getfield 42, 3) := by decide +kernel
theorem dX0_pickFromBlock_43 : decode cX0_pickFromBlock 43 = .ok (.iload_n 3, 1) := by decide +kernel
theorem dX0_pickFromBlock_44 : decode cX0_pickFromBlock 44 = .ok (.iload 5, 2) := by decide +kernel
theorem dX0_pickFromBlock_46 : decode cX0_pickFromBlock 46 = .ok (.iastore, 1) := by decide +kernel
theorem dX0_pickFromBlock_47 : decode cX0_pickFromBlock 47 = .ok (.iinc 3 1, 3) := by decide +kernel
theorem dX0_pickFromBlock_50 : decode cX0_pickFromBlock 50 = .ok (.iinc 5 1, 3) := by decide +kernel
theorem dX0_pickFromBlock_53 : decode cX0_pickFromBlock 53 = .ok (.goto (-30), 3) := by decide +kernel
theorem dX0_pickFromBlock_56 : decode cX0_pickFromBlock 56 = .ok (.iload_n 3, 1) := by decide +kernel
theorem dX0_pickFromBlock_57 : decode cX0_pickFromBlock 57 = .ok (.ireturn, 1) := by decide +kernel
set_option maxRecDepth 20000 in
theorem ggX0_isChosen_X0_spot : GoodIn wsX0_isChosen wsX0_spot := goodIn_r _ [9] (by decide +kernel) (by decide +kernel)
set_option maxRecDepth 20000 in
theorem gX0_isChosen_X0_spot : GoodIn wsX0_isChosen (va_wsS RX0 52 yX0_spot wsX0_spot) := goodIn_app (goodIn_of _ (by decide +kernel)) ggX0_isChosen_X0_spot
set_option maxRecDepth 20000 in
theorem ggX0_isChosen_X0_couldHold : GoodIn wsX0_isChosen wsX0_couldHold := goodIn_r _ [12] (by decide +kernel) (by decide +kernel)
set_option maxRecDepth 20000 in
theorem gX0_isChosen_X0_couldHold : GoodIn wsX0_isChosen (va_wsS RX0 151 yX0_couldHold wsX0_couldHold) := goodIn_app (goodIn_of _ (by decide +kernel)) ggX0_isChosen_X0_couldHold
theorem dX0_isChosen_0 : decode cX0_isChosen 0 = .ok (.iconst 0, 1) := by decide +kernel
theorem dX0_isChosen_1 : decode cX0_isChosen 1 = .ok (.istore_n 2, 1) := by decide +kernel
theorem dX0_isChosen_2 : decode cX0_isChosen 2 = .ok (.iload_n 2, 1) := by decide +kernel
theorem dX0_isChosen_3 : decode cX0_isChosen 3 = .ok (.aload_n 0, 1) := by decide +kernel
theorem dX0_isChosen_4 : decode cX0_isChosen 4 = .ok (.getfield 27, 3) := by decide +kernel
theorem dX0_isChosen_7 : decode cX0_isChosen 7 = .ok (.if_icmp .ge 47, 3) := by decide +kernel
theorem dX0_isChosen_10 : decode cX0_isChosen 10 = .ok (.aload_n 0, 1) := by decide +kernel
theorem dX0_isChosen_11 : decode cX0_isChosen 11 = .ok (.getfield 9, 3) := by decide +kernel
theorem dX0_isChosen_14 : decode cX0_isChosen 14 = .ok (.iload_n 1, 1) := by decide +kernel
theorem dX0_isChosen_15 : decode cX0_isChosen 15 = .ok (.aload_n 0, 1) := by decide +kernel
theorem dX0_isChosen_16 : decode cX0_isChosen 16 = .ok (.getfield 17, 3) := by decide +kernel
theorem dX0_isChosen_19 : decode cX0_isChosen 19 = .ok (.iload_n 2, 1) := by decide +kernel
theorem dX0_isChosen_20 : decode cX0_isChosen 20 = .ok (.iaload, 1) := by decide +kernel
theorem dX0_isChosen_21 : decode cX0_isChosen 21 = .ok (.invokestatic 52, 3) := by decide +kernel
theorem dX0_isChosen_24 : decode cX0_isChosen 24 = .ok (.laload, 1) := by decide +kernel
theorem dX0_isChosen_25 : decode cX0_isChosen 25 = .ok (.lstore_n 3, 1) := by decide +kernel
theorem dX0_isChosen_26 : decode cX0_isChosen 26 = .ok (.aload_n 0, 1) := by decide +kernel
theorem dX0_isChosen_27 : decode cX0_isChosen 27 = .ok (.getfield 21, 3) := by decide +kernel
theorem dX0_isChosen_30 : decode cX0_isChosen 30 = .ok (.iload_n 2, 1) := by decide +kernel
theorem dX0_isChosen_31 : decode cX0_isChosen 31 = .ok (.iaload, 1) := by decide +kernel
theorem dX0_isChosen_32 : decode cX0_isChosen 32 = .ok (.aload_n 0, 1) := by decide +kernel
theorem dX0_isChosen_33 : decode cX0_isChosen 33 = .ok (.getfield 24, 3) := by decide +kernel
theorem dX0_isChosen_36 : decode cX0_isChosen 36 = .ok (.iload_n 2, 1) := by decide +kernel
theorem dX0_isChosen_37 : decode cX0_isChosen 37 = .ok (.laload, 1) := by decide +kernel
theorem dX0_isChosen_38 : decode cX0_isChosen 38 = .ok (.lload_n 3, 1) := by decide +kernel
theorem dX0_isChosen_39 : decode cX0_isChosen 39 = .ok (.lload_n 3, 1) := by decide +kernel
theorem dX0_isChosen_40 : decode cX0_isChosen 40 = .ok (.invokestatic 151, 3) := by decide +kernel
theorem dX0_isChosen_43 : decode cX0_isChosen 43 = .ok (.ifCond .ne 5, 3) := by decide +kernel
theorem dX0_isChosen_46 : decode cX0_isChosen 46 = .ok (.iconst 0, 1) := by decide +kernel
theorem dX0_isChosen_47 : decode cX0_isChosen 47 = .ok (.ireturn, 1) := by decide +kernel
theorem dX0_isChosen_48 : decode cX0_isChosen 48 = .ok (.iinc 2 1, 3) := by decide +kernel
theorem dX0_isChosen_51 : decode cX0_isChosen 51 = .ok (.goto (-49), 3) := by decide +kernel
theorem dX0_isChosen_54 : decode cX0_isChosen 54 = .ok (.iconst 1, 1) := by decide +kernel
theorem dX0_isChosen_55 : decode cX0_isChosen 55 = .ok (.ireturn, 1) := by decide +kernel
set_option maxRecDepth 20000 in
theorem ggX0_isPassedOver_X0_fullBlocks : GoodIn wsX0_isPassedOver wsX0_fullBlocks := goodIn_r _ [11, 12, 19, 20, 21, 22, 23, 24, 25, 26, 27, 28, 29] (by decide +kernel) (by decide +kernel)
set_option maxRecDepth 20000 in
theorem gX0_isPassedOver_X0_fullBlocks : GoodIn wsX0_isPassedOver (wsV RX0 135 RX0 yX0_fullBlocks wsX0_fullBlocks) := goodIn_app (goodIn_of _ (by decide +kernel)) ggX0_isPassedOver_X0_fullBlocks
set_option maxRecDepth 20000 in
theorem ggX0_isPassedOver_X0_place : GoodIn wsX0_isPassedOver wsX0_place := goodIn_r _ [15] (by decide +kernel) (by decide +kernel)
set_option maxRecDepth 20000 in
theorem gX0_isPassedOver_X0_place : GoodIn wsX0_isPassedOver (va_wsS RX0 123 yX0_place wsX0_place) := goodIn_app (goodIn_of _ (by decide +kernel)) ggX0_isPassedOver_X0_place
set_option maxRecDepth 20000 in
theorem ggX0_isPassedOver_X0_couldHold : GoodIn wsX0_isPassedOver wsX0_couldHold := goodIn_r _ [18] (by decide +kernel) (by decide +kernel)
set_option maxRecDepth 20000 in
theorem gX0_isPassedOver_X0_couldHold : GoodIn wsX0_isPassedOver (va_wsS RX0 151 yX0_couldHold wsX0_couldHold) := goodIn_app (goodIn_of _ (by decide +kernel)) ggX0_isPassedOver_X0_couldHold
theorem dX0_isPassedOver_0 : decode cX0_isPassedOver 0 = .ok (.iload_n 1, 1) := by decide +kernel
theorem dX0_isPassedOver_1 : decode cX0_isPassedOver 1 = .ok (.aload_n 0, 1) := by decide +kernel
theorem dX0_isPassedOver_2 : decode cX0_isPassedOver 2 = .ok (.invokevirtual 135, 3) := by decide +kernel
theorem dX0_isPassedOver_5 : decode cX0_isPassedOver 5 = .ok (.if_icmp .lt 5, 3) := by decide +kernel
theorem dX0_isPassedOver_8 : decode cX0_isPassedOver 8 = .ok (.iconst 0, 1) := by decide +kernel
theorem dX0_isPassedOver_9 : decode cX0_isPassedOver 9 = .ok (.ireturn, 1) := by decide +kernel
theorem dX0_isPassedOver_10 : decode cX0_isPassedOver 10 = .ok (.iconst 0, 1) := by decide +kernel
theorem dX0_isPassedOver_11 : decode cX0_isPassedOver 11 = .ok (.istore_n 2, 1) := by decide +kernel
theorem dX0_isPassedOver_12 : decode cX0_isPassedOver 12 = .ok (.iload_n 2, 1) := by decide +kernel
theorem dX0_isPassedOver_13 : decode cX0_isPassedOver 13 = .ok (.aload_n 0, 1) := by decide +kernel
theorem dX0_isPassedOver_14 : decode cX0_isPassedOver 14 = .ok (.getfield 27, 3) := by decide +kernel
theorem dX0_isPassedOver_17 : decode cX0_isPassedOver 17 = .ok (.if_icmp .ge 52, 3) := by decide +kernel
theorem dX0_isPassedOver_20 : decode cX0_isPassedOver 20 = .ok (.iload_n 1, 1) := by decide +kernel
theorem dX0_isPassedOver_21 : decode cX0_isPassedOver 21 = .ok (.aload_n 0, 1) := by decide +kernel
theorem dX0_isPassedOver_22 : decode cX0_isPassedOver 22 = .ok (.getfield 17, 3) := by decide +kernel
theorem dX0_isPassedOver_25 : decode cX0_isPassedOver 25 = .ok (.iload_n 2, 1) := by decide +kernel
theorem dX0_isPassedOver_26 : decode cX0_isPassedOver 26 = .ok (.iaload, 1) := by decide +kernel
theorem dX0_isPassedOver_27 : decode cX0_isPassedOver 27 = .ok (.invokestatic 123, 3) := by decide +kernel
theorem dX0_isPassedOver_30 : decode cX0_isPassedOver 30 = .ok (.istore_n 3, 1) := by decide +kernel
theorem dX0_isPassedOver_31 : decode cX0_isPassedOver 31 = .ok (.aload_n 0, 1) := by decide +kernel
theorem dX0_isPassedOver_32 : decode cX0_isPassedOver 32 = .ok (.getfield 21, 3) := by decide +kernel
theorem dX0_isPassedOver_35 : decode cX0_isPassedOver 35 = .ok (.iload_n 2, 1) := by decide +kernel
theorem dX0_isPassedOver_36 : decode cX0_isPassedOver 36 = .ok (.iaload, 1) := by decide +kernel
theorem dX0_isPassedOver_37 : decode cX0_isPassedOver 37 = .ok (.aload_n 0, 1) := by decide +kernel
theorem dX0_isPassedOver_38 : decode cX0_isPassedOver 38 = .ok (.getfield 24, 3) := by decide +kernel
theorem dX0_isPassedOver_41 : decode cX0_isPassedOver 41 = .ok (.iload_n 2, 1) := by decide +kernel
theorem dX0_isPassedOver_42 : decode cX0_isPassedOver 42 = .ok (.laload, 1) := by decide +kernel
theorem dX0_isPassedOver_43 : decode cX0_isPassedOver 43 = .ok (.aload_n 0, 1) := by decide +kernel
theorem dX0_isPassedOver_44 : decode cX0_isPassedOver 44 = .ok (.getfield 30, 3) := by decide +kernel
theorem dX0_isPassedOver_47 : decode cX0_isPassedOver 47 = .ok (.iload_n 3, 1) := by decide +kernel
theorem dX0_isPassedOver_48 : decode cX0_isPassedOver 48 = .ok (.laload, 1) := by decide +kernel
theorem dX0_isPassedOver_49 : decode cX0_isPassedOver 49 = .ok (.aload_n 0, 1) := by decide +kernel
theorem dX0_isPassedOver_50 : decode cX0_isPassedOver 50 = .ok (.getfield 33, 3) := by decide +kernel
theorem dX0_isPassedOver_53 : decode cX0_isPassedOver 53 = .ok (.iload_n 3, 1) := by decide +kernel
theorem dX0_isPassedOver_54 : decode cX0_isPassedOver 54 = .ok (.laload, 1) := by decide +kernel
theorem dX0_isPassedOver_55 : decode cX0_isPassedOver 55 = .ok (.invokestatic 151, 3) := by decide +kernel
theorem dX0_isPassedOver_58 : decode cX0_isPassedOver 58 = .ok (.ifCond .ne 5, 3) := by decide +kernel
theorem dX0_isPassedOver_61 : decode cX0_isPassedOver 61 = .ok (.iconst 1, 1) := by decide +kernel
theorem dX0_isPassedOver_62 : decode cX0_isPassedOver 62 = .ok (.ireturn, 1) := by decide +kernel
theorem dX0_isPassedOver_63 : decode cX0_isPassedOver 63 = .ok (.iinc 2 1, 3) := by decide +kernel
theorem dX0_isPassedOver_66 : decode cX0_isPassedOver 66 = .ok (.goto (-54), 3) := by decide +kernel
theorem dX0_isPassedOver_69 : decode cX0_isPassedOver 69 = .ok (.iconst 0, 1) := by decide +kernel
theorem dX0_isPassedOver_70 : decode cX0_isPassedOver 70 = .ok (.ireturn, 1) := by decide +kernel
theorem dX0_couldHold_0 : decode cX0_couldHold 0 = .ok (.iload_n 0, 1) := by decide +kernel
theorem dX0_couldHold_1 : decode cX0_couldHold 1 = .ok (.tableswitch 104 0 4 #[35, 47, 59, 78, 91], 35) := by decide +kernel
theorem dX0_couldHold_36 : decode cX0_couldHold 36 = .ok (.lload_n 3, 1) := by decide +kernel
theorem dX0_couldHold_37 : decode cX0_couldHold 37 = .ok (.lload_n 1, 1) := by decide +kernel
theorem dX0_couldHold_38 : decode cX0_couldHold 38 = .ok (.lcmp, 1) := by decide +kernel
theorem dX0_couldHold_39 : decode cX0_couldHold 39 = .ok (.ifCond .ge 7, 3) := by decide +kernel
theorem dX0_couldHold_42 : decode cX0_couldHold 42 = .ok (.iconst 1, 1) := by decide +kernel
theorem dX0_couldHold_43 : decode cX0_couldHold 43 = .ok (.goto 4, 3) := by decide +kernel
theorem dX0_couldHold_46 : decode cX0_couldHold 46 = .ok (.iconst 0, 1) := by decide +kernel
theorem dX0_couldHold_47 : decode cX0_couldHold 47 = .ok (.ireturn, 1) := by decide +kernel
theorem dX0_couldHold_48 : decode cX0_couldHold 48 = .ok (.lload_n 3, 1) := by decide +kernel
theorem dX0_couldHold_49 : decode cX0_couldHold 49 = .ok (.lload_n 1, 1) := by decide +kernel
theorem dX0_couldHold_50 : decode cX0_couldHold 50 = .ok (.lcmp, 1) := by decide +kernel
theorem dX0_couldHold_51 : decode cX0_couldHold 51 = .ok (.ifCond .gt 7, 3) := by decide +kernel
theorem dX0_couldHold_54 : decode cX0_couldHold 54 = .ok (.iconst 1, 1) := by decide +kernel
theorem dX0_couldHold_55 : decode cX0_couldHold 55 = .ok (.goto 4, 3) := by decide +kernel
theorem dX0_couldHold_58 : decode cX0_couldHold 58 = .ok (.iconst 0, 1) := by decide +kernel
theorem dX0_couldHold_59 : decode cX0_couldHold 59 = .ok (.ireturn, 1) := by decide +kernel
theorem dX0_couldHold_60 : decode cX0_couldHold 60 = .ok (.lload_n 3, 1) := by decide +kernel
theorem dX0_couldHold_61 : decode cX0_couldHold 61 = .ok (.lload_n 1, 1) := by decide +kernel
theorem dX0_couldHold_62 : decode cX0_couldHold 62 = .ok (.lcmp, 1) := by decide +kernel
theorem dX0_couldHold_63 : decode cX0_couldHold 63 = .ok (.ifCond .gt 14, 3) := by decide +kernel
theorem dX0_couldHold_66 : decode cX0_couldHold 66 = .ok (.lload_n 1, 1) := by decide +kernel
theorem dX0_couldHold_67 : decode cX0_couldHold 67 = .ok (.lload 5, 2) := by decide +kernel
theorem dX0_couldHold_69 : decode cX0_couldHold 69 = .ok (.lcmp, 1) := by decide +kernel
theorem dX0_couldHold_70 : decode cX0_couldHold 70 = .ok (.ifCond .gt 7, 3) := by decide +kernel
theorem dX0_couldHold_73 : decode cX0_couldHold 73 = .ok (.iconst 1, 1) := by decide +kernel
theorem dX0_couldHold_74 : decode cX0_couldHold 74 = .ok (.goto 4, 3) := by decide +kernel
theorem dX0_couldHold_77 : decode cX0_couldHold 77 = .ok (.iconst 0, 1) := by decide +kernel
theorem dX0_couldHold_78 : decode cX0_couldHold 78 = .ok (.ireturn, 1) := by decide +kernel
theorem dX0_couldHold_79 : decode cX0_couldHold 79 = .ok (.lload 5, 2) := by decide +kernel
theorem dX0_couldHold_81 : decode cX0_couldHold 81 = .ok (.lload_n 1, 1) := by decide +kernel
theorem dX0_couldHold_82 : decode cX0_couldHold 82 = .ok (.lcmp, 1) := by decide +kernel
theorem dX0_couldHold_83 : decode cX0_couldHold 83 = .ok (.ifCond .lt 7, 3) := by decide +kernel
theorem dX0_couldHold_86 : decode cX0_couldHold 86 = .ok (.iconst 1, 1) := by decide +kernel
theorem dX0_couldHold_87 : decode cX0_couldHold 87 = .ok (.goto 4, 3) := by decide +kernel
theorem dX0_couldHold_90 : decode cX0_couldHold 90 = .ok (.iconst 0, 1) := by decide +kernel
theorem dX0_couldHold_91 : decode cX0_couldHold 91 = .ok (.ireturn, 1) := by decide +kernel
theorem dX0_couldHold_92 : decode cX0_couldHold 92 = .ok (.lload 5, 2) := by decide +kernel
theorem dX0_couldHold_94 : decode cX0_couldHold 94 = .ok (.lload_n 1, 1) := by decide +kernel
theorem dX0_couldHold_95 : decode cX0_couldHold 95 = .ok (.lcmp, 1) := by decide +kernel
theorem dX0_couldHold_96 : decode cX0_couldHold 96 = .ok (.ifCond .le 7, 3) := by decide +kernel
theorem dX0_couldHold_99 : decode cX0_couldHold 99 = .ok (.iconst 1, 1) := by decide +kernel
theorem dX0_couldHold_100 : decode cX0_couldHold 100 = .ok (.goto 4, 3) := by decide +kernel
theorem dX0_couldHold_103 : decode cX0_couldHold 103 = .ok (.iconst 0, 1) := by decide +kernel
theorem dX0_couldHold_104 : decode cX0_couldHold 104 = .ok (.ireturn, 1) := by decide +kernel
theorem dX0_couldHold_105 : decode cX0_couldHold 105 = .ok (.lload_n 3, 1) := by decide +kernel
theorem dX0_couldHold_106 : decode cX0_couldHold 106 = .ok (.lload_n 1, 1) := by decide +kernel
theorem dX0_couldHold_107 : decode cX0_couldHold 107 = .ok (.lcmp, 1) := by decide +kernel
theorem dX0_couldHold_108 : decode cX0_couldHold 108 = .ok (.ifCond .ne 10, 3) := by decide +kernel
theorem dX0_couldHold_111 : decode cX0_couldHold 111 = .ok (.lload 5, 2) := by decide +kernel
theorem dX0_couldHold_113 : decode cX0_couldHold 113 = .ok (.lload_n 1, 1) := by decide +kernel
theorem dX0_couldHold_114 : decode cX0_couldHold 114 = .ok (.lcmp, 1) := by decide +kernel
theorem dX0_couldHold_115 : decode cX0_couldHold 115 = .ok (.ifCond .eq 7, 3) := by decide +kernel
theorem dX0_couldHold_118 : decode cX0_couldHold 118 = .ok (.iconst 1, 1) := by decide +kernel
theorem dX0_couldHold_119 : decode cX0_couldHold 119 = .ok (.goto 4, 3) := by decide +kernel
theorem dX0_couldHold_122 : decode cX0_couldHold 122 = .ok (.iconst 0, 1) := by decide +kernel
theorem dX0_couldHold_123 : decode cX0_couldHold 123 = .ok (.ireturn, 1) := by decide +kernel
set_option maxRecDepth 20000 in
theorem ggX0_packFullBlocks_X0_fullBlocks : GoodIn wsX0_packFullBlocks wsX0_fullBlocks := goodIn_r _ [5, 6, 56, 57, 58, 59, 60, 61, 62, 63, 64, 65, 66] (by decide +kernel) (by decide +kernel)
set_option maxRecDepth 20000 in
theorem gX0_packFullBlocks_X0_fullBlocks : GoodIn wsX0_packFullBlocks (wsV RX0 135 RX0 yX0_fullBlocks wsX0_fullBlocks) := goodIn_app (goodIn_of _ (by decide +kernel)) ggX0_packFullBlocks_X0_fullBlocks
set_option maxRecDepth 20000 in
theorem ggX0_packFullBlocks_X0_packBlock : GoodIn wsX0_packFullBlocks wsX0_packBlock := goodIn_r _ [10, 11, 12, 13, 4, 14, 15, 16, 17, 18, 19, 20, 21, 22, 23, 24, 25, 26, 27, 28, 29, 30, 31, 32, 33, 34, 35, 36, 37, 38, 39, 40, 41, 42, 43, 44, 45, 46, 47, 48, 49, 50, 51, 52, 53, 54, 55, 56, 57, 58, 59, 60, 61, 62, 63, 64, 65, 66] (by decide +kernel) (by decide +kernel)
set_option maxRecDepth 20000 in
theorem gX0_packFullBlocks_X0_packBlock : GoodIn wsX0_packFullBlocks (wsV RX0 56 RX0 yX0_packBlock wsX0_packBlock) := goodIn_app (goodIn_of _ (by decide +kernel)) ggX0_packFullBlocks_X0_packBlock
theorem dX0_packFullBlocks_0 : decode cX0_packFullBlocks 0 = .ok (.iconst 0, 1) := by decide +kernel
theorem dX0_packFullBlocks_1 : decode cX0_packFullBlocks 1 = .ok (.istore_n 1, 1) := by decide +kernel
theorem dX0_packFullBlocks_2 : decode cX0_packFullBlocks 2 = .ok (.iload_n 1, 1) := by decide +kernel
theorem dX0_packFullBlocks_3 : decode cX0_packFullBlocks 3 = .ok (.aload_n 0, 1) := by decide +kernel
theorem dX0_packFullBlocks_4 : decode cX0_packFullBlocks 4 = .ok (.invokevirtual 135, 3) := by decide +kernel
theorem dX0_packFullBlocks_7 : decode cX0_packFullBlocks 7 = .ok (.if_icmp .ge 14, 3) := by decide +kernel
theorem dX0_packFullBlocks_10 : decode cX0_packFullBlocks 10 = .ok (.aload_n 0, 1) := by decide +kernel
theorem dX0_packFullBlocks_11 : decode cX0_packFullBlocks 11 = .ok (.iload_n 1, 1) := by decide +kernel
theorem dX0_packFullBlocks_12 : decode cX0_packFullBlocks 12 = .ok (.invokevirtual 56, 3) := by decide +kernel
theorem dX0_packFullBlocks_15 : decode cX0_packFullBlocks 15 = .ok (.iinc 1 1, 3) := by decide +kernel
theorem dX0_packFullBlocks_18 : decode cX0_packFullBlocks 18 = .ok (.goto (-16), 3) := by decide +kernel
theorem dX0_packFullBlocks_21 : decode cX0_packFullBlocks 21 = .ok (.return_, 1) := by decide +kernel
set_option maxRecDepth 20000 in
theorem ggX0_packBlock_X0_packColumn : GoodIn wsX0_packBlock wsX0_packColumn := goodIn_r _ [5, 6, 7, 8, 9, 10, 11, 4, 12, 13, 14, 15, 16, 17, 18, 19, 20, 21, 22, 23, 24, 25, 26, 27, 28, 29, 30, 31, 32, 33, 34, 35, 36, 37, 38, 39, 40, 41, 42, 43, 44, 45, 46, 47, 48, 49, 50, 51, 52, 53, 54, 55, 56, 57] (by decide +kernel) (by decide +kernel)
set_option maxRecDepth 20000 in
theorem gX0_packBlock_X0_packColumn : GoodIn wsX0_packBlock (wsV RX0 159 RX0 yX0_packColumn wsX0_packColumn) := goodIn_app (goodIn_of _ (by decide +kernel)) ggX0_packBlock_X0_packColumn
theorem dX0_packBlock_0 : decode cX0_packBlock 0 = .ok (.iconst 0, 1) := by decide +kernel
theorem dX0_packBlock_1 : decode cX0_packBlock 1 = .ok (.istore_n 2, 1) := by decide +kernel
theorem dX0_packBlock_2 : decode cX0_packBlock 2 = .ok (.iload_n 2, 1) := by decide +kernel
theorem dX0_packBlock_3 : decode cX0_packBlock 3 = .ok (.iconst 4, 1) := by decide +kernel
theorem dX0_packBlock_4 : decode cX0_packBlock 4 = .ok (.if_icmp .ge 15, 3) := by decide +kernel
theorem dX0_packBlock_7 : decode cX0_packBlock 7 = .ok (.aload_n 0, 1) := by decide +kernel
theorem dX0_packBlock_8 : decode cX0_packBlock 8 = .ok (.iload_n 1, 1) := by decide +kernel
theorem dX0_packBlock_9 : decode cX0_packBlock 9 = .ok (.iload_n 2, 1) := by decide +kernel
theorem dX0_packBlock_10 : decode cX0_packBlock 10 = .ok (.invokevirtual 159, 3) := by decide +kernel
theorem dX0_packBlock_13 : decode cX0_packBlock 13 = .ok (.iinc 2 1, 3) := by decide +kernel
theorem dX0_packBlock_16 : decode cX0_packBlock 16 = .ok (.goto (-14), 3) := by decide +kernel
theorem dX0_packBlock_19 : decode cX0_packBlock 19 = .ok (.return_, 1) := by decide +kernel
set_option maxRecDepth 20000 in
theorem ggX0_packColumn_X0_spot : GoodIn wsX0_packColumn wsX0_spot := goodIn_r _ [8] (by decide +kernel) (by decide +kernel)
set_option maxRecDepth 20000 in
theorem gX0_packColumn_X0_spot : GoodIn wsX0_packColumn (va_wsS RX0 52 yX0_spot wsX0_spot) := goodIn_app (goodIn_of _ (by decide +kernel)) ggX0_packColumn_X0_spot
set_option maxRecDepth 20000 in
theorem ggX0_packColumn_X0_place : GoodIn wsX0_packColumn wsX0_place := goodIn_r _ [11] (by decide +kernel) (by decide +kernel)
set_option maxRecDepth 20000 in
theorem gX0_packColumn_X0_place : GoodIn wsX0_packColumn (va_wsS RX0 123 yX0_place wsX0_place) := goodIn_app (goodIn_of _ (by decide +kernel)) ggX0_packColumn_X0_place
set_option maxRecDepth 20000 in
theorem ggX0_packColumn_X0_noteBounds : GoodIn wsX0_packColumn wsX0_noteBounds := goodIn_r _ [15, 16, 17, 18, 19, 20, 21, 22, 23, 2, 1, 43, 44, 45, 46, 47, 48, 49, 50, 51, 52, 53] (by decide +kernel) (by decide +kernel)
set_option maxRecDepth 20000 in
theorem gX0_packColumn_X0_noteBounds : GoodIn wsX0_packColumn (wsV RX0 162 RX0 yX0_noteBounds wsX0_noteBounds) := goodIn_app (goodIn_of _ (by decide +kernel)) ggX0_packColumn_X0_noteBounds
set_option maxRecDepth 20000 in
theorem ggX0_packColumn_X0_differentCells : GoodIn wsX0_packColumn wsX0_differentCells := goodIn_r _ [27, 28, 29, 30, 7, 31, 16, 43, 44, 45, 46, 47, 48, 49, 50, 51, 52, 53] (by decide +kernel) (by decide +kernel)
set_option maxRecDepth 20000 in
theorem gX0_packColumn_X0_differentCells : GoodIn wsX0_packColumn (wsV RX0 165 RX0 yX0_differentCells wsX0_differentCells) := goodIn_app (goodIn_of _ (by decide +kernel)) ggX0_packColumn_X0_differentCells
set_option maxRecDepth 20000 in
theorem ggX0_packColumn_X0_widthOf : GoodIn wsX0_packColumn wsX0_widthOf := goodIn_r _ [34] (by decide +kernel) (by decide +kernel)
set_option maxRecDepth 20000 in
theorem gX0_packColumn_X0_widthOf : GoodIn wsX0_packColumn (va_wsS RX0 169 yX0_widthOf wsX0_widthOf) := goodIn_app (goodIn_of _ (by decide +kernel)) ggX0_packColumn_X0_widthOf
set_option maxRecDepth 20000 in
theorem ggX0_packColumn_X0_runsOfCells : GoodIn wsX0_packColumn wsX0_runsOfCells := goodIn_r _ [38, 16, 43, 44, 45, 46, 47, 48, 49, 50, 51, 52, 53] (by decide +kernel) (by decide +kernel)
set_option maxRecDepth 20000 in
theorem gX0_packColumn_X0_runsOfCells : GoodIn wsX0_packColumn (wsV RX0 173 RX0 yX0_runsOfCells wsX0_runsOfCells) := goodIn_app (goodIn_of _ (by decide +kernel)) ggX0_packColumn_X0_runsOfCells
set_option maxRecDepth 20000 in
theorem ggX0_packColumn_X0_offerWay : GoodIn wsX0_packColumn wsX0_offerWay := goodIn_r _ [42, 4, 3, 43, 44, 45, 46, 47, 48, 49, 50, 51, 52, 53] (by decide +kernel) (by decide +kernel)
set_option maxRecDepth 20000 in
theorem gX0_packColumn_X0_offerWay : GoodIn wsX0_packColumn (wsV RX0 176 RX0 yX0_offerWay wsX0_offerWay) := goodIn_app (goodIn_of _ (by decide +kernel)) ggX0_packColumn_X0_offerWay
theorem dX0_packColumn_0 : decode cX0_packColumn 0 = .ok (.iload_n 1, 1) := by decide +kernel
theorem dX0_packColumn_1 : decode cX0_packColumn 1 = .ok (.bipush 16, 2) := by decide +kernel
theorem dX0_packColumn_3 : decode cX0_packColumn 3 = .ok (.imul, 1) := by decide +kernel
theorem dX0_packColumn_4 : decode cX0_packColumn 4 = .ok (.iload_n 2, 1) := by decide +kernel
theorem dX0_packColumn_5 : decode cX0_packColumn 5 = .ok (.invokestatic 52, 3) := by decide +kernel
theorem dX0_packColumn_8 : decode cX0_packColumn 8 = .ok (.istore_n 3, 1) := by decide +kernel
theorem dX0_packColumn_9 : decode cX0_packColumn 9 = .ok (.iload_n 1, 1) := by decide +kernel
theorem dX0_packColumn_10 : decode cX0_packColumn 10 = .ok (.iload_n 2, 1) := by decide +kernel
theorem dX0_packColumn_11 : decode cX0_packColumn 11 = .ok (.invokestatic 123, 3) := by decide +kernel
theorem dX0_packColumn_14 : decode cX0_packColumn 14 = .ok (.istore 4, 2) := by decide +kernel
theorem dX0_packColumn_16 : decode cX0_packColumn 16 = .ok (.iload_n 2, 1) := by decide +kernel
theorem dX0_packColumn_17 : decode cX0_packColumn 17 = .ok (.iconst 3, 1) := by decide +kernel
theorem dX0_packColumn_18 : decode cX0_packColumn 18 = .ok (.if_icmp .ne 8, 3) := by decide +kernel
theorem dX0_packColumn_21 : decode cX0_packColumn 21 = .ok (.bipush 64, 2) := by decide +kernel
theorem dX0_packColumn_23 : decode cX0_packColumn 23 = .ok (.goto 5, 3) := by decide +kernel
theorem dX0_packColumn_26 : decode cX0_packColumn 26 = .ok (.bipush 32, 2) := by decide +kernel
theorem dX0_packColumn_28 : decode cX0_packColumn 28 = .ok (.istore 5, 2) := by decide +kernel
theorem dX0_packColumn_30 : decode cX0_packColumn 30 = .ok (.aload_n 0, 1) := by decide +kernel
theorem dX0_packColumn_31 : decode cX0_packColumn 31 = .ok (.iload_n 3, 1) := by decide +kernel
theorem dX0_packColumn_32 : decode cX0_packColumn 32 = .ok (.iload 4, 2) := by decide +kernel
theorem dX0_packColumn_34 : decode cX0_packColumn 34 = .ok (.invokevirtual 162, 3) := by decide +kernel
theorem dX0_packColumn_37 : decode cX0_packColumn 37 = .ok (.aload_n 0, 1) := by decide +kernel
theorem dX0_packColumn_38 : decode cX0_packColumn 38 = .ok (.iload_n 3, 1) := by decide +kernel
theorem dX0_packColumn_39 : decode cX0_packColumn 39 = .ok (.invokevirtual 165, 3) := by decide +kernel
theorem dX0_packColumn_42 : decode cX0_packColumn 42 = .ok (.istore 6, 2) := by decide +kernel
theorem dX0_packColumn_44 : decode cX0_packColumn 44 = .ok (.aload_n 0, 1) := by decide +kernel
theorem dX0_packColumn_45 : decode cX0_packColumn 45 = .ok (.getfield 33, 3) := by decide +kernel
theorem dX0_packColumn_48 : decode cX0_packColumn 48 = .ok (.iload 4, 2) := by decide +kernel
theorem dX0_packColumn_50 : decode cX0_packColumn 50 = .ok (.laload, 1) := by decide +kernel
theorem dX0_packColumn_51 : decode cX0_packColumn 51 = .ok (.aload_n 0, 1) := by decide +kernel
theorem dX0_packColumn_52 : decode cX0_packColumn 52 = .ok (.getfield 30, 3) := by decide +kernel
theorem dX0_packColumn_55 : decode cX0_packColumn 55 = .ok (.iload 4, 2) := by decide +kernel
theorem dX0_packColumn_57 : decode cX0_packColumn 57 = .ok (.laload, 1) := by decide +kernel
theorem dX0_packColumn_58 : decode cX0_packColumn 58 = .ok (.lsub, 1) := by decide +kernel
theorem dX0_packColumn_59 : decode cX0_packColumn 59 = .ok (.invokestatic 169, 3) := by decide +kernel
theorem dX0_packColumn_62 : decode cX0_packColumn 62 = .ok (.istore 7, 2) := by decide +kernel
theorem dX0_packColumn_64 : decode cX0_packColumn 64 = .ok (.aload_n 0, 1) := by decide +kernel
theorem dX0_packColumn_65 : decode cX0_packColumn 65 = .ok (.getfield 36, 3) := by decide +kernel
theorem dX0_packColumn_68 : decode cX0_packColumn 68 = .ok (.iload 4, 2) := by decide +kernel
theorem dX0_packColumn_70 : decode cX0_packColumn 70 = .ok (.iconst 0, 1) := by decide +kernel
theorem dX0_packColumn_71 : decode cX0_packColumn 71 = .ok (.iastore, 1) := by decide +kernel
theorem dX0_packColumn_72 : decode cX0_packColumn 72 = .ok (.aload_n 0, 1) := by decide +kernel
theorem dX0_packColumn_73 : decode cX0_packColumn 73 = .ok (.getfield 39, 3) := by decide +kernel
theorem dX0_packColumn_76 : decode cX0_packColumn 76 = .ok (.iload 4, 2) := by decide +kernel
theorem dX0_packColumn_78 : decode cX0_packColumn 78 = .ok (.bipush 16, 2) := by decide +kernel
theorem dX0_packColumn_80 : decode cX0_packColumn 80 = .ok (.iload 5, 2) := by decide +kernel
theorem dX0_packColumn_82 : decode cX0_packColumn 82 = .ok (.imul, 1) := by decide +kernel
theorem dX0_packColumn_83 : decode cX0_packColumn 83 = .ok (.iastore, 1) := by decide +kernel
theorem dX0_packColumn_84 : decode cX0_packColumn 84 = .ok (.aload_n 0, 1) := by decide +kernel
theorem dX0_packColumn_85 : decode cX0_packColumn 85 = .ok (.iload 4, 2) := by decide +kernel
theorem dX0_packColumn_87 : decode cX0_packColumn 87 = .ok (.iconst 1, 1) := by decide +kernel
theorem dX0_packColumn_88 : decode cX0_packColumn 88 = .ok (.aload_n 0, 1) := by decide +kernel
theorem dX0_packColumn_89 : decode cX0_packColumn 89 = .ok (.iload_n 3, 1) := by decide +kernel
theorem dX0_packColumn_90 : decode cX0_packColumn 90 = .ok (.invokevirtual 173, 3) := by decide +kernel
theorem dX0_packColumn_93 : decode cX0_packColumn 93 = .ok (.iload 5, 2) := by decide +kernel
theorem dX0_packColumn_95 : decode cX0_packColumn 95 = .ok (.iconst 5, 1) := by decide +kernel
theorem dX0_packColumn_96 : decode cX0_packColumn 96 = .ok (.iadd, 1) := by decide +kernel
theorem dX0_packColumn_97 : decode cX0_packColumn 97 = .ok (.imul, 1) := by decide +kernel
theorem dX0_packColumn_98 : decode cX0_packColumn 98 = .ok (.invokevirtual 176, 3) := by decide +kernel
theorem dX0_packColumn_101 : decode cX0_packColumn 101 = .ok (.aload_n 0, 1) := by decide +kernel
theorem dX0_packColumn_102 : decode cX0_packColumn 102 = .ok (.iload 4, 2) := by decide +kernel
theorem dX0_packColumn_104 : decode cX0_packColumn 104 = .ok (.iconst 2, 1) := by decide +kernel
theorem dX0_packColumn_105 : decode cX0_packColumn 105 = .ok (.iload 6, 2) := by decide +kernel
theorem dX0_packColumn_107 : decode cX0_packColumn 107 = .ok (.iload 5, 2) := by decide +kernel
theorem dX0_packColumn_109 : decode cX0_packColumn 109 = .ok (.imul, 1) := by decide +kernel
theorem dX0_packColumn_110 : decode cX0_packColumn 110 = .ok (.bipush 16, 2) := by decide +kernel
theorem dX0_packColumn_112 : decode cX0_packColumn 112 = .ok (.iload 6, 2) := by decide +kernel
theorem dX0_packColumn_114 : decode cX0_packColumn 114 = .ok (.iconst 1, 1) := by decide +kernel
theorem dX0_packColumn_115 : decode cX0_packColumn 115 = .ok (.isub, 1) := by decide +kernel
theorem dX0_packColumn_116 : decode cX0_packColumn 116 = .ok (.i2l, 1) := by decide +kernel
theorem dX0_packColumn_117 : decode cX0_packColumn 117 = .ok (.invokestatic 169, 3) := by decide +kernel
theorem dX0_packColumn_120 : decode cX0_packColumn 120 = .ok (.imul, 1) := by decide +kernel
theorem dX0_packColumn_121 : decode cX0_packColumn 121 = .ok (.iadd, 1) := by decide +kernel
theorem dX0_packColumn_122 : decode cX0_packColumn 122 = .ok (.invokevirtual 176, 3) := by decide +kernel
theorem dX0_packColumn_125 : decode cX0_packColumn 125 = .ok (.aload_n 0, 1) := by decide +kernel
theorem dX0_packColumn_126 : decode cX0_packColumn 126 = .ok (.iload 4, 2) := by decide +kernel
theorem dX0_packColumn_128 : decode cX0_packColumn 128 = .ok (.iconst 3, 1) := by decide +kernel
theorem dX0_packColumn_129 : decode cX0_packColumn 129 = .ok (.iload 5, 2) := by decide +kernel
theorem dX0_packColumn_131 : decode cX0_packColumn 131 = .ok (.bipush 7, 2) := by decide +kernel
theorem dX0_packColumn_133 : decode cX0_packColumn 133 = .ok (.iadd, 1) := by decide +kernel
theorem dX0_packColumn_134 : decode cX0_packColumn 134 = .ok (.bipush 16, 2) := by decide +kernel
theorem dX0_packColumn_136 : decode cX0_packColumn 136 = .ok (.iload 7, 2) := by decide +kernel
theorem dX0_packColumn_138 : decode cX0_packColumn 138 = .ok (.imul, 1) := by decide +kernel
theorem dX0_packColumn_139 : decode cX0_packColumn 139 = .ok (.iadd, 1) := by decide +kernel
theorem dX0_packColumn_140 : decode cX0_packColumn 140 = .ok (.invokevirtual 176, 3) := by decide +kernel
theorem dX0_packColumn_143 : decode cX0_packColumn 143 = .ok (.return_, 1) := by decide +kernel
theorem dX0_offerWay_0 : decode cX0_offerWay 0 = .ok (.iload_n 3, 1) := by decide +kernel
theorem dX0_offerWay_1 : decode cX0_offerWay 1 = .ok (.aload_n 0, 1) := by decide +kernel
theorem dX0_offerWay_2 : decode cX0_offerWay 2 = .ok (.getfield 39, 3) := by decide +kernel
theorem dX0_offerWay_5 : decode cX0_offerWay 5 = .ok (.iload_n 1, 1) := by decide +kernel
theorem dX0_offerWay_6 : decode cX0_offerWay 6 = .ok (.iaload, 1) := by decide +kernel
theorem dX0_offerWay_7 : decode cX0_offerWay 7 = .ok (.if_icmp .ge 17, 3) := by decide +kernel
theorem dX0_offerWay_10 : decode cX0_offerWay 10 = .ok (.aload_n 0, 1) := by decide +kernel
theorem dX0_offerWay_11 : decode cX0_offerWay 11 = .ok (.getfield 36, 3) := by decide +kernel
theorem dX0_offerWay_14 : decode cX0_offerWay 14 = .ok (.iload_n 1, 1) := by decide +kernel
theorem dX0_offerWay_15 : decode cX0_offerWay 15 = .ok (.iload_n 2, 1) := by decide +kernel
theorem dX0_offerWay_16 : decode cX0_offerWay 16 = .ok (.iastore, 1) := by decide +kernel
theorem dX0_offerWay_17 : decode cX0_offerWay 17 = .ok (.aload_n 0, 1) := by decide +kernel
theorem dX0_offerWay_18 : decode cX0_offerWay 18 = .ok (.getfield 39, 3) := by decide +kernel
theorem dX0_offerWay_21 : decode cX0_offerWay 21 = .ok (.iload_n 1, 1) := by decide +kernel
theorem dX0_offerWay_22 : decode cX0_offerWay 22 = .ok (.iload_n 3, 1) := by decide +kernel
theorem dX0_offerWay_23 : decode cX0_offerWay 23 = .ok (.iastore, 1) := by decide +kernel
theorem dX0_offerWay_24 : decode cX0_offerWay 24 = .ok (.return_, 1) := by decide +kernel
theorem dX0_noteBounds_0 : decode cX0_noteBounds 0 = .ok (.aload_n 0, 1) := by decide +kernel
theorem dX0_noteBounds_1 : decode cX0_noteBounds 1 = .ok (.getfield 9, 3) := by decide +kernel
theorem dX0_noteBounds_4 : decode cX0_noteBounds 4 = .ok (.iload_n 1, 1) := by decide +kernel
theorem dX0_noteBounds_5 : decode cX0_noteBounds 5 = .ok (.laload, 1) := by decide +kernel
theorem dX0_noteBounds_6 : decode cX0_noteBounds 6 = .ok (.lstore_n 3, 1) := by decide +kernel
theorem dX0_noteBounds_7 : decode cX0_noteBounds 7 = .ok (.aload_n 0, 1) := by decide +kernel
theorem dX0_noteBounds_8 : decode cX0_noteBounds 8 = .ok (.getfield 9, 3) := by decide +kernel
theorem dX0_noteBounds_11 : decode cX0_noteBounds 11 = .ok (.iload_n 1, 1) := by decide +kernel
theorem dX0_noteBounds_12 : decode cX0_noteBounds 12 = .ok (.laload, 1) := by decide +kernel
theorem dX0_noteBounds_13 : decode cX0_noteBounds 13 = .ok (.lstore 5, 2) := by decide +kernel
theorem dX0_noteBounds_15 : decode cX0_noteBounds 15 = .ok (.iload_n 1, 1) := by decide +kernel
theorem dX0_noteBounds_16 : decode cX0_noteBounds 16 = .ok (.iconst 1, 1) := by decide +kernel
theorem dX0_noteBounds_17 : decode cX0_noteBounds 17 = .ok (.iadd, 1) := by decide +kernel
theorem dX0_noteBounds_18 : decode cX0_noteBounds 18 = .ok (.istore 7, 2) := by decide +kernel
theorem dX0_noteBounds_20 : decode cX0_noteBounds 20 = .ok (.iload 7, 2) := by decide +kernel
theorem dX0_noteBounds_22 : decode cX0_noteBounds 22 = .ok (.iload_n 1, 1) := by decide +kernel
theorem dX0_noteBounds_23 : decode cX0_noteBounds 23 = .ok (.bipush 16, 2) := by decide +kernel
theorem dX0_noteBounds_25 : decode cX0_noteBounds 25 = .ok (.iadd, 1) := by decide +kernel
theorem dX0_noteBounds_26 : decode cX0_noteBounds 26 = .ok (.if_icmp .ge 35, 3) := by decide +kernel
theorem dX0_noteBounds_29 : decode cX0_noteBounds 29 = .ok (.lload_n 3, 1) := by decide +kernel
theorem dX0_noteBounds_30 : decode cX0_noteBounds 30 = .ok (.aload_n 0, 1) := by decide +kernel
theorem dX0_noteBounds_31 : decode cX0_noteBounds 31 = .ok (.getfield 9, 3) := by decide +kernel
theorem dX0_noteBounds_34 : decode cX0_noteBounds 34 = .ok (.iload 7, 2) := by decide +kernel
theorem dX0_noteBounds_36 : decode cX0_noteBounds 36 = .ok (.laload, 1) := by decide +kernel
theorem dX0_noteBounds_37 : decode cX0_noteBounds 37 = .ok (.invokestatic 180, 3) := by decide +kernel
theorem dX0_noteBounds_40 : decode cX0_noteBounds 40 = .ok (.lstore_n 3, 1) := by decide +kernel
theorem dX0_noteBounds_41 : decode cX0_noteBounds 41 = .ok (.lload 5, 2) := by decide +kernel
theorem dX0_noteBounds_43 : decode cX0_noteBounds 43 = .ok (.aload_n 0, 1) := by decide +kernel
theorem dX0_noteBounds_44 : decode cX0_noteBounds 44 = .ok (.getfield 9, 3) := by decide +kernel
theorem dX0_noteBounds_47 : decode cX0_noteBounds 47 = .ok (.iload 7, 2) := by decide +kernel
theorem dX0_noteBounds_49 : decode cX0_noteBounds 49 = .ok (.laload, 1) := by decide +kernel
theorem dX0_noteBounds_50 : decode cX0_noteBounds 50 = .ok (.invokestatic 183, 3) := by decide +kernel
theorem dX0_noteBounds_53 : decode cX0_noteBounds 53 = .ok (.lstore 5, 2) := by decide +kernel
theorem dX0_noteBounds_55 : decode cX0_noteBounds 55 = .ok (.iinc 7 1, 3) := by decide +kernel
theorem dX0_noteBounds_58 : decode cX0_noteBounds 58 = .ok (.goto (-38), 3) := by decide +kernel
theorem dX0_noteBounds_61 : decode cX0_noteBounds 61 = .ok (.aload_n 0, 1) := by decide +kernel
theorem dX0_noteBounds_62 : decode cX0_noteBounds 62 = .ok (.getfield 30, 3) := by decide +kernel
theorem dX0_noteBounds_65 : decode cX0_noteBounds 65 = .ok (.iload_n 2, 1) := by decide +kernel
theorem dX0_noteBounds_66 : decode cX0_noteBounds 66 = .ok (.lload_n 3, 1) := by decide +kernel
theorem dX0_noteBounds_67 : decode cX0_noteBounds 67 = .ok (.lastore, 1) := by decide +kernel
theorem dX0_noteBounds_68 : decode cX0_noteBounds 68 = .ok (.aload_n 0, 1) := by decide +kernel
theorem dX0_noteBounds_69 : decode cX0_noteBounds 69 = .ok (.getfield 33, 3) := by decide +kernel
theorem dX0_noteBounds_72 : decode cX0_noteBounds 72 = .ok (.iload_n 2, 1) := by decide +kernel
theorem dX0_noteBounds_73 : decode cX0_noteBounds 73 = .ok (.lload 5, 2) := by decide +kernel
theorem dX0_noteBounds_75 : decode cX0_noteBounds 75 = .ok (.lastore, 1) := by decide +kernel
theorem dX0_noteBounds_76 : decode cX0_noteBounds 76 = .ok (.return_, 1) := by decide +kernel
theorem dX0_runsOfCells_0 : decode cX0_runsOfCells 0 = .ok (.iconst 1, 1) := by decide +kernel
theorem dX0_runsOfCells_1 : decode cX0_runsOfCells 1 = .ok (.istore_n 2, 1) := by decide +kernel
theorem dX0_runsOfCells_2 : decode cX0_runsOfCells 2 = .ok (.iload_n 1, 1) := by decide +kernel
theorem dX0_runsOfCells_3 : decode cX0_runsOfCells 3 = .ok (.iconst 1, 1) := by decide +kernel
theorem dX0_runsOfCells_4 : decode cX0_runsOfCells 4 = .ok (.iadd, 1) := by decide +kernel
theorem dX0_runsOfCells_5 : decode cX0_runsOfCells 5 = .ok (.istore_n 3, 1) := by decide +kernel
theorem dX0_runsOfCells_6 : decode cX0_runsOfCells 6 = .ok (.iload_n 3, 1) := by decide +kernel
theorem dX0_runsOfCells_7 : decode cX0_runsOfCells 7 = .ok (.iload_n 1, 1) := by decide +kernel
theorem dX0_runsOfCells_8 : decode cX0_runsOfCells 8 = .ok (.bipush 16, 2) := by decide +kernel
theorem dX0_runsOfCells_10 : decode cX0_runsOfCells 10 = .ok (.iadd, 1) := by decide +kernel
theorem dX0_runsOfCells_11 : decode cX0_runsOfCells 11 = .ok (.if_icmp .ge 30, 3) := by decide +kernel
theorem dX0_runsOfCells_14 : decode cX0_runsOfCells 14 = .ok (.aload_n 0, 1) := by decide +kernel
theorem dX0_runsOfCells_15 : decode cX0_runsOfCells 15 = .ok (.getfield 9, 3) := by decide +kernel
theorem dX0_runsOfCells_18 : decode cX0_runsOfCells 18 = .ok (.iload_n 3, 1) := by decide +kernel
theorem dX0_runsOfCells_19 : decode cX0_runsOfCells 19 = .ok (.laload, 1) := by decide +kernel
theorem dX0_runsOfCells_20 : decode cX0_runsOfCells 20 = .ok (.aload_n 0, 1) := by decide +kernel
theorem dX0_runsOfCells_21 : decode cX0_runsOfCells 21 = .ok (.getfield 9, 3) := by decide +kernel
theorem dX0_runsOfCells_24 : decode cX0_runsOfCells 24 = .ok (.iload_n 3, 1) := by decide +kernel
theorem dX0_runsOfCells_25 : decode cX0_runsOfCells 25 = .ok (.iconst 1, 1) := by decide +kernel
theorem dX0_runsOfCells_26 : decode cX0_runsOfCells 26 = .ok (.isub, 1) := by decide +kernel
theorem dX0_runsOfCells_27 : decode cX0_runsOfCells 27 = .ok (.laload, 1) := by decide +kernel
theorem dX0_runsOfCells_28 : decode cX0_runsOfCells 28 = .ok (.lcmp, 1) := by decide +kernel
theorem dX0_runsOfCells_29 : decode cX0_runsOfCells 29 = .ok (.ifCond .eq 6, 3) := by decide +kernel
theorem dX0_runsOfCells_32 : decode cX0_runsOfCells 32 = .ok (.iinc 2 1, 3) := by decide +kernel
theorem dX0_runsOfCells_35 : decode cX0_runsOfCells 35 = .ok (.iinc 3 1, 3) := by decide +kernel
theorem dX0_runsOfCells_38 : decode cX0_runsOfCells 38 = .ok (.goto (-32), 3) := by decide +kernel
theorem dX0_runsOfCells_41 : decode cX0_runsOfCells 41 = .ok (.iload_n 2, 1) := by decide +kernel
theorem dX0_runsOfCells_42 : decode cX0_runsOfCells 42 = .ok (.ireturn, 1) := by decide +kernel
set_option maxRecDepth 20000 in
theorem ggX0_differentCells_X0_stoodBefore : GoodIn wsX0_differentCells wsX0_stoodBefore := goodIn_r _ [5, 6, 7, 8, 9, 10, 11, 12, 13, 14, 15, 16, 17] (by decide +kernel) (by decide +kernel)
set_option maxRecDepth 20000 in
theorem gX0_differentCells_X0_stoodBefore : GoodIn wsX0_differentCells (wsV RX0 186 RX0 yX0_stoodBefore wsX0_stoodBefore) := goodIn_app (goodIn_of _ (by decide +kernel)) ggX0_differentCells_X0_stoodBefore
theorem dX0_differentCells_0 : decode cX0_differentCells 0 = .ok (.iconst 0, 1) := by decide +kernel
theorem dX0_differentCells_1 : decode cX0_differentCells 1 = .ok (.istore_n 2, 1) := by decide +kernel
theorem dX0_differentCells_2 : decode cX0_differentCells 2 = .ok (.iload_n 1, 1) := by decide +kernel
theorem dX0_differentCells_3 : decode cX0_differentCells 3 = .ok (.istore_n 3, 1) := by decide +kernel
theorem dX0_differentCells_4 : decode cX0_differentCells 4 = .ok (.iload_n 3, 1) := by decide +kernel
theorem dX0_differentCells_5 : decode cX0_differentCells 5 = .ok (.iload_n 1, 1) := by decide +kernel
theorem dX0_differentCells_6 : decode cX0_differentCells 6 = .ok (.bipush 16, 2) := by decide +kernel
theorem dX0_differentCells_8 : decode cX0_differentCells 8 = .ok (.iadd, 1) := by decide +kernel
theorem dX0_differentCells_9 : decode cX0_differentCells 9 = .ok (.if_icmp .ge 21, 3) := by decide +kernel
theorem dX0_differentCells_12 : decode cX0_differentCells 12 = .ok (.aload_n 0, 1) := by decide +kernel
theorem dX0_differentCells_13 : decode cX0_differentCells 13 = .ok (.iload_n 1, 1) := by decide +kernel
theorem dX0_differentCells_14 : decode cX0_differentCells 14 = .ok (.iload_n 3, 1) := by decide +kernel
theorem dX0_differentCells_15 : decode cX0_differentCells 15 = .ok (.invokevirtual 186, 3) := by decide +kernel
theorem dX0_differentCells_18 : decode cX0_differentCells 18 = .ok (.ifCond .ne 6, 3) := by decide +kernel
theorem dX0_differentCells_21 : decode cX0_differentCells 21 = .ok (.iinc 2 1, 3) := by decide +kernel
theorem dX0_differentCells_24 : decode cX0_differentCells 24 = .ok (.iinc 3 1, 3) := by decide +kernel
theorem dX0_differentCells_27 : decode cX0_differentCells 27 = .ok (.goto (-23), 3) := by decide +kernel
theorem dX0_differentCells_30 : decode cX0_differentCells 30 = .ok (.iload_n 2, 1) := by decide +kernel
theorem dX0_differentCells_31 : decode cX0_differentCells 31 = .ok (.ireturn, 1) := by decide +kernel
theorem dX0_stoodBefore_0 : decode cX0_stoodBefore 0 = .ok (.iload_n 1, 1) := by decide +kernel
theorem dX0_stoodBefore_1 : decode cX0_stoodBefore 1 = .ok (.istore_n 3, 1) := by decide +kernel
theorem dX0_stoodBefore_2 : decode cX0_stoodBefore 2 = .ok (.iload_n 3, 1) := by decide +kernel
theorem dX0_stoodBefore_3 : decode cX0_stoodBefore 3 = .ok (.iload_n 2, 1) := by decide +kernel
theorem dX0_stoodBefore_4 : decode cX0_stoodBefore 4 = .ok (.if_icmp .ge 27, 3) := by decide +kernel
theorem dX0_stoodBefore_7 : decode cX0_stoodBefore 7 = .ok (.aload_n 0, 1) := by decide +kernel
theorem dX0_stoodBefore_8 : decode cX0_stoodBefore 8 = .ok (.getfield 9, 3) := by decide +kernel
theorem dX0_stoodBefore_11 : decode cX0_stoodBefore 11 = .ok (.iload_n 3, 1) := by decide +kernel
theorem dX0_stoodBefore_12 : decode cX0_stoodBefore 12 = .ok (.laload, 1) := by decide +kernel
theorem dX0_stoodBefore_13 : decode cX0_stoodBefore 13 = .ok (.aload_n 0, 1) := by decide +kernel
theorem dX0_stoodBefore_14 : decode cX0_stoodBefore 14 = .ok (.getfield 9, 3) := by decide +kernel
theorem dX0_stoodBefore_17 : decode cX0_stoodBefore 17 = .ok (.iload_n 2, 1) := by decide +kernel
theorem dX0_stoodBefore_18 : decode cX0_stoodBefore 18 = .ok (.laload, 1) := by decide +kernel
theorem dX0_stoodBefore_19 : decode cX0_stoodBefore 19 = .ok (.lcmp, 1) := by decide +kernel
theorem dX0_stoodBefore_20 : decode cX0_stoodBefore 20 = .ok (.ifCond .ne 5, 3) := by decide +kernel
theorem dX0_stoodBefore_23 : decode cX0_stoodBefore 23 = .ok (.iconst 1, 1) := by decide +kernel
theorem dX0_stoodBefore_24 : decode cX0_stoodBefore 24 = .ok (.ireturn, 1) := by decide +kernel
theorem dX0_stoodBefore_25 : decode cX0_stoodBefore 25 = .ok (.iinc 3 1, 3) := by decide +kernel
theorem dX0_stoodBefore_28 : decode cX0_stoodBefore 28 = .ok (.goto (-26), 3) := by decide +kernel
theorem dX0_stoodBefore_31 : decode cX0_stoodBefore 31 = .ok (.iconst 0, 1) := by decide +kernel
theorem dX0_stoodBefore_32 : decode cX0_stoodBefore 32 = .ok (.ireturn, 1) := by decide +kernel
theorem dX0_widthOf_0 : decode cX0_widthOf 0 = .ok (.iconst 0, 1) := by decide +kernel
theorem dX0_widthOf_1 : decode cX0_widthOf 1 = .ok (.istore_n 2, 1) := by decide +kernel
theorem dX0_widthOf_2 : decode cX0_widthOf 2 = .ok (.iload_n 2, 1) := by decide +kernel
theorem dX0_widthOf_3 : decode cX0_widthOf 3 = .ok (.bipush 64, 2) := by decide +kernel
theorem dX0_widthOf_5 : decode cX0_widthOf 5 = .ok (.if_icmp .ge 17, 3) := by decide +kernel
theorem dX0_widthOf_8 : decode cX0_widthOf 8 = .ok (.lload_n 0, 1) := by decide +kernel
theorem dX0_widthOf_9 : decode cX0_widthOf 9 = .ok (.iload_n 2, 1) := by decide +kernel
theorem dX0_widthOf_10 : decode cX0_widthOf 10 = .ok (.lushr, 1) := by decide +kernel
theorem dX0_widthOf_11 : decode cX0_widthOf 11 = .ok (.lconst 0, 1) := by decide +kernel
theorem dX0_widthOf_12 : decode cX0_widthOf 12 = .ok (.lcmp, 1) := by decide +kernel
theorem dX0_widthOf_13 : decode cX0_widthOf 13 = .ok (.ifCond .eq 9, 3) := by decide +kernel
theorem dX0_widthOf_16 : decode cX0_widthOf 16 = .ok (.iinc 2 1, 3) := by decide +kernel
theorem dX0_widthOf_19 : decode cX0_widthOf 19 = .ok (.goto (-17), 3) := by decide +kernel
theorem dX0_widthOf_22 : decode cX0_widthOf 22 = .ok (.iload_n 2, 1) := by decide +kernel
theorem dX0_widthOf_23 : decode cX0_widthOf 23 = .ok (.ireturn, 1) := by decide +kernel
theorem dJ9_max_f86c9_0 : decode cJ9_max_f86c9 0 = .ok (.lload_n 0, 1) := by decide +kernel
theorem dJ9_max_f86c9_1 : decode cJ9_max_f86c9 1 = .ok (.lload_n 2, 1) := by decide +kernel
theorem dJ9_max_f86c9_2 : decode cJ9_max_f86c9 2 = .ok (.lcmp, 1) := by decide +kernel
theorem dJ9_max_f86c9_3 : decode cJ9_max_f86c9 3 = .ok (.ifCond .lt 7, 3) := by decide +kernel
theorem dJ9_max_f86c9_6 : decode cJ9_max_f86c9 6 = .ok (.lload_n 0, 1) := by decide +kernel
theorem dJ9_max_f86c9_7 : decode cJ9_max_f86c9 7 = .ok (.goto 4, 3) := by decide +kernel
theorem dJ9_max_f86c9_10 : decode cJ9_max_f86c9 10 = .ok (.lload_n 2, 1) := by decide +kernel
theorem dJ9_max_f86c9_11 : decode cJ9_max_f86c9 11 = .ok (.lreturn, 1) := by decide +kernel
theorem dJ9_min_7cf53_0 : decode cJ9_min_7cf53 0 = .ok (.iload_n 0, 1) := by decide +kernel
theorem dJ9_min_7cf53_1 : decode cJ9_min_7cf53 1 = .ok (.iload_n 1, 1) := by decide +kernel
theorem dJ9_min_7cf53_2 : decode cJ9_min_7cf53 2 = .ok (.if_icmp .gt 7, 3) := by decide +kernel
theorem dJ9_min_7cf53_5 : decode cJ9_min_7cf53 5 = .ok (.iload_n 0, 1) := by decide +kernel
theorem dJ9_min_7cf53_6 : decode cJ9_min_7cf53 6 = .ok (.goto 4, 3) := by decide +kernel
theorem dJ9_min_7cf53_9 : decode cJ9_min_7cf53 9 = .ok (.iload_n 1, 1) := by decide +kernel
theorem dJ9_min_7cf53_10 : decode cJ9_min_7cf53 10 = .ok (.ireturn, 1) := by decide +kernel
theorem dJ9_min_f86c9_0 : decode cJ9_min_f86c9 0 = .ok (.lload_n 0, 1) := by decide +kernel
theorem dJ9_min_f86c9_1 : decode cJ9_min_f86c9 1 = .ok (.lload_n 2, 1) := by decide +kernel
theorem dJ9_min_f86c9_2 : decode cJ9_min_f86c9 2 = .ok (.lcmp, 1) := by decide +kernel
theorem dJ9_min_f86c9_3 : decode cJ9_min_f86c9 3 = .ok (.ifCond .gt 7, 3) := by decide +kernel
theorem dJ9_min_f86c9_6 : decode cJ9_min_f86c9 6 = .ok (.lload_n 0, 1) := by decide +kernel
theorem dJ9_min_f86c9_7 : decode cJ9_min_f86c9 7 = .ok (.goto 4, 3) := by decide +kernel
theorem dJ9_min_f86c9_10 : decode cJ9_min_f86c9 10 = .ok (.lload_n 2, 1) := by decide +kernel
theorem dJ9_min_f86c9_11 : decode cJ9_min_f86c9 11 = .ok (.lreturn, 1) := by decide +kernel
set_option maxRecDepth 20000 in
theorem ggL_append_X0_append : GoodIn wsL_append wsX0_append := goodIn_ca (goodIn_r _ [6, 7, 8, 9, 10, 11, 12, 5, 13, 14, 15, 16, 17, 18, 19, 20, 21, 22, 23, 24, 25, 26, 27, 28, 29, 30, 31, 32, 33, 34, 35, 36, 37, 38, 39, 40, 41, 42, 43, 44, 45, 46, 47, 48, 49, 50, 51, 52, 53, 54, 55, 56, 57, 58, 59, 60, 61, 62, 63, 64, 65, 66, 67, 68, 69] (by decide +kernel) (by decide +kernel)) (goodIn_sub (fun _ h => List.mem_cons_of_mem _ (List.mem_append_right _ h)) (by decide +kernel))
set_option maxRecDepth 20000 in
theorem gL_append_X0_append : GoodIn wsL_append (wsV RL 7 RX0 yX0_append wsX0_append) := goodIn_app (goodIn_of _ (by decide +kernel)) ggL_append_X0_append
theorem dL_append_0 : decode cL_append 0 = .ok (.aload 6, 2) := by decide +kernel
theorem dL_append_2 : decode cL_append 2 = .ok (.iconst 0, 1) := by decide +kernel
theorem dL_append_3 : decode cL_append 3 = .ok (.aload_n 0, 1) := by decide +kernel
theorem dL_append_4 : decode cL_append 4 = .ok (.iload_n 1, 1) := by decide +kernel
theorem dL_append_5 : decode cL_append 5 = .ok (.iload_n 2, 1) := by decide +kernel
theorem dL_append_6 : decode cL_append 6 = .ok (.iload_n 3, 1) := by decide +kernel
theorem dL_append_7 : decode cL_append 7 = .ok (.lload 4, 2) := by decide +kernel
theorem dL_append_9 : decode cL_append 9 = .ok (.invokevirtual 7, 3) := by decide +kernel
theorem dL_append_12 : decode cL_append 12 = .ok (.i2l, 1) := by decide +kernel
theorem dL_append_13 : decode cL_append 13 = .ok (.lastore, 1) := by decide +kernel
theorem dL_append_14 : decode cL_append 14 = .ok (.goto 7, 3) := by decide +kernel
theorem dL_append_17 : decode cL_append 17 = .ok (.astore 7, 2) := by decide +kernel
theorem dL_append_19 : decode cL_append 19 = .ok (.iconst 1, 1) := by decide +kernel
theorem dL_append_20 : decode cL_append 20 = .ok (.ireturn, 1) := by decide +kernel
theorem dL_append_21 : decode cL_append 21 = .ok (.iconst 0, 1) := by decide +kernel
theorem dL_append_22 : decode cL_append 22 = .ok (.ireturn, 1) := by decide +kernel
theorem dL_cell_0 : decode cL_cell 0 = .ok (.aload_n 3, 1) := by decide +kernel
theorem dL_cell_1 : decode cL_cell 1 = .ok (.iconst 0, 1) := by decide +kernel
theorem dL_cell_2 : decode cL_cell 2 = .ok (.aload_n 0, 1) := by decide +kernel
theorem dL_cell_3 : decode cL_cell 3 = .ok (.iload_n 1, 1) := by decide +kernel
theorem dL_cell_4 : decode cL_cell 4 = .ok (.iload_n 2, 1) := by decide +kernel
theorem dL_cell_5 : decode cL_cell 5 = .ok (.invokevirtual 15, 3) := by decide +kernel
theorem dL_cell_8 : decode cL_cell 8 = .ok (.lastore, 1) := by decide +kernel
theorem dL_cell_9 : decode cL_cell 9 = .ok (.goto 11, 3) := by decide +kernel
theorem dL_cell_12 : decode cL_cell 12 = .ok (.astore 4, 2) := by decide +kernel
theorem dL_cell_14 : decode cL_cell 14 = .ok (.iconst 1, 1) := by decide +kernel
theorem dL_cell_15 : decode cL_cell 15 = .ok (.ireturn, 1) := by decide +kernel
theorem dL_cell_16 : decode cL_cell 16 = .ok (.astore 4, 2) := by decide +kernel
theorem dL_cell_18 : decode cL_cell 18 = .ok (.iconst 2, 1) := by decide +kernel
theorem dL_cell_19 : decode cL_cell 19 = .ok (.ireturn, 1) := by decide +kernel
theorem dL_cell_20 : decode cL_cell 20 = .ok (.iconst 0, 1) := by decide +kernel
theorem dL_cell_21 : decode cL_cell 21 = .ok (.ireturn, 1) := by decide +kernel
set_option maxRecDepth 20000 in
theorem ggL_law_X0_init : GoodIn wsL_law wsX0_init := goodIn_r _ [6, 7, 8, 9, 3, 10, 11, 12, 13, 14, 15, 16, 17, 18, 19, 20, 21, 138, 139, 140, 141, 142, 143, 144, 145, 146, 147, 148] (by decide +kernel) (by decide +kernel)
set_option maxRecDepth 20000 in
theorem gL_law_X0_init : GoodIn wsL_law (wsX0_init) := ggL_law_X0_init
set_option maxRecDepth 20000 in
theorem ggL_law_L_append : GoodIn wsL_law wsL_append := goodIn_ca (goodIn_r _ [25, 26, 27, 28, 29, 2, 30, 31, 32, 11, 10, 33, 34, 35, 36, 37, 38, 39, 40, 41, 42, 43, 18, 17, 19, 20, 44, 45, 46, 47, 48, 49, 50, 51, 52, 53, 54, 55, 56, 57, 58, 59, 60, 61, 62, 63, 64, 65, 66, 67, 68, 69, 70, 71, 72, 73, 74, 75, 76, 138, 139, 140, 141, 142, 143, 144, 145, 146, 147, 148] (by decide +kernel) (by decide +kernel)) (goodIn_sub (fun _ h => List.mem_append_right _ h) (by decide +kernel))
set_option maxRecDepth 20000 in
theorem gL_law_L_append : GoodIn wsL_law (va_wsS RL 67 yL_append wsL_append) := goodIn_app (goodIn_of _ (by decide +kernel)) ggL_law_L_append
set_option maxRecDepth 20000 in
theorem ggL_law_X0_rows : GoodIn wsL_law wsX0_rows := goodIn_r _ [80, 11, 138, 139, 140, 141, 142, 143, 144, 145, 146, 147, 148] (by decide +kernel) (by decide +kernel)
set_option maxRecDepth 20000 in
theorem gL_law_X0_rows : GoodIn wsL_law (wsV RL 77 RX0 yX0_rows wsX0_rows) := goodIn_app (goodIn_of _ (by decide +kernel)) ggL_law_X0_rows
set_option maxRecDepth 20000 in
theorem ggL_law_L_cell : GoodIn wsL_law wsL_cell := goodIn_r _ [83] (by decide +kernel) (by decide +kernel)
set_option maxRecDepth 20000 in
theorem gL_law_L_cell : GoodIn wsL_law (va_wsS RL 81 yL_cell wsL_cell) := goodIn_app (goodIn_of _ (by decide +kernel)) ggL_law_L_cell
set_option maxRecDepth 20000 in
theorem ggL_law_X0_all : GoodIn wsL_law wsX0_all := goodIn_r _ [87, 16, 138, 139, 140, 141, 142, 143, 144, 145, 146, 147, 148] (by decide +kernel) (by decide +kernel)
set_option maxRecDepth 20000 in
theorem gL_law_X0_all : GoodIn wsL_law (wsV RL 89 RX0 yX0_all wsX0_all) := goodIn_app (goodIn_of _ (by decide +kernel)) ggL_law_X0_all
set_option maxRecDepth 20000 in
theorem ggL_law_X0_chosen : GoodIn wsL_law wsX0_chosen := goodIn_r _ [91, 92, 93, 94, 2, 95, 96, 97, 98, 99, 11, 100, 101, 102, 103, 16, 13, 14, 15, 17, 18, 104, 105, 106, 107, 44, 45, 46, 108, 109, 110, 111, 112, 113, 114, 115, 116, 53, 117, 21, 118, 119, 120, 121, 10, 33, 34, 35, 138, 139, 140, 141, 142, 143, 144, 145, 146, 147, 148] (by decide +kernel) (by decide +kernel)
set_option maxRecDepth 20000 in
theorem gL_law_X0_chosen : GoodIn wsL_law (wsV RL 93 RX0 yX0_chosen wsX0_chosen) := goodIn_app (goodIn_of _ (by decide +kernel)) ggL_law_X0_chosen
set_option maxRecDepth 20000 in
theorem ggL_law_X0_blocks : GoodIn wsL_law wsX0_blocks := goodIn_r _ [125, 96, 97, 98, 2, 99, 11, 100, 101, 102, 103, 16, 13, 14, 15, 17, 18, 104, 105, 106, 107, 44, 45, 46, 108, 109, 110, 138, 139, 140, 141, 142, 143, 144, 145, 146, 147, 148] (by decide +kernel) (by decide +kernel)
set_option maxRecDepth 20000 in
theorem gL_law_X0_blocks : GoodIn wsL_law (wsV RL 101 RX0 yX0_blocks wsX0_blocks) := goodIn_app (goodIn_of _ (by decide +kernel)) ggL_law_X0_blocks
set_option maxRecDepth 20000 in
theorem ggL_law_X0_purge : GoodIn wsL_law wsX0_purge := goodIn_r _ [129, 11, 21, 92, 93, 94, 2, 95, 96, 97, 98, 99, 100, 101, 102, 103, 16, 13, 14, 15, 17, 18, 104, 105, 106, 107, 44, 45, 46, 108, 109, 110, 111, 112, 113, 114, 115, 116, 53, 117, 118, 119, 120, 121, 10, 33, 34, 35, 130, 131, 132, 133, 134, 135, 136, 137, 36, 37, 38, 39, 40, 41, 42, 43, 19, 20, 47, 48, 49, 50, 51, 52, 54, 55, 56, 57, 58, 59, 60, 61, 62, 63, 64, 65, 66, 67, 68, 69, 70, 71, 72, 73, 74, 75, 76, 138, 139, 140, 141, 142, 143, 144, 145, 146, 147, 148] (by decide +kernel) (by decide +kernel)
set_option maxRecDepth 20000 in
theorem gL_law_X0_purge : GoodIn wsL_law (wsV RL 131 RX0 yX0_purge wsX0_purge) := goodIn_app (goodIn_of _ (by decide +kernel)) ggL_law_X0_purge
theorem dL_law_0 : decode cL_law 0 = .ok (.new 8, 3) := by decide +kernel
theorem dL_law_3 : decode cL_law 3 = .ok (.dup, 1) := by decide +kernel
theorem dL_law_4 : decode cL_law 4 = .ok (.invokespecial 61, 3) := by decide +kernel
theorem dL_law_7 : decode cL_law 7 = .ok (.astore_n 1, 1) := by decide +kernel
theorem dL_law_8 : decode cL_law 8 = .ok (.new 62, 3) := by decide +kernel
theorem dL_law_11 : decode cL_law 11 = .ok (.dup, 1) := by decide +kernel
theorem dL_law_12 : decode cL_law 12 = .ok (.invokespecial 64, 3) := by decide +kernel
theorem dL_law_15 : decode cL_law 15 = .ok (.astore_n 2, 1) := by decide +kernel
theorem dL_law_16 : decode cL_law 16 = .ok (.iconst 1, 1) := by decide +kernel
theorem dL_law_17 : decode cL_law 17 = .ok (.newarray .long, 2) := by decide +kernel
theorem dL_law_19 : decode cL_law 19 = .ok (.astore_n 3, 1) := by decide +kernel
theorem dL_law_20 : decode cL_law 20 = .ok (.iconst 0, 1) := by decide +kernel
theorem dL_law_21 : decode cL_law 21 = .ok (.istore 4, 2) := by decide +kernel
theorem dL_law_23 : decode cL_law 23 = .ok (.iload 4, 2) := by decide +kernel
theorem dL_law_25 : decode cL_law 25 = .ok (.aload_n 0, 1) := by decide +kernel
theorem dL_law_26 : decode cL_law 26 = .ok (.arraylength, 1) := by decide +kernel
theorem dL_law_27 : decode cL_law 27 = .ok (.bipush 6, 2) := by decide +kernel
theorem dL_law_29 : decode cL_law 29 = .ok (.isub, 1) := by decide +kernel
theorem dL_law_30 : decode cL_law 30 = .ok (.if_icmp .gt 1081, 3) := by decide +kernel
theorem dL_law_33 : decode cL_law 33 = .ok (.aload_n 0, 1) := by decide +kernel
theorem dL_law_34 : decode cL_law 34 = .ok (.iload 4, 2) := by decide +kernel
theorem dL_law_36 : decode cL_law 36 = .ok (.iaload, 1) := by decide +kernel
theorem dL_law_37 : decode cL_law 37 = .ok (.bipush 31, 2) := by decide +kernel
theorem dL_law_39 : decode cL_law 39 = .ok (.iand, 1) := by decide +kernel
theorem dL_law_40 : decode cL_law 40 = .ok (.tableswitch 1065 0 16 #[84, 208, 221, 288, 400, 413, 426, 482, 495, 550, 633, 701, 757, 848, 916, 984, 1052], 84) := by decide +kernel
theorem dL_law_124 : decode cL_law 124 = .ok (.aload_n 1, 1) := by decide +kernel
theorem dL_law_125 : decode cL_law 125 = .ok (.aload_n 0, 1) := by decide +kernel
theorem dL_law_126 : decode cL_law 126 = .ok (.iload 4, 2) := by decide +kernel
theorem dL_law_128 : decode cL_law 128 = .ok (.iconst 1, 1) := by decide +kernel
theorem dL_law_129 : decode cL_law 129 = .ok (.iadd, 1) := by decide +kernel
theorem dL_law_130 : decode cL_law 130 = .ok (.iaload, 1) := by decide +kernel
theorem dL_law_131 : decode cL_law 131 = .ok (.aload_n 0, 1) := by decide +kernel
theorem dL_law_132 : decode cL_law 132 = .ok (.iload 4, 2) := by decide +kernel
theorem dL_law_134 : decode cL_law 134 = .ok (.iconst 2, 1) := by decide +kernel
theorem dL_law_135 : decode cL_law 135 = .ok (.iadd, 1) := by decide +kernel
theorem dL_law_136 : decode cL_law 136 = .ok (.iaload, 1) := by decide +kernel
theorem dL_law_137 : decode cL_law 137 = .ok (.aload_n 0, 1) := by decide +kernel
theorem dL_law_138 : decode cL_law 138 = .ok (.iload 4, 2) := by decide +kernel
theorem dL_law_140 : decode cL_law 140 = .ok (.iconst 3, 1) := by decide +kernel
theorem dL_law_141 : decode cL_law 141 = .ok (.iadd, 1) := by decide +kernel
theorem dL_law_142 : decode cL_law 142 = .ok (.iaload, 1) := by decide +kernel
theorem dL_law_143 : decode cL_law 143 = .ok (.aload_n 0, 1) := by decide +kernel
theorem dL_law_144 : decode cL_law 144 = .ok (.iload 4, 2) := by decide +kernel
theorem dL_law_146 : decode cL_law 146 = .ok (.iconst 4, 1) := by decide +kernel
theorem dL_law_147 : decode cL_law 147 = .ok (.iadd, 1) := by decide +kernel
theorem dL_law_148 : decode cL_law 148 = .ok (.iaload, 1) := by decide +kernel
theorem dL_law_149 : decode cL_law 149 = .ok (.i2l, 1) := by decide +kernel
theorem dL_law_150 : decode cL_law 150 = .ok (.bipush 32, 2) := by decide +kernel
theorem dL_law_152 : decode cL_law 152 = .ok (.lshl, 1) := by decide +kernel
theorem dL_law_153 : decode cL_law 153 = .ok (.aload_n 0, 1) := by decide +kernel
theorem dL_law_154 : decode cL_law 154 = .ok (.iload 4, 2) := by decide +kernel
theorem dL_law_156 : decode cL_law 156 = .ok (.iconst 5, 1) := by decide +kernel
theorem dL_law_157 : decode cL_law 157 = .ok (.iadd, 1) := by decide +kernel
theorem dL_law_158 : decode cL_law 158 = .ok (.iaload, 1) := by decide +kernel
theorem dL_law_159 : decode cL_law 159 = .ok (.i2l, 1) := by decide +kernel
theorem dL_law_160 : decode cL_law 160 = .ok (.ldc2_w 65, 3) := by decide +kernel
theorem dL_law_163 : decode cL_law 163 = .ok (.land, 1) := by decide +kernel
theorem dL_law_164 : decode cL_law 164 = .ok (.lor, 1) := by decide +kernel
theorem dL_law_165 : decode cL_law 165 = .ok (.aload_n 3, 1) := by decide +kernel
theorem dL_law_166 : decode cL_law 166 = .ok (.invokestatic 67, 3) := by decide +kernel
theorem dL_law_169 : decode cL_law 169 = .ok (.istore 5, 2) := by decide +kernel
theorem dL_law_171 : decode cL_law 171 = .ok (.aload_n 2, 1) := by decide +kernel
theorem dL_law_172 : decode cL_law 172 = .ok (.aload_n 0, 1) := by decide +kernel
theorem dL_law_173 : decode cL_law 173 = .ok (.iload 4, 2) := by decide +kernel
theorem dL_law_175 : decode cL_law 175 = .ok (.iconst 1, 1) := by decide +kernel
theorem dL_law_176 : decode cL_law 176 = .ok (.iadd, 1) := by decide +kernel
theorem dL_law_177 : decode cL_law 177 = .ok (.iaload, 1) := by decide +kernel
theorem dL_law_178 : decode cL_law 178 = .ok (.aload_n 0, 1) := by decide +kernel
theorem dL_law_179 : decode cL_law 179 = .ok (.iload 4, 2) := by decide +kernel
theorem dL_law_181 : decode cL_law 181 = .ok (.iconst 2, 1) := by decide +kernel
theorem dL_law_182 : decode cL_law 182 = .ok (.iadd, 1) := by decide +kernel
theorem dL_law_183 : decode cL_law 183 = .ok (.iaload, 1) := by decide +kernel
theorem dL_law_184 : decode cL_law 184 = .ok (.aload_n 0, 1) := by decide +kernel
theorem dL_law_185 : decode cL_law 185 = .ok (.iload 4, 2) := by decide +kernel
theorem dL_law_187 : decode cL_law 187 = .ok (.iconst 3, 1) := by decide +kernel
theorem dL_law_188 : decode cL_law 188 = .ok (.iadd, 1) := by decide +kernel
theorem dL_law_189 : decode cL_law 189 = .ok (.iaload, 1) := by decide +kernel
theorem dL_law_190 : decode cL_law 190 = .ok (.aload_n 0, 1) := by decide +kernel
theorem dL_law_191 : decode cL_law 191 = .ok (.iload 4, 2) := by decide +kernel
theorem dL_law_193 : decode cL_law 193 = .ok (.iconst 4, 1) := by decide +kernel
theorem dL_law_194 : decode cL_law 194 = .ok (.iadd, 1) := by decide +kernel
theorem dL_law_195 : decode cL_law 195 = .ok (.iaload, 1) := by decide +kernel
theorem dL_law_196 : decode cL_law 196 = .ok (.i2l, 1) := by decide +kernel
theorem dL_law_197 : decode cL_law 197 = .ok (.bipush 32, 2) := by decide +kernel
theorem dL_law_199 : decode cL_law 199 = .ok (.lshl, 1) := by decide +kernel
theorem dL_law_200 : decode cL_law 200 = .ok (.aload_n 0, 1) := by decide +kernel
theorem dL_law_201 : decode cL_law 201 = .ok (.iload 4, 2) := by decide +kernel
theorem dL_law_203 : decode cL_law 203 = .ok (.iconst 5, 1) := by decide +kernel
theorem dL_law_204 : decode cL_law 204 = .ok (.iadd, 1) := by decide +kernel
theorem dL_law_205 : decode cL_law 205 = .ok (.iaload, 1) := by decide +kernel
theorem dL_law_206 : decode cL_law 206 = .ok (.i2l, 1) := by decide +kernel
theorem dL_law_207 : decode cL_law 207 = .ok (.ldc2_w 65, 3) := by decide +kernel
theorem dL_law_210 : decode cL_law 210 = .ok (.land, 1) := by decide +kernel
theorem dL_law_211 : decode cL_law 211 = .ok (.lor, 1) := by decide +kernel
theorem dL_law_212 : decode cL_law 212 = .ok (.invokevirtual 72, 3) := by decide +kernel
theorem dL_law_215 : decode cL_law 215 = .ok (.istore 6, 2) := by decide +kernel
theorem dL_law_217 : decode cL_law 217 = .ok (.aload_n 2, 1) := by decide +kernel
theorem dL_law_218 : decode cL_law 218 = .ok (.invokevirtual 73, 3) := by decide +kernel
theorem dL_law_221 : decode cL_law 221 = .ok (.iload 5, 2) := by decide +kernel
theorem dL_law_223 : decode cL_law 223 = .ok (.if_icmp .eq 5, 3) := by decide +kernel
theorem dL_law_226 : decode cL_law 226 = .ok (.iconst 0, 1) := by decide +kernel
theorem dL_law_227 : decode cL_law 227 = .ok (.ireturn, 1) := by decide +kernel
theorem dL_law_228 : decode cL_law 228 = .ok (.iload 5, 2) := by decide +kernel
theorem dL_law_230 : decode cL_law 230 = .ok (.ifCond .ne 15, 3) := by decide +kernel
theorem dL_law_233 : decode cL_law 233 = .ok (.aload_n 3, 1) := by decide +kernel
theorem dL_law_234 : decode cL_law 234 = .ok (.iconst 0, 1) := by decide +kernel
theorem dL_law_235 : decode cL_law 235 = .ok (.laload, 1) := by decide +kernel
theorem dL_law_236 : decode cL_law 236 = .ok (.iload 6, 2) := by decide +kernel
theorem dL_law_238 : decode cL_law 238 = .ok (.i2l, 1) := by decide +kernel
theorem dL_law_239 : decode cL_law 239 = .ok (.lcmp, 1) := by decide +kernel
theorem dL_law_240 : decode cL_law 240 = .ok (.ifCond .eq 5, 3) := by decide +kernel
theorem dL_law_243 : decode cL_law 243 = .ok (.iconst 0, 1) := by decide +kernel
theorem dL_law_244 : decode cL_law 244 = .ok (.ireturn, 1) := by decide +kernel
theorem dL_law_245 : decode cL_law 245 = .ok (.goto 860, 3) := by decide +kernel
theorem dL_law_248 : decode cL_law 248 = .ok (.aload_n 1, 1) := by decide +kernel
theorem dL_law_249 : decode cL_law 249 = .ok (.invokevirtual 77, 3) := by decide +kernel
theorem dL_law_252 : decode cL_law 252 = .ok (.aload_n 2, 1) := by decide +kernel
theorem dL_law_253 : decode cL_law 253 = .ok (.invokevirtual 80, 3) := by decide +kernel
theorem dL_law_256 : decode cL_law 256 = .ok (.if_icmp .eq 849, 3) := by decide +kernel
theorem dL_law_259 : decode cL_law 259 = .ok (.iconst 0, 1) := by decide +kernel
theorem dL_law_260 : decode cL_law 260 = .ok (.ireturn, 1) := by decide +kernel
theorem dL_law_261 : decode cL_law 261 = .ok (.aload_n 1, 1) := by decide +kernel
theorem dL_law_262 : decode cL_law 262 = .ok (.aload_n 0, 1) := by decide +kernel
theorem dL_law_263 : decode cL_law 263 = .ok (.iload 4, 2) := by decide +kernel
theorem dL_law_265 : decode cL_law 265 = .ok (.iconst 1, 1) := by decide +kernel
theorem dL_law_266 : decode cL_law 266 = .ok (.iadd, 1) := by decide +kernel
theorem dL_law_267 : decode cL_law 267 = .ok (.iaload, 1) := by decide +kernel
theorem dL_law_268 : decode cL_law 268 = .ok (.aload_n 0, 1) := by decide +kernel
theorem dL_law_269 : decode cL_law 269 = .ok (.iload 4, 2) := by decide +kernel
theorem dL_law_271 : decode cL_law 271 = .ok (.iconst 2, 1) := by decide +kernel
theorem dL_law_272 : decode cL_law 272 = .ok (.iadd, 1) := by decide +kernel
theorem dL_law_273 : decode cL_law 273 = .ok (.iaload, 1) := by decide +kernel
theorem dL_law_274 : decode cL_law 274 = .ok (.aload_n 3, 1) := by decide +kernel
theorem dL_law_275 : decode cL_law 275 = .ok (.invokestatic 81, 3) := by decide +kernel
theorem dL_law_278 : decode cL_law 278 = .ok (.istore 5, 2) := by decide +kernel
theorem dL_law_280 : decode cL_law 280 = .ok (.aload_n 2, 1) := by decide +kernel
theorem dL_law_281 : decode cL_law 281 = .ok (.aload_n 0, 1) := by decide +kernel
theorem dL_law_282 : decode cL_law 282 = .ok (.iload 4, 2) := by decide +kernel
theorem dL_law_284 : decode cL_law 284 = .ok (.iconst 1, 1) := by decide +kernel
theorem dL_law_285 : decode cL_law 285 = .ok (.iadd, 1) := by decide +kernel
theorem dL_law_286 : decode cL_law 286 = .ok (.iaload, 1) := by decide +kernel
theorem dL_law_287 : decode cL_law 287 = .ok (.aload_n 0, 1) := by decide +kernel
theorem dL_law_288 : decode cL_law 288 = .ok (.iload 4, 2) := by decide +kernel
theorem dL_law_290 : decode cL_law 290 = .ok (.iconst 2, 1) := by decide +kernel
theorem dL_law_291 : decode cL_law 291 = .ok (.iadd, 1) := by decide +kernel
theorem dL_law_292 : decode cL_law 292 = .ok (.iaload, 1) := by decide +kernel
theorem dL_law_293 : decode cL_law 293 = .ok (.invokevirtual 84, 3) := by decide +kernel
theorem dL_law_296 : decode cL_law 296 = .ok (.lstore 6, 2) := by decide +kernel
theorem dL_law_298 : decode cL_law 298 = .ok (.aload_n 2, 1) := by decide +kernel
theorem dL_law_299 : decode cL_law 299 = .ok (.invokevirtual 73, 3) := by decide +kernel
theorem dL_law_302 : decode cL_law 302 = .ok (.iload 5, 2) := by decide +kernel
theorem dL_law_304 : decode cL_law 304 = .ok (.if_icmp .eq 5, 3) := by decide +kernel
theorem dL_law_307 : decode cL_law 307 = .ok (.iconst 0, 1) := by decide +kernel
theorem dL_law_308 : decode cL_law 308 = .ok (.ireturn, 1) := by decide +kernel
theorem dL_law_309 : decode cL_law 309 = .ok (.iload 5, 2) := by decide +kernel
theorem dL_law_311 : decode cL_law 311 = .ok (.ifCond .ne 14, 3) := by decide +kernel
theorem dL_law_314 : decode cL_law 314 = .ok (.aload_n 3, 1) := by decide +kernel
theorem dL_law_315 : decode cL_law 315 = .ok (.iconst 0, 1) := by decide +kernel
theorem dL_law_316 : decode cL_law 316 = .ok (.laload, 1) := by decide +kernel
theorem dL_law_317 : decode cL_law 317 = .ok (.lload 6, 2) := by decide +kernel
theorem dL_law_319 : decode cL_law 319 = .ok (.lcmp, 1) := by decide +kernel
theorem dL_law_320 : decode cL_law 320 = .ok (.ifCond .eq 5, 3) := by decide +kernel
theorem dL_law_323 : decode cL_law 323 = .ok (.iconst 0, 1) := by decide +kernel
theorem dL_law_324 : decode cL_law 324 = .ok (.ireturn, 1) := by decide +kernel
theorem dL_law_325 : decode cL_law 325 = .ok (.goto 780, 3) := by decide +kernel
theorem dL_law_328 : decode cL_law 328 = .ok (.aload_n 1, 1) := by decide +kernel
theorem dL_law_329 : decode cL_law 329 = .ok (.aload_n 0, 1) := by decide +kernel
theorem dL_law_330 : decode cL_law 330 = .ok (.iload 4, 2) := by decide +kernel
theorem dL_law_332 : decode cL_law 332 = .ok (.iconst 1, 1) := by decide +kernel
theorem dL_law_333 : decode cL_law 333 = .ok (.iadd, 1) := by decide +kernel
theorem dL_law_334 : decode cL_law 334 = .ok (.iaload, 1) := by decide +kernel
theorem dL_law_335 : decode cL_law 335 = .ok (.aload_n 0, 1) := by decide +kernel
theorem dL_law_336 : decode cL_law 336 = .ok (.iload 4, 2) := by decide +kernel
theorem dL_law_338 : decode cL_law 338 = .ok (.iconst 2, 1) := by decide +kernel
theorem dL_law_339 : decode cL_law 339 = .ok (.iadd, 1) := by decide +kernel
theorem dL_law_340 : decode cL_law 340 = .ok (.iaload, 1) := by decide +kernel
theorem dL_law_341 : decode cL_law 341 = .ok (.aload_n 0, 1) := by decide +kernel
theorem dL_law_342 : decode cL_law 342 = .ok (.iload 4, 2) := by decide +kernel
theorem dL_law_344 : decode cL_law 344 = .ok (.iconst 3, 1) := by decide +kernel
theorem dL_law_345 : decode cL_law 345 = .ok (.iadd, 1) := by decide +kernel
theorem dL_law_346 : decode cL_law 346 = .ok (.iaload, 1) := by decide +kernel
theorem dL_law_347 : decode cL_law 347 = .ok (.i2l, 1) := by decide +kernel
theorem dL_law_348 : decode cL_law 348 = .ok (.bipush 32, 2) := by decide +kernel
theorem dL_law_350 : decode cL_law 350 = .ok (.lshl, 1) := by decide +kernel
theorem dL_law_351 : decode cL_law 351 = .ok (.aload_n 0, 1) := by decide +kernel
theorem dL_law_352 : decode cL_law 352 = .ok (.iload 4, 2) := by decide +kernel
theorem dL_law_354 : decode cL_law 354 = .ok (.iconst 4, 1) := by decide +kernel
theorem dL_law_355 : decode cL_law 355 = .ok (.iadd, 1) := by decide +kernel
theorem dL_law_356 : decode cL_law 356 = .ok (.iaload, 1) := by decide +kernel
theorem dL_law_357 : decode cL_law 357 = .ok (.i2l, 1) := by decide +kernel
theorem dL_law_358 : decode cL_law 358 = .ok (.ldc2_w 65, 3) := by decide +kernel
theorem dL_law_361 : decode cL_law 361 = .ok (.land, 1) := by decide +kernel
theorem dL_law_362 : decode cL_law 362 = .ok (.lor, 1) := by decide +kernel
theorem dL_law_363 : decode cL_law 363 = .ok (.aload_n 3, 1) := by decide +kernel
theorem dL_law_364 : decode cL_law 364 = .ok (.invokestatic 85, 3) := by decide +kernel
theorem dL_law_367 : decode cL_law 367 = .ok (.istore 5, 2) := by decide +kernel
theorem dL_law_369 : decode cL_law 369 = .ok (.aload_n 2, 1) := by decide +kernel
theorem dL_law_370 : decode cL_law 370 = .ok (.aload_n 0, 1) := by decide +kernel
theorem dL_law_371 : decode cL_law 371 = .ok (.iload 4, 2) := by decide +kernel
theorem dL_law_373 : decode cL_law 373 = .ok (.iconst 1, 1) := by decide +kernel
theorem dL_law_374 : decode cL_law 374 = .ok (.iadd, 1) := by decide +kernel
theorem dL_law_375 : decode cL_law 375 = .ok (.iaload, 1) := by decide +kernel
theorem dL_law_376 : decode cL_law 376 = .ok (.aload_n 0, 1) := by decide +kernel
theorem dL_law_377 : decode cL_law 377 = .ok (.iload 4, 2) := by decide +kernel
theorem dL_law_379 : decode cL_law 379 = .ok (.iconst 2, 1) := by decide +kernel
theorem dL_law_380 : decode cL_law 380 = .ok (.iadd, 1) := by decide +kernel
theorem dL_law_381 : decode cL_law 381 = .ok (.iaload, 1) := by decide +kernel
theorem dL_law_382 : decode cL_law 382 = .ok (.aload_n 0, 1) := by decide +kernel
theorem dL_law_383 : decode cL_law 383 = .ok (.iload 4, 2) := by decide +kernel
theorem dL_law_385 : decode cL_law 385 = .ok (.iconst 3, 1) := by decide +kernel
theorem dL_law_386 : decode cL_law 386 = .ok (.iadd, 1) := by decide +kernel
theorem dL_law_387 : decode cL_law 387 = .ok (.iaload, 1) := by decide +kernel
theorem dL_law_388 : decode cL_law 388 = .ok (.i2l, 1) := by decide +kernel
theorem dL_law_389 : decode cL_law 389 = .ok (.bipush 32, 2) := by decide +kernel
theorem dL_law_391 : decode cL_law 391 = .ok (.lshl, 1) := by decide +kernel
theorem dL_law_392 : decode cL_law 392 = .ok (.aload_n 0, 1) := by decide +kernel
theorem dL_law_393 : decode cL_law 393 = .ok (.iload 4, 2) := by decide +kernel
theorem dL_law_395 : decode cL_law 395 = .ok (.iconst 4, 1) := by decide +kernel
theorem dL_law_396 : decode cL_law 396 = .ok (.iadd, 1) := by decide +kernel
theorem dL_law_397 : decode cL_law 397 = .ok (.iaload, 1) := by decide +kernel
theorem dL_law_398 : decode cL_law 398 = .ok (.i2l, 1) := by decide +kernel
theorem dL_law_399 : decode cL_law 399 = .ok (.ldc2_w 65, 3) := by decide +kernel
theorem dL_law_402 : decode cL_law 402 = .ok (.land, 1) := by decide +kernel
theorem dL_law_403 : decode cL_law 403 = .ok (.lor, 1) := by decide +kernel
theorem dL_law_404 : decode cL_law 404 = .ok (.invokevirtual 88, 3) := by decide +kernel
theorem dL_law_407 : decode cL_law 407 = .ok (.istore 6, 2) := by decide +kernel
theorem dL_law_409 : decode cL_law 409 = .ok (.aload_n 2, 1) := by decide +kernel
theorem dL_law_410 : decode cL_law 410 = .ok (.invokevirtual 73, 3) := by decide +kernel
theorem dL_law_413 : decode cL_law 413 = .ok (.iload 5, 2) := by decide +kernel
theorem dL_law_415 : decode cL_law 415 = .ok (.if_icmp .eq 5, 3) := by decide +kernel
theorem dL_law_418 : decode cL_law 418 = .ok (.iconst 0, 1) := by decide +kernel
theorem dL_law_419 : decode cL_law 419 = .ok (.ireturn, 1) := by decide +kernel
theorem dL_law_420 : decode cL_law 420 = .ok (.iload 5, 2) := by decide +kernel
theorem dL_law_422 : decode cL_law 422 = .ok (.ifCond .ne 15, 3) := by decide +kernel
theorem dL_law_425 : decode cL_law 425 = .ok (.aload_n 3, 1) := by decide +kernel
theorem dL_law_426 : decode cL_law 426 = .ok (.iconst 0, 1) := by decide +kernel
theorem dL_law_427 : decode cL_law 427 = .ok (.laload, 1) := by decide +kernel
theorem dL_law_428 : decode cL_law 428 = .ok (.iload 6, 2) := by decide +kernel
theorem dL_law_430 : decode cL_law 430 = .ok (.i2l, 1) := by decide +kernel
theorem dL_law_431 : decode cL_law 431 = .ok (.lcmp, 1) := by decide +kernel
theorem dL_law_432 : decode cL_law 432 = .ok (.ifCond .eq 5, 3) := by decide +kernel
theorem dL_law_435 : decode cL_law 435 = .ok (.iconst 0, 1) := by decide +kernel
theorem dL_law_436 : decode cL_law 436 = .ok (.ireturn, 1) := by decide +kernel
theorem dL_law_437 : decode cL_law 437 = .ok (.goto 668, 3) := by decide +kernel
theorem dL_law_440 : decode cL_law 440 = .ok (.aload_n 1, 1) := by decide +kernel
theorem dL_law_441 : decode cL_law 441 = .ok (.invokevirtual 89, 3) := by decide +kernel
theorem dL_law_444 : decode cL_law 444 = .ok (.aload_n 2, 1) := by decide +kernel
theorem dL_law_445 : decode cL_law 445 = .ok (.invokevirtual 92, 3) := by decide +kernel
theorem dL_law_448 : decode cL_law 448 = .ok (.if_icmp .eq 657, 3) := by decide +kernel
theorem dL_law_451 : decode cL_law 451 = .ok (.iconst 0, 1) := by decide +kernel
theorem dL_law_452 : decode cL_law 452 = .ok (.ireturn, 1) := by decide +kernel
theorem dL_law_453 : decode cL_law 453 = .ok (.aload_n 1, 1) := by decide +kernel
theorem dL_law_454 : decode cL_law 454 = .ok (.invokevirtual 93, 3) := by decide +kernel
theorem dL_law_457 : decode cL_law 457 = .ok (.aload_n 2, 1) := by decide +kernel
theorem dL_law_458 : decode cL_law 458 = .ok (.invokevirtual 96, 3) := by decide +kernel
theorem dL_law_461 : decode cL_law 461 = .ok (.if_icmp .eq 644, 3) := by decide +kernel
theorem dL_law_464 : decode cL_law 464 = .ok (.iconst 0, 1) := by decide +kernel
theorem dL_law_465 : decode cL_law 465 = .ok (.ireturn, 1) := by decide +kernel
theorem dL_law_466 : decode cL_law 466 = .ok (.aload_n 1, 1) := by decide +kernel
theorem dL_law_467 : decode cL_law 467 = .ok (.aload_n 0, 1) := by decide +kernel
theorem dL_law_468 : decode cL_law 468 = .ok (.iload 4, 2) := by decide +kernel
theorem dL_law_470 : decode cL_law 470 = .ok (.iconst 1, 1) := by decide +kernel
theorem dL_law_471 : decode cL_law 471 = .ok (.iadd, 1) := by decide +kernel
theorem dL_law_472 : decode cL_law 472 = .ok (.iaload, 1) := by decide +kernel
theorem dL_law_473 : decode cL_law 473 = .ok (.aload_n 3, 1) := by decide +kernel
theorem dL_law_474 : decode cL_law 474 = .ok (.invokestatic 97, 3) := by decide +kernel
theorem dL_law_477 : decode cL_law 477 = .ok (.istore 5, 2) := by decide +kernel
theorem dL_law_479 : decode cL_law 479 = .ok (.aload_n 2, 1) := by decide +kernel
theorem dL_law_480 : decode cL_law 480 = .ok (.aload_n 0, 1) := by decide +kernel
theorem dL_law_481 : decode cL_law 481 = .ok (.iload 4, 2) := by decide +kernel
theorem dL_law_483 : decode cL_law 483 = .ok (.iconst 1, 1) := by decide +kernel
theorem dL_law_484 : decode cL_law 484 = .ok (.iadd, 1) := by decide +kernel
theorem dL_law_485 : decode cL_law 485 = .ok (.iaload, 1) := by decide +kernel
theorem dL_law_486 : decode cL_law 486 = .ok (.invokevirtual 100, 3) := by decide +kernel
theorem dL_law_489 : decode cL_law 489 = .ok (.istore 6, 2) := by decide +kernel
theorem dL_law_491 : decode cL_law 491 = .ok (.aload_n 2, 1) := by decide +kernel
theorem dL_law_492 : decode cL_law 492 = .ok (.invokevirtual 73, 3) := by decide +kernel
theorem dL_law_495 : decode cL_law 495 = .ok (.iload 5, 2) := by decide +kernel
theorem dL_law_497 : decode cL_law 497 = .ok (.if_icmp .eq 5, 3) := by decide +kernel
theorem dL_law_500 : decode cL_law 500 = .ok (.iconst 0, 1) := by decide +kernel
theorem dL_law_501 : decode cL_law 501 = .ok (.ireturn, 1) := by decide +kernel
theorem dL_law_502 : decode cL_law 502 = .ok (.iload 5, 2) := by decide +kernel
theorem dL_law_504 : decode cL_law 504 = .ok (.ifCond .ne 15, 3) := by decide +kernel
theorem dL_law_507 : decode cL_law 507 = .ok (.aload_n 3, 1) := by decide +kernel
theorem dL_law_508 : decode cL_law 508 = .ok (.iconst 0, 1) := by decide +kernel
theorem dL_law_509 : decode cL_law 509 = .ok (.laload, 1) := by decide +kernel
theorem dL_law_510 : decode cL_law 510 = .ok (.iload 6, 2) := by decide +kernel
theorem dL_law_512 : decode cL_law 512 = .ok (.i2l, 1) := by decide +kernel
theorem dL_law_513 : decode cL_law 513 = .ok (.lcmp, 1) := by decide +kernel
theorem dL_law_514 : decode cL_law 514 = .ok (.ifCond .eq 5, 3) := by decide +kernel
theorem dL_law_517 : decode cL_law 517 = .ok (.iconst 0, 1) := by decide +kernel
theorem dL_law_518 : decode cL_law 518 = .ok (.ireturn, 1) := by decide +kernel
theorem dL_law_519 : decode cL_law 519 = .ok (.goto 586, 3) := by decide +kernel
theorem dL_law_522 : decode cL_law 522 = .ok (.aload_n 1, 1) := by decide +kernel
theorem dL_law_523 : decode cL_law 523 = .ok (.invokevirtual 101, 3) := by decide +kernel
theorem dL_law_526 : decode cL_law 526 = .ok (.aload_n 2, 1) := by decide +kernel
theorem dL_law_527 : decode cL_law 527 = .ok (.invokevirtual 104, 3) := by decide +kernel
theorem dL_law_530 : decode cL_law 530 = .ok (.if_icmp .eq 575, 3) := by decide +kernel
theorem dL_law_533 : decode cL_law 533 = .ok (.iconst 0, 1) := by decide +kernel
theorem dL_law_534 : decode cL_law 534 = .ok (.ireturn, 1) := by decide +kernel
theorem dL_law_535 : decode cL_law 535 = .ok (.aload_n 1, 1) := by decide +kernel
theorem dL_law_536 : decode cL_law 536 = .ok (.aload_n 0, 1) := by decide +kernel
theorem dL_law_537 : decode cL_law 537 = .ok (.iload 4, 2) := by decide +kernel
theorem dL_law_539 : decode cL_law 539 = .ok (.iconst 1, 1) := by decide +kernel
theorem dL_law_540 : decode cL_law 540 = .ok (.iadd, 1) := by decide +kernel
theorem dL_law_541 : decode cL_law 541 = .ok (.iaload, 1) := by decide +kernel
theorem dL_law_542 : decode cL_law 542 = .ok (.aload_n 3, 1) := by decide +kernel
theorem dL_law_543 : decode cL_law 543 = .ok (.invokestatic 105, 3) := by decide +kernel
theorem dL_law_546 : decode cL_law 546 = .ok (.istore 5, 2) := by decide +kernel
theorem dL_law_548 : decode cL_law 548 = .ok (.aload_n 2, 1) := by decide +kernel
theorem dL_law_549 : decode cL_law 549 = .ok (.aload_n 0, 1) := by decide +kernel
theorem dL_law_550 : decode cL_law 550 = .ok (.iload 4, 2) := by decide +kernel
theorem dL_law_552 : decode cL_law 552 = .ok (.iconst 1, 1) := by decide +kernel
theorem dL_law_553 : decode cL_law 553 = .ok (.iadd, 1) := by decide +kernel
theorem dL_law_554 : decode cL_law 554 = .ok (.iaload, 1) := by decide +kernel
theorem dL_law_555 : decode cL_law 555 = .ok (.invokevirtual 107, 3) := by decide +kernel
theorem dL_law_558 : decode cL_law 558 = .ok (.lstore 6, 2) := by decide +kernel
theorem dL_law_560 : decode cL_law 560 = .ok (.aload_n 2, 1) := by decide +kernel
theorem dL_law_561 : decode cL_law 561 = .ok (.invokevirtual 73, 3) := by decide +kernel
theorem dL_law_564 : decode cL_law 564 = .ok (.iload 5, 2) := by decide +kernel
theorem dL_law_566 : decode cL_law 566 = .ok (.if_icmp .eq 5, 3) := by decide +kernel
theorem dL_law_569 : decode cL_law 569 = .ok (.iconst 0, 1) := by decide +kernel
theorem dL_law_570 : decode cL_law 570 = .ok (.ireturn, 1) := by decide +kernel
theorem dL_law_571 : decode cL_law 571 = .ok (.iload 5, 2) := by decide +kernel
theorem dL_law_573 : decode cL_law 573 = .ok (.ifCond .ne 14, 3) := by decide +kernel
theorem dL_law_576 : decode cL_law 576 = .ok (.aload_n 3, 1) := by decide +kernel
theorem dL_law_577 : decode cL_law 577 = .ok (.iconst 0, 1) := by decide +kernel
theorem dL_law_578 : decode cL_law 578 = .ok (.laload, 1) := by decide +kernel
theorem dL_law_579 : decode cL_law 579 = .ok (.lload 6, 2) := by decide +kernel
theorem dL_law_581 : decode cL_law 581 = .ok (.lcmp, 1) := by decide +kernel
theorem dL_law_582 : decode cL_law 582 = .ok (.ifCond .eq 5, 3) := by decide +kernel
theorem dL_law_585 : decode cL_law 585 = .ok (.iconst 0, 1) := by decide +kernel
theorem dL_law_586 : decode cL_law 586 = .ok (.ireturn, 1) := by decide +kernel
theorem dL_law_587 : decode cL_law 587 = .ok (.goto 518, 3) := by decide +kernel
theorem dL_law_590 : decode cL_law 590 = .ok (.aload_n 1, 1) := by decide +kernel
theorem dL_law_591 : decode cL_law 591 = .ok (.aload_n 0, 1) := by decide +kernel
theorem dL_law_592 : decode cL_law 592 = .ok (.iload 4, 2) := by decide +kernel
theorem dL_law_594 : decode cL_law 594 = .ok (.iconst 1, 1) := by decide +kernel
theorem dL_law_595 : decode cL_law 595 = .ok (.iadd, 1) := by decide +kernel
theorem dL_law_596 : decode cL_law 596 = .ok (.iaload, 1) := by decide +kernel
theorem dL_law_597 : decode cL_law 597 = .ok (.aload_n 0, 1) := by decide +kernel
theorem dL_law_598 : decode cL_law 598 = .ok (.iload 4, 2) := by decide +kernel
theorem dL_law_600 : decode cL_law 600 = .ok (.iconst 2, 1) := by decide +kernel
theorem dL_law_601 : decode cL_law 601 = .ok (.iadd, 1) := by decide +kernel
theorem dL_law_602 : decode cL_law 602 = .ok (.iaload, 1) := by decide +kernel
theorem dL_law_603 : decode cL_law 603 = .ok (.ifCond .eq 7, 3) := by decide +kernel
theorem dL_law_606 : decode cL_law 606 = .ok (.iconst 1, 1) := by decide +kernel
theorem dL_law_607 : decode cL_law 607 = .ok (.goto 4, 3) := by decide +kernel
theorem dL_law_610 : decode cL_law 610 = .ok (.iconst 0, 1) := by decide +kernel
theorem dL_law_611 : decode cL_law 611 = .ok (.aload_n 3, 1) := by decide +kernel
theorem dL_law_612 : decode cL_law 612 = .ok (.invokestatic 108, 3) := by decide +kernel
theorem dL_law_615 : decode cL_law 615 = .ok (.istore 5, 2) := by decide +kernel
theorem dL_law_617 : decode cL_law 617 = .ok (.aload_n 2, 1) := by decide +kernel
theorem dL_law_618 : decode cL_law 618 = .ok (.aload_n 0, 1) := by decide +kernel
theorem dL_law_619 : decode cL_law 619 = .ok (.iload 4, 2) := by decide +kernel
theorem dL_law_621 : decode cL_law 621 = .ok (.iconst 1, 1) := by decide +kernel
theorem dL_law_622 : decode cL_law 622 = .ok (.iadd, 1) := by decide +kernel
theorem dL_law_623 : decode cL_law 623 = .ok (.iaload, 1) := by decide +kernel
theorem dL_law_624 : decode cL_law 624 = .ok (.aload_n 0, 1) := by decide +kernel
theorem dL_law_625 : decode cL_law 625 = .ok (.iload 4, 2) := by decide +kernel
theorem dL_law_627 : decode cL_law 627 = .ok (.iconst 2, 1) := by decide +kernel
theorem dL_law_628 : decode cL_law 628 = .ok (.iadd, 1) := by decide +kernel
theorem dL_law_629 : decode cL_law 629 = .ok (.iaload, 1) := by decide +kernel
theorem dL_law_630 : decode cL_law 630 = .ok (.ifCond .eq 7, 3) := by decide +kernel
theorem dL_law_633 : decode cL_law 633 = .ok (.iconst 1, 1) := by decide +kernel
theorem dL_law_634 : decode cL_law 634 = .ok (.goto 4, 3) := by decide +kernel
theorem dL_law_637 : decode cL_law 637 = .ok (.iconst 0, 1) := by decide +kernel
theorem dL_law_638 : decode cL_law 638 = .ok (.invokevirtual 111, 3) := by decide +kernel
theorem dL_law_641 : decode cL_law 641 = .ok (.lstore 6, 2) := by decide +kernel
theorem dL_law_643 : decode cL_law 643 = .ok (.aload_n 2, 1) := by decide +kernel
theorem dL_law_644 : decode cL_law 644 = .ok (.invokevirtual 73, 3) := by decide +kernel
theorem dL_law_647 : decode cL_law 647 = .ok (.iload 5, 2) := by decide +kernel
theorem dL_law_649 : decode cL_law 649 = .ok (.if_icmp .eq 5, 3) := by decide +kernel
theorem dL_law_652 : decode cL_law 652 = .ok (.iconst 0, 1) := by decide +kernel
theorem dL_law_653 : decode cL_law 653 = .ok (.ireturn, 1) := by decide +kernel
theorem dL_law_654 : decode cL_law 654 = .ok (.iload 5, 2) := by decide +kernel
theorem dL_law_656 : decode cL_law 656 = .ok (.ifCond .ne 14, 3) := by decide +kernel
theorem dL_law_659 : decode cL_law 659 = .ok (.aload_n 3, 1) := by decide +kernel
theorem dL_law_660 : decode cL_law 660 = .ok (.iconst 0, 1) := by decide +kernel
theorem dL_law_661 : decode cL_law 661 = .ok (.laload, 1) := by decide +kernel
theorem dL_law_662 : decode cL_law 662 = .ok (.lload 6, 2) := by decide +kernel
theorem dL_law_664 : decode cL_law 664 = .ok (.lcmp, 1) := by decide +kernel
theorem dL_law_665 : decode cL_law 665 = .ok (.ifCond .eq 5, 3) := by decide +kernel
theorem dL_law_668 : decode cL_law 668 = .ok (.iconst 0, 1) := by decide +kernel
theorem dL_law_669 : decode cL_law 669 = .ok (.ireturn, 1) := by decide +kernel
theorem dL_law_670 : decode cL_law 670 = .ok (.goto 435, 3) := by decide +kernel
theorem dL_law_673 : decode cL_law 673 = .ok (.aload_n 1, 1) := by decide +kernel
theorem dL_law_674 : decode cL_law 674 = .ok (.aload_n 0, 1) := by decide +kernel
theorem dL_law_675 : decode cL_law 675 = .ok (.iload 4, 2) := by decide +kernel
theorem dL_law_677 : decode cL_law 677 = .ok (.iconst 1, 1) := by decide +kernel
theorem dL_law_678 : decode cL_law 678 = .ok (.iadd, 1) := by decide +kernel
theorem dL_law_679 : decode cL_law 679 = .ok (.iaload, 1) := by decide +kernel
theorem dL_law_680 : decode cL_law 680 = .ok (.aload_n 0, 1) := by decide +kernel
theorem dL_law_681 : decode cL_law 681 = .ok (.iload 4, 2) := by decide +kernel
theorem dL_law_683 : decode cL_law 683 = .ok (.iconst 2, 1) := by decide +kernel
theorem dL_law_684 : decode cL_law 684 = .ok (.iadd, 1) := by decide +kernel
theorem dL_law_685 : decode cL_law 685 = .ok (.iaload, 1) := by decide +kernel
theorem dL_law_686 : decode cL_law 686 = .ok (.aload_n 3, 1) := by decide +kernel
theorem dL_law_687 : decode cL_law 687 = .ok (.invokestatic 112, 3) := by decide +kernel
theorem dL_law_690 : decode cL_law 690 = .ok (.istore 5, 2) := by decide +kernel
theorem dL_law_692 : decode cL_law 692 = .ok (.aload_n 2, 1) := by decide +kernel
theorem dL_law_693 : decode cL_law 693 = .ok (.aload_n 0, 1) := by decide +kernel
theorem dL_law_694 : decode cL_law 694 = .ok (.iload 4, 2) := by decide +kernel
theorem dL_law_696 : decode cL_law 696 = .ok (.iconst 1, 1) := by decide +kernel
theorem dL_law_697 : decode cL_law 697 = .ok (.iadd, 1) := by decide +kernel
theorem dL_law_698 : decode cL_law 698 = .ok (.iaload, 1) := by decide +kernel
theorem dL_law_699 : decode cL_law 699 = .ok (.aload_n 0, 1) := by decide +kernel
theorem dL_law_700 : decode cL_law 700 = .ok (.iload 4, 2) := by decide +kernel
theorem dL_law_702 : decode cL_law 702 = .ok (.iconst 2, 1) := by decide +kernel
theorem dL_law_703 : decode cL_law 703 = .ok (.iadd, 1) := by decide +kernel
theorem dL_law_704 : decode cL_law 704 = .ok (.iaload, 1) := by decide +kernel
theorem dL_law_705 : decode cL_law 705 = .ok (.invokevirtual 114, 3) := by decide +kernel
theorem dL_law_708 : decode cL_law 708 = .ok (.istore 6, 2) := by decide +kernel
theorem dL_law_710 : decode cL_law 710 = .ok (.aload_n 2, 1) := by decide +kernel
theorem dL_law_711 : decode cL_law 711 = .ok (.invokevirtual 73, 3) := by decide +kernel
theorem dL_law_714 : decode cL_law 714 = .ok (.iload 5, 2) := by decide +kernel
theorem dL_law_716 : decode cL_law 716 = .ok (.if_icmp .eq 5, 3) := by decide +kernel
theorem dL_law_719 : decode cL_law 719 = .ok (.iconst 0, 1) := by decide +kernel
theorem dL_law_720 : decode cL_law 720 = .ok (.ireturn, 1) := by decide +kernel
theorem dL_law_721 : decode cL_law 721 = .ok (.iload 5, 2) := by decide +kernel
theorem dL_law_723 : decode cL_law 723 = .ok (.ifCond .ne 15, 3) := by decide +kernel
theorem dL_law_726 : decode cL_law 726 = .ok (.aload_n 3, 1) := by decide +kernel
theorem dL_law_727 : decode cL_law 727 = .ok (.iconst 0, 1) := by decide +kernel
theorem dL_law_728 : decode cL_law 728 = .ok (.laload, 1) := by decide +kernel
theorem dL_law_729 : decode cL_law 729 = .ok (.iload 6, 2) := by decide +kernel
theorem dL_law_731 : decode cL_law 731 = .ok (.i2l, 1) := by decide +kernel
theorem dL_law_732 : decode cL_law 732 = .ok (.lcmp, 1) := by decide +kernel
theorem dL_law_733 : decode cL_law 733 = .ok (.ifCond .eq 5, 3) := by decide +kernel
theorem dL_law_736 : decode cL_law 736 = .ok (.iconst 0, 1) := by decide +kernel
theorem dL_law_737 : decode cL_law 737 = .ok (.ireturn, 1) := by decide +kernel
theorem dL_law_738 : decode cL_law 738 = .ok (.goto 367, 3) := by decide +kernel
theorem dL_law_741 : decode cL_law 741 = .ok (.aload_n 1, 1) := by decide +kernel
theorem dL_law_742 : decode cL_law 742 = .ok (.aload_n 0, 1) := by decide +kernel
theorem dL_law_743 : decode cL_law 743 = .ok (.iload 4, 2) := by decide +kernel
theorem dL_law_745 : decode cL_law 745 = .ok (.iconst 1, 1) := by decide +kernel
theorem dL_law_746 : decode cL_law 746 = .ok (.iadd, 1) := by decide +kernel
theorem dL_law_747 : decode cL_law 747 = .ok (.iaload, 1) := by decide +kernel
theorem dL_law_748 : decode cL_law 748 = .ok (.aload_n 3, 1) := by decide +kernel
theorem dL_law_749 : decode cL_law 749 = .ok (.invokestatic 115, 3) := by decide +kernel
theorem dL_law_752 : decode cL_law 752 = .ok (.istore 5, 2) := by decide +kernel
theorem dL_law_754 : decode cL_law 754 = .ok (.aload_n 2, 1) := by decide +kernel
theorem dL_law_755 : decode cL_law 755 = .ok (.aload_n 0, 1) := by decide +kernel
theorem dL_law_756 : decode cL_law 756 = .ok (.iload 4, 2) := by decide +kernel
theorem dL_law_758 : decode cL_law 758 = .ok (.iconst 1, 1) := by decide +kernel
theorem dL_law_759 : decode cL_law 759 = .ok (.iadd, 1) := by decide +kernel
theorem dL_law_760 : decode cL_law 760 = .ok (.iaload, 1) := by decide +kernel
theorem dL_law_761 : decode cL_law 761 = .ok (.invokevirtual 117, 3) := by decide +kernel
theorem dL_law_764 : decode cL_law 764 = .ok (.istore 6, 2) := by decide +kernel
theorem dL_law_766 : decode cL_law 766 = .ok (.aload_n 2, 1) := by decide +kernel
theorem dL_law_767 : decode cL_law 767 = .ok (.invokevirtual 73, 3) := by decide +kernel
theorem dL_law_770 : decode cL_law 770 = .ok (.iload 5, 2) := by decide +kernel
theorem dL_law_772 : decode cL_law 772 = .ok (.if_icmp .eq 5, 3) := by decide +kernel
theorem dL_law_775 : decode cL_law 775 = .ok (.iconst 0, 1) := by decide +kernel
theorem dL_law_776 : decode cL_law 776 = .ok (.ireturn, 1) := by decide +kernel
theorem dL_law_777 : decode cL_law 777 = .ok (.iload 5, 2) := by decide +kernel
theorem dL_law_779 : decode cL_law 779 = .ok (.ifCond .ne 15, 3) := by decide +kernel
theorem dL_law_782 : decode cL_law 782 = .ok (.aload_n 3, 1) := by decide +kernel
theorem dL_law_783 : decode cL_law 783 = .ok (.iconst 0, 1) := by decide +kernel
theorem dL_law_784 : decode cL_law 784 = .ok (.laload, 1) := by decide +kernel
theorem dL_law_785 : decode cL_law 785 = .ok (.iload 6, 2) := by decide +kernel
theorem dL_law_787 : decode cL_law 787 = .ok (.i2l, 1) := by decide +kernel
theorem dL_law_788 : decode cL_law 788 = .ok (.lcmp, 1) := by decide +kernel
theorem dL_law_789 : decode cL_law 789 = .ok (.ifCond .eq 5, 3) := by decide +kernel
theorem dL_law_792 : decode cL_law 792 = .ok (.iconst 0, 1) := by decide +kernel
theorem dL_law_793 : decode cL_law 793 = .ok (.ireturn, 1) := by decide +kernel
theorem dL_law_794 : decode cL_law 794 = .ok (.goto 311, 3) := by decide +kernel
theorem dL_law_797 : decode cL_law 797 = .ok (.aload_n 1, 1) := by decide +kernel
theorem dL_law_798 : decode cL_law 798 = .ok (.aload_n 0, 1) := by decide +kernel
theorem dL_law_799 : decode cL_law 799 = .ok (.iload 4, 2) := by decide +kernel
theorem dL_law_801 : decode cL_law 801 = .ok (.iconst 1, 1) := by decide +kernel
theorem dL_law_802 : decode cL_law 802 = .ok (.iadd, 1) := by decide +kernel
theorem dL_law_803 : decode cL_law 803 = .ok (.iaload, 1) := by decide +kernel
theorem dL_law_804 : decode cL_law 804 = .ok (.aload_n 0, 1) := by decide +kernel
theorem dL_law_805 : decode cL_law 805 = .ok (.iload 4, 2) := by decide +kernel
theorem dL_law_807 : decode cL_law 807 = .ok (.iconst 2, 1) := by decide +kernel
theorem dL_law_808 : decode cL_law 808 = .ok (.iadd, 1) := by decide +kernel
theorem dL_law_809 : decode cL_law 809 = .ok (.iaload, 1) := by decide +kernel
theorem dL_law_810 : decode cL_law 810 = .ok (.aload_n 0, 1) := by decide +kernel
theorem dL_law_811 : decode cL_law 811 = .ok (.iload 4, 2) := by decide +kernel
theorem dL_law_813 : decode cL_law 813 = .ok (.iconst 3, 1) := by decide +kernel
theorem dL_law_814 : decode cL_law 814 = .ok (.iadd, 1) := by decide +kernel
theorem dL_law_815 : decode cL_law 815 = .ok (.iaload, 1) := by decide +kernel
theorem dL_law_816 : decode cL_law 816 = .ok (.aload_n 0, 1) := by decide +kernel
theorem dL_law_817 : decode cL_law 817 = .ok (.iload 4, 2) := by decide +kernel
theorem dL_law_819 : decode cL_law 819 = .ok (.iconst 4, 1) := by decide +kernel
theorem dL_law_820 : decode cL_law 820 = .ok (.iadd, 1) := by decide +kernel
theorem dL_law_821 : decode cL_law 821 = .ok (.iaload, 1) := by decide +kernel
theorem dL_law_822 : decode cL_law 822 = .ok (.aload_n 3, 1) := by decide +kernel
theorem dL_law_823 : decode cL_law 823 = .ok (.invokestatic 118, 3) := by decide +kernel
theorem dL_law_826 : decode cL_law 826 = .ok (.istore 5, 2) := by decide +kernel
theorem dL_law_828 : decode cL_law 828 = .ok (.aload_n 2, 1) := by decide +kernel
theorem dL_law_829 : decode cL_law 829 = .ok (.aload_n 0, 1) := by decide +kernel
theorem dL_law_830 : decode cL_law 830 = .ok (.iload 4, 2) := by decide +kernel
theorem dL_law_832 : decode cL_law 832 = .ok (.iconst 1, 1) := by decide +kernel
theorem dL_law_833 : decode cL_law 833 = .ok (.iadd, 1) := by decide +kernel
theorem dL_law_834 : decode cL_law 834 = .ok (.iaload, 1) := by decide +kernel
theorem dL_law_835 : decode cL_law 835 = .ok (.aload_n 0, 1) := by decide +kernel
theorem dL_law_836 : decode cL_law 836 = .ok (.iload 4, 2) := by decide +kernel
theorem dL_law_838 : decode cL_law 838 = .ok (.iconst 2, 1) := by decide +kernel
theorem dL_law_839 : decode cL_law 839 = .ok (.iadd, 1) := by decide +kernel
theorem dL_law_840 : decode cL_law 840 = .ok (.iaload, 1) := by decide +kernel
theorem dL_law_841 : decode cL_law 841 = .ok (.aload_n 0, 1) := by decide +kernel
theorem dL_law_842 : decode cL_law 842 = .ok (.iload 4, 2) := by decide +kernel
theorem dL_law_844 : decode cL_law 844 = .ok (.iconst 3, 1) := by decide +kernel
theorem dL_law_845 : decode cL_law 845 = .ok (.iadd, 1) := by decide +kernel
theorem dL_law_846 : decode cL_law 846 = .ok (.iaload, 1) := by decide +kernel
theorem dL_law_847 : decode cL_law 847 = .ok (.aload_n 0, 1) := by decide +kernel
theorem dL_law_848 : decode cL_law 848 = .ok (.iload 4, 2) := by decide +kernel
theorem dL_law_850 : decode cL_law 850 = .ok (.iconst 4, 1) := by decide +kernel
theorem dL_law_851 : decode cL_law 851 = .ok (.iadd, 1) := by decide +kernel
theorem dL_law_852 : decode cL_law 852 = .ok (.iaload, 1) := by decide +kernel
theorem dL_law_853 : decode cL_law 853 = .ok (.invokevirtual 121, 3) := by decide +kernel
theorem dL_law_856 : decode cL_law 856 = .ok (.lstore 6, 2) := by decide +kernel
theorem dL_law_858 : decode cL_law 858 = .ok (.aload_n 2, 1) := by decide +kernel
theorem dL_law_859 : decode cL_law 859 = .ok (.invokevirtual 73, 3) := by decide +kernel
theorem dL_law_862 : decode cL_law 862 = .ok (.iload 5, 2) := by decide +kernel
theorem dL_law_864 : decode cL_law 864 = .ok (.if_icmp .eq 5, 3) := by decide +kernel
theorem dL_law_867 : decode cL_law 867 = .ok (.iconst 0, 1) := by decide +kernel
theorem dL_law_868 : decode cL_law 868 = .ok (.ireturn, 1) := by decide +kernel
theorem dL_law_869 : decode cL_law 869 = .ok (.iload 5, 2) := by decide +kernel
theorem dL_law_871 : decode cL_law 871 = .ok (.ifCond .ne 14, 3) := by decide +kernel
theorem dL_law_874 : decode cL_law 874 = .ok (.aload_n 3, 1) := by decide +kernel
theorem dL_law_875 : decode cL_law 875 = .ok (.iconst 0, 1) := by decide +kernel
theorem dL_law_876 : decode cL_law 876 = .ok (.laload, 1) := by decide +kernel
theorem dL_law_877 : decode cL_law 877 = .ok (.lload 6, 2) := by decide +kernel
theorem dL_law_879 : decode cL_law 879 = .ok (.lcmp, 1) := by decide +kernel
theorem dL_law_880 : decode cL_law 880 = .ok (.ifCond .eq 5, 3) := by decide +kernel
theorem dL_law_883 : decode cL_law 883 = .ok (.iconst 0, 1) := by decide +kernel
theorem dL_law_884 : decode cL_law 884 = .ok (.ireturn, 1) := by decide +kernel
theorem dL_law_885 : decode cL_law 885 = .ok (.goto 220, 3) := by decide +kernel
theorem dL_law_888 : decode cL_law 888 = .ok (.aload_n 1, 1) := by decide +kernel
theorem dL_law_889 : decode cL_law 889 = .ok (.aload_n 0, 1) := by decide +kernel
theorem dL_law_890 : decode cL_law 890 = .ok (.iload 4, 2) := by decide +kernel
theorem dL_law_892 : decode cL_law 892 = .ok (.iconst 1, 1) := by decide +kernel
theorem dL_law_893 : decode cL_law 893 = .ok (.iadd, 1) := by decide +kernel
theorem dL_law_894 : decode cL_law 894 = .ok (.iaload, 1) := by decide +kernel
theorem dL_law_895 : decode cL_law 895 = .ok (.aload_n 0, 1) := by decide +kernel
theorem dL_law_896 : decode cL_law 896 = .ok (.iload 4, 2) := by decide +kernel
theorem dL_law_898 : decode cL_law 898 = .ok (.iconst 2, 1) := by decide +kernel
theorem dL_law_899 : decode cL_law 899 = .ok (.iadd, 1) := by decide +kernel
theorem dL_law_900 : decode cL_law 900 = .ok (.iaload, 1) := by decide +kernel
theorem dL_law_901 : decode cL_law 901 = .ok (.aload_n 3, 1) := by decide +kernel
theorem dL_law_902 : decode cL_law 902 = .ok (.invokestatic 122, 3) := by decide +kernel
theorem dL_law_905 : decode cL_law 905 = .ok (.istore 5, 2) := by decide +kernel
theorem dL_law_907 : decode cL_law 907 = .ok (.aload_n 2, 1) := by decide +kernel
theorem dL_law_908 : decode cL_law 908 = .ok (.aload_n 0, 1) := by decide +kernel
theorem dL_law_909 : decode cL_law 909 = .ok (.iload 4, 2) := by decide +kernel
theorem dL_law_911 : decode cL_law 911 = .ok (.iconst 1, 1) := by decide +kernel
theorem dL_law_912 : decode cL_law 912 = .ok (.iadd, 1) := by decide +kernel
theorem dL_law_913 : decode cL_law 913 = .ok (.iaload, 1) := by decide +kernel
theorem dL_law_914 : decode cL_law 914 = .ok (.aload_n 0, 1) := by decide +kernel
theorem dL_law_915 : decode cL_law 915 = .ok (.iload 4, 2) := by decide +kernel
theorem dL_law_917 : decode cL_law 917 = .ok (.iconst 2, 1) := by decide +kernel
theorem dL_law_918 : decode cL_law 918 = .ok (.iadd, 1) := by decide +kernel
theorem dL_law_919 : decode cL_law 919 = .ok (.iaload, 1) := by decide +kernel
theorem dL_law_920 : decode cL_law 920 = .ok (.invokevirtual 124, 3) := by decide +kernel
theorem dL_law_923 : decode cL_law 923 = .ok (.istore 6, 2) := by decide +kernel
theorem dL_law_925 : decode cL_law 925 = .ok (.aload_n 2, 1) := by decide +kernel
theorem dL_law_926 : decode cL_law 926 = .ok (.invokevirtual 73, 3) := by decide +kernel
theorem dL_law_929 : decode cL_law 929 = .ok (.iload 5, 2) := by decide +kernel
theorem dL_law_931 : decode cL_law 931 = .ok (.if_icmp .eq 5, 3) := by decide +kernel
theorem dL_law_934 : decode cL_law 934 = .ok (.iconst 0, 1) := by decide +kernel
theorem dL_law_935 : decode cL_law 935 = .ok (.ireturn, 1) := by decide +kernel
theorem dL_law_936 : decode cL_law 936 = .ok (.iload 5, 2) := by decide +kernel
theorem dL_law_938 : decode cL_law 938 = .ok (.ifCond .ne 15, 3) := by decide +kernel
theorem dL_law_941 : decode cL_law 941 = .ok (.aload_n 3, 1) := by decide +kernel
theorem dL_law_942 : decode cL_law 942 = .ok (.iconst 0, 1) := by decide +kernel
theorem dL_law_943 : decode cL_law 943 = .ok (.laload, 1) := by decide +kernel
theorem dL_law_944 : decode cL_law 944 = .ok (.iload 6, 2) := by decide +kernel
theorem dL_law_946 : decode cL_law 946 = .ok (.i2l, 1) := by decide +kernel
theorem dL_law_947 : decode cL_law 947 = .ok (.lcmp, 1) := by decide +kernel
theorem dL_law_948 : decode cL_law 948 = .ok (.ifCond .eq 5, 3) := by decide +kernel
theorem dL_law_951 : decode cL_law 951 = .ok (.iconst 0, 1) := by decide +kernel
theorem dL_law_952 : decode cL_law 952 = .ok (.ireturn, 1) := by decide +kernel
theorem dL_law_953 : decode cL_law 953 = .ok (.goto 152, 3) := by decide +kernel
theorem dL_law_956 : decode cL_law 956 = .ok (.aload_n 1, 1) := by decide +kernel
theorem dL_law_957 : decode cL_law 957 = .ok (.aload_n 0, 1) := by decide +kernel
theorem dL_law_958 : decode cL_law 958 = .ok (.iload 4, 2) := by decide +kernel
theorem dL_law_960 : decode cL_law 960 = .ok (.iconst 1, 1) := by decide +kernel
theorem dL_law_961 : decode cL_law 961 = .ok (.iadd, 1) := by decide +kernel
theorem dL_law_962 : decode cL_law 962 = .ok (.iaload, 1) := by decide +kernel
theorem dL_law_963 : decode cL_law 963 = .ok (.aload_n 0, 1) := by decide +kernel
theorem dL_law_964 : decode cL_law 964 = .ok (.iload 4, 2) := by decide +kernel
theorem dL_law_966 : decode cL_law 966 = .ok (.iconst 2, 1) := by decide +kernel
theorem dL_law_967 : decode cL_law 967 = .ok (.iadd, 1) := by decide +kernel
theorem dL_law_968 : decode cL_law 968 = .ok (.iaload, 1) := by decide +kernel
theorem dL_law_969 : decode cL_law 969 = .ok (.aload_n 3, 1) := by decide +kernel
theorem dL_law_970 : decode cL_law 970 = .ok (.invokestatic 125, 3) := by decide +kernel
theorem dL_law_973 : decode cL_law 973 = .ok (.istore 5, 2) := by decide +kernel
theorem dL_law_975 : decode cL_law 975 = .ok (.aload_n 2, 1) := by decide +kernel
theorem dL_law_976 : decode cL_law 976 = .ok (.aload_n 0, 1) := by decide +kernel
theorem dL_law_977 : decode cL_law 977 = .ok (.iload 4, 2) := by decide +kernel
theorem dL_law_979 : decode cL_law 979 = .ok (.iconst 1, 1) := by decide +kernel
theorem dL_law_980 : decode cL_law 980 = .ok (.iadd, 1) := by decide +kernel
theorem dL_law_981 : decode cL_law 981 = .ok (.iaload, 1) := by decide +kernel
theorem dL_law_982 : decode cL_law 982 = .ok (.aload_n 0, 1) := by decide +kernel
theorem dL_law_983 : decode cL_law 983 = .ok (.iload 4, 2) := by decide +kernel
theorem dL_law_985 : decode cL_law 985 = .ok (.iconst 2, 1) := by decide +kernel
theorem dL_law_986 : decode cL_law 986 = .ok (.iadd, 1) := by decide +kernel
theorem dL_law_987 : decode cL_law 987 = .ok (.iaload, 1) := by decide +kernel
theorem dL_law_988 : decode cL_law 988 = .ok (.invokevirtual 127, 3) := by decide +kernel
theorem dL_law_991 : decode cL_law 991 = .ok (.istore 6, 2) := by decide +kernel
theorem dL_law_993 : decode cL_law 993 = .ok (.aload_n 2, 1) := by decide +kernel
theorem dL_law_994 : decode cL_law 994 = .ok (.invokevirtual 73, 3) := by decide +kernel
theorem dL_law_997 : decode cL_law 997 = .ok (.iload 5, 2) := by decide +kernel
theorem dL_law_999 : decode cL_law 999 = .ok (.if_icmp .eq 5, 3) := by decide +kernel
theorem dL_law_1002 : decode cL_law 1002 = .ok (.iconst 0, 1) := by decide +kernel
theorem dL_law_1003 : decode cL_law 1003 = .ok (.ireturn, 1) := by decide +kernel
theorem dL_law_1004 : decode cL_law 1004 = .ok (.iload 5, 2) := by decide +kernel
theorem dL_law_1006 : decode cL_law 1006 = .ok (.ifCond .ne 15, 3) := by decide +kernel
theorem dL_law_1009 : decode cL_law 1009 = .ok (.aload_n 3, 1) := by decide +kernel
theorem dL_law_1010 : decode cL_law 1010 = .ok (.iconst 0, 1) := by decide +kernel
theorem dL_law_1011 : decode cL_law 1011 = .ok (.laload, 1) := by decide +kernel
theorem dL_law_1012 : decode cL_law 1012 = .ok (.iload 6, 2) := by decide +kernel
theorem dL_law_1014 : decode cL_law 1014 = .ok (.i2l, 1) := by decide +kernel
theorem dL_law_1015 : decode cL_law 1015 = .ok (.lcmp, 1) := by decide +kernel
theorem dL_law_1016 : decode cL_law 1016 = .ok (.ifCond .eq 5, 3) := by decide +kernel
theorem dL_law_1019 : decode cL_law 1019 = .ok (.iconst 0, 1) := by decide +kernel
theorem dL_law_1020 : decode cL_law 1020 = .ok (.ireturn, 1) := by decide +kernel
theorem dL_law_1021 : decode cL_law 1021 = .ok (.goto 84, 3) := by decide +kernel
theorem dL_law_1024 : decode cL_law 1024 = .ok (.aload_n 1, 1) := by decide +kernel
theorem dL_law_1025 : decode cL_law 1025 = .ok (.aload_n 0, 1) := by decide +kernel
theorem dL_law_1026 : decode cL_law 1026 = .ok (.iload 4, 2) := by decide +kernel
theorem dL_law_1028 : decode cL_law 1028 = .ok (.iconst 1, 1) := by decide +kernel
theorem dL_law_1029 : decode cL_law 1029 = .ok (.iadd, 1) := by decide +kernel
theorem dL_law_1030 : decode cL_law 1030 = .ok (.iaload, 1) := by decide +kernel
theorem dL_law_1031 : decode cL_law 1031 = .ok (.aload_n 0, 1) := by decide +kernel
theorem dL_law_1032 : decode cL_law 1032 = .ok (.iload 4, 2) := by decide +kernel
theorem dL_law_1034 : decode cL_law 1034 = .ok (.iconst 2, 1) := by decide +kernel
theorem dL_law_1035 : decode cL_law 1035 = .ok (.iadd, 1) := by decide +kernel
theorem dL_law_1036 : decode cL_law 1036 = .ok (.iaload, 1) := by decide +kernel
theorem dL_law_1037 : decode cL_law 1037 = .ok (.aload_n 3, 1) := by decide +kernel
theorem dL_law_1038 : decode cL_law 1038 = .ok (.invokestatic 128, 3) := by decide +kernel
theorem dL_law_1041 : decode cL_law 1041 = .ok (.istore 5, 2) := by decide +kernel
theorem dL_law_1043 : decode cL_law 1043 = .ok (.aload_n 2, 1) := by decide +kernel
theorem dL_law_1044 : decode cL_law 1044 = .ok (.aload_n 0, 1) := by decide +kernel
theorem dL_law_1045 : decode cL_law 1045 = .ok (.iload 4, 2) := by decide +kernel
theorem dL_law_1047 : decode cL_law 1047 = .ok (.iconst 1, 1) := by decide +kernel
theorem dL_law_1048 : decode cL_law 1048 = .ok (.iadd, 1) := by decide +kernel
theorem dL_law_1049 : decode cL_law 1049 = .ok (.iaload, 1) := by decide +kernel
theorem dL_law_1050 : decode cL_law 1050 = .ok (.aload_n 0, 1) := by decide +kernel
theorem dL_law_1051 : decode cL_law 1051 = .ok (.iload 4, 2) := by decide +kernel
theorem dL_law_1053 : decode cL_law 1053 = .ok (.iconst 2, 1) := by decide +kernel
theorem dL_law_1054 : decode cL_law 1054 = .ok (.iadd, 1) := by decide +kernel
theorem dL_law_1055 : decode cL_law 1055 = .ok (.iaload, 1) := by decide +kernel
theorem dL_law_1056 : decode cL_law 1056 = .ok (.invokevirtual 130, 3) := by decide +kernel
theorem dL_law_1059 : decode cL_law 1059 = .ok (.istore 6, 2) := by decide +kernel
theorem dL_law_1061 : decode cL_law 1061 = .ok (.aload_n 2, 1) := by decide +kernel
theorem dL_law_1062 : decode cL_law 1062 = .ok (.invokevirtual 73, 3) := by decide +kernel
theorem dL_law_1065 : decode cL_law 1065 = .ok (.iload 5, 2) := by decide +kernel
theorem dL_law_1067 : decode cL_law 1067 = .ok (.if_icmp .eq 5, 3) := by decide +kernel
theorem dL_law_1070 : decode cL_law 1070 = .ok (.iconst 0, 1) := by decide +kernel
theorem dL_law_1071 : decode cL_law 1071 = .ok (.ireturn, 1) := by decide +kernel
theorem dL_law_1072 : decode cL_law 1072 = .ok (.iload 5, 2) := by decide +kernel
theorem dL_law_1074 : decode cL_law 1074 = .ok (.ifCond .ne 15, 3) := by decide +kernel
theorem dL_law_1077 : decode cL_law 1077 = .ok (.aload_n 3, 1) := by decide +kernel
theorem dL_law_1078 : decode cL_law 1078 = .ok (.iconst 0, 1) := by decide +kernel
theorem dL_law_1079 : decode cL_law 1079 = .ok (.laload, 1) := by decide +kernel
theorem dL_law_1080 : decode cL_law 1080 = .ok (.iload 6, 2) := by decide +kernel
theorem dL_law_1082 : decode cL_law 1082 = .ok (.i2l, 1) := by decide +kernel
theorem dL_law_1083 : decode cL_law 1083 = .ok (.lcmp, 1) := by decide +kernel
theorem dL_law_1084 : decode cL_law 1084 = .ok (.ifCond .eq 5, 3) := by decide +kernel
theorem dL_law_1087 : decode cL_law 1087 = .ok (.iconst 0, 1) := by decide +kernel
theorem dL_law_1088 : decode cL_law 1088 = .ok (.ireturn, 1) := by decide +kernel
theorem dL_law_1089 : decode cL_law 1089 = .ok (.goto 16, 3) := by decide +kernel
theorem dL_law_1092 : decode cL_law 1092 = .ok (.aload_n 1, 1) := by decide +kernel
theorem dL_law_1093 : decode cL_law 1093 = .ok (.invokevirtual 131, 3) := by decide +kernel
theorem dL_law_1096 : decode cL_law 1096 = .ok (.aload_n 2, 1) := by decide +kernel
theorem dL_law_1097 : decode cL_law 1097 = .ok (.invokevirtual 134, 3) := by decide +kernel
theorem dL_law_1100 : decode cL_law 1100 = .ok (.if_icmp .eq 5, 3) := by decide +kernel
theorem dL_law_1103 : decode cL_law 1103 = .ok (.iconst 0, 1) := by decide +kernel
theorem dL_law_1104 : decode cL_law 1104 = .ok (.ireturn, 1) := by decide +kernel
theorem dL_law_1105 : decode cL_law 1105 = .ok (.iinc 4 6, 3) := by decide +kernel
theorem dL_law_1108 : decode cL_law 1108 = .ok (.goto (-1085), 3) := by decide +kernel
theorem dL_law_1111 : decode cL_law 1111 = .ok (.iconst 1, 1) := by decide +kernel
theorem dL_law_1112 : decode cL_law 1112 = .ok (.ireturn, 1) := by decide +kernel
abbrev vwCl : List vw_C := [(RX0, TX0, 11)]
/-- the objects of ColumnHall, kind 0: what each holds, by its address -/
structure wK_O_ColumnHall where
  f_cells : Nat → Option Nat
  f_rowCount : Nat → Int32
  f_conditionColumns : Nat → Option Nat
  f_conditionOps : Nat → Option Nat
  f_conditionValues : Nat → Option Nat
  f_conditionCount : Nat → Int32
  f_leastCells : Nat → Option Nat
  f_greatestCells : Nat → Option Nat
  f_bestWays : Nat → Option Nat
  f_bestBits : Nat → Option Nat
  f_picked : Nat → Option Nat
/-- the arrays of kind 1: what each holds, by its address -/
structure wK_R_I where
  len : Nat → Nat
  row : Nat → Nat → Int32
/-- the arrays of kind 2: what each holds, by its address -/
structure wK_R_J where
  len : Nat → Nat
  row : Nat → Nat → Int64
/-- the pool: the addresses, the kind of each, and the kinds -/
structure wPS where
  L : List Nat
  K : Nat → Nat
  O_ColumnHall : wK_O_ColumnHall
  R_I : wK_R_I
  R_J : wK_R_J
/-- the empty pool -/
abbrev wP0 : wPS := { L := [], K := (fun _ => 0), O_ColumnHall := { f_cells := (fun _ => none), f_rowCount := (fun _ => 0), f_conditionColumns := (fun _ => none), f_conditionOps := (fun _ => none), f_conditionValues := (fun _ => none), f_conditionCount := (fun _ => 0), f_leastCells := (fun _ => none), f_greatestCells := (fun _ => none), f_bestWays := (fun _ => none), f_bestBits := (fun _ => none), f_picked := (fun _ => none) }, R_I := { len := (fun _ => 0), row := (fun _ _ => 0) }, R_J := { len := (fun _ => 0), row := (fun _ _ => 0) } }
/-- the pool's rows by their kinds -/
abbrev wPF (cyI : ClassId) (cyJ : ClassId) (S : wPS) : Nat → va_E := fun a => if S.K a = 0 then .inr (0, [va_rf (S.O_ColumnHall.f_cells a), .int (S.O_ColumnHall.f_rowCount a), va_rf (S.O_ColumnHall.f_conditionColumns a), va_rf (S.O_ColumnHall.f_conditionOps a), va_rf (S.O_ColumnHall.f_conditionValues a), .int (S.O_ColumnHall.f_conditionCount a), va_rf (S.O_ColumnHall.f_leastCells a), va_rf (S.O_ColumnHall.f_greatestCells a), va_rf (S.O_ColumnHall.f_bestWays a), va_rf (S.O_ColumnHall.f_bestBits a), va_rf (S.O_ColumnHall.f_picked a)]) else if S.K a = 1 then .inl (cyI, S.R_I.len a, .inl (S.R_I.row a)) else .inl (cyJ, S.R_J.len a, .inr (.inl (S.R_J.row a)))
theorem wAt_O_ColumnHall (cyI : ClassId) (cyJ : ClassId) (S : wPS) {a : Nat} (h : S.K a = 0) : wPF cyI cyJ S a = .inr (0, [va_rf (S.O_ColumnHall.f_cells a), .int (S.O_ColumnHall.f_rowCount a), va_rf (S.O_ColumnHall.f_conditionColumns a), va_rf (S.O_ColumnHall.f_conditionOps a), va_rf (S.O_ColumnHall.f_conditionValues a), .int (S.O_ColumnHall.f_conditionCount a), va_rf (S.O_ColumnHall.f_leastCells a), va_rf (S.O_ColumnHall.f_greatestCells a), va_rf (S.O_ColumnHall.f_bestWays a), va_rf (S.O_ColumnHall.f_bestBits a), va_rf (S.O_ColumnHall.f_picked a)]) := by simp [wPF, h]
theorem wGt_O_ColumnHall (cyI : ClassId) (cyJ : ClassId) (X : va_W) (S : wPS) {a : Nat} (hL : a ∈ S.L) (h : S.K a = 0) : ∃ k : Nat, (X ++ va_pl S.L (wPF cyI cyJ S))[k]? = some (a, wPF cyI cyJ S a) ∧ (X ++ va_pl S.L (wPF cyI cyJ S))[k]? = some (a, .inr (0, [va_rf (S.O_ColumnHall.f_cells a), .int (S.O_ColumnHall.f_rowCount a), va_rf (S.O_ColumnHall.f_conditionColumns a), va_rf (S.O_ColumnHall.f_conditionOps a), va_rf (S.O_ColumnHall.f_conditionValues a), .int (S.O_ColumnHall.f_conditionCount a), va_rf (S.O_ColumnHall.f_leastCells a), va_rf (S.O_ColumnHall.f_greatestCells a), va_rf (S.O_ColumnHall.f_bestWays a), va_rf (S.O_ColumnHall.f_bestBits a), va_rf (S.O_ColumnHall.f_picked a)])) := by
  obtain ⟨k, hk⟩ := va_pl_get (X := X) (f := wPF cyI cyJ S) hL
  exact ⟨k, hk, hk.trans (congrArg (fun e => some (a, e)) (wAt_O_ColumnHall cyI cyJ S h))⟩
theorem wSt_O_ColumnHall_f_cells (cyI : ClassId) (cyJ : ClassId) (S : wPS) {a : Nat} (h : S.K a = 0) (v : Option Nat) (b : Nat) : va_up (wPF cyI cyJ S) a (.inr (0, [va_rf v, .int (S.O_ColumnHall.f_rowCount a), va_rf (S.O_ColumnHall.f_conditionColumns a), va_rf (S.O_ColumnHall.f_conditionOps a), va_rf (S.O_ColumnHall.f_conditionValues a), .int (S.O_ColumnHall.f_conditionCount a), va_rf (S.O_ColumnHall.f_leastCells a), va_rf (S.O_ColumnHall.f_greatestCells a), va_rf (S.O_ColumnHall.f_bestWays a), va_rf (S.O_ColumnHall.f_bestBits a), va_rf (S.O_ColumnHall.f_picked a)])) b = wPF cyI cyJ { S with O_ColumnHall := { S.O_ColumnHall with f_cells := va_up S.O_ColumnHall.f_cells a v } } b := by by_cases hb : b = a <;> first | (simp only [wPF, va_up_ne _ _ hb]; done) | (simp only [wPF, va_up, if_neg hb]; done) | simp [wPF, va_re, va_up, va_rf, hb, h]
theorem wPu_O_ColumnHall_f_cells (cyI : ClassId) (cyJ : ClassId) (X : va_W) (S : wPS) {A : Nat → Prop} {a k : Nat} (hD : va_D A (X ++ va_pl S.L (wPF cyI cyJ S))) (hL : a ∈ S.L) (h : S.K a = 0) (hk : (X ++ va_pl S.L (wPF cyI cyJ S))[k]? = some (a, wPF cyI cyJ S a)) (v : Option Nat) : (X ++ va_pl S.L (wPF cyI cyJ S)).set k (a, .inr (0, [va_rf v, .int (S.O_ColumnHall.f_rowCount a), va_rf (S.O_ColumnHall.f_conditionColumns a), va_rf (S.O_ColumnHall.f_conditionOps a), va_rf (S.O_ColumnHall.f_conditionValues a), .int (S.O_ColumnHall.f_conditionCount a), va_rf (S.O_ColumnHall.f_leastCells a), va_rf (S.O_ColumnHall.f_greatestCells a), va_rf (S.O_ColumnHall.f_bestWays a), va_rf (S.O_ColumnHall.f_bestBits a), va_rf (S.O_ColumnHall.f_picked a)])) = X ++ va_pl S.L (wPF cyI cyJ { S with O_ColumnHall := { S.O_ColumnHall with f_cells := va_up S.O_ColumnHall.f_cells a v } }) := by
  rw [va_pl_set hD hL hk]
  exact congrArg (fun l => X ++ l) (va_pl_congr (wSt_O_ColumnHall_f_cells cyI cyJ S h v))
theorem wSt_O_ColumnHall_f_rowCount (cyI : ClassId) (cyJ : ClassId) (S : wPS) {a : Nat} (h : S.K a = 0) (v : Int32) (b : Nat) : va_up (wPF cyI cyJ S) a (.inr (0, [va_rf (S.O_ColumnHall.f_cells a), .int v, va_rf (S.O_ColumnHall.f_conditionColumns a), va_rf (S.O_ColumnHall.f_conditionOps a), va_rf (S.O_ColumnHall.f_conditionValues a), .int (S.O_ColumnHall.f_conditionCount a), va_rf (S.O_ColumnHall.f_leastCells a), va_rf (S.O_ColumnHall.f_greatestCells a), va_rf (S.O_ColumnHall.f_bestWays a), va_rf (S.O_ColumnHall.f_bestBits a), va_rf (S.O_ColumnHall.f_picked a)])) b = wPF cyI cyJ { S with O_ColumnHall := { S.O_ColumnHall with f_rowCount := va_up S.O_ColumnHall.f_rowCount a v } } b := by by_cases hb : b = a <;> first | (simp only [wPF, va_up_ne _ _ hb]; done) | (simp only [wPF, va_up, if_neg hb]; done) | simp [wPF, va_re, va_up, va_rf, hb, h]
theorem wPu_O_ColumnHall_f_rowCount (cyI : ClassId) (cyJ : ClassId) (X : va_W) (S : wPS) {A : Nat → Prop} {a k : Nat} (hD : va_D A (X ++ va_pl S.L (wPF cyI cyJ S))) (hL : a ∈ S.L) (h : S.K a = 0) (hk : (X ++ va_pl S.L (wPF cyI cyJ S))[k]? = some (a, wPF cyI cyJ S a)) (v : Int32) : (X ++ va_pl S.L (wPF cyI cyJ S)).set k (a, .inr (0, [va_rf (S.O_ColumnHall.f_cells a), .int v, va_rf (S.O_ColumnHall.f_conditionColumns a), va_rf (S.O_ColumnHall.f_conditionOps a), va_rf (S.O_ColumnHall.f_conditionValues a), .int (S.O_ColumnHall.f_conditionCount a), va_rf (S.O_ColumnHall.f_leastCells a), va_rf (S.O_ColumnHall.f_greatestCells a), va_rf (S.O_ColumnHall.f_bestWays a), va_rf (S.O_ColumnHall.f_bestBits a), va_rf (S.O_ColumnHall.f_picked a)])) = X ++ va_pl S.L (wPF cyI cyJ { S with O_ColumnHall := { S.O_ColumnHall with f_rowCount := va_up S.O_ColumnHall.f_rowCount a v } }) := by
  rw [va_pl_set hD hL hk]
  exact congrArg (fun l => X ++ l) (va_pl_congr (wSt_O_ColumnHall_f_rowCount cyI cyJ S h v))
theorem wSt_O_ColumnHall_f_conditionColumns (cyI : ClassId) (cyJ : ClassId) (S : wPS) {a : Nat} (h : S.K a = 0) (v : Option Nat) (b : Nat) : va_up (wPF cyI cyJ S) a (.inr (0, [va_rf (S.O_ColumnHall.f_cells a), .int (S.O_ColumnHall.f_rowCount a), va_rf v, va_rf (S.O_ColumnHall.f_conditionOps a), va_rf (S.O_ColumnHall.f_conditionValues a), .int (S.O_ColumnHall.f_conditionCount a), va_rf (S.O_ColumnHall.f_leastCells a), va_rf (S.O_ColumnHall.f_greatestCells a), va_rf (S.O_ColumnHall.f_bestWays a), va_rf (S.O_ColumnHall.f_bestBits a), va_rf (S.O_ColumnHall.f_picked a)])) b = wPF cyI cyJ { S with O_ColumnHall := { S.O_ColumnHall with f_conditionColumns := va_up S.O_ColumnHall.f_conditionColumns a v } } b := by by_cases hb : b = a <;> first | (simp only [wPF, va_up_ne _ _ hb]; done) | (simp only [wPF, va_up, if_neg hb]; done) | simp [wPF, va_re, va_up, va_rf, hb, h]
theorem wPu_O_ColumnHall_f_conditionColumns (cyI : ClassId) (cyJ : ClassId) (X : va_W) (S : wPS) {A : Nat → Prop} {a k : Nat} (hD : va_D A (X ++ va_pl S.L (wPF cyI cyJ S))) (hL : a ∈ S.L) (h : S.K a = 0) (hk : (X ++ va_pl S.L (wPF cyI cyJ S))[k]? = some (a, wPF cyI cyJ S a)) (v : Option Nat) : (X ++ va_pl S.L (wPF cyI cyJ S)).set k (a, .inr (0, [va_rf (S.O_ColumnHall.f_cells a), .int (S.O_ColumnHall.f_rowCount a), va_rf v, va_rf (S.O_ColumnHall.f_conditionOps a), va_rf (S.O_ColumnHall.f_conditionValues a), .int (S.O_ColumnHall.f_conditionCount a), va_rf (S.O_ColumnHall.f_leastCells a), va_rf (S.O_ColumnHall.f_greatestCells a), va_rf (S.O_ColumnHall.f_bestWays a), va_rf (S.O_ColumnHall.f_bestBits a), va_rf (S.O_ColumnHall.f_picked a)])) = X ++ va_pl S.L (wPF cyI cyJ { S with O_ColumnHall := { S.O_ColumnHall with f_conditionColumns := va_up S.O_ColumnHall.f_conditionColumns a v } }) := by
  rw [va_pl_set hD hL hk]
  exact congrArg (fun l => X ++ l) (va_pl_congr (wSt_O_ColumnHall_f_conditionColumns cyI cyJ S h v))
theorem wSt_O_ColumnHall_f_conditionOps (cyI : ClassId) (cyJ : ClassId) (S : wPS) {a : Nat} (h : S.K a = 0) (v : Option Nat) (b : Nat) : va_up (wPF cyI cyJ S) a (.inr (0, [va_rf (S.O_ColumnHall.f_cells a), .int (S.O_ColumnHall.f_rowCount a), va_rf (S.O_ColumnHall.f_conditionColumns a), va_rf v, va_rf (S.O_ColumnHall.f_conditionValues a), .int (S.O_ColumnHall.f_conditionCount a), va_rf (S.O_ColumnHall.f_leastCells a), va_rf (S.O_ColumnHall.f_greatestCells a), va_rf (S.O_ColumnHall.f_bestWays a), va_rf (S.O_ColumnHall.f_bestBits a), va_rf (S.O_ColumnHall.f_picked a)])) b = wPF cyI cyJ { S with O_ColumnHall := { S.O_ColumnHall with f_conditionOps := va_up S.O_ColumnHall.f_conditionOps a v } } b := by by_cases hb : b = a <;> first | (simp only [wPF, va_up_ne _ _ hb]; done) | (simp only [wPF, va_up, if_neg hb]; done) | simp [wPF, va_re, va_up, va_rf, hb, h]
theorem wPu_O_ColumnHall_f_conditionOps (cyI : ClassId) (cyJ : ClassId) (X : va_W) (S : wPS) {A : Nat → Prop} {a k : Nat} (hD : va_D A (X ++ va_pl S.L (wPF cyI cyJ S))) (hL : a ∈ S.L) (h : S.K a = 0) (hk : (X ++ va_pl S.L (wPF cyI cyJ S))[k]? = some (a, wPF cyI cyJ S a)) (v : Option Nat) : (X ++ va_pl S.L (wPF cyI cyJ S)).set k (a, .inr (0, [va_rf (S.O_ColumnHall.f_cells a), .int (S.O_ColumnHall.f_rowCount a), va_rf (S.O_ColumnHall.f_conditionColumns a), va_rf v, va_rf (S.O_ColumnHall.f_conditionValues a), .int (S.O_ColumnHall.f_conditionCount a), va_rf (S.O_ColumnHall.f_leastCells a), va_rf (S.O_ColumnHall.f_greatestCells a), va_rf (S.O_ColumnHall.f_bestWays a), va_rf (S.O_ColumnHall.f_bestBits a), va_rf (S.O_ColumnHall.f_picked a)])) = X ++ va_pl S.L (wPF cyI cyJ { S with O_ColumnHall := { S.O_ColumnHall with f_conditionOps := va_up S.O_ColumnHall.f_conditionOps a v } }) := by
  rw [va_pl_set hD hL hk]
  exact congrArg (fun l => X ++ l) (va_pl_congr (wSt_O_ColumnHall_f_conditionOps cyI cyJ S h v))
theorem wSt_O_ColumnHall_f_conditionValues (cyI : ClassId) (cyJ : ClassId) (S : wPS) {a : Nat} (h : S.K a = 0) (v : Option Nat) (b : Nat) : va_up (wPF cyI cyJ S) a (.inr (0, [va_rf (S.O_ColumnHall.f_cells a), .int (S.O_ColumnHall.f_rowCount a), va_rf (S.O_ColumnHall.f_conditionColumns a), va_rf (S.O_ColumnHall.f_conditionOps a), va_rf v, .int (S.O_ColumnHall.f_conditionCount a), va_rf (S.O_ColumnHall.f_leastCells a), va_rf (S.O_ColumnHall.f_greatestCells a), va_rf (S.O_ColumnHall.f_bestWays a), va_rf (S.O_ColumnHall.f_bestBits a), va_rf (S.O_ColumnHall.f_picked a)])) b = wPF cyI cyJ { S with O_ColumnHall := { S.O_ColumnHall with f_conditionValues := va_up S.O_ColumnHall.f_conditionValues a v } } b := by by_cases hb : b = a <;> first | (simp only [wPF, va_up_ne _ _ hb]; done) | (simp only [wPF, va_up, if_neg hb]; done) | simp [wPF, va_re, va_up, va_rf, hb, h]
theorem wPu_O_ColumnHall_f_conditionValues (cyI : ClassId) (cyJ : ClassId) (X : va_W) (S : wPS) {A : Nat → Prop} {a k : Nat} (hD : va_D A (X ++ va_pl S.L (wPF cyI cyJ S))) (hL : a ∈ S.L) (h : S.K a = 0) (hk : (X ++ va_pl S.L (wPF cyI cyJ S))[k]? = some (a, wPF cyI cyJ S a)) (v : Option Nat) : (X ++ va_pl S.L (wPF cyI cyJ S)).set k (a, .inr (0, [va_rf (S.O_ColumnHall.f_cells a), .int (S.O_ColumnHall.f_rowCount a), va_rf (S.O_ColumnHall.f_conditionColumns a), va_rf (S.O_ColumnHall.f_conditionOps a), va_rf v, .int (S.O_ColumnHall.f_conditionCount a), va_rf (S.O_ColumnHall.f_leastCells a), va_rf (S.O_ColumnHall.f_greatestCells a), va_rf (S.O_ColumnHall.f_bestWays a), va_rf (S.O_ColumnHall.f_bestBits a), va_rf (S.O_ColumnHall.f_picked a)])) = X ++ va_pl S.L (wPF cyI cyJ { S with O_ColumnHall := { S.O_ColumnHall with f_conditionValues := va_up S.O_ColumnHall.f_conditionValues a v } }) := by
  rw [va_pl_set hD hL hk]
  exact congrArg (fun l => X ++ l) (va_pl_congr (wSt_O_ColumnHall_f_conditionValues cyI cyJ S h v))
theorem wSt_O_ColumnHall_f_conditionCount (cyI : ClassId) (cyJ : ClassId) (S : wPS) {a : Nat} (h : S.K a = 0) (v : Int32) (b : Nat) : va_up (wPF cyI cyJ S) a (.inr (0, [va_rf (S.O_ColumnHall.f_cells a), .int (S.O_ColumnHall.f_rowCount a), va_rf (S.O_ColumnHall.f_conditionColumns a), va_rf (S.O_ColumnHall.f_conditionOps a), va_rf (S.O_ColumnHall.f_conditionValues a), .int v, va_rf (S.O_ColumnHall.f_leastCells a), va_rf (S.O_ColumnHall.f_greatestCells a), va_rf (S.O_ColumnHall.f_bestWays a), va_rf (S.O_ColumnHall.f_bestBits a), va_rf (S.O_ColumnHall.f_picked a)])) b = wPF cyI cyJ { S with O_ColumnHall := { S.O_ColumnHall with f_conditionCount := va_up S.O_ColumnHall.f_conditionCount a v } } b := by by_cases hb : b = a <;> first | (simp only [wPF, va_up_ne _ _ hb]; done) | (simp only [wPF, va_up, if_neg hb]; done) | simp [wPF, va_re, va_up, va_rf, hb, h]
theorem wPu_O_ColumnHall_f_conditionCount (cyI : ClassId) (cyJ : ClassId) (X : va_W) (S : wPS) {A : Nat → Prop} {a k : Nat} (hD : va_D A (X ++ va_pl S.L (wPF cyI cyJ S))) (hL : a ∈ S.L) (h : S.K a = 0) (hk : (X ++ va_pl S.L (wPF cyI cyJ S))[k]? = some (a, wPF cyI cyJ S a)) (v : Int32) : (X ++ va_pl S.L (wPF cyI cyJ S)).set k (a, .inr (0, [va_rf (S.O_ColumnHall.f_cells a), .int (S.O_ColumnHall.f_rowCount a), va_rf (S.O_ColumnHall.f_conditionColumns a), va_rf (S.O_ColumnHall.f_conditionOps a), va_rf (S.O_ColumnHall.f_conditionValues a), .int v, va_rf (S.O_ColumnHall.f_leastCells a), va_rf (S.O_ColumnHall.f_greatestCells a), va_rf (S.O_ColumnHall.f_bestWays a), va_rf (S.O_ColumnHall.f_bestBits a), va_rf (S.O_ColumnHall.f_picked a)])) = X ++ va_pl S.L (wPF cyI cyJ { S with O_ColumnHall := { S.O_ColumnHall with f_conditionCount := va_up S.O_ColumnHall.f_conditionCount a v } }) := by
  rw [va_pl_set hD hL hk]
  exact congrArg (fun l => X ++ l) (va_pl_congr (wSt_O_ColumnHall_f_conditionCount cyI cyJ S h v))
theorem wSt_O_ColumnHall_f_leastCells (cyI : ClassId) (cyJ : ClassId) (S : wPS) {a : Nat} (h : S.K a = 0) (v : Option Nat) (b : Nat) : va_up (wPF cyI cyJ S) a (.inr (0, [va_rf (S.O_ColumnHall.f_cells a), .int (S.O_ColumnHall.f_rowCount a), va_rf (S.O_ColumnHall.f_conditionColumns a), va_rf (S.O_ColumnHall.f_conditionOps a), va_rf (S.O_ColumnHall.f_conditionValues a), .int (S.O_ColumnHall.f_conditionCount a), va_rf v, va_rf (S.O_ColumnHall.f_greatestCells a), va_rf (S.O_ColumnHall.f_bestWays a), va_rf (S.O_ColumnHall.f_bestBits a), va_rf (S.O_ColumnHall.f_picked a)])) b = wPF cyI cyJ { S with O_ColumnHall := { S.O_ColumnHall with f_leastCells := va_up S.O_ColumnHall.f_leastCells a v } } b := by by_cases hb : b = a <;> first | (simp only [wPF, va_up_ne _ _ hb]; done) | (simp only [wPF, va_up, if_neg hb]; done) | simp [wPF, va_re, va_up, va_rf, hb, h]
theorem wPu_O_ColumnHall_f_leastCells (cyI : ClassId) (cyJ : ClassId) (X : va_W) (S : wPS) {A : Nat → Prop} {a k : Nat} (hD : va_D A (X ++ va_pl S.L (wPF cyI cyJ S))) (hL : a ∈ S.L) (h : S.K a = 0) (hk : (X ++ va_pl S.L (wPF cyI cyJ S))[k]? = some (a, wPF cyI cyJ S a)) (v : Option Nat) : (X ++ va_pl S.L (wPF cyI cyJ S)).set k (a, .inr (0, [va_rf (S.O_ColumnHall.f_cells a), .int (S.O_ColumnHall.f_rowCount a), va_rf (S.O_ColumnHall.f_conditionColumns a), va_rf (S.O_ColumnHall.f_conditionOps a), va_rf (S.O_ColumnHall.f_conditionValues a), .int (S.O_ColumnHall.f_conditionCount a), va_rf v, va_rf (S.O_ColumnHall.f_greatestCells a), va_rf (S.O_ColumnHall.f_bestWays a), va_rf (S.O_ColumnHall.f_bestBits a), va_rf (S.O_ColumnHall.f_picked a)])) = X ++ va_pl S.L (wPF cyI cyJ { S with O_ColumnHall := { S.O_ColumnHall with f_leastCells := va_up S.O_ColumnHall.f_leastCells a v } }) := by
  rw [va_pl_set hD hL hk]
  exact congrArg (fun l => X ++ l) (va_pl_congr (wSt_O_ColumnHall_f_leastCells cyI cyJ S h v))
theorem wSt_O_ColumnHall_f_greatestCells (cyI : ClassId) (cyJ : ClassId) (S : wPS) {a : Nat} (h : S.K a = 0) (v : Option Nat) (b : Nat) : va_up (wPF cyI cyJ S) a (.inr (0, [va_rf (S.O_ColumnHall.f_cells a), .int (S.O_ColumnHall.f_rowCount a), va_rf (S.O_ColumnHall.f_conditionColumns a), va_rf (S.O_ColumnHall.f_conditionOps a), va_rf (S.O_ColumnHall.f_conditionValues a), .int (S.O_ColumnHall.f_conditionCount a), va_rf (S.O_ColumnHall.f_leastCells a), va_rf v, va_rf (S.O_ColumnHall.f_bestWays a), va_rf (S.O_ColumnHall.f_bestBits a), va_rf (S.O_ColumnHall.f_picked a)])) b = wPF cyI cyJ { S with O_ColumnHall := { S.O_ColumnHall with f_greatestCells := va_up S.O_ColumnHall.f_greatestCells a v } } b := by by_cases hb : b = a <;> first | (simp only [wPF, va_up_ne _ _ hb]; done) | (simp only [wPF, va_up, if_neg hb]; done) | simp [wPF, va_re, va_up, va_rf, hb, h]
theorem wPu_O_ColumnHall_f_greatestCells (cyI : ClassId) (cyJ : ClassId) (X : va_W) (S : wPS) {A : Nat → Prop} {a k : Nat} (hD : va_D A (X ++ va_pl S.L (wPF cyI cyJ S))) (hL : a ∈ S.L) (h : S.K a = 0) (hk : (X ++ va_pl S.L (wPF cyI cyJ S))[k]? = some (a, wPF cyI cyJ S a)) (v : Option Nat) : (X ++ va_pl S.L (wPF cyI cyJ S)).set k (a, .inr (0, [va_rf (S.O_ColumnHall.f_cells a), .int (S.O_ColumnHall.f_rowCount a), va_rf (S.O_ColumnHall.f_conditionColumns a), va_rf (S.O_ColumnHall.f_conditionOps a), va_rf (S.O_ColumnHall.f_conditionValues a), .int (S.O_ColumnHall.f_conditionCount a), va_rf (S.O_ColumnHall.f_leastCells a), va_rf v, va_rf (S.O_ColumnHall.f_bestWays a), va_rf (S.O_ColumnHall.f_bestBits a), va_rf (S.O_ColumnHall.f_picked a)])) = X ++ va_pl S.L (wPF cyI cyJ { S with O_ColumnHall := { S.O_ColumnHall with f_greatestCells := va_up S.O_ColumnHall.f_greatestCells a v } }) := by
  rw [va_pl_set hD hL hk]
  exact congrArg (fun l => X ++ l) (va_pl_congr (wSt_O_ColumnHall_f_greatestCells cyI cyJ S h v))
theorem wSt_O_ColumnHall_f_bestWays (cyI : ClassId) (cyJ : ClassId) (S : wPS) {a : Nat} (h : S.K a = 0) (v : Option Nat) (b : Nat) : va_up (wPF cyI cyJ S) a (.inr (0, [va_rf (S.O_ColumnHall.f_cells a), .int (S.O_ColumnHall.f_rowCount a), va_rf (S.O_ColumnHall.f_conditionColumns a), va_rf (S.O_ColumnHall.f_conditionOps a), va_rf (S.O_ColumnHall.f_conditionValues a), .int (S.O_ColumnHall.f_conditionCount a), va_rf (S.O_ColumnHall.f_leastCells a), va_rf (S.O_ColumnHall.f_greatestCells a), va_rf v, va_rf (S.O_ColumnHall.f_bestBits a), va_rf (S.O_ColumnHall.f_picked a)])) b = wPF cyI cyJ { S with O_ColumnHall := { S.O_ColumnHall with f_bestWays := va_up S.O_ColumnHall.f_bestWays a v } } b := by by_cases hb : b = a <;> first | (simp only [wPF, va_up_ne _ _ hb]; done) | (simp only [wPF, va_up, if_neg hb]; done) | simp [wPF, va_re, va_up, va_rf, hb, h]
theorem wPu_O_ColumnHall_f_bestWays (cyI : ClassId) (cyJ : ClassId) (X : va_W) (S : wPS) {A : Nat → Prop} {a k : Nat} (hD : va_D A (X ++ va_pl S.L (wPF cyI cyJ S))) (hL : a ∈ S.L) (h : S.K a = 0) (hk : (X ++ va_pl S.L (wPF cyI cyJ S))[k]? = some (a, wPF cyI cyJ S a)) (v : Option Nat) : (X ++ va_pl S.L (wPF cyI cyJ S)).set k (a, .inr (0, [va_rf (S.O_ColumnHall.f_cells a), .int (S.O_ColumnHall.f_rowCount a), va_rf (S.O_ColumnHall.f_conditionColumns a), va_rf (S.O_ColumnHall.f_conditionOps a), va_rf (S.O_ColumnHall.f_conditionValues a), .int (S.O_ColumnHall.f_conditionCount a), va_rf (S.O_ColumnHall.f_leastCells a), va_rf (S.O_ColumnHall.f_greatestCells a), va_rf v, va_rf (S.O_ColumnHall.f_bestBits a), va_rf (S.O_ColumnHall.f_picked a)])) = X ++ va_pl S.L (wPF cyI cyJ { S with O_ColumnHall := { S.O_ColumnHall with f_bestWays := va_up S.O_ColumnHall.f_bestWays a v } }) := by
  rw [va_pl_set hD hL hk]
  exact congrArg (fun l => X ++ l) (va_pl_congr (wSt_O_ColumnHall_f_bestWays cyI cyJ S h v))
theorem wSt_O_ColumnHall_f_bestBits (cyI : ClassId) (cyJ : ClassId) (S : wPS) {a : Nat} (h : S.K a = 0) (v : Option Nat) (b : Nat) : va_up (wPF cyI cyJ S) a (.inr (0, [va_rf (S.O_ColumnHall.f_cells a), .int (S.O_ColumnHall.f_rowCount a), va_rf (S.O_ColumnHall.f_conditionColumns a), va_rf (S.O_ColumnHall.f_conditionOps a), va_rf (S.O_ColumnHall.f_conditionValues a), .int (S.O_ColumnHall.f_conditionCount a), va_rf (S.O_ColumnHall.f_leastCells a), va_rf (S.O_ColumnHall.f_greatestCells a), va_rf (S.O_ColumnHall.f_bestWays a), va_rf v, va_rf (S.O_ColumnHall.f_picked a)])) b = wPF cyI cyJ { S with O_ColumnHall := { S.O_ColumnHall with f_bestBits := va_up S.O_ColumnHall.f_bestBits a v } } b := by by_cases hb : b = a <;> first | (simp only [wPF, va_up_ne _ _ hb]; done) | (simp only [wPF, va_up, if_neg hb]; done) | simp [wPF, va_re, va_up, va_rf, hb, h]
theorem wPu_O_ColumnHall_f_bestBits (cyI : ClassId) (cyJ : ClassId) (X : va_W) (S : wPS) {A : Nat → Prop} {a k : Nat} (hD : va_D A (X ++ va_pl S.L (wPF cyI cyJ S))) (hL : a ∈ S.L) (h : S.K a = 0) (hk : (X ++ va_pl S.L (wPF cyI cyJ S))[k]? = some (a, wPF cyI cyJ S a)) (v : Option Nat) : (X ++ va_pl S.L (wPF cyI cyJ S)).set k (a, .inr (0, [va_rf (S.O_ColumnHall.f_cells a), .int (S.O_ColumnHall.f_rowCount a), va_rf (S.O_ColumnHall.f_conditionColumns a), va_rf (S.O_ColumnHall.f_conditionOps a), va_rf (S.O_ColumnHall.f_conditionValues a), .int (S.O_ColumnHall.f_conditionCount a), va_rf (S.O_ColumnHall.f_leastCells a), va_rf (S.O_ColumnHall.f_greatestCells a), va_rf (S.O_ColumnHall.f_bestWays a), va_rf v, va_rf (S.O_ColumnHall.f_picked a)])) = X ++ va_pl S.L (wPF cyI cyJ { S with O_ColumnHall := { S.O_ColumnHall with f_bestBits := va_up S.O_ColumnHall.f_bestBits a v } }) := by
  rw [va_pl_set hD hL hk]
  exact congrArg (fun l => X ++ l) (va_pl_congr (wSt_O_ColumnHall_f_bestBits cyI cyJ S h v))
theorem wSt_O_ColumnHall_f_picked (cyI : ClassId) (cyJ : ClassId) (S : wPS) {a : Nat} (h : S.K a = 0) (v : Option Nat) (b : Nat) : va_up (wPF cyI cyJ S) a (.inr (0, [va_rf (S.O_ColumnHall.f_cells a), .int (S.O_ColumnHall.f_rowCount a), va_rf (S.O_ColumnHall.f_conditionColumns a), va_rf (S.O_ColumnHall.f_conditionOps a), va_rf (S.O_ColumnHall.f_conditionValues a), .int (S.O_ColumnHall.f_conditionCount a), va_rf (S.O_ColumnHall.f_leastCells a), va_rf (S.O_ColumnHall.f_greatestCells a), va_rf (S.O_ColumnHall.f_bestWays a), va_rf (S.O_ColumnHall.f_bestBits a), va_rf v])) b = wPF cyI cyJ { S with O_ColumnHall := { S.O_ColumnHall with f_picked := va_up S.O_ColumnHall.f_picked a v } } b := by by_cases hb : b = a <;> first | (simp only [wPF, va_up_ne _ _ hb]; done) | (simp only [wPF, va_up, if_neg hb]; done) | simp [wPF, va_re, va_up, va_rf, hb, h]
theorem wPu_O_ColumnHall_f_picked (cyI : ClassId) (cyJ : ClassId) (X : va_W) (S : wPS) {A : Nat → Prop} {a k : Nat} (hD : va_D A (X ++ va_pl S.L (wPF cyI cyJ S))) (hL : a ∈ S.L) (h : S.K a = 0) (hk : (X ++ va_pl S.L (wPF cyI cyJ S))[k]? = some (a, wPF cyI cyJ S a)) (v : Option Nat) : (X ++ va_pl S.L (wPF cyI cyJ S)).set k (a, .inr (0, [va_rf (S.O_ColumnHall.f_cells a), .int (S.O_ColumnHall.f_rowCount a), va_rf (S.O_ColumnHall.f_conditionColumns a), va_rf (S.O_ColumnHall.f_conditionOps a), va_rf (S.O_ColumnHall.f_conditionValues a), .int (S.O_ColumnHall.f_conditionCount a), va_rf (S.O_ColumnHall.f_leastCells a), va_rf (S.O_ColumnHall.f_greatestCells a), va_rf (S.O_ColumnHall.f_bestWays a), va_rf (S.O_ColumnHall.f_bestBits a), va_rf v])) = X ++ va_pl S.L (wPF cyI cyJ { S with O_ColumnHall := { S.O_ColumnHall with f_picked := va_up S.O_ColumnHall.f_picked a v } }) := by
  rw [va_pl_set hD hL hk]
  exact congrArg (fun l => X ++ l) (va_pl_congr (wSt_O_ColumnHall_f_picked cyI cyJ S h v))
theorem wNw_O_ColumnHall (cyI : ClassId) (cyJ : ClassId) (S : wPS) (a b : Nat) : va_up (wPF cyI cyJ S) a (.inr (0, [.null, .int 0, .null, .null, .null, .int 0, .null, .null, .null, .null, .null])) b = wPF cyI cyJ { S with L := S.L ++ [a], K := va_up S.K a 0, O_ColumnHall := { f_cells := va_up S.O_ColumnHall.f_cells a none, f_rowCount := va_up S.O_ColumnHall.f_rowCount a 0, f_conditionColumns := va_up S.O_ColumnHall.f_conditionColumns a none, f_conditionOps := va_up S.O_ColumnHall.f_conditionOps a none, f_conditionValues := va_up S.O_ColumnHall.f_conditionValues a none, f_conditionCount := va_up S.O_ColumnHall.f_conditionCount a 0, f_leastCells := va_up S.O_ColumnHall.f_leastCells a none, f_greatestCells := va_up S.O_ColumnHall.f_greatestCells a none, f_bestWays := va_up S.O_ColumnHall.f_bestWays a none, f_bestBits := va_up S.O_ColumnHall.f_bestBits a none, f_picked := va_up S.O_ColumnHall.f_picked a none } } b := by by_cases hb : b = a <;> first | (simp only [wPF, va_up_ne _ _ hb]; done) | (simp only [wPF, va_up, if_neg hb]; done) | simp [wPF, va_re, va_up, va_rf, hb]
theorem wPn_O_ColumnHall (cyI : ClassId) (cyJ : ClassId) (X : va_W) (S : wPS) {a : Nat} (ha : a ∉ S.L) : (X ++ va_pl S.L (wPF cyI cyJ S)) ++ [(a, .inr (0, [.null, .int 0, .null, .null, .null, .int 0, .null, .null, .null, .null, .null]))] = X ++ va_pl (S.L ++ [a]) (wPF cyI cyJ { S with L := S.L ++ [a], K := va_up S.K a 0, O_ColumnHall := { f_cells := va_up S.O_ColumnHall.f_cells a none, f_rowCount := va_up S.O_ColumnHall.f_rowCount a 0, f_conditionColumns := va_up S.O_ColumnHall.f_conditionColumns a none, f_conditionOps := va_up S.O_ColumnHall.f_conditionOps a none, f_conditionValues := va_up S.O_ColumnHall.f_conditionValues a none, f_conditionCount := va_up S.O_ColumnHall.f_conditionCount a 0, f_leastCells := va_up S.O_ColumnHall.f_leastCells a none, f_greatestCells := va_up S.O_ColumnHall.f_greatestCells a none, f_bestWays := va_up S.O_ColumnHall.f_bestWays a none, f_bestBits := va_up S.O_ColumnHall.f_bestBits a none, f_picked := va_up S.O_ColumnHall.f_picked a none } }) := by
  rw [List.append_assoc, va_pl_push ha]
  exact congrArg (fun l => X ++ l) (va_pl_congr (wNw_O_ColumnHall cyI cyJ S a))
theorem wAt_R_I (cyI : ClassId) (cyJ : ClassId) (S : wPS) {a : Nat} (h : S.K a = 1) : wPF cyI cyJ S a = .inl (cyI, S.R_I.len a, .inl (S.R_I.row a)) := by simp [wPF, h]
theorem wGt_R_I (cyI : ClassId) (cyJ : ClassId) (X : va_W) (S : wPS) {a : Nat} (hL : a ∈ S.L) (h : S.K a = 1) : ∃ k : Nat, (X ++ va_pl S.L (wPF cyI cyJ S))[k]? = some (a, wPF cyI cyJ S a) ∧ (X ++ va_pl S.L (wPF cyI cyJ S))[k]? = some (a, .inl (cyI, S.R_I.len a, .inl (S.R_I.row a))) := by
  obtain ⟨k, hk⟩ := va_pl_get (X := X) (f := wPF cyI cyJ S) hL
  exact ⟨k, hk, hk.trans (congrArg (fun e => some (a, e)) (wAt_R_I cyI cyJ S h))⟩
theorem wSt_R_I_row (cyI : ClassId) (cyJ : ClassId) (S : wPS) {a : Nat} (h : S.K a = 1) (v : Nat → Int32) (b : Nat) : va_up (wPF cyI cyJ S) a (.inl (cyI, S.R_I.len a, .inl v)) b = wPF cyI cyJ { S with R_I := { S.R_I with row := va_up S.R_I.row a v } } b := by by_cases hb : b = a <;> first | (simp only [wPF, va_up_ne _ _ hb]; done) | (simp only [wPF, va_up, if_neg hb]; done) | simp [wPF, va_re, va_up, va_rf, hb, h]
theorem wPu_R_I_row (cyI : ClassId) (cyJ : ClassId) (X : va_W) (S : wPS) {A : Nat → Prop} {a k : Nat} (hD : va_D A (X ++ va_pl S.L (wPF cyI cyJ S))) (hL : a ∈ S.L) (h : S.K a = 1) (hk : (X ++ va_pl S.L (wPF cyI cyJ S))[k]? = some (a, wPF cyI cyJ S a)) (v : Nat → Int32) : (X ++ va_pl S.L (wPF cyI cyJ S)).set k (a, .inl (cyI, S.R_I.len a, .inl v)) = X ++ va_pl S.L (wPF cyI cyJ { S with R_I := { S.R_I with row := va_up S.R_I.row a v } }) := by
  rw [va_pl_set hD hL hk]
  exact congrArg (fun l => X ++ l) (va_pl_congr (wSt_R_I_row cyI cyJ S h v))
theorem wNw_R_I (cyI : ClassId) (cyJ : ClassId) (S : wPS) (a : Nat) (z : Nat) (f : Nat → Int32) (b : Nat) : va_up (wPF cyI cyJ S) a (.inl (cyI, z, .inl f)) b = wPF cyI cyJ { S with L := S.L ++ [a], K := va_up S.K a 1, R_I := { len := va_up S.R_I.len a z, row := va_up S.R_I.row a f } } b := by by_cases hb : b = a <;> first | (simp only [wPF, va_up_ne _ _ hb]; done) | (simp only [wPF, va_up, if_neg hb]; done) | simp [wPF, va_re, va_up, va_rf, hb]
theorem wAt_R_J (cyI : ClassId) (cyJ : ClassId) (S : wPS) {a : Nat} (h : S.K a = 2) : wPF cyI cyJ S a = .inl (cyJ, S.R_J.len a, .inr (.inl (S.R_J.row a))) := by simp [wPF, h]
theorem wGt_R_J (cyI : ClassId) (cyJ : ClassId) (X : va_W) (S : wPS) {a : Nat} (hL : a ∈ S.L) (h : S.K a = 2) : ∃ k : Nat, (X ++ va_pl S.L (wPF cyI cyJ S))[k]? = some (a, wPF cyI cyJ S a) ∧ (X ++ va_pl S.L (wPF cyI cyJ S))[k]? = some (a, .inl (cyJ, S.R_J.len a, .inr (.inl (S.R_J.row a)))) := by
  obtain ⟨k, hk⟩ := va_pl_get (X := X) (f := wPF cyI cyJ S) hL
  exact ⟨k, hk, hk.trans (congrArg (fun e => some (a, e)) (wAt_R_J cyI cyJ S h))⟩
theorem wSt_R_J_row (cyI : ClassId) (cyJ : ClassId) (S : wPS) {a : Nat} (h : S.K a = 2) (v : Nat → Int64) (b : Nat) : va_up (wPF cyI cyJ S) a (.inl (cyJ, S.R_J.len a, .inr (.inl v))) b = wPF cyI cyJ { S with R_J := { S.R_J with row := va_up S.R_J.row a v } } b := by by_cases hb : b = a <;> first | (simp only [wPF, va_up_ne _ _ hb]; done) | (simp only [wPF, va_up, if_neg hb]; done) | simp [wPF, va_re, va_up, va_rf, hb, h]
theorem wPu_R_J_row (cyI : ClassId) (cyJ : ClassId) (X : va_W) (S : wPS) {A : Nat → Prop} {a k : Nat} (hD : va_D A (X ++ va_pl S.L (wPF cyI cyJ S))) (hL : a ∈ S.L) (h : S.K a = 2) (hk : (X ++ va_pl S.L (wPF cyI cyJ S))[k]? = some (a, wPF cyI cyJ S a)) (v : Nat → Int64) : (X ++ va_pl S.L (wPF cyI cyJ S)).set k (a, .inl (cyJ, S.R_J.len a, .inr (.inl v))) = X ++ va_pl S.L (wPF cyI cyJ { S with R_J := { S.R_J with row := va_up S.R_J.row a v } }) := by
  rw [va_pl_set hD hL hk]
  exact congrArg (fun l => X ++ l) (va_pl_congr (wSt_R_J_row cyI cyJ S h v))
theorem wNw_R_J (cyI : ClassId) (cyJ : ClassId) (S : wPS) (a : Nat) (z : Nat) (f : Nat → Int64) (b : Nat) : va_up (wPF cyI cyJ S) a (.inl (cyJ, z, .inr (.inl f))) b = wPF cyI cyJ { S with L := S.L ++ [a], K := va_up S.K a 2, R_J := { len := va_up S.R_J.len a z, row := va_up S.R_J.row a f } } b := by by_cases hb : b = a <;> first | (simp only [wPF, va_up_ne _ _ hb]; done) | (simp only [wPF, va_up, if_neg hb]; done) | simp [wPF, va_re, va_up, va_rf, hb]
/-! ===== END printed: names ===== -/
