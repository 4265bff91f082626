/-! THE CLAIM OUT OF ONE WALK OF THE LAW'S BODY. Your part is whole_start (and what it stands on); all else here is the same for every law, but numbers. -/
def R_law : String := "ColumnHallLaw"
def lw_P (b : Addr) (xs : List Int32) (args : Array Value) (s : State) : Prop := args = #[.ref b] ∧ s.IntsAt b xs ∧ xs.length ≤ 3072 ∧ (Jvm.Cond.and given_1 narrow_1).before args s = true
def lw_Q (_ : Array Value) (s : State) (o : Outcome) (t : State) : Prop := o = .returned (some (.int 1)) ∧ Framed s o t [] 1051 9575
def lw_Z (below : List Frame) (a : Array Value) (s : State) : State → Prop := fun t => ∃ o, t.status = .running ∧ Ended t below o ∧ lw_Q a s o t
/-- the law's own end, with 1 on the stack, nothing written that was there before, its room as the claim has it -/
theorem lw_ret {p : Program} {l : Launch} {e : Env} {s : State} {m : MethodId} {below : List Frame} {meth : Method} {c : Code} {b : Nat} (hx : p.tables.exec = Jvm.exec) (hb : c.code = code) (hr : meth.sig.returnType = ret) (hlocks : meth.locks = false) {pc : Nat} {H : Heap} {ls : Array Slot} (hdg : decode code pc = .ok (.ireturn, 1)) : W p l e room_1 s m #[Value.ref b] below meth c H [] 1051 9575 (lw_Z below #[Value.ref b] s) (F0 m pc ls [.int 1]) := by
  intro T hT X
  obtain ⟨fs, hret, hrun, hended, hW, hframe⟩ := X.leave (v := some (.int 1)) (hlocks := hlocks) (fun h => by rw [hr] at h; cases h)
  have hmeth' : T.vm.method? m = some meth := X.method'
  refine ⟨T.setFrames fs, ?_, .returned (some (.int 1)), hrun, hended, rfl, ⟨_, rfl⟩, hW, hframe⟩
  jvm_step X.here [X.here.top, hx, hb, hdg, hmeth', hr, ret, narrow_b1]
  (try refine ⟨rfl, ?_⟩); (try refine ⟨rfl, ?_⟩)
  first | (intro acts; rw [hret _ acts rfl rfl rfl]) | rw [hret _ _ rfl rfl rfl]
  exact Steps.refl _
/-- what holds at the law's entry: the machine, the code, the tables' words (any of lw_tbl by 'hts w (by decide +kernel)'), the script of L ints xs at the cell b, what the Statement gives of the start (any of its parts by flat_of_before) -/
def lw_At (p : Program) (s : State) (m : MethodId) (meth : Method) (c : Code) (b L : Nat) (xs : Nat → Int32) : Prop :=
  p.tables.exec = Jvm.exec ∧ c.code = code ∧ meth.sig.returnType = ret ∧ c.maxLocals = 8 ∧ s.vm.findClass R_law = some m.cls ∧ (∀ w ∈ lw_tbl, w.before #[Value.ref b] s = true) ∧ va_X b L xs s s.heap ∧ b < s.heap.size ∧ meth.locks = false ∧ (Jvm.Cond.and given_1 narrow_1).before #[Value.ref b] s = true
theorem ex_ref {args : Array Value} {s : State} {t : Term} {nm : String} (h : (Cond.exactly t nm).before args s = true) : ∃ a, t.eval args s none [] s = some (.ref a) := by
  obtain ⟨a, _, _, _, h1, -⟩ := Cond.exactly_spec h
  exact ⟨a, h1⟩
theorem at_ad {ad : Nat → Nat} {N : Nat} {ws : va_W} (e : ws.map Prod.fst = (List.range N).map ad) {i : Nat} (hi : i < N) : ∃ p, ws[i]? = some p ∧ p.1 = ad i := by
  have h1 : (ws.map Prod.fst)[i]? = some (ad i) := by rw [e, List.getElem?_map, List.getElem?_range hi]; rfl
  rw [List.getElem?_map] at h1
  cases h2 : ws[i]? with
  | none => rw [h2] at h1; cases h1
  | some p => rw [h2] at h1; exact ⟨p, rfl, Option.some.inj h1⟩
theorem ad_lt {D : va_G} {cl : List vw_C} {H : Heap} {ad : Nat → Nat} {N : Nat} {ws : va_W} (h : va_P D cl ws H) (e : ws.map Prod.fst = (List.range N).map ad) {i : Nat} (hi : i < N) : ad i < H.size := by
  obtain ⟨p, h1, h2⟩ := at_ad e hi
  rw [← h2]
  exact vx_lt h h1
theorem preI {D : va_G} {w : va_W} {s : State} {H : Heap} {h0 : Nat} (hK : va_K D c2 [] s) (hP : va_P D c2 w H) : PreS s H (va_Pc [.ref h0] (fun U => U.heap.size = H.size ∧ va_P D c2 w U.heap ∧ va_K D c2 [] U)) [.ref h0] :=
  ⟨fun a U g mk q => ⟨q.1, q.2.1, q.2.2.1, va_K.moved (u := U) (U := U.calling g mk a) (Vm.Alike.refl U.vm) q.2.2.2⟩, fun U hU hW => ⟨rfl, by rw [hU], by rw [hU]; exact hP, va_K.moved hW.alike hK⟩⟩
theorem lw_off {l : Launch} (h : l.flags = flags0) : l.stackTraces = false := by
  unfold Launch.stackTraces
  rw [h]
  decide +kernel
set_option maxRecDepth 100000 in
theorem clL_8 : Cond.classLink RL 8 RX0 ∈ tG := tG_in (by decide +kernel) (by decide +kernel)
set_option maxRecDepth 100000 in
theorem clL_62 : Cond.classLink RL 62 RX1 ∈ tG := tG_in (by decide +kernel) (by decide +kernel)
set_option maxRecDepth 100000 in
theorem ins_X : Cond.instantiable RX0 11 ∈ tG := tG_in (by decide +kernel) (by decide +kernel)
set_option maxRecDepth 100000 in
theorem ins_R : Cond.instantiable RX1 7 ∈ tG := tG_in (by decide +kernel) (by decide +kernel)
set_option maxRecDepth 100000 in
theorem ini_X : Cond.initialized RX0 ∈ tG := tG_in (by decide +kernel) (by decide +kernel)
set_option maxRecDepth 100000 in
theorem ini_R : Cond.initialized RX1 ∈ tG := tG_in (by decide +kernel) (by decide +kernel)
set_option maxRecDepth 100000 in
theorem im_X : Cond.instanceMethod yX0_init ∈ tG := tG_in (by decide +kernel) (by decide +kernel)
set_option maxRecDepth 100000 in
theorem im_R : Cond.instanceMethod yX1_init ∈ tG := tG_in (by decide +kernel) (by decide +kernel)
set_option maxRecDepth 100000 in
theorem kI_61 : kB RL 61 yX0_init cX0_init 1 none 0 := ⟨tG_in (by decide +kernel) (by decide +kernel), tG_in (by decide +kernel) (by decide +kernel), tG_in (by decide +kernel) (by decide +kernel), by decide +kernel, by decide +kernel, by decide +kernel⟩
set_option maxRecDepth 100000 in
theorem kI_64 : kB RL 64 yX1_init cX1_init 1 none 0 := ⟨tG_in (by decide +kernel) (by decide +kernel), tG_in (by decide +kernel) (by decide +kernel), tG_in (by decide +kernel) (by decide +kernel), by decide +kernel, by decide +kernel, by decide +kernel⟩
theorem df_X : ∀ j, j < 11 → defaultValue (tyX0 j) = vp_V [.null, .int 0, .null, .null, .null, .int 0, .null, .null, .null, .null, .null] j := by decide +kernel
theorem df_R : ∀ j, j < 7 → defaultValue (tyR1 j) = vp_V [.int 0, .int 0, .null, .int 0, .null, .null, .null] j := by decide +kernel
theorem lw_D {p : Program} {s : State} {m : MethodId} {c : Code} {args : Array Value} (E : CallFix p m c cL_law 8 s args tG RL) : ∃ D : va_G, va_K D c2 [] s := by
  obtain ⟨cX, iX, hX⟩ := u_known (n := 11) E.2.2.2.2 inX (E.2.2.2.2 _ ins_X)
  obtain ⟨cR, iR, hR⟩ := u_known (n := 7) E.2.2.2.2 inR (E.2.2.2.2 _ ins_R)
  refine ⟨(fun c => if c = 0 then cX else cR, fun c => if c = 0 then iX else iR), fun c q hq => ?_, fun k q hk => by simp at hk⟩
  match c, hq with
  | 0, hq => cases hq; exact hX
  | 1, hq => cases hq; exact hR
  | c + 2, hq => simp at hq
set_option maxRecDepth 100000 in
set_option maxHeartbeats 4000000 in
theorem lw_xE {s : State} {args : Array Value} (hts : ∀ w ∈ lw_tbl, w.before args s = true) (hgv : (Jvm.Cond.and given_1 narrow_1).before args s = true) : ∃ sa : Nat → Nat, xE s.heap.size sa s s.heap := by
  have hg := flat_of_before _ hgv
  have key : ∀ i, i < 10 → ∃ a, vk_R RX0 (six i).1 (six i).2 a s := by
    intro i hi
    rcases (show i = 0 ∨ i = 1 ∨ i = 2 ∨ i = 3 ∨ i = 4 ∨ i = 5 ∨ i = 6 ∨ i = 7 ∨ i = 8 ∨ i = 9 by omega) with rfl | rfl | rfl | rfl | rfl | rfl | rfl | rfl | rfl | rfl
    · obtain ⟨a, ha⟩ := ex_ref (hg (.exactly (.string "ColumnHall" 47) "java/lang/String") (by decide +kernel))
      exact ⟨a, vk_R.of (hts (.stringRef "ColumnHall" 47 "there is no room for a row") (by decide +kernel)) ha⟩
    · obtain ⟨a, ha⟩ := ex_ref (hg (.exactly (.string "ColumnHall" 65) "java/lang/String") (by decide +kernel))
      exact ⟨a, vk_R.of (hts (.stringRef "ColumnHall" 65 "there is no such row") (by decide +kernel)) ha⟩
    · obtain ⟨a, ha⟩ := ex_ref (hg (.exactly (.string "ColumnHall" 70) "java/lang/String") (by decide +kernel))
      exact ⟨a, vk_R.of (hts (.stringRef "ColumnHall" 70 "there is no such op") (by decide +kernel)) ha⟩
    · obtain ⟨a, ha⟩ := ex_ref (hg (.exactly (.string "ColumnHall" 73) "java/lang/String") (by decide +kernel))
      exact ⟨a, vk_R.of (hts (.stringRef "ColumnHall" 73 "there is no room for a condition") (by decide +kernel)) ha⟩
    · obtain ⟨a, ha⟩ := ex_ref (hg (.exactly (.string "ColumnHall" 79) "java/lang/String") (by decide +kernel))
      exact ⟨a, vk_R.of (hts (.stringRef "ColumnHall" 79 "there is no such chosen row") (by decide +kernel)) ha⟩
    · obtain ⟨a, ha⟩ := ex_ref (hg (.exactly (.string "ColumnHall" 94) "java/lang/String") (by decide +kernel))
      exact ⟨a, vk_R.of (hts (.stringRef "ColumnHall" 94 "no row is chosen") (by decide +kernel)) ha⟩
    · obtain ⟨a, ha⟩ := ex_ref (hg (.exactly (.string "ColumnHall" 109) "java/lang/String") (by decide +kernel))
      exact ⟨a, vk_R.of (hts (.stringRef "ColumnHall" 109 "a group has nothing of this kind") (by decide +kernel)) ha⟩
    · obtain ⟨a, ha⟩ := ex_ref (hg (.exactly (.string "ColumnHall" 115) "java/lang/String") (by decide +kernel))
      exact ⟨a, vk_R.of (hts (.stringRef "ColumnHall" 115 "there is no such group") (by decide +kernel)) ha⟩
    · obtain ⟨a, ha⟩ := ex_ref (hg (.exactly (.string "ColumnHall" 133) "java/lang/String") (by decide +kernel))
      exact ⟨a, vk_R.of (hts (.stringRef "ColumnHall" 133 "there is no such column") (by decide +kernel)) ha⟩
    · obtain ⟨a, ha⟩ := ex_ref (hg (.exactly (.string "ColumnHall" 138) "java/lang/String") (by decide +kernel))
      exact ⟨a, vk_R.of (hts (.stringRef "ColumnHall" 138 "there is no such full block") (by decide +kernel)) ha⟩
  refine ⟨fun i => if h : i < 10 then Classical.choose (key i h) else 0, vx_Zqof (hts _ (by decide +kernel)) (hts _ (by decide +kernel)) (hg _ (by decide +kernel)) (fun a h1 h2 => Nat.not_le.mpr h1 h2), vx_Zqof (hts _ (by decide +kernel)) (hts _ (by decide +kernel)) (hg _ (by decide +kernel)) (fun a h1 h2 => Nat.not_le.mpr h1 h2), fun w hw => va_Nw.of (dcW_tab (badWs_dc w hw)) (hts w (badWs_in w hw)), fun i hi => ?_, va_Nc.of (hg _ (by decide +kernel)), va_Nc.of (hg _ (by decide +kernel)), va_Nc.of (hg _ (by decide +kernel))⟩
  simp only [dif_pos hi]
  exact Classical.choose_spec (key i hi)
set_option maxRecDepth 100000 in
set_option maxHeartbeats 4000000 in
theorem whole_start {p : Program} {e : Env} {s : State} {m : MethodId} {below : List Frame} {meth : Method} {c : Code} (l : Launch) (hlt : l.stackTraces = false) {b L : Nat} {xs : Nat → Int32} (hL : L ≤ 3072) (C0 : lw_At p s m meth c b L xs) : W p l e room_1 s m #[Value.ref b] below meth c s.heap [] 0 0 (lw_Z below #[Value.ref b] s) (entryFrame m ([Value.ref b] : List Value).toArray 8) := by
  obtain ⟨hex, hcode, hret, hml, hown, hts, hX, hbl, hlk, hgv⟩ := C0
  have E : CallFix p m c cL_law 8 s #[Value.ref b] tG RL := ⟨hex, hcode, hml, hown, fun w h => hts w (List.mem_filter.mp h).1⟩
  obtain ⟨D, hK⟩ := lw_D E
  obtain ⟨sa, hZ⟩ := lw_xE hts hgv
  have fin : ∀ (H : Heap) (locs : List Loc) (ls : Array Slot) (cells slots : Nat), va_S (fun q => s.heap.size ≤ q) s.heap H locs → cells ≤ 1051 → slots ≤ 9575 → W p l e room_1 s m #[Value.ref b] below meth c H locs cells slots (lw_Z below #[Value.ref b] s) (F0 m 1111 ls []) := by
    intro H locs ls cells slots hS hc hs
    refine va_forget (fun q hq => hS.2.2 q hq) ?_
    refine W.widen (k := 1051) (n := 9575) hc hs ?_
    refine lv_iconst (v := 1) E.1 E.2.1 dL_law_1111 rfl ?_
    exact lw_ret hex hcode hret hlk dL_law_1112
  rw [lg_entry_eq]
  have hl := lv_entry (n := 8) [Value.ref b] (Nat.le_of_ble_eq_true rfl)
  generalize (lg_sl [Value.ref b] ++ List.replicate (8 - (lg_sl [Value.ref b]).length) Slot.unset).toArray = ls at hl ⊢
  have hl : lv_has ls 8 [(0, .ref b)] := hl
  have hS0 : va_S (fun q => s.heap.size ≤ q) s.heap s.heap [] := va_S.rf
  have hP0 : va_P D c2 [] s.heap := fun k q h => by simp at h
  have hD0 : va_D (fun q => s.heap.size ≤ q) [] := ⟨fun i j p q h => by simp at h, fun k q h => by simp at h⟩
  refine va_new (C := RX0) (T := TX0) (N := 11) (ci := 0) (ws := []) (A := fun q => s.heap.size ≤ q) (fs := [.null, .int 0, .null, .null, .null, .int 0, .null, .null, .null, .null, .null]) E.1 E.2.1 E.2.2.2.2 inX tyX0 tyX0_ok E.2.2.2.1 (E.2.2.2.2 _ clL_8) (E.2.2.2.2 _ ins_X) (E.2.2.2.2 _ ini_X) hK hP0 hD0 hS0 (fun q h => h) rfl df_X (Nat.le_of_ble_eq_true rfl) (Nat.le_of_ble_eq_true rfl) dL_law_0 (fun h0 H1 hP1 hD1 hS1 => ?_)
  have hP1 : va_P D c2 [(h0, .inr (0, [.null, .int 0, .null, .null, .null, .int 0, .null, .null, .null, .null, .null]))] H1 := hP1
  have h0s : s.heap.size ≤ h0 := hD1.2 0 _ rfl
  have h0z : h0 < H1.size := vx_lt hP1 (k := 0) rfl
  have hA1 : ∀ q, (q = h0 ∨ H1.size ≤ q) → s.heap.size ≤ q := fun q h => h.elim (fun z => by rw [z]; exact h0s) (fun z => Nat.le_trans hS1.1 z)
  refine lv_dup E.1 E.2.1 dL_law_3 rfl ?_
  refine va_callv (S := (Nat → Nat) × (Nat → ClassId)) (A1 := fun q => q = h0 ∨ H1.size ≤ q) (va_runI (As := []) (rest := [.ref h0]) E (cX_init l D h0 H1.size h0z) ⟨k_cb E kI_61 rfl rfl ⟨Nat.le_of_ble_eq_true rfl, Nat.le_of_ble_eq_true rfl⟩, rfl, E.2.2.2.2 _ im_X⟩ (preI hK hP1) rfl rfl hl.1 rfl (lv_room (Nat.le_of_ble_eq_true rfl)) dL_law_4 ⟨Nat.le_of_ble_eq_true rfl, Nat.le_of_ble_eq_true rfl⟩) hS1 (fun q _ h => hA1 q h) (fun q h => hA1 q h) (fun u t H2 locs2 ht hal hpost hB hsz2 hfr2 hS2 => ?_)
  obtain ⟨adX, caX⟩ := u
  obtain ⟨hu0, hinjX, hnewX⟩ := hpost
  obtain ⟨hPX, hKX⟩ := hB
  have hPX : va_P D c2 (wX adX caX (fun _ _ => 0) 0 (fun _ => 0) (fun _ => 0) (fun _ => 0) 0 (fun _ => 0) (fun _ => 0) (fun _ => 0) (fun _ => 0) (fun _ => 0)) H2 := by rw [← ht]; exact hPX
  have hKX : va_K D c2 (tX caX) s := va_K.moved hal.symm hKX
  have hu0 : adX 0 = h0 := hu0
  have hAX : ∀ i, i < 10 → s.heap.size ≤ adX i := fun i hi => by
    rcases Nat.eq_zero_or_pos i with h | h
    · rw [h, hu0]; exact h0s
    · exact Nat.le_trans hS1.1 (hnewX i h hi)
  refine lv_astore_n (lv' := [(1, .ref h0), (0, .ref b)]) E.1 E.2.1 dL_law_7 rfl hl (by decide) rfl (fun ls hl => ?_)
  have hDX : va_D (fun q => s.heap.size ≤ q) (wX adX caX (fun _ _ => 0) 0 (fun _ => 0) (fun _ => 0) (fun _ => 0) 0 (fun _ => 0) (fun _ => 0) (fun _ => 0) (fun _ => 0) (fun _ => 0)) := (dW hinjX rfl).weaken (fun k q hk h => by
    obtain ⟨i, hi, e⟩ := h
    rw [e]
    exact hAX i hi)
  refine va_new (C := RX1) (T := TR1) (N := 7) (ci := 1) (ws := (wX adX caX (fun _ _ => 0) 0 (fun _ => 0) (fun _ => 0) (fun _ => 0) 0 (fun _ => 0) (fun _ => 0) (fun _ => 0) (fun _ => 0) (fun _ => 0))) (A := fun q => s.heap.size ≤ q) (fs := [.int 0, .int 0, .null, .int 0, .null, .null, .null]) E.1 E.2.1 E.2.2.2.2 inR tyR1 tyR1_ok E.2.2.2.1 (E.2.2.2.2 _ clL_62) (E.2.2.2.2 _ ins_R) (E.2.2.2.2 _ ini_R) hK hPX hDX hS2 (fun q h => h) rfl df_R (Nat.le_of_ble_eq_true rfl) (Nat.le_of_ble_eq_true rfl) dL_law_8 (fun h1 H3 hP3 hD3 hS3 => ?_)
  have hPX3 : va_P D c2 (wX adX caX (fun _ _ => 0) 0 (fun _ => 0) (fun _ => 0) (fun _ => 0) 0 (fun _ => 0) (fun _ => 0) (fun _ => 0) (fun _ => 0) (fun _ => 0)) H3 := hP3.sub [0, 1, 2, 3, 4, 5, 6, 7, 8, 9] rfl
  have hPR3 : va_P D c2 [(h1, .inr (1, [.int 0, .int 0, .null, .int 0, .null, .null, .null]))] H3 := hP3.sub [10] rfl
  have h1s : s.heap.size ≤ h1 := hD3.2 10 _ rfl
  have h1z : h1 < H3.size := vx_lt hPR3 (k := 0) rfl
  have hne : ∀ (k : Nat) (q : Nat × va_E), (wX adX caX (fun _ _ => 0) 0 (fun _ => 0) (fun _ => 0) (fun _ => 0) 0 (fun _ => 0) (fun _ => 0) (fun _ => 0) (fun _ => 0) (fun _ => 0))[k]? = some q → q.1 ≠ h1 := fun k q hk e => by
    have hk1 := (List.getElem?_eq_some_iff.mp hk).1
    have h9 := hD3.1 k 10 q (h1, .inr (1, [.int 0, .int 0, .null, .int 0, .null, .null, .null])) (by rw [List.getElem?_append_left hk1]; exact hk) rfl e
    subst h9
    simp at hk1
  have hA3 : ∀ q, (q = h1 ∨ H3.size ≤ q) → s.heap.size ≤ q := fun q h => h.elim (fun z => by rw [z]; exact h1s) (fun z => Nat.le_trans hS3.1 z)
  refine lv_dup E.1 E.2.1 dL_law_11 rfl ?_
  refine va_callv (S := (Nat → Nat) × (Nat → ClassId)) (A1 := fun q => q = h1 ∨ H3.size ≤ q) (va_runI (As := []) (rest := [.ref h1]) E (cR_init l D h1 H3.size h1z) ⟨k_cb E kI_64 rfl rfl ⟨Nat.le_of_ble_eq_true rfl, Nat.le_of_ble_eq_true rfl⟩, rfl, E.2.2.2.2 _ im_R⟩ (preI hK hPR3) rfl rfl hl.1 rfl (lv_room (Nat.le_of_ble_eq_true rfl)) dL_law_12 ⟨Nat.le_of_ble_eq_true rfl, Nat.le_of_ble_eq_true rfl⟩) hS3 (fun q _ h => hA3 q h) (fun q h => hA3 q h) (fun u t H4 locs4 ht hal hpost hB hsz4 hfr4 hS4 => ?_)
  obtain ⟨adR, caR⟩ := u
  obtain ⟨hv0, hinjR, hnewR⟩ := hpost
  obtain ⟨hPR, hKR⟩ := hB
  have hPR : va_P D c2 (wR adR caR (fun _ _ => 0) 0 (fun _ => 0) (fun _ => 0) (fun _ => 0) 0 0) H4 := by rw [← ht]; exact hPR
  have hKR : va_K D c2 (tR caR) s := va_K.moved hal.symm hKR
  have hv0 : adR 0 = h1 := hv0
  have hAR : ∀ i, i < 5 → s.heap.size ≤ adR i := fun i hi => by
    rcases Nat.eq_zero_or_pos i with h | h
    · rw [h, hv0]; exact h1s
    · exact Nat.le_trans hS3.1 (hnewR i h hi)
  have hPX4 : va_P D c2 (wX adX caX (fun _ _ => 0) 0 (fun _ => 0) (fun _ => 0) (fun _ => 0) 0 (fun _ => 0) (fun _ => 0) (fun _ => 0) (fun _ => 0) (fun _ => 0)) H4 := hPX3.kept (fun k q hk => hfr4 q.1 (vx_lt hPX3 hk) (fun h => h.elim (hne k q hk) (fun z => Nat.not_le.mpr (vx_lt hPX3 hk) z)))
  refine lv_astore_n (lv' := [(2, .ref h1), (1, .ref h0), (0, .ref b)]) E.1 E.2.1 dL_law_15 rfl hl (by decide) rfl (fun ls hl => ?_)
  refine lv_iconst (v := nI 1) E.1 E.2.1 dL_law_16 rfl ?_
  refine va_newaK (atype := .long) (N := 1) (h := H4.size) (n := nI 1) (rest := []) E.1 E.2.1 (E.2.2.2.2 _ ar_J) rfl dL_law_17 rfl (nI_pos (by omega)) (nI_clamp (by omega)) (by decide) (Nat.le_of_ble_eq_true rfl) (Nat.le_of_ble_eq_true rfl) rfl (fun H5 co e1 z1 o1 hAr hNm => ?_)
  refine W.eq (g2 := F0 m 19 ls [.ref H4.size]) rfl ?_
  have hPX5 : va_P D c2 (wX adX caX (fun _ _ => 0) 0 (fun _ => 0) (fun _ => 0) (fun _ => 0) 0 (fun _ => 0) (fun _ => 0) (fun _ => 0) (fun _ => 0) (fun _ => 0)) H5 := hPX4.kept (fun k q hk => o1 _ (vx_lt hPX4 hk))
  have hPR5 : va_P D c2 (wR adR caR (fun _ _ => 0) 0 (fun _ => 0) (fun _ => 0) (fun _ => 0) 0 0) H5 := hPR.kept (fun k q hk => o1 _ (vx_lt hPR hk))
  have hPO : va_P D c2 (wO H4.size co (fun _ => 0)) H5 := fun k q hk => by
    have hz := (List.getElem?_eq_some_iff.mp hk).1
    simp at hz
    subst hz
    cases hk
    show H5[H4.size]? = some (vp_cell _ _)
    rw [vp_cell_l]
    exact e1
  have hKO : va_K D c2 (tO co) s := ⟨hK.1, fun k q hk => by
    have hz := (List.getElem?_eq_some_iff.mp hk).1
    simp at hz
    subst hz
    cases hk
    exact ⟨hAr, hNm⟩⟩
  have hS5 : va_S (fun q => s.heap.size ≤ q) s.heap H5 locs4 := ⟨Nat.le_trans hS4.1 (by omega), fun x h8 h9 => (o1 x (Nat.lt_of_lt_of_le h8 hS4.1)).trans (hS4.2.1 x h8 h9), hS4.2.2⟩
  refine lv_astore_n (lv' := [(3, .ref H4.size), (2, .ref h1), (1, .ref h0), (0, .ref b)]) E.1 E.2.1 dL_law_19 rfl hl (by decide) rfl (fun ls hl => ?_)
  refine lv_iconst (v := nI 0) E.1 E.2.1 dL_law_20 rfl ?_
  refine lv_istore (lv' := [(4, .int (nI 0)), (3, .ref H4.size), (2, .ref h1), (1, .ref h0), (0, .ref b)]) E.1 E.2.1 dL_law_21 hl (by decide) rfl (fun ls hl => ?_)
  subst hu0
  subst hv0
  have hdj : Dj adX adR H4.size s.heap.size := by
    refine ⟨hinjX, hinjR, ?_, ?_, ?_, ?_, ?_, hS4.1⟩
    · rintro q ⟨i, hi, e⟩ ⟨j, hj, f⟩
      rcases Nat.eq_zero_or_pos j with h | h
      · obtain ⟨p9, h8, h9⟩ := at_ad (ws := (wX adX caX (fun _ _ => 0) 0 (fun _ => 0) (fun _ => 0) (fun _ => 0) 0 (fun _ => 0) (fun _ => 0) (fun _ => 0) (fun _ => 0) (fun _ => 0))) (N := 10) rfl hi
        exact hne i p9 h8 (by rw [h9, ← e, f, h])
      · have h8 := ad_lt (N := 10) hPX3 rfl hi
        have h9 : H3.size ≤ adR j := hnewR j h hj
        omega
    · rintro ⟨i, hi, e⟩
      have := ad_lt (N := 10) hPX4 rfl hi
      omega
    · rintro ⟨i, hi, e⟩
      have := ad_lt (N := 5) hPR rfl hi
      omega
    · rintro q ⟨i, hi, e⟩
      rw [e]; exact hAX i hi
    · rintro q ⟨i, hi, e⟩
      rw [e]; exact hAR i hi
  exact lw_loop ⟨E, hL, hX, hbl, hlt, hdj, hKX, hKR, hKO, hZ⟩ fin 512 0 rfl H5 locs4 ls ⟨fun _ _ => 0, 0, fun _ => 0, fun _ => 0, fun _ => 0, 0, fun _ => 0, fun _ => 0, fun _ => 0, fun _ => 0, fun _ => 0, 0, fun _ => 0, by omega, ⟨Nat.zero_le _, fun _ => (by decide : (0 : Nat) < 4), fun _ => (by decide : (0 : Nat) < 6)⟩, fun b c h => by omega, hPX5, hPR5, hPO, hS5⟩ (lv_sub hl [0, 4, 3, 2, 1] rfl)
