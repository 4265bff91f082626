/-! The two constructors: laid by program. -/
set_option maxRecDepth 100000 in
theorem ar_J : Cond.arrayClass .long ∈ tG := tG_in (by decide +kernel) (by decide +kernel)
set_option maxRecDepth 100000 in
theorem ar_I : Cond.arrayClass .int ∈ tG := tG_in (by decide +kernel) (by decide +kernel)
set_option maxRecDepth 100000 in
theorem oi_X : Cond.methodLink RX0 3 objectInit ∈ tG := tG_in (by decide +kernel) (by decide +kernel)
set_option maxRecDepth 100000 in
theorem oi_R : Cond.methodLink RX1 1 objectInit ∈ tG := tG_in (by decide +kernel) (by decide +kernel)
set_option maxRecDepth 100000 in
theorem oi_i : Cond.instanceMethod objectInit ∈ tG := tG_in (by decide +kernel) (by decide +kernel)
set_option maxRecDepth 100000 in
theorem oi_c : Cond.code objectInit ⟨#[0xb1]⟩ 1 none ∈ tG := tG_in (by decide +kernel) (by decide +kernel)
theorem inj_of {ad : Nat → Nat} {N : Nat} {ws : va_W} {A : Nat → Prop} (h : va_D A ws) (e : ws.map Prod.fst = (List.range N).map ad) : inj ad N ∧ ∀ i, i < N → A (ad i) := by
  have key : ∀ i, i < N → ∃ p, ws[i]? = some p ∧ p.1 = ad i := by
    intro i hi
    have h1 : (ws.map Prod.fst)[i]? = some (ad i) := by rw [e, List.getElem?_map, List.getElem?_range hi]; rfl
    rw [List.getElem?_map] at h1
    cases h2 : ws[i]? with
    | none => rw [h2] at h1; cases h1
    | some p => rw [h2] at h1; exact ⟨p, rfl, Option.some.inj h1⟩
  refine ⟨fun i j hi hj hij => ?_, fun i hi => ?_⟩
  · obtain ⟨p, h1, h2⟩ := key i hi
    obtain ⟨q, h3, h4⟩ := key j hj
    exact h.1 i j p q h1 h3 (by rw [h2, h4]; exact hij)
  · obtain ⟨p, h1, h2⟩ := key i hi
    rw [← h2]
    exact h.2 i p h1
set_option maxHeartbeats 4000000 in
set_option maxRecDepth 100000 in
theorem cX_init (l : Launch) (D : va_G) (h0 sz : Nat) (h0z : h0 < sz) : Met l yX0_init (wA yX0_init cX0_init 1 none) { frames := 2, cells := 9, slots := 777, locals := 60 } (va_Pc [.ref h0] (fun U => U.heap.size = sz ∧ va_P D c2 [(h0, .inr (0, [.null, .int 0, .null, .null, .null, .int 0, .null, .null, .null, .null, .null]))] U.heap ∧ va_K D c2 [] U)) (va_Qv (fun (u : (Nat → Nat) × (Nat → ClassId)) => u.1 0 = h0 ∧ inj u.1 10 ∧ (∀ i, 1 ≤ i → i < 10 → sz ≤ u.1 i)) (fun u t => va_P D c2 (wX u.1 u.2 (fun _ _ => 0) 0 (fun _ => 0) (fun _ => 0) (fun _ => 0) 0 (fun _ => 0) (fun _ => 0) (fun _ => 0) (fun _ => 0) (fun _ => 0)) t.heap ∧ va_K D c2 (tX u.2) t) (fun q => q = h0 ∨ sz ≤ q)) 9 777 (fun q => q = h0 ∨ sz ≤ q) := by
  refine met_of RX0 rfl (by decide) (Nat.le_of_ble_eq_true rfl) (fun p e s m below meth cd ls E hr hlk hin hB hl => ?_)
  obtain ⟨rfl, hP, hK⟩ := hB
  have hl : lv_has ls 1 [(0, .ref h0)] := hl
  have hS : va_S (fun q => q = h0 ∨ s.heap.size ≤ q) s.heap s.heap [] := va_S.rf
  have hA : ∀ q, s.heap.size ≤ q → (q = h0 ∨ s.heap.size ≤ q) := fun q h => Or.inr h
  have hD : va_D (fun q => q = h0 ∨ s.heap.size ≤ q) [(h0, .inr (0, [.null, .int 0, .null, .null, .null, .int 0, .null, .null, .null, .null, .null]))] := ⟨fun i j p q hi hj _ => by have h1 := (List.getElem?_eq_some_iff.mp hi).1; have h2 := (List.getElem?_eq_some_iff.mp hj).1; simp at h1 h2; omega, fun k q hk => by have h1 := (List.getElem?_eq_some_iff.mp hk).1; simp at h1; subst h1; cases hk; exact Or.inl rfl⟩
  refine lv_aload_n E.1 E.2.1 dX0_init_0 rfl (lv_at hl 0 rfl) ?_
  refine W.objInit E.1 E.2.1 E.2.2.2.1 (E.2.2.2.2 _ oi_X) (E.2.2.2.2 _ oi_i) (E.2.2.2.2 _ oi_c) rfl (by rw [E.2.2.1]; exact hl.1) rfl dX0_init_1 (Nat.le_of_ble_eq_true rfl) (Nat.le_of_ble_eq_true rfl) ?_
  refine W.eq (g2 := F0 m 4 ls []) rfl ?_
  refine lv_aload_n E.1 E.2.1 dX0_init_4 rfl (lv_at hl 0 rfl) ?_
  refine lv_sipush (v := nI 512) E.1 E.2.1 dX0_init_5 rfl ?_
  refine va_newa (atype := .long) (N' := 512) (a0 := (512, .inr (.inl (fun _ => 0)))) (ty := .long) E.1 E.2.1 (E.2.2.2.2 _ ar_J) rfl hK hP hD hS hA (fun cA => by rw [vp_cell_l]; rfl) (nI_pos (by omega)) (nI_clamp (by omega)) (by decide) (Nat.le_of_ble_eq_true rfl) (Nat.le_of_ble_eq_true rfl) dX0_init_8 (fun q1 cA1 H hK hP hD hS => ?_)
  have hP : va_P D c2 [(h0, .inr (0, [.null, .int 0, .null, .null, .null, .int 0, .null, .null, .null, .null, .null])), (q1, .inl (cA1, 512, .inr (.inl (fun _ => 0))))] H := hP
  have hD : va_D _ [(h0, .inr (0, [.null, .int 0, .null, .null, .null, .int 0, .null, .null, .null, .null, .null])), (q1, .inl (cA1, 512, .inr (.inl (fun _ => 0))))] := hD
  have hK : va_K D c2 [(cA1, .long)] s := hK
  refine W.widen (k := 1) (n := 512) (Nat.le_of_ble_eq_true rfl) (Nat.le_of_ble_eq_true rfl) ?_
  refine va_putF (D := D) (ci := 0) (v := .ref q1) (C := RX0) (T := TX0) (N := 11) E.1 E.2.1 E.2.2.2.2 inX tyX0 tyX0_ok nmX0 E.2.2.2.1 hK hP hD hS 0 rfl rfl 0 (by decide) (E.2.2.2.2 _ flX_9) (fun _ h9 => h9) rfl hin rfl (tyX0_ok 0 (by decide)) rfl rfl (Nat.le_of_ble_eq_true rfl) dX0_init_10 (fun H locs hP hD hS => ?_)
  have hP : va_P D c2 [(h0, .inr (0, [.ref q1, .int 0, .null, .null, .null, .int 0, .null, .null, .null, .null, .null])), (q1, .inl (cA1, 512, .inr (.inl (fun _ => 0))))] H := hP
  have hD : va_D _ [(h0, .inr (0, [.ref q1, .int 0, .null, .null, .null, .int 0, .null, .null, .null, .null, .null])), (q1, .inl (cA1, 512, .inr (.inl (fun _ => 0))))] := hD
  refine lv_aload_n E.1 E.2.1 dX0_init_13 rfl (lv_at hl 0 rfl) ?_
  refine lv_iconst (v := nI 0) E.1 E.2.1 dX0_init_14 rfl ?_
  refine va_put (D := D) (ci := 0) (v := .int (nI 0)) (C := RX0) (T := TX0) (N := 11) E.1 E.2.1 E.2.2.2.2 inX tyX0 tyX0_ok nmX0 E.2.2.2.1 hK hP hD hS 0 rfl rfl 1 (by decide) (E.2.2.2.2 _ flX_13) (fun _ h9 => h9) rfl (tyX0_ok 1 (by decide)) rfl rfl (Nat.le_of_ble_eq_true rfl) dX0_init_15 (fun H locs hP hD hS => ?_)
  have hP : va_P D c2 [(h0, .inr (0, [.ref q1, .int (nI 0), .null, .null, .null, .int 0, .null, .null, .null, .null, .null])), (q1, .inl (cA1, 512, .inr (.inl (fun _ => 0))))] H := hP
  have hD : va_D _ [(h0, .inr (0, [.ref q1, .int (nI 0), .null, .null, .null, .int 0, .null, .null, .null, .null, .null])), (q1, .inl (cA1, 512, .inr (.inl (fun _ => 0))))] := hD
  refine lv_aload_n E.1 E.2.1 dX0_init_18 rfl (lv_at hl 0 rfl) ?_
  refine lv_iconst (v := nI 3) E.1 E.2.1 dX0_init_19 rfl ?_
  refine va_newa (atype := .int) (N' := 3) (a0 := (3, .inl (fun _ => 0))) (ty := .int) E.1 E.2.1 (E.2.2.2.2 _ ar_I) rfl hK hP hD hS hA (fun cA => by rw [vp_cell_i]; rfl) (nI_pos (by omega)) (nI_clamp (by omega)) (by decide) (Nat.le_of_ble_eq_true rfl) (Nat.le_of_ble_eq_true rfl) dX0_init_20 (fun q2 cA2 H hK hP hD hS => ?_)
  have hP : va_P D c2 [(h0, .inr (0, [.ref q1, .int (nI 0), .null, .null, .null, .int 0, .null, .null, .null, .null, .null])), (q1, .inl (cA1, 512, .inr (.inl (fun _ => 0)))), (q2, .inl (cA2, 3, .inl (fun _ => 0)))] H := hP
  have hD : va_D _ [(h0, .inr (0, [.ref q1, .int (nI 0), .null, .null, .null, .int 0, .null, .null, .null, .null, .null])), (q1, .inl (cA1, 512, .inr (.inl (fun _ => 0)))), (q2, .inl (cA2, 3, .inl (fun _ => 0)))] := hD
  have hK : va_K D c2 [(cA1, .long), (cA2, .int)] s := hK
  refine W.widen (k := 2) (n := 515) (Nat.le_of_ble_eq_true rfl) (Nat.le_of_ble_eq_true rfl) ?_
  refine va_putF (D := D) (ci := 0) (v := .ref q2) (C := RX0) (T := TX0) (N := 11) E.1 E.2.1 E.2.2.2.2 inX tyX0 tyX0_ok nmX0 E.2.2.2.1 hK hP hD hS 0 rfl rfl 2 (by decide) (E.2.2.2.2 _ flX_17) (fun _ h9 => h9) rfl hin rfl (tyX0_ok 2 (by decide)) rfl rfl (Nat.le_of_ble_eq_true rfl) dX0_init_22 (fun H locs hP hD hS => ?_)
  have hP : va_P D c2 [(h0, .inr (0, [.ref q1, .int (nI 0), .ref q2, .null, .null, .int 0, .null, .null, .null, .null, .null])), (q1, .inl (cA1, 512, .inr (.inl (fun _ => 0)))), (q2, .inl (cA2, 3, .inl (fun _ => 0)))] H := hP
  have hD : va_D _ [(h0, .inr (0, [.ref q1, .int (nI 0), .ref q2, .null, .null, .int 0, .null, .null, .null, .null, .null])), (q1, .inl (cA1, 512, .inr (.inl (fun _ => 0)))), (q2, .inl (cA2, 3, .inl (fun _ => 0)))] := hD
  refine lv_aload_n E.1 E.2.1 dX0_init_25 rfl (lv_at hl 0 rfl) ?_
  refine lv_iconst (v := nI 3) E.1 E.2.1 dX0_init_26 rfl ?_
  refine va_newa (atype := .int) (N' := 3) (a0 := (3, .inl (fun _ => 0))) (ty := .int) E.1 E.2.1 (E.2.2.2.2 _ ar_I) rfl hK hP hD hS hA (fun cA => by rw [vp_cell_i]; rfl) (nI_pos (by omega)) (nI_clamp (by omega)) (by decide) (Nat.le_of_ble_eq_true rfl) (Nat.le_of_ble_eq_true rfl) dX0_init_27 (fun q3 cA3 H hK hP hD hS => ?_)
  have hP : va_P D c2 [(h0, .inr (0, [.ref q1, .int (nI 0), .ref q2, .null, .null, .int 0, .null, .null, .null, .null, .null])), (q1, .inl (cA1, 512, .inr (.inl (fun _ => 0)))), (q2, .inl (cA2, 3, .inl (fun _ => 0))), (q3, .inl (cA3, 3, .inl (fun _ => 0)))] H := hP
  have hD : va_D _ [(h0, .inr (0, [.ref q1, .int (nI 0), .ref q2, .null, .null, .int 0, .null, .null, .null, .null, .null])), (q1, .inl (cA1, 512, .inr (.inl (fun _ => 0)))), (q2, .inl (cA2, 3, .inl (fun _ => 0))), (q3, .inl (cA3, 3, .inl (fun _ => 0)))] := hD
  have hK : va_K D c2 [(cA1, .long), (cA2, .int), (cA3, .int)] s := hK
  refine W.widen (k := 3) (n := 518) (Nat.le_of_ble_eq_true rfl) (Nat.le_of_ble_eq_true rfl) ?_
  refine va_putF (D := D) (ci := 0) (v := .ref q3) (C := RX0) (T := TX0) (N := 11) E.1 E.2.1 E.2.2.2.2 inX tyX0 tyX0_ok nmX0 E.2.2.2.1 hK hP hD hS 0 rfl rfl 3 (by decide) (E.2.2.2.2 _ flX_21) (fun _ h9 => h9) rfl hin rfl (tyX0_ok 3 (by decide)) rfl rfl (Nat.le_of_ble_eq_true rfl) dX0_init_29 (fun H locs hP hD hS => ?_)
  have hP : va_P D c2 [(h0, .inr (0, [.ref q1, .int (nI 0), .ref q2, .ref q3, .null, .int 0, .null, .null, .null, .null, .null])), (q1, .inl (cA1, 512, .inr (.inl (fun _ => 0)))), (q2, .inl (cA2, 3, .inl (fun _ => 0))), (q3, .inl (cA3, 3, .inl (fun _ => 0)))] H := hP
  have hD : va_D _ [(h0, .inr (0, [.ref q1, .int (nI 0), .ref q2, .ref q3, .null, .int 0, .null, .null, .null, .null, .null])), (q1, .inl (cA1, 512, .inr (.inl (fun _ => 0)))), (q2, .inl (cA2, 3, .inl (fun _ => 0))), (q3, .inl (cA3, 3, .inl (fun _ => 0)))] := hD
  refine lv_aload_n E.1 E.2.1 dX0_init_32 rfl (lv_at hl 0 rfl) ?_
  refine lv_iconst (v := nI 3) E.1 E.2.1 dX0_init_33 rfl ?_
  refine va_newa (atype := .long) (N' := 3) (a0 := (3, .inr (.inl (fun _ => 0)))) (ty := .long) E.1 E.2.1 (E.2.2.2.2 _ ar_J) rfl hK hP hD hS hA (fun cA => by rw [vp_cell_l]; rfl) (nI_pos (by omega)) (nI_clamp (by omega)) (by decide) (Nat.le_of_ble_eq_true rfl) (Nat.le_of_ble_eq_true rfl) dX0_init_34 (fun q4 cA4 H hK hP hD hS => ?_)
  have hP : va_P D c2 [(h0, .inr (0, [.ref q1, .int (nI 0), .ref q2, .ref q3, .null, .int 0, .null, .null, .null, .null, .null])), (q1, .inl (cA1, 512, .inr (.inl (fun _ => 0)))), (q2, .inl (cA2, 3, .inl (fun _ => 0))), (q3, .inl (cA3, 3, .inl (fun _ => 0))), (q4, .inl (cA4, 3, .inr (.inl (fun _ => 0))))] H := hP
  have hD : va_D _ [(h0, .inr (0, [.ref q1, .int (nI 0), .ref q2, .ref q3, .null, .int 0, .null, .null, .null, .null, .null])), (q1, .inl (cA1, 512, .inr (.inl (fun _ => 0)))), (q2, .inl (cA2, 3, .inl (fun _ => 0))), (q3, .inl (cA3, 3, .inl (fun _ => 0))), (q4, .inl (cA4, 3, .inr (.inl (fun _ => 0))))] := hD
  have hK : va_K D c2 [(cA1, .long), (cA2, .int), (cA3, .int), (cA4, .long)] s := hK
  refine W.widen (k := 4) (n := 521) (Nat.le_of_ble_eq_true rfl) (Nat.le_of_ble_eq_true rfl) ?_
  refine va_putF (D := D) (ci := 0) (v := .ref q4) (C := RX0) (T := TX0) (N := 11) E.1 E.2.1 E.2.2.2.2 inX tyX0 tyX0_ok nmX0 E.2.2.2.1 hK hP hD hS 0 rfl rfl 4 (by decide) (E.2.2.2.2 _ flX_24) (fun _ h9 => h9) rfl hin rfl (tyX0_ok 4 (by decide)) rfl rfl (Nat.le_of_ble_eq_true rfl) dX0_init_36 (fun H locs hP hD hS => ?_)
  have hP : va_P D c2 [(h0, .inr (0, [.ref q1, .int (nI 0), .ref q2, .ref q3, .ref q4, .int 0, .null, .null, .null, .null, .null])), (q1, .inl (cA1, 512, .inr (.inl (fun _ => 0)))), (q2, .inl (cA2, 3, .inl (fun _ => 0))), (q3, .inl (cA3, 3, .inl (fun _ => 0))), (q4, .inl (cA4, 3, .inr (.inl (fun _ => 0))))] H := hP
  have hD : va_D _ [(h0, .inr (0, [.ref q1, .int (nI 0), .ref q2, .ref q3, .ref q4, .int 0, .null, .null, .null, .null, .null])), (q1, .inl (cA1, 512, .inr (.inl (fun _ => 0)))), (q2, .inl (cA2, 3, .inl (fun _ => 0))), (q3, .inl (cA3, 3, .inl (fun _ => 0))), (q4, .inl (cA4, 3, .inr (.inl (fun _ => 0))))] := hD
  refine lv_aload_n E.1 E.2.1 dX0_init_39 rfl (lv_at hl 0 rfl) ?_
  refine lv_iconst (v := nI 0) E.1 E.2.1 dX0_init_40 rfl ?_
  refine va_put (D := D) (ci := 0) (v := .int (nI 0)) (C := RX0) (T := TX0) (N := 11) E.1 E.2.1 E.2.2.2.2 inX tyX0 tyX0_ok nmX0 E.2.2.2.1 hK hP hD hS 0 rfl rfl 5 (by decide) (E.2.2.2.2 _ flX_27) (fun _ h9 => h9) rfl (tyX0_ok 5 (by decide)) rfl rfl (Nat.le_of_ble_eq_true rfl) dX0_init_41 (fun H locs hP hD hS => ?_)
  have hP : va_P D c2 [(h0, .inr (0, [.ref q1, .int (nI 0), .ref q2, .ref q3, .ref q4, .int (nI 0), .null, .null, .null, .null, .null])), (q1, .inl (cA1, 512, .inr (.inl (fun _ => 0)))), (q2, .inl (cA2, 3, .inl (fun _ => 0))), (q3, .inl (cA3, 3, .inl (fun _ => 0))), (q4, .inl (cA4, 3, .inr (.inl (fun _ => 0))))] H := hP
  have hD : va_D _ [(h0, .inr (0, [.ref q1, .int (nI 0), .ref q2, .ref q3, .ref q4, .int (nI 0), .null, .null, .null, .null, .null])), (q1, .inl (cA1, 512, .inr (.inl (fun _ => 0)))), (q2, .inl (cA2, 3, .inl (fun _ => 0))), (q3, .inl (cA3, 3, .inl (fun _ => 0))), (q4, .inl (cA4, 3, .inr (.inl (fun _ => 0))))] := hD
  refine lv_aload_n E.1 E.2.1 dX0_init_44 rfl (lv_at hl 0 rfl) ?_
  refine lv_bipush (v := nI 32) E.1 E.2.1 dX0_init_45 rfl ?_
  refine va_newa (atype := .long) (N' := 32) (a0 := (32, .inr (.inl (fun _ => 0)))) (ty := .long) E.1 E.2.1 (E.2.2.2.2 _ ar_J) rfl hK hP hD hS hA (fun cA => by rw [vp_cell_l]; rfl) (nI_pos (by omega)) (nI_clamp (by omega)) (by decide) (Nat.le_of_ble_eq_true rfl) (Nat.le_of_ble_eq_true rfl) dX0_init_47 (fun q5 cA5 H hK hP hD hS => ?_)
  have hP : va_P D c2 [(h0, .inr (0, [.ref q1, .int (nI 0), .ref q2, .ref q3, .ref q4, .int (nI 0), .null, .null, .null, .null, .null])), (q1, .inl (cA1, 512, .inr (.inl (fun _ => 0)))), (q2, .inl (cA2, 3, .inl (fun _ => 0))), (q3, .inl (cA3, 3, .inl (fun _ => 0))), (q4, .inl (cA4, 3, .inr (.inl (fun _ => 0)))), (q5, .inl (cA5, 32, .inr (.inl (fun _ => 0))))] H := hP
  have hD : va_D _ [(h0, .inr (0, [.ref q1, .int (nI 0), .ref q2, .ref q3, .ref q4, .int (nI 0), .null, .null, .null, .null, .null])), (q1, .inl (cA1, 512, .inr (.inl (fun _ => 0)))), (q2, .inl (cA2, 3, .inl (fun _ => 0))), (q3, .inl (cA3, 3, .inl (fun _ => 0))), (q4, .inl (cA4, 3, .inr (.inl (fun _ => 0)))), (q5, .inl (cA5, 32, .inr (.inl (fun _ => 0))))] := hD
  have hK : va_K D c2 [(cA1, .long), (cA2, .int), (cA3, .int), (cA4, .long), (cA5, .long)] s := hK
  refine W.widen (k := 5) (n := 553) (Nat.le_of_ble_eq_true rfl) (Nat.le_of_ble_eq_true rfl) ?_
  refine va_putF (D := D) (ci := 0) (v := .ref q5) (C := RX0) (T := TX0) (N := 11) E.1 E.2.1 E.2.2.2.2 inX tyX0 tyX0_ok nmX0 E.2.2.2.1 hK hP hD hS 0 rfl rfl 6 (by decide) (E.2.2.2.2 _ flX_30) (fun _ h9 => h9) rfl hin rfl (tyX0_ok 6 (by decide)) rfl rfl (Nat.le_of_ble_eq_true rfl) dX0_init_49 (fun H locs hP hD hS => ?_)
  have hP : va_P D c2 [(h0, .inr (0, [.ref q1, .int (nI 0), .ref q2, .ref q3, .ref q4, .int (nI 0), .ref q5, .null, .null, .null, .null])), (q1, .inl (cA1, 512, .inr (.inl (fun _ => 0)))), (q2, .inl (cA2, 3, .inl (fun _ => 0))), (q3, .inl (cA3, 3, .inl (fun _ => 0))), (q4, .inl (cA4, 3, .inr (.inl (fun _ => 0)))), (q5, .inl (cA5, 32, .inr (.inl (fun _ => 0))))] H := hP
  have hD : va_D _ [(h0, .inr (0, [.ref q1, .int (nI 0), .ref q2, .ref q3, .ref q4, .int (nI 0), .ref q5, .null, .null, .null, .null])), (q1, .inl (cA1, 512, .inr (.inl (fun _ => 0)))), (q2, .inl (cA2, 3, .inl (fun _ => 0))), (q3, .inl (cA3, 3, .inl (fun _ => 0))), (q4, .inl (cA4, 3, .inr (.inl (fun _ => 0)))), (q5, .inl (cA5, 32, .inr (.inl (fun _ => 0))))] := hD
  refine lv_aload_n E.1 E.2.1 dX0_init_52 rfl (lv_at hl 0 rfl) ?_
  refine lv_bipush (v := nI 32) E.1 E.2.1 dX0_init_53 rfl ?_
  refine va_newa (atype := .long) (N' := 32) (a0 := (32, .inr (.inl (fun _ => 0)))) (ty := .long) E.1 E.2.1 (E.2.2.2.2 _ ar_J) rfl hK hP hD hS hA (fun cA => by rw [vp_cell_l]; rfl) (nI_pos (by omega)) (nI_clamp (by omega)) (by decide) (Nat.le_of_ble_eq_true rfl) (Nat.le_of_ble_eq_true rfl) dX0_init_55 (fun q6 cA6 H hK hP hD hS => ?_)
  have hP : va_P D c2 [(h0, .inr (0, [.ref q1, .int (nI 0), .ref q2, .ref q3, .ref q4, .int (nI 0), .ref q5, .null, .null, .null, .null])), (q1, .inl (cA1, 512, .inr (.inl (fun _ => 0)))), (q2, .inl (cA2, 3, .inl (fun _ => 0))), (q3, .inl (cA3, 3, .inl (fun _ => 0))), (q4, .inl (cA4, 3, .inr (.inl (fun _ => 0)))), (q5, .inl (cA5, 32, .inr (.inl (fun _ => 0)))), (q6, .inl (cA6, 32, .inr (.inl (fun _ => 0))))] H := hP
  have hD : va_D _ [(h0, .inr (0, [.ref q1, .int (nI 0), .ref q2, .ref q3, .ref q4, .int (nI 0), .ref q5, .null, .null, .null, .null])), (q1, .inl (cA1, 512, .inr (.inl (fun _ => 0)))), (q2, .inl (cA2, 3, .inl (fun _ => 0))), (q3, .inl (cA3, 3, .inl (fun _ => 0))), (q4, .inl (cA4, 3, .inr (.inl (fun _ => 0)))), (q5, .inl (cA5, 32, .inr (.inl (fun _ => 0)))), (q6, .inl (cA6, 32, .inr (.inl (fun _ => 0))))] := hD
  have hK : va_K D c2 [(cA1, .long), (cA2, .int), (cA3, .int), (cA4, .long), (cA5, .long), (cA6, .long)] s := hK
  refine W.widen (k := 6) (n := 585) (Nat.le_of_ble_eq_true rfl) (Nat.le_of_ble_eq_true rfl) ?_
  refine va_putF (D := D) (ci := 0) (v := .ref q6) (C := RX0) (T := TX0) (N := 11) E.1 E.2.1 E.2.2.2.2 inX tyX0 tyX0_ok nmX0 E.2.2.2.1 hK hP hD hS 0 rfl rfl 7 (by decide) (E.2.2.2.2 _ flX_33) (fun _ h9 => h9) rfl hin rfl (tyX0_ok 7 (by decide)) rfl rfl (Nat.le_of_ble_eq_true rfl) dX0_init_57 (fun H locs hP hD hS => ?_)
  have hP : va_P D c2 [(h0, .inr (0, [.ref q1, .int (nI 0), .ref q2, .ref q3, .ref q4, .int (nI 0), .ref q5, .ref q6, .null, .null, .null])), (q1, .inl (cA1, 512, .inr (.inl (fun _ => 0)))), (q2, .inl (cA2, 3, .inl (fun _ => 0))), (q3, .inl (cA3, 3, .inl (fun _ => 0))), (q4, .inl (cA4, 3, .inr (.inl (fun _ => 0)))), (q5, .inl (cA5, 32, .inr (.inl (fun _ => 0)))), (q6, .inl (cA6, 32, .inr (.inl (fun _ => 0))))] H := hP
  have hD : va_D _ [(h0, .inr (0, [.ref q1, .int (nI 0), .ref q2, .ref q3, .ref q4, .int (nI 0), .ref q5, .ref q6, .null, .null, .null])), (q1, .inl (cA1, 512, .inr (.inl (fun _ => 0)))), (q2, .inl (cA2, 3, .inl (fun _ => 0))), (q3, .inl (cA3, 3, .inl (fun _ => 0))), (q4, .inl (cA4, 3, .inr (.inl (fun _ => 0)))), (q5, .inl (cA5, 32, .inr (.inl (fun _ => 0)))), (q6, .inl (cA6, 32, .inr (.inl (fun _ => 0))))] := hD
  refine lv_aload_n E.1 E.2.1 dX0_init_60 rfl (lv_at hl 0 rfl) ?_
  refine lv_bipush (v := nI 32) E.1 E.2.1 dX0_init_61 rfl ?_
  refine va_newa (atype := .int) (N' := 32) (a0 := (32, .inl (fun _ => 0))) (ty := .int) E.1 E.2.1 (E.2.2.2.2 _ ar_I) rfl hK hP hD hS hA (fun cA => by rw [vp_cell_i]; rfl) (nI_pos (by omega)) (nI_clamp (by omega)) (by decide) (Nat.le_of_ble_eq_true rfl) (Nat.le_of_ble_eq_true rfl) dX0_init_63 (fun q7 cA7 H hK hP hD hS => ?_)
  have hP : va_P D c2 [(h0, .inr (0, [.ref q1, .int (nI 0), .ref q2, .ref q3, .ref q4, .int (nI 0), .ref q5, .ref q6, .null, .null, .null])), (q1, .inl (cA1, 512, .inr (.inl (fun _ => 0)))), (q2, .inl (cA2, 3, .inl (fun _ => 0))), (q3, .inl (cA3, 3, .inl (fun _ => 0))), (q4, .inl (cA4, 3, .inr (.inl (fun _ => 0)))), (q5, .inl (cA5, 32, .inr (.inl (fun _ => 0)))), (q6, .inl (cA6, 32, .inr (.inl (fun _ => 0)))), (q7, .inl (cA7, 32, .inl (fun _ => 0)))] H := hP
  have hD : va_D _ [(h0, .inr (0, [.ref q1, .int (nI 0), .ref q2, .ref q3, .ref q4, .int (nI 0), .ref q5, .ref q6, .null, .null, .null])), (q1, .inl (cA1, 512, .inr (.inl (fun _ => 0)))), (q2, .inl (cA2, 3, .inl (fun _ => 0))), (q3, .inl (cA3, 3, .inl (fun _ => 0))), (q4, .inl (cA4, 3, .inr (.inl (fun _ => 0)))), (q5, .inl (cA5, 32, .inr (.inl (fun _ => 0)))), (q6, .inl (cA6, 32, .inr (.inl (fun _ => 0)))), (q7, .inl (cA7, 32, .inl (fun _ => 0)))] := hD
  have hK : va_K D c2 [(cA1, .long), (cA2, .int), (cA3, .int), (cA4, .long), (cA5, .long), (cA6, .long), (cA7, .int)] s := hK
  refine W.widen (k := 7) (n := 617) (Nat.le_of_ble_eq_true rfl) (Nat.le_of_ble_eq_true rfl) ?_
  refine va_putF (D := D) (ci := 0) (v := .ref q7) (C := RX0) (T := TX0) (N := 11) E.1 E.2.1 E.2.2.2.2 inX tyX0 tyX0_ok nmX0 E.2.2.2.1 hK hP hD hS 0 rfl rfl 8 (by decide) (E.2.2.2.2 _ flX_36) (fun _ h9 => h9) rfl hin rfl (tyX0_ok 8 (by decide)) rfl rfl (Nat.le_of_ble_eq_true rfl) dX0_init_65 (fun H locs hP hD hS => ?_)
  have hP : va_P D c2 [(h0, .inr (0, [.ref q1, .int (nI 0), .ref q2, .ref q3, .ref q4, .int (nI 0), .ref q5, .ref q6, .ref q7, .null, .null])), (q1, .inl (cA1, 512, .inr (.inl (fun _ => 0)))), (q2, .inl (cA2, 3, .inl (fun _ => 0))), (q3, .inl (cA3, 3, .inl (fun _ => 0))), (q4, .inl (cA4, 3, .inr (.inl (fun _ => 0)))), (q5, .inl (cA5, 32, .inr (.inl (fun _ => 0)))), (q6, .inl (cA6, 32, .inr (.inl (fun _ => 0)))), (q7, .inl (cA7, 32, .inl (fun _ => 0)))] H := hP
  have hD : va_D _ [(h0, .inr (0, [.ref q1, .int (nI 0), .ref q2, .ref q3, .ref q4, .int (nI 0), .ref q5, .ref q6, .ref q7, .null, .null])), (q1, .inl (cA1, 512, .inr (.inl (fun _ => 0)))), (q2, .inl (cA2, 3, .inl (fun _ => 0))), (q3, .inl (cA3, 3, .inl (fun _ => 0))), (q4, .inl (cA4, 3, .inr (.inl (fun _ => 0)))), (q5, .inl (cA5, 32, .inr (.inl (fun _ => 0)))), (q6, .inl (cA6, 32, .inr (.inl (fun _ => 0)))), (q7, .inl (cA7, 32, .inl (fun _ => 0)))] := hD
  refine lv_aload_n E.1 E.2.1 dX0_init_68 rfl (lv_at hl 0 rfl) ?_
  refine lv_bipush (v := nI 32) E.1 E.2.1 dX0_init_69 rfl ?_
  refine va_newa (atype := .int) (N' := 32) (a0 := (32, .inl (fun _ => 0))) (ty := .int) E.1 E.2.1 (E.2.2.2.2 _ ar_I) rfl hK hP hD hS hA (fun cA => by rw [vp_cell_i]; rfl) (nI_pos (by omega)) (nI_clamp (by omega)) (by decide) (Nat.le_of_ble_eq_true rfl) (Nat.le_of_ble_eq_true rfl) dX0_init_71 (fun q8 cA8 H hK hP hD hS => ?_)
  have hP : va_P D c2 [(h0, .inr (0, [.ref q1, .int (nI 0), .ref q2, .ref q3, .ref q4, .int (nI 0), .ref q5, .ref q6, .ref q7, .null, .null])), (q1, .inl (cA1, 512, .inr (.inl (fun _ => 0)))), (q2, .inl (cA2, 3, .inl (fun _ => 0))), (q3, .inl (cA3, 3, .inl (fun _ => 0))), (q4, .inl (cA4, 3, .inr (.inl (fun _ => 0)))), (q5, .inl (cA5, 32, .inr (.inl (fun _ => 0)))), (q6, .inl (cA6, 32, .inr (.inl (fun _ => 0)))), (q7, .inl (cA7, 32, .inl (fun _ => 0))), (q8, .inl (cA8, 32, .inl (fun _ => 0)))] H := hP
  have hD : va_D _ [(h0, .inr (0, [.ref q1, .int (nI 0), .ref q2, .ref q3, .ref q4, .int (nI 0), .ref q5, .ref q6, .ref q7, .null, .null])), (q1, .inl (cA1, 512, .inr (.inl (fun _ => 0)))), (q2, .inl (cA2, 3, .inl (fun _ => 0))), (q3, .inl (cA3, 3, .inl (fun _ => 0))), (q4, .inl (cA4, 3, .inr (.inl (fun _ => 0)))), (q5, .inl (cA5, 32, .inr (.inl (fun _ => 0)))), (q6, .inl (cA6, 32, .inr (.inl (fun _ => 0)))), (q7, .inl (cA7, 32, .inl (fun _ => 0))), (q8, .inl (cA8, 32, .inl (fun _ => 0)))] := hD
  have hK : va_K D c2 [(cA1, .long), (cA2, .int), (cA3, .int), (cA4, .long), (cA5, .long), (cA6, .long), (cA7, .int), (cA8, .int)] s := hK
  refine W.widen (k := 8) (n := 649) (Nat.le_of_ble_eq_true rfl) (Nat.le_of_ble_eq_true rfl) ?_
  refine va_putF (D := D) (ci := 0) (v := .ref q8) (C := RX0) (T := TX0) (N := 11) E.1 E.2.1 E.2.2.2.2 inX tyX0 tyX0_ok nmX0 E.2.2.2.1 hK hP hD hS 0 rfl rfl 9 (by decide) (E.2.2.2.2 _ flX_39) (fun _ h9 => h9) rfl hin rfl (tyX0_ok 9 (by decide)) rfl rfl (Nat.le_of_ble_eq_true rfl) dX0_init_73 (fun H locs hP hD hS => ?_)
  have hP : va_P D c2 [(h0, .inr (0, [.ref q1, .int (nI 0), .ref q2, .ref q3, .ref q4, .int (nI 0), .ref q5, .ref q6, .ref q7, .ref q8, .null])), (q1, .inl (cA1, 512, .inr (.inl (fun _ => 0)))), (q2, .inl (cA2, 3, .inl (fun _ => 0))), (q3, .inl (cA3, 3, .inl (fun _ => 0))), (q4, .inl (cA4, 3, .inr (.inl (fun _ => 0)))), (q5, .inl (cA5, 32, .inr (.inl (fun _ => 0)))), (q6, .inl (cA6, 32, .inr (.inl (fun _ => 0)))), (q7, .inl (cA7, 32, .inl (fun _ => 0))), (q8, .inl (cA8, 32, .inl (fun _ => 0)))] H := hP
  have hD : va_D _ [(h0, .inr (0, [.ref q1, .int (nI 0), .ref q2, .ref q3, .ref q4, .int (nI 0), .ref q5, .ref q6, .ref q7, .ref q8, .null])), (q1, .inl (cA1, 512, .inr (.inl (fun _ => 0)))), (q2, .inl (cA2, 3, .inl (fun _ => 0))), (q3, .inl (cA3, 3, .inl (fun _ => 0))), (q4, .inl (cA4, 3, .inr (.inl (fun _ => 0)))), (q5, .inl (cA5, 32, .inr (.inl (fun _ => 0)))), (q6, .inl (cA6, 32, .inr (.inl (fun _ => 0)))), (q7, .inl (cA7, 32, .inl (fun _ => 0))), (q8, .inl (cA8, 32, .inl (fun _ => 0)))] := hD
  refine lv_aload_n E.1 E.2.1 dX0_init_76 rfl (lv_at hl 0 rfl) ?_
  refine lv_sipush (v := nI 128) E.1 E.2.1 dX0_init_77 rfl ?_
  refine va_newa (atype := .int) (N' := 128) (a0 := (128, .inl (fun _ => 0))) (ty := .int) E.1 E.2.1 (E.2.2.2.2 _ ar_I) rfl hK hP hD hS hA (fun cA => by rw [vp_cell_i]; rfl) (nI_pos (by omega)) (nI_clamp (by omega)) (by decide) (Nat.le_of_ble_eq_true rfl) (Nat.le_of_ble_eq_true rfl) dX0_init_80 (fun q9 cA9 H hK hP hD hS => ?_)
  have hP : va_P D c2 [(h0, .inr (0, [.ref q1, .int (nI 0), .ref q2, .ref q3, .ref q4, .int (nI 0), .ref q5, .ref q6, .ref q7, .ref q8, .null])), (q1, .inl (cA1, 512, .inr (.inl (fun _ => 0)))), (q2, .inl (cA2, 3, .inl (fun _ => 0))), (q3, .inl (cA3, 3, .inl (fun _ => 0))), (q4, .inl (cA4, 3, .inr (.inl (fun _ => 0)))), (q5, .inl (cA5, 32, .inr (.inl (fun _ => 0)))), (q6, .inl (cA6, 32, .inr (.inl (fun _ => 0)))), (q7, .inl (cA7, 32, .inl (fun _ => 0))), (q8, .inl (cA8, 32, .inl (fun _ => 0))), (q9, .inl (cA9, 128, .inl (fun _ => 0)))] H := hP
  have hD : va_D _ [(h0, .inr (0, [.ref q1, .int (nI 0), .ref q2, .ref q3, .ref q4, .int (nI 0), .ref q5, .ref q6, .ref q7, .ref q8, .null])), (q1, .inl (cA1, 512, .inr (.inl (fun _ => 0)))), (q2, .inl (cA2, 3, .inl (fun _ => 0))), (q3, .inl (cA3, 3, .inl (fun _ => 0))), (q4, .inl (cA4, 3, .inr (.inl (fun _ => 0)))), (q5, .inl (cA5, 32, .inr (.inl (fun _ => 0)))), (q6, .inl (cA6, 32, .inr (.inl (fun _ => 0)))), (q7, .inl (cA7, 32, .inl (fun _ => 0))), (q8, .inl (cA8, 32, .inl (fun _ => 0))), (q9, .inl (cA9, 128, .inl (fun _ => 0)))] := hD
  have hK : va_K D c2 [(cA1, .long), (cA2, .int), (cA3, .int), (cA4, .long), (cA5, .long), (cA6, .long), (cA7, .int), (cA8, .int), (cA9, .int)] s := hK
  refine W.widen (k := 9) (n := 777) (Nat.le_of_ble_eq_true rfl) (Nat.le_of_ble_eq_true rfl) ?_
  refine va_putF (D := D) (ci := 0) (v := .ref q9) (C := RX0) (T := TX0) (N := 11) E.1 E.2.1 E.2.2.2.2 inX tyX0 tyX0_ok nmX0 E.2.2.2.1 hK hP hD hS 0 rfl rfl 10 (by decide) (E.2.2.2.2 _ flX_42) (fun _ h9 => h9) rfl hin rfl (tyX0_ok 10 (by decide)) rfl rfl (Nat.le_of_ble_eq_true rfl) dX0_init_82 (fun H locs hP hD hS => ?_)
  have hP : va_P D c2 [(h0, .inr (0, [.ref q1, .int (nI 0), .ref q2, .ref q3, .ref q4, .int (nI 0), .ref q5, .ref q6, .ref q7, .ref q8, .ref q9])), (q1, .inl (cA1, 512, .inr (.inl (fun _ => 0)))), (q2, .inl (cA2, 3, .inl (fun _ => 0))), (q3, .inl (cA3, 3, .inl (fun _ => 0))), (q4, .inl (cA4, 3, .inr (.inl (fun _ => 0)))), (q5, .inl (cA5, 32, .inr (.inl (fun _ => 0)))), (q6, .inl (cA6, 32, .inr (.inl (fun _ => 0)))), (q7, .inl (cA7, 32, .inl (fun _ => 0))), (q8, .inl (cA8, 32, .inl (fun _ => 0))), (q9, .inl (cA9, 128, .inl (fun _ => 0)))] H := hP
  have hD : va_D _ [(h0, .inr (0, [.ref q1, .int (nI 0), .ref q2, .ref q3, .ref q4, .int (nI 0), .ref q5, .ref q6, .ref q7, .ref q8, .ref q9])), (q1, .inl (cA1, 512, .inr (.inl (fun _ => 0)))), (q2, .inl (cA2, 3, .inl (fun _ => 0))), (q3, .inl (cA3, 3, .inl (fun _ => 0))), (q4, .inl (cA4, 3, .inr (.inl (fun _ => 0)))), (q5, .inl (cA5, 32, .inr (.inl (fun _ => 0)))), (q6, .inl (cA6, 32, .inr (.inl (fun _ => 0)))), (q7, .inl (cA7, 32, .inl (fun _ => 0))), (q8, .inl (cA8, 32, .inl (fun _ => 0))), (q9, .inl (cA9, 128, .inl (fun _ => 0)))] := hD
  have hI := inj_of (ad := (fun i => match i with | 0 => h0 | 1 => q1 | 2 => q2 | 3 => q3 | 4 => q4 | 5 => q5 | 6 => q6 | 7 => q7 | 8 => q8 | _ => q9)) (N := 10) hD rfl
  refine W.vret E.1 E.2.1 hr (fun t ht hW => ⟨⟨((fun i => match i with | 0 => h0 | 1 => q1 | 2 => q2 | 3 => q3 | 4 => q4 | 5 => q5 | 6 => q6 | 7 => q7 | 8 => q8 | _ => q9), (fun i => match i with | 1 => cA1 | 2 => cA2 | 3 => cA3 | 4 => cA4 | 5 => cA5 | 6 => cA6 | 7 => cA7 | 8 => cA8 | _ => cA9)), rfl, ⟨rfl, hI.1, fun i h1 h2 => ?_⟩, ?_, ?_⟩, hS.F ht⟩) hS.2.2 dX0_init_85 hlk
  · rcases hI.2 i h2 with h3 | h3
    · have h4 := hI.1 i 0 h2 (by omega) h3
      omega
    · exact h3
  · rw [ht]; exact hP
  · exact va_K.moved hW.alike hK
set_option maxHeartbeats 4000000 in
set_option maxRecDepth 100000 in
theorem cR_init (l : Launch) (D : va_G) (h0 sz : Nat) (h0z : h0 < sz) : Met l yX1_init (wA yX1_init cX1_init 1 none) { frames := 2, cells := 4, slots := 521, locals := 60 } (va_Pc [.ref h0] (fun U => U.heap.size = sz ∧ va_P D c2 [(h0, .inr (1, [.int 0, .int 0, .null, .int 0, .null, .null, .null]))] U.heap ∧ va_K D c2 [] U)) (va_Qv (fun (u : (Nat → Nat) × (Nat → ClassId)) => u.1 0 = h0 ∧ inj u.1 5 ∧ (∀ i, 1 ≤ i → i < 5 → sz ≤ u.1 i)) (fun u t => va_P D c2 (wR u.1 u.2 (fun _ _ => 0) 0 (fun _ => 0) (fun _ => 0) (fun _ => 0) 0 0) t.heap ∧ va_K D c2 (tR u.2) t) (fun q => q = h0 ∨ sz ≤ q)) 4 521 (fun q => q = h0 ∨ sz ≤ q) := by
  refine met_of RX1 rfl (by decide) (Nat.le_of_ble_eq_true rfl) (fun p e s m below meth cd ls E hr hlk hin hB hl => ?_)
  obtain ⟨rfl, hP, hK⟩ := hB
  have hl : lv_has ls 1 [(0, .ref h0)] := hl
  have hS : va_S (fun q => q = h0 ∨ s.heap.size ≤ q) s.heap s.heap [] := va_S.rf
  have hA : ∀ q, s.heap.size ≤ q → (q = h0 ∨ s.heap.size ≤ q) := fun q h => Or.inr h
  have hD : va_D (fun q => q = h0 ∨ s.heap.size ≤ q) [(h0, .inr (1, [.int 0, .int 0, .null, .int 0, .null, .null, .null]))] := ⟨fun i j p q hi hj _ => by have h1 := (List.getElem?_eq_some_iff.mp hi).1; have h2 := (List.getElem?_eq_some_iff.mp hj).1; simp at h1 h2; omega, fun k q hk => by have h1 := (List.getElem?_eq_some_iff.mp hk).1; simp at h1; subst h1; cases hk; exact Or.inl rfl⟩
  refine lv_aload_n E.1 E.2.1 dX1_init_0 rfl (lv_at hl 0 rfl) ?_
  refine W.objInit E.1 E.2.1 E.2.2.2.1 (E.2.2.2.2 _ oi_R) (E.2.2.2.2 _ oi_i) (E.2.2.2.2 _ oi_c) rfl (by rw [E.2.2.1]; exact hl.1) rfl dX1_init_1 (Nat.le_of_ble_eq_true rfl) (Nat.le_of_ble_eq_true rfl) ?_
  refine W.eq (g2 := F0 m 4 ls []) rfl ?_
  refine lv_aload_n E.1 E.2.1 dX1_init_4 rfl (lv_at hl 0 rfl) ?_
  refine lv_sipush (v := nI 512) E.1 E.2.1 dX1_init_5 rfl ?_
  refine va_newa (atype := .long) (N' := 512) (a0 := (512, .inr (.inl (fun _ => 0)))) (ty := .long) E.1 E.2.1 (E.2.2.2.2 _ ar_J) rfl hK hP hD hS hA (fun cA => by rw [vp_cell_l]; rfl) (nI_pos (by omega)) (nI_clamp (by omega)) (by decide) (Nat.le_of_ble_eq_true rfl) (Nat.le_of_ble_eq_true rfl) dX1_init_8 (fun q1 cA1 H hK hP hD hS => ?_)
  have hP : va_P D c2 [(h0, .inr (1, [.int 0, .int 0, .null, .int 0, .null, .null, .null])), (q1, .inl (cA1, 512, .inr (.inl (fun _ => 0))))] H := hP
  have hD : va_D _ [(h0, .inr (1, [.int 0, .int 0, .null, .int 0, .null, .null, .null])), (q1, .inl (cA1, 512, .inr (.inl (fun _ => 0))))] := hD
  have hK : va_K D c2 [(cA1, .long)] s := hK
  refine W.widen (k := 1) (n := 512) (Nat.le_of_ble_eq_true rfl) (Nat.le_of_ble_eq_true rfl) ?_
  refine va_putF (D := D) (ci := 1) (v := .ref q1) (C := RX1) (T := TR1) (N := 7) E.1 E.2.1 E.2.2.2.2 inR tyR1 tyR1_ok nmR1 E.2.2.2.1 hK hP hD hS 0 rfl rfl 2 (by decide) (E.2.2.2.2 _ flR_7) (fun _ h9 => h9) rfl hin rfl (tyR1_ok 2 (by decide)) rfl rfl (Nat.le_of_ble_eq_true rfl) dX1_init_10 (fun H locs hP hD hS => ?_)
  have hP : va_P D c2 [(h0, .inr (1, [.int 0, .int 0, .ref q1, .int 0, .null, .null, .null])), (q1, .inl (cA1, 512, .inr (.inl (fun _ => 0))))] H := hP
  have hD : va_D _ [(h0, .inr (1, [.int 0, .int 0, .ref q1, .int 0, .null, .null, .null])), (q1, .inl (cA1, 512, .inr (.inl (fun _ => 0))))] := hD
  refine lv_aload_n E.1 E.2.1 dX1_init_13 rfl (lv_at hl 0 rfl) ?_
  refine lv_iconst (v := nI 3) E.1 E.2.1 dX1_init_14 rfl ?_
  refine va_newa (atype := .int) (N' := 3) (a0 := (3, .inl (fun _ => 0))) (ty := .int) E.1 E.2.1 (E.2.2.2.2 _ ar_I) rfl hK hP hD hS hA (fun cA => by rw [vp_cell_i]; rfl) (nI_pos (by omega)) (nI_clamp (by omega)) (by decide) (Nat.le_of_ble_eq_true rfl) (Nat.le_of_ble_eq_true rfl) dX1_init_15 (fun q2 cA2 H hK hP hD hS => ?_)
  have hP : va_P D c2 [(h0, .inr (1, [.int 0, .int 0, .ref q1, .int 0, .null, .null, .null])), (q1, .inl (cA1, 512, .inr (.inl (fun _ => 0)))), (q2, .inl (cA2, 3, .inl (fun _ => 0)))] H := hP
  have hD : va_D _ [(h0, .inr (1, [.int 0, .int 0, .ref q1, .int 0, .null, .null, .null])), (q1, .inl (cA1, 512, .inr (.inl (fun _ => 0)))), (q2, .inl (cA2, 3, .inl (fun _ => 0)))] := hD
  have hK : va_K D c2 [(cA1, .long), (cA2, .int)] s := hK
  refine W.widen (k := 2) (n := 515) (Nat.le_of_ble_eq_true rfl) (Nat.le_of_ble_eq_true rfl) ?_
  refine va_putF (D := D) (ci := 1) (v := .ref q2) (C := RX1) (T := TR1) (N := 7) E.1 E.2.1 E.2.2.2.2 inR tyR1 tyR1_ok nmR1 E.2.2.2.1 hK hP hD hS 0 rfl rfl 4 (by decide) (E.2.2.2.2 _ flR_13) (fun _ h9 => h9) rfl hin rfl (tyR1_ok 4 (by decide)) rfl rfl (Nat.le_of_ble_eq_true rfl) dX1_init_17 (fun H locs hP hD hS => ?_)
  have hP : va_P D c2 [(h0, .inr (1, [.int 0, .int 0, .ref q1, .int 0, .ref q2, .null, .null])), (q1, .inl (cA1, 512, .inr (.inl (fun _ => 0)))), (q2, .inl (cA2, 3, .inl (fun _ => 0)))] H := hP
  have hD : va_D _ [(h0, .inr (1, [.int 0, .int 0, .ref q1, .int 0, .ref q2, .null, .null])), (q1, .inl (cA1, 512, .inr (.inl (fun _ => 0)))), (q2, .inl (cA2, 3, .inl (fun _ => 0)))] := hD
  refine lv_aload_n E.1 E.2.1 dX1_init_20 rfl (lv_at hl 0 rfl) ?_
  refine lv_iconst (v := nI 3) E.1 E.2.1 dX1_init_21 rfl ?_
  refine va_newa (atype := .int) (N' := 3) (a0 := (3, .inl (fun _ => 0))) (ty := .int) E.1 E.2.1 (E.2.2.2.2 _ ar_I) rfl hK hP hD hS hA (fun cA => by rw [vp_cell_i]; rfl) (nI_pos (by omega)) (nI_clamp (by omega)) (by decide) (Nat.le_of_ble_eq_true rfl) (Nat.le_of_ble_eq_true rfl) dX1_init_22 (fun q3 cA3 H hK hP hD hS => ?_)
  have hP : va_P D c2 [(h0, .inr (1, [.int 0, .int 0, .ref q1, .int 0, .ref q2, .null, .null])), (q1, .inl (cA1, 512, .inr (.inl (fun _ => 0)))), (q2, .inl (cA2, 3, .inl (fun _ => 0))), (q3, .inl (cA3, 3, .inl (fun _ => 0)))] H := hP
  have hD : va_D _ [(h0, .inr (1, [.int 0, .int 0, .ref q1, .int 0, .ref q2, .null, .null])), (q1, .inl (cA1, 512, .inr (.inl (fun _ => 0)))), (q2, .inl (cA2, 3, .inl (fun _ => 0))), (q3, .inl (cA3, 3, .inl (fun _ => 0)))] := hD
  have hK : va_K D c2 [(cA1, .long), (cA2, .int), (cA3, .int)] s := hK
  refine W.widen (k := 3) (n := 518) (Nat.le_of_ble_eq_true rfl) (Nat.le_of_ble_eq_true rfl) ?_
  refine va_putF (D := D) (ci := 1) (v := .ref q3) (C := RX1) (T := TR1) (N := 7) E.1 E.2.1 E.2.2.2.2 inR tyR1 tyR1_ok nmR1 E.2.2.2.1 hK hP hD hS 0 rfl rfl 5 (by decide) (E.2.2.2.2 _ flR_17) (fun _ h9 => h9) rfl hin rfl (tyR1_ok 5 (by decide)) rfl rfl (Nat.le_of_ble_eq_true rfl) dX1_init_24 (fun H locs hP hD hS => ?_)
  have hP : va_P D c2 [(h0, .inr (1, [.int 0, .int 0, .ref q1, .int 0, .ref q2, .ref q3, .null])), (q1, .inl (cA1, 512, .inr (.inl (fun _ => 0)))), (q2, .inl (cA2, 3, .inl (fun _ => 0))), (q3, .inl (cA3, 3, .inl (fun _ => 0)))] H := hP
  have hD : va_D _ [(h0, .inr (1, [.int 0, .int 0, .ref q1, .int 0, .ref q2, .ref q3, .null])), (q1, .inl (cA1, 512, .inr (.inl (fun _ => 0)))), (q2, .inl (cA2, 3, .inl (fun _ => 0))), (q3, .inl (cA3, 3, .inl (fun _ => 0)))] := hD
  refine lv_aload_n E.1 E.2.1 dX1_init_27 rfl (lv_at hl 0 rfl) ?_
  refine lv_iconst (v := nI 3) E.1 E.2.1 dX1_init_28 rfl ?_
  refine va_newa (atype := .long) (N' := 3) (a0 := (3, .inr (.inl (fun _ => 0)))) (ty := .long) E.1 E.2.1 (E.2.2.2.2 _ ar_J) rfl hK hP hD hS hA (fun cA => by rw [vp_cell_l]; rfl) (nI_pos (by omega)) (nI_clamp (by omega)) (by decide) (Nat.le_of_ble_eq_true rfl) (Nat.le_of_ble_eq_true rfl) dX1_init_29 (fun q4 cA4 H hK hP hD hS => ?_)
  have hP : va_P D c2 [(h0, .inr (1, [.int 0, .int 0, .ref q1, .int 0, .ref q2, .ref q3, .null])), (q1, .inl (cA1, 512, .inr (.inl (fun _ => 0)))), (q2, .inl (cA2, 3, .inl (fun _ => 0))), (q3, .inl (cA3, 3, .inl (fun _ => 0))), (q4, .inl (cA4, 3, .inr (.inl (fun _ => 0))))] H := hP
  have hD : va_D _ [(h0, .inr (1, [.int 0, .int 0, .ref q1, .int 0, .ref q2, .ref q3, .null])), (q1, .inl (cA1, 512, .inr (.inl (fun _ => 0)))), (q2, .inl (cA2, 3, .inl (fun _ => 0))), (q3, .inl (cA3, 3, .inl (fun _ => 0))), (q4, .inl (cA4, 3, .inr (.inl (fun _ => 0))))] := hD
  have hK : va_K D c2 [(cA1, .long), (cA2, .int), (cA3, .int), (cA4, .long)] s := hK
  refine W.widen (k := 4) (n := 521) (Nat.le_of_ble_eq_true rfl) (Nat.le_of_ble_eq_true rfl) ?_
  refine va_putF (D := D) (ci := 1) (v := .ref q4) (C := RX1) (T := TR1) (N := 7) E.1 E.2.1 E.2.2.2.2 inR tyR1 tyR1_ok nmR1 E.2.2.2.1 hK hP hD hS 0 rfl rfl 6 (by decide) (E.2.2.2.2 _ flR_20) (fun _ h9 => h9) rfl hin rfl (tyR1_ok 6 (by decide)) rfl rfl (Nat.le_of_ble_eq_true rfl) dX1_init_31 (fun H locs hP hD hS => ?_)
  have hP : va_P D c2 [(h0, .inr (1, [.int 0, .int 0, .ref q1, .int 0, .ref q2, .ref q3, .ref q4])), (q1, .inl (cA1, 512, .inr (.inl (fun _ => 0)))), (q2, .inl (cA2, 3, .inl (fun _ => 0))), (q3, .inl (cA3, 3, .inl (fun _ => 0))), (q4, .inl (cA4, 3, .inr (.inl (fun _ => 0))))] H := hP
  have hD : va_D _ [(h0, .inr (1, [.int 0, .int 0, .ref q1, .int 0, .ref q2, .ref q3, .ref q4])), (q1, .inl (cA1, 512, .inr (.inl (fun _ => 0)))), (q2, .inl (cA2, 3, .inl (fun _ => 0))), (q3, .inl (cA3, 3, .inl (fun _ => 0))), (q4, .inl (cA4, 3, .inr (.inl (fun _ => 0))))] := hD
  have hI := inj_of (ad := (fun i => match i with | 0 => h0 | 1 => q1 | 2 => q2 | 3 => q3 | _ => q4)) (N := 5) hD rfl
  refine W.vret E.1 E.2.1 hr (fun t ht hW => ⟨⟨((fun i => match i with | 0 => h0 | 1 => q1 | 2 => q2 | 3 => q3 | _ => q4), (fun i => match i with | 1 => cA1 | 2 => cA2 | 3 => cA3 | _ => cA4)), rfl, ⟨rfl, hI.1, fun i h1 h2 => ?_⟩, ?_, ?_⟩, hS.F ht⟩) hS.2.2 dX1_init_34 hlk
  · rcases hI.2 i h2 with h3 | h3
    · have h4 := hI.1 i 0 h2 (by omega) h3
      omega
    · exact h3
  · rw [ht]; exact hP
  · exact va_K.moved hW.alike hK
