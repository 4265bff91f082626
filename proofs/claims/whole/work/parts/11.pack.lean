/-! Contracts of the hall: laid by program (wip/whole/gen.py). -/
set_option maxHeartbeats 4000000 in
set_option maxRecDepth 100000 in
theorem cX_widthOf (l : Launch) (x : Int64)  : Met l yX0_widthOf (wA yX0_widthOf cX0_widthOf 3 (some .int)) (rN 0) (va_Pc [.long x] (fun _ => True)) (vp_Si (fun z => z = nI (wd x))) 0 0 (fun _ => False) := by
  refine met_of RX0 rfl (by decide) (Nat.le_of_ble_eq_true rfl) (fun p e s m below meth cd ls E hr hlk _ hB hl => ?_)
  have hl : lv_has ls 3 [(0, .long x)] := hl
  refine lv_iconst (v := nI 0) E.1 E.2.1 dX0_widthOf_0 rfl ?_
  refine lv_istore_n (lv' := [(2, .int (nI 0)), (0, .long x)]) E.1 E.2.1 dX0_widthOf_1 rfl hl (by decide) rfl (fun ls hl => ?_)
  refine w_lp1 (fun (w : Nat) => w ≤ 64 ∧ w ≤ wd x) (fun (w : Nat) => 64 - w) (fun (w : Nat) => [(2, .int (nI w)), (0, .long x)]) 0 (⟨by omega, Nat.zero_le _⟩) (lv_sub hl [0, 1] rfl) (fun w ls hI hl ih2 => ?_)
  have hl : lv_has ls 3 [(2, .int (nI w)), (0, .long x)] := hl
  obtain ⟨hw1, hw2⟩ := hI
  refine lv_iload_n E.1 E.2.1 dX0_widthOf_2 rfl (lv_at hl 0 rfl) ?_
  refine lv_bipush (v := nI 64) E.1 E.2.1 dX0_widthOf_3 rfl ?_
  refine n_icmp_ge (tgt := 22) E dX0_widthOf_5 rfl (by omega) (by omega) (fun h5 => ?_) (fun h5 => ?_)
  · skip
    refine lv_iload_n E.1 E.2.1 dX0_widthOf_22 rfl (lv_at hl 0 rfl) ?_
    exact e_i E hr hlk (by have h64 := wd_le64 x; rw [show wd x = w by omega]) dX0_widthOf_23
  · skip
    refine lv_lload_n E.1 E.2.1 dX0_widthOf_8 rfl (lv_at hl 1 rfl) ?_
    refine lv_iload_n E.1 E.2.1 dX0_widthOf_9 rfl (lv_at hl 0 rfl) ?_
    refine lv_lushr E.1 E.2.1 dX0_widthOf_10 rfl ?_
    refine lv_lconst (v := 0) E.1 E.2.1 dX0_widthOf_11 rfl ?_
    refine l_if_eq (tgt := 22) E dX0_widthOf_12 dX0_widthOf_13 rfl (fun h12 => ?_) (fun h12 => ?_)
    · skip
      refine lv_iload_n E.1 E.2.1 dX0_widthOf_22 rfl (lv_at hl 0 rfl) ?_
      exact e_i E hr hlk (by have h64 := wd_le64 x; have hs := (wd_sh x h5).mp h12; rw [show wd x = w by omega]) dX0_widthOf_23
    · skip
      refine lv_iinc (k := 0) (v := nI (w + 1)) (lv' := [(2, .int (nI (w + 1))), (0, .long x)]) E.1 E.2.1 dX0_widthOf_16 hl rfl (inc1 _) (by decide) rfl (fun ls hl => ?_)
      refine lv_goto (tgt := 2) E.1 E.2.1 dX0_widthOf_19 rfl ?_
      exact ih2 (w + 1) _ (⟨by omega, Nat.not_le.mp (fun q => h12 ((wd_sh x h5).mpr q))⟩) (by omega) (lv_sub hl [0, 1] rfl)
set_option maxHeartbeats 4000000 in
set_option maxRecDepth 100000 in
theorem cX_stoodBefore (l : Launch) (D : va_G) (ad : Nat → Nat) (ca : Nat → ClassId) (T : Nat → Nat → Int64) (n : Nat) (kc ko : Nat → Nat) (kv : Nat → Int64) (k : Nat) (lo hi : Nat → Int64) (bw bb pk : Nat → Nat) (b c a : Nat) (hb0 : b < 8) (hc0 : c < 4) (ha0 : a < 16) : Met l yX0_stoodBefore (wA yX0_stoodBefore cX0_stoodBefore 4 (some .boolean)) (rN 0) (va_Pc [.ref (ad 0), .int (nI (c * 128 + 16 * b)), .int (nI (c * 128 + 16 * b + a))] (pW D c2 (tX ca) (wX ad ca T n kc ko kv k lo hi bw bb pk))) (vp_Si (fun z => z = bI (sb (xb T b c) a))) 0 0 (fun _ => False) := by
  refine met_of RX0 rfl (by decide) (Nat.le_of_ble_eq_true rfl) (fun p e s m below meth cd ls E hr hlk _ hB hl => ?_)
  obtain ⟨hP, hK⟩ := hB
  have hl : lv_has ls 4 [(0, .ref (ad 0)), (1, .int (nI (c * 128 + 16 * b))), (2, .int (nI (c * 128 + 16 * b + a)))] := hl
  refine lv_iload_n E.1 E.2.1 dX0_stoodBefore_0 rfl (lv_at hl 1 rfl) ?_
  refine lv_istore_n (lv' := [(3, .int (nI (c * 128 + 16 * b))), (0, .ref (ad 0)), (1, .int (nI (c * 128 + 16 * b))), (2, .int (nI (c * 128 + 16 * b + a)))]) E.1 E.2.1 dX0_stoodBefore_1 rfl hl (by decide) rfl (fun ls hl => ?_)
  refine w_lp1 (fun (j : Nat) => j ≤ a ∧ al (fun i => !decide (xb T b c i = xb T b c a)) j = true) (fun (j : Nat) => a - j) (fun (j : Nat) => [(3, .int (nI (c * 128 + 16 * b + j))), (0, .ref (ad 0)), (1, .int (nI (c * 128 + 16 * b))), (2, .int (nI (c * 128 + 16 * b + a)))]) 0 (⟨Nat.zero_le _, rfl⟩) (lv_sub hl [0, 1, 2, 3] rfl) (fun j ls hI hl ih2 => ?_)
  have hl : lv_has ls 4 [(3, .int (nI (c * 128 + 16 * b + j))), (0, .ref (ad 0)), (1, .int (nI (c * 128 + 16 * b))), (2, .int (nI (c * 128 + 16 * b + a)))] := hl
  obtain ⟨hj, hc⟩ := hI
  refine lv_iload_n E.1 E.2.1 dX0_stoodBefore_2 rfl (lv_at hl 0 rfl) ?_
  refine lv_iload_n E.1 E.2.1 dX0_stoodBefore_3 rfl (lv_at hl 3 rfl) ?_
  refine n_icmp_ge (tgt := 31) E dX0_stoodBefore_4 rfl (by omega) (by omega) (fun h4 => ?_) (fun h4 => ?_)
  · skip
    refine lv_iconst (v := nI 0) E.1 E.2.1 dX0_stoodBefore_31 rfl ?_
    exact e_z E hr hlk (show _ = _ from congrArg bI (show false = _ from by rw [sb, show a = j by omega]; rw [show a = j by omega] at hc; rw [hc]; rfl)) dX0_stoodBefore_32
  · skip
    refine lv_aload_n E.1 E.2.1 dX0_stoodBefore_7 rfl (lv_at hl 1 rfl) ?_
    refine n_get E inX hK hP 0 rfl rfl 0 (by decide) flX_9 rfl rfl dX0_stoodBefore_8 ?_
    refine lv_iload_n E.1 E.2.1 dX0_stoodBefore_11 rfl (lv_at hl 0 rfl) ?_
    refine n_cald E hK hP 1 0 rfl rfl (16 * b + j) c (by omega) (by omega) (by omega) dX0_stoodBefore_12 ?_
    refine lv_aload_n E.1 E.2.1 dX0_stoodBefore_13 rfl (lv_at hl 1 rfl) ?_
    refine n_get E inX hK hP 0 rfl rfl 0 (by decide) flX_9 rfl rfl dX0_stoodBefore_14 ?_
    refine lv_iload_n E.1 E.2.1 dX0_stoodBefore_17 rfl (lv_at hl 3 rfl) ?_
    refine n_cald E hK hP 1 0 rfl rfl (16 * b + a) c (by omega) (by omega) (by omega) dX0_stoodBefore_18 ?_
    refine l_if_ne (tgt := 25) E dX0_stoodBefore_19 dX0_stoodBefore_20 rfl (fun h19 => ?_) (fun h19 => ?_)
    · skip
      refine lv_iinc (k := 0) (v := nI (c * 128 + 16 * b + j + 1)) (lv' := [(3, .int (nI (c * 128 + 16 * b + j + 1))), (0, .ref (ad 0)), (1, .int (nI (c * 128 + 16 * b))), (2, .int (nI (c * 128 + 16 * b + a)))]) E.1 E.2.1 dX0_stoodBefore_25 hl rfl (inc1 _) (by decide) rfl (fun ls hl => ?_)
      refine lv_goto (tgt := 2) E.1 E.2.1 dX0_stoodBefore_28 rfl ?_
      exact ih2 (j + 1) _ (⟨by omega, al_s hc (nd_f h19)⟩) (by omega) (lv_sub hl [0, 1, 2, 3] rfl)
    · skip
      refine lv_iconst (v := nI 1) E.1 E.2.1 dX0_stoodBefore_23 rfl ?_
      exact e_z E hr hlk (show _ = _ from congrArg bI (show true = _ from by rw [sb, al_false (j := j) (by omega) (nd_t h19)]; rfl)) dX0_stoodBefore_24
set_option maxHeartbeats 4000000 in
set_option maxRecDepth 100000 in
theorem cX_differentCells (l : Launch) (D : va_G) (ad : Nat → Nat) (ca : Nat → ClassId) (T : Nat → Nat → Int64) (n : Nat) (kc ko : Nat → Nat) (kv : Nat → Int64) (k : Nat) (lo hi : Nat → Int64) (bw bb pk : Nat → Nat) (b c : Nat) (hb0 : b < 8) (hc0 : c < 4) : Met l yX0_differentCells (wA yX0_differentCells cX0_differentCells 4 (some .int)) (rN 1) (va_Pc [.ref (ad 0), .int (nI (c * 128 + 16 * b))] (pW D c2 (tX ca) (wX ad ca T n kc ko kv k lo hi bw bb pk))) (vp_Si (fun z => z = nI (wds (xb T b c)))) 0 0 (fun _ => False) := by
  refine met_of RX0 rfl (by decide) (Nat.le_of_ble_eq_true rfl) (fun p e s m below meth cd ls E hr hlk _ hB hl => ?_)
  obtain ⟨hP, hK⟩ := hB
  have hl : lv_has ls 4 [(0, .ref (ad 0)), (1, .int (nI (c * 128 + 16 * b)))] := hl
  refine lv_iconst (v := nI 0) E.1 E.2.1 dX0_differentCells_0 rfl ?_
  refine lv_istore_n (lv' := [(2, .int (nI 0)), (0, .ref (ad 0)), (1, .int (nI (c * 128 + 16 * b)))]) E.1 E.2.1 dX0_differentCells_1 rfl hl (by decide) rfl (fun ls hl => ?_)
  refine lv_iload_n E.1 E.2.1 dX0_differentCells_2 rfl (lv_at hl 2 rfl) ?_
  refine lv_istore_n (lv' := [(3, .int (nI (c * 128 + 16 * b))), (2, .int (nI 0)), (0, .ref (ad 0)), (1, .int (nI (c * 128 + 16 * b)))]) E.1 E.2.1 dX0_differentCells_3 rfl hl (by decide) rfl (fun ls hl => ?_)
  refine w_lp1 (fun (j : Nat) => j ≤ 16) (fun (j : Nat) => 16 - j) (fun (j : Nat) => [(3, .int (nI (c * 128 + 16 * b + j))), (2, .int (nI (ct (fun j => !sb (xb T b c) j) j))), (0, .ref (ad 0)), (1, .int (nI (c * 128 + 16 * b)))]) 0 (Nat.zero_le _) (lv_sub hl [0, 1, 2, 3] rfl) (fun j ls hI hl ih4 => ?_)
  have hl : lv_has ls 4 [(3, .int (nI (c * 128 + 16 * b + j))), (2, .int (nI (ct (fun j => !sb (xb T b c) j) j))), (0, .ref (ad 0)), (1, .int (nI (c * 128 + 16 * b)))] := hl
  refine lv_iload_n E.1 E.2.1 dX0_differentCells_4 rfl (lv_at hl 0 rfl) ?_
  refine lv_iload_n E.1 E.2.1 dX0_differentCells_5 rfl (lv_at hl 3 rfl) ?_
  refine lv_bipush (v := nI 16) E.1 E.2.1 dX0_differentCells_6 rfl ?_
  refine n_iadd E dX0_differentCells_8 ?_
  refine n_icmp_ge (tgt := 30) E dX0_differentCells_9 rfl (by omega) (by omega) (fun h9 => ?_) (fun h9 => ?_)
  · skip
    refine lv_iload_n E.1 E.2.1 dX0_differentCells_30 rfl (lv_at hl 1 rfl) ?_
    exact e_i E hr hlk (by rw [wds, show 16 = j by omega]) dX0_differentCells_31
  · skip
    have hq := ct_le (fun j => !sb (xb T b c) j) j
    refine lv_aload_n E.1 E.2.1 dX0_differentCells_12 rfl (lv_at hl 2 rfl) ?_
    refine lv_iload_n E.1 E.2.1 dX0_differentCells_13 rfl (lv_at hl 3 rfl) ?_
    refine lv_iload_n E.1 E.2.1 dX0_differentCells_14 rfl (lv_at hl 0 rfl) ?_
    refine cV_i E (As := [.int (nI (c * 128 + 16 * b)), .int (nI (c * 128 + 16 * b + j))]) (rest := []) (cX_stoodBefore l D ad ca T n kc ko kv k lo hi bw bb pk b c j (by omega) (by omega) (by omega)) kX_186 hK hP 0 rfl rfl rfl rfl ⟨Nat.le_of_ble_eq_true rfl, Nat.le_of_ble_eq_true rfl⟩ rfl hl.1 rfl (Nat.le_of_ble_eq_true rfl) dX0_differentCells_15 ⟨Nat.zero_le _, Nat.zero_le _⟩ ?_
    refine b_if_ne (tgt := 24) E dX0_differentCells_18 rfl (fun h18 => ?_) (fun h18 => ?_)
    · skip
      refine lv_iinc (k := 0) (v := nI (c * 128 + 16 * b + j + 1)) (lv' := [(3, .int (nI (c * 128 + 16 * b + j + 1))), (2, .int (nI (ct (fun j => !sb (xb T b c) j) j))), (0, .ref (ad 0)), (1, .int (nI (c * 128 + 16 * b)))]) E.1 E.2.1 dX0_differentCells_24 hl rfl (inc1 _) (by decide) rfl (fun ls hl => ?_)
      refine lv_goto (tgt := 4) E.1 E.2.1 dX0_differentCells_27 rfl ?_
      rw [← ct_f (p := fun j => !sb (xb T b c) j) (by rw [h18]; rfl)] at hl
      exact ih4 (j + 1) _ (by omega) (by omega) (lv_sub hl [0, 1, 2, 3] rfl)
    · skip
      refine lv_iinc (k := 1) (v := nI (ct (fun j => !sb (xb T b c) j) j + 1)) (lv' := [(2, .int (nI (ct (fun j => !sb (xb T b c) j) j + 1))), (3, .int (nI (c * 128 + 16 * b + j))), (0, .ref (ad 0)), (1, .int (nI (c * 128 + 16 * b)))]) E.1 E.2.1 dX0_differentCells_21 hl rfl (inc1 _) (by decide) rfl (fun ls hl => ?_)
      refine lv_iinc (k := 1) (v := nI (c * 128 + 16 * b + j + 1)) (lv' := [(3, .int (nI (c * 128 + 16 * b + j + 1))), (2, .int (nI (ct (fun j => !sb (xb T b c) j) j + 1))), (0, .ref (ad 0)), (1, .int (nI (c * 128 + 16 * b)))]) E.1 E.2.1 dX0_differentCells_24 hl rfl (inc1 _) (by decide) rfl (fun ls hl => ?_)
      refine lv_goto (tgt := 4) E.1 E.2.1 dX0_differentCells_27 rfl ?_
      rw [← ct_t (p := fun j => !sb (xb T b c) j) (by rw [h18]; rfl)] at hl
      exact ih4 (j + 1) _ (by omega) (by omega) (lv_sub hl [0, 1, 2, 3] rfl)
set_option maxHeartbeats 4000000 in
set_option maxRecDepth 100000 in
theorem cX_runsOfCells (l : Launch) (D : va_G) (ad : Nat → Nat) (ca : Nat → ClassId) (T : Nat → Nat → Int64) (n : Nat) (kc ko : Nat → Nat) (kv : Nat → Int64) (k : Nat) (lo hi : Nat → Int64) (bw bb pk : Nat → Nat) (b c : Nat) (hb0 : b < 8) (hc0 : c < 4) : Met l yX0_runsOfCells (wA yX0_runsOfCells cX0_runsOfCells 4 (some .int)) (rN 0) (va_Pc [.ref (ad 0), .int (nI (c * 128 + 16 * b))] (pW D c2 (tX ca) (wX ad ca T n kc ko kv k lo hi bw bb pk))) (vp_Si (fun z => z = nI (rns (xb T b c)))) 0 0 (fun _ => False) := by
  refine met_of RX0 rfl (by decide) (Nat.le_of_ble_eq_true rfl) (fun p e s m below meth cd ls E hr hlk _ hB hl => ?_)
  obtain ⟨hP, hK⟩ := hB
  have hl : lv_has ls 4 [(0, .ref (ad 0)), (1, .int (nI (c * 128 + 16 * b)))] := hl
  refine lv_iconst (v := nI 1) E.1 E.2.1 dX0_runsOfCells_0 rfl ?_
  refine lv_istore_n (lv' := [(2, .int (nI 1)), (0, .ref (ad 0)), (1, .int (nI (c * 128 + 16 * b)))]) E.1 E.2.1 dX0_runsOfCells_1 rfl hl (by decide) rfl (fun ls hl => ?_)
  refine lv_iload_n E.1 E.2.1 dX0_runsOfCells_2 rfl (lv_at hl 2 rfl) ?_
  refine lv_iconst (v := nI 1) E.1 E.2.1 dX0_runsOfCells_3 rfl ?_
  refine n_iadd E dX0_runsOfCells_4 ?_
  refine lv_istore_n (lv' := [(3, .int (nI (c * 128 + 16 * b + 1))), (2, .int (nI 1)), (0, .ref (ad 0)), (1, .int (nI (c * 128 + 16 * b)))]) E.1 E.2.1 dX0_runsOfCells_5 rfl hl (by decide) rfl (fun ls hl => ?_)
  refine w_lp1 (fun (j : Nat) => j ≤ 15) (fun (j : Nat) => 15 - j) (fun (j : Nat) => [(3, .int (nI (c * 128 + 16 * b + 1 + j))), (2, .int (nI (1 + ct (fun j => !decide (xb T b c (j + 1) = xb T b c j)) j))), (0, .ref (ad 0)), (1, .int (nI (c * 128 + 16 * b)))]) 0 (Nat.zero_le _) (lv_sub hl [0, 1, 2, 3] rfl) (fun j ls hI hl ih6 => ?_)
  have hl : lv_has ls 4 [(3, .int (nI (c * 128 + 16 * b + 1 + j))), (2, .int (nI (1 + ct (fun j => !decide (xb T b c (j + 1) = xb T b c j)) j))), (0, .ref (ad 0)), (1, .int (nI (c * 128 + 16 * b)))] := hl
  refine lv_iload_n E.1 E.2.1 dX0_runsOfCells_6 rfl (lv_at hl 0 rfl) ?_
  refine lv_iload_n E.1 E.2.1 dX0_runsOfCells_7 rfl (lv_at hl 3 rfl) ?_
  refine lv_bipush (v := nI 16) E.1 E.2.1 dX0_runsOfCells_8 rfl ?_
  refine n_iadd E dX0_runsOfCells_10 ?_
  refine n_icmp_ge (tgt := 41) E dX0_runsOfCells_11 rfl (by omega) (by omega) (fun h11 => ?_) (fun h11 => ?_)
  · skip
    refine lv_iload_n E.1 E.2.1 dX0_runsOfCells_41 rfl (lv_at hl 1 rfl) ?_
    exact e_i E hr hlk (by rw [rns, show 15 = j by omega]) dX0_runsOfCells_42
  · skip
    have hq := ct_le (fun j => !decide (xb T b c (j + 1) = xb T b c j)) j
    refine lv_aload_n E.1 E.2.1 dX0_runsOfCells_14 rfl (lv_at hl 2 rfl) ?_
    refine n_get E inX hK hP 0 rfl rfl 0 (by decide) flX_9 rfl rfl dX0_runsOfCells_15 ?_
    refine lv_iload_n E.1 E.2.1 dX0_runsOfCells_18 rfl (lv_at hl 0 rfl) ?_
    refine n_cald E hK hP 1 0 rfl rfl (16 * b + (j + 1)) c (by omega) (by omega) (by omega) dX0_runsOfCells_19 ?_
    refine lv_aload_n E.1 E.2.1 dX0_runsOfCells_20 rfl (lv_at hl 2 rfl) ?_
    refine n_get E inX hK hP 0 rfl rfl 0 (by decide) flX_9 rfl rfl dX0_runsOfCells_21 ?_
    refine lv_iload_n E.1 E.2.1 dX0_runsOfCells_24 rfl (lv_at hl 0 rfl) ?_
    refine lv_iconst (v := nI 1) E.1 E.2.1 dX0_runsOfCells_25 rfl ?_
    refine n_isub E (by omega) dX0_runsOfCells_26 ?_
    refine n_cald E hK hP 1 0 rfl rfl (16 * b + j) c (by omega) (by omega) (by omega) dX0_runsOfCells_27 ?_
    refine l_if_eq (tgt := 35) E dX0_runsOfCells_28 dX0_runsOfCells_29 rfl (fun h28 => ?_) (fun h28 => ?_)
    · skip
      refine lv_iinc (k := 0) (v := nI (c * 128 + 16 * b + 1 + j + 1)) (lv' := [(3, .int (nI (c * 128 + 16 * b + 1 + j + 1))), (2, .int (nI (1 + ct (fun j => !decide (xb T b c (j + 1) = xb T b c j)) j))), (0, .ref (ad 0)), (1, .int (nI (c * 128 + 16 * b)))]) E.1 E.2.1 dX0_runsOfCells_35 hl rfl (inc1 _) (by decide) rfl (fun ls hl => ?_)
      refine lv_goto (tgt := 6) E.1 E.2.1 dX0_runsOfCells_38 rfl ?_
      rw [← ct_f (p := fun j => !decide (xb T b c (j + 1) = xb T b c j)) (nd_t h28)] at hl
      exact ih6 (j + 1) _ (by omega) (by omega) (lv_sub hl [0, 1, 2, 3] rfl)
    · skip
      refine lv_iinc (k := 1) (v := nI (1 + ct (fun j => !decide (xb T b c (j + 1) = xb T b c j)) j + 1)) (lv' := [(2, .int (nI (1 + ct (fun j => !decide (xb T b c (j + 1) = xb T b c j)) j + 1))), (3, .int (nI (c * 128 + 16 * b + 1 + j))), (0, .ref (ad 0)), (1, .int (nI (c * 128 + 16 * b)))]) E.1 E.2.1 dX0_runsOfCells_32 hl rfl (inc1 _) (by decide) rfl (fun ls hl => ?_)
      refine lv_iinc (k := 1) (v := nI (c * 128 + 16 * b + 1 + j + 1)) (lv' := [(3, .int (nI (c * 128 + 16 * b + 1 + j + 1))), (2, .int (nI (1 + ct (fun j => !decide (xb T b c (j + 1) = xb T b c j)) j + 1))), (0, .ref (ad 0)), (1, .int (nI (c * 128 + 16 * b)))]) E.1 E.2.1 dX0_runsOfCells_35 hl rfl (inc1 _) (by decide) rfl (fun ls hl => ?_)
      refine lv_goto (tgt := 6) E.1 E.2.1 dX0_runsOfCells_38 rfl ?_
      rw [Nat.add_assoc 1, ← ct_t (p := fun j => !decide (xb T b c (j + 1) = xb T b c j)) (nd_f h28)] at hl
      exact ih6 (j + 1) _ (by omega) (by omega) (lv_sub hl [0, 1, 2, 3] rfl)
set_option maxHeartbeats 4000000 in
set_option maxRecDepth 100000 in
theorem cX_noteBounds (l : Launch) (D : va_G) (ad : Nat → Nat) (ca : Nat → ClassId) (T : Nat → Nat → Int64) (n : Nat) (kc ko : Nat → Nat) (kv : Nat → Int64) (k : Nat) (lo hi : Nat → Int64) (bw bb pk : Nat → Nat) (b c : Nat) (hN : inj ad 10) (hb0 : b < 8) (hc0 : c < 4) : Met l yX0_noteBounds (wA yX0_noteBounds cX0_noteBounds 8 none) (rN 1) (va_Pc [.ref (ad 0), .int (nI (c * 128 + 16 * b)), .int (nI (b * 4 + c))] (pW D c2 (tX ca) (wX ad ca T n kc ko kv k lo hi bw bb pk))) (qV (fun (_ : Unit) => True) D c2 (fun _ => wX ad ca T n kc ko kv k (fS lo (b * 4 + c) (mn (xb T b c) 15)) (fS hi (b * 4 + c) (mx (xb T b c) 15)) bw bb pk) (fA ad 10)) 0 0 (fA ad 10) := by
  refine met_of RX0 rfl (by decide) (Nat.le_of_ble_eq_true rfl) (fun p e s m below meth cd ls E hr hlk _ hB hl => ?_)
  obtain ⟨hP, hK⟩ := hB
  have hl : lv_has ls 8 [(0, .ref (ad 0)), (1, .int (nI (c * 128 + 16 * b))), (2, .int (nI (b * 4 + c)))] := hl
  have hS : va_S (fA ad 10) s.heap s.heap [] := va_S.rf
  refine lv_aload_n E.1 E.2.1 dX0_noteBounds_0 rfl (lv_at hl 0 rfl) ?_
  refine n_get E inX hK hP 0 rfl rfl 0 (by decide) flX_9 rfl rfl dX0_noteBounds_1 ?_
  refine lv_iload_n E.1 E.2.1 dX0_noteBounds_4 rfl (lv_at hl 1 rfl) ?_
  refine n_cald E hK hP 1 0 rfl rfl (16 * b + 0) c (by omega) (by omega) (by omega) dX0_noteBounds_5 ?_
  refine lv_lstore_n (lv' := [(3, .long (T (16 * b + 0) c)), (0, .ref (ad 0)), (1, .int (nI (c * 128 + 16 * b))), (2, .int (nI (b * 4 + c)))]) E.1 E.2.1 dX0_noteBounds_6 rfl hl (by decide) rfl (fun ls hl => ?_)
  refine lv_aload_n E.1 E.2.1 dX0_noteBounds_7 rfl (lv_at hl 1 rfl) ?_
  refine n_get E inX hK hP 0 rfl rfl 0 (by decide) flX_9 rfl rfl dX0_noteBounds_8 ?_
  refine lv_iload_n E.1 E.2.1 dX0_noteBounds_11 rfl (lv_at hl 2 rfl) ?_
  refine n_cald E hK hP 1 0 rfl rfl (16 * b + 0) c (by omega) (by omega) (by omega) dX0_noteBounds_12 ?_
  refine lv_lstore (lv' := [(5, .long (T (16 * b + 0) c)), (3, .long (T (16 * b + 0) c)), (0, .ref (ad 0)), (1, .int (nI (c * 128 + 16 * b))), (2, .int (nI (b * 4 + c)))]) E.1 E.2.1 dX0_noteBounds_13 hl (by decide) rfl (fun ls hl => ?_)
  refine lv_iload_n E.1 E.2.1 dX0_noteBounds_15 rfl (lv_at hl 3 rfl) ?_
  refine lv_iconst (v := nI 1) E.1 E.2.1 dX0_noteBounds_16 rfl ?_
  refine n_iadd E dX0_noteBounds_17 ?_
  refine lv_istore (lv' := [(7, .int (nI (c * 128 + 16 * b + 1))), (5, .long (T (16 * b + 0) c)), (3, .long (T (16 * b + 0) c)), (0, .ref (ad 0)), (1, .int (nI (c * 128 + 16 * b))), (2, .int (nI (b * 4 + c)))]) E.1 E.2.1 dX0_noteBounds_18 hl (by decide) rfl (fun ls hl => ?_)
  refine w_lp1 (fun (j : Nat) => j ≤ 15) (fun (j : Nat) => 15 - j) (fun (j : Nat) => [(7, .int (nI (c * 128 + 16 * b + 1 + j))), (5, .long (mx (xb T b c) j)), (3, .long (mn (xb T b c) j)), (0, .ref (ad 0)), (1, .int (nI (c * 128 + 16 * b))), (2, .int (nI (b * 4 + c)))]) 0 (Nat.zero_le _) (lv_sub hl [0, 1, 2, 3, 4, 5] rfl) (fun j ls hI hl ih20 => ?_)
  have hl : lv_has ls 8 [(7, .int (nI (c * 128 + 16 * b + 1 + j))), (5, .long (mx (xb T b c) j)), (3, .long (mn (xb T b c) j)), (0, .ref (ad 0)), (1, .int (nI (c * 128 + 16 * b))), (2, .int (nI (b * 4 + c)))] := hl
  refine lv_iload E.1 E.2.1 dX0_noteBounds_20 (lv_at hl 0 rfl) ?_
  refine lv_iload_n E.1 E.2.1 dX0_noteBounds_22 rfl (lv_at hl 4 rfl) ?_
  refine lv_bipush (v := nI 16) E.1 E.2.1 dX0_noteBounds_23 rfl ?_
  refine n_iadd E dX0_noteBounds_25 ?_
  refine n_icmp_ge (tgt := 61) E dX0_noteBounds_26 rfl (by omega) (by omega) (fun h26 => ?_) (fun h26 => ?_)
  · skip
    refine lv_aload_n E.1 E.2.1 dX0_noteBounds_61 rfl (lv_at hl 3 rfl) ?_
    refine n_get E inX hK hP 0 rfl rfl 6 (by decide) flX_30 rfl rfl dX0_noteBounds_62 ?_
    refine lv_iload_n E.1 E.2.1 dX0_noteBounds_65 rfl (lv_at hl 5 rfl) ?_
    refine lv_lload_n E.1 E.2.1 dX0_noteBounds_66 rfl (lv_at hl 2 rfl) ?_
    refine n_last E hK hP (dW hN rfl) hS 5 4 rfl rfl (by decide) (by omega) dX0_noteBounds_67 (fun H locs hP hS => ?_)
    have hP : va_P D c2 (wX ad ca T n kc ko kv k (fS lo (b * 4 + c) (mn (xb T b c) j)) hi bw bb pk) H := hP
    refine lv_aload_n E.1 E.2.1 dX0_noteBounds_68 rfl (lv_at hl 3 rfl) ?_
    refine n_get E inX hK hP 0 rfl rfl 7 (by decide) flX_33 rfl rfl dX0_noteBounds_69 ?_
    refine lv_iload_n E.1 E.2.1 dX0_noteBounds_72 rfl (lv_at hl 5 rfl) ?_
    refine lv_lload E.1 E.2.1 dX0_noteBounds_73 (lv_at hl 1 rfl) ?_
    refine n_last E hK hP (dW hN rfl) hS 6 5 rfl rfl (by decide) (by omega) dX0_noteBounds_75 (fun H locs hP hS => ?_)
    have hP : va_P D c2 (wX ad ca T n kc ko kv k (fS lo (b * 4 + c) (mn (xb T b c) j)) (fS hi (b * 4 + c) (mx (xb T b c) j)) bw bb pk) H := hP
    exact e_wv E hr hlk hS () trivial (by rw [show j = 15 by omega] at hP; exact hP) dX0_noteBounds_76
  · skip
    refine lv_lload_n E.1 E.2.1 dX0_noteBounds_29 rfl (lv_at hl 2 rfl) ?_
    refine lv_aload_n E.1 E.2.1 dX0_noteBounds_30 rfl (lv_at hl 3 rfl) ?_
    refine n_get E inX hK hP 0 rfl rfl 0 (by decide) flX_9 rfl rfl dX0_noteBounds_31 ?_
    refine lv_iload E.1 E.2.1 dX0_noteBounds_34 (lv_at hl 0 rfl) ?_
    refine n_cald E hK hP 1 0 rfl rfl (16 * b + (j + 1)) c (by omega) (by omega) (by omega) dX0_noteBounds_36 ?_
    refine va_mmin_long E.1 E.2.1 (E.2.2.1.trans hl.1.symm) E.2.2.2.1 (E.2.2.2.2 _ ml_l) (E.2.2.2.2 _ ml_s) (E.2.2.2.2 _ mt_i) (E.2.2.2.2 _ ml_c) (Nat.le_of_ble_eq_true rfl) (Nat.le_of_ble_eq_true rfl) (Nat.zero_le _) (Nat.zero_le _) dX0_noteBounds_37 ?_
    refine lv_lstore_n (lv' := [(3, .long (if T (16 * b + (j + 1)) c < mn (xb T b c) j then T (16 * b + (j + 1)) c else mn (xb T b c) j)), (7, .int (nI (c * 128 + 16 * b + 1 + j))), (5, .long (mx (xb T b c) j)), (0, .ref (ad 0)), (1, .int (nI (c * 128 + 16 * b))), (2, .int (nI (b * 4 + c)))]) E.1 E.2.1 dX0_noteBounds_40 rfl hl (by decide) rfl (fun ls hl => ?_)
    refine lv_lload E.1 E.2.1 dX0_noteBounds_41 (lv_at hl 2 rfl) ?_
    refine lv_aload_n E.1 E.2.1 dX0_noteBounds_43 rfl (lv_at hl 3 rfl) ?_
    refine n_get E inX hK hP 0 rfl rfl 0 (by decide) flX_9 rfl rfl dX0_noteBounds_44 ?_
    refine lv_iload E.1 E.2.1 dX0_noteBounds_47 (lv_at hl 1 rfl) ?_
    refine n_cald E hK hP 1 0 rfl rfl (16 * b + (j + 1)) c (by omega) (by omega) (by omega) dX0_noteBounds_49 ?_
    refine va_mmax_long E.1 E.2.1 (E.2.2.1.trans hl.1.symm) E.2.2.2.1 (E.2.2.2.2 _ mxl_l) (E.2.2.2.2 _ mxl_s) (E.2.2.2.2 _ mt_i) (E.2.2.2.2 _ mxl_c) (Nat.le_of_ble_eq_true rfl) (Nat.le_of_ble_eq_true rfl) (Nat.zero_le _) (Nat.zero_le _) dX0_noteBounds_50 ?_
    refine lv_lstore (lv' := [(5, .long (if T (16 * b + (j + 1)) c < mx (xb T b c) j then mx (xb T b c) j else T (16 * b + (j + 1)) c)), (3, .long (if T (16 * b + (j + 1)) c < mn (xb T b c) j then T (16 * b + (j + 1)) c else mn (xb T b c) j)), (7, .int (nI (c * 128 + 16 * b + 1 + j))), (0, .ref (ad 0)), (1, .int (nI (c * 128 + 16 * b))), (2, .int (nI (b * 4 + c)))]) E.1 E.2.1 dX0_noteBounds_53 hl (by decide) rfl (fun ls hl => ?_)
    refine lv_iinc (k := 2) (v := nI (c * 128 + 16 * b + 1 + j + 1)) (lv' := [(7, .int (nI (c * 128 + 16 * b + 1 + j + 1))), (5, .long (if T (16 * b + (j + 1)) c < mx (xb T b c) j then mx (xb T b c) j else T (16 * b + (j + 1)) c)), (3, .long (if T (16 * b + (j + 1)) c < mn (xb T b c) j then T (16 * b + (j + 1)) c else mn (xb T b c) j)), (0, .ref (ad 0)), (1, .int (nI (c * 128 + 16 * b))), (2, .int (nI (b * 4 + c)))]) E.1 E.2.1 dX0_noteBounds_55 hl rfl (inc1 _) (by decide) rfl (fun ls hl => ?_)
    refine lv_goto (tgt := 20) E.1 E.2.1 dX0_noteBounds_58 rfl ?_
    exact ih20 (j + 1) _ (by omega) (by omega) (lv_sub hl [0, 1, 2, 3, 4, 5] rfl)
set_option maxHeartbeats 4000000 in
set_option maxRecDepth 100000 in
theorem cX_offerWay (l : Launch) (D : va_G) (ad : Nat → Nat) (ca : Nat → ClassId) (T : Nat → Nat → Int64) (n : Nat) (kc ko : Nat → Nat) (kv : Nat → Int64) (k : Nat) (lo hi : Nat → Int64) (bw bb pk : Nat → Nat) (p0 : Nat) (a : Nat × Nat) (w z : Nat) (hN : inj ad 10) (hp0 : p0 < 32) (hz : z < 100000) (ha : a.2 < 100000) : Met l yX0_offerWay (wA yX0_offerWay cX0_offerWay 4 none) (rN 0) (va_Pc [.ref (ad 0), .int (nI p0), .int (nI w), .int (nI z)] (pW D c2 (tX ca) (wX ad ca T n kc ko kv k lo hi (fS bw p0 a.1) (fS bb p0 a.2) pk))) (qV (fun (_ : Unit) => True) D c2 (fun _ => wX ad ca T n kc ko kv k lo hi (fS bw p0 (stp a w z).1) (fS bb p0 (stp a w z).2) pk) (fA ad 10)) 0 0 (fA ad 10) := by
  refine met_of RX0 rfl (by decide) (Nat.le_of_ble_eq_true rfl) (fun p e s m below meth cd ls E hr hlk _ hB hl => ?_)
  obtain ⟨hP, hK⟩ := hB
  have hl : lv_has ls 4 [(0, .ref (ad 0)), (1, .int (nI p0)), (2, .int (nI w)), (3, .int (nI z))] := hl
  have hS : va_S (fA ad 10) s.heap s.heap [] := va_S.rf
  refine lv_iload_n E.1 E.2.1 dX0_offerWay_0 rfl (lv_at hl 3 rfl) ?_
  refine lv_aload_n E.1 E.2.1 dX0_offerWay_1 rfl (lv_at hl 0 rfl) ?_
  refine n_get E inX hK hP 0 rfl rfl 9 (by decide) flX_39 rfl rfl dX0_offerWay_2 ?_
  refine lv_iload_n E.1 E.2.1 dX0_offerWay_5 rfl (lv_at hl 1 rfl) ?_
  have hbb : fS bb p0 a.2 p0 = a.2 := fS_s
  refine n_iald E hK hP 8 7 rfl rfl (by decide) (by omega) dX0_offerWay_6 ?_
  rw [hbb]
  refine n_icmp_ge (tgt := 24) E dX0_offerWay_7 rfl (by omega) (by omega) (fun h7 => ?_) (fun h7 => ?_)
  · skip
    exact e_wv E hr hlk hS () trivial (by rw [stp, if_neg (by omega)]; exact hP) dX0_offerWay_24
  · skip
    refine lv_aload_n E.1 E.2.1 dX0_offerWay_10 rfl (lv_at hl 0 rfl) ?_
    refine n_get E inX hK hP 0 rfl rfl 8 (by decide) flX_36 rfl rfl dX0_offerWay_11 ?_
    refine lv_iload_n E.1 E.2.1 dX0_offerWay_14 rfl (lv_at hl 1 rfl) ?_
    refine lv_iload_n E.1 E.2.1 dX0_offerWay_15 rfl (lv_at hl 2 rfl) ?_
    refine n_iast E hK hP (dW hN rfl) hS 7 6 rfl rfl (by decide) (by omega) dX0_offerWay_16 (fun H locs hP hS => ?_)
    have hP : va_P D c2 (wX ad ca T n kc ko kv k lo hi (fS (fS bw p0 a.1) p0 w) (fS bb p0 a.2) pk) H := hP
    refine lv_aload_n E.1 E.2.1 dX0_offerWay_17 rfl (lv_at hl 0 rfl) ?_
    refine n_get E inX hK hP 0 rfl rfl 9 (by decide) flX_39 rfl rfl dX0_offerWay_18 ?_
    refine lv_iload_n E.1 E.2.1 dX0_offerWay_21 rfl (lv_at hl 1 rfl) ?_
    refine lv_iload_n E.1 E.2.1 dX0_offerWay_22 rfl (lv_at hl 3 rfl) ?_
    refine n_iast E hK hP (dW hN rfl) hS 8 7 rfl rfl (by decide) (by omega) dX0_offerWay_23 (fun H locs hP hS => ?_)
    have hP : va_P D c2 (wX ad ca T n kc ko kv k lo hi (fS (fS bw p0 a.1) p0 w) (fS (fS bb p0 a.2) p0 z) pk) H := hP
    exact e_wv E hr hlk hS () trivial (by rw [stp, if_pos h7]; rw [fS_fS, fS_fS] at hP; exact hP) dX0_offerWay_24
set_option maxHeartbeats 4000000 in
set_option maxRecDepth 100000 in
theorem cX_packColumn (l : Launch) (D : va_G) (ad : Nat → Nat) (ca : Nat → ClassId) (T : Nat → Nat → Int64) (n : Nat) (kc ko : Nat → Nat) (kv : Nat → Int64) (k : Nat) (lo hi : Nat → Int64) (bw bb pk : Nat → Nat) (b c : Nat) (hN : inj ad 10) (hb0 : b < 8) (hc0 : c < 4) : Met l yX0_packColumn (wA yX0_packColumn cX0_packColumn 8 none) (rN 2) (va_Pc [.ref (ad 0), .int (nI b), .int (nI c)] (pW D c2 (tX ca) (wX ad ca T n kc ko kv k lo hi bw bb pk))) (qV (fun (_ : Unit) => True) D c2 (fun _ => wX ad ca T n kc ko kv k (fS lo (b * 4 + c) (mn (xb T b c) 15)) (fS hi (b * 4 + c) (mx (xb T b c) 15)) (fS bw (b * 4 + c) (pck (xb T b c) (cb c)).1) (fS bb (b * 4 + c) (pck (xb T b c) (cb c)).2) pk) (fA ad 10)) 0 0 (fA ad 10) := by
  refine met_of RX0 rfl (by decide) (Nat.le_of_ble_eq_true rfl) (fun p e s m below meth cd ls E hr hlk _ hB hl => ?_)
  obtain ⟨hP, hK⟩ := hB
  have hl : lv_has ls 8 [(0, .ref (ad 0)), (1, .int (nI b)), (2, .int (nI c))] := hl
  have hS : va_S (fA ad 10) s.heap s.heap [] := va_S.rf
  refine lv_iload_n E.1 E.2.1 dX0_packColumn_0 rfl (lv_at hl 1 rfl) ?_
  refine lv_bipush (v := nI 16) E.1 E.2.1 dX0_packColumn_1 rfl ?_
  refine n_imul E dX0_packColumn_3 ?_
  refine lv_iload_n E.1 E.2.1 dX0_packColumn_4 rfl (lv_at hl 2 rfl) ?_
  have e16 : b * 16 = 16 * b := Nat.mul_comm _ _
  rw [e16]
  refine cS_i E (As := [.int (nI (16 * b)), .int (nI c)]) (rest := []) (cX_spot l (16 * b) c) kX_52 rfl rfl ⟨Nat.le_of_ble_eq_true rfl, Nat.le_of_ble_eq_true rfl⟩ rfl hl.1 rfl (Nat.le_of_ble_eq_true rfl) dX0_packColumn_5 ⟨Nat.zero_le _, Nat.zero_le _⟩ ?_
  refine lv_istore_n (lv' := [(3, .int (nI (c * 128 + (16 * b)))), (0, .ref (ad 0)), (1, .int (nI b)), (2, .int (nI c))]) E.1 E.2.1 dX0_packColumn_8 rfl hl (by decide) rfl (fun ls hl => ?_)
  refine lv_iload_n E.1 E.2.1 dX0_packColumn_9 rfl (lv_at hl 2 rfl) ?_
  refine lv_iload_n E.1 E.2.1 dX0_packColumn_10 rfl (lv_at hl 3 rfl) ?_
  refine cS_i E (As := [.int (nI b), .int (nI c)]) (rest := []) (cX_place l b c) kX_123 rfl rfl ⟨Nat.le_of_ble_eq_true rfl, Nat.le_of_ble_eq_true rfl⟩ rfl hl.1 rfl (Nat.le_of_ble_eq_true rfl) dX0_packColumn_11 ⟨Nat.zero_le _, Nat.zero_le _⟩ ?_
  refine lv_istore (lv' := [(4, .int (nI (b * 4 + c))), (3, .int (nI (c * 128 + (16 * b)))), (0, .ref (ad 0)), (1, .int (nI b)), (2, .int (nI c))]) E.1 E.2.1 dX0_packColumn_14 hl (by decide) rfl (fun ls hl => ?_)
  refine lv_iload_n E.1 E.2.1 dX0_packColumn_16 rfl (lv_at hl 4 rfl) ?_
  refine lv_iconst (v := nI 3) E.1 E.2.1 dX0_packColumn_17 rfl ?_
  refine n_icmp_ne (tgt := 26) E dX0_packColumn_18 rfl (by omega) (by omega) (fun h18 => ?_) (fun h18 => ?_)
  · skip
    refine lv_bipush (v := nI 32) E.1 E.2.1 dX0_packColumn_26 rfl ?_
    refine tpi (y := nI (cb c)) (by rw [cb, if_neg h18]) ?_
    refine lv_istore (lv' := [(5, .int (nI (cb c))), (4, .int (nI (b * 4 + c))), (3, .int (nI (c * 128 + (16 * b)))), (0, .ref (ad 0)), (1, .int (nI b)), (2, .int (nI c))]) E.1 E.2.1 dX0_packColumn_28 hl (by decide) rfl (fun ls hl => ?_)
    have hcb := cb_le c
    refine lv_aload_n E.1 E.2.1 dX0_packColumn_30 rfl (lv_at hl 3 rfl) ?_
    refine lv_iload_n E.1 E.2.1 dX0_packColumn_31 rfl (lv_at hl 2 rfl) ?_
    refine lv_iload E.1 E.2.1 dX0_packColumn_32 (lv_at hl 1 rfl) ?_
    refine cV_wv E (As := [.int (nI (c * 128 + (16 * b))), .int (nI (b * 4 + c))]) (rest := []) (cX_noteBounds l D ad ca T n kc ko kv k lo hi bw bb pk b c hN (by omega) (by omega)) kX_162 hK hP hS (fun _ h => h) 0 rfl rfl rfl rfl ⟨Nat.le_of_ble_eq_true rfl, Nat.le_of_ble_eq_true rfl⟩ rfl hl.1 rfl (Nat.le_of_ble_eq_true rfl) dX0_packColumn_34 ⟨Nat.zero_le _, Nat.zero_le _⟩ (fun u34 H locs hp34 hP _ _ hS => ?_)
    have hP : va_P D c2 (wX ad ca T n kc ko kv k (fS lo (b * 4 + c) (mn (xb T b c) 15)) (fS hi (b * 4 + c) (mx (xb T b c) 15)) bw bb pk) H := hP
    refine lv_aload_n E.1 E.2.1 dX0_packColumn_37 rfl (lv_at hl 3 rfl) ?_
    refine lv_iload_n E.1 E.2.1 dX0_packColumn_38 rfl (lv_at hl 2 rfl) ?_
    refine cV_i E (As := [.int (nI (c * 128 + (16 * b)))]) (rest := []) (cX_differentCells l D ad ca T n kc ko kv k (fS lo (b * 4 + c) (mn (xb T b c) 15)) (fS hi (b * 4 + c) (mx (xb T b c) 15)) bw bb pk b c (by omega) (by omega)) kX_165 hK hP 0 rfl rfl rfl rfl ⟨Nat.le_of_ble_eq_true rfl, Nat.le_of_ble_eq_true rfl⟩ rfl hl.1 rfl (Nat.le_of_ble_eq_true rfl) dX0_packColumn_39 ⟨Nat.zero_le _, Nat.zero_le _⟩ ?_
    refine lv_istore (lv' := [(6, .int (nI (wds (xb T b c)))), (5, .int (nI (cb c))), (4, .int (nI (b * 4 + c))), (3, .int (nI (c * 128 + (16 * b)))), (0, .ref (ad 0)), (1, .int (nI b)), (2, .int (nI c))]) E.1 E.2.1 dX0_packColumn_42 hl (by decide) rfl (fun ls hl => ?_)
    refine lv_aload_n E.1 E.2.1 dX0_packColumn_44 rfl (lv_at hl 4 rfl) ?_
    refine n_get E inX hK hP 0 rfl rfl 7 (by decide) flX_33 rfl rfl dX0_packColumn_45 ?_
    refine lv_iload E.1 E.2.1 dX0_packColumn_48 (lv_at hl 2 rfl) ?_
    refine n_lald E hK hP 6 5 rfl rfl (by decide) (by omega) dX0_packColumn_50 ?_
    refine lv_aload_n E.1 E.2.1 dX0_packColumn_51 rfl (lv_at hl 4 rfl) ?_
    refine n_get E inX hK hP 0 rfl rfl 6 (by decide) flX_30 rfl rfl dX0_packColumn_52 ?_
    refine lv_iload E.1 E.2.1 dX0_packColumn_55 (lv_at hl 2 rfl) ?_
    refine n_lald E hK hP 5 4 rfl rfl (by decide) (by omega) dX0_packColumn_57 ?_
    refine lv_lsub E.1 E.2.1 dX0_packColumn_58 ?_
    refine tpl (y := mx (xb T b c) 15 - mn (xb T b c) 15) (by rw [fS_s, fS_s]) ?_
    refine cS_i E (As := [.long (mx (xb T b c) 15 - mn (xb T b c) 15)]) (rest := []) (cX_widthOf l (mx (xb T b c) 15 - mn (xb T b c) 15)) kX_169 rfl rfl ⟨Nat.le_of_ble_eq_true rfl, Nat.le_of_ble_eq_true rfl⟩ rfl hl.1 rfl (Nat.le_of_ble_eq_true rfl) dX0_packColumn_59 ⟨Nat.zero_le _, Nat.zero_le _⟩ ?_
    refine lv_istore (lv' := [(7, .int (nI (wd (mx (xb T b c) 15 - mn (xb T b c) 15)))), (6, .int (nI (wds (xb T b c)))), (5, .int (nI (cb c))), (4, .int (nI (b * 4 + c))), (3, .int (nI (c * 128 + (16 * b)))), (0, .ref (ad 0)), (1, .int (nI b)), (2, .int (nI c))]) E.1 E.2.1 dX0_packColumn_62 hl (by decide) rfl (fun ls hl => ?_)
    refine lv_aload_n E.1 E.2.1 dX0_packColumn_64 rfl (lv_at hl 5 rfl) ?_
    refine n_get E inX hK hP 0 rfl rfl 8 (by decide) flX_36 rfl rfl dX0_packColumn_65 ?_
    refine lv_iload E.1 E.2.1 dX0_packColumn_68 (lv_at hl 3 rfl) ?_
    refine lv_iconst (v := nI 0) E.1 E.2.1 dX0_packColumn_70 rfl ?_
    refine n_iast E hK hP (dW hN rfl) hS 7 6 rfl rfl (by decide) (by omega) dX0_packColumn_71 (fun H locs hP hS => ?_)
    have hP : va_P D c2 (wX ad ca T n kc ko kv k (fS lo (b * 4 + c) (mn (xb T b c) 15)) (fS hi (b * 4 + c) (mx (xb T b c) 15)) (fS bw (b * 4 + c) 0) bb pk) H := hP
    refine lv_aload_n E.1 E.2.1 dX0_packColumn_72 rfl (lv_at hl 5 rfl) ?_
    refine n_get E inX hK hP 0 rfl rfl 9 (by decide) flX_39 rfl rfl dX0_packColumn_73 ?_
    refine lv_iload E.1 E.2.1 dX0_packColumn_76 (lv_at hl 3 rfl) ?_
    refine lv_bipush (v := nI 16) E.1 E.2.1 dX0_packColumn_78 rfl ?_
    refine lv_iload E.1 E.2.1 dX0_packColumn_80 (lv_at hl 2 rfl) ?_
    refine n_imul E dX0_packColumn_82 ?_
    refine n_iast E hK hP (dW hN rfl) hS 8 7 rfl rfl (by decide) (by omega) dX0_packColumn_83 (fun H locs hP hS => ?_)
    have hP : va_P D c2 (wX ad ca T n kc ko kv k (fS lo (b * 4 + c) (mn (xb T b c) 15)) (fS hi (b * 4 + c) (mx (xb T b c) 15)) (fS bw (b * 4 + c) 0) (fS bb (b * 4 + c) (16 * (cb c))) pk) H := hP
    refine lv_aload_n E.1 E.2.1 dX0_packColumn_84 rfl (lv_at hl 5 rfl) ?_
    refine lv_iload E.1 E.2.1 dX0_packColumn_85 (lv_at hl 3 rfl) ?_
    refine lv_iconst (v := nI 1) E.1 E.2.1 dX0_packColumn_87 rfl ?_
    refine lv_aload_n E.1 E.2.1 dX0_packColumn_88 rfl (lv_at hl 5 rfl) ?_
    refine lv_iload_n E.1 E.2.1 dX0_packColumn_89 rfl (lv_at hl 4 rfl) ?_
    refine cV_i E (As := [.int (nI (c * 128 + (16 * b)))]) (rest := [.int (nI 1), .int (nI (b * 4 + c)), .ref (ad 0)]) (cX_runsOfCells l D ad ca T n kc ko kv k (fS lo (b * 4 + c) (mn (xb T b c) 15)) (fS hi (b * 4 + c) (mx (xb T b c) 15)) (fS bw (b * 4 + c) 0) (fS bb (b * 4 + c) (16 * (cb c))) pk b c (by omega) (by omega)) kX_173 hK hP 0 rfl rfl rfl rfl ⟨Nat.le_of_ble_eq_true rfl, Nat.le_of_ble_eq_true rfl⟩ rfl hl.1 rfl (Nat.le_of_ble_eq_true rfl) dX0_packColumn_90 ⟨Nat.zero_le _, Nat.zero_le _⟩ ?_
    refine lv_iload E.1 E.2.1 dX0_packColumn_93 (lv_at hl 2 rfl) ?_
    refine lv_iconst (v := nI 5) E.1 E.2.1 dX0_packColumn_95 rfl ?_
    refine n_iadd E dX0_packColumn_96 ?_
    refine n_imul E dX0_packColumn_97 ?_
    refine tpi (y := nI (zR (xb T b c) (cb c))) rfl ?_
    have hzR := zR_le (xb T b c) c
    have hzW := zW_le (xb T b c) c
    have hzO := zO_le (xb T b c) c
    have hx1 : ((0, 16 * cb c)).2 ≤ 16 * 64 := by show 16 * cb c ≤ _; omega
    have hx2 := stp_le (w := 1) (z := zR (xb T b c) (cb c)) hx1
    have hx3 := stp_le (w := 2) (z := zW (xb T b c) (cb c)) hx2
    refine cV_wv E (As := [.int (nI (b * 4 + c)), .int (nI 1), .int (nI (zR (xb T b c) (cb c)))]) (rest := []) (cX_offerWay l D ad ca T n kc ko kv k (fS lo (b * 4 + c) (mn (xb T b c) 15)) (fS hi (b * 4 + c) (mx (xb T b c) 15)) bw bb pk (b * 4 + c) (0, 16 * cb c) 1 (zR (xb T b c) (cb c)) hN (by omega) (by omega) (by omega)) kX_176 hK hP hS (fun _ h => h) 0 rfl rfl rfl rfl ⟨Nat.le_of_ble_eq_true rfl, Nat.le_of_ble_eq_true rfl⟩ rfl hl.1 rfl (Nat.le_of_ble_eq_true rfl) dX0_packColumn_98 ⟨Nat.zero_le _, Nat.zero_le _⟩ (fun u98 H locs hp98 hP _ _ hS => ?_)
    have hP : va_P D c2 (wX ad ca T n kc ko kv k (fS lo (b * 4 + c) (mn (xb T b c) 15)) (fS hi (b * 4 + c) (mx (xb T b c) 15)) (fS bw (b * 4 + c) (stp (0, 16 * cb c) 1 (zR (xb T b c) (cb c))).1) (fS bb (b * 4 + c) (stp (0, 16 * cb c) 1 (zR (xb T b c) (cb c))).2) pk) H := hP
    refine lv_aload_n E.1 E.2.1 dX0_packColumn_101 rfl (lv_at hl 5 rfl) ?_
    refine lv_iload E.1 E.2.1 dX0_packColumn_102 (lv_at hl 3 rfl) ?_
    refine lv_iconst (v := nI 2) E.1 E.2.1 dX0_packColumn_104 rfl ?_
    refine lv_iload E.1 E.2.1 dX0_packColumn_105 (lv_at hl 1 rfl) ?_
    refine lv_iload E.1 E.2.1 dX0_packColumn_107 (lv_at hl 2 rfl) ?_
    refine n_imul E dX0_packColumn_109 ?_
    refine lv_bipush (v := nI 16) E.1 E.2.1 dX0_packColumn_110 rfl ?_
    refine lv_iload E.1 E.2.1 dX0_packColumn_112 (lv_at hl 1 rfl) ?_
    refine lv_iconst (v := nI 1) E.1 E.2.1 dX0_packColumn_114 rfl ?_
    have hwp := wds_pos (xb T b c)
    have hwl := wds_le (xb T b c)
    refine n_isub E (by omega) dX0_packColumn_115 ?_
    refine n_i2l E (by omega) dX0_packColumn_116 ?_
    refine cS_i E (As := [.long (lN (wds (xb T b c) - 1))]) (rest := [.int (nI 16), .int (nI ((wds (xb T b c)) * (cb c))), .int (nI 2), .int (nI (b * 4 + c)), .ref (ad 0)]) (cX_widthOf l (lN (wds (xb T b c) - 1))) kX_169 rfl rfl ⟨Nat.le_of_ble_eq_true rfl, Nat.le_of_ble_eq_true rfl⟩ rfl hl.1 rfl (Nat.le_of_ble_eq_true rfl) dX0_packColumn_117 ⟨Nat.zero_le _, Nat.zero_le _⟩ ?_
    refine n_imul E dX0_packColumn_120 ?_
    refine n_iadd E dX0_packColumn_121 ?_
    refine tpi (y := nI (zW (xb T b c) (cb c))) rfl ?_
    refine cV_wv E (As := [.int (nI (b * 4 + c)), .int (nI 2), .int (nI (zW (xb T b c) (cb c)))]) (rest := []) (cX_offerWay l D ad ca T n kc ko kv k (fS lo (b * 4 + c) (mn (xb T b c) 15)) (fS hi (b * 4 + c) (mx (xb T b c) 15)) bw bb pk (b * 4 + c) (stp (0, 16 * cb c) 1 (zR (xb T b c) (cb c))) 2 (zW (xb T b c) (cb c)) hN (by omega) (by omega) (by omega)) kX_176 hK hP hS (fun _ h => h) 0 rfl rfl rfl rfl ⟨Nat.le_of_ble_eq_true rfl, Nat.le_of_ble_eq_true rfl⟩ rfl hl.1 rfl (Nat.le_of_ble_eq_true rfl) dX0_packColumn_122 ⟨Nat.zero_le _, Nat.zero_le _⟩ (fun u122 H locs hp122 hP _ _ hS => ?_)
    have hP : va_P D c2 (wX ad ca T n kc ko kv k (fS lo (b * 4 + c) (mn (xb T b c) 15)) (fS hi (b * 4 + c) (mx (xb T b c) 15)) (fS bw (b * 4 + c) (stp (stp (0, 16 * cb c) 1 (zR (xb T b c) (cb c))) 2 (zW (xb T b c) (cb c))).1) (fS bb (b * 4 + c) (stp (stp (0, 16 * cb c) 1 (zR (xb T b c) (cb c))) 2 (zW (xb T b c) (cb c))).2) pk) H := hP
    refine lv_aload_n E.1 E.2.1 dX0_packColumn_125 rfl (lv_at hl 5 rfl) ?_
    refine lv_iload E.1 E.2.1 dX0_packColumn_126 (lv_at hl 3 rfl) ?_
    refine lv_iconst (v := nI 3) E.1 E.2.1 dX0_packColumn_128 rfl ?_
    refine lv_iload E.1 E.2.1 dX0_packColumn_129 (lv_at hl 2 rfl) ?_
    refine lv_bipush (v := nI 7) E.1 E.2.1 dX0_packColumn_131 rfl ?_
    refine n_iadd E dX0_packColumn_133 ?_
    refine lv_bipush (v := nI 16) E.1 E.2.1 dX0_packColumn_134 rfl ?_
    refine lv_iload E.1 E.2.1 dX0_packColumn_136 (lv_at hl 0 rfl) ?_
    refine n_imul E dX0_packColumn_138 ?_
    refine n_iadd E dX0_packColumn_139 ?_
    refine tpi (y := nI (zO (xb T b c) (cb c))) rfl ?_
    refine cV_wv E (As := [.int (nI (b * 4 + c)), .int (nI 3), .int (nI (zO (xb T b c) (cb c)))]) (rest := []) (cX_offerWay l D ad ca T n kc ko kv k (fS lo (b * 4 + c) (mn (xb T b c) 15)) (fS hi (b * 4 + c) (mx (xb T b c) 15)) bw bb pk (b * 4 + c) (stp (stp (0, 16 * cb c) 1 (zR (xb T b c) (cb c))) 2 (zW (xb T b c) (cb c))) 3 (zO (xb T b c) (cb c)) hN (by omega) (by omega) (by omega)) kX_176 hK hP hS (fun _ h => h) 0 rfl rfl rfl rfl ⟨Nat.le_of_ble_eq_true rfl, Nat.le_of_ble_eq_true rfl⟩ rfl hl.1 rfl (Nat.le_of_ble_eq_true rfl) dX0_packColumn_140 ⟨Nat.zero_le _, Nat.zero_le _⟩ (fun u140 H locs hp140 hP _ _ hS => ?_)
    have hP : va_P D c2 (wX ad ca T n kc ko kv k (fS lo (b * 4 + c) (mn (xb T b c) 15)) (fS hi (b * 4 + c) (mx (xb T b c) 15)) (fS bw (b * 4 + c) (stp (stp (stp (0, 16 * cb c) 1 (zR (xb T b c) (cb c))) 2 (zW (xb T b c) (cb c))) 3 (zO (xb T b c) (cb c))).1) (fS bb (b * 4 + c) (stp (stp (stp (0, 16 * cb c) 1 (zR (xb T b c) (cb c))) 2 (zW (xb T b c) (cb c))) 3 (zO (xb T b c) (cb c))).2) pk) H := hP
    exact e_wv E hr hlk hS () trivial hP dX0_packColumn_143
  · skip
    refine lv_bipush (v := nI 64) E.1 E.2.1 dX0_packColumn_21 rfl ?_
    refine lv_goto (tgt := 28) E.1 E.2.1 dX0_packColumn_23 rfl ?_
    refine tpi (y := nI (cb c)) (by rw [cb, if_pos h18]) ?_
    refine lv_istore (lv' := [(5, .int (nI (cb c))), (4, .int (nI (b * 4 + c))), (3, .int (nI (c * 128 + (16 * b)))), (0, .ref (ad 0)), (1, .int (nI b)), (2, .int (nI c))]) E.1 E.2.1 dX0_packColumn_28 hl (by decide) rfl (fun ls hl => ?_)
    have hcb := cb_le c
    refine lv_aload_n E.1 E.2.1 dX0_packColumn_30 rfl (lv_at hl 3 rfl) ?_
    refine lv_iload_n E.1 E.2.1 dX0_packColumn_31 rfl (lv_at hl 2 rfl) ?_
    refine lv_iload E.1 E.2.1 dX0_packColumn_32 (lv_at hl 1 rfl) ?_
    refine cV_wv E (As := [.int (nI (c * 128 + (16 * b))), .int (nI (b * 4 + c))]) (rest := []) (cX_noteBounds l D ad ca T n kc ko kv k lo hi bw bb pk b c hN (by omega) (by omega)) kX_162 hK hP hS (fun _ h => h) 0 rfl rfl rfl rfl ⟨Nat.le_of_ble_eq_true rfl, Nat.le_of_ble_eq_true rfl⟩ rfl hl.1 rfl (Nat.le_of_ble_eq_true rfl) dX0_packColumn_34 ⟨Nat.zero_le _, Nat.zero_le _⟩ (fun u34 H locs hp34 hP _ _ hS => ?_)
    have hP : va_P D c2 (wX ad ca T n kc ko kv k (fS lo (b * 4 + c) (mn (xb T b c) 15)) (fS hi (b * 4 + c) (mx (xb T b c) 15)) bw bb pk) H := hP
    refine lv_aload_n E.1 E.2.1 dX0_packColumn_37 rfl (lv_at hl 3 rfl) ?_
    refine lv_iload_n E.1 E.2.1 dX0_packColumn_38 rfl (lv_at hl 2 rfl) ?_
    refine cV_i E (As := [.int (nI (c * 128 + (16 * b)))]) (rest := []) (cX_differentCells l D ad ca T n kc ko kv k (fS lo (b * 4 + c) (mn (xb T b c) 15)) (fS hi (b * 4 + c) (mx (xb T b c) 15)) bw bb pk b c (by omega) (by omega)) kX_165 hK hP 0 rfl rfl rfl rfl ⟨Nat.le_of_ble_eq_true rfl, Nat.le_of_ble_eq_true rfl⟩ rfl hl.1 rfl (Nat.le_of_ble_eq_true rfl) dX0_packColumn_39 ⟨Nat.zero_le _, Nat.zero_le _⟩ ?_
    refine lv_istore (lv' := [(6, .int (nI (wds (xb T b c)))), (5, .int (nI (cb c))), (4, .int (nI (b * 4 + c))), (3, .int (nI (c * 128 + (16 * b)))), (0, .ref (ad 0)), (1, .int (nI b)), (2, .int (nI c))]) E.1 E.2.1 dX0_packColumn_42 hl (by decide) rfl (fun ls hl => ?_)
    refine lv_aload_n E.1 E.2.1 dX0_packColumn_44 rfl (lv_at hl 4 rfl) ?_
    refine n_get E inX hK hP 0 rfl rfl 7 (by decide) flX_33 rfl rfl dX0_packColumn_45 ?_
    refine lv_iload E.1 E.2.1 dX0_packColumn_48 (lv_at hl 2 rfl) ?_
    refine n_lald E hK hP 6 5 rfl rfl (by decide) (by omega) dX0_packColumn_50 ?_
    refine lv_aload_n E.1 E.2.1 dX0_packColumn_51 rfl (lv_at hl 4 rfl) ?_
    refine n_get E inX hK hP 0 rfl rfl 6 (by decide) flX_30 rfl rfl dX0_packColumn_52 ?_
    refine lv_iload E.1 E.2.1 dX0_packColumn_55 (lv_at hl 2 rfl) ?_
    refine n_lald E hK hP 5 4 rfl rfl (by decide) (by omega) dX0_packColumn_57 ?_
    refine lv_lsub E.1 E.2.1 dX0_packColumn_58 ?_
    refine tpl (y := mx (xb T b c) 15 - mn (xb T b c) 15) (by rw [fS_s, fS_s]) ?_
    refine cS_i E (As := [.long (mx (xb T b c) 15 - mn (xb T b c) 15)]) (rest := []) (cX_widthOf l (mx (xb T b c) 15 - mn (xb T b c) 15)) kX_169 rfl rfl ⟨Nat.le_of_ble_eq_true rfl, Nat.le_of_ble_eq_true rfl⟩ rfl hl.1 rfl (Nat.le_of_ble_eq_true rfl) dX0_packColumn_59 ⟨Nat.zero_le _, Nat.zero_le _⟩ ?_
    refine lv_istore (lv' := [(7, .int (nI (wd (mx (xb T b c) 15 - mn (xb T b c) 15)))), (6, .int (nI (wds (xb T b c)))), (5, .int (nI (cb c))), (4, .int (nI (b * 4 + c))), (3, .int (nI (c * 128 + (16 * b)))), (0, .ref (ad 0)), (1, .int (nI b)), (2, .int (nI c))]) E.1 E.2.1 dX0_packColumn_62 hl (by decide) rfl (fun ls hl => ?_)
    refine lv_aload_n E.1 E.2.1 dX0_packColumn_64 rfl (lv_at hl 5 rfl) ?_
    refine n_get E inX hK hP 0 rfl rfl 8 (by decide) flX_36 rfl rfl dX0_packColumn_65 ?_
    refine lv_iload E.1 E.2.1 dX0_packColumn_68 (lv_at hl 3 rfl) ?_
    refine lv_iconst (v := nI 0) E.1 E.2.1 dX0_packColumn_70 rfl ?_
    refine n_iast E hK hP (dW hN rfl) hS 7 6 rfl rfl (by decide) (by omega) dX0_packColumn_71 (fun H locs hP hS => ?_)
    have hP : va_P D c2 (wX ad ca T n kc ko kv k (fS lo (b * 4 + c) (mn (xb T b c) 15)) (fS hi (b * 4 + c) (mx (xb T b c) 15)) (fS bw (b * 4 + c) 0) bb pk) H := hP
    refine lv_aload_n E.1 E.2.1 dX0_packColumn_72 rfl (lv_at hl 5 rfl) ?_
    refine n_get E inX hK hP 0 rfl rfl 9 (by decide) flX_39 rfl rfl dX0_packColumn_73 ?_
    refine lv_iload E.1 E.2.1 dX0_packColumn_76 (lv_at hl 3 rfl) ?_
    refine lv_bipush (v := nI 16) E.1 E.2.1 dX0_packColumn_78 rfl ?_
    refine lv_iload E.1 E.2.1 dX0_packColumn_80 (lv_at hl 2 rfl) ?_
    refine n_imul E dX0_packColumn_82 ?_
    refine n_iast E hK hP (dW hN rfl) hS 8 7 rfl rfl (by decide) (by omega) dX0_packColumn_83 (fun H locs hP hS => ?_)
    have hP : va_P D c2 (wX ad ca T n kc ko kv k (fS lo (b * 4 + c) (mn (xb T b c) 15)) (fS hi (b * 4 + c) (mx (xb T b c) 15)) (fS bw (b * 4 + c) 0) (fS bb (b * 4 + c) (16 * (cb c))) pk) H := hP
    refine lv_aload_n E.1 E.2.1 dX0_packColumn_84 rfl (lv_at hl 5 rfl) ?_
    refine lv_iload E.1 E.2.1 dX0_packColumn_85 (lv_at hl 3 rfl) ?_
    refine lv_iconst (v := nI 1) E.1 E.2.1 dX0_packColumn_87 rfl ?_
    refine lv_aload_n E.1 E.2.1 dX0_packColumn_88 rfl (lv_at hl 5 rfl) ?_
    refine lv_iload_n E.1 E.2.1 dX0_packColumn_89 rfl (lv_at hl 4 rfl) ?_
    refine cV_i E (As := [.int (nI (c * 128 + (16 * b)))]) (rest := [.int (nI 1), .int (nI (b * 4 + c)), .ref (ad 0)]) (cX_runsOfCells l D ad ca T n kc ko kv k (fS lo (b * 4 + c) (mn (xb T b c) 15)) (fS hi (b * 4 + c) (mx (xb T b c) 15)) (fS bw (b * 4 + c) 0) (fS bb (b * 4 + c) (16 * (cb c))) pk b c (by omega) (by omega)) kX_173 hK hP 0 rfl rfl rfl rfl ⟨Nat.le_of_ble_eq_true rfl, Nat.le_of_ble_eq_true rfl⟩ rfl hl.1 rfl (Nat.le_of_ble_eq_true rfl) dX0_packColumn_90 ⟨Nat.zero_le _, Nat.zero_le _⟩ ?_
    refine lv_iload E.1 E.2.1 dX0_packColumn_93 (lv_at hl 2 rfl) ?_
    refine lv_iconst (v := nI 5) E.1 E.2.1 dX0_packColumn_95 rfl ?_
    refine n_iadd E dX0_packColumn_96 ?_
    refine n_imul E dX0_packColumn_97 ?_
    refine tpi (y := nI (zR (xb T b c) (cb c))) rfl ?_
    have hzR := zR_le (xb T b c) c
    have hzW := zW_le (xb T b c) c
    have hzO := zO_le (xb T b c) c
    have hx1 : ((0, 16 * cb c)).2 ≤ 16 * 64 := by show 16 * cb c ≤ _; omega
    have hx2 := stp_le (w := 1) (z := zR (xb T b c) (cb c)) hx1
    have hx3 := stp_le (w := 2) (z := zW (xb T b c) (cb c)) hx2
    refine cV_wv E (As := [.int (nI (b * 4 + c)), .int (nI 1), .int (nI (zR (xb T b c) (cb c)))]) (rest := []) (cX_offerWay l D ad ca T n kc ko kv k (fS lo (b * 4 + c) (mn (xb T b c) 15)) (fS hi (b * 4 + c) (mx (xb T b c) 15)) bw bb pk (b * 4 + c) (0, 16 * cb c) 1 (zR (xb T b c) (cb c)) hN (by omega) (by omega) (by omega)) kX_176 hK hP hS (fun _ h => h) 0 rfl rfl rfl rfl ⟨Nat.le_of_ble_eq_true rfl, Nat.le_of_ble_eq_true rfl⟩ rfl hl.1 rfl (Nat.le_of_ble_eq_true rfl) dX0_packColumn_98 ⟨Nat.zero_le _, Nat.zero_le _⟩ (fun u98 H locs hp98 hP _ _ hS => ?_)
    have hP : va_P D c2 (wX ad ca T n kc ko kv k (fS lo (b * 4 + c) (mn (xb T b c) 15)) (fS hi (b * 4 + c) (mx (xb T b c) 15)) (fS bw (b * 4 + c) (stp (0, 16 * cb c) 1 (zR (xb T b c) (cb c))).1) (fS bb (b * 4 + c) (stp (0, 16 * cb c) 1 (zR (xb T b c) (cb c))).2) pk) H := hP
    refine lv_aload_n E.1 E.2.1 dX0_packColumn_101 rfl (lv_at hl 5 rfl) ?_
    refine lv_iload E.1 E.2.1 dX0_packColumn_102 (lv_at hl 3 rfl) ?_
    refine lv_iconst (v := nI 2) E.1 E.2.1 dX0_packColumn_104 rfl ?_
    refine lv_iload E.1 E.2.1 dX0_packColumn_105 (lv_at hl 1 rfl) ?_
    refine lv_iload E.1 E.2.1 dX0_packColumn_107 (lv_at hl 2 rfl) ?_
    refine n_imul E dX0_packColumn_109 ?_
    refine lv_bipush (v := nI 16) E.1 E.2.1 dX0_packColumn_110 rfl ?_
    refine lv_iload E.1 E.2.1 dX0_packColumn_112 (lv_at hl 1 rfl) ?_
    refine lv_iconst (v := nI 1) E.1 E.2.1 dX0_packColumn_114 rfl ?_
    have hwp := wds_pos (xb T b c)
    have hwl := wds_le (xb T b c)
    refine n_isub E (by omega) dX0_packColumn_115 ?_
    refine n_i2l E (by omega) dX0_packColumn_116 ?_
    refine cS_i E (As := [.long (lN (wds (xb T b c) - 1))]) (rest := [.int (nI 16), .int (nI ((wds (xb T b c)) * (cb c))), .int (nI 2), .int (nI (b * 4 + c)), .ref (ad 0)]) (cX_widthOf l (lN (wds (xb T b c) - 1))) kX_169 rfl rfl ⟨Nat.le_of_ble_eq_true rfl, Nat.le_of_ble_eq_true rfl⟩ rfl hl.1 rfl (Nat.le_of_ble_eq_true rfl) dX0_packColumn_117 ⟨Nat.zero_le _, Nat.zero_le _⟩ ?_
    refine n_imul E dX0_packColumn_120 ?_
    refine n_iadd E dX0_packColumn_121 ?_
    refine tpi (y := nI (zW (xb T b c) (cb c))) rfl ?_
    refine cV_wv E (As := [.int (nI (b * 4 + c)), .int (nI 2), .int (nI (zW (xb T b c) (cb c)))]) (rest := []) (cX_offerWay l D ad ca T n kc ko kv k (fS lo (b * 4 + c) (mn (xb T b c) 15)) (fS hi (b * 4 + c) (mx (xb T b c) 15)) bw bb pk (b * 4 + c) (stp (0, 16 * cb c) 1 (zR (xb T b c) (cb c))) 2 (zW (xb T b c) (cb c)) hN (by omega) (by omega) (by omega)) kX_176 hK hP hS (fun _ h => h) 0 rfl rfl rfl rfl ⟨Nat.le_of_ble_eq_true rfl, Nat.le_of_ble_eq_true rfl⟩ rfl hl.1 rfl (Nat.le_of_ble_eq_true rfl) dX0_packColumn_122 ⟨Nat.zero_le _, Nat.zero_le _⟩ (fun u122 H locs hp122 hP _ _ hS => ?_)
    have hP : va_P D c2 (wX ad ca T n kc ko kv k (fS lo (b * 4 + c) (mn (xb T b c) 15)) (fS hi (b * 4 + c) (mx (xb T b c) 15)) (fS bw (b * 4 + c) (stp (stp (0, 16 * cb c) 1 (zR (xb T b c) (cb c))) 2 (zW (xb T b c) (cb c))).1) (fS bb (b * 4 + c) (stp (stp (0, 16 * cb c) 1 (zR (xb T b c) (cb c))) 2 (zW (xb T b c) (cb c))).2) pk) H := hP
    refine lv_aload_n E.1 E.2.1 dX0_packColumn_125 rfl (lv_at hl 5 rfl) ?_
    refine lv_iload E.1 E.2.1 dX0_packColumn_126 (lv_at hl 3 rfl) ?_
    refine lv_iconst (v := nI 3) E.1 E.2.1 dX0_packColumn_128 rfl ?_
    refine lv_iload E.1 E.2.1 dX0_packColumn_129 (lv_at hl 2 rfl) ?_
    refine lv_bipush (v := nI 7) E.1 E.2.1 dX0_packColumn_131 rfl ?_
    refine n_iadd E dX0_packColumn_133 ?_
    refine lv_bipush (v := nI 16) E.1 E.2.1 dX0_packColumn_134 rfl ?_
    refine lv_iload E.1 E.2.1 dX0_packColumn_136 (lv_at hl 0 rfl) ?_
    refine n_imul E dX0_packColumn_138 ?_
    refine n_iadd E dX0_packColumn_139 ?_
    refine tpi (y := nI (zO (xb T b c) (cb c))) rfl ?_
    refine cV_wv E (As := [.int (nI (b * 4 + c)), .int (nI 3), .int (nI (zO (xb T b c) (cb c)))]) (rest := []) (cX_offerWay l D ad ca T n kc ko kv k (fS lo (b * 4 + c) (mn (xb T b c) 15)) (fS hi (b * 4 + c) (mx (xb T b c) 15)) bw bb pk (b * 4 + c) (stp (stp (0, 16 * cb c) 1 (zR (xb T b c) (cb c))) 2 (zW (xb T b c) (cb c))) 3 (zO (xb T b c) (cb c)) hN (by omega) (by omega) (by omega)) kX_176 hK hP hS (fun _ h => h) 0 rfl rfl rfl rfl ⟨Nat.le_of_ble_eq_true rfl, Nat.le_of_ble_eq_true rfl⟩ rfl hl.1 rfl (Nat.le_of_ble_eq_true rfl) dX0_packColumn_140 ⟨Nat.zero_le _, Nat.zero_le _⟩ (fun u140 H locs hp140 hP _ _ hS => ?_)
    have hP : va_P D c2 (wX ad ca T n kc ko kv k (fS lo (b * 4 + c) (mn (xb T b c) 15)) (fS hi (b * 4 + c) (mx (xb T b c) 15)) (fS bw (b * 4 + c) (stp (stp (stp (0, 16 * cb c) 1 (zR (xb T b c) (cb c))) 2 (zW (xb T b c) (cb c))) 3 (zO (xb T b c) (cb c))).1) (fS bb (b * 4 + c) (stp (stp (stp (0, 16 * cb c) 1 (zR (xb T b c) (cb c))) 2 (zW (xb T b c) (cb c))) 3 (zO (xb T b c) (cb c))).2) pk) H := hP
    exact e_wv E hr hlk hS () trivial hP dX0_packColumn_143
set_option maxHeartbeats 4000000 in
set_option maxRecDepth 100000 in
theorem cX_packBlock (l : Launch) (D : va_G) (ad : Nat → Nat) (ca : Nat → ClassId) (T : Nat → Nat → Int64) (n : Nat) (kc ko : Nat → Nat) (kv : Nat → Int64) (k : Nat) (lo hi : Nat → Int64) (bw bb pk : Nat → Nat) (b : Nat) (hN : inj ad 10) (hb0 : b < 8) : Met l yX0_packBlock (wA yX0_packBlock cX0_packBlock 3 none) (rN 3) (va_Pc [.ref (ad 0), .int (nI b)] (pW D c2 (tX ca) (wX ad ca T n kc ko kv k lo hi bw bb pk))) (qV (fun (u : (Nat → Int64) × (Nat → Int64) × (Nat → Nat) × (Nat → Nat)) => (∀ c, c < 4 → Pk T b c u.1 u.2.1 u.2.2.1 u.2.2.2) ∧ ∀ i, (i < b * 4 ∨ b * 4 + 4 ≤ i) → u.1 i = lo i ∧ u.2.1 i = hi i ∧ u.2.2.1 i = bw i ∧ u.2.2.2 i = bb i) D c2 (fun u => wX ad ca T n kc ko kv k u.1 u.2.1 u.2.2.1 u.2.2.2 pk) (fA ad 10)) 0 0 (fA ad 10) := by
  refine met_of RX0 rfl (by decide) (Nat.le_of_ble_eq_true rfl) (fun p e s m below meth cd ls E hr hlk _ hB hl => ?_)
  obtain ⟨hP, hK⟩ := hB
  have hl : lv_has ls 3 [(0, .ref (ad 0)), (1, .int (nI b))] := hl
  have hS : va_S (fA ad 10) s.heap s.heap [] := va_S.rf
  refine lv_iconst (v := nI 0) E.1 E.2.1 dX0_packBlock_0 rfl ?_
  refine lv_istore_n (lv' := [(2, .int (nI 0)), (0, .ref (ad 0)), (1, .int (nI b))]) E.1 E.2.1 dX0_packBlock_1 rfl hl (by decide) rfl (fun ls hl => ?_)
  refine w_lq2 (fun (c : Nat) (u : (Nat → Int64) × (Nat → Int64) × (Nat → Nat) × (Nat → Nat)) => c ≤ 4 ∧ (∀ d, d < c → Pk T b d u.1 u.2.1 u.2.2.1 u.2.2.2) ∧ ∀ i, (i < b * 4 ∨ b * 4 + 4 ≤ i) → u.1 i = lo i ∧ u.2.1 i = hi i ∧ u.2.2.1 i = bw i ∧ u.2.2.2 i = bb i) (fun (c : Nat) (u : (Nat → Int64) × (Nat → Int64) × (Nat → Nat) × (Nat → Nat)) => 4 - c) (fun (c : Nat) (u : (Nat → Int64) × (Nat → Int64) × (Nat → Nat) × (Nat → Nat)) => [(2, .int (nI c)), (0, .ref (ad 0)), (1, .int (nI b))]) (fun (c : Nat) (u : (Nat → Int64) × (Nat → Int64) × (Nat → Nat) × (Nat → Nat)) H locs => va_P D c2 (wX ad ca T n kc ko kv k u.1 u.2.1 u.2.2.1 u.2.2.2 pk) H ∧ va_S (fA ad 10) s.heap H locs) 0 (lo, hi, bw, bb) (⟨by omega, fun d h => by omega, fun i _ => ⟨rfl, rfl, rfl, rfl⟩⟩) ⟨hP, hS⟩ (lv_sub hl [0, 1, 2] rfl) (fun c u ls H locs hI hB hl ih2 => ?_)
  obtain ⟨hP, hS⟩ := hB
  have hl : lv_has ls 3 [(2, .int (nI c)), (0, .ref (ad 0)), (1, .int (nI b))] := hl
  have hP : va_P D c2 (wX ad ca T n kc ko kv k u.1 u.2.1 u.2.2.1 u.2.2.2 pk) H := hP
  obtain ⟨hc0, hPk, hU⟩ := hI
  refine lv_iload_n E.1 E.2.1 dX0_packBlock_2 rfl (lv_at hl 0 rfl) ?_
  refine lv_iconst (v := nI 4) E.1 E.2.1 dX0_packBlock_3 rfl ?_
  refine n_icmp_ge (tgt := 19) E dX0_packBlock_4 rfl (by omega) (by omega) (fun h4 => ?_) (fun h4 => ?_)
  · skip
    exact e_wv E hr hlk hS u (⟨fun d hd => hPk d (by omega), hU⟩) hP dX0_packBlock_19
  · skip
    refine lv_aload_n E.1 E.2.1 dX0_packBlock_7 rfl (lv_at hl 1 rfl) ?_
    refine lv_iload_n E.1 E.2.1 dX0_packBlock_8 rfl (lv_at hl 2 rfl) ?_
    refine lv_iload_n E.1 E.2.1 dX0_packBlock_9 rfl (lv_at hl 0 rfl) ?_
    refine cV_wv E (As := [.int (nI b), .int (nI c)]) (rest := []) (cX_packColumn l D ad ca T n kc ko kv k u.1 u.2.1 u.2.2.1 u.2.2.2 pk b c hN (by omega) (by omega)) kX_159 hK hP hS (fun _ h => h) 0 rfl rfl rfl rfl ⟨Nat.le_of_ble_eq_true rfl, Nat.le_of_ble_eq_true rfl⟩ rfl hl.1 rfl (Nat.le_of_ble_eq_true rfl) dX0_packBlock_10 ⟨Nat.zero_le _, Nat.zero_le _⟩ (fun u10 H locs hp10 hP _ _ hS => ?_)
    have hP : va_P D c2 (wX ad ca T n kc ko kv k (fS u.1 (b * 4 + c) (mn (xb T b c) 15)) (fS u.2.1 (b * 4 + c) (mx (xb T b c) 15)) (fS u.2.2.1 (b * 4 + c) (pck (xb T b c) (cb c)).1) (fS u.2.2.2 (b * 4 + c) (pck (xb T b c) (cb c)).2) pk) H := hP
    refine lv_iinc (k := 0) (v := nI (c + 1)) (lv' := [(2, .int (nI (c + 1))), (0, .ref (ad 0)), (1, .int (nI b))]) E.1 E.2.1 dX0_packBlock_13 hl rfl (inc1 _) (by decide) rfl (fun ls hl => ?_)
    refine lv_goto (tgt := 2) E.1 E.2.1 dX0_packBlock_16 rfl ?_
    exact ih2 (c + 1) (fS u.1 (b * 4 + c) (mn (xb T b c) 15), fS u.2.1 (b * 4 + c) (mx (xb T b c) 15), fS u.2.2.1 (b * 4 + c) (pck (xb T b c) (cb c)).1, fS u.2.2.2 (b * 4 + c) (pck (xb T b c) (cb c)).2) _ _ _ (⟨by omega, qk_s hPk, fun i hi => qu_s (hU i hi) (by omega)⟩) (by omega) ⟨hP, hS⟩ (lv_sub hl [0, 1, 2] rfl)
set_option maxHeartbeats 4000000 in
set_option maxRecDepth 100000 in
theorem cX_packFullBlocks (l : Launch) (D : va_G) (ad : Nat → Nat) (ca : Nat → ClassId) (T : Nat → Nat → Int64) (n : Nat) (kc ko : Nat → Nat) (kv : Nat → Int64) (k : Nat) (lo hi : Nat → Int64) (bw bb pk : Nat → Nat)  (hN : inj ad 10) (hn128 : n ≤ 128) : Met l yX0_packFullBlocks (wA yX0_packFullBlocks cX0_packFullBlocks 2 none) (rN 4) (va_Pc [.ref (ad 0)] (pW D c2 (tX ca) (wX ad ca T n kc ko kv k lo hi bw bb pk))) (qV (fun (u : (Nat → Int64) × (Nat → Int64) × (Nat → Nat) × (Nat → Nat)) => (∀ b c, b < n / 16 → c < 4 → Pk T b c u.1 u.2.1 u.2.2.1 u.2.2.2)) D c2 (fun u => wX ad ca T n kc ko kv k u.1 u.2.1 u.2.2.1 u.2.2.2 pk) (fA ad 10)) 0 0 (fA ad 10) := by
  refine met_of RX0 rfl (by decide) (Nat.le_of_ble_eq_true rfl) (fun p e s m below meth cd ls E hr hlk _ hB hl => ?_)
  obtain ⟨hP, hK⟩ := hB
  have hl : lv_has ls 2 [(0, .ref (ad 0))] := hl
  have hS : va_S (fA ad 10) s.heap s.heap [] := va_S.rf
  refine lv_iconst (v := nI 0) E.1 E.2.1 dX0_packFullBlocks_0 rfl ?_
  refine lv_istore_n (lv' := [(1, .int (nI 0)), (0, .ref (ad 0))]) E.1 E.2.1 dX0_packFullBlocks_1 rfl hl (by decide) rfl (fun ls hl => ?_)
  refine w_lq2 (fun (b : Nat) (u : (Nat → Int64) × (Nat → Int64) × (Nat → Nat) × (Nat → Nat)) => b ≤ n / 16 ∧ (∀ a c, a < b → c < 4 → Pk T a c u.1 u.2.1 u.2.2.1 u.2.2.2)) (fun (b : Nat) (u : (Nat → Int64) × (Nat → Int64) × (Nat → Nat) × (Nat → Nat)) => n / 16 - b) (fun (b : Nat) (u : (Nat → Int64) × (Nat → Int64) × (Nat → Nat) × (Nat → Nat)) => [(1, .int (nI b)), (0, .ref (ad 0))]) (fun (b : Nat) (u : (Nat → Int64) × (Nat → Int64) × (Nat → Nat) × (Nat → Nat)) H locs => va_P D c2 (wX ad ca T n kc ko kv k u.1 u.2.1 u.2.2.1 u.2.2.2 pk) H ∧ va_S (fA ad 10) s.heap H locs) 0 (lo, hi, bw, bb) (⟨Nat.zero_le _, fun a c h => by omega⟩) ⟨hP, hS⟩ (lv_sub hl [0, 1] rfl) (fun b u ls H locs hI hB hl ih2 => ?_)
  obtain ⟨hP, hS⟩ := hB
  have hl : lv_has ls 2 [(1, .int (nI b)), (0, .ref (ad 0))] := hl
  have hP : va_P D c2 (wX ad ca T n kc ko kv k u.1 u.2.1 u.2.2.1 u.2.2.2 pk) H := hP
  obtain ⟨hb1, hPk⟩ := hI
  refine lv_iload_n E.1 E.2.1 dX0_packFullBlocks_2 rfl (lv_at hl 0 rfl) ?_
  refine lv_aload_n E.1 E.2.1 dX0_packFullBlocks_3 rfl (lv_at hl 1 rfl) ?_
  refine cV_i E (As := []) (rest := [.int (nI b)]) (cX_fullBlocks l D ad ca T n kc ko kv k u.1 u.2.1 u.2.2.1 u.2.2.2 pk (by omega)) kX_135 hK hP 0 rfl rfl rfl rfl ⟨Nat.le_of_ble_eq_true rfl, Nat.le_of_ble_eq_true rfl⟩ rfl hl.1 rfl (Nat.le_of_ble_eq_true rfl) dX0_packFullBlocks_4 ⟨Nat.zero_le _, Nat.zero_le _⟩ ?_
  refine n_icmp_ge (tgt := 21) E dX0_packFullBlocks_7 rfl (by omega) (by omega) (fun h7 => ?_) (fun h7 => ?_)
  · skip
    exact e_wv E hr hlk hS u (fun a c ha hc => hPk a c (by omega) hc) hP dX0_packFullBlocks_21
  · skip
    refine lv_aload_n E.1 E.2.1 dX0_packFullBlocks_10 rfl (lv_at hl 1 rfl) ?_
    refine lv_iload_n E.1 E.2.1 dX0_packFullBlocks_11 rfl (lv_at hl 0 rfl) ?_
    refine cV_wv E (As := [.int (nI b)]) (rest := []) (cX_packBlock l D ad ca T n kc ko kv k u.1 u.2.1 u.2.2.1 u.2.2.2 pk b hN (by omega)) kX_56 hK hP hS (fun _ h => h) 0 rfl rfl rfl rfl ⟨Nat.le_of_ble_eq_true rfl, Nat.le_of_ble_eq_true rfl⟩ rfl hl.1 rfl (Nat.le_of_ble_eq_true rfl) dX0_packFullBlocks_12 ⟨Nat.zero_le _, Nat.zero_le _⟩ (fun u12 H locs hp12 hP _ _ hS => ?_)
    have hP : va_P D c2 (wX ad ca T n kc ko kv k u12.1 u12.2.1 u12.2.2.1 u12.2.2.2 pk) H := hP
    refine lv_iinc (k := 0) (v := nI (b + 1)) (lv' := [(1, .int (nI (b + 1))), (0, .ref (ad 0))]) E.1 E.2.1 dX0_packFullBlocks_15 hl rfl (inc1 _) (by decide) rfl (fun ls hl => ?_)
    refine lv_goto (tgt := 2) E.1 E.2.1 dX0_packFullBlocks_18 rfl ?_
    exact ih2 (b + 1) u12 _ _ _ (⟨by omega, qk_b hPk hp12.1 hp12.2⟩) (by omega) ⟨hP, hS⟩ (lv_sub hl [0, 1] rfl)
set_option maxHeartbeats 4000000 in
set_option maxRecDepth 100000 in
theorem cX_moveRow (l : Launch) (D : va_G) (ad : Nat → Nat) (ca : Nat → ClassId) (T : Nat → Nat → Int64) (n : Nat) (kc ko : Nat → Nat) (kv : Nat → Int64) (k : Nat) (lo hi : Nat → Int64) (bw bb pk : Nat → Nat) (a b : Nat) (hN : inj ad 10) (ha0 : a < 128) (hb0 : b < 128) : Met l yX0_moveRow (wA yX0_moveRow cX0_moveRow 4 none) (rN 1) (va_Pc [.ref (ad 0), .int (nI a), .int (nI b)] (pW D c2 (tX ca) (wX ad ca T n kc ko kv k lo hi bw bb pk))) (qV (fun (_ : Unit) => True) D c2 (fun _ => wX ad ca (mvR T a b 4) n kc ko kv k lo hi bw bb pk) (fA ad 10)) 0 0 (fA ad 10) := by
  refine met_of RX0 rfl (by decide) (Nat.le_of_ble_eq_true rfl) (fun p e s m below meth cd ls E hr hlk _ hB hl => ?_)
  obtain ⟨hP, hK⟩ := hB
  have hl : lv_has ls 4 [(0, .ref (ad 0)), (1, .int (nI a)), (2, .int (nI b))] := hl
  have hS : va_S (fA ad 10) s.heap s.heap [] := va_S.rf
  refine lv_iconst (v := nI 0) E.1 E.2.1 dX0_moveRow_0 rfl ?_
  refine lv_istore_n (lv' := [(3, .int (nI 0)), (0, .ref (ad 0)), (1, .int (nI a)), (2, .int (nI b))]) E.1 E.2.1 dX0_moveRow_1 rfl hl (by decide) rfl (fun ls hl => ?_)
  rw [← mvR_0 T a b] at hP
  refine w_lq1 (fun (d : Nat) => d ≤ 4) (fun (d : Nat) => 4 - d) (fun (d : Nat) => [(3, .int (nI d)), (0, .ref (ad 0)), (1, .int (nI a)), (2, .int (nI b))]) (fun (d : Nat) H locs => va_P D c2 (wX ad ca (mvR T a b d) n kc ko kv k lo hi bw bb pk) H ∧ va_S (fA ad 10) s.heap H locs) 0 (Nat.zero_le _) ⟨hP, hS⟩ (lv_sub hl [0, 1, 2, 3] rfl) (fun d ls H locs hI hB hl ih2 => ?_)
  obtain ⟨hP, hS⟩ := hB
  have hl : lv_has ls 4 [(3, .int (nI d)), (0, .ref (ad 0)), (1, .int (nI a)), (2, .int (nI b))] := hl
  have hP : va_P D c2 (wX ad ca (mvR T a b d) n kc ko kv k lo hi bw bb pk) H := hP
  refine lv_iload_n E.1 E.2.1 dX0_moveRow_2 rfl (lv_at hl 0 rfl) ?_
  refine lv_iconst (v := nI 4) E.1 E.2.1 dX0_moveRow_3 rfl ?_
  refine n_icmp_ge (tgt := 33) E dX0_moveRow_4 rfl (by omega) (by omega) (fun h4 => ?_) (fun h4 => ?_)
  · skip
    exact e_wv E hr hlk hS () trivial (by rw [show d = 4 by omega] at hP; exact hP) dX0_moveRow_33
  · skip
    refine lv_aload_n E.1 E.2.1 dX0_moveRow_7 rfl (lv_at hl 1 rfl) ?_
    refine n_get E inX hK hP 0 rfl rfl 0 (by decide) flX_9 rfl rfl dX0_moveRow_8 ?_
    refine lv_iload_n E.1 E.2.1 dX0_moveRow_11 rfl (lv_at hl 3 rfl) ?_
    refine lv_iload_n E.1 E.2.1 dX0_moveRow_12 rfl (lv_at hl 0 rfl) ?_
    refine cS_i E (As := [.int (nI b), .int (nI d)]) (rest := [.ref (ad 1)]) (cX_spot l b d) kX_52 rfl rfl ⟨Nat.le_of_ble_eq_true rfl, Nat.le_of_ble_eq_true rfl⟩ rfl hl.1 rfl (Nat.le_of_ble_eq_true rfl) dX0_moveRow_13 ⟨Nat.zero_le _, Nat.zero_le _⟩ ?_
    refine lv_aload_n E.1 E.2.1 dX0_moveRow_16 rfl (lv_at hl 1 rfl) ?_
    refine n_get E inX hK hP 0 rfl rfl 0 (by decide) flX_9 rfl rfl dX0_moveRow_17 ?_
    refine lv_iload_n E.1 E.2.1 dX0_moveRow_20 rfl (lv_at hl 2 rfl) ?_
    refine lv_iload_n E.1 E.2.1 dX0_moveRow_21 rfl (lv_at hl 0 rfl) ?_
    refine cS_i E (As := [.int (nI a), .int (nI d)]) (rest := [.ref (ad 1), .int (nI (d * 128 + b)), .ref (ad 1)]) (cX_spot l a d) kX_52 rfl rfl ⟨Nat.le_of_ble_eq_true rfl, Nat.le_of_ble_eq_true rfl⟩ rfl hl.1 rfl (Nat.le_of_ble_eq_true rfl) dX0_moveRow_22 ⟨Nat.zero_le _, Nat.zero_le _⟩ ?_
    refine n_cald E hK hP 1 0 rfl rfl a d (by omega) (by omega) (by omega) dX0_moveRow_25 ?_
    refine n_cast E hK hP (dW hN rfl) hS 1 0 rfl rfl b d (by omega) (by omega) (by omega) dX0_moveRow_26 (fun H locs hP hS => ?_)
    have hP : va_P D c2 (wX ad ca (tS (mvR T a b d) b d (mvR T a b d a d)) n kc ko kv k lo hi bw bb pk) H := hP
    refine lv_iinc (k := 0) (v := nI (d + 1)) (lv' := [(3, .int (nI (d + 1))), (0, .ref (ad 0)), (1, .int (nI a)), (2, .int (nI b))]) E.1 E.2.1 dX0_moveRow_27 hl rfl (inc1 _) (by decide) rfl (fun ls hl => ?_)
    refine lv_goto (tgt := 2) E.1 E.2.1 dX0_moveRow_30 rfl ?_
    rw [mvR_s] at hP
    exact ih2 (d + 1) _ _ _ (by omega) (by omega) ⟨hP, hS⟩ (lv_sub hl [0, 1, 2, 3] rfl)
