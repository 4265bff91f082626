/-! Contracts of the hall: laid by program (wip/whole/gen.py). -/
set_option maxHeartbeats 4000000 in
set_option maxRecDepth 100000 in
theorem cX_refuseBadColumn (l : Launch) (c : Nat) (hc : c < 4) : Met l yX0_refuseBadColumn (wA yX0_refuseBadColumn cX0_refuseBadColumn 1 none) (rN 0) (va_Pc [.int (nI c)] (fun _ => True)) (va_Sv (fun _ => True)) 0 0 (fun _ => False) := by
  refine met_of RX0 rfl (by decide) (Nat.le_of_ble_eq_true rfl) (fun p e s m below meth cd ls E hr hlk _ hB hl => ?_)
  have hl : lv_has ls 1 [(0, .int (nI c))] := hl
  refine lv_iload_n E.1 E.2.1 dX0_refuseBadColumn_0 rfl (lv_at hl 0 rfl) ?_
  refine n_if_lt (tgt := 9) E dX0_refuseBadColumn_1 rfl (by omega) ?_
  refine lv_iload_n E.1 E.2.1 dX0_refuseBadColumn_4 rfl (lv_at hl 0 rfl) ?_
  refine lv_iconst (v := nI 4) E.1 E.2.1 dX0_refuseBadColumn_5 rfl ?_
  refine n_icmp_lt (tgt := 19) E dX0_refuseBadColumn_6 rfl (by omega) (by omega) (fun h6 => ?_) (fun h6 => ?_)
  · skip
    exact e_v E hr hlk dX0_refuseBadColumn_19
  · skip
    exfalso; omega
set_option maxHeartbeats 4000000 in
set_option maxRecDepth 100000 in
theorem cX_refuseUnpackedBlock (l : Launch) (D : va_G) (ad : Nat → Nat) (ca : Nat → ClassId) (T : Nat → Nat → Int64) (n : Nat) (kc ko : Nat → Nat) (kv : Nat → Int64) (k : Nat) (lo hi : Nat → Int64) (bw bb pk : Nat → Nat) (b : Nat) (hn128 : n ≤ 128) (hb : b < n / 16) : Met l yX0_refuseUnpackedBlock (wA yX0_refuseUnpackedBlock cX0_refuseUnpackedBlock 2 none) (rN 1) (va_Pc [.ref (ad 0), .int (nI b)] (pW D c2 (tX ca) (wX ad ca T n kc ko kv k lo hi bw bb pk))) (va_Sv (fun _ => True)) 0 0 (fun _ => False) := by
  refine met_of RX0 rfl (by decide) (Nat.le_of_ble_eq_true rfl) (fun p e s m below meth cd ls E hr hlk _ hB hl => ?_)
  obtain ⟨hP, hK⟩ := hB
  have hl : lv_has ls 2 [(0, .ref (ad 0)), (1, .int (nI b))] := hl
  refine lv_iload_n E.1 E.2.1 dX0_refuseUnpackedBlock_0 rfl (lv_at hl 1 rfl) ?_
  refine n_if_lt (tgt := 12) E dX0_refuseUnpackedBlock_1 rfl (by omega) ?_
  refine lv_iload_n E.1 E.2.1 dX0_refuseUnpackedBlock_4 rfl (lv_at hl 1 rfl) ?_
  refine lv_aload_n E.1 E.2.1 dX0_refuseUnpackedBlock_5 rfl (lv_at hl 0 rfl) ?_
  refine cV_i E (As := []) (rest := [.int (nI b)]) (cX_fullBlocks l D ad ca T n kc ko kv k lo hi bw bb pk (by omega)) kX_135 hK hP 0 rfl rfl rfl rfl ⟨Nat.le_of_ble_eq_true rfl, Nat.le_of_ble_eq_true rfl⟩ rfl hl.1 rfl (Nat.le_of_ble_eq_true rfl) dX0_refuseUnpackedBlock_6 ⟨Nat.zero_le _, Nat.zero_le _⟩ ?_
  refine n_icmp_lt (tgt := 22) E dX0_refuseUnpackedBlock_9 rfl (by omega) (by omega) (fun h9 => ?_) (fun h9 => ?_)
  · skip
    exact e_v E hr hlk dX0_refuseUnpackedBlock_22
  · skip
    exfalso; omega
set_option maxHeartbeats 4000000 in
set_option maxRecDepth 100000 in
theorem cX_comesBefore (l : Launch) (x y : Int64) (d : Bool)  : Met l yX0_comesBefore (wA yX0_comesBefore cX0_comesBefore 5 (some .boolean)) (rN 0) (va_Pc [.long x, .long y, .int (bI d)] (fun _ => True)) (vp_Si (fun z => z = bI (bef d x y))) 0 0 (fun _ => False) := by
  refine met_of RX0 rfl (by decide) (Nat.le_of_ble_eq_true rfl) (fun p e s m below meth cd ls E hr hlk _ hB hl => ?_)
  have hl : lv_has ls 5 [(0, .long x), (2, .long y), (4, .int (bI d))] := hl
  refine lv_iload E.1 E.2.1 dX0_comesBefore_0 (lv_at hl 2 rfl) ?_
  refine b_if_eq (tgt := 19) E dX0_comesBefore_2 rfl (fun h2 => ?_) (fun h2 => ?_)
  · skip
    refine lv_lload_n E.1 E.2.1 dX0_comesBefore_19 rfl (lv_at hl 0 rfl) ?_
    refine lv_lload_n E.1 E.2.1 dX0_comesBefore_20 rfl (lv_at hl 1 rfl) ?_
    refine l_if_ge (tgt := 29) E dX0_comesBefore_21 dX0_comesBefore_22 rfl (fun h21 => ?_) (fun h21 => ?_)
    · skip
      refine lv_iconst (v := nI 0) E.1 E.2.1 dX0_comesBefore_29 rfl ?_
      exact e_z E hr hlk (show _ = _ from congrArg bI (show false = _ from by simp [bef, h2, h21])) dX0_comesBefore_30
    · skip
      refine lv_iconst (v := nI 1) E.1 E.2.1 dX0_comesBefore_25 rfl ?_
      refine lv_goto (tgt := 30) E.1 E.2.1 dX0_comesBefore_26 rfl ?_
      exact e_z E hr hlk (show _ = _ from congrArg bI (show true = _ from by simp [bef, h2, h21])) dX0_comesBefore_30
  · skip
    refine lv_lload_n E.1 E.2.1 dX0_comesBefore_5 rfl (lv_at hl 0 rfl) ?_
    refine lv_lload_n E.1 E.2.1 dX0_comesBefore_6 rfl (lv_at hl 1 rfl) ?_
    refine l_if_le (tgt := 15) E dX0_comesBefore_7 dX0_comesBefore_8 rfl (fun h7 => ?_) (fun h7 => ?_)
    · skip
      refine lv_iconst (v := nI 0) E.1 E.2.1 dX0_comesBefore_15 rfl ?_
      refine lv_goto (tgt := 30) E.1 E.2.1 dX0_comesBefore_16 rfl ?_
      exact e_z E hr hlk (show _ = _ from congrArg bI (show false = _ from by simp [bef, h2, h7])) dX0_comesBefore_30
    · skip
      refine lv_iconst (v := nI 1) E.1 E.2.1 dX0_comesBefore_11 rfl ?_
      refine lv_goto (tgt := 30) E.1 E.2.1 dX0_comesBefore_12 rfl ?_
      exact e_z E hr hlk (show _ = _ from congrArg bI (show true = _ from by simp [bef, h2, h7])) dX0_comesBefore_30
set_option maxHeartbeats 4000000 in
set_option maxRecDepth 100000 in
theorem cX_sumOfPicked (l : Launch) (D : va_G) (ad : Nat → Nat) (ca : Nat → ClassId) (T : Nat → Nat → Int64) (n : Nat) (kc ko : Nat → Nat) (kv : Nat → Int64) (k : Nat) (lo hi : Nat → Int64) (bw bb pk : Nat → Nat) (c a b : Nat) (hc : c < 4) (hab : a ≤ b) (hb : b ≤ 128) (hpk : ∀ j, j < b → pk j < 128) : Met l yX0_sumOfPicked (wA yX0_sumOfPicked cX0_sumOfPicked 7 (some .long)) (rN 1) (va_Pc [.ref (ad 0), .int (nI c), .int (nI a), .int (nI b)] (pW D c2 (tX ca) (wX ad ca T n kc ko kv k lo hi bw bb pk))) (vp_Sl (fun z => z = sm (fun j => T (pk (a + j)) c) (b - a))) 0 0 (fun _ => False) := by
  refine met_of RX0 rfl (by decide) (Nat.le_of_ble_eq_true rfl) (fun p e s m below meth cd ls E hr hlk _ hB hl => ?_)
  obtain ⟨hP, hK⟩ := hB
  have hl : lv_has ls 7 [(0, .ref (ad 0)), (1, .int (nI c)), (2, .int (nI a)), (3, .int (nI b))] := hl
  refine lv_lconst (v := 0) E.1 E.2.1 dX0_sumOfPicked_0 rfl ?_
  refine lv_lstore (lv' := [(4, .long 0), (0, .ref (ad 0)), (1, .int (nI c)), (2, .int (nI a)), (3, .int (nI b))]) E.1 E.2.1 dX0_sumOfPicked_1 hl (by decide) rfl (fun ls hl => ?_)
  refine lv_iload_n E.1 E.2.1 dX0_sumOfPicked_3 rfl (lv_at hl 3 rfl) ?_
  refine lv_istore (lv' := [(6, .int (nI a)), (4, .long 0), (0, .ref (ad 0)), (1, .int (nI c)), (2, .int (nI a)), (3, .int (nI b))]) E.1 E.2.1 dX0_sumOfPicked_4 hl (by decide) rfl (fun ls hl => ?_)
  refine w_lp1 (fun (d : Nat) => a + d ≤ b) (fun (d : Nat) => b - (a + d)) (fun (d : Nat) => [(6, .int (nI (a + d))), (4, .long (sm (fun j => T (pk (a + j)) c) d)), (0, .ref (ad 0)), (1, .int (nI c)), (2, .int (nI a)), (3, .int (nI b))]) 0 (by omega) (lv_sub hl [0, 1, 2, 3, 4, 5] rfl) (fun d ls hI hl ih6 => ?_)
  have hl : lv_has ls 7 [(6, .int (nI (a + d))), (4, .long (sm (fun j => T (pk (a + j)) c) d)), (0, .ref (ad 0)), (1, .int (nI c)), (2, .int (nI a)), (3, .int (nI b))] := hl
  refine lv_iload E.1 E.2.1 dX0_sumOfPicked_6 (lv_at hl 0 rfl) ?_
  refine lv_iload_n E.1 E.2.1 dX0_sumOfPicked_8 rfl (lv_at hl 5 rfl) ?_
  refine n_icmp_ge (tgt := 39) E dX0_sumOfPicked_9 rfl (by omega) (by omega) (fun h9 => ?_) (fun h9 => ?_)
  · skip
    refine lv_lload E.1 E.2.1 dX0_sumOfPicked_39 (lv_at hl 1 rfl) ?_
    exact e_l E hr hlk (by rw [show b - a = d by omega]) dX0_sumOfPicked_41
  · skip
    refine lv_lload E.1 E.2.1 dX0_sumOfPicked_12 (lv_at hl 1 rfl) ?_
    refine lv_aload_n E.1 E.2.1 dX0_sumOfPicked_14 rfl (lv_at hl 2 rfl) ?_
    refine n_get E inX hK hP 0 rfl rfl 0 (by decide) flX_9 rfl rfl dX0_sumOfPicked_15 ?_
    refine lv_aload_n E.1 E.2.1 dX0_sumOfPicked_18 rfl (lv_at hl 2 rfl) ?_
    refine n_get E inX hK hP 0 rfl rfl 10 (by decide) flX_42 rfl rfl dX0_sumOfPicked_19 ?_
    refine lv_iload E.1 E.2.1 dX0_sumOfPicked_22 (lv_at hl 0 rfl) ?_
    have hq := hpk (a + d) (by omega)
    refine n_iald E hK hP 9 8 rfl rfl (by decide) (by omega) dX0_sumOfPicked_24 ?_
    refine lv_iload_n E.1 E.2.1 dX0_sumOfPicked_25 rfl (lv_at hl 3 rfl) ?_
    refine cS_i E (As := [.int (nI (pk (a + d))), .int (nI c)]) (rest := [.ref (ad 1), .long (sm (fun j => T (pk (a + j)) c) d)]) (cX_spot l (pk (a + d)) c) kX_52 rfl rfl ⟨Nat.le_of_ble_eq_true rfl, Nat.le_of_ble_eq_true rfl⟩ rfl hl.1 rfl (Nat.le_of_ble_eq_true rfl) dX0_sumOfPicked_26 ⟨Nat.zero_le _, Nat.zero_le _⟩ ?_
    refine n_cald E hK hP 1 0 rfl rfl (pk (a + d)) c (by omega) (by omega) (by omega) dX0_sumOfPicked_29 ?_
    refine lv_ladd E.1 E.2.1 dX0_sumOfPicked_30 ?_
    refine lv_lstore (lv' := [(4, .long ((sm (fun j => T (pk (a + j)) c) d) + (T (pk (a + d)) c))), (6, .int (nI (a + d))), (0, .ref (ad 0)), (1, .int (nI c)), (2, .int (nI a)), (3, .int (nI b))]) E.1 E.2.1 dX0_sumOfPicked_31 hl (by decide) rfl (fun ls hl => ?_)
    refine lv_iinc (k := 1) (v := nI (a + d + 1)) (lv' := [(6, .int (nI (a + d + 1))), (4, .long ((sm (fun j => T (pk (a + j)) c) d) + (T (pk (a + d)) c))), (0, .ref (ad 0)), (1, .int (nI c)), (2, .int (nI a)), (3, .int (nI b))]) E.1 E.2.1 dX0_sumOfPicked_33 hl rfl (inc1 _) (by decide) rfl (fun ls hl => ?_)
    refine lv_goto (tgt := 6) E.1 E.2.1 dX0_sumOfPicked_36 rfl ?_
    exact ih6 (d + 1) _ (by omega) (by omega) (lv_sub hl [0, 1, 2, 3, 4, 5] rfl)
set_option maxHeartbeats 4000000 in
set_option maxRecDepth 100000 in
theorem cX_boundOfPicked (l : Launch) (D : va_G) (ad : Nat → Nat) (ca : Nat → ClassId) (T : Nat → Nat → Int64) (n : Nat) (kc ko : Nat → Nat) (kv : Nat → Int64) (k : Nat) (lo hi : Nat → Int64) (bw bb pk : Nat → Nat) (c : Nat) (d : Bool) (a b : Nat) (hc : c < 4) (hab : a < b) (hb : b ≤ 128) (hpk : ∀ j, j < b → pk j < 128) : Met l yX0_boundOfPicked (wA yX0_boundOfPicked cX0_boundOfPicked 10 (some .long)) (rN 1) (va_Pc [.ref (ad 0), .int (nI c), .int (bI d), .int (nI a), .int (nI b)] (pW D c2 (tX ca) (wX ad ca T n kc ko kv k lo hi bw bb pk))) (vp_Sl (fun z => z = bnd (fun j => T (pk (a + j)) c) d (b - a - 1))) 0 0 (fun _ => False) := by
  refine met_of RX0 rfl (by decide) (Nat.le_of_ble_eq_true rfl) (fun p e s m below meth cd ls E hr hlk _ hB hl => ?_)
  obtain ⟨hP, hK⟩ := hB
  have hl : lv_has ls 10 [(0, .ref (ad 0)), (1, .int (nI c)), (2, .int (bI d)), (3, .int (nI a)), (4, .int (nI b))] := hl
  refine lv_aload_n E.1 E.2.1 dX0_boundOfPicked_0 rfl (lv_at hl 0 rfl) ?_
  refine n_get E inX hK hP 0 rfl rfl 0 (by decide) flX_9 rfl rfl dX0_boundOfPicked_1 ?_
  refine lv_aload_n E.1 E.2.1 dX0_boundOfPicked_4 rfl (lv_at hl 0 rfl) ?_
  refine n_get E inX hK hP 0 rfl rfl 10 (by decide) flX_42 rfl rfl dX0_boundOfPicked_5 ?_
  refine lv_iload_n E.1 E.2.1 dX0_boundOfPicked_8 rfl (lv_at hl 3 rfl) ?_
  have hq := hpk a (by omega)
  refine n_iald E hK hP 9 8 rfl rfl (by decide) (by omega) dX0_boundOfPicked_9 ?_
  refine lv_iload_n E.1 E.2.1 dX0_boundOfPicked_10 rfl (lv_at hl 1 rfl) ?_
  refine cS_i E (As := [.int (nI (pk a)), .int (nI c)]) (rest := [.ref (ad 1)]) (cX_spot l (pk a) c) kX_52 rfl rfl ⟨Nat.le_of_ble_eq_true rfl, Nat.le_of_ble_eq_true rfl⟩ rfl hl.1 rfl (Nat.le_of_ble_eq_true rfl) dX0_boundOfPicked_11 ⟨Nat.zero_le _, Nat.zero_le _⟩ ?_
  refine n_cald E hK hP 1 0 rfl rfl (pk a) c (by omega) (by omega) (by omega) dX0_boundOfPicked_14 ?_
  refine lv_lstore (lv' := [(5, .long (T (pk a) c)), (0, .ref (ad 0)), (1, .int (nI c)), (2, .int (bI d)), (3, .int (nI a)), (4, .int (nI b))]) E.1 E.2.1 dX0_boundOfPicked_15 hl (by decide) rfl (fun ls hl => ?_)
  refine lv_iload_n E.1 E.2.1 dX0_boundOfPicked_17 rfl (lv_at hl 4 rfl) ?_
  refine lv_iconst (v := nI 1) E.1 E.2.1 dX0_boundOfPicked_18 rfl ?_
  refine n_iadd E dX0_boundOfPicked_19 ?_
  refine lv_istore (lv' := [(7, .int (nI (a + 1))), (5, .long (T (pk a) c)), (0, .ref (ad 0)), (1, .int (nI c)), (2, .int (bI d)), (3, .int (nI a)), (4, .int (nI b))]) E.1 E.2.1 dX0_boundOfPicked_20 hl (by decide) rfl (fun ls hl => ?_)
  refine w_lp1 (fun (j : Nat) => a + (j + 1) ≤ b) (fun (j : Nat) => b - (a + j)) (fun (j : Nat) => [(7, .int (nI (a + (j + 1)))), (5, .long (bnd (fun j => T (pk (a + j)) c) d j)), (0, .ref (ad 0)), (1, .int (nI c)), (2, .int (bI d)), (3, .int (nI a)), (4, .int (nI b))]) 0 (by omega) (lv_sub hl [0, 1, 2, 3, 4, 5, 6] rfl) (fun j ls hI hl ih22 => ?_)
  have hl : lv_has ls 10 [(7, .int (nI (a + (j + 1)))), (5, .long (bnd (fun j => T (pk (a + j)) c) d j)), (0, .ref (ad 0)), (1, .int (nI c)), (2, .int (bI d)), (3, .int (nI a)), (4, .int (nI b))] := hl
  refine lv_iload E.1 E.2.1 dX0_boundOfPicked_22 (lv_at hl 0 rfl) ?_
  refine lv_iload E.1 E.2.1 dX0_boundOfPicked_24 (lv_at hl 6 rfl) ?_
  refine n_icmp_ge (tgt := 80) E dX0_boundOfPicked_26 rfl (by omega) (by omega) (fun h26 => ?_) (fun h26 => ?_)
  · skip
    refine lv_lload E.1 E.2.1 dX0_boundOfPicked_80 (lv_at hl 1 rfl) ?_
    exact e_l E hr hlk (by rw [show b - a - 1 = j by omega]) dX0_boundOfPicked_82
  · skip
    refine lv_aload_n E.1 E.2.1 dX0_boundOfPicked_29 rfl (lv_at hl 2 rfl) ?_
    refine n_get E inX hK hP 0 rfl rfl 0 (by decide) flX_9 rfl rfl dX0_boundOfPicked_30 ?_
    refine lv_aload_n E.1 E.2.1 dX0_boundOfPicked_33 rfl (lv_at hl 2 rfl) ?_
    refine n_get E inX hK hP 0 rfl rfl 10 (by decide) flX_42 rfl rfl dX0_boundOfPicked_34 ?_
    refine lv_iload E.1 E.2.1 dX0_boundOfPicked_37 (lv_at hl 0 rfl) ?_
    have hq := hpk (a + (j + 1)) (by omega)
    refine n_iald E hK hP 9 8 rfl rfl (by decide) (by omega) dX0_boundOfPicked_39 ?_
    refine lv_iload_n E.1 E.2.1 dX0_boundOfPicked_40 rfl (lv_at hl 3 rfl) ?_
    refine cS_i E (As := [.int (nI (pk (a + (j + 1)))), .int (nI c)]) (rest := [.ref (ad 1)]) (cX_spot l (pk (a + (j + 1))) c) kX_52 rfl rfl ⟨Nat.le_of_ble_eq_true rfl, Nat.le_of_ble_eq_true rfl⟩ rfl hl.1 rfl (Nat.le_of_ble_eq_true rfl) dX0_boundOfPicked_41 ⟨Nat.zero_le _, Nat.zero_le _⟩ ?_
    refine n_cald E hK hP 1 0 rfl rfl (pk (a + (j + 1))) c (by omega) (by omega) (by omega) dX0_boundOfPicked_44 ?_
    refine lv_lstore (lv' := [(8, .long (T (pk (a + (j + 1))) c)), (7, .int (nI (a + (j + 1)))), (5, .long (bnd (fun j => T (pk (a + j)) c) d j)), (0, .ref (ad 0)), (1, .int (nI c)), (2, .int (bI d)), (3, .int (nI a)), (4, .int (nI b))]) E.1 E.2.1 dX0_boundOfPicked_45 hl (by decide) rfl (fun ls hl => ?_)
    refine lv_iload_n E.1 E.2.1 dX0_boundOfPicked_47 rfl (lv_at hl 5 rfl) ?_
    refine b_if_eq (tgt := 62) E dX0_boundOfPicked_48 rfl (fun h48 => ?_) (fun h48 => ?_)
    · skip
      refine lv_lload E.1 E.2.1 dX0_boundOfPicked_62 (lv_at hl 0 rfl) ?_
      refine lv_lload E.1 E.2.1 dX0_boundOfPicked_64 (lv_at hl 2 rfl) ?_
      refine l_if_ge (tgt := 74) E dX0_boundOfPicked_66 dX0_boundOfPicked_67 rfl (fun h66 => ?_) (fun h66 => ?_)
      · skip
        refine lv_iinc (k := 1) (v := nI (a + (j + 1) + 1)) (lv' := [(7, .int (nI (a + (j + 1) + 1))), (8, .long (T (pk (a + (j + 1))) c)), (5, .long (bnd (fun j => T (pk (a + j)) c) d j)), (0, .ref (ad 0)), (1, .int (nI c)), (2, .int (bI d)), (3, .int (nI a)), (4, .int (nI b))]) E.1 E.2.1 dX0_boundOfPicked_74 hl rfl (inc1 _) (by decide) rfl (fun ls hl => ?_)
        refine lv_goto (tgt := 22) E.1 E.2.1 dX0_boundOfPicked_77 rfl ?_
        subst h48
        have e9 := bnd_f (f := (fun j => T (pk (a + j)) c)) (bef_Ff h66)
        rw [← e9] at hl
        exact ih22 (j + 1) _ (by omega) (by omega) (lv_sub hl [0, 2, 3, 4, 5, 6, 7] rfl)
      · skip
        refine lv_lload E.1 E.2.1 dX0_boundOfPicked_70 (lv_at hl 0 rfl) ?_
        refine lv_lstore (lv' := [(5, .long (T (pk (a + (j + 1))) c)), (8, .long (T (pk (a + (j + 1))) c)), (7, .int (nI (a + (j + 1)))), (0, .ref (ad 0)), (1, .int (nI c)), (2, .int (bI d)), (3, .int (nI a)), (4, .int (nI b))]) E.1 E.2.1 dX0_boundOfPicked_72 hl (by decide) rfl (fun ls hl => ?_)
        refine lv_iinc (k := 2) (v := nI (a + (j + 1) + 1)) (lv' := [(7, .int (nI (a + (j + 1) + 1))), (5, .long (T (pk (a + (j + 1))) c)), (8, .long (T (pk (a + (j + 1))) c)), (0, .ref (ad 0)), (1, .int (nI c)), (2, .int (bI d)), (3, .int (nI a)), (4, .int (nI b))]) E.1 E.2.1 dX0_boundOfPicked_74 hl rfl (inc1 _) (by decide) rfl (fun ls hl => ?_)
        refine lv_goto (tgt := 22) E.1 E.2.1 dX0_boundOfPicked_77 rfl ?_
        subst h48
        have e9 := bnd_t (f := (fun j => T (pk (a + j)) c)) (bef_Ft h66)
        have e8 : T (pk (a + (j + 1))) c = _ := e9.symm
        rw [e8] at hl
        exact ih22 (j + 1) _ (by omega) (by omega) (lv_sub hl [0, 1, 3, 4, 5, 6, 7] rfl)
    · skip
      refine lv_lload E.1 E.2.1 dX0_boundOfPicked_51 (lv_at hl 0 rfl) ?_
      refine lv_lload E.1 E.2.1 dX0_boundOfPicked_53 (lv_at hl 2 rfl) ?_
      refine l_if_le (tgt := 74) E dX0_boundOfPicked_55 dX0_boundOfPicked_56 rfl (fun h55 => ?_) (fun h55 => ?_)
      · skip
        refine lv_iinc (k := 1) (v := nI (a + (j + 1) + 1)) (lv' := [(7, .int (nI (a + (j + 1) + 1))), (8, .long (T (pk (a + (j + 1))) c)), (5, .long (bnd (fun j => T (pk (a + j)) c) d j)), (0, .ref (ad 0)), (1, .int (nI c)), (2, .int (bI d)), (3, .int (nI a)), (4, .int (nI b))]) E.1 E.2.1 dX0_boundOfPicked_74 hl rfl (inc1 _) (by decide) rfl (fun ls hl => ?_)
        refine lv_goto (tgt := 22) E.1 E.2.1 dX0_boundOfPicked_77 rfl ?_
        subst h48
        have e9 := bnd_f (f := (fun j => T (pk (a + j)) c)) (bef_Tf h55)
        rw [← e9] at hl
        exact ih22 (j + 1) _ (by omega) (by omega) (lv_sub hl [0, 2, 3, 4, 5, 6, 7] rfl)
      · skip
        refine lv_goto (tgt := 70) E.1 E.2.1 dX0_boundOfPicked_59 rfl ?_
        refine lv_lload E.1 E.2.1 dX0_boundOfPicked_70 (lv_at hl 0 rfl) ?_
        refine lv_lstore (lv' := [(5, .long (T (pk (a + (j + 1))) c)), (8, .long (T (pk (a + (j + 1))) c)), (7, .int (nI (a + (j + 1)))), (0, .ref (ad 0)), (1, .int (nI c)), (2, .int (bI d)), (3, .int (nI a)), (4, .int (nI b))]) E.1 E.2.1 dX0_boundOfPicked_72 hl (by decide) rfl (fun ls hl => ?_)
        refine lv_iinc (k := 2) (v := nI (a + (j + 1) + 1)) (lv' := [(7, .int (nI (a + (j + 1) + 1))), (5, .long (T (pk (a + (j + 1))) c)), (8, .long (T (pk (a + (j + 1))) c)), (0, .ref (ad 0)), (1, .int (nI c)), (2, .int (bI d)), (3, .int (nI a)), (4, .int (nI b))]) E.1 E.2.1 dX0_boundOfPicked_74 hl rfl (inc1 _) (by decide) rfl (fun ls hl => ?_)
        refine lv_goto (tgt := 22) E.1 E.2.1 dX0_boundOfPicked_77 rfl ?_
        subst h48
        have e9 := bnd_t (f := (fun j => T (pk (a + j)) c)) (bef_Tt h55)
        have e8 : T (pk (a + (j + 1))) c = _ := e9.symm
        rw [e8] at hl
        exact ih22 (j + 1) _ (by omega) (by omega) (lv_sub hl [0, 1, 3, 4, 5, 6, 7] rfl)
set_option maxHeartbeats 4000000 in
set_option maxRecDepth 100000 in
theorem cX_sortPicked (l : Launch) (D : va_G) (ad : Nat → Nat) (ca : Nat → ClassId) (T : Nat → Nat → Int64) (n : Nat) (kc ko : Nat → Nat) (kv : Nat → Int64) (k : Nat) (lo hi : Nat → Int64) (bw bb pk : Nat → Nat) (m0 c : Nat) (d : Bool) (hN : inj ad 10) (hm128 : m0 ≤ 128) (hc : c < 4) (hup : ∀ i j, i < j → j < m0 → pk i < pk j) (hpk : ∀ j, j < m0 → pk j < 128) : Met l yX0_sortPicked (wA yX0_sortPicked cX0_sortPicked 9 none) (rN 1) (va_Pc [.ref (ad 0), .int (nI m0), .int (nI c), .int (bI d)] (pW D c2 (tX ca) (wX ad ca T n kc ko kv k lo hi bw bb pk))) (qV (fun (q : Nat → Nat) => Sd T c d q m0 ∧ Pm q pk m0) D c2 (fun q => wX ad ca T n kc ko kv k lo hi bw bb q) (fA ad 10)) 0 0 (fA ad 10) := by
  refine met_of RX0 rfl (by decide) (Nat.le_of_ble_eq_true rfl) (fun p e s m below meth cd ls E hr hlk _ hB hl => ?_)
  obtain ⟨hP, hK⟩ := hB
  have hl : lv_has ls 9 [(0, .ref (ad 0)), (1, .int (nI m0)), (2, .int (nI c)), (3, .int (bI d))] := hl
  have hS : va_S (fA ad 10) s.heap s.heap [] := va_S.rf
  refine lv_iconst (v := nI 1) E.1 E.2.1 dX0_sortPicked_0 rfl ?_
  refine lv_istore (lv' := [(4, .int (nI 1)), (0, .ref (ad 0)), (1, .int (nI m0)), (2, .int (nI c)), (3, .int (bI d))]) E.1 E.2.1 dX0_sortPicked_1 hl (by decide) rfl (fun ls hl => ?_)
  refine w_lq2 (fun (i : Nat) (q : Nat → Nat) => 1 ≤ i ∧ i ≤ m0 + 1 ∧ Sd T c d q i ∧ (∀ j, i ≤ j → q j = pk j) ∧ Pm q pk m0 ∧ (∀ j t, j < i → i ≤ t → t < m0 → q j < pk t)) (fun (i : Nat) (q : Nat → Nat) => m0 + 1 - i) (fun (i : Nat) (q : Nat → Nat) => [(4, .int (nI i)), (0, .ref (ad 0)), (1, .int (nI m0)), (2, .int (nI c)), (3, .int (bI d))]) (fun (i : Nat) (q : Nat → Nat) H locs => va_P D c2 (wX ad ca T n kc ko kv k lo hi bw bb q) H ∧ va_S (fA ad 10) s.heap H locs) 1 pk (⟨Nat.le_refl _, by omega, fun a b h1 h2 => by omega, fun _ _ => rfl, Pm.rf _ _, fun j t h1 h2 h3 => hup j t (by omega) h3⟩) ⟨hP, hS⟩ (lv_sub hl [0, 1, 2, 3, 4] rfl) (fun i q ls H locs hI hB hl ih3 => ?_)
  obtain ⟨hP, hS⟩ := hB
  have hl : lv_has ls 9 [(4, .int (nI i)), (0, .ref (ad 0)), (1, .int (nI m0)), (2, .int (nI c)), (3, .int (bI d))] := hl
  have hP : va_P D c2 (wX ad ca T n kc ko kv k lo hi bw bb q) H := hP
  obtain ⟨hi1, hi2, hSd, hge, hPm, hlt⟩ := hI
  refine lv_iload E.1 E.2.1 dX0_sortPicked_3 (lv_at hl 0 rfl) ?_
  refine lv_iload_n E.1 E.2.1 dX0_sortPicked_5 rfl (lv_at hl 2 rfl) ?_
  refine n_icmp_ge (tgt := 104) E dX0_sortPicked_6 rfl (by omega) (by omega) (fun h6 => ?_) (fun h6 => ?_)
  · skip
    exact e_wv E hr hlk hS q (⟨hSd.less (by omega), hPm⟩) hP dX0_sortPicked_104
  · skip
    refine lv_aload_n E.1 E.2.1 dX0_sortPicked_9 rfl (lv_at hl 1 rfl) ?_
    refine n_get E inX hK hP 0 rfl rfl 10 (by decide) flX_42 rfl rfl dX0_sortPicked_10 ?_
    refine lv_iload E.1 E.2.1 dX0_sortPicked_13 (lv_at hl 0 rfl) ?_
    have hq128 := pm_lt hPm hpk
    have hq := hq128 i (by omega)
    refine n_iald E hK hP 9 8 rfl rfl (by decide) (by omega) dX0_sortPicked_15 ?_
    refine lv_istore (lv' := [(5, .int (nI (q i))), (4, .int (nI i)), (0, .ref (ad 0)), (1, .int (nI m0)), (2, .int (nI c)), (3, .int (bI d))]) E.1 E.2.1 dX0_sortPicked_16 hl (by decide) rfl (fun ls hl => ?_)
    refine lv_aload_n E.1 E.2.1 dX0_sortPicked_18 rfl (lv_at hl 2 rfl) ?_
    refine n_get E inX hK hP 0 rfl rfl 0 (by decide) flX_9 rfl rfl dX0_sortPicked_19 ?_
    refine lv_iload E.1 E.2.1 dX0_sortPicked_22 (lv_at hl 0 rfl) ?_
    refine lv_iload_n E.1 E.2.1 dX0_sortPicked_24 rfl (lv_at hl 4 rfl) ?_
    refine cS_i E (As := [.int (nI (q i)), .int (nI c)]) (rest := [.ref (ad 1)]) (cX_spot l (q i) c) kX_52 rfl rfl ⟨Nat.le_of_ble_eq_true rfl, Nat.le_of_ble_eq_true rfl⟩ rfl hl.1 rfl (Nat.le_of_ble_eq_true rfl) dX0_sortPicked_25 ⟨Nat.zero_le _, Nat.zero_le _⟩ ?_
    refine n_cald E hK hP 1 0 rfl rfl (q i) c (by omega) (by omega) (by omega) dX0_sortPicked_28 ?_
    refine lv_lstore (lv' := [(6, .long (T (q i) c)), (5, .int (nI (q i))), (4, .int (nI i)), (0, .ref (ad 0)), (1, .int (nI m0)), (2, .int (nI c)), (3, .int (bI d))]) E.1 E.2.1 dX0_sortPicked_29 hl (by decide) rfl (fun ls hl => ?_)
    refine lv_iload E.1 E.2.1 dX0_sortPicked_31 (lv_at hl 2 rfl) ?_
    refine lv_istore (lv' := [(8, .int (nI i)), (6, .long (T (q i) c)), (5, .int (nI (q i))), (4, .int (nI i)), (0, .ref (ad 0)), (1, .int (nI m0)), (2, .int (nI c)), (3, .int (bI d))]) E.1 E.2.1 dX0_sortPicked_33 hl (by decide) rfl (fun ls hl => ?_)
    rw [← hA_0 q i] at hP
    refine w_lq1 (fun (h : Nat) => h ≤ i ∧ (∀ j, h ≤ j → j < i → bef d (T (q i) c) (T (q j) c) = true)) (fun (h : Nat) => h) (fun (h : Nat) => [(8, .int (nI h)), (4, .int (nI i)), (5, .int (nI (q i))), (6, .long (T (q i) c)), (0, .ref (ad 0)), (1, .int (nI m0)), (2, .int (nI c)), (3, .int (bI d))]) (fun (h : Nat) H locs => va_P D c2 (wX ad ca T n kc ko kv k lo hi bw bb (hA q h i)) H ∧ va_S (fA ad 10) s.heap H locs) i (⟨Nat.le_refl _, fun j h1 h2 => by omega⟩) ⟨hP, hS⟩ (lv_sub hl [0, 3, 2, 1, 4, 5, 6, 7] rfl) (fun h ls H locs hI hB hl ih35 => ?_)
    obtain ⟨hP, hS⟩ := hB
    have hl : lv_has ls 9 [(8, .int (nI h)), (4, .int (nI i)), (5, .int (nI (q i))), (6, .long (T (q i) c)), (0, .ref (ad 0)), (1, .int (nI m0)), (2, .int (nI c)), (3, .int (bI d))] := hl
    have hP : va_P D c2 (wX ad ca T n kc ko kv k lo hi bw bb (hA q h i)) H := hP
    obtain ⟨hh, hm⟩ := hI
    refine lv_iload E.1 E.2.1 dX0_sortPicked_35 (lv_at hl 0 rfl) ?_
    refine n_if_le (tgt := 89) E dX0_sortPicked_37 rfl (by omega) (fun h37 => ?_) (fun h37 => ?_)
    · skip
      refine lv_aload_n E.1 E.2.1 dX0_sortPicked_89 rfl (lv_at hl 4 rfl) ?_
      refine n_get E inX hK hP 0 rfl rfl 10 (by decide) flX_42 rfl rfl dX0_sortPicked_90 ?_
      refine lv_iload E.1 E.2.1 dX0_sortPicked_93 (lv_at hl 0 rfl) ?_
      refine lv_iload E.1 E.2.1 dX0_sortPicked_95 (lv_at hl 2 rfl) ?_
      refine n_iast E hK hP (dW hN rfl) hS 9 8 rfl rfl (by decide) (by omega) dX0_sortPicked_97 (fun H locs hP hS => ?_)
      have hP : va_P D c2 (wX ad ca T n kc ko kv k lo hi bw bb (fS (hA q h i) h (q i))) H := hP
      refine lv_iinc (k := 1) (v := nI (i + 1)) (lv' := [(4, .int (nI (i + 1))), (8, .int (nI h)), (5, .int (nI (q i))), (6, .long (T (q i) c)), (0, .ref (ad 0)), (1, .int (nI m0)), (2, .int (nI c)), (3, .int (bI d))]) E.1 E.2.1 dX0_sortPicked_98 hl rfl (inc1 _) (by decide) rfl (fun ls hl => ?_)
      refine lv_goto (tgt := 3) E.1 E.2.1 dX0_sortPicked_101 rfl ?_
      rw [hA_f] at hP
      exact ih3 (i + 1) (iA q h i) _ _ _ (⟨by omega, by omega, Sd.ins hSd hh (Or.inl h37) hm (fun j hj => by rw [hge i (Nat.le_refl i)]; exact hlt j i hj (Nat.le_refl i) (by omega)), fun j hj => by rw [iA_ge hh (by omega)]; exact hge j (by omega), (pm_iA q (show i < m0 by omega) (i - h) h (by omega)).tr hPm, fun j t h1 h2 h3 => iA_lt h1 (fun j hj => hlt j t hj (by omega) h3) (by rw [hge i (Nat.le_refl i)]; exact hup i t (by omega) h3)⟩) (by omega) ⟨hP, hS⟩ (lv_sub hl [0, 4, 5, 6, 7] rfl)
    · skip
      refine lv_lload E.1 E.2.1 dX0_sortPicked_40 (lv_at hl 3 rfl) ?_
      refine lv_aload_n E.1 E.2.1 dX0_sortPicked_42 rfl (lv_at hl 4 rfl) ?_
      refine n_get E inX hK hP 0 rfl rfl 0 (by decide) flX_9 rfl rfl dX0_sortPicked_43 ?_
      refine lv_aload_n E.1 E.2.1 dX0_sortPicked_46 rfl (lv_at hl 4 rfl) ?_
      refine n_get E inX hK hP 0 rfl rfl 10 (by decide) flX_42 rfl rfl dX0_sortPicked_47 ?_
      refine lv_iload E.1 E.2.1 dX0_sortPicked_50 (lv_at hl 0 rfl) ?_
      refine lv_iconst (v := nI 1) E.1 E.2.1 dX0_sortPicked_52 rfl ?_
      refine n_isub E (by omega) dX0_sortPicked_53 ?_
      have hq2 := hq128 (h - 1) (by omega)
      refine n_iald E hK hP 9 8 rfl rfl (by decide) (by omega) dX0_sortPicked_54 ?_
      refine tpi (y := nI (q (h - 1))) (congrArg nI (hA_at (by omega))) ?_
      refine lv_iload_n E.1 E.2.1 dX0_sortPicked_55 rfl (lv_at hl 6 rfl) ?_
      refine cS_i E (As := [.int (nI (q (h - 1))), .int (nI c)]) (rest := [.ref (ad 1), .long (T (q i) c)]) (cX_spot l (q (h - 1)) c) kX_52 rfl rfl ⟨Nat.le_of_ble_eq_true rfl, Nat.le_of_ble_eq_true rfl⟩ rfl hl.1 rfl (Nat.le_of_ble_eq_true rfl) dX0_sortPicked_56 ⟨Nat.zero_le _, Nat.zero_le _⟩ ?_
      refine n_cald E hK hP 1 0 rfl rfl (q (h - 1)) c (by omega) (by omega) (by omega) dX0_sortPicked_59 ?_
      refine lv_iload_n E.1 E.2.1 dX0_sortPicked_60 rfl (lv_at hl 7 rfl) ?_
      refine cS_i E (As := [.long (T (q i) c), .long (T (q (h - 1)) c), .int (bI d)]) (rest := []) (cX_comesBefore l (T (q i) c) (T (q (h - 1)) c) d) kX_155 rfl rfl ⟨Nat.le_of_ble_eq_true rfl, Nat.le_of_ble_eq_true rfl⟩ rfl hl.1 rfl (Nat.le_of_ble_eq_true rfl) dX0_sortPicked_61 ⟨Nat.zero_le _, Nat.zero_le _⟩ ?_
      refine b_if_eq (tgt := 89) E dX0_sortPicked_64 rfl (fun h64 => ?_) (fun h64 => ?_)
      · skip
        refine lv_aload_n E.1 E.2.1 dX0_sortPicked_89 rfl (lv_at hl 4 rfl) ?_
        refine n_get E inX hK hP 0 rfl rfl 10 (by decide) flX_42 rfl rfl dX0_sortPicked_90 ?_
        refine lv_iload E.1 E.2.1 dX0_sortPicked_93 (lv_at hl 0 rfl) ?_
        refine lv_iload E.1 E.2.1 dX0_sortPicked_95 (lv_at hl 2 rfl) ?_
        refine n_iast E hK hP (dW hN rfl) hS 9 8 rfl rfl (by decide) (by omega) dX0_sortPicked_97 (fun H locs hP hS => ?_)
        have hP : va_P D c2 (wX ad ca T n kc ko kv k lo hi bw bb (fS (hA q h i) h (q i))) H := hP
        refine lv_iinc (k := 1) (v := nI (i + 1)) (lv' := [(4, .int (nI (i + 1))), (8, .int (nI h)), (5, .int (nI (q i))), (6, .long (T (q i) c)), (0, .ref (ad 0)), (1, .int (nI m0)), (2, .int (nI c)), (3, .int (bI d))]) E.1 E.2.1 dX0_sortPicked_98 hl rfl (inc1 _) (by decide) rfl (fun ls hl => ?_)
        refine lv_goto (tgt := 3) E.1 E.2.1 dX0_sortPicked_101 rfl ?_
        rw [hA_f] at hP
        exact ih3 (i + 1) (iA q h i) _ _ _ (⟨by omega, by omega, Sd.ins hSd hh (Or.inr h64) hm (fun j hj => by rw [hge i (Nat.le_refl i)]; exact hlt j i hj (Nat.le_refl i) (by omega)), fun j hj => by rw [iA_ge hh (by omega)]; exact hge j (by omega), (pm_iA q (show i < m0 by omega) (i - h) h (by omega)).tr hPm, fun j t h1 h2 h3 => iA_lt h1 (fun j hj => hlt j t hj (by omega) h3) (by rw [hge i (Nat.le_refl i)]; exact hup i t (by omega) h3)⟩) (by omega) ⟨hP, hS⟩ (lv_sub hl [0, 4, 5, 6, 7] rfl)
      · skip
        refine lv_aload_n E.1 E.2.1 dX0_sortPicked_67 rfl (lv_at hl 4 rfl) ?_
        refine n_get E inX hK hP 0 rfl rfl 10 (by decide) flX_42 rfl rfl dX0_sortPicked_68 ?_
        refine lv_iload E.1 E.2.1 dX0_sortPicked_71 (lv_at hl 0 rfl) ?_
        refine lv_aload_n E.1 E.2.1 dX0_sortPicked_73 rfl (lv_at hl 4 rfl) ?_
        refine n_get E inX hK hP 0 rfl rfl 10 (by decide) flX_42 rfl rfl dX0_sortPicked_74 ?_
        refine lv_iload E.1 E.2.1 dX0_sortPicked_77 (lv_at hl 0 rfl) ?_
        refine lv_iconst (v := nI 1) E.1 E.2.1 dX0_sortPicked_79 rfl ?_
        refine n_isub E (by omega) dX0_sortPicked_80 ?_
        refine n_iald E hK hP 9 8 rfl rfl (by decide) (by omega) dX0_sortPicked_81 ?_
        refine tpi (y := nI (q (h - 1))) (congrArg nI (hA_at (by omega))) ?_
        refine n_iast E hK hP (dW hN rfl) hS 9 8 rfl rfl (by decide) (by omega) dX0_sortPicked_82 (fun H locs hP hS => ?_)
        have hP : va_P D c2 (wX ad ca T n kc ko kv k lo hi bw bb (fS (hA q h i) h (q (h - 1)))) H := hP
        refine lv_iinc (k := 0) (v := nI (h - 1)) (lv' := [(8, .int (nI (h - 1))), (4, .int (nI i)), (5, .int (nI (q i))), (6, .long (T (q i) c)), (0, .ref (ad 0)), (1, .int (nI m0)), (2, .int (nI c)), (3, .int (bI d))]) E.1 E.2.1 dX0_sortPicked_83 hl rfl (dec1 (by omega)) (by decide) rfl (fun ls hl => ?_)
        refine lv_goto (tgt := 35) E.1 E.2.1 dX0_sortPicked_86 rfl ?_
        rw [hA_s q (by omega) (by omega)] at hP
        exact ih35 (h - 1) _ _ _ (⟨by omega, hm_s hm h64⟩) (by omega) ⟨hP, hS⟩ (lv_sub hl [0, 1, 2, 3, 4, 5, 6, 7] rfl)
set_option maxHeartbeats 4000000 in
set_option maxRecDepth 100000 in
theorem cX_startsGroup (l : Launch) (D : va_G) (ad : Nat → Nat) (ca : Nat → ClassId) (T : Nat → Nat → Int64) (n : Nat) (kc ko : Nat → Nat) (kv : Nat → Int64) (k : Nat) (lo hi : Nat → Int64) (bw bb pk : Nat → Nat) (i c m0 : Nat) (hc : c < 4) (hi0 : i < m0) (hm128 : m0 ≤ 128) (hpk : ∀ j, j < m0 → pk j < 128) : Met l yX0_startsGroup (wA yX0_startsGroup cX0_startsGroup 3 (some .boolean)) (rN 1) (va_Pc [.ref (ad 0), .int (nI i), .int (nI c)] (pW D c2 (tX ca) (wX ad ca T n kc ko kv k lo hi bw bb pk))) (vp_Si (fun z => z = bI (sg T c pk i))) 0 0 (fun _ => False) := by
  refine met_of RX0 rfl (by decide) (Nat.le_of_ble_eq_true rfl) (fun p e s m below meth cd ls E hr hlk _ hB hl => ?_)
  obtain ⟨hP, hK⟩ := hB
  have hl : lv_has ls 3 [(0, .ref (ad 0)), (1, .int (nI i)), (2, .int (nI c))] := hl
  refine lv_iload_n E.1 E.2.1 dX0_startsGroup_0 rfl (lv_at hl 1 rfl) ?_
  refine n_if_eq (tgt := 40) E dX0_startsGroup_1 rfl (by omega) (fun h1 => ?_) (fun h1 => ?_)
  · skip
    refine lv_iconst (v := nI 1) E.1 E.2.1 dX0_startsGroup_40 rfl ?_
    refine lv_goto (tgt := 45) E.1 E.2.1 dX0_startsGroup_41 rfl ?_
    exact e_z E hr hlk (show _ = _ from congrArg bI (show true = _ from by simp [sg, h1])) dX0_startsGroup_45
  · skip
    have hq1 := hpk i (by omega)
    have hq2 := hpk (i - 1) (by omega)
    refine lv_aload_n E.1 E.2.1 dX0_startsGroup_4 rfl (lv_at hl 0 rfl) ?_
    refine n_get E inX hK hP 0 rfl rfl 0 (by decide) flX_9 rfl rfl dX0_startsGroup_5 ?_
    refine lv_aload_n E.1 E.2.1 dX0_startsGroup_8 rfl (lv_at hl 0 rfl) ?_
    refine n_get E inX hK hP 0 rfl rfl 10 (by decide) flX_42 rfl rfl dX0_startsGroup_9 ?_
    refine lv_iload_n E.1 E.2.1 dX0_startsGroup_12 rfl (lv_at hl 1 rfl) ?_
    refine n_iald E hK hP 9 8 rfl rfl (by decide) (by omega) dX0_startsGroup_13 ?_
    refine lv_iload_n E.1 E.2.1 dX0_startsGroup_14 rfl (lv_at hl 2 rfl) ?_
    refine cS_i E (As := [.int (nI (pk i)), .int (nI c)]) (rest := [.ref (ad 1)]) (cX_spot l (pk i) c) kX_52 rfl rfl ⟨Nat.le_of_ble_eq_true rfl, Nat.le_of_ble_eq_true rfl⟩ rfl hl.1 rfl (Nat.le_of_ble_eq_true rfl) dX0_startsGroup_15 ⟨Nat.zero_le _, Nat.zero_le _⟩ ?_
    refine n_cald E hK hP 1 0 rfl rfl (pk i) c (by omega) (by omega) (by omega) dX0_startsGroup_18 ?_
    refine lv_aload_n E.1 E.2.1 dX0_startsGroup_19 rfl (lv_at hl 0 rfl) ?_
    refine n_get E inX hK hP 0 rfl rfl 0 (by decide) flX_9 rfl rfl dX0_startsGroup_20 ?_
    refine lv_aload_n E.1 E.2.1 dX0_startsGroup_23 rfl (lv_at hl 0 rfl) ?_
    refine n_get E inX hK hP 0 rfl rfl 10 (by decide) flX_42 rfl rfl dX0_startsGroup_24 ?_
    refine lv_iload_n E.1 E.2.1 dX0_startsGroup_27 rfl (lv_at hl 1 rfl) ?_
    refine lv_iconst (v := nI 1) E.1 E.2.1 dX0_startsGroup_28 rfl ?_
    refine n_isub E (by omega) dX0_startsGroup_29 ?_
    refine n_iald E hK hP 9 8 rfl rfl (by decide) (by omega) dX0_startsGroup_30 ?_
    refine lv_iload_n E.1 E.2.1 dX0_startsGroup_31 rfl (lv_at hl 2 rfl) ?_
    refine cS_i E (As := [.int (nI (pk (i - 1))), .int (nI c)]) (rest := [.ref (ad 1), .long (T (pk i) c)]) (cX_spot l (pk (i - 1)) c) kX_52 rfl rfl ⟨Nat.le_of_ble_eq_true rfl, Nat.le_of_ble_eq_true rfl⟩ rfl hl.1 rfl (Nat.le_of_ble_eq_true rfl) dX0_startsGroup_32 ⟨Nat.zero_le _, Nat.zero_le _⟩ ?_
    refine n_cald E hK hP 1 0 rfl rfl (pk (i - 1)) c (by omega) (by omega) (by omega) dX0_startsGroup_35 ?_
    refine l_if_eq (tgt := 44) E dX0_startsGroup_36 dX0_startsGroup_37 rfl (fun h36 => ?_) (fun h36 => ?_)
    · skip
      refine lv_iconst (v := nI 0) E.1 E.2.1 dX0_startsGroup_44 rfl ?_
      exact e_z E hr hlk (show _ = _ from congrArg bI (show false = _ from by simp [sg, h1, h36])) dX0_startsGroup_45
    · skip
      refine lv_iconst (v := nI 1) E.1 E.2.1 dX0_startsGroup_40 rfl ?_
      refine lv_goto (tgt := 45) E.1 E.2.1 dX0_startsGroup_41 rfl ?_
      exact e_z E hr hlk (show _ = _ from congrArg bI (show true = _ from by simp [sg, h1, h36])) dX0_startsGroup_45
set_option maxHeartbeats 4000000 in
set_option maxRecDepth 100000 in
theorem cX_groupStart (l : Launch) (D : va_G) (ad : Nat → Nat) (ca : Nat → ClassId) (T : Nat → Nat → Int64) (n : Nat) (kc ko : Nat → Nat) (kv : Nat → Int64) (k : Nat) (lo hi : Nat → Int64) (bw bb pk : Nat → Nat) (x : Int32) (c m0 : Nat) (hc : c < 4) (hm128 : m0 ≤ 128) (hpk : ∀ j, j < m0 → pk j < 128) : Met l yX0_groupStart (wA yX0_groupStart cX0_groupStart 6 (some .int)) (rN 2) (va_Pc [.ref (ad 0), .int x, .int (nI c), .int (nI m0)] (pW D c2 (tX ca) (wX ad ca T n kc ko kv k lo hi bw bb pk))) (vp_Si (fun z => z = gsF (sg T c pk) x 0 m0)) 0 0 (fun _ => False) := by
  refine met_of RX0 rfl (by decide) (Nat.le_of_ble_eq_true rfl) (fun p e s m below meth cd ls E hr hlk _ hB hl => ?_)
  obtain ⟨hP, hK⟩ := hB
  have hl : lv_has ls 6 [(0, .ref (ad 0)), (1, .int x), (2, .int (nI c)), (3, .int (nI m0))] := hl
  refine lv_iconst (v := nI 0) E.1 E.2.1 dX0_groupStart_0 rfl ?_
  refine lv_istore (lv' := [(4, .int (nI 0)), (0, .ref (ad 0)), (1, .int x), (2, .int (nI c)), (3, .int (nI m0))]) E.1 E.2.1 dX0_groupStart_1 hl (by decide) rfl (fun ls hl => ?_)
  refine lv_iconst (v := nI 0) E.1 E.2.1 dX0_groupStart_3 rfl ?_
  refine lv_istore (lv' := [(5, .int (nI 0)), (4, .int (nI 0)), (0, .ref (ad 0)), (1, .int x), (2, .int (nI c)), (3, .int (nI m0))]) E.1 E.2.1 dX0_groupStart_4 hl (by decide) rfl (fun ls hl => ?_)
  refine w_lp1 (fun (i : Nat) => i ≤ m0 ∧ gsF (sg T c pk) x 0 m0 = gsF (sg T c pk) x i (m0 - i)) (fun (i : Nat) => m0 - i) (fun (i : Nat) => [(5, .int (nI i)), (4, .int (nI (ct (sg T c pk) i))), (0, .ref (ad 0)), (1, .int x), (2, .int (nI c)), (3, .int (nI m0))]) 0 (⟨Nat.zero_le _, rfl⟩) (lv_sub hl [0, 1, 2, 3, 4, 5] rfl) (fun i ls hI hl ih6 => ?_)
  have hl : lv_has ls 6 [(5, .int (nI i)), (4, .int (nI (ct (sg T c pk) i))), (0, .ref (ad 0)), (1, .int x), (2, .int (nI c)), (3, .int (nI m0))] := hl
  obtain ⟨hi0, hgs⟩ := hI
  refine lv_iload E.1 E.2.1 dX0_groupStart_6 (lv_at hl 0 rfl) ?_
  refine lv_iload_n E.1 E.2.1 dX0_groupStart_8 rfl (lv_at hl 5 rfl) ?_
  refine n_icmp_ge (tgt := 40) E dX0_groupStart_9 rfl (by omega) (by omega) (fun h9 => ?_) (fun h9 => ?_)
  · skip
    refine lv_iconst (v := -1) E.1 E.2.1 dX0_groupStart_40 rfl ?_
    exact e_i E hr hlk (by rw [hgs, show m0 - i = 0 by omega]; rfl) dX0_groupStart_41
  · skip
    refine lv_aload_n E.1 E.2.1 dX0_groupStart_12 rfl (lv_at hl 2 rfl) ?_
    refine lv_iload E.1 E.2.1 dX0_groupStart_13 (lv_at hl 0 rfl) ?_
    refine lv_iload_n E.1 E.2.1 dX0_groupStart_15 rfl (lv_at hl 4 rfl) ?_
    refine cV_i E (As := [.int (nI i), .int (nI c)]) (rest := []) (cX_startsGroup l D ad ca T n kc ko kv k lo hi bw bb pk i c m0  (by omega) (by omega) (by omega) hpk) kX_105 hK hP 0 rfl rfl rfl rfl ⟨Nat.le_of_ble_eq_true rfl, Nat.le_of_ble_eq_true rfl⟩ rfl hl.1 rfl (Nat.le_of_ble_eq_true rfl) dX0_groupStart_16 ⟨Nat.zero_le _, Nat.zero_le _⟩ ?_
    refine b_if_eq (tgt := 34) E dX0_groupStart_19 rfl (fun h19 => ?_) (fun h19 => ?_)
    · skip
      refine lv_iinc (k := 0) (v := nI (i + 1)) (lv' := [(5, .int (nI (i + 1))), (4, .int (nI (ct (sg T c pk) i))), (0, .ref (ad 0)), (1, .int x), (2, .int (nI c)), (3, .int (nI m0))]) E.1 E.2.1 dX0_groupStart_34 hl rfl (inc1 _) (by decide) rfl (fun ls hl => ?_)
      refine lv_goto (tgt := 6) E.1 E.2.1 dX0_groupStart_37 rfl ?_
      rw [← ct_f h19] at hl
      have hgs2 : gsF (sg T c pk) x 0 m0 = gsF (sg T c pk) x (i + 1) (m0 - (i + 1)) := by rw [hgs, show m0 - i = (m0 - (i + 1)) + 1 by omega, gsF, if_neg (by rw [h19, Bool.false_and]; decide)]
      exact ih6 (i + 1) _ (⟨by omega, hgs2⟩) (by omega) (lv_sub hl [0, 1, 2, 3, 4, 5] rfl)
    · skip
      refine lv_iload E.1 E.2.1 dX0_groupStart_22 (lv_at hl 1 rfl) ?_
      refine lv_iload_n E.1 E.2.1 dX0_groupStart_24 rfl (lv_at hl 3 rfl) ?_
      refine lv_icmp_ne (tgt := 31) E.1 E.2.1 dX0_groupStart_25 rfl (fun h25 => ?_) (fun h25 => ?_)
      · skip
        refine lv_iinc (k := 1) (v := nI (ct (sg T c pk) i + 1)) (lv' := [(4, .int (nI (ct (sg T c pk) i + 1))), (5, .int (nI i)), (0, .ref (ad 0)), (1, .int x), (2, .int (nI c)), (3, .int (nI m0))]) E.1 E.2.1 dX0_groupStart_31 hl rfl (inc1 _) (by decide) rfl (fun ls hl => ?_)
        refine lv_iinc (k := 1) (v := nI (i + 1)) (lv' := [(5, .int (nI (i + 1))), (4, .int (nI (ct (sg T c pk) i + 1))), (0, .ref (ad 0)), (1, .int x), (2, .int (nI c)), (3, .int (nI m0))]) E.1 E.2.1 dX0_groupStart_34 hl rfl (inc1 _) (by decide) rfl (fun ls hl => ?_)
        refine lv_goto (tgt := 6) E.1 E.2.1 dX0_groupStart_37 rfl ?_
        rw [← ct_t h19] at hl
        have hgs2 : gsF (sg T c pk) x 0 m0 = gsF (sg T c pk) x (i + 1) (m0 - (i + 1)) := by rw [hgs, show m0 - i = (m0 - (i + 1)) + 1 by omega, gsF, if_neg (by rw [decide_eq_false h25, Bool.and_false]; decide)]
        exact ih6 (i + 1) _ (⟨by omega, hgs2⟩) (by omega) (lv_sub hl [0, 1, 2, 3, 4, 5] rfl)
      · skip
        refine lv_iload E.1 E.2.1 dX0_groupStart_28 (lv_at hl 0 rfl) ?_
        exact e_i E hr hlk (by rw [hgs, show m0 - i = (m0 - (i + 1)) + 1 by omega, gsF, if_pos (by rw [h19, decide_eq_true h25]; rfl)]) dX0_groupStart_30
set_option maxHeartbeats 4000000 in
set_option maxRecDepth 100000 in
theorem cX_groupEnd (l : Launch) (D : va_G) (ad : Nat → Nat) (ca : Nat → ClassId) (T : Nat → Nat → Int64) (n : Nat) (kc ko : Nat → Nat) (kv : Nat → Int64) (k : Nat) (lo hi : Nat → Int64) (bw bb pk : Nat → Nat) (a c m0 : Nat) (hc : c < 4) (ha0 : a < m0) (hm128 : m0 ≤ 128) (hpk : ∀ j, j < m0 → pk j < 128) : Met l yX0_groupEnd (wA yX0_groupEnd cX0_groupEnd 5 (some .int)) (rN 2) (va_Pc [.ref (ad 0), .int (nI a), .int (nI c), .int (nI m0)] (pW D c2 (tX ca) (wX ad ca T n kc ko kv k lo hi bw bb pk))) (vp_Si (fun z => z = nI (gE (sg T c pk) (a + 1) (m0 - (a + 1))))) 0 0 (fun _ => False) := by
  refine met_of RX0 rfl (by decide) (Nat.le_of_ble_eq_true rfl) (fun p e s m below meth cd ls E hr hlk _ hB hl => ?_)
  obtain ⟨hP, hK⟩ := hB
  have hl : lv_has ls 5 [(0, .ref (ad 0)), (1, .int (nI a)), (2, .int (nI c)), (3, .int (nI m0))] := hl
  refine lv_iload_n E.1 E.2.1 dX0_groupEnd_0 rfl (lv_at hl 1 rfl) ?_
  refine lv_iconst (v := nI 1) E.1 E.2.1 dX0_groupEnd_1 rfl ?_
  refine n_iadd E dX0_groupEnd_2 ?_
  refine lv_istore (lv' := [(4, .int (nI (a + 1))), (0, .ref (ad 0)), (1, .int (nI a)), (2, .int (nI c)), (3, .int (nI m0))]) E.1 E.2.1 dX0_groupEnd_3 hl (by decide) rfl (fun ls hl => ?_)
  refine w_lp1 (fun (i : Nat) => a < i ∧ i ≤ m0 ∧ gE (sg T c pk) (a + 1) (m0 - (a + 1)) = gE (sg T c pk) i (m0 - i)) (fun (i : Nat) => m0 - i) (fun (i : Nat) => [(4, .int (nI i)), (0, .ref (ad 0)), (1, .int (nI a)), (2, .int (nI c)), (3, .int (nI m0))]) (a + 1) (⟨by omega, by omega, rfl⟩) (lv_sub hl [0, 1, 2, 3, 4] rfl) (fun i ls hI hl ih5 => ?_)
  have hl : lv_has ls 5 [(4, .int (nI i)), (0, .ref (ad 0)), (1, .int (nI a)), (2, .int (nI c)), (3, .int (nI m0))] := hl
  obtain ⟨hi1, hi0, hgs⟩ := hI
  refine lv_iload E.1 E.2.1 dX0_groupEnd_5 (lv_at hl 0 rfl) ?_
  refine lv_iload_n E.1 E.2.1 dX0_groupEnd_7 rfl (lv_at hl 4 rfl) ?_
  refine n_icmp_ge (tgt := 30) E dX0_groupEnd_8 rfl (by omega) (by omega) (fun h8 => ?_) (fun h8 => ?_)
  · skip
    refine lv_iload_n E.1 E.2.1 dX0_groupEnd_30 rfl (lv_at hl 4 rfl) ?_
    exact e_i E hr hlk (by rw [hgs, show m0 - i = 0 by omega, gE, show m0 = i by omega]) dX0_groupEnd_31
  · skip
    refine lv_aload_n E.1 E.2.1 dX0_groupEnd_11 rfl (lv_at hl 1 rfl) ?_
    refine lv_iload E.1 E.2.1 dX0_groupEnd_12 (lv_at hl 0 rfl) ?_
    refine lv_iload_n E.1 E.2.1 dX0_groupEnd_14 rfl (lv_at hl 3 rfl) ?_
    refine cV_i E (As := [.int (nI i), .int (nI c)]) (rest := []) (cX_startsGroup l D ad ca T n kc ko kv k lo hi bw bb pk i c m0  (by omega) (by omega) (by omega) hpk) kX_105 hK hP 0 rfl rfl rfl rfl ⟨Nat.le_of_ble_eq_true rfl, Nat.le_of_ble_eq_true rfl⟩ rfl hl.1 rfl (Nat.le_of_ble_eq_true rfl) dX0_groupEnd_15 ⟨Nat.zero_le _, Nat.zero_le _⟩ ?_
    refine b_if_eq (tgt := 24) E dX0_groupEnd_18 rfl (fun h18 => ?_) (fun h18 => ?_)
    · skip
      refine lv_iinc (k := 0) (v := nI (i + 1)) (lv' := [(4, .int (nI (i + 1))), (0, .ref (ad 0)), (1, .int (nI a)), (2, .int (nI c)), (3, .int (nI m0))]) E.1 E.2.1 dX0_groupEnd_24 hl rfl (inc1 _) (by decide) rfl (fun ls hl => ?_)
      refine lv_goto (tgt := 5) E.1 E.2.1 dX0_groupEnd_27 rfl ?_
      have hgs2 : gE (sg T c pk) (a + 1) (m0 - (a + 1)) = gE (sg T c pk) (i + 1) (m0 - (i + 1)) := by rw [hgs, show m0 - i = (m0 - (i + 1)) + 1 by omega, gE, if_neg (by rw [h18]; decide)]
      exact ih5 (i + 1) _ (⟨by omega, by omega, hgs2⟩) (by omega) (lv_sub hl [0, 1, 2, 3, 4] rfl)
    · skip
      refine lv_iload E.1 E.2.1 dX0_groupEnd_21 (lv_at hl 0 rfl) ?_
      exact e_i E hr hlk (by rw [hgs, show m0 - i = (m0 - (i + 1)) + 1 by omega, gE, if_pos h18]) dX0_groupEnd_23
