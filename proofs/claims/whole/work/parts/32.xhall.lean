/-! The hall where it throws: laid by program. -/
set_option maxHeartbeats 4000000 in
set_option maxRecDepth 100000 in
theorem xX_refuseBadColumn (l : Launch) (D : va_G) (ad : Nat → Nat) (ca : Nat → ClassId) (T : Nat → Nat → Int64) (n : Nat) (kc ko : Nat → Nat) (kv : Nat → Int64) (k : Nat) (lo hi : Nat → Int64) (bw bb pk : Nat → Nat) (lz : Nat) (sa : Nat → Nat) (x : Int32) (hx : x < 0 ∨ nI 4 ≤ x) (hlt : l.stackTraces = false) (hlo : ∀ q, fA ad 10 q → lz ≤ q) : vx_Met l yX0_refuseBadColumn (wA yX0_refuseBadColumn cX0_refuseBadColumn 1 none) (rX 0) (va_Pc [.int x] (pZ D c2 (tX ca) (wX ad ca T n kc ko kv k lo hi bw bb pk) lz sa)) qX (xX cIAE (fun (_ : Unit) => True) D c2 (fun _ => wX ad ca T n kc ko kv k lo hi bw bb pk) (fA ad 10)) 1 6 (fun q => lz ≤ q) := by
  refine xmet_of RX0 rfl (by decide) (Nat.le_of_ble_eq_true rfl) (fun p e s m below meth cd ls E hr hlk hex hB hl => ?_)
  obtain ⟨hP, hK, hZ⟩ := hB
  have hl : lv_has ls 1 [(0, .int x)] := hl
  have hS : va_S (fA ad 10) s.heap s.heap [] := va_S.rf
  refine lv_iload_n E.1 E.2.1 dX0_refuseBadColumn_0 rfl (lv_at hl 0 rfl) ?_
  refine lv_if_lt (tgt := 9) E.1 E.2.1 dX0_refuseBadColumn_1 rfl (fun h1 => ?_) (fun h1 => ?_)
  · skip
    exact x_thr E hlt hZ xK_IAE 8 (by decide) rfl hS hlo hl.1 dX0_refuseBadColumn_9 dX0_refuseBadColumn_12 dX0_refuseBadColumn_13 dX0_refuseBadColumn_15 dX0_refuseBadColumn_18 hex (Nat.le_of_ble_eq_true rfl) (Nat.le_of_ble_eq_true rfl) (Nat.le_of_ble_eq_true rfl) (Nat.le_of_ble_eq_true rfl) hlk () trivial hP
  · skip
    refine lv_iload_n E.1 E.2.1 dX0_refuseBadColumn_4 rfl (lv_at hl 0 rfl) ?_
    refine lv_iconst (v := nI 4) E.1 E.2.1 dX0_refuseBadColumn_5 rfl ?_
    refine lv_icmp_lt (tgt := 19) E.1 E.2.1 dX0_refuseBadColumn_6 rfl (fun h6 => ?_) (fun h6 => ?_)
    · skip
      exact (bad_no hx h1 h6).elim
    · skip
      exact x_thr E hlt hZ xK_IAE 8 (by decide) rfl hS hlo hl.1 dX0_refuseBadColumn_9 dX0_refuseBadColumn_12 dX0_refuseBadColumn_13 dX0_refuseBadColumn_15 dX0_refuseBadColumn_18 hex (Nat.le_of_ble_eq_true rfl) (Nat.le_of_ble_eq_true rfl) (Nat.le_of_ble_eq_true rfl) (Nat.le_of_ble_eq_true rfl) hlk () trivial hP
set_option maxHeartbeats 4000000 in
set_option maxRecDepth 100000 in
theorem xX_refuseUnpackedBlock (l : Launch) (D : va_G) (ad : Nat → Nat) (ca : Nat → ClassId) (T : Nat → Nat → Int64) (n : Nat) (kc ko : Nat → Nat) (kv : Nat → Int64) (k : Nat) (lo hi : Nat → Int64) (bw bb pk : Nat → Nat) (lz : Nat) (sa : Nat → Nat) (y : Int32) (hn128 : n ≤ 128) (hy : y < 0 ∨ nI (n / 16) ≤ y) (hlt : l.stackTraces = false) (hlo : ∀ q, fA ad 10 q → lz ≤ q) : vx_Met l yX0_refuseUnpackedBlock (wA yX0_refuseUnpackedBlock cX0_refuseUnpackedBlock 2 none) (rX 1) (va_Pc [.ref (ad 0), .int y] (pZ D c2 (tX ca) (wX ad ca T n kc ko kv k lo hi bw bb pk) lz sa)) qX (xX cIOB (fun (_ : Unit) => True) D c2 (fun _ => wX ad ca T n kc ko kv k lo hi bw bb pk) (fA ad 10)) 1 6 (fun q => lz ≤ q) := by
  refine xmet_of RX0 rfl (by decide) (Nat.le_of_ble_eq_true rfl) (fun p e s m below meth cd ls E hr hlk hex hB hl => ?_)
  obtain ⟨hP, hK, hZ⟩ := hB
  have hl : lv_has ls 2 [(0, .ref (ad 0)), (1, .int y)] := hl
  have hS : va_S (fA ad 10) s.heap s.heap [] := va_S.rf
  refine lv_iload_n E.1 E.2.1 dX0_refuseUnpackedBlock_0 rfl (lv_at hl 1 rfl) ?_
  refine lv_if_lt (tgt := 12) E.1 E.2.1 dX0_refuseUnpackedBlock_1 rfl (fun h1 => ?_) (fun h1 => ?_)
  · skip
    exact x_thr E hlt hZ xK_IOB 9 (by decide) rfl hS hlo hl.1 dX0_refuseUnpackedBlock_12 dX0_refuseUnpackedBlock_15 dX0_refuseUnpackedBlock_16 dX0_refuseUnpackedBlock_18 dX0_refuseUnpackedBlock_21 hex (Nat.le_of_ble_eq_true rfl) (Nat.le_of_ble_eq_true rfl) (Nat.le_of_ble_eq_true rfl) (Nat.le_of_ble_eq_true rfl) hlk () trivial hP
  · skip
    refine lv_iload_n E.1 E.2.1 dX0_refuseUnpackedBlock_4 rfl (lv_at hl 1 rfl) ?_
    refine lv_aload_n E.1 E.2.1 dX0_refuseUnpackedBlock_5 rfl (lv_at hl 0 rfl) ?_
    refine cV_i E (As := []) (rest := [.int y]) (cX_fullBlocks l D ad ca T n kc ko kv k lo hi bw bb pk (by omega)) kX_135 hK hP 0 rfl rfl rfl rfl ⟨Nat.le_of_ble_eq_true rfl, Nat.le_of_ble_eq_true rfl⟩ rfl hl.1 rfl (Nat.le_of_ble_eq_true rfl) dX0_refuseUnpackedBlock_6 ⟨Nat.zero_le _, Nat.zero_le _⟩ ?_
    refine lv_icmp_lt (tgt := 22) E.1 E.2.1 dX0_refuseUnpackedBlock_9 rfl (fun h9 => ?_) (fun h9 => ?_)
    · skip
      exact (bad_no hy h1 h9).elim
    · skip
      exact x_thr E hlt hZ xK_IOB 9 (by decide) rfl hS hlo hl.1 dX0_refuseUnpackedBlock_12 dX0_refuseUnpackedBlock_15 dX0_refuseUnpackedBlock_16 dX0_refuseUnpackedBlock_18 dX0_refuseUnpackedBlock_21 hex (Nat.le_of_ble_eq_true rfl) (Nat.le_of_ble_eq_true rfl) (Nat.le_of_ble_eq_true rfl) (Nat.le_of_ble_eq_true rfl) hlk () trivial hP
set_option maxHeartbeats 4000000 in
set_option maxRecDepth 100000 in
theorem xX_append (l : Launch) (D : va_G) (ad : Nat → Nat) (ca : Nat → ClassId) (T : Nat → Nat → Int64) (n : Nat) (kc ko : Nat → Nat) (kv : Nat → Int64) (k : Nat) (lo hi : Nat → Int64) (bw bb pk : Nat → Nat) (lz : Nat) (sa : Nat → Nat) (a0 b0 c0 : Int32) (d0 : Int64) (hn : n = 128) (hlt : l.stackTraces = false) (hlo : ∀ q, fA ad 10 q → lz ≤ q) : vx_Met l yX0_append (wA yX0_append cX0_append 7 (some .int)) (rX 0) (va_Pc [.ref (ad 0), .int a0, .int b0, .int c0, .long d0] (pZ D c2 (tX ca) (wX ad ca T n kc ko kv k lo hi bw bb pk) lz sa)) qX (xX cISE (fun (_ : Unit) => True) D c2 (fun _ => wX ad ca T n kc ko kv k lo hi bw bb pk) (fA ad 10)) 1 6 (fun q => lz ≤ q) := by
  refine xmet_of RX0 rfl (by decide) (Nat.le_of_ble_eq_true rfl) (fun p e s m below meth cd ls E hr hlk hex hB hl => ?_)
  obtain ⟨hP, hK, hZ⟩ := hB
  have hl : lv_has ls 7 [(0, .ref (ad 0)), (1, .int a0), (2, .int b0), (3, .int c0), (4, .long d0)] := hl
  have hS : va_S (fA ad 10) s.heap s.heap [] := va_S.rf
  refine lv_aload_n E.1 E.2.1 dX0_append_0 rfl (lv_at hl 0 rfl) ?_
  refine n_get E inX hK hP 0 rfl rfl 1 (by decide) flX_13 rfl rfl dX0_append_1 ?_
  refine lv_sipush (v := nI 128) E.1 E.2.1 dX0_append_4 rfl ?_
  refine n_icmp_lt (tgt := 20) E dX0_append_7 rfl (by omega) (by omega) (fun h7 => ?_) (fun h7 => ?_)
  · skip
    exfalso; omega
  · skip
    exact x_thr E hlt hZ xK_ISE 0 (by decide) rfl hS hlo hl.1 dX0_append_10 dX0_append_13 dX0_append_14 dX0_append_16 dX0_append_19 hex (Nat.le_of_ble_eq_true rfl) (Nat.le_of_ble_eq_true rfl) (Nat.le_of_ble_eq_true rfl) (Nat.le_of_ble_eq_true rfl) hlk () trivial hP
set_option maxHeartbeats 4000000 in
set_option maxRecDepth 100000 in
theorem xX_cell1 (l : Launch) (D : va_G) (ad : Nat → Nat) (ca : Nat → ClassId) (T : Nat → Nat → Int64) (n : Nat) (kc ko : Nat → Nat) (kv : Nat → Int64) (k : Nat) (lo hi : Nat → Int64) (bw bb pk : Nat → Nat) (lz : Nat) (sa : Nat → Nat) (y x : Int32) (hx : x < 0 ∨ nI 4 ≤ x) (hlt : l.stackTraces = false) (hlo : ∀ q, fA ad 10 q → lz ≤ q) : vx_Met l yX0_cell (wA yX0_cell cX0_cell 3 (some .long)) (rX 1) (va_Pc [.ref (ad 0), .int y, .int x] (pZ D c2 (tX ca) (wX ad ca T n kc ko kv k lo hi bw bb pk) lz sa)) qX (xX cIAE (fun (_ : Unit) => True) D c2 (fun _ => wX ad ca T n kc ko kv k lo hi bw bb pk) (fA ad 10)) 1 6 (fun q => lz ≤ q) := by
  refine xmet_of RX0 rfl (by decide) (Nat.le_of_ble_eq_true rfl) (fun p e s m below meth cd ls E hr hlk hex hB hl => ?_)
  obtain ⟨hP, hK, hZ⟩ := hB
  have hl : lv_has ls 3 [(0, .ref (ad 0)), (1, .int y), (2, .int x)] := hl
  have hS : va_S (fA ad 10) s.heap s.heap [] := va_S.rf
  refine lv_iload_n E.1 E.2.1 dX0_cell_0 rfl (lv_at hl 2 rfl) ?_
  exact x_goX (Nat.le_of_ble_eq_true rfl) (Nat.le_of_ble_eq_true rfl) (xrun_S E (As := [.int x]) (rest := []) (xX_refuseBadColumn l D ad ca T n kc ko kv k lo hi bw bb pk lz sa x hx hlt hlo) kX_60 rfl rfl ⟨Nat.le_of_ble_eq_true rfl, Nat.le_of_ble_eq_true rfl⟩ (preZ hK hP hZ _) rfl hl.1 rfl (Nat.le_of_ble_eq_true rfl) dX0_cell_1 ⟨Nat.le_of_ble_eq_true rfl, Nat.le_of_ble_eq_true rfl⟩) hS hlo hex hlk
set_option maxHeartbeats 4000000 in
set_option maxRecDepth 100000 in
theorem xX_cell2 (l : Launch) (D : va_G) (ad : Nat → Nat) (ca : Nat → ClassId) (T : Nat → Nat → Int64) (n : Nat) (kc ko : Nat → Nat) (kv : Nat → Int64) (k : Nat) (lo hi : Nat → Int64) (bw bb pk : Nat → Nat) (lz : Nat) (sa : Nat → Nat) (y : Int32) (c : Nat) (hc : c < 4) (hy : y < 0 ∨ nI n ≤ y) (hlt : l.stackTraces = false) (hlo : ∀ q, fA ad 10 q → lz ≤ q) : vx_Met l yX0_cell (wA yX0_cell cX0_cell 3 (some .long)) (rX 1) (va_Pc [.ref (ad 0), .int y, .int (nI c)] (pZ D c2 (tX ca) (wX ad ca T n kc ko kv k lo hi bw bb pk) lz sa)) qX (xX cIOB (fun (_ : Unit) => True) D c2 (fun _ => wX ad ca T n kc ko kv k lo hi bw bb pk) (fA ad 10)) 1 6 (fun q => lz ≤ q) := by
  refine xmet_of RX0 rfl (by decide) (Nat.le_of_ble_eq_true rfl) (fun p e s m below meth cd ls E hr hlk hex hB hl => ?_)
  obtain ⟨hP, hK, hZ⟩ := hB
  have hl : lv_has ls 3 [(0, .ref (ad 0)), (1, .int y), (2, .int (nI c))] := hl
  have hS : va_S (fA ad 10) s.heap s.heap [] := va_S.rf
  refine lv_iload_n E.1 E.2.1 dX0_cell_0 rfl (lv_at hl 2 rfl) ?_
  refine cS_v E (As := [.int (nI c)]) (rest := []) (cX_refuseBadColumn l c (by omega)) kX_60 rfl rfl ⟨Nat.le_of_ble_eq_true rfl, Nat.le_of_ble_eq_true rfl⟩ rfl hl.1 rfl (Nat.le_of_ble_eq_true rfl) dX0_cell_1 ⟨Nat.zero_le _, Nat.zero_le _⟩ ?_
  refine lv_iload_n E.1 E.2.1 dX0_cell_4 rfl (lv_at hl 1 rfl) ?_
  refine lv_if_lt (tgt := 16) E.1 E.2.1 dX0_cell_5 rfl (fun h5 => ?_) (fun h5 => ?_)
  · skip
    exact x_thr E hlt hZ xK_IOB 1 (by decide) rfl hS hlo hl.1 dX0_cell_16 dX0_cell_19 dX0_cell_20 dX0_cell_22 dX0_cell_25 hex (Nat.le_of_ble_eq_true rfl) (Nat.le_of_ble_eq_true rfl) (Nat.le_of_ble_eq_true rfl) (Nat.le_of_ble_eq_true rfl) hlk () trivial hP
  · skip
    refine lv_iload_n E.1 E.2.1 dX0_cell_8 rfl (lv_at hl 1 rfl) ?_
    refine lv_aload_n E.1 E.2.1 dX0_cell_9 rfl (lv_at hl 0 rfl) ?_
    refine n_get E inX hK hP 0 rfl rfl 1 (by decide) flX_13 rfl rfl dX0_cell_10 ?_
    refine lv_icmp_lt (tgt := 26) E.1 E.2.1 dX0_cell_13 rfl (fun h13 => ?_) (fun h13 => ?_)
    · skip
      exact (bad_no hy h5 h13).elim
    · skip
      exact x_thr E hlt hZ xK_IOB 1 (by decide) rfl hS hlo hl.1 dX0_cell_16 dX0_cell_19 dX0_cell_20 dX0_cell_22 dX0_cell_25 hex (Nat.le_of_ble_eq_true rfl) (Nat.le_of_ble_eq_true rfl) (Nat.le_of_ble_eq_true rfl) (Nat.le_of_ble_eq_true rfl) hlk () trivial hP
set_option maxHeartbeats 4000000 in
set_option maxRecDepth 100000 in
theorem xX_where1 (l : Launch) (D : va_G) (ad : Nat → Nat) (ca : Nat → ClassId) (T : Nat → Nat → Int64) (n : Nat) (kc ko : Nat → Nat) (kv : Nat → Int64) (k : Nat) (lo hi : Nat → Int64) (bw bb pk : Nat → Nat) (lz : Nat) (sa : Nat → Nat) (x y : Int32) (v : Int64) (hx : x < 0 ∨ nI 4 ≤ x) (hlt : l.stackTraces = false) (hlo : ∀ q, fA ad 10 q → lz ≤ q) : vx_Met l yX0_where (wA yX0_where cX0_where 5 (some .int)) (rX 1) (va_Pc [.ref (ad 0), .int x, .int y, .long v] (pZ D c2 (tX ca) (wX ad ca T n kc ko kv k lo hi bw bb pk) lz sa)) qX (xX cIAE (fun (_ : Unit) => True) D c2 (fun _ => wX ad ca T n kc ko kv k lo hi bw bb pk) (fA ad 10)) 1 6 (fun q => lz ≤ q) := by
  refine xmet_of RX0 rfl (by decide) (Nat.le_of_ble_eq_true rfl) (fun p e s m below meth cd ls E hr hlk hex hB hl => ?_)
  obtain ⟨hP, hK, hZ⟩ := hB
  have hl : lv_has ls 5 [(0, .ref (ad 0)), (1, .int x), (2, .int y), (3, .long v)] := hl
  have hS : va_S (fA ad 10) s.heap s.heap [] := va_S.rf
  refine lv_iload_n E.1 E.2.1 dX0_where_0 rfl (lv_at hl 1 rfl) ?_
  exact x_goX (Nat.le_of_ble_eq_true rfl) (Nat.le_of_ble_eq_true rfl) (xrun_S E (As := [.int x]) (rest := []) (xX_refuseBadColumn l D ad ca T n kc ko kv k lo hi bw bb pk lz sa x hx hlt hlo) kX_60 rfl rfl ⟨Nat.le_of_ble_eq_true rfl, Nat.le_of_ble_eq_true rfl⟩ (preZ hK hP hZ _) rfl hl.1 rfl (Nat.le_of_ble_eq_true rfl) dX0_where_1 ⟨Nat.le_of_ble_eq_true rfl, Nat.le_of_ble_eq_true rfl⟩) hS hlo hex hlk
set_option maxHeartbeats 4000000 in
set_option maxRecDepth 100000 in
theorem xX_where1o (l : Launch) (D : va_G) (ad : Nat → Nat) (ca : Nat → ClassId) (T : Nat → Nat → Int64) (n : Nat) (kc ko : Nat → Nat) (kv : Nat → Int64) (k : Nat) (lo hi : Nat → Int64) (bw bb pk : Nat → Nat) (lz : Nat) (sa : Nat → Nat) (c : Nat) (y : Int32) (v : Int64) (hc : c < 4) (hy : y < 0 ∨ nI 5 < y) (hlt : l.stackTraces = false) (hlo : ∀ q, fA ad 10 q → lz ≤ q) : vx_Met l yX0_where (wA yX0_where cX0_where 5 (some .int)) (rX 1) (va_Pc [.ref (ad 0), .int (nI c), .int y, .long v] (pZ D c2 (tX ca) (wX ad ca T n kc ko kv k lo hi bw bb pk) lz sa)) qX (xX cIAE (fun (_ : Unit) => True) D c2 (fun _ => wX ad ca T n kc ko kv k lo hi bw bb pk) (fA ad 10)) 1 6 (fun q => lz ≤ q) := by
  refine xmet_of RX0 rfl (by decide) (Nat.le_of_ble_eq_true rfl) (fun p e s m below meth cd ls E hr hlk hex hB hl => ?_)
  obtain ⟨hP, hK, hZ⟩ := hB
  have hl : lv_has ls 5 [(0, .ref (ad 0)), (1, .int (nI c)), (2, .int y), (3, .long v)] := hl
  have hS : va_S (fA ad 10) s.heap s.heap [] := va_S.rf
  refine lv_iload_n E.1 E.2.1 dX0_where_0 rfl (lv_at hl 1 rfl) ?_
  refine cS_v E (As := [.int (nI c)]) (rest := []) (cX_refuseBadColumn l c (by omega)) kX_60 rfl rfl ⟨Nat.le_of_ble_eq_true rfl, Nat.le_of_ble_eq_true rfl⟩ rfl hl.1 rfl (Nat.le_of_ble_eq_true rfl) dX0_where_1 ⟨Nat.zero_le _, Nat.zero_le _⟩ ?_
  refine lv_iload_n E.1 E.2.1 dX0_where_4 rfl (lv_at hl 2 rfl) ?_
  refine lv_if_lt (tgt := 13) E.1 E.2.1 dX0_where_5 rfl (fun h5 => ?_) (fun h5 => ?_)
  · skip
    exact x_thr E hlt hZ xK_IAE 2 (by decide) rfl hS hlo hl.1 dX0_where_13 dX0_where_16 dX0_where_17 dX0_where_19 dX0_where_22 hex (Nat.le_of_ble_eq_true rfl) (Nat.le_of_ble_eq_true rfl) (Nat.le_of_ble_eq_true rfl) (Nat.le_of_ble_eq_true rfl) hlk () trivial hP
  · skip
    refine lv_iload_n E.1 E.2.1 dX0_where_8 rfl (lv_at hl 2 rfl) ?_
    refine lv_iconst (v := nI 5) E.1 E.2.1 dX0_where_9 rfl ?_
    refine lv_icmp_le (tgt := 23) E.1 E.2.1 dX0_where_10 rfl (fun h10 => ?_) (fun h10 => ?_)
    · skip
      exact (bad_le hy h5 h10).elim
    · skip
      exact x_thr E hlt hZ xK_IAE 2 (by decide) rfl hS hlo hl.1 dX0_where_13 dX0_where_16 dX0_where_17 dX0_where_19 dX0_where_22 hex (Nat.le_of_ble_eq_true rfl) (Nat.le_of_ble_eq_true rfl) (Nat.le_of_ble_eq_true rfl) (Nat.le_of_ble_eq_true rfl) hlk () trivial hP
set_option maxHeartbeats 4000000 in
set_option maxRecDepth 100000 in
theorem xX_where2 (l : Launch) (D : va_G) (ad : Nat → Nat) (ca : Nat → ClassId) (T : Nat → Nat → Int64) (n : Nat) (kc ko : Nat → Nat) (kv : Nat → Int64) (k : Nat) (lo hi : Nat → Int64) (bw bb pk : Nat → Nat) (lz : Nat) (sa : Nat → Nat) (c o : Nat) (v : Int64) (hk : k = 3) (hc : c < 4) (ho : o < 6) (hlt : l.stackTraces = false) (hlo : ∀ q, fA ad 10 q → lz ≤ q) : vx_Met l yX0_where (wA yX0_where cX0_where 5 (some .int)) (rX 1) (va_Pc [.ref (ad 0), .int (nI c), .int (nI o), .long v] (pZ D c2 (tX ca) (wX ad ca T n kc ko kv k lo hi bw bb pk) lz sa)) qX (xX cISE (fun (_ : Unit) => True) D c2 (fun _ => wX ad ca T n kc ko kv k lo hi bw bb pk) (fA ad 10)) 1 6 (fun q => lz ≤ q) := by
  refine xmet_of RX0 rfl (by decide) (Nat.le_of_ble_eq_true rfl) (fun p e s m below meth cd ls E hr hlk hex hB hl => ?_)
  obtain ⟨hP, hK, hZ⟩ := hB
  have hl : lv_has ls 5 [(0, .ref (ad 0)), (1, .int (nI c)), (2, .int (nI o)), (3, .long v)] := hl
  have hS : va_S (fA ad 10) s.heap s.heap [] := va_S.rf
  refine lv_iload_n E.1 E.2.1 dX0_where_0 rfl (lv_at hl 1 rfl) ?_
  refine cS_v E (As := [.int (nI c)]) (rest := []) (cX_refuseBadColumn l c (by omega)) kX_60 rfl rfl ⟨Nat.le_of_ble_eq_true rfl, Nat.le_of_ble_eq_true rfl⟩ rfl hl.1 rfl (Nat.le_of_ble_eq_true rfl) dX0_where_1 ⟨Nat.zero_le _, Nat.zero_le _⟩ ?_
  refine lv_iload_n E.1 E.2.1 dX0_where_4 rfl (lv_at hl 2 rfl) ?_
  refine n_if_lt (tgt := 13) E dX0_where_5 rfl (by omega) ?_
  refine lv_iload_n E.1 E.2.1 dX0_where_8 rfl (lv_at hl 2 rfl) ?_
  refine lv_iconst (v := nI 5) E.1 E.2.1 dX0_where_9 rfl ?_
  refine n_icmp_le (tgt := 23) E dX0_where_10 rfl (by omega) (by omega) (fun h10 => ?_) (fun h10 => ?_)
  · skip
    refine lv_aload_n E.1 E.2.1 dX0_where_23 rfl (lv_at hl 0 rfl) ?_
    refine n_get E inX hK hP 0 rfl rfl 5 (by decide) flX_27 rfl rfl dX0_where_24 ?_
    refine lv_iconst (v := nI 3) E.1 E.2.1 dX0_where_27 rfl ?_
    refine n_icmp_lt (tgt := 41) E dX0_where_28 rfl (by omega) (by omega) (fun h28 => ?_) (fun h28 => ?_)
    · skip
      exfalso; omega
    · skip
      exact x_thr E hlt hZ xK_ISE 3 (by decide) rfl hS hlo hl.1 dX0_where_31 dX0_where_34 dX0_where_35 dX0_where_37 dX0_where_40 hex (Nat.le_of_ble_eq_true rfl) (Nat.le_of_ble_eq_true rfl) (Nat.le_of_ble_eq_true rfl) (Nat.le_of_ble_eq_true rfl) hlk () trivial hP
  · skip
    exfalso; omega
set_option maxHeartbeats 4000000 in
set_option maxRecDepth 100000 in
theorem xX_row1 (l : Launch) (D : va_G) (ad : Nat → Nat) (ca : Nat → ClassId) (T : Nat → Nat → Int64) (n : Nat) (kc ko : Nat → Nat) (kv : Nat → Int64) (k : Nat) (lo hi : Nat → Int64) (bw bb pk : Nat → Nat) (lz : Nat) (sa : Nat → Nat) (y : Int32) (hIK : iK kc ko k) (hN : inj ad 10) (hn128 : n ≤ 128) (hiB : iB T n lo hi) (hy : y < 0 ∨ nI (ct (ch T kc ko kv k) n) ≤ y) (hlt : l.stackTraces = false) (hlo : ∀ q, fA ad 10 q → lz ≤ q) : vx_Met l yX0_row (wA yX0_row cX0_row 3 (some .int)) (rX 2) (va_Pc [.ref (ad 0), .int y] (pZ D c2 (tX ca) (wX ad ca T n kc ko kv k lo hi bw bb pk) lz sa)) qX (xX cIOB (fun (_ : Nat → Nat) => True) D c2 (fun q => wX ad ca T n kc ko kv k lo hi bw bb q) (fA ad 10)) 1 6 (fun q => lz ≤ q) := by
  refine xmet_of RX0 rfl (by decide) (Nat.le_of_ble_eq_true rfl) (fun p e s m below meth cd ls E hr hlk hex hB hl => ?_)
  obtain ⟨hP, hK, hZ⟩ := hB
  have hl : lv_has ls 3 [(0, .ref (ad 0)), (1, .int y)] := hl
  have hS : va_S (fA ad 10) s.heap s.heap [] := va_S.rf
  refine lv_aload_n E.1 E.2.1 dX0_row_0 rfl (lv_at hl 0 rfl) ?_
  refine cV_wi E (As := []) (rest := []) (cX_pick l D ad ca T n kc ko kv k lo hi bw bb pk hIK hN hn128 hiB) kX_75 hK hP hS (fun _ h => h) 0 rfl rfl rfl rfl ⟨Nat.le_of_ble_eq_true rfl, Nat.le_of_ble_eq_true rfl⟩ rfl hl.1 rfl (Nat.le_of_ble_eq_true rfl) dX0_row_1 ⟨Nat.zero_le _, Nat.zero_le _⟩ (fun z1 u1 H locs hp1 hP _ _ hS => ?_)
  obtain ⟨hz1, hE1⟩ := hp1
  subst hz1
  have hP : va_P D c2 (wX ad ca T n kc ko kv k lo hi bw bb u1) H := hP
  refine lv_istore_n (lv' := [(2, .int (nI (ct (ch T kc ko kv k) n))), (0, .ref (ad 0)), (1, .int y)]) E.1 E.2.1 dX0_row_4 rfl hl (by decide) rfl (fun ls hl => ?_)
  refine lv_iload_n E.1 E.2.1 dX0_row_5 rfl (lv_at hl 2 rfl) ?_
  refine lv_if_lt (tgt := 14) E.1 E.2.1 dX0_row_6 rfl (fun h6 => ?_) (fun h6 => ?_)
  · skip
    exact x_thr E hlt hZ xK_IOB 4 (by decide) rfl hS hlo hl.1 dX0_row_14 dX0_row_17 dX0_row_18 dX0_row_20 dX0_row_23 hex (Nat.le_of_ble_eq_true rfl) (Nat.le_of_ble_eq_true rfl) (Nat.le_of_ble_eq_true rfl) (Nat.le_of_ble_eq_true rfl) hlk u1 trivial hP
  · skip
    refine lv_iload_n E.1 E.2.1 dX0_row_9 rfl (lv_at hl 2 rfl) ?_
    refine lv_iload_n E.1 E.2.1 dX0_row_10 rfl (lv_at hl 0 rfl) ?_
    refine lv_icmp_lt (tgt := 24) E.1 E.2.1 dX0_row_11 rfl (fun h11 => ?_) (fun h11 => ?_)
    · skip
      exact (bad_no hy h6 h11).elim
    · skip
      exact x_thr E hlt hZ xK_IOB 4 (by decide) rfl hS hlo hl.1 dX0_row_14 dX0_row_17 dX0_row_18 dX0_row_20 dX0_row_23 hex (Nat.le_of_ble_eq_true rfl) (Nat.le_of_ble_eq_true rfl) (Nat.le_of_ble_eq_true rfl) (Nat.le_of_ble_eq_true rfl) hlk u1 trivial hP
set_option maxHeartbeats 4000000 in
set_option maxRecDepth 100000 in
theorem xX_sum1 (l : Launch) (D : va_G) (ad : Nat → Nat) (ca : Nat → ClassId) (T : Nat → Nat → Int64) (n : Nat) (kc ko : Nat → Nat) (kv : Nat → Int64) (k : Nat) (lo hi : Nat → Int64) (bw bb pk : Nat → Nat) (lz : Nat) (sa : Nat → Nat) (x : Int32) (hx : x < 0 ∨ nI 4 ≤ x) (hlt : l.stackTraces = false) (hlo : ∀ q, fA ad 10 q → lz ≤ q) : vx_Met l yX0_sum (wA yX0_sum cX0_sum 3 (some .long)) (rX 1) (va_Pc [.ref (ad 0), .int x] (pZ D c2 (tX ca) (wX ad ca T n kc ko kv k lo hi bw bb pk) lz sa)) qX (xX cIAE (fun (_ : Unit) => True) D c2 (fun _ => wX ad ca T n kc ko kv k lo hi bw bb pk) (fA ad 10)) 1 6 (fun q => lz ≤ q) := by
  refine xmet_of RX0 rfl (by decide) (Nat.le_of_ble_eq_true rfl) (fun p e s m below meth cd ls E hr hlk hex hB hl => ?_)
  obtain ⟨hP, hK, hZ⟩ := hB
  have hl : lv_has ls 3 [(0, .ref (ad 0)), (1, .int x)] := hl
  have hS : va_S (fA ad 10) s.heap s.heap [] := va_S.rf
  refine lv_iload_n E.1 E.2.1 dX0_sum_0 rfl (lv_at hl 1 rfl) ?_
  exact x_goX (Nat.le_of_ble_eq_true rfl) (Nat.le_of_ble_eq_true rfl) (xrun_S E (As := [.int x]) (rest := []) (xX_refuseBadColumn l D ad ca T n kc ko kv k lo hi bw bb pk lz sa x hx hlt hlo) kX_60 rfl rfl ⟨Nat.le_of_ble_eq_true rfl, Nat.le_of_ble_eq_true rfl⟩ (preZ hK hP hZ _) rfl hl.1 rfl (Nat.le_of_ble_eq_true rfl) dX0_sum_1 ⟨Nat.le_of_ble_eq_true rfl, Nat.le_of_ble_eq_true rfl⟩) hS hlo hex hlk
set_option maxHeartbeats 4000000 in
set_option maxRecDepth 100000 in
theorem xX_bound1 (l : Launch) (D : va_G) (ad : Nat → Nat) (ca : Nat → ClassId) (T : Nat → Nat → Int64) (n : Nat) (kc ko : Nat → Nat) (kv : Nat → Int64) (k : Nat) (lo hi : Nat → Int64) (bw bb pk : Nat → Nat) (lz : Nat) (sa : Nat → Nat) (x : Int32) (d : Bool) (hx : x < 0 ∨ nI 4 ≤ x) (hlt : l.stackTraces = false) (hlo : ∀ q, fA ad 10 q → lz ≤ q) : vx_Met l yX0_bound (wA yX0_bound cX0_bound 4 (some .long)) (rX 1) (va_Pc [.ref (ad 0), .int x, .int (bI d)] (pZ D c2 (tX ca) (wX ad ca T n kc ko kv k lo hi bw bb pk) lz sa)) qX (xX cIAE (fun (_ : Unit) => True) D c2 (fun _ => wX ad ca T n kc ko kv k lo hi bw bb pk) (fA ad 10)) 1 6 (fun q => lz ≤ q) := by
  refine xmet_of RX0 rfl (by decide) (Nat.le_of_ble_eq_true rfl) (fun p e s m below meth cd ls E hr hlk hex hB hl => ?_)
  obtain ⟨hP, hK, hZ⟩ := hB
  have hl : lv_has ls 4 [(0, .ref (ad 0)), (1, .int x), (2, .int (bI d))] := hl
  have hS : va_S (fA ad 10) s.heap s.heap [] := va_S.rf
  refine lv_iload_n E.1 E.2.1 dX0_bound_0 rfl (lv_at hl 1 rfl) ?_
  exact x_goX (Nat.le_of_ble_eq_true rfl) (Nat.le_of_ble_eq_true rfl) (xrun_S E (As := [.int x]) (rest := []) (xX_refuseBadColumn l D ad ca T n kc ko kv k lo hi bw bb pk lz sa x hx hlt hlo) kX_60 rfl rfl ⟨Nat.le_of_ble_eq_true rfl, Nat.le_of_ble_eq_true rfl⟩ (preZ hK hP hZ _) rfl hl.1 rfl (Nat.le_of_ble_eq_true rfl) dX0_bound_1 ⟨Nat.le_of_ble_eq_true rfl, Nat.le_of_ble_eq_true rfl⟩) hS hlo hex hlk
set_option maxHeartbeats 4000000 in
set_option maxRecDepth 100000 in
theorem xX_bound2 (l : Launch) (D : va_G) (ad : Nat → Nat) (ca : Nat → ClassId) (T : Nat → Nat → Int64) (n : Nat) (kc ko : Nat → Nat) (kv : Nat → Int64) (k : Nat) (lo hi : Nat → Int64) (bw bb pk : Nat → Nat) (lz : Nat) (sa : Nat → Nat) (c : Nat) (d : Bool) (hIK : iK kc ko k) (hN : inj ad 10) (hn128 : n ≤ 128) (hiB : iB T n lo hi) (hc : c < 4) (hpos : ct (ch T kc ko kv k) n = 0) (hlt : l.stackTraces = false) (hlo : ∀ q, fA ad 10 q → lz ≤ q) : vx_Met l yX0_bound (wA yX0_bound cX0_bound 4 (some .long)) (rX 2) (va_Pc [.ref (ad 0), .int (nI c), .int (bI d)] (pZ D c2 (tX ca) (wX ad ca T n kc ko kv k lo hi bw bb pk) lz sa)) qX (xX cNSE (fun (_ : Nat → Nat) => True) D c2 (fun q => wX ad ca T n kc ko kv k lo hi bw bb q) (fA ad 10)) 1 6 (fun q => lz ≤ q) := by
  refine xmet_of RX0 rfl (by decide) (Nat.le_of_ble_eq_true rfl) (fun p e s m below meth cd ls E hr hlk hex hB hl => ?_)
  obtain ⟨hP, hK, hZ⟩ := hB
  have hl : lv_has ls 4 [(0, .ref (ad 0)), (1, .int (nI c)), (2, .int (bI d))] := hl
  have hS : va_S (fA ad 10) s.heap s.heap [] := va_S.rf
  refine lv_iload_n E.1 E.2.1 dX0_bound_0 rfl (lv_at hl 1 rfl) ?_
  refine cS_v E (As := [.int (nI c)]) (rest := []) (cX_refuseBadColumn l c (by omega)) kX_60 rfl rfl ⟨Nat.le_of_ble_eq_true rfl, Nat.le_of_ble_eq_true rfl⟩ rfl hl.1 rfl (Nat.le_of_ble_eq_true rfl) dX0_bound_1 ⟨Nat.zero_le _, Nat.zero_le _⟩ ?_
  refine lv_aload_n E.1 E.2.1 dX0_bound_4 rfl (lv_at hl 0 rfl) ?_
  refine cV_wi E (As := []) (rest := []) (cX_pick l D ad ca T n kc ko kv k lo hi bw bb pk hIK hN hn128 hiB) kX_75 hK hP hS (fun _ h => h) 0 rfl rfl rfl rfl ⟨Nat.le_of_ble_eq_true rfl, Nat.le_of_ble_eq_true rfl⟩ rfl hl.1 rfl (Nat.le_of_ble_eq_true rfl) dX0_bound_5 ⟨Nat.zero_le _, Nat.zero_le _⟩ (fun z5 u5 H locs hp5 hP _ _ hS => ?_)
  obtain ⟨hz5, hE5⟩ := hp5
  subst hz5
  have hP : va_P D c2 (wX ad ca T n kc ko kv k lo hi bw bb u5) H := hP
  have hct := ct_le (ch T kc ko kv k) n
  refine lv_istore_n (lv' := [(3, .int (nI (ct (ch T kc ko kv k) n))), (0, .ref (ad 0)), (1, .int (nI c)), (2, .int (bI d))]) E.1 E.2.1 dX0_bound_8 rfl hl (by decide) rfl (fun ls hl => ?_)
  refine lv_iload_n E.1 E.2.1 dX0_bound_9 rfl (lv_at hl 0 rfl) ?_
  refine n_if_ne (tgt := 23) E dX0_bound_10 rfl (by omega) (fun h10 => ?_) (fun h10 => ?_)
  · skip
    exfalso; omega
  · skip
    exact x_thrN E hlt hZ xK_NSE 5 (by decide) rfl hS hlo hl.1 dX0_bound_13 dX0_bound_16 dX0_bound_17 dX0_bound_19 dX0_bound_22 hex (Nat.le_of_ble_eq_true rfl) (Nat.le_of_ble_eq_true rfl) (Nat.le_of_ble_eq_true rfl) (Nat.le_of_ble_eq_true rfl) hlk u5 trivial hP
set_option maxHeartbeats 4000000 in
set_option maxRecDepth 100000 in
theorem xX_ranked1 (l : Launch) (D : va_G) (ad : Nat → Nat) (ca : Nat → ClassId) (T : Nat → Nat → Int64) (n : Nat) (kc ko : Nat → Nat) (kv : Nat → Int64) (k : Nat) (lo hi : Nat → Int64) (bw bb pk : Nat → Nat) (lz : Nat) (sa : Nat → Nat) (x y : Int32) (hx : x < 0 ∨ nI 4 ≤ x) (hlt : l.stackTraces = false) (hlo : ∀ q, fA ad 10 q → lz ≤ q) : vx_Met l yX0_ranked (wA yX0_ranked cX0_ranked 4 (some .int)) (rX 1) (va_Pc [.ref (ad 0), .int x, .int y] (pZ D c2 (tX ca) (wX ad ca T n kc ko kv k lo hi bw bb pk) lz sa)) qX (xX cIAE (fun (_ : Unit) => True) D c2 (fun _ => wX ad ca T n kc ko kv k lo hi bw bb pk) (fA ad 10)) 1 6 (fun q => lz ≤ q) := by
  refine xmet_of RX0 rfl (by decide) (Nat.le_of_ble_eq_true rfl) (fun p e s m below meth cd ls E hr hlk hex hB hl => ?_)
  obtain ⟨hP, hK, hZ⟩ := hB
  have hl : lv_has ls 4 [(0, .ref (ad 0)), (1, .int x), (2, .int y)] := hl
  have hS : va_S (fA ad 10) s.heap s.heap [] := va_S.rf
  refine lv_iload_n E.1 E.2.1 dX0_ranked_0 rfl (lv_at hl 1 rfl) ?_
  exact x_goX (Nat.le_of_ble_eq_true rfl) (Nat.le_of_ble_eq_true rfl) (xrun_S E (As := [.int x]) (rest := []) (xX_refuseBadColumn l D ad ca T n kc ko kv k lo hi bw bb pk lz sa x hx hlt hlo) kX_60 rfl rfl ⟨Nat.le_of_ble_eq_true rfl, Nat.le_of_ble_eq_true rfl⟩ (preZ hK hP hZ _) rfl hl.1 rfl (Nat.le_of_ble_eq_true rfl) dX0_ranked_1 ⟨Nat.le_of_ble_eq_true rfl, Nat.le_of_ble_eq_true rfl⟩) hS hlo hex hlk
set_option maxHeartbeats 4000000 in
set_option maxRecDepth 100000 in
theorem xX_ranked2 (l : Launch) (D : va_G) (ad : Nat → Nat) (ca : Nat → ClassId) (T : Nat → Nat → Int64) (n : Nat) (kc ko : Nat → Nat) (kv : Nat → Int64) (k : Nat) (lo hi : Nat → Int64) (bw bb pk : Nat → Nat) (lz : Nat) (sa : Nat → Nat) (c : Nat) (y : Int32) (hIK : iK kc ko k) (hN : inj ad 10) (hn128 : n ≤ 128) (hiB : iB T n lo hi) (hc : c < 4) (hy : y < 0 ∨ nI (ct (ch T kc ko kv k) n) ≤ y) (hlt : l.stackTraces = false) (hlo : ∀ q, fA ad 10 q → lz ≤ q) : vx_Met l yX0_ranked (wA yX0_ranked cX0_ranked 4 (some .int)) (rX 2) (va_Pc [.ref (ad 0), .int (nI c), .int y] (pZ D c2 (tX ca) (wX ad ca T n kc ko kv k lo hi bw bb pk) lz sa)) qX (xX cIOB (fun (_ : Nat → Nat) => True) D c2 (fun q => wX ad ca T n kc ko kv k lo hi bw bb q) (fA ad 10)) 1 6 (fun q => lz ≤ q) := by
  refine xmet_of RX0 rfl (by decide) (Nat.le_of_ble_eq_true rfl) (fun p e s m below meth cd ls E hr hlk hex hB hl => ?_)
  obtain ⟨hP, hK, hZ⟩ := hB
  have hl : lv_has ls 4 [(0, .ref (ad 0)), (1, .int (nI c)), (2, .int y)] := hl
  have hS : va_S (fA ad 10) s.heap s.heap [] := va_S.rf
  refine lv_iload_n E.1 E.2.1 dX0_ranked_0 rfl (lv_at hl 1 rfl) ?_
  refine cS_v E (As := [.int (nI c)]) (rest := []) (cX_refuseBadColumn l c (by omega)) kX_60 rfl rfl ⟨Nat.le_of_ble_eq_true rfl, Nat.le_of_ble_eq_true rfl⟩ rfl hl.1 rfl (Nat.le_of_ble_eq_true rfl) dX0_ranked_1 ⟨Nat.zero_le _, Nat.zero_le _⟩ ?_
  refine lv_aload_n E.1 E.2.1 dX0_ranked_4 rfl (lv_at hl 0 rfl) ?_
  refine cV_wi E (As := []) (rest := []) (cX_pick l D ad ca T n kc ko kv k lo hi bw bb pk hIK hN hn128 hiB) kX_75 hK hP hS (fun _ h => h) 0 rfl rfl rfl rfl ⟨Nat.le_of_ble_eq_true rfl, Nat.le_of_ble_eq_true rfl⟩ rfl hl.1 rfl (Nat.le_of_ble_eq_true rfl) dX0_ranked_5 ⟨Nat.zero_le _, Nat.zero_le _⟩ (fun z5 u5 H locs hp5 hP _ _ hS => ?_)
  obtain ⟨hz5, hE5⟩ := hp5
  subst hz5
  have hP : va_P D c2 (wX ad ca T n kc ko kv k lo hi bw bb u5) H := hP
  refine lv_istore_n (lv' := [(3, .int (nI (ct (ch T kc ko kv k) n))), (0, .ref (ad 0)), (1, .int (nI c)), (2, .int y)]) E.1 E.2.1 dX0_ranked_8 rfl hl (by decide) rfl (fun ls hl => ?_)
  refine lv_iload_n E.1 E.2.1 dX0_ranked_9 rfl (lv_at hl 3 rfl) ?_
  refine lv_if_lt (tgt := 18) E.1 E.2.1 dX0_ranked_10 rfl (fun h10 => ?_) (fun h10 => ?_)
  · skip
    exact x_thr E hlt hZ xK_IOB 4 (by decide) rfl hS hlo hl.1 dX0_ranked_18 dX0_ranked_21 dX0_ranked_22 dX0_ranked_24 dX0_ranked_27 hex (Nat.le_of_ble_eq_true rfl) (Nat.le_of_ble_eq_true rfl) (Nat.le_of_ble_eq_true rfl) (Nat.le_of_ble_eq_true rfl) hlk u5 trivial hP
  · skip
    refine lv_iload_n E.1 E.2.1 dX0_ranked_13 rfl (lv_at hl 3 rfl) ?_
    refine lv_iload_n E.1 E.2.1 dX0_ranked_14 rfl (lv_at hl 0 rfl) ?_
    refine lv_icmp_lt (tgt := 28) E.1 E.2.1 dX0_ranked_15 rfl (fun h15 => ?_) (fun h15 => ?_)
    · skip
      exact (bad_no hy h10 h15).elim
    · skip
      exact x_thr E hlt hZ xK_IOB 4 (by decide) rfl hS hlo hl.1 dX0_ranked_18 dX0_ranked_21 dX0_ranked_22 dX0_ranked_24 dX0_ranked_27 hex (Nat.le_of_ble_eq_true rfl) (Nat.le_of_ble_eq_true rfl) (Nat.le_of_ble_eq_true rfl) (Nat.le_of_ble_eq_true rfl) hlk u5 trivial hP
set_option maxHeartbeats 4000000 in
set_option maxRecDepth 100000 in
theorem xX_groups1 (l : Launch) (D : va_G) (ad : Nat → Nat) (ca : Nat → ClassId) (T : Nat → Nat → Int64) (n : Nat) (kc ko : Nat → Nat) (kv : Nat → Int64) (k : Nat) (lo hi : Nat → Int64) (bw bb pk : Nat → Nat) (lz : Nat) (sa : Nat → Nat) (x : Int32) (hx : x < 0 ∨ nI 4 ≤ x) (hlt : l.stackTraces = false) (hlo : ∀ q, fA ad 10 q → lz ≤ q) : vx_Met l yX0_groups (wA yX0_groups cX0_groups 5 (some .int)) (rX 1) (va_Pc [.ref (ad 0), .int x] (pZ D c2 (tX ca) (wX ad ca T n kc ko kv k lo hi bw bb pk) lz sa)) qX (xX cIAE (fun (_ : Unit) => True) D c2 (fun _ => wX ad ca T n kc ko kv k lo hi bw bb pk) (fA ad 10)) 1 6 (fun q => lz ≤ q) := by
  refine xmet_of RX0 rfl (by decide) (Nat.le_of_ble_eq_true rfl) (fun p e s m below meth cd ls E hr hlk hex hB hl => ?_)
  obtain ⟨hP, hK, hZ⟩ := hB
  have hl : lv_has ls 5 [(0, .ref (ad 0)), (1, .int x)] := hl
  have hS : va_S (fA ad 10) s.heap s.heap [] := va_S.rf
  refine lv_iload_n E.1 E.2.1 dX0_groups_0 rfl (lv_at hl 1 rfl) ?_
  exact x_goX (Nat.le_of_ble_eq_true rfl) (Nat.le_of_ble_eq_true rfl) (xrun_S E (As := [.int x]) (rest := []) (xX_refuseBadColumn l D ad ca T n kc ko kv k lo hi bw bb pk lz sa x hx hlt hlo) kX_60 rfl rfl ⟨Nat.le_of_ble_eq_true rfl, Nat.le_of_ble_eq_true rfl⟩ (preZ hK hP hZ _) rfl hl.1 rfl (Nat.le_of_ble_eq_true rfl) dX0_groups_1 ⟨Nat.le_of_ble_eq_true rfl, Nat.le_of_ble_eq_true rfl⟩) hS hlo hex hlk
set_option maxHeartbeats 4000000 in
set_option maxRecDepth 100000 in
theorem xX_group1 (l : Launch) (D : va_G) (ad : Nat → Nat) (ca : Nat → ClassId) (T : Nat → Nat → Int64) (n : Nat) (kc ko : Nat → Nat) (kv : Nat → Int64) (k : Nat) (lo hi : Nat → Int64) (bw bb pk : Nat → Nat) (lz : Nat) (sa : Nat → Nat) (x y v u : Int32) (hx : x < 0 ∨ nI 4 ≤ x) (hlt : l.stackTraces = false) (hlo : ∀ q, fA ad 10 q → lz ≤ q) : vx_Met l yX0_group (wA yX0_group cX0_group 8 (some .long)) (rX 1) (va_Pc [.ref (ad 0), .int x, .int y, .int v, .int u] (pZ D c2 (tX ca) (wX ad ca T n kc ko kv k lo hi bw bb pk) lz sa)) qX (xX cIAE (fun (_ : Unit) => True) D c2 (fun _ => wX ad ca T n kc ko kv k lo hi bw bb pk) (fA ad 10)) 1 6 (fun q => lz ≤ q) := by
  refine xmet_of RX0 rfl (by decide) (Nat.le_of_ble_eq_true rfl) (fun p e s m below meth cd ls E hr hlk hex hB hl => ?_)
  obtain ⟨hP, hK, hZ⟩ := hB
  have hl : lv_has ls 8 [(0, .ref (ad 0)), (1, .int x), (2, .int y), (3, .int v), (4, .int u)] := hl
  have hS : va_S (fA ad 10) s.heap s.heap [] := va_S.rf
  refine lv_iload_n E.1 E.2.1 dX0_group_0 rfl (lv_at hl 1 rfl) ?_
  exact x_goX (Nat.le_of_ble_eq_true rfl) (Nat.le_of_ble_eq_true rfl) (xrun_S E (As := [.int x]) (rest := []) (xX_refuseBadColumn l D ad ca T n kc ko kv k lo hi bw bb pk lz sa x hx hlt hlo) kX_60 rfl rfl ⟨Nat.le_of_ble_eq_true rfl, Nat.le_of_ble_eq_true rfl⟩ (preZ hK hP hZ _) rfl hl.1 rfl (Nat.le_of_ble_eq_true rfl) dX0_group_1 ⟨Nat.le_of_ble_eq_true rfl, Nat.le_of_ble_eq_true rfl⟩) hS hlo hex hlk
set_option maxHeartbeats 4000000 in
set_option maxRecDepth 100000 in
theorem xX_group1o (l : Launch) (D : va_G) (ad : Nat → Nat) (ca : Nat → ClassId) (T : Nat → Nat → Int64) (n : Nat) (kc ko : Nat → Nat) (kv : Nat → Int64) (k : Nat) (lo hi : Nat → Int64) (bw bb pk : Nat → Nat) (lz : Nat) (sa : Nat → Nat) (c : Nat) (y v u : Int32) (hc : c < 4) (hu : u < 0 ∨ nI 4 ≤ u) (hlt : l.stackTraces = false) (hlo : ∀ q, fA ad 10 q → lz ≤ q) : vx_Met l yX0_group (wA yX0_group cX0_group 8 (some .long)) (rX 1) (va_Pc [.ref (ad 0), .int (nI c), .int y, .int v, .int u] (pZ D c2 (tX ca) (wX ad ca T n kc ko kv k lo hi bw bb pk) lz sa)) qX (xX cIAE (fun (_ : Unit) => True) D c2 (fun _ => wX ad ca T n kc ko kv k lo hi bw bb pk) (fA ad 10)) 1 6 (fun q => lz ≤ q) := by
  refine xmet_of RX0 rfl (by decide) (Nat.le_of_ble_eq_true rfl) (fun p e s m below meth cd ls E hr hlk hex hB hl => ?_)
  obtain ⟨hP, hK, hZ⟩ := hB
  have hl : lv_has ls 8 [(0, .ref (ad 0)), (1, .int (nI c)), (2, .int y), (3, .int v), (4, .int u)] := hl
  have hS : va_S (fA ad 10) s.heap s.heap [] := va_S.rf
  refine lv_iload_n E.1 E.2.1 dX0_group_0 rfl (lv_at hl 1 rfl) ?_
  refine cS_v E (As := [.int (nI c)]) (rest := []) (cX_refuseBadColumn l c (by omega)) kX_60 rfl rfl ⟨Nat.le_of_ble_eq_true rfl, Nat.le_of_ble_eq_true rfl⟩ rfl hl.1 rfl (Nat.le_of_ble_eq_true rfl) dX0_group_1 ⟨Nat.zero_le _, Nat.zero_le _⟩ ?_
  refine lv_iload E.1 E.2.1 dX0_group_4 (lv_at hl 4 rfl) ?_
  exact x_goX (Nat.le_of_ble_eq_true rfl) (Nat.le_of_ble_eq_true rfl) (xrun_S E (As := [.int u]) (rest := []) (xX_refuseBadColumn l D ad ca T n kc ko kv k lo hi bw bb pk lz sa u hu hlt hlo) kX_60 rfl rfl ⟨Nat.le_of_ble_eq_true rfl, Nat.le_of_ble_eq_true rfl⟩ (preZ hK hP hZ _) rfl hl.1 rfl (Nat.le_of_ble_eq_true rfl) dX0_group_6 ⟨Nat.le_of_ble_eq_true rfl, Nat.le_of_ble_eq_true rfl⟩) hS hlo hex hlk
set_option maxHeartbeats 4000000 in
set_option maxRecDepth 100000 in
theorem xX_group1w (l : Launch) (D : va_G) (ad : Nat → Nat) (ca : Nat → ClassId) (T : Nat → Nat → Int64) (n : Nat) (kc ko : Nat → Nat) (kv : Nat → Int64) (k : Nat) (lo hi : Nat → Int64) (bw bb pk : Nat → Nat) (lz : Nat) (sa : Nat → Nat) (c o : Nat) (y v : Int32) (hc : c < 4) (ho : o < 4) (hv : v < 0 ∨ nI 4 < v) (hlt : l.stackTraces = false) (hlo : ∀ q, fA ad 10 q → lz ≤ q) : vx_Met l yX0_group (wA yX0_group cX0_group 8 (some .long)) (rX 1) (va_Pc [.ref (ad 0), .int (nI c), .int y, .int v, .int (nI o)] (pZ D c2 (tX ca) (wX ad ca T n kc ko kv k lo hi bw bb pk) lz sa)) qX (xX cIAE (fun (_ : Unit) => True) D c2 (fun _ => wX ad ca T n kc ko kv k lo hi bw bb pk) (fA ad 10)) 1 6 (fun q => lz ≤ q) := by
  refine xmet_of RX0 rfl (by decide) (Nat.le_of_ble_eq_true rfl) (fun p e s m below meth cd ls E hr hlk hex hB hl => ?_)
  obtain ⟨hP, hK, hZ⟩ := hB
  have hl : lv_has ls 8 [(0, .ref (ad 0)), (1, .int (nI c)), (2, .int y), (3, .int v), (4, .int (nI o))] := hl
  have hS : va_S (fA ad 10) s.heap s.heap [] := va_S.rf
  refine lv_iload_n E.1 E.2.1 dX0_group_0 rfl (lv_at hl 1 rfl) ?_
  refine cS_v E (As := [.int (nI c)]) (rest := []) (cX_refuseBadColumn l c (by omega)) kX_60 rfl rfl ⟨Nat.le_of_ble_eq_true rfl, Nat.le_of_ble_eq_true rfl⟩ rfl hl.1 rfl (Nat.le_of_ble_eq_true rfl) dX0_group_1 ⟨Nat.zero_le _, Nat.zero_le _⟩ ?_
  refine lv_iload E.1 E.2.1 dX0_group_4 (lv_at hl 4 rfl) ?_
  refine cS_v E (As := [.int (nI o)]) (rest := []) (cX_refuseBadColumn l o (by omega)) kX_60 rfl rfl ⟨Nat.le_of_ble_eq_true rfl, Nat.le_of_ble_eq_true rfl⟩ rfl hl.1 rfl (Nat.le_of_ble_eq_true rfl) dX0_group_6 ⟨Nat.zero_le _, Nat.zero_le _⟩ ?_
  refine lv_iload_n E.1 E.2.1 dX0_group_9 rfl (lv_at hl 3 rfl) ?_
  refine lv_if_lt (tgt := 18) E.1 E.2.1 dX0_group_10 rfl (fun h10 => ?_) (fun h10 => ?_)
  · skip
    exact x_thr E hlt hZ xK_IAE 6 (by decide) rfl hS hlo hl.1 dX0_group_18 dX0_group_21 dX0_group_22 dX0_group_24 dX0_group_27 hex (Nat.le_of_ble_eq_true rfl) (Nat.le_of_ble_eq_true rfl) (Nat.le_of_ble_eq_true rfl) (Nat.le_of_ble_eq_true rfl) hlk () trivial hP
  · skip
    refine lv_iload_n E.1 E.2.1 dX0_group_13 rfl (lv_at hl 3 rfl) ?_
    refine lv_iconst (v := nI 4) E.1 E.2.1 dX0_group_14 rfl ?_
    refine lv_icmp_le (tgt := 28) E.1 E.2.1 dX0_group_15 rfl (fun h15 => ?_) (fun h15 => ?_)
    · skip
      exact (bad_le hv h10 h15).elim
    · skip
      exact x_thr E hlt hZ xK_IAE 6 (by decide) rfl hS hlo hl.1 dX0_group_18 dX0_group_21 dX0_group_22 dX0_group_24 dX0_group_27 hex (Nat.le_of_ble_eq_true rfl) (Nat.le_of_ble_eq_true rfl) (Nat.le_of_ble_eq_true rfl) (Nat.le_of_ble_eq_true rfl) hlk () trivial hP
set_option maxHeartbeats 4000000 in
set_option maxRecDepth 100000 in
theorem xX_group2 (l : Launch) (D : va_G) (ad : Nat → Nat) (ca : Nat → ClassId) (T : Nat → Nat → Int64) (n : Nat) (kc ko : Nat → Nat) (kv : Nat → Int64) (k : Nat) (lo hi : Nat → Int64) (bw bb pk : Nat → Nat) (lz : Nat) (sa : Nat → Nat) (c o w : Nat) (y : Int32) (hIK : iK kc ko k) (hN : inj ad 10) (hn128 : n ≤ 128) (hiB : iB T n lo hi) (hc : c < 4) (ho : o < 4) (hw : w < 5) (hy : y < 0 ∨ nI (ct (isF (ch T kc ko kv k) T c) n) ≤ y) (hlt : l.stackTraces = false) (hlo : ∀ q, fA ad 10 q → lz ≤ q) : vx_Met l yX0_group (wA yX0_group cX0_group 8 (some .long)) (rX 2) (va_Pc [.ref (ad 0), .int (nI c), .int y, .int (nI w), .int (nI o)] (pZ D c2 (tX ca) (wX ad ca T n kc ko kv k lo hi bw bb pk) lz sa)) qX (xX cIOB (fun (_ : Nat → Nat) => True) D c2 (fun q => wX ad ca T n kc ko kv k lo hi bw bb q) (fA ad 10)) 1 6 (fun q => lz ≤ q) := by
  refine xmet_of RX0 rfl (by decide) (Nat.le_of_ble_eq_true rfl) (fun p e s m below meth cd ls E hr hlk hex hB hl => ?_)
  obtain ⟨hP, hK, hZ⟩ := hB
  have hl : lv_has ls 8 [(0, .ref (ad 0)), (1, .int (nI c)), (2, .int y), (3, .int (nI w)), (4, .int (nI o))] := hl
  have hS : va_S (fA ad 10) s.heap s.heap [] := va_S.rf
  refine lv_iload_n E.1 E.2.1 dX0_group_0 rfl (lv_at hl 1 rfl) ?_
  refine cS_v E (As := [.int (nI c)]) (rest := []) (cX_refuseBadColumn l c (by omega)) kX_60 rfl rfl ⟨Nat.le_of_ble_eq_true rfl, Nat.le_of_ble_eq_true rfl⟩ rfl hl.1 rfl (Nat.le_of_ble_eq_true rfl) dX0_group_1 ⟨Nat.zero_le _, Nat.zero_le _⟩ ?_
  refine lv_iload E.1 E.2.1 dX0_group_4 (lv_at hl 4 rfl) ?_
  refine cS_v E (As := [.int (nI o)]) (rest := []) (cX_refuseBadColumn l o (by omega)) kX_60 rfl rfl ⟨Nat.le_of_ble_eq_true rfl, Nat.le_of_ble_eq_true rfl⟩ rfl hl.1 rfl (Nat.le_of_ble_eq_true rfl) dX0_group_6 ⟨Nat.zero_le _, Nat.zero_le _⟩ ?_
  refine lv_iload_n E.1 E.2.1 dX0_group_9 rfl (lv_at hl 3 rfl) ?_
  refine n_if_lt (tgt := 18) E dX0_group_10 rfl (by omega) ?_
  refine lv_iload_n E.1 E.2.1 dX0_group_13 rfl (lv_at hl 3 rfl) ?_
  refine lv_iconst (v := nI 4) E.1 E.2.1 dX0_group_14 rfl ?_
  refine n_icmp_le (tgt := 28) E dX0_group_15 rfl (by omega) (by omega) (fun h15 => ?_) (fun h15 => ?_)
  · skip
    refine lv_aload_n E.1 E.2.1 dX0_group_28 rfl (lv_at hl 0 rfl) ?_
    refine cV_wi E (As := []) (rest := []) (cX_pick l D ad ca T n kc ko kv k lo hi bw bb pk hIK hN hn128 hiB) kX_75 hK hP hS (fun _ h => h) 0 rfl rfl rfl rfl ⟨Nat.le_of_ble_eq_true rfl, Nat.le_of_ble_eq_true rfl⟩ rfl hl.1 rfl (Nat.le_of_ble_eq_true rfl) dX0_group_29 ⟨Nat.zero_le _, Nat.zero_le _⟩ (fun z29 u29 H locs hp29 hP _ _ hS => ?_)
    obtain ⟨hz29, hE29⟩ := hp29
    subst hz29
    have hP : va_P D c2 (wX ad ca T n kc ko kv k lo hi bw bb u29) H := hP
    have hct := ct_le (ch T kc ko kv k) n
    have hpk29 : ∀ j, j < ct (ch T kc ko kv k) n → u29 j < 128 := fun j hj => Nat.lt_of_lt_of_le (en_inv hE29 j hj).1 hn128
    refine lv_istore (lv' := [(5, .int (nI (ct (ch T kc ko kv k) n))), (0, .ref (ad 0)), (1, .int (nI c)), (2, .int y), (3, .int (nI w)), (4, .int (nI o))]) E.1 E.2.1 dX0_group_32 hl (by decide) rfl (fun ls hl => ?_)
    refine lv_aload_n E.1 E.2.1 dX0_group_34 rfl (lv_at hl 1 rfl) ?_
    refine lv_iload E.1 E.2.1 dX0_group_35 (lv_at hl 0 rfl) ?_
    refine lv_iload_n E.1 E.2.1 dX0_group_37 rfl (lv_at hl 2 rfl) ?_
    refine lv_iconst (v := nI 0) E.1 E.2.1 dX0_group_38 rfl ?_
    refine cV_wv E (As := [.int (nI (ct (ch T kc ko kv k) n)), .int (nI c), .int (bI false)]) (rest := []) (cX_sortPicked l D ad ca T n kc ko kv k lo hi bw bb u29 (ct (ch T kc ko kv k) n) c false hN (by omega) (by omega) (fun i j h1 h2 => en_up hE29 h1 h2) hpk29) kX_101 hK hP hS (fun _ h => h) 0 rfl rfl rfl rfl ⟨Nat.le_of_ble_eq_true rfl, Nat.le_of_ble_eq_true rfl⟩ rfl hl.1 rfl (Nat.le_of_ble_eq_true rfl) dX0_group_39 ⟨Nat.zero_le _, Nat.zero_le _⟩ (fun u39 H locs hp39 hP _ _ hS => ?_)
    obtain ⟨hSd39, hPm39⟩ := hp39
    have hP : va_P D c2 (wX ad ca T n kc ko kv k lo hi bw bb u39) H := hP
    have hpk39 := pm_lt hPm39 hpk29
    have hGr : Gr (ch T kc ko kv k) T c n u39 := ⟨⟨u29, hE29, hPm39⟩, hSd39⟩
    refine lv_aload_n E.1 E.2.1 dX0_group_42 rfl (lv_at hl 1 rfl) ?_
    refine lv_iload_n E.1 E.2.1 dX0_group_43 rfl (lv_at hl 3 rfl) ?_
    refine lv_iload_n E.1 E.2.1 dX0_group_44 rfl (lv_at hl 2 rfl) ?_
    refine lv_iload E.1 E.2.1 dX0_group_45 (lv_at hl 0 rfl) ?_
    refine cV_i E (As := [.int y, .int (nI c), .int (nI (ct (ch T kc ko kv k) n))]) (rest := []) (cX_groupStart l D ad ca T n kc ko kv k lo hi bw bb u39 y c (ct (ch T kc ko kv k) n) (by omega) (by omega) hpk39) kX_111 hK hP 0 rfl rfl rfl rfl ⟨Nat.le_of_ble_eq_true rfl, Nat.le_of_ble_eq_true rfl⟩ rfl hl.1 rfl (Nat.le_of_ble_eq_true rfl) dX0_group_47 ⟨Nat.zero_le _, Nat.zero_le _⟩ ?_
    refine tpi (y := (-1)) (gs_bad hGr hn128 hy) ?_
    refine lv_istore (lv' := [(6, .int (-1)), (5, .int (nI (ct (ch T kc ko kv k) n))), (0, .ref (ad 0)), (1, .int (nI c)), (2, .int y), (3, .int (nI w)), (4, .int (nI o))]) E.1 E.2.1 dX0_group_50 hl (by decide) rfl (fun ls hl => ?_)
    refine lv_iload E.1 E.2.1 dX0_group_52 (lv_at hl 0 rfl) ?_
    refine lv_if_ge (tgt := 67) E.1 E.2.1 dX0_group_54 rfl (fun h54 => ?_) (fun h54 => ?_)
    · skip
      exact absurd h54 (by decide)
    · skip
      exact x_thr E hlt hZ xK_IOB 7 (by decide) rfl hS hlo hl.1 dX0_group_57 dX0_group_60 dX0_group_61 dX0_group_63 dX0_group_66 hex (Nat.le_of_ble_eq_true rfl) (Nat.le_of_ble_eq_true rfl) (Nat.le_of_ble_eq_true rfl) (Nat.le_of_ble_eq_true rfl) hlk u39 trivial hP
  · skip
    exfalso; omega
set_option maxHeartbeats 4000000 in
set_option maxRecDepth 100000 in
theorem xX_pairs1 (l : Launch) (D : va_G) (ad : Nat → Nat) (ca : Nat → ClassId) (T : Nat → Nat → Int64) (n : Nat) (kc ko : Nat → Nat) (kv : Nat → Int64) (k : Nat) (lo hi : Nat → Int64) (bw bb pk : Nat → Nat) (lz : Nat) (sa : Nat → Nat) (x y : Int32) (hx : x < 0 ∨ nI 4 ≤ x) (hlt : l.stackTraces = false) (hlo : ∀ q, fA ad 10 q → lz ≤ q) : vx_Met l yX0_pairs (wA yX0_pairs cX0_pairs 9 (some .int)) (rX 1) (va_Pc [.ref (ad 0), .int x, .int y] (pZ D c2 (tX ca) (wX ad ca T n kc ko kv k lo hi bw bb pk) lz sa)) qX (xX cIAE (fun (_ : Unit) => True) D c2 (fun _ => wX ad ca T n kc ko kv k lo hi bw bb pk) (fA ad 10)) 1 6 (fun q => lz ≤ q) := by
  refine xmet_of RX0 rfl (by decide) (Nat.le_of_ble_eq_true rfl) (fun p e s m below meth cd ls E hr hlk hex hB hl => ?_)
  obtain ⟨hP, hK, hZ⟩ := hB
  have hl : lv_has ls 9 [(0, .ref (ad 0)), (1, .int x), (2, .int y)] := hl
  have hS : va_S (fA ad 10) s.heap s.heap [] := va_S.rf
  refine lv_iload_n E.1 E.2.1 dX0_pairs_0 rfl (lv_at hl 1 rfl) ?_
  exact x_goX (Nat.le_of_ble_eq_true rfl) (Nat.le_of_ble_eq_true rfl) (xrun_S E (As := [.int x]) (rest := []) (xX_refuseBadColumn l D ad ca T n kc ko kv k lo hi bw bb pk lz sa x hx hlt hlo) kX_60 rfl rfl ⟨Nat.le_of_ble_eq_true rfl, Nat.le_of_ble_eq_true rfl⟩ (preZ hK hP hZ _) rfl hl.1 rfl (Nat.le_of_ble_eq_true rfl) dX0_pairs_1 ⟨Nat.le_of_ble_eq_true rfl, Nat.le_of_ble_eq_true rfl⟩) hS hlo hex hlk
set_option maxHeartbeats 4000000 in
set_option maxRecDepth 100000 in
theorem xX_pairs1o (l : Launch) (D : va_G) (ad : Nat → Nat) (ca : Nat → ClassId) (T : Nat → Nat → Int64) (n : Nat) (kc ko : Nat → Nat) (kv : Nat → Int64) (k : Nat) (lo hi : Nat → Int64) (bw bb pk : Nat → Nat) (lz : Nat) (sa : Nat → Nat) (c : Nat) (y : Int32) (hc : c < 4) (hy : y < 0 ∨ nI 4 ≤ y) (hlt : l.stackTraces = false) (hlo : ∀ q, fA ad 10 q → lz ≤ q) : vx_Met l yX0_pairs (wA yX0_pairs cX0_pairs 9 (some .int)) (rX 1) (va_Pc [.ref (ad 0), .int (nI c), .int y] (pZ D c2 (tX ca) (wX ad ca T n kc ko kv k lo hi bw bb pk) lz sa)) qX (xX cIAE (fun (_ : Unit) => True) D c2 (fun _ => wX ad ca T n kc ko kv k lo hi bw bb pk) (fA ad 10)) 1 6 (fun q => lz ≤ q) := by
  refine xmet_of RX0 rfl (by decide) (Nat.le_of_ble_eq_true rfl) (fun p e s m below meth cd ls E hr hlk hex hB hl => ?_)
  obtain ⟨hP, hK, hZ⟩ := hB
  have hl : lv_has ls 9 [(0, .ref (ad 0)), (1, .int (nI c)), (2, .int y)] := hl
  have hS : va_S (fA ad 10) s.heap s.heap [] := va_S.rf
  refine lv_iload_n E.1 E.2.1 dX0_pairs_0 rfl (lv_at hl 1 rfl) ?_
  refine cS_v E (As := [.int (nI c)]) (rest := []) (cX_refuseBadColumn l c (by omega)) kX_60 rfl rfl ⟨Nat.le_of_ble_eq_true rfl, Nat.le_of_ble_eq_true rfl⟩ rfl hl.1 rfl (Nat.le_of_ble_eq_true rfl) dX0_pairs_1 ⟨Nat.zero_le _, Nat.zero_le _⟩ ?_
  refine lv_iload_n E.1 E.2.1 dX0_pairs_4 rfl (lv_at hl 2 rfl) ?_
  exact x_goX (Nat.le_of_ble_eq_true rfl) (Nat.le_of_ble_eq_true rfl) (xrun_S E (As := [.int y]) (rest := []) (xX_refuseBadColumn l D ad ca T n kc ko kv k lo hi bw bb pk lz sa y hy hlt hlo) kX_60 rfl rfl ⟨Nat.le_of_ble_eq_true rfl, Nat.le_of_ble_eq_true rfl⟩ (preZ hK hP hZ _) rfl hl.1 rfl (Nat.le_of_ble_eq_true rfl) dX0_pairs_5 ⟨Nat.le_of_ble_eq_true rfl, Nat.le_of_ble_eq_true rfl⟩) hS hlo hex hlk
set_option maxHeartbeats 4000000 in
set_option maxRecDepth 100000 in
theorem xX_way1 (l : Launch) (D : va_G) (ad : Nat → Nat) (ca : Nat → ClassId) (T : Nat → Nat → Int64) (n : Nat) (kc ko : Nat → Nat) (kv : Nat → Int64) (k : Nat) (lo hi : Nat → Int64) (bw bb pk : Nat → Nat) (lz : Nat) (sa : Nat → Nat) (y x : Int32) (hx : x < 0 ∨ nI 4 ≤ x) (hlt : l.stackTraces = false) (hlo : ∀ q, fA ad 10 q → lz ≤ q) : vx_Met l yX0_way (wA yX0_way cX0_way 3 (some .int)) (rX 1) (va_Pc [.ref (ad 0), .int y, .int x] (pZ D c2 (tX ca) (wX ad ca T n kc ko kv k lo hi bw bb pk) lz sa)) qX (xX cIAE (fun (_ : Unit) => True) D c2 (fun _ => wX ad ca T n kc ko kv k lo hi bw bb pk) (fA ad 10)) 1 6 (fun q => lz ≤ q) := by
  refine xmet_of RX0 rfl (by decide) (Nat.le_of_ble_eq_true rfl) (fun p e s m below meth cd ls E hr hlk hex hB hl => ?_)
  obtain ⟨hP, hK, hZ⟩ := hB
  have hl : lv_has ls 3 [(0, .ref (ad 0)), (1, .int y), (2, .int x)] := hl
  have hS : va_S (fA ad 10) s.heap s.heap [] := va_S.rf
  refine lv_iload_n E.1 E.2.1 dX0_way_0 rfl (lv_at hl 2 rfl) ?_
  exact x_goX (Nat.le_of_ble_eq_true rfl) (Nat.le_of_ble_eq_true rfl) (xrun_S E (As := [.int x]) (rest := []) (xX_refuseBadColumn l D ad ca T n kc ko kv k lo hi bw bb pk lz sa x hx hlt hlo) kX_60 rfl rfl ⟨Nat.le_of_ble_eq_true rfl, Nat.le_of_ble_eq_true rfl⟩ (preZ hK hP hZ _) rfl hl.1 rfl (Nat.le_of_ble_eq_true rfl) dX0_way_1 ⟨Nat.le_of_ble_eq_true rfl, Nat.le_of_ble_eq_true rfl⟩) hS hlo hex hlk
set_option maxHeartbeats 4000000 in
set_option maxRecDepth 100000 in
theorem xX_way2 (l : Launch) (D : va_G) (ad : Nat → Nat) (ca : Nat → ClassId) (T : Nat → Nat → Int64) (n : Nat) (kc ko : Nat → Nat) (kv : Nat → Int64) (k : Nat) (lo hi : Nat → Int64) (bw bb pk : Nat → Nat) (lz : Nat) (sa : Nat → Nat) (y : Int32) (c : Nat) (hn128 : n ≤ 128) (hc : c < 4) (hy : y < 0 ∨ nI (n / 16) ≤ y) (hlt : l.stackTraces = false) (hlo : ∀ q, fA ad 10 q → lz ≤ q) : vx_Met l yX0_way (wA yX0_way cX0_way 3 (some .int)) (rX 2) (va_Pc [.ref (ad 0), .int y, .int (nI c)] (pZ D c2 (tX ca) (wX ad ca T n kc ko kv k lo hi bw bb pk) lz sa)) qX (xX cIOB (fun (_ : Unit) => True) D c2 (fun _ => wX ad ca T n kc ko kv k lo hi bw bb pk) (fA ad 10)) 1 6 (fun q => lz ≤ q) := by
  refine xmet_of RX0 rfl (by decide) (Nat.le_of_ble_eq_true rfl) (fun p e s m below meth cd ls E hr hlk hex hB hl => ?_)
  obtain ⟨hP, hK, hZ⟩ := hB
  have hl : lv_has ls 3 [(0, .ref (ad 0)), (1, .int y), (2, .int (nI c))] := hl
  have hS : va_S (fA ad 10) s.heap s.heap [] := va_S.rf
  refine lv_iload_n E.1 E.2.1 dX0_way_0 rfl (lv_at hl 2 rfl) ?_
  refine cS_v E (As := [.int (nI c)]) (rest := []) (cX_refuseBadColumn l c (by omega)) kX_60 rfl rfl ⟨Nat.le_of_ble_eq_true rfl, Nat.le_of_ble_eq_true rfl⟩ rfl hl.1 rfl (Nat.le_of_ble_eq_true rfl) dX0_way_1 ⟨Nat.zero_le _, Nat.zero_le _⟩ ?_
  refine lv_aload_n E.1 E.2.1 dX0_way_4 rfl (lv_at hl 0 rfl) ?_
  refine lv_iload_n E.1 E.2.1 dX0_way_5 rfl (lv_at hl 1 rfl) ?_
  exact x_goX (Nat.le_of_ble_eq_true rfl) (Nat.le_of_ble_eq_true rfl) (xrun_V E (As := [.int y]) (rest := []) (xX_refuseUnpackedBlock l D ad ca T n kc ko kv k lo hi bw bb pk lz sa y hn128 hy hlt hlo) kX_120 rfl rfl ⟨Nat.le_of_ble_eq_true rfl, Nat.le_of_ble_eq_true rfl⟩ ⟨(preZ hK hP hZ (.ref (ad 0) :: [.int y])).1, va_recv hK hP rfl (q0 := 0) rfl, (preZ hK hP hZ (.ref (ad 0) :: [.int y])).2⟩ rfl hl.1 rfl (Nat.le_of_ble_eq_true rfl) dX0_way_6 ⟨Nat.le_of_ble_eq_true rfl, Nat.le_of_ble_eq_true rfl⟩) hS hlo hex hlk
set_option maxHeartbeats 4000000 in
set_option maxRecDepth 100000 in
theorem xX_bits1 (l : Launch) (D : va_G) (ad : Nat → Nat) (ca : Nat → ClassId) (T : Nat → Nat → Int64) (n : Nat) (kc ko : Nat → Nat) (kv : Nat → Int64) (k : Nat) (lo hi : Nat → Int64) (bw bb pk : Nat → Nat) (lz : Nat) (sa : Nat → Nat) (y x : Int32) (hx : x < 0 ∨ nI 4 ≤ x) (hlt : l.stackTraces = false) (hlo : ∀ q, fA ad 10 q → lz ≤ q) : vx_Met l yX0_bits (wA yX0_bits cX0_bits 3 (some .int)) (rX 1) (va_Pc [.ref (ad 0), .int y, .int x] (pZ D c2 (tX ca) (wX ad ca T n kc ko kv k lo hi bw bb pk) lz sa)) qX (xX cIAE (fun (_ : Unit) => True) D c2 (fun _ => wX ad ca T n kc ko kv k lo hi bw bb pk) (fA ad 10)) 1 6 (fun q => lz ≤ q) := by
  refine xmet_of RX0 rfl (by decide) (Nat.le_of_ble_eq_true rfl) (fun p e s m below meth cd ls E hr hlk hex hB hl => ?_)
  obtain ⟨hP, hK, hZ⟩ := hB
  have hl : lv_has ls 3 [(0, .ref (ad 0)), (1, .int y), (2, .int x)] := hl
  have hS : va_S (fA ad 10) s.heap s.heap [] := va_S.rf
  refine lv_iload_n E.1 E.2.1 dX0_bits_0 rfl (lv_at hl 2 rfl) ?_
  exact x_goX (Nat.le_of_ble_eq_true rfl) (Nat.le_of_ble_eq_true rfl) (xrun_S E (As := [.int x]) (rest := []) (xX_refuseBadColumn l D ad ca T n kc ko kv k lo hi bw bb pk lz sa x hx hlt hlo) kX_60 rfl rfl ⟨Nat.le_of_ble_eq_true rfl, Nat.le_of_ble_eq_true rfl⟩ (preZ hK hP hZ _) rfl hl.1 rfl (Nat.le_of_ble_eq_true rfl) dX0_bits_1 ⟨Nat.le_of_ble_eq_true rfl, Nat.le_of_ble_eq_true rfl⟩) hS hlo hex hlk
set_option maxHeartbeats 4000000 in
set_option maxRecDepth 100000 in
theorem xX_bits2 (l : Launch) (D : va_G) (ad : Nat → Nat) (ca : Nat → ClassId) (T : Nat → Nat → Int64) (n : Nat) (kc ko : Nat → Nat) (kv : Nat → Int64) (k : Nat) (lo hi : Nat → Int64) (bw bb pk : Nat → Nat) (lz : Nat) (sa : Nat → Nat) (y : Int32) (c : Nat) (hn128 : n ≤ 128) (hc : c < 4) (hy : y < 0 ∨ nI (n / 16) ≤ y) (hlt : l.stackTraces = false) (hlo : ∀ q, fA ad 10 q → lz ≤ q) : vx_Met l yX0_bits (wA yX0_bits cX0_bits 3 (some .int)) (rX 2) (va_Pc [.ref (ad 0), .int y, .int (nI c)] (pZ D c2 (tX ca) (wX ad ca T n kc ko kv k lo hi bw bb pk) lz sa)) qX (xX cIOB (fun (_ : Unit) => True) D c2 (fun _ => wX ad ca T n kc ko kv k lo hi bw bb pk) (fA ad 10)) 1 6 (fun q => lz ≤ q) := by
  refine xmet_of RX0 rfl (by decide) (Nat.le_of_ble_eq_true rfl) (fun p e s m below meth cd ls E hr hlk hex hB hl => ?_)
  obtain ⟨hP, hK, hZ⟩ := hB
  have hl : lv_has ls 3 [(0, .ref (ad 0)), (1, .int y), (2, .int (nI c))] := hl
  have hS : va_S (fA ad 10) s.heap s.heap [] := va_S.rf
  refine lv_iload_n E.1 E.2.1 dX0_bits_0 rfl (lv_at hl 2 rfl) ?_
  refine cS_v E (As := [.int (nI c)]) (rest := []) (cX_refuseBadColumn l c (by omega)) kX_60 rfl rfl ⟨Nat.le_of_ble_eq_true rfl, Nat.le_of_ble_eq_true rfl⟩ rfl hl.1 rfl (Nat.le_of_ble_eq_true rfl) dX0_bits_1 ⟨Nat.zero_le _, Nat.zero_le _⟩ ?_
  refine lv_aload_n E.1 E.2.1 dX0_bits_4 rfl (lv_at hl 0 rfl) ?_
  refine lv_iload_n E.1 E.2.1 dX0_bits_5 rfl (lv_at hl 1 rfl) ?_
  exact x_goX (Nat.le_of_ble_eq_true rfl) (Nat.le_of_ble_eq_true rfl) (xrun_V E (As := [.int y]) (rest := []) (xX_refuseUnpackedBlock l D ad ca T n kc ko kv k lo hi bw bb pk lz sa y hn128 hy hlt hlo) kX_120 rfl rfl ⟨Nat.le_of_ble_eq_true rfl, Nat.le_of_ble_eq_true rfl⟩ ⟨(preZ hK hP hZ (.ref (ad 0) :: [.int y])).1, va_recv hK hP rfl (q0 := 0) rfl, (preZ hK hP hZ (.ref (ad 0) :: [.int y])).2⟩ rfl hl.1 rfl (Nat.le_of_ble_eq_true rfl) dX0_bits_6 ⟨Nat.le_of_ble_eq_true rfl, Nat.le_of_ble_eq_true rfl⟩) hS hlo hex hlk
