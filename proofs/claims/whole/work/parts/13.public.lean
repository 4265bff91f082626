/-! Contracts of the hall: laid by program (wip/whole/gen.py). -/
set_option maxHeartbeats 4000000 in
set_option maxRecDepth 100000 in
theorem cX_cell (l : Launch) (D : va_G) (ad : Nat → Nat) (ca : Nat → ClassId) (T : Nat → Nat → Int64) (n : Nat) (kc ko : Nat → Nat) (kv : Nat → Int64) (k : Nat) (lo hi : Nat → Int64) (bw bb pk : Nat → Nat) (r c : Nat) (hn128 : n ≤ 128) (hr0 : r < n) (hc : c < 4) : Met l yX0_cell (wA yX0_cell cX0_cell 3 (some .long)) (rN 1) (va_Pc [.ref (ad 0), .int (nI r), .int (nI c)] (pW D c2 (tX ca) (wX ad ca T n kc ko kv k lo hi bw bb pk))) (vp_Sl (fun z => z = T r c)) 0 0 (fun _ => False) := by
  refine met_of RX0 rfl (by decide) (Nat.le_of_ble_eq_true rfl) (fun p e s m below meth cd ls E hr hlk _ hB hl => ?_)
  obtain ⟨hP, hK⟩ := hB
  have hl : lv_has ls 3 [(0, .ref (ad 0)), (1, .int (nI r)), (2, .int (nI c))] := hl
  refine lv_iload_n E.1 E.2.1 dX0_cell_0 rfl (lv_at hl 2 rfl) ?_
  refine cS_v E (As := [.int (nI c)]) (rest := []) (cX_refuseBadColumn l c (by omega)) kX_60 rfl rfl ⟨Nat.le_of_ble_eq_true rfl, Nat.le_of_ble_eq_true rfl⟩ rfl hl.1 rfl (Nat.le_of_ble_eq_true rfl) dX0_cell_1 ⟨Nat.zero_le _, Nat.zero_le _⟩ ?_
  refine lv_iload_n E.1 E.2.1 dX0_cell_4 rfl (lv_at hl 1 rfl) ?_
  refine n_if_lt (tgt := 16) E dX0_cell_5 rfl (by omega) ?_
  refine lv_iload_n E.1 E.2.1 dX0_cell_8 rfl (lv_at hl 1 rfl) ?_
  refine lv_aload_n E.1 E.2.1 dX0_cell_9 rfl (lv_at hl 0 rfl) ?_
  refine n_get E inX hK hP 0 rfl rfl 1 (by decide) flX_13 rfl rfl dX0_cell_10 ?_
  refine n_icmp_lt (tgt := 26) E dX0_cell_13 rfl (by omega) (by omega) (fun h13 => ?_) (fun h13 => ?_)
  · skip
    refine lv_aload_n E.1 E.2.1 dX0_cell_26 rfl (lv_at hl 0 rfl) ?_
    refine n_get E inX hK hP 0 rfl rfl 0 (by decide) flX_9 rfl rfl dX0_cell_27 ?_
    refine lv_iload_n E.1 E.2.1 dX0_cell_30 rfl (lv_at hl 1 rfl) ?_
    refine lv_iload_n E.1 E.2.1 dX0_cell_31 rfl (lv_at hl 2 rfl) ?_
    refine cS_i E (As := [.int (nI r), .int (nI c)]) (rest := [.ref (ad 1)]) (cX_spot l r c) kX_52 rfl rfl ⟨Nat.le_of_ble_eq_true rfl, Nat.le_of_ble_eq_true rfl⟩ rfl hl.1 rfl (Nat.le_of_ble_eq_true rfl) dX0_cell_32 ⟨Nat.zero_le _, Nat.zero_le _⟩ ?_
    refine n_cald E hK hP 1 0 rfl rfl r c (by omega) (by omega) (by omega) dX0_cell_35 ?_
    exact e_l E hr hlk rfl dX0_cell_36
  · skip
    exfalso; omega
set_option maxHeartbeats 4000000 in
set_option maxRecDepth 100000 in
theorem cX_where (l : Launch) (D : va_G) (ad : Nat → Nat) (ca : Nat → ClassId) (T : Nat → Nat → Int64) (n : Nat) (kc ko : Nat → Nat) (kv : Nat → Int64) (k : Nat) (lo hi : Nat → Int64) (bw bb pk : Nat → Nat) (c o : Nat) (v : Int64) (hN : inj ad 10) (hk : k < 3) (hc : c < 4) (ho : o < 6) : Met l yX0_where (wA yX0_where cX0_where 5 (some .int)) (rN 1) (va_Pc [.ref (ad 0), .int (nI c), .int (nI o), .long v] (pW D c2 (tX ca) (wX ad ca T n kc ko kv k lo hi bw bb pk))) (qI (fun z (_ : Unit) => z = nI (k + 1)) D c2 (fun _ => wX ad ca T n (fS kc k c) (fS ko k o) (fS kv k v) (k + 1) lo hi bw bb pk) (fA ad 10)) 0 0 (fA ad 10) := by
  refine met_of RX0 rfl (by decide) (Nat.le_of_ble_eq_true rfl) (fun p e s m below meth cd ls E hr hlk _ hB hl => ?_)
  obtain ⟨hP, hK⟩ := hB
  have hl : lv_has ls 5 [(0, .ref (ad 0)), (1, .int (nI c)), (2, .int (nI o)), (3, .long v)] := hl
  have hS : va_S (fA ad 10) s.heap s.heap [] := va_S.rf
  refine lv_iload_n E.1 E.2.1 dX0_where_0 rfl (lv_at hl 1 rfl) ?_
  refine cS_v E (As := [.int (nI c)]) (rest := []) (cX_refuseBadColumn l c (by omega)) kX_60 rfl rfl ⟨Nat.le_of_ble_eq_true rfl, Nat.le_of_ble_eq_true rfl⟩ rfl hl.1 rfl (Nat.le_of_ble_eq_true rfl) dX0_where_1 ⟨Nat.zero_le _, Nat.zero_le _⟩ ?_
  refine lv_iload_n E.1 E.2.1 dX0_where_4 rfl (lv_at hl 2 rfl) ?_
  refine n_if_lt (tgt := 13) E dX0_where_5 rfl (by omega) ?_
  refine lv_iload_n E.1 E.2.1 dX0_where_8 rfl (lv_at hl 2 rfl) ?_
  refine lv_iconst (v := nI 5) E.1 E.2.1 dX0_where_9 rfl ?_
  refine n_icmp_le (tgt := 23) E dX0_where_10 rfl (by omega) (by omega) (fun h10 => ?_) (fun h10 => ?_)
  · skip
    refine lv_aload_n E.1 E.2.1 dX0_where_23 rfl (lv_at hl 0 rfl) ?_
    refine n_get E inX hK hP 0 rfl rfl 5 (by decide) flX_27 rfl rfl dX0_where_24 ?_
    refine lv_iconst (v := nI 3) E.1 E.2.1 dX0_where_27 rfl ?_
    refine n_icmp_lt (tgt := 41) E dX0_where_28 rfl (by omega) (by omega) (fun h28 => ?_) (fun h28 => ?_)
    · skip
      refine lv_aload_n E.1 E.2.1 dX0_where_41 rfl (lv_at hl 0 rfl) ?_
      refine n_get E inX hK hP 0 rfl rfl 2 (by decide) flX_17 rfl rfl dX0_where_42 ?_
      refine lv_aload_n E.1 E.2.1 dX0_where_45 rfl (lv_at hl 0 rfl) ?_
      refine n_get E inX hK hP 0 rfl rfl 5 (by decide) flX_27 rfl rfl dX0_where_46 ?_
      refine lv_iload_n E.1 E.2.1 dX0_where_49 rfl (lv_at hl 1 rfl) ?_
      refine n_iast E hK hP (dW hN rfl) hS 2 1 rfl rfl (by decide) (by omega) dX0_where_50 (fun H locs hP hS => ?_)
      have hP : va_P D c2 (wX ad ca T n (fS kc k c) ko kv k lo hi bw bb pk) H := hP
      refine lv_aload_n E.1 E.2.1 dX0_where_51 rfl (lv_at hl 0 rfl) ?_
      refine n_get E inX hK hP 0 rfl rfl 3 (by decide) flX_21 rfl rfl dX0_where_52 ?_
      refine lv_aload_n E.1 E.2.1 dX0_where_55 rfl (lv_at hl 0 rfl) ?_
      refine n_get E inX hK hP 0 rfl rfl 5 (by decide) flX_27 rfl rfl dX0_where_56 ?_
      refine lv_iload_n E.1 E.2.1 dX0_where_59 rfl (lv_at hl 2 rfl) ?_
      refine n_iast E hK hP (dW hN rfl) hS 3 2 rfl rfl (by decide) (by omega) dX0_where_60 (fun H locs hP hS => ?_)
      have hP : va_P D c2 (wX ad ca T n (fS kc k c) (fS ko k o) kv k lo hi bw bb pk) H := hP
      refine lv_aload_n E.1 E.2.1 dX0_where_61 rfl (lv_at hl 0 rfl) ?_
      refine n_get E inX hK hP 0 rfl rfl 4 (by decide) flX_24 rfl rfl dX0_where_62 ?_
      refine lv_aload_n E.1 E.2.1 dX0_where_65 rfl (lv_at hl 0 rfl) ?_
      refine n_get E inX hK hP 0 rfl rfl 5 (by decide) flX_27 rfl rfl dX0_where_66 ?_
      refine lv_lload_n E.1 E.2.1 dX0_where_69 rfl (lv_at hl 3 rfl) ?_
      refine n_last E hK hP (dW hN rfl) hS 4 3 rfl rfl (by decide) (by omega) dX0_where_70 (fun H locs hP hS => ?_)
      have hP : va_P D c2 (wX ad ca T n (fS kc k c) (fS ko k o) (fS kv k v) k lo hi bw bb pk) H := hP
      refine lv_aload_n E.1 E.2.1 dX0_where_71 rfl (lv_at hl 0 rfl) ?_
      refine lv_dup E.1 E.2.1 dX0_where_72 rfl ?_
      refine n_get E inX hK hP 0 rfl rfl 5 (by decide) flX_27 rfl rfl dX0_where_73 ?_
      refine lv_iconst (v := nI 1) E.1 E.2.1 dX0_where_76 rfl ?_
      refine n_iadd E dX0_where_77 ?_
      refine n_put E inX tyX0 tyX0_ok nmX0 hK hP (dW hN rfl) hS 0 rfl rfl 5 (by decide) flX_27 rfl rfl (tyX0_ok 5 (by decide)) (Nat.le_of_ble_eq_true rfl) dX0_where_78 (fun H locs hP hS => ?_)
      have hP : va_P D c2 (wX ad ca T n (fS kc k c) (fS ko k o) (fS kv k v) (k + 1) lo hi bw bb pk) H := hP
      refine lv_aload_n E.1 E.2.1 dX0_where_81 rfl (lv_at hl 0 rfl) ?_
      refine n_get E inX hK hP 0 rfl rfl 5 (by decide) flX_27 rfl rfl dX0_where_82 ?_
      exact e_wi E hr hlk hS () rfl hP dX0_where_85
    · skip
      exfalso; omega
  · skip
    exfalso; omega
set_option maxHeartbeats 4000000 in
set_option maxRecDepth 100000 in
theorem cX_row (l : Launch) (D : va_G) (ad : Nat → Nat) (ca : Nat → ClassId) (T : Nat → Nat → Int64) (n : Nat) (kc ko : Nat → Nat) (kv : Nat → Int64) (k : Nat) (lo hi : Nat → Int64) (bw bb pk : Nat → Nat) (i : Nat) (hIK : iK kc ko k) (hN : inj ad 10) (hn128 : n ≤ 128) (hiB : iB T n lo hi) (hi0 : i < ct (ch T kc ko kv k) n) : Met l yX0_row (wA yX0_row cX0_row 3 (some .int)) (rN 4) (va_Pc [.ref (ad 0), .int (nI i)] (pW D c2 (tX ca) (wX ad ca T n kc ko kv k lo hi bw bb pk))) (qI (fun z (q : Nat → Nat) => z = nI (q i) ∧ En q (ch T kc ko kv k) n) D c2 (fun q => wX ad ca T n kc ko kv k lo hi bw bb q) (fA ad 10)) 0 0 (fA ad 10) := by
  refine met_of RX0 rfl (by decide) (Nat.le_of_ble_eq_true rfl) (fun p e s m below meth cd ls E hr hlk _ hB hl => ?_)
  obtain ⟨hP, hK⟩ := hB
  have hl : lv_has ls 3 [(0, .ref (ad 0)), (1, .int (nI i))] := hl
  have hS : va_S (fA ad 10) s.heap s.heap [] := va_S.rf
  refine lv_aload_n E.1 E.2.1 dX0_row_0 rfl (lv_at hl 0 rfl) ?_
  refine cV_wi E (As := []) (rest := []) (cX_pick l D ad ca T n kc ko kv k lo hi bw bb pk hIK hN hn128 hiB) kX_75 hK hP hS (fun _ h => h) 0 rfl rfl rfl rfl ⟨Nat.le_of_ble_eq_true rfl, Nat.le_of_ble_eq_true rfl⟩ rfl hl.1 rfl (Nat.le_of_ble_eq_true rfl) dX0_row_1 ⟨Nat.zero_le _, Nat.zero_le _⟩ (fun z1 u1 H locs hp1 hP _ _ hS => ?_)
  obtain ⟨hz1, hE1⟩ := hp1
  subst hz1
  have hP : va_P D c2 (wX ad ca T n kc ko kv k lo hi bw bb u1) H := hP
  have hct := ct_le (ch T kc ko kv k) n
  refine lv_istore_n (lv' := [(2, .int (nI (ct (ch T kc ko kv k) n))), (0, .ref (ad 0)), (1, .int (nI i))]) E.1 E.2.1 dX0_row_4 rfl hl (by decide) rfl (fun ls hl => ?_)
  refine lv_iload_n E.1 E.2.1 dX0_row_5 rfl (lv_at hl 2 rfl) ?_
  refine n_if_lt (tgt := 14) E dX0_row_6 rfl (by omega) ?_
  refine lv_iload_n E.1 E.2.1 dX0_row_9 rfl (lv_at hl 2 rfl) ?_
  refine lv_iload_n E.1 E.2.1 dX0_row_10 rfl (lv_at hl 0 rfl) ?_
  refine n_icmp_lt (tgt := 24) E dX0_row_11 rfl (by omega) (by omega) (fun h11 => ?_) (fun h11 => ?_)
  · skip
    refine lv_aload_n E.1 E.2.1 dX0_row_24 rfl (lv_at hl 1 rfl) ?_
    refine n_get E inX hK hP 0 rfl rfl 10 (by decide) flX_42 rfl rfl dX0_row_25 ?_
    refine lv_iload_n E.1 E.2.1 dX0_row_28 rfl (lv_at hl 2 rfl) ?_
    refine n_iald E hK hP 9 8 rfl rfl (by decide) (by omega) dX0_row_29 ?_
    exact e_wi E hr hlk hS u1 (⟨rfl, hE1⟩) hP dX0_row_30
  · skip
    exfalso; omega
set_option maxHeartbeats 4000000 in
set_option maxRecDepth 100000 in
theorem cX_sum (l : Launch) (D : va_G) (ad : Nat → Nat) (ca : Nat → ClassId) (T : Nat → Nat → Int64) (n : Nat) (kc ko : Nat → Nat) (kv : Nat → Int64) (k : Nat) (lo hi : Nat → Int64) (bw bb pk : Nat → Nat) (c : Nat) (hIK : iK kc ko k) (hN : inj ad 10) (hn128 : n ≤ 128) (hiB : iB T n lo hi) (hc : c < 4) : Met l yX0_sum (wA yX0_sum cX0_sum 3 (some .long)) (rN 4) (va_Pc [.ref (ad 0), .int (nI c)] (pW D c2 (tX ca) (wX ad ca T n kc ko kv k lo hi bw bb pk))) (qL (fun z (q : Nat → Nat) => z = sm (fun j => T (q j) c) (ct (ch T kc ko kv k) n) ∧ En q (ch T kc ko kv k) n) D c2 (fun q => wX ad ca T n kc ko kv k lo hi bw bb q) (fA ad 10)) 0 0 (fA ad 10) := by
  refine met_of RX0 rfl (by decide) (Nat.le_of_ble_eq_true rfl) (fun p e s m below meth cd ls E hr hlk _ hB hl => ?_)
  obtain ⟨hP, hK⟩ := hB
  have hl : lv_has ls 3 [(0, .ref (ad 0)), (1, .int (nI c))] := hl
  have hS : va_S (fA ad 10) s.heap s.heap [] := va_S.rf
  refine lv_iload_n E.1 E.2.1 dX0_sum_0 rfl (lv_at hl 1 rfl) ?_
  refine cS_v E (As := [.int (nI c)]) (rest := []) (cX_refuseBadColumn l c (by omega)) kX_60 rfl rfl ⟨Nat.le_of_ble_eq_true rfl, Nat.le_of_ble_eq_true rfl⟩ rfl hl.1 rfl (Nat.le_of_ble_eq_true rfl) dX0_sum_1 ⟨Nat.zero_le _, Nat.zero_le _⟩ ?_
  refine lv_aload_n E.1 E.2.1 dX0_sum_4 rfl (lv_at hl 0 rfl) ?_
  refine cV_wi E (As := []) (rest := []) (cX_pick l D ad ca T n kc ko kv k lo hi bw bb pk hIK hN hn128 hiB) kX_75 hK hP hS (fun _ h => h) 0 rfl rfl rfl rfl ⟨Nat.le_of_ble_eq_true rfl, Nat.le_of_ble_eq_true rfl⟩ rfl hl.1 rfl (Nat.le_of_ble_eq_true rfl) dX0_sum_5 ⟨Nat.zero_le _, Nat.zero_le _⟩ (fun z5 u5 H locs hp5 hP _ _ hS => ?_)
  obtain ⟨hz5, hE5⟩ := hp5
  subst hz5
  have hP : va_P D c2 (wX ad ca T n kc ko kv k lo hi bw bb u5) H := hP
  have hct := ct_le (ch T kc ko kv k) n
  have hpk5 : ∀ j, j < ct (ch T kc ko kv k) n → u5 j < 128 := fun j hj => Nat.lt_of_lt_of_le (en_inv hE5 j hj).1 hn128
  refine lv_istore_n (lv' := [(2, .int (nI (ct (ch T kc ko kv k) n))), (0, .ref (ad 0)), (1, .int (nI c))]) E.1 E.2.1 dX0_sum_8 rfl hl (by decide) rfl (fun ls hl => ?_)
  refine lv_aload_n E.1 E.2.1 dX0_sum_9 rfl (lv_at hl 1 rfl) ?_
  refine lv_iload_n E.1 E.2.1 dX0_sum_10 rfl (lv_at hl 2 rfl) ?_
  refine lv_iconst (v := nI 0) E.1 E.2.1 dX0_sum_11 rfl ?_
  refine lv_iload_n E.1 E.2.1 dX0_sum_12 rfl (lv_at hl 0 rfl) ?_
  refine cV_l E (As := [.int (nI c), .int (nI 0), .int (nI (ct (ch T kc ko kv k) n))]) (rest := []) (cX_sumOfPicked l D ad ca T n kc ko kv k lo hi bw bb u5 c 0 (ct (ch T kc ko kv k) n) (by omega) (by omega) (by omega) hpk5) kX_88 hK hP 0 rfl rfl rfl rfl ⟨Nat.le_of_ble_eq_true rfl, Nat.le_of_ble_eq_true rfl⟩ rfl hl.1 rfl (Nat.le_of_ble_eq_true rfl) dX0_sum_13 ⟨Nat.zero_le _, Nat.zero_le _⟩ ?_
  exact e_wl E hr hlk hS u5 (⟨by simp only [Nat.zero_add, Nat.sub_zero], hE5⟩) hP dX0_sum_16
set_option maxHeartbeats 4000000 in
set_option maxRecDepth 100000 in
theorem cX_bound (l : Launch) (D : va_G) (ad : Nat → Nat) (ca : Nat → ClassId) (T : Nat → Nat → Int64) (n : Nat) (kc ko : Nat → Nat) (kv : Nat → Int64) (k : Nat) (lo hi : Nat → Int64) (bw bb pk : Nat → Nat) (c : Nat) (d : Bool) (hIK : iK kc ko k) (hN : inj ad 10) (hn128 : n ≤ 128) (hiB : iB T n lo hi) (hc : c < 4) (hpos : 0 < ct (ch T kc ko kv k) n) : Met l yX0_bound (wA yX0_bound cX0_bound 4 (some .long)) (rN 4) (va_Pc [.ref (ad 0), .int (nI c), .int (bI d)] (pW D c2 (tX ca) (wX ad ca T n kc ko kv k lo hi bw bb pk))) (qL (fun z (q : Nat → Nat) => z = bnd (fun j => T (q j) c) d (ct (ch T kc ko kv k) n - 1) ∧ En q (ch T kc ko kv k) n) D c2 (fun q => wX ad ca T n kc ko kv k lo hi bw bb q) (fA ad 10)) 0 0 (fA ad 10) := by
  refine met_of RX0 rfl (by decide) (Nat.le_of_ble_eq_true rfl) (fun p e s m below meth cd ls E hr hlk _ hB hl => ?_)
  obtain ⟨hP, hK⟩ := hB
  have hl : lv_has ls 4 [(0, .ref (ad 0)), (1, .int (nI c)), (2, .int (bI d))] := hl
  have hS : va_S (fA ad 10) s.heap s.heap [] := va_S.rf
  refine lv_iload_n E.1 E.2.1 dX0_bound_0 rfl (lv_at hl 1 rfl) ?_
  refine cS_v E (As := [.int (nI c)]) (rest := []) (cX_refuseBadColumn l c (by omega)) kX_60 rfl rfl ⟨Nat.le_of_ble_eq_true rfl, Nat.le_of_ble_eq_true rfl⟩ rfl hl.1 rfl (Nat.le_of_ble_eq_true rfl) dX0_bound_1 ⟨Nat.zero_le _, Nat.zero_le _⟩ ?_
  refine lv_aload_n E.1 E.2.1 dX0_bound_4 rfl (lv_at hl 0 rfl) ?_
  refine cV_wi E (As := []) (rest := []) (cX_pick l D ad ca T n kc ko kv k lo hi bw bb pk hIK hN hn128 hiB) kX_75 hK hP hS (fun _ h => h) 0 rfl rfl rfl rfl ⟨Nat.le_of_ble_eq_true rfl, Nat.le_of_ble_eq_true rfl⟩ rfl hl.1 rfl (Nat.le_of_ble_eq_true rfl) dX0_bound_5 ⟨Nat.zero_le _, Nat.zero_le _⟩ (fun z5 u5 H locs hp5 hP _ _ hS => ?_)
  obtain ⟨hz5, hE5⟩ := hp5
  subst hz5
  have hP : va_P D c2 (wX ad ca T n kc ko kv k lo hi bw bb u5) H := hP
  have hct := ct_le (ch T kc ko kv k) n
  have hpk5 : ∀ j, j < ct (ch T kc ko kv k) n → u5 j < 128 := fun j hj => Nat.lt_of_lt_of_le (en_inv hE5 j hj).1 hn128
  refine lv_istore_n (lv' := [(3, .int (nI (ct (ch T kc ko kv k) n))), (0, .ref (ad 0)), (1, .int (nI c)), (2, .int (bI d))]) E.1 E.2.1 dX0_bound_8 rfl hl (by decide) rfl (fun ls hl => ?_)
  refine lv_iload_n E.1 E.2.1 dX0_bound_9 rfl (lv_at hl 0 rfl) ?_
  refine n_if_ne (tgt := 23) E dX0_bound_10 rfl (by omega) (fun h10 => ?_) (fun h10 => ?_)
  · skip
    refine lv_aload_n E.1 E.2.1 dX0_bound_23 rfl (lv_at hl 1 rfl) ?_
    refine lv_iload_n E.1 E.2.1 dX0_bound_24 rfl (lv_at hl 2 rfl) ?_
    refine lv_iload_n E.1 E.2.1 dX0_bound_25 rfl (lv_at hl 3 rfl) ?_
    refine lv_iconst (v := nI 0) E.1 E.2.1 dX0_bound_26 rfl ?_
    refine lv_iload_n E.1 E.2.1 dX0_bound_27 rfl (lv_at hl 0 rfl) ?_
    refine cV_l E (As := [.int (nI c), .int (bI d), .int (nI 0), .int (nI (ct (ch T kc ko kv k) n))]) (rest := []) (cX_boundOfPicked l D ad ca T n kc ko kv k lo hi bw bb u5 c d 0 (ct (ch T kc ko kv k) n) (by omega) (by omega) (by omega) hpk5) kX_97 hK hP 0 rfl rfl rfl rfl ⟨Nat.le_of_ble_eq_true rfl, Nat.le_of_ble_eq_true rfl⟩ rfl hl.1 rfl (Nat.le_of_ble_eq_true rfl) dX0_bound_28 ⟨Nat.zero_le _, Nat.zero_le _⟩ ?_
    exact e_wl E hr hlk hS u5 (⟨by simp only [Nat.zero_add, Nat.sub_zero], hE5⟩) hP dX0_bound_31
  · skip
    exfalso; omega
set_option maxHeartbeats 4000000 in
set_option maxRecDepth 100000 in
theorem cX_ranked (l : Launch) (D : va_G) (ad : Nat → Nat) (ca : Nat → ClassId) (T : Nat → Nat → Int64) (n : Nat) (kc ko : Nat → Nat) (kv : Nat → Int64) (k : Nat) (lo hi : Nat → Int64) (bw bb pk : Nat → Nat) (c i : Nat) (hIK : iK kc ko k) (hN : inj ad 10) (hn128 : n ≤ 128) (hiB : iB T n lo hi) (hc : c < 4) (hi0 : i < ct (ch T kc ko kv k) n) : Met l yX0_ranked (wA yX0_ranked cX0_ranked 4 (some .int)) (rN 4) (va_Pc [.ref (ad 0), .int (nI c), .int (nI i)] (pW D c2 (tX ca) (wX ad ca T n kc ko kv k lo hi bw bb pk))) (qI (fun z (q : Nat → Nat) => z = nI (q i) ∧ Sd T c true q (ct (ch T kc ko kv k) n) ∧ (∃ p, En p (ch T kc ko kv k) n ∧ Pm q p (ct (ch T kc ko kv k) n))) D c2 (fun q => wX ad ca T n kc ko kv k lo hi bw bb q) (fA ad 10)) 0 0 (fA ad 10) := by
  refine met_of RX0 rfl (by decide) (Nat.le_of_ble_eq_true rfl) (fun p e s m below meth cd ls E hr hlk _ hB hl => ?_)
  obtain ⟨hP, hK⟩ := hB
  have hl : lv_has ls 4 [(0, .ref (ad 0)), (1, .int (nI c)), (2, .int (nI i))] := hl
  have hS : va_S (fA ad 10) s.heap s.heap [] := va_S.rf
  refine lv_iload_n E.1 E.2.1 dX0_ranked_0 rfl (lv_at hl 1 rfl) ?_
  refine cS_v E (As := [.int (nI c)]) (rest := []) (cX_refuseBadColumn l c (by omega)) kX_60 rfl rfl ⟨Nat.le_of_ble_eq_true rfl, Nat.le_of_ble_eq_true rfl⟩ rfl hl.1 rfl (Nat.le_of_ble_eq_true rfl) dX0_ranked_1 ⟨Nat.zero_le _, Nat.zero_le _⟩ ?_
  refine lv_aload_n E.1 E.2.1 dX0_ranked_4 rfl (lv_at hl 0 rfl) ?_
  refine cV_wi E (As := []) (rest := []) (cX_pick l D ad ca T n kc ko kv k lo hi bw bb pk hIK hN hn128 hiB) kX_75 hK hP hS (fun _ h => h) 0 rfl rfl rfl rfl ⟨Nat.le_of_ble_eq_true rfl, Nat.le_of_ble_eq_true rfl⟩ rfl hl.1 rfl (Nat.le_of_ble_eq_true rfl) dX0_ranked_5 ⟨Nat.zero_le _, Nat.zero_le _⟩ (fun z5 u5 H locs hp5 hP _ _ hS => ?_)
  obtain ⟨hz5, hE5⟩ := hp5
  subst hz5
  have hP : va_P D c2 (wX ad ca T n kc ko kv k lo hi bw bb u5) H := hP
  have hct := ct_le (ch T kc ko kv k) n
  have hpk5 : ∀ j, j < ct (ch T kc ko kv k) n → u5 j < 128 := fun j hj => Nat.lt_of_lt_of_le (en_inv hE5 j hj).1 hn128
  refine lv_istore_n (lv' := [(3, .int (nI (ct (ch T kc ko kv k) n))), (0, .ref (ad 0)), (1, .int (nI c)), (2, .int (nI i))]) E.1 E.2.1 dX0_ranked_8 rfl hl (by decide) rfl (fun ls hl => ?_)
  refine lv_iload_n E.1 E.2.1 dX0_ranked_9 rfl (lv_at hl 3 rfl) ?_
  refine n_if_lt (tgt := 18) E dX0_ranked_10 rfl (by omega) ?_
  refine lv_iload_n E.1 E.2.1 dX0_ranked_13 rfl (lv_at hl 3 rfl) ?_
  refine lv_iload_n E.1 E.2.1 dX0_ranked_14 rfl (lv_at hl 0 rfl) ?_
  refine n_icmp_lt (tgt := 28) E dX0_ranked_15 rfl (by omega) (by omega) (fun h15 => ?_) (fun h15 => ?_)
  · skip
    refine lv_aload_n E.1 E.2.1 dX0_ranked_28 rfl (lv_at hl 1 rfl) ?_
    refine lv_iload_n E.1 E.2.1 dX0_ranked_29 rfl (lv_at hl 0 rfl) ?_
    refine lv_iload_n E.1 E.2.1 dX0_ranked_30 rfl (lv_at hl 2 rfl) ?_
    refine lv_iconst (v := nI 1) E.1 E.2.1 dX0_ranked_31 rfl ?_
    refine cV_wv E (As := [.int (nI (ct (ch T kc ko kv k) n)), .int (nI c), .int (bI true)]) (rest := []) (cX_sortPicked l D ad ca T n kc ko kv k lo hi bw bb u5 (ct (ch T kc ko kv k) n) c true hN (by omega) (by omega) (fun i j h1 h2 => en_up hE5 h1 h2) hpk5) kX_101 hK hP hS (fun _ h => h) 0 rfl rfl rfl rfl ⟨Nat.le_of_ble_eq_true rfl, Nat.le_of_ble_eq_true rfl⟩ rfl hl.1 rfl (Nat.le_of_ble_eq_true rfl) dX0_ranked_32 ⟨Nat.zero_le _, Nat.zero_le _⟩ (fun u32 H locs hp32 hP _ _ hS => ?_)
    obtain ⟨hSd32, hPm32⟩ := hp32
    have hP : va_P D c2 (wX ad ca T n kc ko kv k lo hi bw bb u32) H := hP
    refine lv_aload_n E.1 E.2.1 dX0_ranked_35 rfl (lv_at hl 1 rfl) ?_
    refine n_get E inX hK hP 0 rfl rfl 10 (by decide) flX_42 rfl rfl dX0_ranked_36 ?_
    refine lv_iload_n E.1 E.2.1 dX0_ranked_39 rfl (lv_at hl 3 rfl) ?_
    refine n_iald E hK hP 9 8 rfl rfl (by decide) (by omega) dX0_ranked_40 ?_
    exact e_wi E hr hlk hS u32 (⟨rfl, hSd32, u5, hE5, hPm32⟩) hP dX0_ranked_41
  · skip
    exfalso; omega
set_option maxHeartbeats 4000000 in
set_option maxRecDepth 100000 in
theorem cX_groups (l : Launch) (D : va_G) (ad : Nat → Nat) (ca : Nat → ClassId) (T : Nat → Nat → Int64) (n : Nat) (kc ko : Nat → Nat) (kv : Nat → Int64) (k : Nat) (lo hi : Nat → Int64) (bw bb pk : Nat → Nat) (c : Nat) (hIK : iK kc ko k) (hN : inj ad 10) (hn128 : n ≤ 128) (hiB : iB T n lo hi) (hc : c < 4) : Met l yX0_groups (wA yX0_groups cX0_groups 5 (some .int)) (rN 4) (va_Pc [.ref (ad 0), .int (nI c)] (pW D c2 (tX ca) (wX ad ca T n kc ko kv k lo hi bw bb pk))) (qI (fun z (q : Nat → Nat) => z = nI (ct (sg T c q) (ct (ch T kc ko kv k) n)) ∧ Gr (ch T kc ko kv k) T c n q) D c2 (fun q => wX ad ca T n kc ko kv k lo hi bw bb q) (fA ad 10)) 0 0 (fA ad 10) := by
  refine met_of RX0 rfl (by decide) (Nat.le_of_ble_eq_true rfl) (fun p e s m below meth cd ls E hr hlk _ hB hl => ?_)
  obtain ⟨hP, hK⟩ := hB
  have hl : lv_has ls 5 [(0, .ref (ad 0)), (1, .int (nI c))] := hl
  have hS : va_S (fA ad 10) s.heap s.heap [] := va_S.rf
  refine lv_iload_n E.1 E.2.1 dX0_groups_0 rfl (lv_at hl 1 rfl) ?_
  refine cS_v E (As := [.int (nI c)]) (rest := []) (cX_refuseBadColumn l c (by omega)) kX_60 rfl rfl ⟨Nat.le_of_ble_eq_true rfl, Nat.le_of_ble_eq_true rfl⟩ rfl hl.1 rfl (Nat.le_of_ble_eq_true rfl) dX0_groups_1 ⟨Nat.zero_le _, Nat.zero_le _⟩ ?_
  refine lv_aload_n E.1 E.2.1 dX0_groups_4 rfl (lv_at hl 0 rfl) ?_
  refine cV_wi E (As := []) (rest := []) (cX_pick l D ad ca T n kc ko kv k lo hi bw bb pk hIK hN hn128 hiB) kX_75 hK hP hS (fun _ h => h) 0 rfl rfl rfl rfl ⟨Nat.le_of_ble_eq_true rfl, Nat.le_of_ble_eq_true rfl⟩ rfl hl.1 rfl (Nat.le_of_ble_eq_true rfl) dX0_groups_5 ⟨Nat.zero_le _, Nat.zero_le _⟩ (fun z5 u5 H locs hp5 hP _ _ hS => ?_)
  obtain ⟨hz5, hE5⟩ := hp5
  subst hz5
  have hP : va_P D c2 (wX ad ca T n kc ko kv k lo hi bw bb u5) H := hP
  have hct := ct_le (ch T kc ko kv k) n
  have hpk5 : ∀ j, j < ct (ch T kc ko kv k) n → u5 j < 128 := fun j hj => Nat.lt_of_lt_of_le (en_inv hE5 j hj).1 hn128
  refine lv_istore_n (lv' := [(2, .int (nI (ct (ch T kc ko kv k) n))), (0, .ref (ad 0)), (1, .int (nI c))]) E.1 E.2.1 dX0_groups_8 rfl hl (by decide) rfl (fun ls hl => ?_)
  refine lv_aload_n E.1 E.2.1 dX0_groups_9 rfl (lv_at hl 1 rfl) ?_
  refine lv_iload_n E.1 E.2.1 dX0_groups_10 rfl (lv_at hl 0 rfl) ?_
  refine lv_iload_n E.1 E.2.1 dX0_groups_11 rfl (lv_at hl 2 rfl) ?_
  refine lv_iconst (v := nI 0) E.1 E.2.1 dX0_groups_12 rfl ?_
  refine cV_wv E (As := [.int (nI (ct (ch T kc ko kv k) n)), .int (nI c), .int (bI false)]) (rest := []) (cX_sortPicked l D ad ca T n kc ko kv k lo hi bw bb u5 (ct (ch T kc ko kv k) n) c false hN (by omega) (by omega) (fun i j h1 h2 => en_up hE5 h1 h2) hpk5) kX_101 hK hP hS (fun _ h => h) 0 rfl rfl rfl rfl ⟨Nat.le_of_ble_eq_true rfl, Nat.le_of_ble_eq_true rfl⟩ rfl hl.1 rfl (Nat.le_of_ble_eq_true rfl) dX0_groups_13 ⟨Nat.zero_le _, Nat.zero_le _⟩ (fun u13 H locs hp13 hP _ _ hS => ?_)
  obtain ⟨hSd13, hPm13⟩ := hp13
  have hP : va_P D c2 (wX ad ca T n kc ko kv k lo hi bw bb u13) H := hP
  have hpk13 := pm_lt hPm13 hpk5
  refine lv_iconst (v := nI 0) E.1 E.2.1 dX0_groups_16 rfl ?_
  refine lv_istore_n (lv' := [(3, .int (nI 0)), (2, .int (nI (ct (ch T kc ko kv k) n))), (0, .ref (ad 0)), (1, .int (nI c))]) E.1 E.2.1 dX0_groups_17 rfl hl (by decide) rfl (fun ls hl => ?_)
  refine lv_iconst (v := nI 0) E.1 E.2.1 dX0_groups_18 rfl ?_
  refine lv_istore (lv' := [(4, .int (nI 0)), (3, .int (nI 0)), (2, .int (nI (ct (ch T kc ko kv k) n))), (0, .ref (ad 0)), (1, .int (nI c))]) E.1 E.2.1 dX0_groups_19 hl (by decide) rfl (fun ls hl => ?_)
  refine w_lp1 (fun (i : Nat) => i ≤ ct (ch T kc ko kv k) n) (fun (i : Nat) => ct (ch T kc ko kv k) n - i) (fun (i : Nat) => [(4, .int (nI i)), (3, .int (nI (ct (sg T c u13) i))), (0, .ref (ad 0)), (1, .int (nI c)), (2, .int (nI (ct (ch T kc ko kv k) n)))]) 0 (Nat.zero_le _) (lv_sub hl [0, 1, 3, 4, 2] rfl) (fun i ls hI hl ih21 => ?_)
  have hl : lv_has ls 5 [(4, .int (nI i)), (3, .int (nI (ct (sg T c u13) i))), (0, .ref (ad 0)), (1, .int (nI c)), (2, .int (nI (ct (ch T kc ko kv k) n)))] := hl
  refine lv_iload E.1 E.2.1 dX0_groups_21 (lv_at hl 0 rfl) ?_
  refine lv_iload_n E.1 E.2.1 dX0_groups_23 rfl (lv_at hl 4 rfl) ?_
  refine n_icmp_ge (tgt := 46) E dX0_groups_24 rfl (by omega) (by omega) (fun h24 => ?_) (fun h24 => ?_)
  · skip
    refine lv_iload_n E.1 E.2.1 dX0_groups_46 rfl (lv_at hl 1 rfl) ?_
    exact e_wi E hr hlk hS u13 (⟨by rw [show ct (ch T kc ko kv k) n = i by omega], ⟨u5, hE5, hPm13⟩, hSd13⟩) hP dX0_groups_47
  · skip
    refine lv_aload_n E.1 E.2.1 dX0_groups_27 rfl (lv_at hl 2 rfl) ?_
    refine lv_iload E.1 E.2.1 dX0_groups_28 (lv_at hl 0 rfl) ?_
    refine lv_iload_n E.1 E.2.1 dX0_groups_30 rfl (lv_at hl 3 rfl) ?_
    refine cV_i E (As := [.int (nI i), .int (nI c)]) (rest := []) (cX_startsGroup l D ad ca T n kc ko kv k lo hi bw bb u13 i c (ct (ch T kc ko kv k) n)  (by omega) (by omega) (by omega) hpk13) kX_105 hK hP 0 rfl rfl rfl rfl ⟨Nat.le_of_ble_eq_true rfl, Nat.le_of_ble_eq_true rfl⟩ rfl hl.1 rfl (Nat.le_of_ble_eq_true rfl) dX0_groups_31 ⟨Nat.zero_le _, Nat.zero_le _⟩ ?_
    refine b_if_eq (tgt := 40) E dX0_groups_34 rfl (fun h34 => ?_) (fun h34 => ?_)
    · skip
      refine lv_iinc (k := 0) (v := nI (i + 1)) (lv' := [(4, .int (nI (i + 1))), (3, .int (nI (ct (sg T c u13) i))), (0, .ref (ad 0)), (1, .int (nI c)), (2, .int (nI (ct (ch T kc ko kv k) n)))]) E.1 E.2.1 dX0_groups_40 hl rfl (inc1 _) (by decide) rfl (fun ls hl => ?_)
      refine lv_goto (tgt := 21) E.1 E.2.1 dX0_groups_43 rfl ?_
      rw [← ct_f h34] at hl
      exact ih21 (i + 1) _ (by omega) (by omega) (lv_sub hl [0, 1, 2, 3, 4] rfl)
    · skip
      refine lv_iinc (k := 1) (v := nI (ct (sg T c u13) i + 1)) (lv' := [(3, .int (nI (ct (sg T c u13) i + 1))), (4, .int (nI i)), (0, .ref (ad 0)), (1, .int (nI c)), (2, .int (nI (ct (ch T kc ko kv k) n)))]) E.1 E.2.1 dX0_groups_37 hl rfl (inc1 _) (by decide) rfl (fun ls hl => ?_)
      refine lv_iinc (k := 1) (v := nI (i + 1)) (lv' := [(4, .int (nI (i + 1))), (3, .int (nI (ct (sg T c u13) i + 1))), (0, .ref (ad 0)), (1, .int (nI c)), (2, .int (nI (ct (ch T kc ko kv k) n)))]) E.1 E.2.1 dX0_groups_40 hl rfl (inc1 _) (by decide) rfl (fun ls hl => ?_)
      refine lv_goto (tgt := 21) E.1 E.2.1 dX0_groups_43 rfl ?_
      rw [← ct_t h34] at hl
      exact ih21 (i + 1) _ (by omega) (by omega) (lv_sub hl [0, 1, 2, 3, 4] rfl)
set_option maxHeartbeats 4000000 in
set_option maxRecDepth 100000 in
theorem cX_group (l : Launch) (D : va_G) (ad : Nat → Nat) (ca : Nat → ClassId) (T : Nat → Nat → Int64) (n : Nat) (kc ko : Nat → Nat) (kv : Nat → Int64) (k : Nat) (lo hi : Nat → Int64) (bw bb pk : Nat → Nat) (c i w o : Nat) (hIK : iK kc ko k) (hN : inj ad 10) (hn128 : n ≤ 128) (hiB : iB T n lo hi) (hc : c < 4) (ho : o < 4) (hw : w < 5) (hi0 : i < ct (isF (ch T kc ko kv k) T c) n) : Met l yX0_group (wA yX0_group cX0_group 8 (some .long)) (rN 4) (va_Pc [.ref (ad 0), .int (nI c), .int (nI i), .int (nI w), .int (nI o)] (pW D c2 (tX ca) (wX ad ca T n kc ko kv k lo hi bw bb pk))) (qL (fun z (q : Nat → Nat) => Gr (ch T kc ko kv k) T c n q ∧ ∃ a b, a < b ∧ b ≤ ct (ch T kc ko kv k) n ∧ sg T c q a = true ∧ ct (sg T c q) a = i ∧ (∀ j, a < j → j < b → sg T c q j = false) ∧ (b = ct (ch T kc ko kv k) n ∨ sg T c q b = true) ∧ z = (if w = 0 then T (q a) c else if w = 1 then lN (b - a) else if w = 2 then sm (fun j => T (q (a + j)) o) (b - a) else bnd (fun j => T (q (a + j)) o) (decide (w = 4)) (b - a - 1))) D c2 (fun q => wX ad ca T n kc ko kv k lo hi bw bb q) (fA ad 10)) 0 0 (fA ad 10) := by
  refine met_of RX0 rfl (by decide) (Nat.le_of_ble_eq_true rfl) (fun p e s m below meth cd ls E hr hlk _ hB hl => ?_)
  obtain ⟨hP, hK⟩ := hB
  have hl : lv_has ls 8 [(0, .ref (ad 0)), (1, .int (nI c)), (2, .int (nI i)), (3, .int (nI w)), (4, .int (nI o))] := hl
  have hS : va_S (fA ad 10) s.heap s.heap [] := va_S.rf
  refine lv_iload_n E.1 E.2.1 dX0_group_0 rfl (lv_at hl 1 rfl) ?_
  refine cS_v E (As := [.int (nI c)]) (rest := []) (cX_refuseBadColumn l c (by omega)) kX_60 rfl rfl ⟨Nat.le_of_ble_eq_true rfl, Nat.le_of_ble_eq_true rfl⟩ rfl hl.1 rfl (Nat.le_of_ble_eq_true rfl) dX0_group_1 ⟨Nat.zero_le _, Nat.zero_le _⟩ ?_
  refine lv_iload E.1 E.2.1 dX0_group_4 (lv_at hl 4 rfl) ?_
  refine cS_v E (As := [.int (nI o)]) (rest := []) (cX_refuseBadColumn l o (by omega)) kX_60 rfl rfl ⟨Nat.le_of_ble_eq_true rfl, Nat.le_of_ble_eq_true rfl⟩ rfl hl.1 rfl (Nat.le_of_ble_eq_true rfl) dX0_group_6 ⟨Nat.zero_le _, Nat.zero_le _⟩ ?_
  refine lv_iload_n E.1 E.2.1 dX0_group_9 rfl (lv_at hl 3 rfl) ?_
  refine n_if_lt (tgt := 18) E dX0_group_10 rfl (by omega) ?_
  refine lv_iload_n E.1 E.2.1 dX0_group_13 rfl (lv_at hl 3 rfl) ?_
  refine lv_iconst (v := nI 4) E.1 E.2.1 dX0_group_14 rfl ?_
  refine n_icmp_le (tgt := 28) E dX0_group_15 rfl (by omega) (by omega) (fun h15 => ?_) (fun h15 => ?_)
  · skip
    refine lv_aload_n E.1 E.2.1 dX0_group_28 rfl (lv_at hl 0 rfl) ?_
    refine cV_wi E (As := []) (rest := []) (cX_pick l D ad ca T n kc ko kv k lo hi bw bb pk hIK hN hn128 hiB) kX_75 hK hP hS (fun _ h => h) 0 rfl rfl rfl rfl ⟨Nat.le_of_ble_eq_true rfl, Nat.le_of_ble_eq_true rfl⟩ rfl hl.1 rfl (Nat.le_of_ble_eq_true rfl) dX0_group_29 ⟨Nat.zero_le _, Nat.zero_le _⟩ (fun z29 u29 H locs hp29 hP _ _ hS => ?_)
    obtain ⟨hz29, hE29⟩ := hp29
    subst hz29
    have hP : va_P D c2 (wX ad ca T n kc ko kv k lo hi bw bb u29) H := hP
    have hct := ct_le (ch T kc ko kv k) n
    have hpk29 : ∀ j, j < ct (ch T kc ko kv k) n → u29 j < 128 := fun j hj => Nat.lt_of_lt_of_le (en_inv hE29 j hj).1 hn128
    refine lv_istore (lv' := [(5, .int (nI (ct (ch T kc ko kv k) n))), (0, .ref (ad 0)), (1, .int (nI c)), (2, .int (nI i)), (3, .int (nI w)), (4, .int (nI o))]) E.1 E.2.1 dX0_group_32 hl (by decide) rfl (fun ls hl => ?_)
    refine lv_aload_n E.1 E.2.1 dX0_group_34 rfl (lv_at hl 1 rfl) ?_
    refine lv_iload E.1 E.2.1 dX0_group_35 (lv_at hl 0 rfl) ?_
    refine lv_iload_n E.1 E.2.1 dX0_group_37 rfl (lv_at hl 2 rfl) ?_
    refine lv_iconst (v := nI 0) E.1 E.2.1 dX0_group_38 rfl ?_
    refine cV_wv E (As := [.int (nI (ct (ch T kc ko kv k) n)), .int (nI c), .int (bI false)]) (rest := []) (cX_sortPicked l D ad ca T n kc ko kv k lo hi bw bb u29 (ct (ch T kc ko kv k) n) c false hN (by omega) (by omega) (fun i j h1 h2 => en_up hE29 h1 h2) hpk29) kX_101 hK hP hS (fun _ h => h) 0 rfl rfl rfl rfl ⟨Nat.le_of_ble_eq_true rfl, Nat.le_of_ble_eq_true rfl⟩ rfl hl.1 rfl (Nat.le_of_ble_eq_true rfl) dX0_group_39 ⟨Nat.zero_le _, Nat.zero_le _⟩ (fun u39 H locs hp39 hP _ _ hS => ?_)
    obtain ⟨hSd39, hPm39⟩ := hp39
    have hP : va_P D c2 (wX ad ca T n kc ko kv k lo hi bw bb u39) H := hP
    have hpk39 := pm_lt hPm39 hpk29
    have hGr : Gr (ch T kc ko kv k) T c n u39 := ⟨⟨u29, hE29, hPm39⟩, hSd39⟩
    obtain ⟨a, ha1, ha2, ha3⟩ := ct_at (show i < ct (sg T c u39) (ct (ch T kc ko kv k) n) by rw [hGr.count]; exact hi0)
    refine lv_aload_n E.1 E.2.1 dX0_group_42 rfl (lv_at hl 1 rfl) ?_
    refine lv_iload_n E.1 E.2.1 dX0_group_43 rfl (lv_at hl 3 rfl) ?_
    refine lv_iload_n E.1 E.2.1 dX0_group_44 rfl (lv_at hl 2 rfl) ?_
    refine lv_iload E.1 E.2.1 dX0_group_45 (lv_at hl 0 rfl) ?_
    refine cV_i E (As := [.int (nI i), .int (nI c), .int (nI (ct (ch T kc ko kv k) n))]) (rest := []) (cX_groupStart l D ad ca T n kc ko kv k lo hi bw bb u39 (nI i) c (ct (ch T kc ko kv k) n) (by omega) (by omega) hpk39) kX_111 hK hP 0 rfl rfl rfl rfl ⟨Nat.le_of_ble_eq_true rfl, Nat.le_of_ble_eq_true rfl⟩ rfl hl.1 rfl (Nat.le_of_ble_eq_true rfl) dX0_group_47 ⟨Nat.zero_le _, Nat.zero_le _⟩ ?_
    refine tpi (y := nI a) (gsF_some ha2 ha3 (by have := ct_le (sg T c u39) a; omega) _ 0 (Nat.zero_le _) (by omega)) ?_
    refine lv_istore (lv' := [(6, .int (nI a)), (5, .int (nI (ct (ch T kc ko kv k) n))), (0, .ref (ad 0)), (1, .int (nI c)), (2, .int (nI i)), (3, .int (nI w)), (4, .int (nI o))]) E.1 E.2.1 dX0_group_50 hl (by decide) rfl (fun ls hl => ?_)
    refine lv_iload E.1 E.2.1 dX0_group_52 (lv_at hl 0 rfl) ?_
    refine n_if_ge (tgt := 67) E dX0_group_54 rfl (by omega) ?_
    refine lv_aload_n E.1 E.2.1 dX0_group_67 rfl (lv_at hl 2 rfl) ?_
    refine lv_iload E.1 E.2.1 dX0_group_68 (lv_at hl 0 rfl) ?_
    refine lv_iload_n E.1 E.2.1 dX0_group_70 rfl (lv_at hl 3 rfl) ?_
    refine lv_iload E.1 E.2.1 dX0_group_71 (lv_at hl 1 rfl) ?_
    refine cV_i E (As := [.int (nI a), .int (nI c), .int (nI (ct (ch T kc ko kv k) n))]) (rest := []) (cX_groupEnd l D ad ca T n kc ko kv k lo hi bw bb u39 a c (ct (ch T kc ko kv k) n) (by omega) (by omega) (by omega) hpk39) kX_117 hK hP 0 rfl rfl rfl rfl ⟨Nat.le_of_ble_eq_true rfl, Nat.le_of_ble_eq_true rfl⟩ rfl hl.1 rfl (Nat.le_of_ble_eq_true rfl) dX0_group_73 ⟨Nat.zero_le _, Nat.zero_le _⟩ ?_
    obtain ⟨hge1, hge2, hge3, hge4⟩ := gE_spec (p := sg T c u39) (ct (ch T kc ko kv k) n - (a + 1)) (a + 1)
    rw [show a + 1 + (ct (ch T kc ko kv k) n - (a + 1)) = ct (ch T kc ko kv k) n by omega] at hge2 hge4
    refine lv_istore (lv' := [(7, .int (nI (gE (sg T c u39) (a + 1) ((ct (ch T kc ko kv k) n) - (a + 1))))), (6, .int (nI a)), (5, .int (nI (ct (ch T kc ko kv k) n))), (0, .ref (ad 0)), (1, .int (nI c)), (2, .int (nI i)), (3, .int (nI w)), (4, .int (nI o))]) E.1 E.2.1 dX0_group_76 hl (by decide) rfl (fun ls hl => ?_)
    refine lv_iload_n E.1 E.2.1 dX0_group_78 rfl (lv_at hl 6 rfl) ?_
    rcases (show w = 0 ∨ w = 1 ∨ w = 2 ∨ w = 3 ∨ w = 4 by omega) with rfl | rfl | rfl | rfl | rfl
    · skip
      refine lv_tableIn (off := 29) (tgt := 108) E.1 E.2.1 dX0_group_79 (by decide) (by decide) (by decide) rfl ?_
      refine lv_aload_n E.1 E.2.1 dX0_group_108 rfl (lv_at hl 3 rfl) ?_
      refine n_get E inX hK hP 0 rfl rfl 0 (by decide) flX_9 rfl rfl dX0_group_109 ?_
      refine lv_aload_n E.1 E.2.1 dX0_group_112 rfl (lv_at hl 3 rfl) ?_
      refine n_get E inX hK hP 0 rfl rfl 10 (by decide) flX_42 rfl rfl dX0_group_113 ?_
      refine lv_iload E.1 E.2.1 dX0_group_116 (lv_at hl 1 rfl) ?_
      have hq := hpk39 a ha1
      refine n_iald E hK hP 9 8 rfl rfl (by decide) (by omega) dX0_group_118 ?_
      refine lv_iload_n E.1 E.2.1 dX0_group_119 rfl (lv_at hl 4 rfl) ?_
      refine cS_i E (As := [.int (nI (u39 a)), .int (nI c)]) (rest := [.ref (ad 1)]) (cX_spot l (u39 a) c) kX_52 rfl rfl ⟨Nat.le_of_ble_eq_true rfl, Nat.le_of_ble_eq_true rfl⟩ rfl hl.1 rfl (Nat.le_of_ble_eq_true rfl) dX0_group_120 ⟨Nat.zero_le _, Nat.zero_le _⟩ ?_
      refine n_cald E hK hP 1 0 rfl rfl (u39 a) c (by omega) (by omega) (by omega) dX0_group_123 ?_
      exact e_wl E hr hlk hS u39 (⟨hGr, a, gE (sg T c u39) (a + 1) (ct (ch T kc ko kv k) n - (a + 1)), by omega, by omega, ha2, ha3, fun j h1 h2 => hge3 j (by omega) h2, hge4, rfl⟩) hP dX0_group_124
    · skip
      refine lv_tableIn (off := 46) (tgt := 125) E.1 E.2.1 dX0_group_79 (by decide) (by decide) (by decide) rfl ?_
      refine lv_iload E.1 E.2.1 dX0_group_125 (lv_at hl 0 rfl) ?_
      refine lv_iload E.1 E.2.1 dX0_group_127 (lv_at hl 1 rfl) ?_
      refine n_isub E (by omega) dX0_group_129 ?_
      refine n_i2l E (by omega) dX0_group_130 ?_
      exact e_wl E hr hlk hS u39 (⟨hGr, a, gE (sg T c u39) (a + 1) (ct (ch T kc ko kv k) n - (a + 1)), by omega, by omega, ha2, ha3, fun j h1 h2 => hge3 j (by omega) h2, hge4, rfl⟩) hP dX0_group_131
    · skip
      refine lv_tableIn (off := 53) (tgt := 132) E.1 E.2.1 dX0_group_79 (by decide) (by decide) (by decide) rfl ?_
      refine lv_aload_n E.1 E.2.1 dX0_group_132 rfl (lv_at hl 3 rfl) ?_
      refine lv_iload E.1 E.2.1 dX0_group_133 (lv_at hl 7 rfl) ?_
      refine lv_iload E.1 E.2.1 dX0_group_135 (lv_at hl 1 rfl) ?_
      refine lv_iload E.1 E.2.1 dX0_group_137 (lv_at hl 0 rfl) ?_
      refine cV_l E (As := [.int (nI o), .int (nI a), .int (nI (gE (sg T c u39) (a + 1) ((ct (ch T kc ko kv k) n) - (a + 1))))]) (rest := []) (cX_sumOfPicked l D ad ca T n kc ko kv k lo hi bw bb u39 o a (gE (sg T c u39) (a + 1) ((ct (ch T kc ko kv k) n) - (a + 1))) (by omega) (by omega) (by omega) (fun j hj => hpk39 j (by omega))) kX_88 hK hP 0 rfl rfl rfl rfl ⟨Nat.le_of_ble_eq_true rfl, Nat.le_of_ble_eq_true rfl⟩ rfl hl.1 rfl (Nat.le_of_ble_eq_true rfl) dX0_group_139 ⟨Nat.zero_le _, Nat.zero_le _⟩ ?_
      exact e_wl E hr hlk hS u39 (⟨hGr, a, gE (sg T c u39) (a + 1) (ct (ch T kc ko kv k) n - (a + 1)), by omega, by omega, ha2, ha3, fun j h1 h2 => hge3 j (by omega) h2, hge4, rfl⟩) hP dX0_group_142
    · skip
      refine lv_tableIn (off := 64) (tgt := 143) E.1 E.2.1 dX0_group_79 (by decide) (by decide) (by decide) rfl ?_
      refine lv_aload_n E.1 E.2.1 dX0_group_143 rfl (lv_at hl 3 rfl) ?_
      refine lv_iload E.1 E.2.1 dX0_group_144 (lv_at hl 7 rfl) ?_
      refine lv_iconst (v := nI 0) E.1 E.2.1 dX0_group_146 rfl ?_
      refine lv_iload E.1 E.2.1 dX0_group_147 (lv_at hl 1 rfl) ?_
      refine lv_iload E.1 E.2.1 dX0_group_149 (lv_at hl 0 rfl) ?_
      refine cV_l E (As := [.int (nI o), .int (nI 0), .int (nI a), .int (nI (gE (sg T c u39) (a + 1) ((ct (ch T kc ko kv k) n) - (a + 1))))]) (rest := []) (cX_boundOfPicked l D ad ca T n kc ko kv k lo hi bw bb u39 o false a (gE (sg T c u39) (a + 1) ((ct (ch T kc ko kv k) n) - (a + 1))) (by omega) (by omega) (by omega) (fun j hj => hpk39 j (by omega))) kX_97 hK hP 0 rfl rfl rfl rfl ⟨Nat.le_of_ble_eq_true rfl, Nat.le_of_ble_eq_true rfl⟩ rfl hl.1 rfl (Nat.le_of_ble_eq_true rfl) dX0_group_151 ⟨Nat.zero_le _, Nat.zero_le _⟩ ?_
      exact e_wl E hr hlk hS u39 (⟨hGr, a, gE (sg T c u39) (a + 1) (ct (ch T kc ko kv k) n - (a + 1)), by omega, by omega, ha2, ha3, fun j h1 h2 => hge3 j (by omega) h2, hge4, rfl⟩) hP dX0_group_154
    · skip
      refine lv_tableOut (tgt := 155) E.1 E.2.1 dX0_group_79 (by decide) rfl ?_
      refine lv_aload_n E.1 E.2.1 dX0_group_155 rfl (lv_at hl 3 rfl) ?_
      refine lv_iload E.1 E.2.1 dX0_group_156 (lv_at hl 7 rfl) ?_
      refine lv_iconst (v := nI 1) E.1 E.2.1 dX0_group_158 rfl ?_
      refine lv_iload E.1 E.2.1 dX0_group_159 (lv_at hl 1 rfl) ?_
      refine lv_iload E.1 E.2.1 dX0_group_161 (lv_at hl 0 rfl) ?_
      refine cV_l E (As := [.int (nI o), .int (nI 1), .int (nI a), .int (nI (gE (sg T c u39) (a + 1) ((ct (ch T kc ko kv k) n) - (a + 1))))]) (rest := []) (cX_boundOfPicked l D ad ca T n kc ko kv k lo hi bw bb u39 o true a (gE (sg T c u39) (a + 1) ((ct (ch T kc ko kv k) n) - (a + 1))) (by omega) (by omega) (by omega) (fun j hj => hpk39 j (by omega))) kX_97 hK hP 0 rfl rfl rfl rfl ⟨Nat.le_of_ble_eq_true rfl, Nat.le_of_ble_eq_true rfl⟩ rfl hl.1 rfl (Nat.le_of_ble_eq_true rfl) dX0_group_163 ⟨Nat.zero_le _, Nat.zero_le _⟩ ?_
      exact e_wl E hr hlk hS u39 (⟨hGr, a, gE (sg T c u39) (a + 1) (ct (ch T kc ko kv k) n - (a + 1)), by omega, by omega, ha2, ha3, fun j h1 h2 => hge3 j (by omega) h2, hge4, rfl⟩) hP dX0_group_166
  · skip
    exfalso; omega
set_option maxHeartbeats 4000000 in
set_option maxRecDepth 100000 in
theorem cX_pairs (l : Launch) (D : va_G) (ad : Nat → Nat) (ca : Nat → ClassId) (T : Nat → Nat → Int64) (n : Nat) (kc ko : Nat → Nat) (kv : Nat → Int64) (k : Nat) (lo hi : Nat → Int64) (bw bb pk : Nat → Nat) (c o : Nat) (hIK : iK kc ko k) (hN : inj ad 10) (hn128 : n ≤ 128) (hiB : iB T n lo hi) (hc : c < 4) (ho : o < 4) : Met l yX0_pairs (wA yX0_pairs cX0_pairs 9 (some .int)) (rN 4) (va_Pc [.ref (ad 0), .int (nI c), .int (nI o)] (pW D c2 (tX ca) (wX ad ca T n kc ko kv k lo hi bw bb pk))) (qI (fun z (q : Nat → Nat) => z = nI (sn (fun t => ct (fun j => decide (T (q j) c = T (q t) o)) t) (ct (ch T kc ko kv k) n)) ∧ En q (ch T kc ko kv k) n) D c2 (fun q => wX ad ca T n kc ko kv k lo hi bw bb q) (fA ad 10)) 0 0 (fA ad 10) := by
  refine met_of RX0 rfl (by decide) (Nat.le_of_ble_eq_true rfl) (fun p e s m below meth cd ls E hr hlk _ hB hl => ?_)
  obtain ⟨hP, hK⟩ := hB
  have hl : lv_has ls 9 [(0, .ref (ad 0)), (1, .int (nI c)), (2, .int (nI o))] := hl
  have hS : va_S (fA ad 10) s.heap s.heap [] := va_S.rf
  refine lv_iload_n E.1 E.2.1 dX0_pairs_0 rfl (lv_at hl 1 rfl) ?_
  refine cS_v E (As := [.int (nI c)]) (rest := []) (cX_refuseBadColumn l c (by omega)) kX_60 rfl rfl ⟨Nat.le_of_ble_eq_true rfl, Nat.le_of_ble_eq_true rfl⟩ rfl hl.1 rfl (Nat.le_of_ble_eq_true rfl) dX0_pairs_1 ⟨Nat.zero_le _, Nat.zero_le _⟩ ?_
  refine lv_iload_n E.1 E.2.1 dX0_pairs_4 rfl (lv_at hl 2 rfl) ?_
  refine cS_v E (As := [.int (nI o)]) (rest := []) (cX_refuseBadColumn l o (by omega)) kX_60 rfl rfl ⟨Nat.le_of_ble_eq_true rfl, Nat.le_of_ble_eq_true rfl⟩ rfl hl.1 rfl (Nat.le_of_ble_eq_true rfl) dX0_pairs_5 ⟨Nat.zero_le _, Nat.zero_le _⟩ ?_
  refine lv_aload_n E.1 E.2.1 dX0_pairs_8 rfl (lv_at hl 0 rfl) ?_
  refine cV_wi E (As := []) (rest := []) (cX_pick l D ad ca T n kc ko kv k lo hi bw bb pk hIK hN hn128 hiB) kX_75 hK hP hS (fun _ h => h) 0 rfl rfl rfl rfl ⟨Nat.le_of_ble_eq_true rfl, Nat.le_of_ble_eq_true rfl⟩ rfl hl.1 rfl (Nat.le_of_ble_eq_true rfl) dX0_pairs_9 ⟨Nat.zero_le _, Nat.zero_le _⟩ (fun z9 u9 H locs hp9 hP _ _ hS => ?_)
  obtain ⟨hz9, hE9⟩ := hp9
  subst hz9
  have hP : va_P D c2 (wX ad ca T n kc ko kv k lo hi bw bb u9) H := hP
  have hct := ct_le (ch T kc ko kv k) n
  have hpk9 : ∀ j, j < ct (ch T kc ko kv k) n → u9 j < 128 := fun j hj => Nat.lt_of_lt_of_le (en_inv hE9 j hj).1 hn128
  refine lv_istore_n (lv' := [(3, .int (nI (ct (ch T kc ko kv k) n))), (0, .ref (ad 0)), (1, .int (nI c)), (2, .int (nI o))]) E.1 E.2.1 dX0_pairs_12 rfl hl (by decide) rfl (fun ls hl => ?_)
  refine lv_iconst (v := nI 0) E.1 E.2.1 dX0_pairs_13 rfl ?_
  refine lv_istore (lv' := [(4, .int (nI 0)), (3, .int (nI (ct (ch T kc ko kv k) n))), (0, .ref (ad 0)), (1, .int (nI c)), (2, .int (nI o))]) E.1 E.2.1 dX0_pairs_14 hl (by decide) rfl (fun ls hl => ?_)
  refine lv_iconst (v := nI 1) E.1 E.2.1 dX0_pairs_16 rfl ?_
  refine lv_istore (lv' := [(5, .int (nI 1)), (4, .int (nI 0)), (3, .int (nI (ct (ch T kc ko kv k) n))), (0, .ref (ad 0)), (1, .int (nI c)), (2, .int (nI o))]) E.1 E.2.1 dX0_pairs_17 hl (by decide) rfl (fun ls hl => ?_)
  refine w_lp1 (fun (t : Nat) => 1 ≤ t ∧ (t ≤ ct (ch T kc ko kv k) n ∨ t = 1)) (fun (t : Nat) => ct (ch T kc ko kv k) n - t) (fun (t : Nat) => [(5, .int (nI t)), (4, .int (nI (sn (fun t => ct (fun j => decide (T (u9 j) c = T (u9 t) o)) t) t))), (0, .ref (ad 0)), (1, .int (nI c)), (2, .int (nI o)), (3, .int (nI (ct (ch T kc ko kv k) n)))]) 1 (⟨Nat.le_refl _, Or.inr rfl⟩) (lv_sub hl [0, 1, 3, 4, 5, 2] rfl) (fun t ls hI hl ih19 => ?_)
  have hl : lv_has ls 9 [(5, .int (nI t)), (4, .int (nI (sn (fun t => ct (fun j => decide (T (u9 j) c = T (u9 t) o)) t) t))), (0, .ref (ad 0)), (1, .int (nI c)), (2, .int (nI o)), (3, .int (nI (ct (ch T kc ko kv k) n)))] := hl
  refine lv_iload E.1 E.2.1 dX0_pairs_19 (lv_at hl 0 rfl) ?_
  refine lv_iload_n E.1 E.2.1 dX0_pairs_21 rfl (lv_at hl 5 rfl) ?_
  refine n_icmp_ge (tgt := 90) E dX0_pairs_22 rfl (by omega) (by omega) (fun h22 => ?_) (fun h22 => ?_)
  · skip
    refine lv_iload E.1 E.2.1 dX0_pairs_90 (lv_at hl 1 rfl) ?_
    exact e_wi E hr hlk hS u9 (⟨sn_end (by omega), hE9⟩) hP dX0_pairs_92
  · skip
    refine lv_aload_n E.1 E.2.1 dX0_pairs_25 rfl (lv_at hl 2 rfl) ?_
    refine n_get E inX hK hP 0 rfl rfl 0 (by decide) flX_9 rfl rfl dX0_pairs_26 ?_
    refine lv_aload_n E.1 E.2.1 dX0_pairs_29 rfl (lv_at hl 2 rfl) ?_
    refine n_get E inX hK hP 0 rfl rfl 10 (by decide) flX_42 rfl rfl dX0_pairs_30 ?_
    refine lv_iload E.1 E.2.1 dX0_pairs_33 (lv_at hl 0 rfl) ?_
    have hq := hpk9 t (by omega)
    refine n_iald E hK hP 9 8 rfl rfl (by decide) (by omega) dX0_pairs_35 ?_
    refine lv_iload_n E.1 E.2.1 dX0_pairs_36 rfl (lv_at hl 4 rfl) ?_
    refine cS_i E (As := [.int (nI (u9 t)), .int (nI o)]) (rest := [.ref (ad 1)]) (cX_spot l (u9 t) o) kX_52 rfl rfl ⟨Nat.le_of_ble_eq_true rfl, Nat.le_of_ble_eq_true rfl⟩ rfl hl.1 rfl (Nat.le_of_ble_eq_true rfl) dX0_pairs_37 ⟨Nat.zero_le _, Nat.zero_le _⟩ ?_
    refine n_cald E hK hP 1 0 rfl rfl (u9 t) o (by omega) (by omega) (by omega) dX0_pairs_40 ?_
    refine lv_lstore (lv' := [(6, .long (T (u9 t) o)), (5, .int (nI t)), (4, .int (nI (sn (fun t => ct (fun j => decide (T (u9 j) c = T (u9 t) o)) t) t))), (0, .ref (ad 0)), (1, .int (nI c)), (2, .int (nI o)), (3, .int (nI (ct (ch T kc ko kv k) n)))]) E.1 E.2.1 dX0_pairs_41 hl (by decide) rfl (fun ls hl => ?_)
    refine lv_iconst (v := nI 0) E.1 E.2.1 dX0_pairs_43 rfl ?_
    refine lv_istore (lv' := [(8, .int (nI 0)), (6, .long (T (u9 t) o)), (5, .int (nI t)), (4, .int (nI (sn (fun t => ct (fun j => decide (T (u9 j) c = T (u9 t) o)) t) t))), (0, .ref (ad 0)), (1, .int (nI c)), (2, .int (nI o)), (3, .int (nI (ct (ch T kc ko kv k) n)))]) E.1 E.2.1 dX0_pairs_44 hl (by decide) rfl (fun ls hl => ?_)
    refine w_lp1 (fun (j : Nat) => j ≤ t) (fun (j : Nat) => t - j) (fun (j : Nat) => [(8, .int (nI j)), (4, .int (nI (sn (fun t => ct (fun j => decide (T (u9 j) c = T (u9 t) o)) t) t + ct (fun j => decide (T (u9 j) c = T (u9 t) o)) j))), (5, .int (nI t)), (6, .long (T (u9 t) o)), (0, .ref (ad 0)), (1, .int (nI c)), (2, .int (nI o)), (3, .int (nI (ct (ch T kc ko kv k) n)))]) 0 (Nat.zero_le _) (lv_sub hl [0, 3, 2, 1, 4, 5, 6, 7] rfl) (fun j ls hI hl ih46 => ?_)
    have hl : lv_has ls 9 [(8, .int (nI j)), (4, .int (nI (sn (fun t => ct (fun j => decide (T (u9 j) c = T (u9 t) o)) t) t + ct (fun j => decide (T (u9 j) c = T (u9 t) o)) j))), (5, .int (nI t)), (6, .long (T (u9 t) o)), (0, .ref (ad 0)), (1, .int (nI c)), (2, .int (nI o)), (3, .int (nI (ct (ch T kc ko kv k) n)))] := hl
    refine lv_iload E.1 E.2.1 dX0_pairs_46 (lv_at hl 0 rfl) ?_
    refine lv_iload E.1 E.2.1 dX0_pairs_48 (lv_at hl 2 rfl) ?_
    refine n_icmp_ge (tgt := 84) E dX0_pairs_50 rfl (by omega) (by omega) (fun h50 => ?_) (fun h50 => ?_)
    · skip
      refine lv_iinc (k := 2) (v := nI (t + 1)) (lv' := [(5, .int (nI (t + 1))), (8, .int (nI j)), (4, .int (nI (sn (fun t => ct (fun j => decide (T (u9 j) c = T (u9 t) o)) t) t + ct (fun j => decide (T (u9 j) c = T (u9 t) o)) j))), (6, .long (T (u9 t) o)), (0, .ref (ad 0)), (1, .int (nI c)), (2, .int (nI o)), (3, .int (nI (ct (ch T kc ko kv k) n)))]) E.1 E.2.1 dX0_pairs_84 hl rfl (inc1 _) (by decide) rfl (fun ls hl => ?_)
      refine lv_goto (tgt := 19) E.1 E.2.1 dX0_pairs_87 rfl ?_
      have e9 : t = j := by omega
      subst e9
      exact ih19 (t + 1) _ (⟨by omega, by omega⟩) (by omega) (lv_sub hl [0, 2, 4, 5, 6, 7] rfl)
    · skip
      refine lv_aload_n E.1 E.2.1 dX0_pairs_53 rfl (lv_at hl 4 rfl) ?_
      refine n_get E inX hK hP 0 rfl rfl 0 (by decide) flX_9 rfl rfl dX0_pairs_54 ?_
      refine lv_aload_n E.1 E.2.1 dX0_pairs_57 rfl (lv_at hl 4 rfl) ?_
      refine n_get E inX hK hP 0 rfl rfl 10 (by decide) flX_42 rfl rfl dX0_pairs_58 ?_
      refine lv_iload E.1 E.2.1 dX0_pairs_61 (lv_at hl 0 rfl) ?_
      have hq2 := hpk9 j (by omega)
      refine n_iald E hK hP 9 8 rfl rfl (by decide) (by omega) dX0_pairs_63 ?_
      refine lv_iload_n E.1 E.2.1 dX0_pairs_64 rfl (lv_at hl 5 rfl) ?_
      refine cS_i E (As := [.int (nI (u9 j)), .int (nI c)]) (rest := [.ref (ad 1)]) (cX_spot l (u9 j) c) kX_52 rfl rfl ⟨Nat.le_of_ble_eq_true rfl, Nat.le_of_ble_eq_true rfl⟩ rfl hl.1 rfl (Nat.le_of_ble_eq_true rfl) dX0_pairs_65 ⟨Nat.zero_le _, Nat.zero_le _⟩ ?_
      refine n_cald E hK hP 1 0 rfl rfl (u9 j) c (by omega) (by omega) (by omega) dX0_pairs_68 ?_
      refine lv_lload E.1 E.2.1 dX0_pairs_69 (lv_at hl 3 rfl) ?_
      refine l_if_ne (tgt := 78) E dX0_pairs_71 dX0_pairs_72 rfl (fun h71 => ?_) (fun h71 => ?_)
      · skip
        refine lv_iinc (k := 0) (v := nI (j + 1)) (lv' := [(8, .int (nI (j + 1))), (4, .int (nI (sn (fun t => ct (fun j => decide (T (u9 j) c = T (u9 t) o)) t) t + ct (fun j => decide (T (u9 j) c = T (u9 t) o)) j))), (5, .int (nI t)), (6, .long (T (u9 t) o)), (0, .ref (ad 0)), (1, .int (nI c)), (2, .int (nI o)), (3, .int (nI (ct (ch T kc ko kv k) n)))]) E.1 E.2.1 dX0_pairs_78 hl rfl (inc1 _) (by decide) rfl (fun ls hl => ?_)
        refine lv_goto (tgt := 46) E.1 E.2.1 dX0_pairs_81 rfl ?_
        rw [← ct_f (p := fun j => decide (T (u9 j) c = T (u9 t) o)) (decide_eq_false h71)] at hl
        exact ih46 (j + 1) _ (by omega) (by omega) (lv_sub hl [0, 1, 2, 3, 4, 5, 6, 7] rfl)
      · skip
        refine lv_iinc (k := 1) (v := nI (sn (fun t => ct (fun j => decide (T (u9 j) c = T (u9 t) o)) t) t + ct (fun j => decide (T (u9 j) c = T (u9 t) o)) j + 1)) (lv' := [(4, .int (nI (sn (fun t => ct (fun j => decide (T (u9 j) c = T (u9 t) o)) t) t + ct (fun j => decide (T (u9 j) c = T (u9 t) o)) j + 1))), (8, .int (nI j)), (5, .int (nI t)), (6, .long (T (u9 t) o)), (0, .ref (ad 0)), (1, .int (nI c)), (2, .int (nI o)), (3, .int (nI (ct (ch T kc ko kv k) n)))]) E.1 E.2.1 dX0_pairs_75 hl rfl (inc1 _) (by decide) rfl (fun ls hl => ?_)
        refine lv_iinc (k := 1) (v := nI (j + 1)) (lv' := [(8, .int (nI (j + 1))), (4, .int (nI (sn (fun t => ct (fun j => decide (T (u9 j) c = T (u9 t) o)) t) t + ct (fun j => decide (T (u9 j) c = T (u9 t) o)) j + 1))), (5, .int (nI t)), (6, .long (T (u9 t) o)), (0, .ref (ad 0)), (1, .int (nI c)), (2, .int (nI o)), (3, .int (nI (ct (ch T kc ko kv k) n)))]) E.1 E.2.1 dX0_pairs_78 hl rfl (inc1 _) (by decide) rfl (fun ls hl => ?_)
        refine lv_goto (tgt := 46) E.1 E.2.1 dX0_pairs_81 rfl ?_
        rw [Nat.add_assoc, ← ct_t (p := fun j => decide (T (u9 j) c = T (u9 t) o)) (decide_eq_true h71)] at hl
        exact ih46 (j + 1) _ (by omega) (by omega) (lv_sub hl [0, 1, 2, 3, 4, 5, 6, 7] rfl)
set_option maxHeartbeats 4000000 in
set_option maxRecDepth 100000 in
theorem cX_way (l : Launch) (D : va_G) (ad : Nat → Nat) (ca : Nat → ClassId) (T : Nat → Nat → Int64) (n : Nat) (kc ko : Nat → Nat) (kv : Nat → Int64) (k : Nat) (lo hi : Nat → Int64) (bw bb pk : Nat → Nat) (b c : Nat) (hn128 : n ≤ 128) (hb : b < n / 16) (hc : c < 4) : Met l yX0_way (wA yX0_way cX0_way 3 (some .int)) (rN 2) (va_Pc [.ref (ad 0), .int (nI b), .int (nI c)] (pW D c2 (tX ca) (wX ad ca T n kc ko kv k lo hi bw bb pk))) (vp_Si (fun z => z = nI (bw (b * 4 + c)))) 0 0 (fun _ => False) := by
  refine met_of RX0 rfl (by decide) (Nat.le_of_ble_eq_true rfl) (fun p e s m below meth cd ls E hr hlk _ hB hl => ?_)
  obtain ⟨hP, hK⟩ := hB
  have hl : lv_has ls 3 [(0, .ref (ad 0)), (1, .int (nI b)), (2, .int (nI c))] := hl
  refine lv_iload_n E.1 E.2.1 dX0_way_0 rfl (lv_at hl 2 rfl) ?_
  refine cS_v E (As := [.int (nI c)]) (rest := []) (cX_refuseBadColumn l c (by omega)) kX_60 rfl rfl ⟨Nat.le_of_ble_eq_true rfl, Nat.le_of_ble_eq_true rfl⟩ rfl hl.1 rfl (Nat.le_of_ble_eq_true rfl) dX0_way_1 ⟨Nat.zero_le _, Nat.zero_le _⟩ ?_
  refine lv_aload_n E.1 E.2.1 dX0_way_4 rfl (lv_at hl 0 rfl) ?_
  refine lv_iload_n E.1 E.2.1 dX0_way_5 rfl (lv_at hl 1 rfl) ?_
  refine cV_v E (As := [.int (nI b)]) (rest := []) (cX_refuseUnpackedBlock l D ad ca T n kc ko kv k lo hi bw bb pk b (by omega) (by omega)) kX_120 hK hP 0 rfl rfl rfl rfl ⟨Nat.le_of_ble_eq_true rfl, Nat.le_of_ble_eq_true rfl⟩ rfl hl.1 rfl (Nat.le_of_ble_eq_true rfl) dX0_way_6 ⟨Nat.zero_le _, Nat.zero_le _⟩ ?_
  refine lv_aload_n E.1 E.2.1 dX0_way_9 rfl (lv_at hl 0 rfl) ?_
  refine n_get E inX hK hP 0 rfl rfl 8 (by decide) flX_36 rfl rfl dX0_way_10 ?_
  refine lv_iload_n E.1 E.2.1 dX0_way_13 rfl (lv_at hl 1 rfl) ?_
  refine lv_iload_n E.1 E.2.1 dX0_way_14 rfl (lv_at hl 2 rfl) ?_
  refine cS_i E (As := [.int (nI b), .int (nI c)]) (rest := [.ref (ad 7)]) (cX_place l b c) kX_123 rfl rfl ⟨Nat.le_of_ble_eq_true rfl, Nat.le_of_ble_eq_true rfl⟩ rfl hl.1 rfl (Nat.le_of_ble_eq_true rfl) dX0_way_15 ⟨Nat.zero_le _, Nat.zero_le _⟩ ?_
  refine n_iald E hK hP 7 6 rfl rfl (by decide) (by omega) dX0_way_18 ?_
  exact e_i E hr hlk rfl dX0_way_19
set_option maxHeartbeats 4000000 in
set_option maxRecDepth 100000 in
theorem cX_bits (l : Launch) (D : va_G) (ad : Nat → Nat) (ca : Nat → ClassId) (T : Nat → Nat → Int64) (n : Nat) (kc ko : Nat → Nat) (kv : Nat → Int64) (k : Nat) (lo hi : Nat → Int64) (bw bb pk : Nat → Nat) (b c : Nat) (hn128 : n ≤ 128) (hb : b < n / 16) (hc : c < 4) : Met l yX0_bits (wA yX0_bits cX0_bits 3 (some .int)) (rN 2) (va_Pc [.ref (ad 0), .int (nI b), .int (nI c)] (pW D c2 (tX ca) (wX ad ca T n kc ko kv k lo hi bw bb pk))) (vp_Si (fun z => z = nI (bb (b * 4 + c)))) 0 0 (fun _ => False) := by
  refine met_of RX0 rfl (by decide) (Nat.le_of_ble_eq_true rfl) (fun p e s m below meth cd ls E hr hlk _ hB hl => ?_)
  obtain ⟨hP, hK⟩ := hB
  have hl : lv_has ls 3 [(0, .ref (ad 0)), (1, .int (nI b)), (2, .int (nI c))] := hl
  refine lv_iload_n E.1 E.2.1 dX0_bits_0 rfl (lv_at hl 2 rfl) ?_
  refine cS_v E (As := [.int (nI c)]) (rest := []) (cX_refuseBadColumn l c (by omega)) kX_60 rfl rfl ⟨Nat.le_of_ble_eq_true rfl, Nat.le_of_ble_eq_true rfl⟩ rfl hl.1 rfl (Nat.le_of_ble_eq_true rfl) dX0_bits_1 ⟨Nat.zero_le _, Nat.zero_le _⟩ ?_
  refine lv_aload_n E.1 E.2.1 dX0_bits_4 rfl (lv_at hl 0 rfl) ?_
  refine lv_iload_n E.1 E.2.1 dX0_bits_5 rfl (lv_at hl 1 rfl) ?_
  refine cV_v E (As := [.int (nI b)]) (rest := []) (cX_refuseUnpackedBlock l D ad ca T n kc ko kv k lo hi bw bb pk b (by omega) (by omega)) kX_120 hK hP 0 rfl rfl rfl rfl ⟨Nat.le_of_ble_eq_true rfl, Nat.le_of_ble_eq_true rfl⟩ rfl hl.1 rfl (Nat.le_of_ble_eq_true rfl) dX0_bits_6 ⟨Nat.zero_le _, Nat.zero_le _⟩ ?_
  refine lv_aload_n E.1 E.2.1 dX0_bits_9 rfl (lv_at hl 0 rfl) ?_
  refine n_get E inX hK hP 0 rfl rfl 9 (by decide) flX_39 rfl rfl dX0_bits_10 ?_
  refine lv_iload_n E.1 E.2.1 dX0_bits_13 rfl (lv_at hl 1 rfl) ?_
  refine lv_iload_n E.1 E.2.1 dX0_bits_14 rfl (lv_at hl 2 rfl) ?_
  refine cS_i E (As := [.int (nI b), .int (nI c)]) (rest := [.ref (ad 8)]) (cX_place l b c) kX_123 rfl rfl ⟨Nat.le_of_ble_eq_true rfl, Nat.le_of_ble_eq_true rfl⟩ rfl hl.1 rfl (Nat.le_of_ble_eq_true rfl) dX0_bits_15 ⟨Nat.zero_le _, Nat.zero_le _⟩ ?_
  refine n_iald E hK hP 8 7 rfl rfl (by decide) (by omega) dX0_bits_18 ?_
  exact e_i E hr hlk rfl dX0_bits_19
