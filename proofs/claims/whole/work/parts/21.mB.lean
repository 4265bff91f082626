/-! Contracts of the model: laid by program (wip/whole/gen.py). -/
set_option maxHeartbeats 4000000 in
set_option maxRecDepth 100000 in
theorem cR_lacks (l : Launch) (D : va_G) (ad : Nat → Nat) (ca : Nat → ClassId) (T : Nat → Nat → Int64) (n : Nat) (kc ko : Nat → Nat) (kv : Nat → Int64) (k cd : Nat) (b c : Nat) (hN : inj ad 5) (hn128 : n ≤ 128) (hb0 : b < n / 16) (hc : c < 4) : Met l yX1_lacks (wA yX1_lacks cX1_lacks 3 (some .boolean)) (rN 1) (va_Pc [.ref (ad 0), .int (nI b), .int (nI c)] (pW D c2 (tR ca) (wR ad ca T n kc ko kv k cd))) (qI (fun z (_ : Unit) => z = bI false) D c2 (fun _ => wR ad ca T n kc ko kv k 0) (fA ad 5)) 0 0 (fA ad 5) := by
  refine met_of RX1 rfl (by decide) (Nat.le_of_ble_eq_true rfl) (fun p e s m below meth cd0 ls E hr hlk _ hB hl => ?_)
  obtain ⟨hP, hK⟩ := hB
  have hl : lv_has ls 3 [(0, .ref (ad 0)), (1, .int (nI b)), (2, .int (nI c))] := hl
  have hS : va_S (fA ad 5) s.heap s.heap [] := va_S.rf
  refine lv_aload_n E.1 E.2.1 dX1_lacks_0 rfl (lv_at hl 0 rfl) ?_
  refine lv_iload_n E.1 E.2.1 dX1_lacks_1 rfl (lv_at hl 2 rfl) ?_
  refine cS_i E (As := [.int (nI c)]) (rest := [.ref (ad 0)]) (cR_isColumn l (nI c)) kR_30 rfl rfl ⟨Nat.le_of_ble_eq_true rfl, Nat.le_of_ble_eq_true rfl⟩ rfl hl.1 rfl (Nat.le_of_ble_eq_true rfl) dX1_lacks_2 ⟨Nat.zero_le _, Nat.zero_le _⟩ ?_
  refine tpi (y := bI true) (congrArg bI (isC_n (by omega))) ?_
  refine b_if_ne (tgt := 12) E dX1_lacks_5 rfl (fun _ => ?_) (fun h => Bool.noConfusion h)
  refine lv_iload_n E.1 E.2.1 dX1_lacks_12 rfl (lv_at hl 1 rfl) ?_
  refine n_if_lt (tgt := 27) E dX1_lacks_13 rfl (by omega) ?_
  refine lv_iload_n E.1 E.2.1 dX1_lacks_16 rfl (lv_at hl 1 rfl) ?_
  refine lv_aload_n E.1 E.2.1 dX1_lacks_17 rfl (lv_at hl 0 rfl) ?_
  refine n_get E inR hK hP 0 rfl rfl 1 (by decide) flR_27 rfl rfl dX1_lacks_18 ?_
  refine lv_bipush (v := nI 16) E.1 E.2.1 dX1_lacks_21 rfl ?_
  refine n_idiv E (by omega) (by omega) (by omega) dX1_lacks_23 ?_
  refine n_icmp_lt (tgt := 31) E dX1_lacks_24 rfl (by omega) (by omega) (fun h24 => ?_) (fun h24 => ?_)
  · skip
    refine lv_iconst (v := nI 0) E.1 E.2.1 dX1_lacks_31 rfl ?_
    refine n_put E inR tyR1 tyR1_ok nmR1 hK hP (dW hN rfl) hS 0 rfl rfl 0 (by decide) flR_23 rfl rfl (tyR1_ok 0 (by decide)) (Nat.le_of_ble_eq_true rfl) dX1_lacks_32 (fun H locs hP hS => ?_)
    have hP : va_P D c2 (wR ad ca T n kc ko kv k 0) H := hP
    refine lv_aload_n E.1 E.2.1 dX1_lacks_35 rfl (lv_at hl 0 rfl) ?_
    refine n_get E inR hK hP 0 rfl rfl 0 (by decide) flR_23 rfl rfl dX1_lacks_36 ?_
    refine n_if_le (tgt := 46) E dX1_lacks_39 rfl (by decide) (fun _ => ?_) (fun h => absurd h (by decide))
    refine lv_iconst (v := nI 0) E.1 E.2.1 dX1_lacks_46 rfl ?_
    exact e_wz (v := false) E hr hlk hS () rfl hP dX1_lacks_47
  · skip
    exfalso; omega
set_option maxHeartbeats 4000000 in
set_option maxRecDepth 100000 in
theorem cR_lacks1 (l : Launch) (D : va_G) (ad : Nat → Nat) (ca : Nat → ClassId) (T : Nat → Nat → Int64) (n : Nat) (kc ko : Nat → Nat) (kv : Nat → Int64) (k cd : Nat) (y x : Int32) (hN : inj ad 5) (hx : isC x = false) : Met l yX1_lacks (wA yX1_lacks cX1_lacks 3 (some .boolean)) (rN 1) (va_Pc [.ref (ad 0), .int y, .int x] (pW D c2 (tR ca) (wR ad ca T n kc ko kv k cd))) (qI (fun z (_ : Unit) => z = bI true) D c2 (fun _ => wR ad ca T n kc ko kv k 1) (fA ad 5)) 0 0 (fA ad 5) := by
  refine met_of RX1 rfl (by decide) (Nat.le_of_ble_eq_true rfl) (fun p e s m below meth cd0 ls E hr hlk _ hB hl => ?_)
  obtain ⟨hP, hK⟩ := hB
  have hl : lv_has ls 3 [(0, .ref (ad 0)), (1, .int y), (2, .int x)] := hl
  have hS : va_S (fA ad 5) s.heap s.heap [] := va_S.rf
  refine lv_aload_n E.1 E.2.1 dX1_lacks_0 rfl (lv_at hl 0 rfl) ?_
  refine lv_iload_n E.1 E.2.1 dX1_lacks_1 rfl (lv_at hl 2 rfl) ?_
  refine cS_i E (As := [.int x]) (rest := [.ref (ad 0)]) (cR_isColumn l x) kR_30 rfl rfl ⟨Nat.le_of_ble_eq_true rfl, Nat.le_of_ble_eq_true rfl⟩ rfl hl.1 rfl (Nat.le_of_ble_eq_true rfl) dX1_lacks_2 ⟨Nat.zero_le _, Nat.zero_le _⟩ ?_
  refine tpi (y := bI false) (congrArg bI hx) ?_
  refine b_if_ne (tgt := 12) E dX1_lacks_5 rfl (fun h => Bool.noConfusion h) (fun _ => ?_)
  refine lv_iconst (v := nI 1) E.1 E.2.1 dX1_lacks_8 rfl ?_
  refine lv_goto (tgt := 32) E.1 E.2.1 dX1_lacks_9 rfl ?_
  refine n_put E inR tyR1 tyR1_ok nmR1 hK hP (dW hN rfl) hS 0 rfl rfl 0 (by decide) flR_23 rfl rfl (tyR1_ok 0 (by decide)) (Nat.le_of_ble_eq_true rfl) dX1_lacks_32 (fun H locs hP hS => ?_)
  have hP : va_P D c2 (wR ad ca T n kc ko kv k 1) H := hP
  refine lv_aload_n E.1 E.2.1 dX1_lacks_35 rfl (lv_at hl 0 rfl) ?_
  refine n_get E inR hK hP 0 rfl rfl 0 (by decide) flR_23 rfl rfl dX1_lacks_36 ?_
  refine n_if_le (tgt := 46) E dX1_lacks_39 rfl (by decide) (fun h => absurd h (by decide)) (fun _ => ?_)
  refine lv_iconst (v := nI 1) E.1 E.2.1 dX1_lacks_42 rfl ?_
  refine lv_goto (tgt := 47) E.1 E.2.1 dX1_lacks_43 rfl ?_
  exact e_wz (v := true) E hr hlk hS () rfl hP dX1_lacks_47
set_option maxHeartbeats 4000000 in
set_option maxRecDepth 100000 in
theorem cR_lacks2 (l : Launch) (D : va_G) (ad : Nat → Nat) (ca : Nat → ClassId) (T : Nat → Nat → Int64) (n : Nat) (kc ko : Nat → Nat) (kv : Nat → Int64) (k cd : Nat) (y : Int32) (c : Nat) (hN : inj ad 5) (hn128 : n ≤ 128) (hc : c < 4) (hy : y < 0 ∨ nI (n / 16) ≤ y) : Met l yX1_lacks (wA yX1_lacks cX1_lacks 3 (some .boolean)) (rN 1) (va_Pc [.ref (ad 0), .int y, .int (nI c)] (pW D c2 (tR ca) (wR ad ca T n kc ko kv k cd))) (qI (fun z (_ : Unit) => z = bI true) D c2 (fun _ => wR ad ca T n kc ko kv k 2) (fA ad 5)) 0 0 (fA ad 5) := by
  refine met_of RX1 rfl (by decide) (Nat.le_of_ble_eq_true rfl) (fun p e s m below meth cd0 ls E hr hlk _ hB hl => ?_)
  obtain ⟨hP, hK⟩ := hB
  have hl : lv_has ls 3 [(0, .ref (ad 0)), (1, .int y), (2, .int (nI c))] := hl
  have hS : va_S (fA ad 5) s.heap s.heap [] := va_S.rf
  refine lv_aload_n E.1 E.2.1 dX1_lacks_0 rfl (lv_at hl 0 rfl) ?_
  refine lv_iload_n E.1 E.2.1 dX1_lacks_1 rfl (lv_at hl 2 rfl) ?_
  refine cS_i E (As := [.int (nI c)]) (rest := [.ref (ad 0)]) (cR_isColumn l (nI c)) kR_30 rfl rfl ⟨Nat.le_of_ble_eq_true rfl, Nat.le_of_ble_eq_true rfl⟩ rfl hl.1 rfl (Nat.le_of_ble_eq_true rfl) dX1_lacks_2 ⟨Nat.zero_le _, Nat.zero_le _⟩ ?_
  refine tpi (y := bI true) (congrArg bI (isC_n (by omega))) ?_
  refine b_if_ne (tgt := 12) E dX1_lacks_5 rfl (fun _ => ?_) (fun h => Bool.noConfusion h)
  refine lv_iload_n E.1 E.2.1 dX1_lacks_12 rfl (lv_at hl 1 rfl) ?_
  refine lv_if_lt (tgt := 27) E.1 E.2.1 dX1_lacks_13 rfl (fun h13 => ?_) (fun h13 => ?_)
  · skip
    refine lv_iconst (v := nI 2) E.1 E.2.1 dX1_lacks_27 rfl ?_
    refine lv_goto (tgt := 32) E.1 E.2.1 dX1_lacks_28 rfl ?_
    refine n_put E inR tyR1 tyR1_ok nmR1 hK hP (dW hN rfl) hS 0 rfl rfl 0 (by decide) flR_23 rfl rfl (tyR1_ok 0 (by decide)) (Nat.le_of_ble_eq_true rfl) dX1_lacks_32 (fun H locs hP hS => ?_)
    have hP : va_P D c2 (wR ad ca T n kc ko kv k 2) H := hP
    refine lv_aload_n E.1 E.2.1 dX1_lacks_35 rfl (lv_at hl 0 rfl) ?_
    refine n_get E inR hK hP 0 rfl rfl 0 (by decide) flR_23 rfl rfl dX1_lacks_36 ?_
    refine n_if_le (tgt := 46) E dX1_lacks_39 rfl (by decide) (fun h => absurd h (by decide)) (fun _ => ?_)
    refine lv_iconst (v := nI 1) E.1 E.2.1 dX1_lacks_42 rfl ?_
    refine lv_goto (tgt := 47) E.1 E.2.1 dX1_lacks_43 rfl ?_
    exact e_wz (v := true) E hr hlk hS () rfl hP dX1_lacks_47
  · skip
    refine lv_iload_n E.1 E.2.1 dX1_lacks_16 rfl (lv_at hl 1 rfl) ?_
    refine lv_aload_n E.1 E.2.1 dX1_lacks_17 rfl (lv_at hl 0 rfl) ?_
    refine n_get E inR hK hP 0 rfl rfl 1 (by decide) flR_27 rfl rfl dX1_lacks_18 ?_
    refine lv_bipush (v := nI 16) E.1 E.2.1 dX1_lacks_21 rfl ?_
    refine n_idiv E (by omega) (by omega) (by omega) dX1_lacks_23 ?_
    refine lv_icmp_lt (tgt := 31) E.1 E.2.1 dX1_lacks_24 rfl (fun h24 => ?_) (fun h24 => ?_)
    · skip
      exact (bad_no hy h13 h24).elim
    · skip
      refine lv_iconst (v := nI 2) E.1 E.2.1 dX1_lacks_27 rfl ?_
      refine lv_goto (tgt := 32) E.1 E.2.1 dX1_lacks_28 rfl ?_
      refine n_put E inR tyR1 tyR1_ok nmR1 hK hP (dW hN rfl) hS 0 rfl rfl 0 (by decide) flR_23 rfl rfl (tyR1_ok 0 (by decide)) (Nat.le_of_ble_eq_true rfl) dX1_lacks_32 (fun H locs hP hS => ?_)
      have hP : va_P D c2 (wR ad ca T n kc ko kv k 2) H := hP
      refine lv_aload_n E.1 E.2.1 dX1_lacks_35 rfl (lv_at hl 0 rfl) ?_
      refine n_get E inR hK hP 0 rfl rfl 0 (by decide) flR_23 rfl rfl dX1_lacks_36 ?_
      refine n_if_le (tgt := 46) E dX1_lacks_39 rfl (by decide) (fun h => absurd h (by decide)) (fun _ => ?_)
      refine lv_iconst (v := nI 1) E.1 E.2.1 dX1_lacks_42 rfl ?_
      refine lv_goto (tgt := 47) E.1 E.2.1 dX1_lacks_43 rfl ?_
      exact e_wz (v := true) E hr hlk hS () rfl hP dX1_lacks_47
set_option maxHeartbeats 4000000 in
set_option maxRecDepth 100000 in
theorem cR_way (l : Launch) (D : va_G) (ad : Nat → Nat) (ca : Nat → ClassId) (T : Nat → Nat → Int64) (n : Nat) (kc ko : Nat → Nat) (kv : Nat → Int64) (k cd : Nat) (b c : Nat) (hN : inj ad 5) (hn128 : n ≤ 128) (hb0 : b < n / 16) (hc : c < 4) : Met l yX1_way (wA yX1_way cX1_way 3 (some .int)) (rN 3) (va_Pc [.ref (ad 0), .int (nI b), .int (nI c)] (pW D c2 (tR ca) (wR ad ca T n kc ko kv k cd))) (qI (fun z (_ : Unit) => z = nI (bW (xb T b c) (cb c) 3)) D c2 (fun _ => wR ad ca T n kc ko kv k 0) (fA ad 5)) 0 0 (fA ad 5) := by
  refine met_of RX1 rfl (by decide) (Nat.le_of_ble_eq_true rfl) (fun p e s m below meth cd0 ls E hr hlk _ hB hl => ?_)
  obtain ⟨hP, hK⟩ := hB
  have hl : lv_has ls 3 [(0, .ref (ad 0)), (1, .int (nI b)), (2, .int (nI c))] := hl
  have hS : va_S (fA ad 5) s.heap s.heap [] := va_S.rf
  refine lv_aload_n E.1 E.2.1 dX1_way_0 rfl (lv_at hl 0 rfl) ?_
  refine lv_iload_n E.1 E.2.1 dX1_way_1 rfl (lv_at hl 1 rfl) ?_
  refine lv_iload_n E.1 E.2.1 dX1_way_2 rfl (lv_at hl 2 rfl) ?_
  refine cV_wi E (As := [.int (nI b), .int (nI c)]) (rest := []) (cR_lacks l D ad ca T n kc ko kv k cd b c hN hn128 (by omega) (by omega)) kR_67 hK hP hS (fun _ h => h) 0 rfl rfl rfl rfl ⟨Nat.le_of_ble_eq_true rfl, Nat.le_of_ble_eq_true rfl⟩ rfl hl.1 rfl (Nat.le_of_ble_eq_true rfl) dX1_way_3 ⟨Nat.zero_le _, Nat.zero_le _⟩ (fun z3 u3 H locs hp3 hP _ _ hS => ?_)
  subst hp3
  have hP : va_P D c2 (wR ad ca T n kc ko kv k 0) H := hP
  refine b_if_eq (tgt := 13) E dX1_way_6 rfl (fun _ => ?_) (fun h => Bool.noConfusion h)
  refine lv_aload_n E.1 E.2.1 dX1_way_13 rfl (lv_at hl 0 rfl) ?_
  refine lv_iload_n E.1 E.2.1 dX1_way_14 rfl (lv_at hl 1 rfl) ?_
  refine lv_iload_n E.1 E.2.1 dX1_way_15 rfl (lv_at hl 2 rfl) ?_
  refine cV_i E (As := [.int (nI b), .int (nI c)]) (rest := []) (cR_best l D ad ca T n kc ko kv k 0 b c (by omega) (by omega)) kR_71 hK hP 0 rfl rfl rfl rfl ⟨Nat.le_of_ble_eq_true rfl, Nat.le_of_ble_eq_true rfl⟩ rfl hl.1 rfl (Nat.le_of_ble_eq_true rfl) dX1_way_16 ⟨Nat.zero_le _, Nat.zero_le _⟩ ?_
  exact e_wi E hr hlk hS () rfl hP dX1_way_19
set_option maxHeartbeats 4000000 in
set_option maxRecDepth 100000 in
theorem cR_way1 (l : Launch) (D : va_G) (ad : Nat → Nat) (ca : Nat → ClassId) (T : Nat → Nat → Int64) (n : Nat) (kc ko : Nat → Nat) (kv : Nat → Int64) (k cd : Nat) (y x : Int32) (hN : inj ad 5) (hx : isC x = false) : Met l yX1_way (wA yX1_way cX1_way 3 (some .int)) (rN 3) (va_Pc [.ref (ad 0), .int y, .int x] (pW D c2 (tR ca) (wR ad ca T n kc ko kv k cd))) (qI (fun z (_ : Unit) => True) D c2 (fun _ => wR ad ca T n kc ko kv k 1) (fA ad 5)) 0 0 (fA ad 5) := by
  refine met_of RX1 rfl (by decide) (Nat.le_of_ble_eq_true rfl) (fun p e s m below meth cd0 ls E hr hlk _ hB hl => ?_)
  obtain ⟨hP, hK⟩ := hB
  have hl : lv_has ls 3 [(0, .ref (ad 0)), (1, .int y), (2, .int x)] := hl
  have hS : va_S (fA ad 5) s.heap s.heap [] := va_S.rf
  refine lv_aload_n E.1 E.2.1 dX1_way_0 rfl (lv_at hl 0 rfl) ?_
  refine lv_iload_n E.1 E.2.1 dX1_way_1 rfl (lv_at hl 1 rfl) ?_
  refine lv_iload_n E.1 E.2.1 dX1_way_2 rfl (lv_at hl 2 rfl) ?_
  refine cV_wi E (As := [.int y, .int x]) (rest := []) (cR_lacks1 l D ad ca T n kc ko kv k cd y x hN hx) kR_67 hK hP hS (fun _ h => h) 0 rfl rfl rfl rfl ⟨Nat.le_of_ble_eq_true rfl, Nat.le_of_ble_eq_true rfl⟩ rfl hl.1 rfl (Nat.le_of_ble_eq_true rfl) dX1_way_3 ⟨Nat.zero_le _, Nat.zero_le _⟩ (fun z3 u3 H locs hp3 hP _ _ hS => ?_)
  subst hp3
  have hP : va_P D c2 (wR ad ca T n kc ko kv k 1) H := hP
  refine b_if_eq (tgt := 13) E dX1_way_6 rfl (fun h => Bool.noConfusion h) (fun _ => ?_)
  refine lv_iconst (v := nI 0) E.1 E.2.1 dX1_way_9 rfl ?_
  refine lv_goto (tgt := 19) E.1 E.2.1 dX1_way_10 rfl ?_
  exact e_wi E hr hlk hS () trivial hP dX1_way_19
set_option maxHeartbeats 4000000 in
set_option maxRecDepth 100000 in
theorem cR_way2 (l : Launch) (D : va_G) (ad : Nat → Nat) (ca : Nat → ClassId) (T : Nat → Nat → Int64) (n : Nat) (kc ko : Nat → Nat) (kv : Nat → Int64) (k cd : Nat) (y : Int32) (c : Nat) (hN : inj ad 5) (hn128 : n ≤ 128) (hc : c < 4) (hy : y < 0 ∨ nI (n / 16) ≤ y) : Met l yX1_way (wA yX1_way cX1_way 3 (some .int)) (rN 3) (va_Pc [.ref (ad 0), .int y, .int (nI c)] (pW D c2 (tR ca) (wR ad ca T n kc ko kv k cd))) (qI (fun z (_ : Unit) => True) D c2 (fun _ => wR ad ca T n kc ko kv k 2) (fA ad 5)) 0 0 (fA ad 5) := by
  refine met_of RX1 rfl (by decide) (Nat.le_of_ble_eq_true rfl) (fun p e s m below meth cd0 ls E hr hlk _ hB hl => ?_)
  obtain ⟨hP, hK⟩ := hB
  have hl : lv_has ls 3 [(0, .ref (ad 0)), (1, .int y), (2, .int (nI c))] := hl
  have hS : va_S (fA ad 5) s.heap s.heap [] := va_S.rf
  refine lv_aload_n E.1 E.2.1 dX1_way_0 rfl (lv_at hl 0 rfl) ?_
  refine lv_iload_n E.1 E.2.1 dX1_way_1 rfl (lv_at hl 1 rfl) ?_
  refine lv_iload_n E.1 E.2.1 dX1_way_2 rfl (lv_at hl 2 rfl) ?_
  refine cV_wi E (As := [.int y, .int (nI c)]) (rest := []) (cR_lacks2 l D ad ca T n kc ko kv k cd y c hN hn128 hc hy) kR_67 hK hP hS (fun _ h => h) 0 rfl rfl rfl rfl ⟨Nat.le_of_ble_eq_true rfl, Nat.le_of_ble_eq_true rfl⟩ rfl hl.1 rfl (Nat.le_of_ble_eq_true rfl) dX1_way_3 ⟨Nat.zero_le _, Nat.zero_le _⟩ (fun z3 u3 H locs hp3 hP _ _ hS => ?_)
  subst hp3
  have hP : va_P D c2 (wR ad ca T n kc ko kv k 2) H := hP
  refine b_if_eq (tgt := 13) E dX1_way_6 rfl (fun h => Bool.noConfusion h) (fun _ => ?_)
  refine lv_iconst (v := nI 0) E.1 E.2.1 dX1_way_9 rfl ?_
  refine lv_goto (tgt := 19) E.1 E.2.1 dX1_way_10 rfl ?_
  exact e_wi E hr hlk hS () trivial hP dX1_way_19
set_option maxHeartbeats 4000000 in
set_option maxRecDepth 100000 in
theorem cR_bits (l : Launch) (D : va_G) (ad : Nat → Nat) (ca : Nat → ClassId) (T : Nat → Nat → Int64) (n : Nat) (kc ko : Nat → Nat) (kv : Nat → Int64) (k cd : Nat) (b c : Nat) (hN : inj ad 5) (hn128 : n ≤ 128) (hb0 : b < n / 16) (hc : c < 4) : Met l yX1_bits (wA yX1_bits cX1_bits 4 (some .int)) (rN 3) (va_Pc [.ref (ad 0), .int (nI b), .int (nI c)] (pW D c2 (tR ca) (wR ad ca T n kc ko kv k cd))) (qI (fun z (_ : Unit) => z = nI (ndz (xb T b c) (cb c) (bW (xb T b c) (cb c) 3))) D c2 (fun _ => wR ad ca T n kc ko kv k 0) (fA ad 5)) 0 0 (fA ad 5) := by
  refine met_of RX1 rfl (by decide) (Nat.le_of_ble_eq_true rfl) (fun p e s m below meth cd0 ls E hr hlk _ hB hl => ?_)
  obtain ⟨hP, hK⟩ := hB
  have hl : lv_has ls 4 [(0, .ref (ad 0)), (1, .int (nI b)), (2, .int (nI c))] := hl
  have hS : va_S (fA ad 5) s.heap s.heap [] := va_S.rf
  refine lv_aload_n E.1 E.2.1 dX1_bits_0 rfl (lv_at hl 0 rfl) ?_
  refine lv_iload_n E.1 E.2.1 dX1_bits_1 rfl (lv_at hl 1 rfl) ?_
  refine lv_iload_n E.1 E.2.1 dX1_bits_2 rfl (lv_at hl 2 rfl) ?_
  refine cV_wi E (As := [.int (nI b), .int (nI c)]) (rest := []) (cR_lacks l D ad ca T n kc ko kv k cd b c hN hn128 (by omega) (by omega)) kR_67 hK hP hS (fun _ h => h) 0 rfl rfl rfl rfl ⟨Nat.le_of_ble_eq_true rfl, Nat.le_of_ble_eq_true rfl⟩ rfl hl.1 rfl (Nat.le_of_ble_eq_true rfl) dX1_bits_3 ⟨Nat.zero_le _, Nat.zero_le _⟩ (fun z3 u3 H locs hp3 hP _ _ hS => ?_)
  subst hp3
  have hP : va_P D c2 (wR ad ca T n kc ko kv k 0) H := hP
  refine b_if_eq (tgt := 11) E dX1_bits_6 rfl (fun _ => ?_) (fun h => Bool.noConfusion h)
  refine lv_aload_n E.1 E.2.1 dX1_bits_11 rfl (lv_at hl 0 rfl) ?_
  refine lv_iload_n E.1 E.2.1 dX1_bits_12 rfl (lv_at hl 1 rfl) ?_
  refine lv_iload_n E.1 E.2.1 dX1_bits_13 rfl (lv_at hl 2 rfl) ?_
  refine cV_i E (As := [.int (nI b), .int (nI c)]) (rest := []) (cR_best l D ad ca T n kc ko kv k 0 b c (by omega) (by omega)) kR_71 hK hP 0 rfl rfl rfl rfl ⟨Nat.le_of_ble_eq_true rfl, Nat.le_of_ble_eq_true rfl⟩ rfl hl.1 rfl (Nat.le_of_ble_eq_true rfl) dX1_bits_14 ⟨Nat.zero_le _, Nat.zero_le _⟩ ?_
  refine lv_istore_n (lv' := [(3, .int (nI (bW (xb T b c) (cb c) 3))), (0, .ref (ad 0)), (1, .int (nI b)), (2, .int (nI c))]) E.1 E.2.1 dX1_bits_17 rfl hl (by decide) rfl (fun ls hl => ?_)
  refine lv_aload_n E.1 E.2.1 dX1_bits_18 rfl (lv_at hl 1 rfl) ?_
  refine lv_iload_n E.1 E.2.1 dX1_bits_19 rfl (lv_at hl 2 rfl) ?_
  refine lv_iload_n E.1 E.2.1 dX1_bits_20 rfl (lv_at hl 3 rfl) ?_
  refine lv_iload_n E.1 E.2.1 dX1_bits_21 rfl (lv_at hl 0 rfl) ?_
  have hbw := bW_le (xb T b c) (cb c) 3
  refine cV_i E (As := [.int (nI b), .int (nI c), .int (nI (bW (xb T b c) (cb c) 3))]) (rest := []) (cR_need l D ad ca T n kc ko kv k 0 b c (bW (xb T b c) (cb c) 3) (by omega) (by omega) (by omega)) kR_63 hK hP 0 rfl rfl rfl rfl ⟨Nat.le_of_ble_eq_true rfl, Nat.le_of_ble_eq_true rfl⟩ rfl hl.1 rfl (Nat.le_of_ble_eq_true rfl) dX1_bits_22 ⟨Nat.zero_le _, Nat.zero_le _⟩ ?_
  exact e_wi E hr hlk hS () rfl hP dX1_bits_25
set_option maxHeartbeats 4000000 in
set_option maxRecDepth 100000 in
theorem cR_bits1 (l : Launch) (D : va_G) (ad : Nat → Nat) (ca : Nat → ClassId) (T : Nat → Nat → Int64) (n : Nat) (kc ko : Nat → Nat) (kv : Nat → Int64) (k cd : Nat) (y x : Int32) (hN : inj ad 5) (hx : isC x = false) : Met l yX1_bits (wA yX1_bits cX1_bits 4 (some .int)) (rN 3) (va_Pc [.ref (ad 0), .int y, .int x] (pW D c2 (tR ca) (wR ad ca T n kc ko kv k cd))) (qI (fun z (_ : Unit) => True) D c2 (fun _ => wR ad ca T n kc ko kv k 1) (fA ad 5)) 0 0 (fA ad 5) := by
  refine met_of RX1 rfl (by decide) (Nat.le_of_ble_eq_true rfl) (fun p e s m below meth cd0 ls E hr hlk _ hB hl => ?_)
  obtain ⟨hP, hK⟩ := hB
  have hl : lv_has ls 4 [(0, .ref (ad 0)), (1, .int y), (2, .int x)] := hl
  have hS : va_S (fA ad 5) s.heap s.heap [] := va_S.rf
  refine lv_aload_n E.1 E.2.1 dX1_bits_0 rfl (lv_at hl 0 rfl) ?_
  refine lv_iload_n E.1 E.2.1 dX1_bits_1 rfl (lv_at hl 1 rfl) ?_
  refine lv_iload_n E.1 E.2.1 dX1_bits_2 rfl (lv_at hl 2 rfl) ?_
  refine cV_wi E (As := [.int y, .int x]) (rest := []) (cR_lacks1 l D ad ca T n kc ko kv k cd y x hN hx) kR_67 hK hP hS (fun _ h => h) 0 rfl rfl rfl rfl ⟨Nat.le_of_ble_eq_true rfl, Nat.le_of_ble_eq_true rfl⟩ rfl hl.1 rfl (Nat.le_of_ble_eq_true rfl) dX1_bits_3 ⟨Nat.zero_le _, Nat.zero_le _⟩ (fun z3 u3 H locs hp3 hP _ _ hS => ?_)
  subst hp3
  have hP : va_P D c2 (wR ad ca T n kc ko kv k 1) H := hP
  refine b_if_eq (tgt := 11) E dX1_bits_6 rfl (fun h => Bool.noConfusion h) (fun _ => ?_)
  refine lv_iconst (v := nI 0) E.1 E.2.1 dX1_bits_9 rfl ?_
  exact e_wi E hr hlk hS () trivial hP dX1_bits_10
set_option maxHeartbeats 4000000 in
set_option maxRecDepth 100000 in
theorem cR_bits2 (l : Launch) (D : va_G) (ad : Nat → Nat) (ca : Nat → ClassId) (T : Nat → Nat → Int64) (n : Nat) (kc ko : Nat → Nat) (kv : Nat → Int64) (k cd : Nat) (y : Int32) (c : Nat) (hN : inj ad 5) (hn128 : n ≤ 128) (hc : c < 4) (hy : y < 0 ∨ nI (n / 16) ≤ y) : Met l yX1_bits (wA yX1_bits cX1_bits 4 (some .int)) (rN 3) (va_Pc [.ref (ad 0), .int y, .int (nI c)] (pW D c2 (tR ca) (wR ad ca T n kc ko kv k cd))) (qI (fun z (_ : Unit) => True) D c2 (fun _ => wR ad ca T n kc ko kv k 2) (fA ad 5)) 0 0 (fA ad 5) := by
  refine met_of RX1 rfl (by decide) (Nat.le_of_ble_eq_true rfl) (fun p e s m below meth cd0 ls E hr hlk _ hB hl => ?_)
  obtain ⟨hP, hK⟩ := hB
  have hl : lv_has ls 4 [(0, .ref (ad 0)), (1, .int y), (2, .int (nI c))] := hl
  have hS : va_S (fA ad 5) s.heap s.heap [] := va_S.rf
  refine lv_aload_n E.1 E.2.1 dX1_bits_0 rfl (lv_at hl 0 rfl) ?_
  refine lv_iload_n E.1 E.2.1 dX1_bits_1 rfl (lv_at hl 1 rfl) ?_
  refine lv_iload_n E.1 E.2.1 dX1_bits_2 rfl (lv_at hl 2 rfl) ?_
  refine cV_wi E (As := [.int y, .int (nI c)]) (rest := []) (cR_lacks2 l D ad ca T n kc ko kv k cd y c hN hn128 hc hy) kR_67 hK hP hS (fun _ h => h) 0 rfl rfl rfl rfl ⟨Nat.le_of_ble_eq_true rfl, Nat.le_of_ble_eq_true rfl⟩ rfl hl.1 rfl (Nat.le_of_ble_eq_true rfl) dX1_bits_3 ⟨Nat.zero_le _, Nat.zero_le _⟩ (fun z3 u3 H locs hp3 hP _ _ hS => ?_)
  subst hp3
  have hP : va_P D c2 (wR ad ca T n kc ko kv k 2) H := hP
  refine b_if_eq (tgt := 11) E dX1_bits_6 rfl (fun h => Bool.noConfusion h) (fun _ => ?_)
  refine lv_iconst (v := nI 0) E.1 E.2.1 dX1_bits_9 rfl ?_
  exact e_wi E hr hlk hS () trivial hP dX1_bits_10
set_option maxHeartbeats 4000000 in
set_option maxRecDepth 100000 in
theorem cR_sum (l : Launch) (D : va_G) (ad : Nat → Nat) (ca : Nat → ClassId) (T : Nat → Nat → Int64) (n : Nat) (kc ko : Nat → Nat) (kv : Nat → Int64) (k cd : Nat) (c : Nat) (hN : inj ad 5) (hIK : iK kc ko k) (hn128 : n ≤ 128) (hc : c < 4) : Met l yX1_sum (wA yX1_sum cX1_sum 5 (some .long)) (rN 2) (va_Pc [.ref (ad 0), .int (nI c)] (pW D c2 (tR ca) (wR ad ca T n kc ko kv k cd))) (qL (fun z (_ : Unit) => z = sm (fun t => if (ch T kc ko kv k) t then T t c else 0) n) D c2 (fun _ => wR ad ca T n kc ko kv k 0) (fA ad 5)) 0 0 (fA ad 5) := by
  refine met_of RX1 rfl (by decide) (Nat.le_of_ble_eq_true rfl) (fun p e s m below meth cd0 ls E hr hlk _ hB hl => ?_)
  obtain ⟨hP, hK⟩ := hB
  have hl : lv_has ls 5 [(0, .ref (ad 0)), (1, .int (nI c))] := hl
  have hS : va_S (fA ad 5) s.heap s.heap [] := va_S.rf
  refine lv_aload_n E.1 E.2.1 dX1_sum_0 rfl (lv_at hl 0 rfl) ?_
  refine lv_iload_n E.1 E.2.1 dX1_sum_1 rfl (lv_at hl 1 rfl) ?_
  refine cS_i E (As := [.int (nI c)]) (rest := [.ref (ad 0)]) (cR_isColumn l (nI c)) kR_30 rfl rfl ⟨Nat.le_of_ble_eq_true rfl, Nat.le_of_ble_eq_true rfl⟩ rfl hl.1 rfl (Nat.le_of_ble_eq_true rfl) dX1_sum_2 ⟨Nat.zero_le _, Nat.zero_le _⟩ ?_
  refine tpi (y := bI true) (congrArg bI (isC_n (by omega))) ?_
  refine b_if_eq (tgt := 12) E dX1_sum_5 rfl (fun h => Bool.noConfusion h) (fun _ => ?_)
  refine lv_iconst (v := nI 0) E.1 E.2.1 dX1_sum_8 rfl ?_
  refine lv_goto (tgt := 13) E.1 E.2.1 dX1_sum_9 rfl ?_
  refine n_put E inR tyR1 tyR1_ok nmR1 hK hP (dW hN rfl) hS 0 rfl rfl 0 (by decide) flR_23 rfl rfl (tyR1_ok 0 (by decide)) (Nat.le_of_ble_eq_true rfl) dX1_sum_13 (fun H locs hP hS => ?_)
  have hP : va_P D c2 (wR ad ca T n kc ko kv k 0) H := hP
  refine lv_lconst (v := 0) E.1 E.2.1 dX1_sum_16 rfl ?_
  refine lv_lstore_n (lv' := [(2, .long 0), (0, .ref (ad 0)), (1, .int (nI c))]) E.1 E.2.1 dX1_sum_17 rfl hl (by decide) rfl (fun ls hl => ?_)
  refine lv_iconst (v := nI 0) E.1 E.2.1 dX1_sum_18 rfl ?_
  refine lv_istore (lv' := [(4, .int (nI 0)), (2, .long 0), (0, .ref (ad 0)), (1, .int (nI c))]) E.1 E.2.1 dX1_sum_19 hl (by decide) rfl (fun ls hl => ?_)
  refine w_lp1 (fun (r : Nat) => r ≤ n) (fun (r : Nat) => n - r) (fun (r : Nat) => [(4, .int (nI r)), (2, .long (sm (fun t => if (ch T kc ko kv k) t then T t c else 0) r)), (0, .ref (ad 0)), (1, .int (nI c))]) 0 (Nat.zero_le _) (lv_sub hl [0, 1, 2, 3] rfl) (fun r ls hI hl ih21 => ?_)
  have hl : lv_has ls 5 [(4, .int (nI r)), (2, .long (sm (fun t => if (ch T kc ko kv k) t then T t c else 0) r)), (0, .ref (ad 0)), (1, .int (nI c))] := hl
  refine lv_iload E.1 E.2.1 dX1_sum_21 (lv_at hl 0 rfl) ?_
  refine lv_aload_n E.1 E.2.1 dX1_sum_23 rfl (lv_at hl 2 rfl) ?_
  refine n_get E inR hK hP 0 rfl rfl 1 (by decide) flR_27 rfl rfl dX1_sum_24 ?_
  refine n_icmp_ge (tgt := 70) E dX1_sum_27 rfl (by omega) (by omega) (fun h27 => ?_) (fun h27 => ?_)
  · skip
    refine lv_lload_n E.1 E.2.1 dX1_sum_70 rfl (lv_at hl 1 rfl) ?_
    exact e_wl E hr hlk hS () (by rw [show n = r by omega]) hP dX1_sum_71
  · skip
    refine lv_aload_n E.1 E.2.1 dX1_sum_30 rfl (lv_at hl 2 rfl) ?_
    refine n_get E inR hK hP 0 rfl rfl 0 (by decide) flR_23 rfl rfl dX1_sum_31 ?_
    refine n_if_ne (tgt := 70) E dX1_sum_34 rfl (by decide) (fun h => absurd h (by decide)) (fun _ => ?_)
    refine lv_lload_n E.1 E.2.1 dX1_sum_37 rfl (lv_at hl 1 rfl) ?_
    refine lv_aload_n E.1 E.2.1 dX1_sum_38 rfl (lv_at hl 2 rfl) ?_
    refine lv_iload E.1 E.2.1 dX1_sum_39 (lv_at hl 0 rfl) ?_
    refine cV_i E (As := [.int (nI r)]) (rest := [.long (sm (fun t => if (ch T kc ko kv k) t then T t c else 0) r)]) (cR_isChosen l D ad ca T n kc ko kv k 0 r hIK (by omega)) kR_41 hK hP 0 rfl rfl rfl rfl ⟨Nat.le_of_ble_eq_true rfl, Nat.le_of_ble_eq_true rfl⟩ rfl hl.1 rfl (Nat.le_of_ble_eq_true rfl) dX1_sum_41 ⟨Nat.zero_le _, Nat.zero_le _⟩ ?_
    refine b_if_eq (tgt := 61) E dX1_sum_44 rfl (fun h44 => ?_) (fun h44 => ?_)
    · skip
      refine lv_lconst (v := 0) E.1 E.2.1 dX1_sum_61 rfl ?_
      refine lv_ladd E.1 E.2.1 dX1_sum_62 ?_
      refine tpl (y := sm (fun t => if (ch T kc ko kv k) t then T t c else 0) (r + 1)) (by rw [sm, if_neg (by rw [h44]; decide)]) ?_
      refine lv_lstore_n (lv' := [(2, .long (sm (fun t => if (ch T kc ko kv k) t then T t c else 0) (r + 1))), (4, .int (nI r)), (0, .ref (ad 0)), (1, .int (nI c))]) E.1 E.2.1 dX1_sum_63 rfl hl (by decide) rfl (fun ls hl => ?_)
      refine lv_iinc (k := 1) (v := nI (r + 1)) (lv' := [(4, .int (nI (r + 1))), (2, .long (sm (fun t => if (ch T kc ko kv k) t then T t c else 0) (r + 1))), (0, .ref (ad 0)), (1, .int (nI c))]) E.1 E.2.1 dX1_sum_64 hl rfl (inc1 _) (by decide) rfl (fun ls hl => ?_)
      refine lv_goto (tgt := 21) E.1 E.2.1 dX1_sum_67 rfl ?_
      exact ih21 (r + 1) _ (by omega) (by omega) (lv_sub hl [0, 1, 2, 3] rfl)
    · skip
      refine lv_aload_n E.1 E.2.1 dX1_sum_47 rfl (lv_at hl 2 rfl) ?_
      refine n_get E inR hK hP 0 rfl rfl 2 (by decide) flR_7 rfl rfl dX1_sum_48 ?_
      refine lv_iconst (v := nI 4) E.1 E.2.1 dX1_sum_51 rfl ?_
      refine lv_iload E.1 E.2.1 dX1_sum_52 (lv_at hl 0 rfl) ?_
      refine n_imul E dX1_sum_54 ?_
      refine lv_iload_n E.1 E.2.1 dX1_sum_55 rfl (lv_at hl 3 rfl) ?_
      refine n_iadd E dX1_sum_56 ?_
      refine n_rald E hK hP 1 0 rfl rfl r c (by omega) (by omega) (by omega) dX1_sum_57 ?_
      refine lv_goto (tgt := 62) E.1 E.2.1 dX1_sum_58 rfl ?_
      refine lv_ladd E.1 E.2.1 dX1_sum_62 ?_
      refine tpl (y := sm (fun t => if (ch T kc ko kv k) t then T t c else 0) (r + 1)) (by rw [sm, if_pos h44]) ?_
      refine lv_lstore_n (lv' := [(2, .long (sm (fun t => if (ch T kc ko kv k) t then T t c else 0) (r + 1))), (4, .int (nI r)), (0, .ref (ad 0)), (1, .int (nI c))]) E.1 E.2.1 dX1_sum_63 rfl hl (by decide) rfl (fun ls hl => ?_)
      refine lv_iinc (k := 1) (v := nI (r + 1)) (lv' := [(4, .int (nI (r + 1))), (2, .long (sm (fun t => if (ch T kc ko kv k) t then T t c else 0) (r + 1))), (0, .ref (ad 0)), (1, .int (nI c))]) E.1 E.2.1 dX1_sum_64 hl rfl (inc1 _) (by decide) rfl (fun ls hl => ?_)
      refine lv_goto (tgt := 21) E.1 E.2.1 dX1_sum_67 rfl ?_
      exact ih21 (r + 1) _ (by omega) (by omega) (lv_sub hl [0, 1, 2, 3] rfl)
set_option maxHeartbeats 4000000 in
set_option maxRecDepth 100000 in
theorem cR_sum1 (l : Launch) (D : va_G) (ad : Nat → Nat) (ca : Nat → ClassId) (T : Nat → Nat → Int64) (n : Nat) (kc ko : Nat → Nat) (kv : Nat → Int64) (k cd : Nat) (x : Int32) (hN : inj ad 5) (hn128 : n ≤ 128) (hx : isC x = false) : Met l yX1_sum (wA yX1_sum cX1_sum 5 (some .long)) (rN 2) (va_Pc [.ref (ad 0), .int x] (pW D c2 (tR ca) (wR ad ca T n kc ko kv k cd))) (qL (fun z (_ : Unit) => True) D c2 (fun _ => wR ad ca T n kc ko kv k 1) (fA ad 5)) 0 0 (fA ad 5) := by
  refine met_of RX1 rfl (by decide) (Nat.le_of_ble_eq_true rfl) (fun p e s m below meth cd0 ls E hr hlk _ hB hl => ?_)
  obtain ⟨hP, hK⟩ := hB
  have hl : lv_has ls 5 [(0, .ref (ad 0)), (1, .int x)] := hl
  have hS : va_S (fA ad 5) s.heap s.heap [] := va_S.rf
  refine lv_aload_n E.1 E.2.1 dX1_sum_0 rfl (lv_at hl 0 rfl) ?_
  refine lv_iload_n E.1 E.2.1 dX1_sum_1 rfl (lv_at hl 1 rfl) ?_
  refine cS_i E (As := [.int x]) (rest := [.ref (ad 0)]) (cR_isColumn l x) kR_30 rfl rfl ⟨Nat.le_of_ble_eq_true rfl, Nat.le_of_ble_eq_true rfl⟩ rfl hl.1 rfl (Nat.le_of_ble_eq_true rfl) dX1_sum_2 ⟨Nat.zero_le _, Nat.zero_le _⟩ ?_
  refine tpi (y := bI false) (congrArg bI hx) ?_
  refine b_if_eq (tgt := 12) E dX1_sum_5 rfl (fun _ => ?_) (fun h => Bool.noConfusion h)
  refine lv_iconst (v := nI 1) E.1 E.2.1 dX1_sum_12 rfl ?_
  refine n_put E inR tyR1 tyR1_ok nmR1 hK hP (dW hN rfl) hS 0 rfl rfl 0 (by decide) flR_23 rfl rfl (tyR1_ok 0 (by decide)) (Nat.le_of_ble_eq_true rfl) dX1_sum_13 (fun H locs hP hS => ?_)
  have hP : va_P D c2 (wR ad ca T n kc ko kv k 1) H := hP
  refine lv_lconst (v := 0) E.1 E.2.1 dX1_sum_16 rfl ?_
  refine lv_lstore_n (lv' := [(2, .long 0), (0, .ref (ad 0)), (1, .int x)]) E.1 E.2.1 dX1_sum_17 rfl hl (by decide) rfl (fun ls hl => ?_)
  refine lv_iconst (v := nI 0) E.1 E.2.1 dX1_sum_18 rfl ?_
  refine lv_istore (lv' := [(4, .int (nI 0)), (2, .long 0), (0, .ref (ad 0)), (1, .int x)]) E.1 E.2.1 dX1_sum_19 hl (by decide) rfl (fun ls hl => ?_)
  refine lv_iload E.1 E.2.1 dX1_sum_21 (lv_at hl 0 rfl) ?_
  refine lv_aload_n E.1 E.2.1 dX1_sum_23 rfl (lv_at hl 2 rfl) ?_
  refine n_get E inR hK hP 0 rfl rfl 1 (by decide) flR_27 rfl rfl dX1_sum_24 ?_
  refine n_icmp_ge (tgt := 70) E dX1_sum_27 rfl (by omega) (by omega) (fun h27 => ?_) (fun h27 => ?_)
  · skip
    refine lv_lload_n E.1 E.2.1 dX1_sum_70 rfl (lv_at hl 1 rfl) ?_
    exact e_wl E hr hlk hS () trivial hP dX1_sum_71
  · skip
    refine lv_aload_n E.1 E.2.1 dX1_sum_30 rfl (lv_at hl 2 rfl) ?_
    refine n_get E inR hK hP 0 rfl rfl 0 (by decide) flR_23 rfl rfl dX1_sum_31 ?_
    refine n_if_ne (tgt := 70) E dX1_sum_34 rfl (by decide) (fun _ => ?_) (fun h => absurd h (by decide))
    refine lv_lload_n E.1 E.2.1 dX1_sum_70 rfl (lv_at hl 1 rfl) ?_
    exact e_wl E hr hlk hS () trivial hP dX1_sum_71
set_option maxHeartbeats 4000000 in
set_option maxRecDepth 100000 in
theorem cR_bound (l : Launch) (D : va_G) (ad : Nat → Nat) (ca : Nat → ClassId) (T : Nat → Nat → Int64) (n : Nat) (kc ko : Nat → Nat) (kv : Nat → Int64) (k cd : Nat) (c : Nat) (d : Bool) (hN : inj ad 5) (hIK : iK kc ko k) (hn128 : n ≤ 128) (hc : c < 4) (hpos : 0 < ct (ch T kc ko kv k) n) : Met l yX1_bound (wA yX1_bound cX1_bound 8 (some .long)) (rN 3) (va_Pc [.ref (ad 0), .int (nI c), .int (bI d)] (pW D c2 (tR ca) (wR ad ca T n kc ko kv k cd))) (qL (fun z (_ : Unit) => z = bR (ch T kc ko kv k) (fun t => T t c) d n) D c2 (fun _ => wR ad ca T n kc ko kv k 0) (fA ad 5)) 0 0 (fA ad 5) := by
  refine met_of RX1 rfl (by decide) (Nat.le_of_ble_eq_true rfl) (fun p e s m below meth cd0 ls E hr hlk _ hB hl => ?_)
  obtain ⟨hP, hK⟩ := hB
  have hl : lv_has ls 8 [(0, .ref (ad 0)), (1, .int (nI c)), (2, .int (bI d))] := hl
  have hS : va_S (fA ad 5) s.heap s.heap [] := va_S.rf
  have hctn := ct_le (ch T kc ko kv k) n
  refine lv_aload_n E.1 E.2.1 dX1_bound_0 rfl (lv_at hl 0 rfl) ?_
  refine lv_iload_n E.1 E.2.1 dX1_bound_1 rfl (lv_at hl 1 rfl) ?_
  refine cS_i E (As := [.int (nI c)]) (rest := [.ref (ad 0)]) (cR_isColumn l (nI c)) kR_30 rfl rfl ⟨Nat.le_of_ble_eq_true rfl, Nat.le_of_ble_eq_true rfl⟩ rfl hl.1 rfl (Nat.le_of_ble_eq_true rfl) dX1_bound_2 ⟨Nat.zero_le _, Nat.zero_le _⟩ ?_
  refine tpi (y := bI true) (congrArg bI (isC_n (by omega))) ?_
  refine b_if_ne (tgt := 12) E dX1_bound_5 rfl (fun _ => ?_) (fun h => Bool.noConfusion h)
  refine lv_aload_n E.1 E.2.1 dX1_bound_12 rfl (lv_at hl 0 rfl) ?_
  refine cV_i E (As := []) (rest := [.ref (ad 0)]) (cR_countChosen l D ad ca T n kc ko kv k cd hIK hn128) kR_44 hK hP 0 rfl rfl rfl rfl ⟨Nat.le_of_ble_eq_true rfl, Nat.le_of_ble_eq_true rfl⟩ rfl hl.1 rfl (Nat.le_of_ble_eq_true rfl) dX1_bound_13 ⟨Nat.zero_le _, Nat.zero_le _⟩ ?_
  refine n_if_ne (tgt := 23) E dX1_bound_16 rfl (by omega) (fun h16 => ?_) (fun h16 => ?_)
  · skip
    refine lv_iconst (v := nI 0) E.1 E.2.1 dX1_bound_23 rfl ?_
    refine n_put E inR tyR1 tyR1_ok nmR1 hK hP (dW hN rfl) hS 0 rfl rfl 0 (by decide) flR_23 rfl rfl (tyR1_ok 0 (by decide)) (Nat.le_of_ble_eq_true rfl) dX1_bound_24 (fun H locs hP hS => ?_)
    have hP : va_P D c2 (wR ad ca T n kc ko kv k 0) H := hP
    refine lv_iload_n E.1 E.2.1 dX1_bound_27 rfl (lv_at hl 2 rfl) ?_
    refine b_if_eq (tgt := 37) E dX1_bound_28 rfl (fun h28 => ?_) (fun h28 => ?_)
    · skip
      refine lv_ldc2 E.1 E.2.1 E.2.2.2.1 (E.2.2.2.2 _ ldR_77) dX1_bound_37 ?_
      refine tpl (y := bR (ch T kc ko kv k) (fun t => T t c) d 0) (by simp [bR, h28]) ?_
      refine lv_lstore_n (lv' := [(3, .long (bR (ch T kc ko kv k) (fun t => T t c) d 0)), (0, .ref (ad 0)), (1, .int (nI c)), (2, .int (bI d))]) E.1 E.2.1 dX1_bound_40 rfl hl (by decide) rfl (fun ls hl => ?_)
      refine lv_iconst (v := nI 0) E.1 E.2.1 dX1_bound_41 rfl ?_
      refine lv_istore (lv' := [(5, .int (nI 0)), (3, .long (bR (ch T kc ko kv k) (fun t => T t c) d 0)), (0, .ref (ad 0)), (1, .int (nI c)), (2, .int (bI d))]) E.1 E.2.1 dX1_bound_42 hl (by decide) rfl (fun ls hl => ?_)
      refine w_lp1 (fun (r : Nat) => r ≤ n) (fun (r : Nat) => n - r) (fun (r : Nat) => [(5, .int (nI r)), (3, .long (bR (ch T kc ko kv k) (fun t => T t c) d r)), (0, .ref (ad 0)), (1, .int (nI c)), (2, .int (bI d))]) 0 (Nat.zero_le _) (lv_sub hl [0, 1, 2, 3, 4] rfl) (fun r ls hI hl ih44 => ?_)
      have hl : lv_has ls 8 [(5, .int (nI r)), (3, .long (bR (ch T kc ko kv k) (fun t => T t c) d r)), (0, .ref (ad 0)), (1, .int (nI c)), (2, .int (bI d))] := hl
      refine lv_iload E.1 E.2.1 dX1_bound_44 (lv_at hl 0 rfl) ?_
      refine lv_aload_n E.1 E.2.1 dX1_bound_46 rfl (lv_at hl 2 rfl) ?_
      refine n_get E inR hK hP 0 rfl rfl 1 (by decide) flR_27 rfl rfl dX1_bound_47 ?_
      refine n_icmp_ge (tgt := 116) E dX1_bound_50 rfl (by omega) (by omega) (fun h50 => ?_) (fun h50 => ?_)
      · skip
        refine lv_aload_n E.1 E.2.1 dX1_bound_116 rfl (lv_at hl 2 rfl) ?_
        refine n_get E inR hK hP 0 rfl rfl 0 (by decide) flR_23 rfl rfl dX1_bound_117 ?_
        refine n_if_ne (tgt := 127) E dX1_bound_120 rfl (by decide) (fun h => absurd h (by decide)) (fun _ => ?_)
        refine lv_lload_n E.1 E.2.1 dX1_bound_123 rfl (lv_at hl 1 rfl) ?_
        refine lv_goto (tgt := 128) E.1 E.2.1 dX1_bound_124 rfl ?_
        exact e_wl E hr hlk hS () (by rw [show n = r by omega]) hP dX1_bound_128
      · skip
        refine lv_aload_n E.1 E.2.1 dX1_bound_53 rfl (lv_at hl 2 rfl) ?_
        refine n_get E inR hK hP 0 rfl rfl 0 (by decide) flR_23 rfl rfl dX1_bound_54 ?_
        refine n_if_ne (tgt := 116) E dX1_bound_57 rfl (by decide) (fun h => absurd h (by decide)) (fun _ => ?_)
        refine lv_aload_n E.1 E.2.1 dX1_bound_60 rfl (lv_at hl 2 rfl) ?_
        refine n_get E inR hK hP 0 rfl rfl 2 (by decide) flR_7 rfl rfl dX1_bound_61 ?_
        refine lv_iconst (v := nI 4) E.1 E.2.1 dX1_bound_64 rfl ?_
        refine lv_iload E.1 E.2.1 dX1_bound_65 (lv_at hl 0 rfl) ?_
        refine n_imul E dX1_bound_67 ?_
        refine lv_iload_n E.1 E.2.1 dX1_bound_68 rfl (lv_at hl 3 rfl) ?_
        refine n_iadd E dX1_bound_69 ?_
        refine n_rald E hK hP 1 0 rfl rfl r c (by omega) (by omega) (by omega) dX1_bound_70 ?_
        refine lv_lstore (lv' := [(6, .long (T r c)), (5, .int (nI r)), (3, .long (bR (ch T kc ko kv k) (fun t => T t c) d r)), (0, .ref (ad 0)), (1, .int (nI c)), (2, .int (bI d))]) E.1 E.2.1 dX1_bound_71 hl (by decide) rfl (fun ls hl => ?_)
        refine lv_aload_n E.1 E.2.1 dX1_bound_73 rfl (lv_at hl 3 rfl) ?_
        refine lv_iload E.1 E.2.1 dX1_bound_74 (lv_at hl 1 rfl) ?_
        refine cV_i E (As := [.int (nI r)]) (rest := []) (cR_isChosen l D ad ca T n kc ko kv k 0 r hIK (by omega)) kR_41 hK hP 0 rfl rfl rfl rfl ⟨Nat.le_of_ble_eq_true rfl, Nat.le_of_ble_eq_true rfl⟩ rfl hl.1 rfl (Nat.le_of_ble_eq_true rfl) dX1_bound_76 ⟨Nat.zero_le _, Nat.zero_le _⟩ ?_
        refine b_if_eq (tgt := 108) E dX1_bound_79 rfl (fun h79 => ?_) (fun h79 => ?_)
        · skip
          refine lv_lload_n E.1 E.2.1 dX1_bound_108 rfl (lv_at hl 2 rfl) ?_
          refine tpl (y := bR (ch T kc ko kv k) (fun t => T t c) d (r + 1)) (bR_n h79) ?_
          refine lv_lstore_n (lv' := [(3, .long (bR (ch T kc ko kv k) (fun t => T t c) d (r + 1))), (6, .long (T r c)), (5, .int (nI r)), (0, .ref (ad 0)), (1, .int (nI c)), (2, .int (bI d))]) E.1 E.2.1 dX1_bound_109 rfl hl (by decide) rfl (fun ls hl => ?_)
          refine lv_iinc (k := 2) (v := nI (r + 1)) (lv' := [(5, .int (nI (r + 1))), (3, .long (bR (ch T kc ko kv k) (fun t => T t c) d (r + 1))), (6, .long (T r c)), (0, .ref (ad 0)), (1, .int (nI c)), (2, .int (bI d))]) E.1 E.2.1 dX1_bound_110 hl rfl (inc1 _) (by decide) rfl (fun ls hl => ?_)
          refine lv_goto (tgt := 44) E.1 E.2.1 dX1_bound_113 rfl ?_
          exact ih44 (r + 1) _ (by omega) (by omega) (lv_sub hl [0, 1, 3, 4, 5] rfl)
        · skip
          refine lv_iload_n E.1 E.2.1 dX1_bound_82 rfl (lv_at hl 5 rfl) ?_
          refine b_if_eq (tgt := 96) E dX1_bound_83 rfl (fun h83 => ?_) (fun h83 => ?_)
          · skip
            refine lv_lload E.1 E.2.1 dX1_bound_96 (lv_at hl 0 rfl) ?_
            refine lv_lload_n E.1 E.2.1 dX1_bound_98 rfl (lv_at hl 2 rfl) ?_
            refine l_if_ge (tgt := 108) E dX1_bound_99 dX1_bound_100 rfl (fun h99 => ?_) (fun h99 => ?_)
            · skip
              refine lv_lload_n E.1 E.2.1 dX1_bound_108 rfl (lv_at hl 2 rfl) ?_
              refine tpl (y := bR (ch T kc ko kv k) (fun t => T t c) d (r + 1)) (bR_f (f := fun t => T t c) h79 (bF_f h83 h99)) ?_
              refine lv_lstore_n (lv' := [(3, .long (bR (ch T kc ko kv k) (fun t => T t c) d (r + 1))), (6, .long (T r c)), (5, .int (nI r)), (0, .ref (ad 0)), (1, .int (nI c)), (2, .int (bI d))]) E.1 E.2.1 dX1_bound_109 rfl hl (by decide) rfl (fun ls hl => ?_)
              refine lv_iinc (k := 2) (v := nI (r + 1)) (lv' := [(5, .int (nI (r + 1))), (3, .long (bR (ch T kc ko kv k) (fun t => T t c) d (r + 1))), (6, .long (T r c)), (0, .ref (ad 0)), (1, .int (nI c)), (2, .int (bI d))]) E.1 E.2.1 dX1_bound_110 hl rfl (inc1 _) (by decide) rfl (fun ls hl => ?_)
              refine lv_goto (tgt := 44) E.1 E.2.1 dX1_bound_113 rfl ?_
              exact ih44 (r + 1) _ (by omega) (by omega) (lv_sub hl [0, 1, 3, 4, 5] rfl)
            · skip
              refine lv_lload E.1 E.2.1 dX1_bound_103 (lv_at hl 0 rfl) ?_
              refine lv_goto (tgt := 109) E.1 E.2.1 dX1_bound_105 rfl ?_
              refine tpl (y := bR (ch T kc ko kv k) (fun t => T t c) d (r + 1)) (bR_t (f := fun t => T t c) h79 (bF_t h83 h99)) ?_
              refine lv_lstore_n (lv' := [(3, .long (bR (ch T kc ko kv k) (fun t => T t c) d (r + 1))), (6, .long (T r c)), (5, .int (nI r)), (0, .ref (ad 0)), (1, .int (nI c)), (2, .int (bI d))]) E.1 E.2.1 dX1_bound_109 rfl hl (by decide) rfl (fun ls hl => ?_)
              refine lv_iinc (k := 2) (v := nI (r + 1)) (lv' := [(5, .int (nI (r + 1))), (3, .long (bR (ch T kc ko kv k) (fun t => T t c) d (r + 1))), (6, .long (T r c)), (0, .ref (ad 0)), (1, .int (nI c)), (2, .int (bI d))]) E.1 E.2.1 dX1_bound_110 hl rfl (inc1 _) (by decide) rfl (fun ls hl => ?_)
              refine lv_goto (tgt := 44) E.1 E.2.1 dX1_bound_113 rfl ?_
              exact ih44 (r + 1) _ (by omega) (by omega) (lv_sub hl [0, 1, 3, 4, 5] rfl)
          · skip
            refine lv_lload E.1 E.2.1 dX1_bound_86 (lv_at hl 0 rfl) ?_
            refine lv_lload_n E.1 E.2.1 dX1_bound_88 rfl (lv_at hl 2 rfl) ?_
            refine l_if_le (tgt := 108) E dX1_bound_89 dX1_bound_90 rfl (fun h89 => ?_) (fun h89 => ?_)
            · skip
              refine lv_lload_n E.1 E.2.1 dX1_bound_108 rfl (lv_at hl 2 rfl) ?_
              refine tpl (y := bR (ch T kc ko kv k) (fun t => T t c) d (r + 1)) (bR_f (f := fun t => T t c) h79 (bT_f h83 h89)) ?_
              refine lv_lstore_n (lv' := [(3, .long (bR (ch T kc ko kv k) (fun t => T t c) d (r + 1))), (6, .long (T r c)), (5, .int (nI r)), (0, .ref (ad 0)), (1, .int (nI c)), (2, .int (bI d))]) E.1 E.2.1 dX1_bound_109 rfl hl (by decide) rfl (fun ls hl => ?_)
              refine lv_iinc (k := 2) (v := nI (r + 1)) (lv' := [(5, .int (nI (r + 1))), (3, .long (bR (ch T kc ko kv k) (fun t => T t c) d (r + 1))), (6, .long (T r c)), (0, .ref (ad 0)), (1, .int (nI c)), (2, .int (bI d))]) E.1 E.2.1 dX1_bound_110 hl rfl (inc1 _) (by decide) rfl (fun ls hl => ?_)
              refine lv_goto (tgt := 44) E.1 E.2.1 dX1_bound_113 rfl ?_
              exact ih44 (r + 1) _ (by omega) (by omega) (lv_sub hl [0, 1, 3, 4, 5] rfl)
            · skip
              refine lv_goto (tgt := 103) E.1 E.2.1 dX1_bound_93 rfl ?_
              refine lv_lload E.1 E.2.1 dX1_bound_103 (lv_at hl 0 rfl) ?_
              refine lv_goto (tgt := 109) E.1 E.2.1 dX1_bound_105 rfl ?_
              refine tpl (y := bR (ch T kc ko kv k) (fun t => T t c) d (r + 1)) (bR_t (f := fun t => T t c) h79 (bT_t h83 h89)) ?_
              refine lv_lstore_n (lv' := [(3, .long (bR (ch T kc ko kv k) (fun t => T t c) d (r + 1))), (6, .long (T r c)), (5, .int (nI r)), (0, .ref (ad 0)), (1, .int (nI c)), (2, .int (bI d))]) E.1 E.2.1 dX1_bound_109 rfl hl (by decide) rfl (fun ls hl => ?_)
              refine lv_iinc (k := 2) (v := nI (r + 1)) (lv' := [(5, .int (nI (r + 1))), (3, .long (bR (ch T kc ko kv k) (fun t => T t c) d (r + 1))), (6, .long (T r c)), (0, .ref (ad 0)), (1, .int (nI c)), (2, .int (bI d))]) E.1 E.2.1 dX1_bound_110 hl rfl (inc1 _) (by decide) rfl (fun ls hl => ?_)
              refine lv_goto (tgt := 44) E.1 E.2.1 dX1_bound_113 rfl ?_
              exact ih44 (r + 1) _ (by omega) (by omega) (lv_sub hl [0, 1, 3, 4, 5] rfl)
    · skip
      refine lv_ldc2 E.1 E.2.1 E.2.2.2.1 (E.2.2.2.2 _ ldR_75) dX1_bound_31 ?_
      refine lv_goto (tgt := 40) E.1 E.2.1 dX1_bound_34 rfl ?_
      refine tpl (y := bR (ch T kc ko kv k) (fun t => T t c) d 0) (by simp [bR, h28]) ?_
      refine lv_lstore_n (lv' := [(3, .long (bR (ch T kc ko kv k) (fun t => T t c) d 0)), (0, .ref (ad 0)), (1, .int (nI c)), (2, .int (bI d))]) E.1 E.2.1 dX1_bound_40 rfl hl (by decide) rfl (fun ls hl => ?_)
      refine lv_iconst (v := nI 0) E.1 E.2.1 dX1_bound_41 rfl ?_
      refine lv_istore (lv' := [(5, .int (nI 0)), (3, .long (bR (ch T kc ko kv k) (fun t => T t c) d 0)), (0, .ref (ad 0)), (1, .int (nI c)), (2, .int (bI d))]) E.1 E.2.1 dX1_bound_42 hl (by decide) rfl (fun ls hl => ?_)
      refine w_lp1 (fun (r : Nat) => r ≤ n) (fun (r : Nat) => n - r) (fun (r : Nat) => [(5, .int (nI r)), (3, .long (bR (ch T kc ko kv k) (fun t => T t c) d r)), (0, .ref (ad 0)), (1, .int (nI c)), (2, .int (bI d))]) 0 (Nat.zero_le _) (lv_sub hl [0, 1, 2, 3, 4] rfl) (fun r ls hI hl ih44 => ?_)
      have hl : lv_has ls 8 [(5, .int (nI r)), (3, .long (bR (ch T kc ko kv k) (fun t => T t c) d r)), (0, .ref (ad 0)), (1, .int (nI c)), (2, .int (bI d))] := hl
      refine lv_iload E.1 E.2.1 dX1_bound_44 (lv_at hl 0 rfl) ?_
      refine lv_aload_n E.1 E.2.1 dX1_bound_46 rfl (lv_at hl 2 rfl) ?_
      refine n_get E inR hK hP 0 rfl rfl 1 (by decide) flR_27 rfl rfl dX1_bound_47 ?_
      refine n_icmp_ge (tgt := 116) E dX1_bound_50 rfl (by omega) (by omega) (fun h50 => ?_) (fun h50 => ?_)
      · skip
        refine lv_aload_n E.1 E.2.1 dX1_bound_116 rfl (lv_at hl 2 rfl) ?_
        refine n_get E inR hK hP 0 rfl rfl 0 (by decide) flR_23 rfl rfl dX1_bound_117 ?_
        refine n_if_ne (tgt := 127) E dX1_bound_120 rfl (by decide) (fun h => absurd h (by decide)) (fun _ => ?_)
        refine lv_lload_n E.1 E.2.1 dX1_bound_123 rfl (lv_at hl 1 rfl) ?_
        refine lv_goto (tgt := 128) E.1 E.2.1 dX1_bound_124 rfl ?_
        exact e_wl E hr hlk hS () (by rw [show n = r by omega]) hP dX1_bound_128
      · skip
        refine lv_aload_n E.1 E.2.1 dX1_bound_53 rfl (lv_at hl 2 rfl) ?_
        refine n_get E inR hK hP 0 rfl rfl 0 (by decide) flR_23 rfl rfl dX1_bound_54 ?_
        refine n_if_ne (tgt := 116) E dX1_bound_57 rfl (by decide) (fun h => absurd h (by decide)) (fun _ => ?_)
        refine lv_aload_n E.1 E.2.1 dX1_bound_60 rfl (lv_at hl 2 rfl) ?_
        refine n_get E inR hK hP 0 rfl rfl 2 (by decide) flR_7 rfl rfl dX1_bound_61 ?_
        refine lv_iconst (v := nI 4) E.1 E.2.1 dX1_bound_64 rfl ?_
        refine lv_iload E.1 E.2.1 dX1_bound_65 (lv_at hl 0 rfl) ?_
        refine n_imul E dX1_bound_67 ?_
        refine lv_iload_n E.1 E.2.1 dX1_bound_68 rfl (lv_at hl 3 rfl) ?_
        refine n_iadd E dX1_bound_69 ?_
        refine n_rald E hK hP 1 0 rfl rfl r c (by omega) (by omega) (by omega) dX1_bound_70 ?_
        refine lv_lstore (lv' := [(6, .long (T r c)), (5, .int (nI r)), (3, .long (bR (ch T kc ko kv k) (fun t => T t c) d r)), (0, .ref (ad 0)), (1, .int (nI c)), (2, .int (bI d))]) E.1 E.2.1 dX1_bound_71 hl (by decide) rfl (fun ls hl => ?_)
        refine lv_aload_n E.1 E.2.1 dX1_bound_73 rfl (lv_at hl 3 rfl) ?_
        refine lv_iload E.1 E.2.1 dX1_bound_74 (lv_at hl 1 rfl) ?_
        refine cV_i E (As := [.int (nI r)]) (rest := []) (cR_isChosen l D ad ca T n kc ko kv k 0 r hIK (by omega)) kR_41 hK hP 0 rfl rfl rfl rfl ⟨Nat.le_of_ble_eq_true rfl, Nat.le_of_ble_eq_true rfl⟩ rfl hl.1 rfl (Nat.le_of_ble_eq_true rfl) dX1_bound_76 ⟨Nat.zero_le _, Nat.zero_le _⟩ ?_
        refine b_if_eq (tgt := 108) E dX1_bound_79 rfl (fun h79 => ?_) (fun h79 => ?_)
        · skip
          refine lv_lload_n E.1 E.2.1 dX1_bound_108 rfl (lv_at hl 2 rfl) ?_
          refine tpl (y := bR (ch T kc ko kv k) (fun t => T t c) d (r + 1)) (bR_n h79) ?_
          refine lv_lstore_n (lv' := [(3, .long (bR (ch T kc ko kv k) (fun t => T t c) d (r + 1))), (6, .long (T r c)), (5, .int (nI r)), (0, .ref (ad 0)), (1, .int (nI c)), (2, .int (bI d))]) E.1 E.2.1 dX1_bound_109 rfl hl (by decide) rfl (fun ls hl => ?_)
          refine lv_iinc (k := 2) (v := nI (r + 1)) (lv' := [(5, .int (nI (r + 1))), (3, .long (bR (ch T kc ko kv k) (fun t => T t c) d (r + 1))), (6, .long (T r c)), (0, .ref (ad 0)), (1, .int (nI c)), (2, .int (bI d))]) E.1 E.2.1 dX1_bound_110 hl rfl (inc1 _) (by decide) rfl (fun ls hl => ?_)
          refine lv_goto (tgt := 44) E.1 E.2.1 dX1_bound_113 rfl ?_
          exact ih44 (r + 1) _ (by omega) (by omega) (lv_sub hl [0, 1, 3, 4, 5] rfl)
        · skip
          refine lv_iload_n E.1 E.2.1 dX1_bound_82 rfl (lv_at hl 5 rfl) ?_
          refine b_if_eq (tgt := 96) E dX1_bound_83 rfl (fun h83 => ?_) (fun h83 => ?_)
          · skip
            refine lv_lload E.1 E.2.1 dX1_bound_96 (lv_at hl 0 rfl) ?_
            refine lv_lload_n E.1 E.2.1 dX1_bound_98 rfl (lv_at hl 2 rfl) ?_
            refine l_if_ge (tgt := 108) E dX1_bound_99 dX1_bound_100 rfl (fun h99 => ?_) (fun h99 => ?_)
            · skip
              refine lv_lload_n E.1 E.2.1 dX1_bound_108 rfl (lv_at hl 2 rfl) ?_
              refine tpl (y := bR (ch T kc ko kv k) (fun t => T t c) d (r + 1)) (bR_f (f := fun t => T t c) h79 (bF_f h83 h99)) ?_
              refine lv_lstore_n (lv' := [(3, .long (bR (ch T kc ko kv k) (fun t => T t c) d (r + 1))), (6, .long (T r c)), (5, .int (nI r)), (0, .ref (ad 0)), (1, .int (nI c)), (2, .int (bI d))]) E.1 E.2.1 dX1_bound_109 rfl hl (by decide) rfl (fun ls hl => ?_)
              refine lv_iinc (k := 2) (v := nI (r + 1)) (lv' := [(5, .int (nI (r + 1))), (3, .long (bR (ch T kc ko kv k) (fun t => T t c) d (r + 1))), (6, .long (T r c)), (0, .ref (ad 0)), (1, .int (nI c)), (2, .int (bI d))]) E.1 E.2.1 dX1_bound_110 hl rfl (inc1 _) (by decide) rfl (fun ls hl => ?_)
              refine lv_goto (tgt := 44) E.1 E.2.1 dX1_bound_113 rfl ?_
              exact ih44 (r + 1) _ (by omega) (by omega) (lv_sub hl [0, 1, 3, 4, 5] rfl)
            · skip
              refine lv_lload E.1 E.2.1 dX1_bound_103 (lv_at hl 0 rfl) ?_
              refine lv_goto (tgt := 109) E.1 E.2.1 dX1_bound_105 rfl ?_
              refine tpl (y := bR (ch T kc ko kv k) (fun t => T t c) d (r + 1)) (bR_t (f := fun t => T t c) h79 (bF_t h83 h99)) ?_
              refine lv_lstore_n (lv' := [(3, .long (bR (ch T kc ko kv k) (fun t => T t c) d (r + 1))), (6, .long (T r c)), (5, .int (nI r)), (0, .ref (ad 0)), (1, .int (nI c)), (2, .int (bI d))]) E.1 E.2.1 dX1_bound_109 rfl hl (by decide) rfl (fun ls hl => ?_)
              refine lv_iinc (k := 2) (v := nI (r + 1)) (lv' := [(5, .int (nI (r + 1))), (3, .long (bR (ch T kc ko kv k) (fun t => T t c) d (r + 1))), (6, .long (T r c)), (0, .ref (ad 0)), (1, .int (nI c)), (2, .int (bI d))]) E.1 E.2.1 dX1_bound_110 hl rfl (inc1 _) (by decide) rfl (fun ls hl => ?_)
              refine lv_goto (tgt := 44) E.1 E.2.1 dX1_bound_113 rfl ?_
              exact ih44 (r + 1) _ (by omega) (by omega) (lv_sub hl [0, 1, 3, 4, 5] rfl)
          · skip
            refine lv_lload E.1 E.2.1 dX1_bound_86 (lv_at hl 0 rfl) ?_
            refine lv_lload_n E.1 E.2.1 dX1_bound_88 rfl (lv_at hl 2 rfl) ?_
            refine l_if_le (tgt := 108) E dX1_bound_89 dX1_bound_90 rfl (fun h89 => ?_) (fun h89 => ?_)
            · skip
              refine lv_lload_n E.1 E.2.1 dX1_bound_108 rfl (lv_at hl 2 rfl) ?_
              refine tpl (y := bR (ch T kc ko kv k) (fun t => T t c) d (r + 1)) (bR_f (f := fun t => T t c) h79 (bT_f h83 h89)) ?_
              refine lv_lstore_n (lv' := [(3, .long (bR (ch T kc ko kv k) (fun t => T t c) d (r + 1))), (6, .long (T r c)), (5, .int (nI r)), (0, .ref (ad 0)), (1, .int (nI c)), (2, .int (bI d))]) E.1 E.2.1 dX1_bound_109 rfl hl (by decide) rfl (fun ls hl => ?_)
              refine lv_iinc (k := 2) (v := nI (r + 1)) (lv' := [(5, .int (nI (r + 1))), (3, .long (bR (ch T kc ko kv k) (fun t => T t c) d (r + 1))), (6, .long (T r c)), (0, .ref (ad 0)), (1, .int (nI c)), (2, .int (bI d))]) E.1 E.2.1 dX1_bound_110 hl rfl (inc1 _) (by decide) rfl (fun ls hl => ?_)
              refine lv_goto (tgt := 44) E.1 E.2.1 dX1_bound_113 rfl ?_
              exact ih44 (r + 1) _ (by omega) (by omega) (lv_sub hl [0, 1, 3, 4, 5] rfl)
            · skip
              refine lv_goto (tgt := 103) E.1 E.2.1 dX1_bound_93 rfl ?_
              refine lv_lload E.1 E.2.1 dX1_bound_103 (lv_at hl 0 rfl) ?_
              refine lv_goto (tgt := 109) E.1 E.2.1 dX1_bound_105 rfl ?_
              refine tpl (y := bR (ch T kc ko kv k) (fun t => T t c) d (r + 1)) (bR_t (f := fun t => T t c) h79 (bT_t h83 h89)) ?_
              refine lv_lstore_n (lv' := [(3, .long (bR (ch T kc ko kv k) (fun t => T t c) d (r + 1))), (6, .long (T r c)), (5, .int (nI r)), (0, .ref (ad 0)), (1, .int (nI c)), (2, .int (bI d))]) E.1 E.2.1 dX1_bound_109 rfl hl (by decide) rfl (fun ls hl => ?_)
              refine lv_iinc (k := 2) (v := nI (r + 1)) (lv' := [(5, .int (nI (r + 1))), (3, .long (bR (ch T kc ko kv k) (fun t => T t c) d (r + 1))), (6, .long (T r c)), (0, .ref (ad 0)), (1, .int (nI c)), (2, .int (bI d))]) E.1 E.2.1 dX1_bound_110 hl rfl (inc1 _) (by decide) rfl (fun ls hl => ?_)
              refine lv_goto (tgt := 44) E.1 E.2.1 dX1_bound_113 rfl ?_
              exact ih44 (r + 1) _ (by omega) (by omega) (lv_sub hl [0, 1, 3, 4, 5] rfl)
  · skip
    exfalso; omega
set_option maxHeartbeats 4000000 in
set_option maxRecDepth 100000 in
theorem cR_bound1 (l : Launch) (D : va_G) (ad : Nat → Nat) (ca : Nat → ClassId) (T : Nat → Nat → Int64) (n : Nat) (kc ko : Nat → Nat) (kv : Nat → Int64) (k cd : Nat) (x : Int32) (d : Bool) (hN : inj ad 5) (hn128 : n ≤ 128) (hx : isC x = false) : Met l yX1_bound (wA yX1_bound cX1_bound 8 (some .long)) (rN 3) (va_Pc [.ref (ad 0), .int x, .int (bI d)] (pW D c2 (tR ca) (wR ad ca T n kc ko kv k cd))) (qL (fun z (_ : Unit) => True) D c2 (fun _ => wR ad ca T n kc ko kv k 1) (fA ad 5)) 0 0 (fA ad 5) := by
  refine met_of RX1 rfl (by decide) (Nat.le_of_ble_eq_true rfl) (fun p e s m below meth cd0 ls E hr hlk _ hB hl => ?_)
  obtain ⟨hP, hK⟩ := hB
  have hl : lv_has ls 8 [(0, .ref (ad 0)), (1, .int x), (2, .int (bI d))] := hl
  have hS : va_S (fA ad 5) s.heap s.heap [] := va_S.rf
  refine lv_aload_n E.1 E.2.1 dX1_bound_0 rfl (lv_at hl 0 rfl) ?_
  refine lv_iload_n E.1 E.2.1 dX1_bound_1 rfl (lv_at hl 1 rfl) ?_
  refine cS_i E (As := [.int x]) (rest := [.ref (ad 0)]) (cR_isColumn l x) kR_30 rfl rfl ⟨Nat.le_of_ble_eq_true rfl, Nat.le_of_ble_eq_true rfl⟩ rfl hl.1 rfl (Nat.le_of_ble_eq_true rfl) dX1_bound_2 ⟨Nat.zero_le _, Nat.zero_le _⟩ ?_
  refine tpi (y := bI false) (congrArg bI hx) ?_
  refine b_if_ne (tgt := 12) E dX1_bound_5 rfl (fun h => Bool.noConfusion h) (fun _ => ?_)
  refine lv_iconst (v := nI 1) E.1 E.2.1 dX1_bound_8 rfl ?_
  refine lv_goto (tgt := 24) E.1 E.2.1 dX1_bound_9 rfl ?_
  refine n_put E inR tyR1 tyR1_ok nmR1 hK hP (dW hN rfl) hS 0 rfl rfl 0 (by decide) flR_23 rfl rfl (tyR1_ok 0 (by decide)) (Nat.le_of_ble_eq_true rfl) dX1_bound_24 (fun H locs hP hS => ?_)
  have hP : va_P D c2 (wR ad ca T n kc ko kv k 1) H := hP
  refine lv_iload_n E.1 E.2.1 dX1_bound_27 rfl (lv_at hl 2 rfl) ?_
  refine b_if_eq (tgt := 37) E dX1_bound_28 rfl (fun h28 => ?_) (fun h28 => ?_)
  · skip
    refine lv_ldc2 E.1 E.2.1 E.2.2.2.1 (E.2.2.2.2 _ ldR_77) dX1_bound_37 ?_
    refine lv_lstore_n (lv' := [(3, .long 9223372036854775807), (0, .ref (ad 0)), (1, .int x), (2, .int (bI d))]) E.1 E.2.1 dX1_bound_40 rfl hl (by decide) rfl (fun ls hl => ?_)
    refine lv_iconst (v := nI 0) E.1 E.2.1 dX1_bound_41 rfl ?_
    refine lv_istore (lv' := [(5, .int (nI 0)), (3, .long 9223372036854775807), (0, .ref (ad 0)), (1, .int x), (2, .int (bI d))]) E.1 E.2.1 dX1_bound_42 hl (by decide) rfl (fun ls hl => ?_)
    refine lv_iload E.1 E.2.1 dX1_bound_44 (lv_at hl 0 rfl) ?_
    refine lv_aload_n E.1 E.2.1 dX1_bound_46 rfl (lv_at hl 2 rfl) ?_
    refine n_get E inR hK hP 0 rfl rfl 1 (by decide) flR_27 rfl rfl dX1_bound_47 ?_
    refine n_icmp_ge (tgt := 116) E dX1_bound_50 rfl (by omega) (by omega) (fun h50 => ?_) (fun h50 => ?_)
    · skip
      refine lv_aload_n E.1 E.2.1 dX1_bound_116 rfl (lv_at hl 2 rfl) ?_
      refine n_get E inR hK hP 0 rfl rfl 0 (by decide) flR_23 rfl rfl dX1_bound_117 ?_
      refine n_if_ne (tgt := 127) E dX1_bound_120 rfl (by decide) (fun _ => ?_) (fun h => absurd h (by decide))
      refine lv_lconst (v := 0) E.1 E.2.1 dX1_bound_127 rfl ?_
      exact e_wl E hr hlk hS () trivial hP dX1_bound_128
    · skip
      refine lv_aload_n E.1 E.2.1 dX1_bound_53 rfl (lv_at hl 2 rfl) ?_
      refine n_get E inR hK hP 0 rfl rfl 0 (by decide) flR_23 rfl rfl dX1_bound_54 ?_
      refine n_if_ne (tgt := 116) E dX1_bound_57 rfl (by decide) (fun _ => ?_) (fun h => absurd h (by decide))
      refine lv_aload_n E.1 E.2.1 dX1_bound_116 rfl (lv_at hl 2 rfl) ?_
      refine n_get E inR hK hP 0 rfl rfl 0 (by decide) flR_23 rfl rfl dX1_bound_117 ?_
      refine n_if_ne (tgt := 127) E dX1_bound_120 rfl (by decide) (fun _ => ?_) (fun h => absurd h (by decide))
      refine lv_lconst (v := 0) E.1 E.2.1 dX1_bound_127 rfl ?_
      exact e_wl E hr hlk hS () trivial hP dX1_bound_128
  · skip
    refine lv_ldc2 E.1 E.2.1 E.2.2.2.1 (E.2.2.2.2 _ ldR_75) dX1_bound_31 ?_
    refine lv_goto (tgt := 40) E.1 E.2.1 dX1_bound_34 rfl ?_
    refine lv_lstore_n (lv' := [(3, .long (-9223372036854775808)), (0, .ref (ad 0)), (1, .int x), (2, .int (bI d))]) E.1 E.2.1 dX1_bound_40 rfl hl (by decide) rfl (fun ls hl => ?_)
    refine lv_iconst (v := nI 0) E.1 E.2.1 dX1_bound_41 rfl ?_
    refine lv_istore (lv' := [(5, .int (nI 0)), (3, .long (-9223372036854775808)), (0, .ref (ad 0)), (1, .int x), (2, .int (bI d))]) E.1 E.2.1 dX1_bound_42 hl (by decide) rfl (fun ls hl => ?_)
    refine lv_iload E.1 E.2.1 dX1_bound_44 (lv_at hl 0 rfl) ?_
    refine lv_aload_n E.1 E.2.1 dX1_bound_46 rfl (lv_at hl 2 rfl) ?_
    refine n_get E inR hK hP 0 rfl rfl 1 (by decide) flR_27 rfl rfl dX1_bound_47 ?_
    refine n_icmp_ge (tgt := 116) E dX1_bound_50 rfl (by omega) (by omega) (fun h50 => ?_) (fun h50 => ?_)
    · skip
      refine lv_aload_n E.1 E.2.1 dX1_bound_116 rfl (lv_at hl 2 rfl) ?_
      refine n_get E inR hK hP 0 rfl rfl 0 (by decide) flR_23 rfl rfl dX1_bound_117 ?_
      refine n_if_ne (tgt := 127) E dX1_bound_120 rfl (by decide) (fun _ => ?_) (fun h => absurd h (by decide))
      refine lv_lconst (v := 0) E.1 E.2.1 dX1_bound_127 rfl ?_
      exact e_wl E hr hlk hS () trivial hP dX1_bound_128
    · skip
      refine lv_aload_n E.1 E.2.1 dX1_bound_53 rfl (lv_at hl 2 rfl) ?_
      refine n_get E inR hK hP 0 rfl rfl 0 (by decide) flR_23 rfl rfl dX1_bound_54 ?_
      refine n_if_ne (tgt := 116) E dX1_bound_57 rfl (by decide) (fun _ => ?_) (fun h => absurd h (by decide))
      refine lv_aload_n E.1 E.2.1 dX1_bound_116 rfl (lv_at hl 2 rfl) ?_
      refine n_get E inR hK hP 0 rfl rfl 0 (by decide) flR_23 rfl rfl dX1_bound_117 ?_
      refine n_if_ne (tgt := 127) E dX1_bound_120 rfl (by decide) (fun _ => ?_) (fun h => absurd h (by decide))
      refine lv_lconst (v := 0) E.1 E.2.1 dX1_bound_127 rfl ?_
      exact e_wl E hr hlk hS () trivial hP dX1_bound_128
set_option maxHeartbeats 4000000 in
set_option maxRecDepth 100000 in
theorem cR_bound2 (l : Launch) (D : va_G) (ad : Nat → Nat) (ca : Nat → ClassId) (T : Nat → Nat → Int64) (n : Nat) (kc ko : Nat → Nat) (kv : Nat → Int64) (k cd : Nat) (c : Nat) (d : Bool) (hN : inj ad 5) (hIK : iK kc ko k) (hn128 : n ≤ 128) (hc : c < 4) (hpos : ct (ch T kc ko kv k) n = 0) : Met l yX1_bound (wA yX1_bound cX1_bound 8 (some .long)) (rN 3) (va_Pc [.ref (ad 0), .int (nI c), .int (bI d)] (pW D c2 (tR ca) (wR ad ca T n kc ko kv k cd))) (qL (fun z (_ : Unit) => True) D c2 (fun _ => wR ad ca T n kc ko kv k 2) (fA ad 5)) 0 0 (fA ad 5) := by
  refine met_of RX1 rfl (by decide) (Nat.le_of_ble_eq_true rfl) (fun p e s m below meth cd0 ls E hr hlk _ hB hl => ?_)
  obtain ⟨hP, hK⟩ := hB
  have hl : lv_has ls 8 [(0, .ref (ad 0)), (1, .int (nI c)), (2, .int (bI d))] := hl
  have hS : va_S (fA ad 5) s.heap s.heap [] := va_S.rf
  refine lv_aload_n E.1 E.2.1 dX1_bound_0 rfl (lv_at hl 0 rfl) ?_
  refine lv_iload_n E.1 E.2.1 dX1_bound_1 rfl (lv_at hl 1 rfl) ?_
  refine cS_i E (As := [.int (nI c)]) (rest := [.ref (ad 0)]) (cR_isColumn l (nI c)) kR_30 rfl rfl ⟨Nat.le_of_ble_eq_true rfl, Nat.le_of_ble_eq_true rfl⟩ rfl hl.1 rfl (Nat.le_of_ble_eq_true rfl) dX1_bound_2 ⟨Nat.zero_le _, Nat.zero_le _⟩ ?_
  refine tpi (y := bI true) (congrArg bI (isC_n (by omega))) ?_
  refine b_if_ne (tgt := 12) E dX1_bound_5 rfl (fun _ => ?_) (fun h => Bool.noConfusion h)
  refine lv_aload_n E.1 E.2.1 dX1_bound_12 rfl (lv_at hl 0 rfl) ?_
  refine cV_i E (As := []) (rest := [.ref (ad 0)]) (cR_countChosen l D ad ca T n kc ko kv k cd hIK hn128) kR_44 hK hP 0 rfl rfl rfl rfl ⟨Nat.le_of_ble_eq_true rfl, Nat.le_of_ble_eq_true rfl⟩ rfl hl.1 rfl (Nat.le_of_ble_eq_true rfl) dX1_bound_13 ⟨Nat.zero_le _, Nat.zero_le _⟩ ?_
  refine n_if_ne (tgt := 23) E dX1_bound_16 rfl (by omega) (fun h16 => ?_) (fun h16 => ?_)
  · skip
    exfalso; omega
  · skip
    refine lv_iconst (v := nI 2) E.1 E.2.1 dX1_bound_19 rfl ?_
    refine lv_goto (tgt := 24) E.1 E.2.1 dX1_bound_20 rfl ?_
    refine n_put E inR tyR1 tyR1_ok nmR1 hK hP (dW hN rfl) hS 0 rfl rfl 0 (by decide) flR_23 rfl rfl (tyR1_ok 0 (by decide)) (Nat.le_of_ble_eq_true rfl) dX1_bound_24 (fun H locs hP hS => ?_)
    have hP : va_P D c2 (wR ad ca T n kc ko kv k 2) H := hP
    refine lv_iload_n E.1 E.2.1 dX1_bound_27 rfl (lv_at hl 2 rfl) ?_
    refine b_if_eq (tgt := 37) E dX1_bound_28 rfl (fun h28 => ?_) (fun h28 => ?_)
    · skip
      refine lv_ldc2 E.1 E.2.1 E.2.2.2.1 (E.2.2.2.2 _ ldR_77) dX1_bound_37 ?_
      refine lv_lstore_n (lv' := [(3, .long 9223372036854775807), (0, .ref (ad 0)), (1, .int (nI c)), (2, .int (bI d))]) E.1 E.2.1 dX1_bound_40 rfl hl (by decide) rfl (fun ls hl => ?_)
      refine lv_iconst (v := nI 0) E.1 E.2.1 dX1_bound_41 rfl ?_
      refine lv_istore (lv' := [(5, .int (nI 0)), (3, .long 9223372036854775807), (0, .ref (ad 0)), (1, .int (nI c)), (2, .int (bI d))]) E.1 E.2.1 dX1_bound_42 hl (by decide) rfl (fun ls hl => ?_)
      refine lv_iload E.1 E.2.1 dX1_bound_44 (lv_at hl 0 rfl) ?_
      refine lv_aload_n E.1 E.2.1 dX1_bound_46 rfl (lv_at hl 2 rfl) ?_
      refine n_get E inR hK hP 0 rfl rfl 1 (by decide) flR_27 rfl rfl dX1_bound_47 ?_
      refine n_icmp_ge (tgt := 116) E dX1_bound_50 rfl (by omega) (by omega) (fun h50 => ?_) (fun h50 => ?_)
      · skip
        refine lv_aload_n E.1 E.2.1 dX1_bound_116 rfl (lv_at hl 2 rfl) ?_
        refine n_get E inR hK hP 0 rfl rfl 0 (by decide) flR_23 rfl rfl dX1_bound_117 ?_
        refine n_if_ne (tgt := 127) E dX1_bound_120 rfl (by decide) (fun _ => ?_) (fun h => absurd h (by decide))
        refine lv_lconst (v := 0) E.1 E.2.1 dX1_bound_127 rfl ?_
        exact e_wl E hr hlk hS () trivial hP dX1_bound_128
      · skip
        refine lv_aload_n E.1 E.2.1 dX1_bound_53 rfl (lv_at hl 2 rfl) ?_
        refine n_get E inR hK hP 0 rfl rfl 0 (by decide) flR_23 rfl rfl dX1_bound_54 ?_
        refine n_if_ne (tgt := 116) E dX1_bound_57 rfl (by decide) (fun _ => ?_) (fun h => absurd h (by decide))
        refine lv_aload_n E.1 E.2.1 dX1_bound_116 rfl (lv_at hl 2 rfl) ?_
        refine n_get E inR hK hP 0 rfl rfl 0 (by decide) flR_23 rfl rfl dX1_bound_117 ?_
        refine n_if_ne (tgt := 127) E dX1_bound_120 rfl (by decide) (fun _ => ?_) (fun h => absurd h (by decide))
        refine lv_lconst (v := 0) E.1 E.2.1 dX1_bound_127 rfl ?_
        exact e_wl E hr hlk hS () trivial hP dX1_bound_128
    · skip
      refine lv_ldc2 E.1 E.2.1 E.2.2.2.1 (E.2.2.2.2 _ ldR_75) dX1_bound_31 ?_
      refine lv_goto (tgt := 40) E.1 E.2.1 dX1_bound_34 rfl ?_
      refine lv_lstore_n (lv' := [(3, .long (-9223372036854775808)), (0, .ref (ad 0)), (1, .int (nI c)), (2, .int (bI d))]) E.1 E.2.1 dX1_bound_40 rfl hl (by decide) rfl (fun ls hl => ?_)
      refine lv_iconst (v := nI 0) E.1 E.2.1 dX1_bound_41 rfl ?_
      refine lv_istore (lv' := [(5, .int (nI 0)), (3, .long (-9223372036854775808)), (0, .ref (ad 0)), (1, .int (nI c)), (2, .int (bI d))]) E.1 E.2.1 dX1_bound_42 hl (by decide) rfl (fun ls hl => ?_)
      refine lv_iload E.1 E.2.1 dX1_bound_44 (lv_at hl 0 rfl) ?_
      refine lv_aload_n E.1 E.2.1 dX1_bound_46 rfl (lv_at hl 2 rfl) ?_
      refine n_get E inR hK hP 0 rfl rfl 1 (by decide) flR_27 rfl rfl dX1_bound_47 ?_
      refine n_icmp_ge (tgt := 116) E dX1_bound_50 rfl (by omega) (by omega) (fun h50 => ?_) (fun h50 => ?_)
      · skip
        refine lv_aload_n E.1 E.2.1 dX1_bound_116 rfl (lv_at hl 2 rfl) ?_
        refine n_get E inR hK hP 0 rfl rfl 0 (by decide) flR_23 rfl rfl dX1_bound_117 ?_
        refine n_if_ne (tgt := 127) E dX1_bound_120 rfl (by decide) (fun _ => ?_) (fun h => absurd h (by decide))
        refine lv_lconst (v := 0) E.1 E.2.1 dX1_bound_127 rfl ?_
        exact e_wl E hr hlk hS () trivial hP dX1_bound_128
      · skip
        refine lv_aload_n E.1 E.2.1 dX1_bound_53 rfl (lv_at hl 2 rfl) ?_
        refine n_get E inR hK hP 0 rfl rfl 0 (by decide) flR_23 rfl rfl dX1_bound_54 ?_
        refine n_if_ne (tgt := 116) E dX1_bound_57 rfl (by decide) (fun _ => ?_) (fun h => absurd h (by decide))
        refine lv_aload_n E.1 E.2.1 dX1_bound_116 rfl (lv_at hl 2 rfl) ?_
        refine n_get E inR hK hP 0 rfl rfl 0 (by decide) flR_23 rfl rfl dX1_bound_117 ?_
        refine n_if_ne (tgt := 127) E dX1_bound_120 rfl (by decide) (fun _ => ?_) (fun h => absurd h (by decide))
        refine lv_lconst (v := 0) E.1 E.2.1 dX1_bound_127 rfl ?_
        exact e_wl E hr hlk hS () trivial hP dX1_bound_128
