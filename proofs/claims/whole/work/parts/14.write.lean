/-! Contracts of the hall: laid by program (wip/whole/gen.py). -/
set_option maxHeartbeats 4000000 in
set_option maxRecDepth 100000 in
theorem cX_append (l : Launch) (D : va_G) (ad : Nat → Nat) (ca : Nat → ClassId) (T : Nat → Nat → Int64) (n : Nat) (kc ko : Nat → Nat) (kv : Nat → Int64) (k : Nat) (lo hi : Nat → Int64) (bw bb pk : Nat → Nat) (a0 b0 c0 : Int32) (d0 : Int64) (hN : inj ad 10) (hn : n < 128) : Met l yX0_append (wA yX0_append cX0_append 7 (some .int)) (rN 4) (va_Pc [.ref (ad 0), .int a0, .int b0, .int c0, .long d0] (pW D c2 (tX ca) (wX ad ca T n kc ko kv k lo hi bw bb pk))) (qI (fun z (u : (Nat → Int64) × (Nat → Int64) × (Nat → Nat) × (Nat → Nat)) => z = nI n ∧ (∀ c, (n + 1) % 16 = 0 → c < 4 → Pk (apT T n a0 b0 c0 d0) (n / 16) c u.1 u.2.1 u.2.2.1 u.2.2.2) ∧ (∀ i, ((n + 1) % 16 ≠ 0 ∨ i < n / 16 * 4 ∨ n / 16 * 4 + 4 ≤ i) → u.1 i = lo i ∧ u.2.1 i = hi i ∧ u.2.2.1 i = bw i ∧ u.2.2.2 i = bb i)) D c2 (fun u => wX ad ca (apT T n a0 b0 c0 d0) (n + 1) kc ko kv k u.1 u.2.1 u.2.2.1 u.2.2.2 pk) (fA ad 10)) 0 0 (fA ad 10) := by
  refine met_of RX0 rfl (by decide) (Nat.le_of_ble_eq_true rfl) (fun p e s m below meth cd ls E hr hlk _ hB hl => ?_)
  obtain ⟨hP, hK⟩ := hB
  have hl : lv_has ls 7 [(0, .ref (ad 0)), (1, .int a0), (2, .int b0), (3, .int c0), (4, .long d0)] := hl
  have hS : va_S (fA ad 10) s.heap s.heap [] := va_S.rf
  refine lv_aload_n E.1 E.2.1 dX0_append_0 rfl (lv_at hl 0 rfl) ?_
  refine n_get E inX hK hP 0 rfl rfl 1 (by decide) flX_13 rfl rfl dX0_append_1 ?_
  refine lv_sipush (v := nI 128) E.1 E.2.1 dX0_append_4 rfl ?_
  refine n_icmp_lt (tgt := 20) E dX0_append_7 rfl (by omega) (by omega) (fun h7 => ?_) (fun h7 => ?_)
  · skip
    refine lv_aload_n E.1 E.2.1 dX0_append_20 rfl (lv_at hl 0 rfl) ?_
    refine n_get E inX hK hP 0 rfl rfl 1 (by decide) flX_13 rfl rfl dX0_append_21 ?_
    refine lv_istore (lv' := [(6, .int (nI n)), (0, .ref (ad 0)), (1, .int a0), (2, .int b0), (3, .int c0), (4, .long d0)]) E.1 E.2.1 dX0_append_24 hl (by decide) rfl (fun ls hl => ?_)
    refine lv_aload_n E.1 E.2.1 dX0_append_26 rfl (lv_at hl 1 rfl) ?_
    refine n_get E inX hK hP 0 rfl rfl 0 (by decide) flX_9 rfl rfl dX0_append_27 ?_
    refine lv_iload E.1 E.2.1 dX0_append_30 (lv_at hl 0 rfl) ?_
    refine lv_iconst (v := nI 0) E.1 E.2.1 dX0_append_32 rfl ?_
    refine cS_i E (As := [.int (nI n), .int (nI 0)]) (rest := [.ref (ad 1)]) (cX_spot l n 0) kX_52 rfl rfl ⟨Nat.le_of_ble_eq_true rfl, Nat.le_of_ble_eq_true rfl⟩ rfl hl.1 rfl (Nat.le_of_ble_eq_true rfl) dX0_append_33 ⟨Nat.zero_le _, Nat.zero_le _⟩ ?_
    refine lv_iload_n E.1 E.2.1 dX0_append_36 rfl (lv_at hl 2 rfl) ?_
    refine lv_i2l E.1 E.2.1 dX0_append_37 rfl ?_
    refine n_cast E hK hP (dW hN rfl) hS 1 0 rfl rfl n 0 (by omega) (by omega) (by omega) dX0_append_38 (fun H locs hP hS => ?_)
    have hP : va_P D c2 (wX ad ca (tS T n 0 (Int32.toInt64 a0)) n kc ko kv k lo hi bw bb pk) H := hP
    refine lv_aload_n E.1 E.2.1 dX0_append_39 rfl (lv_at hl 1 rfl) ?_
    refine n_get E inX hK hP 0 rfl rfl 0 (by decide) flX_9 rfl rfl dX0_append_40 ?_
    refine lv_iload E.1 E.2.1 dX0_append_43 (lv_at hl 0 rfl) ?_
    refine lv_iconst (v := nI 1) E.1 E.2.1 dX0_append_45 rfl ?_
    refine cS_i E (As := [.int (nI n), .int (nI 1)]) (rest := [.ref (ad 1)]) (cX_spot l n 1) kX_52 rfl rfl ⟨Nat.le_of_ble_eq_true rfl, Nat.le_of_ble_eq_true rfl⟩ rfl hl.1 rfl (Nat.le_of_ble_eq_true rfl) dX0_append_46 ⟨Nat.zero_le _, Nat.zero_le _⟩ ?_
    refine lv_iload_n E.1 E.2.1 dX0_append_49 rfl (lv_at hl 3 rfl) ?_
    refine lv_i2l E.1 E.2.1 dX0_append_50 rfl ?_
    refine n_cast E hK hP (dW hN rfl) hS 1 0 rfl rfl n 1 (by omega) (by omega) (by omega) dX0_append_51 (fun H locs hP hS => ?_)
    have hP : va_P D c2 (wX ad ca (tS (tS T n 0 (Int32.toInt64 a0)) n 1 (Int32.toInt64 b0)) n kc ko kv k lo hi bw bb pk) H := hP
    refine lv_aload_n E.1 E.2.1 dX0_append_52 rfl (lv_at hl 1 rfl) ?_
    refine n_get E inX hK hP 0 rfl rfl 0 (by decide) flX_9 rfl rfl dX0_append_53 ?_
    refine lv_iload E.1 E.2.1 dX0_append_56 (lv_at hl 0 rfl) ?_
    refine lv_iconst (v := nI 2) E.1 E.2.1 dX0_append_58 rfl ?_
    refine cS_i E (As := [.int (nI n), .int (nI 2)]) (rest := [.ref (ad 1)]) (cX_spot l n 2) kX_52 rfl rfl ⟨Nat.le_of_ble_eq_true rfl, Nat.le_of_ble_eq_true rfl⟩ rfl hl.1 rfl (Nat.le_of_ble_eq_true rfl) dX0_append_59 ⟨Nat.zero_le _, Nat.zero_le _⟩ ?_
    refine lv_iload_n E.1 E.2.1 dX0_append_62 rfl (lv_at hl 4 rfl) ?_
    refine lv_i2l E.1 E.2.1 dX0_append_63 rfl ?_
    refine n_cast E hK hP (dW hN rfl) hS 1 0 rfl rfl n 2 (by omega) (by omega) (by omega) dX0_append_64 (fun H locs hP hS => ?_)
    have hP : va_P D c2 (wX ad ca (tS (tS (tS T n 0 (Int32.toInt64 a0)) n 1 (Int32.toInt64 b0)) n 2 (Int32.toInt64 c0)) n kc ko kv k lo hi bw bb pk) H := hP
    refine lv_aload_n E.1 E.2.1 dX0_append_65 rfl (lv_at hl 1 rfl) ?_
    refine n_get E inX hK hP 0 rfl rfl 0 (by decide) flX_9 rfl rfl dX0_append_66 ?_
    refine lv_iload E.1 E.2.1 dX0_append_69 (lv_at hl 0 rfl) ?_
    refine lv_iconst (v := nI 3) E.1 E.2.1 dX0_append_71 rfl ?_
    refine cS_i E (As := [.int (nI n), .int (nI 3)]) (rest := [.ref (ad 1)]) (cX_spot l n 3) kX_52 rfl rfl ⟨Nat.le_of_ble_eq_true rfl, Nat.le_of_ble_eq_true rfl⟩ rfl hl.1 rfl (Nat.le_of_ble_eq_true rfl) dX0_append_72 ⟨Nat.zero_le _, Nat.zero_le _⟩ ?_
    refine lv_lload E.1 E.2.1 dX0_append_75 (lv_at hl 5 rfl) ?_
    refine n_cast E hK hP (dW hN rfl) hS 1 0 rfl rfl n 3 (by omega) (by omega) (by omega) dX0_append_77 (fun H locs hP hS => ?_)
    have hP : va_P D c2 (wX ad ca (tS (tS (tS (tS T n 0 (Int32.toInt64 a0)) n 1 (Int32.toInt64 b0)) n 2 (Int32.toInt64 c0)) n 3 d0) n kc ko kv k lo hi bw bb pk) H := hP
    refine lv_aload_n E.1 E.2.1 dX0_append_78 rfl (lv_at hl 1 rfl) ?_
    refine lv_iload E.1 E.2.1 dX0_append_79 (lv_at hl 0 rfl) ?_
    refine lv_iconst (v := nI 1) E.1 E.2.1 dX0_append_81 rfl ?_
    refine n_iadd E dX0_append_82 ?_
    refine n_put E inX tyX0 tyX0_ok nmX0 hK hP (dW hN rfl) hS 0 rfl rfl 1 (by decide) flX_13 rfl rfl (tyX0_ok 1 (by decide)) (Nat.le_of_ble_eq_true rfl) dX0_append_83 (fun H locs hP hS => ?_)
    have hP : va_P D c2 (wX ad ca (tS (tS (tS (tS T n 0 (Int32.toInt64 a0)) n 1 (Int32.toInt64 b0)) n 2 (Int32.toInt64 c0)) n 3 d0) (n + 1) kc ko kv k lo hi bw bb pk) H := hP
    refine lv_aload_n E.1 E.2.1 dX0_append_86 rfl (lv_at hl 1 rfl) ?_
    refine n_get E inX hK hP 0 rfl rfl 1 (by decide) flX_13 rfl rfl dX0_append_87 ?_
    refine lv_bipush (v := nI 16) E.1 E.2.1 dX0_append_90 rfl ?_
    refine n_irem E (by omega) (by omega) (by omega) dX0_append_92 ?_
    refine n_if_ne (tgt := 105) E dX0_append_93 rfl (by omega) (fun h93 => ?_) (fun h93 => ?_)
    · skip
      refine lv_iload E.1 E.2.1 dX0_append_105 (lv_at hl 0 rfl) ?_
      exact e_wi E hr hlk hS (lo, hi, bw, bb) (⟨rfl, fun c h => absurd h h93, fun i _ => ⟨rfl, rfl, rfl, rfl⟩⟩) hP dX0_append_107
    · skip
      refine lv_aload_n E.1 E.2.1 dX0_append_96 rfl (lv_at hl 1 rfl) ?_
      refine lv_iload E.1 E.2.1 dX0_append_97 (lv_at hl 0 rfl) ?_
      refine lv_bipush (v := nI 16) E.1 E.2.1 dX0_append_99 rfl ?_
      refine n_idiv E (by omega) (by omega) (by omega) dX0_append_101 ?_
      refine cV_wv E (As := [.int (nI (n / 16))]) (rest := []) (cX_packBlock l D ad ca (tS (tS (tS (tS T n 0 (Int32.toInt64 a0)) n 1 (Int32.toInt64 b0)) n 2 (Int32.toInt64 c0)) n 3 d0) (n + 1) kc ko kv k lo hi bw bb pk (n / 16) hN (by omega)) kX_56 hK hP hS (fun _ h => h) 0 rfl rfl rfl rfl ⟨Nat.le_of_ble_eq_true rfl, Nat.le_of_ble_eq_true rfl⟩ rfl hl.1 rfl (Nat.le_of_ble_eq_true rfl) dX0_append_102 ⟨Nat.zero_le _, Nat.zero_le _⟩ (fun u102 H locs hp102 hP _ _ hS => ?_)
      have hP : va_P D c2 (wX ad ca (tS (tS (tS (tS T n 0 (Int32.toInt64 a0)) n 1 (Int32.toInt64 b0)) n 2 (Int32.toInt64 c0)) n 3 d0) (n + 1) kc ko kv k u102.1 u102.2.1 u102.2.2.1 u102.2.2.2 pk) H := hP
      refine lv_iload E.1 E.2.1 dX0_append_105 (lv_at hl 0 rfl) ?_
      exact e_wi E hr hlk hS u102 (⟨rfl, fun c _ hc => hp102.1 c hc, fun i hi => hp102.2 i (by omega)⟩) hP dX0_append_107
  · skip
    exfalso; omega
set_option maxHeartbeats 4000000 in
set_option maxRecDepth 100000 in
theorem cX_purge (l : Launch) (D : va_G) (ad : Nat → Nat) (ca : Nat → ClassId) (T : Nat → Nat → Int64) (n : Nat) (kc ko : Nat → Nat) (kv : Nat → Int64) (k : Nat) (lo hi : Nat → Int64) (bw bb pk : Nat → Nat)  (hIK : iK kc ko k) (hN : inj ad 10) (hn128 : n ≤ 128) (hiB : iB T n lo hi) : Met l yX0_purge (wA yX0_purge cX0_purge 5 (some .int)) (rN 5) (va_Pc [.ref (ad 0)] (pW D c2 (tX ca) (wX ad ca T n kc ko kv k lo hi bw bb pk))) (qI (fun z (u : (Nat → Int64) × (Nat → Int64) × (Nat → Nat) × (Nat → Nat) × (Nat → Nat)) => z = nI (ct (ch T kc ko kv k) n) ∧ (∀ b c, b < (n - ct (ch T kc ko kv k) n) / 16 → c < 4 → Pk (pT (ch T kc ko kv k) T n) b c u.1 u.2.1 u.2.2.1 u.2.2.2.1)) D c2 (fun u => wX ad ca (pT (ch T kc ko kv k) T n) (n - ct (ch T kc ko kv k) n) kc ko kv k u.1 u.2.1 u.2.2.1 u.2.2.2.1 u.2.2.2.2) (fA ad 10)) 0 0 (fA ad 10) := by
  refine met_of RX0 rfl (by decide) (Nat.le_of_ble_eq_true rfl) (fun p e s m below meth cd ls E hr hlk _ hB hl => ?_)
  obtain ⟨hP, hK⟩ := hB
  have hl : lv_has ls 5 [(0, .ref (ad 0))] := hl
  have hS : va_S (fA ad 10) s.heap s.heap [] := va_S.rf
  refine lv_aload_n E.1 E.2.1 dX0_purge_0 rfl (lv_at hl 0 rfl) ?_
  refine cV_wi E (As := []) (rest := []) (cX_pick l D ad ca T n kc ko kv k lo hi bw bb pk hIK hN hn128 hiB) kX_75 hK hP hS (fun _ h => h) 0 rfl rfl rfl rfl ⟨Nat.le_of_ble_eq_true rfl, Nat.le_of_ble_eq_true rfl⟩ rfl hl.1 rfl (Nat.le_of_ble_eq_true rfl) dX0_purge_1 ⟨Nat.zero_le _, Nat.zero_le _⟩ (fun z1 u1 H locs hp1 hP _ _ hS => ?_)
  obtain ⟨hz1, hE1⟩ := hp1
  subst hz1
  have hP : va_P D c2 (wX ad ca T n kc ko kv k lo hi bw bb u1) H := hP
  have hct := ct_le (ch T kc ko kv k) n
  refine lv_istore_n (lv' := [(1, .int (nI (ct (ch T kc ko kv k) n))), (0, .ref (ad 0))]) E.1 E.2.1 dX0_purge_4 rfl hl (by decide) rfl (fun ls hl => ?_)
  refine lv_iconst (v := nI 0) E.1 E.2.1 dX0_purge_5 rfl ?_
  refine lv_istore_n (lv' := [(2, .int (nI 0)), (1, .int (nI (ct (ch T kc ko kv k) n))), (0, .ref (ad 0))]) E.1 E.2.1 dX0_purge_6 rfl hl (by decide) rfl (fun ls hl => ?_)
  refine lv_iconst (v := nI 0) E.1 E.2.1 dX0_purge_7 rfl ?_
  refine lv_istore_n (lv' := [(3, .int (nI 0)), (2, .int (nI 0)), (1, .int (nI (ct (ch T kc ko kv k) n))), (0, .ref (ad 0))]) E.1 E.2.1 dX0_purge_8 rfl hl (by decide) rfl (fun ls hl => ?_)
  refine lv_iconst (v := nI 0) E.1 E.2.1 dX0_purge_9 rfl ?_
  refine lv_istore (lv' := [(4, .int (nI 0)), (3, .int (nI 0)), (2, .int (nI 0)), (1, .int (nI (ct (ch T kc ko kv k) n))), (0, .ref (ad 0))]) E.1 E.2.1 dX0_purge_10 hl (by decide) rfl (fun ls hl => ?_)
  refine w_lq1 (fun (r : Nat) => r ≤ n) (fun (r : Nat) => n - r) (fun (r : Nat) => [(4, .int (nI r)), (3, .int (nI (ct (ch T kc ko kv k) r))), (2, .int (nI (r - ct (ch T kc ko kv k) r))), (0, .ref (ad 0)), (1, .int (nI (ct (ch T kc ko kv k) n)))]) (fun (r : Nat) H locs => va_P D c2 (wX ad ca (pT (ch T kc ko kv k) T r) n kc ko kv k lo hi bw bb u1) H ∧ va_S (fA ad 10) s.heap H locs) 0 (Nat.zero_le _) ⟨hP, hS⟩ (lv_sub hl [0, 1, 2, 4, 3] rfl) (fun r ls H locs hI hB hl ih12 => ?_)
  obtain ⟨hP, hS⟩ := hB
  have hl : lv_has ls 5 [(4, .int (nI r)), (3, .int (nI (ct (ch T kc ko kv k) r))), (2, .int (nI (r - ct (ch T kc ko kv k) r))), (0, .ref (ad 0)), (1, .int (nI (ct (ch T kc ko kv k) n)))] := hl
  have hP : va_P D c2 (wX ad ca (pT (ch T kc ko kv k) T r) n kc ko kv k lo hi bw bb u1) H := hP
  refine lv_iload E.1 E.2.1 dX0_purge_12 (lv_at hl 0 rfl) ?_
  refine lv_aload_n E.1 E.2.1 dX0_purge_14 rfl (lv_at hl 3 rfl) ?_
  refine n_get E inX hK hP 0 rfl rfl 1 (by decide) flX_13 rfl rfl dX0_purge_15 ?_
  have hctr := ct_le (ch T kc ko kv k) r
  refine n_icmp_ge (tgt := 59) E dX0_purge_18 rfl (by omega) (by omega) (fun h18 => ?_) (fun h18 => ?_)
  · skip
    refine lv_aload_n E.1 E.2.1 dX0_purge_59 rfl (lv_at hl 3 rfl) ?_
    refine lv_iload_n E.1 E.2.1 dX0_purge_60 rfl (lv_at hl 2 rfl) ?_
    refine n_put E inX tyX0 tyX0_ok nmX0 hK hP (dW hN rfl) hS 0 rfl rfl 1 (by decide) flX_13 rfl rfl (tyX0_ok 1 (by decide)) (Nat.le_of_ble_eq_true rfl) dX0_purge_61 (fun H locs hP hS => ?_)
    have hP : va_P D c2 (wX ad ca (pT (ch T kc ko kv k) T r) (r - ct (ch T kc ko kv k) r) kc ko kv k lo hi bw bb u1) H := hP
    refine lv_aload_n E.1 E.2.1 dX0_purge_64 rfl (lv_at hl 3 rfl) ?_
    refine cV_wv E (As := []) (rest := []) (cX_packFullBlocks l D ad ca (pT (ch T kc ko kv k) T r) (r - ct (ch T kc ko kv k) r) kc ko kv k lo hi bw bb u1 hN (by omega)) kX_130 hK hP hS (fun _ h => h) 0 rfl rfl rfl rfl ⟨Nat.le_of_ble_eq_true rfl, Nat.le_of_ble_eq_true rfl⟩ rfl hl.1 rfl (Nat.le_of_ble_eq_true rfl) dX0_purge_65 ⟨Nat.zero_le _, Nat.zero_le _⟩ (fun u65 H locs hp65 hP _ _ hS => ?_)
    have hP : va_P D c2 (wX ad ca (pT (ch T kc ko kv k) T r) (r - ct (ch T kc ko kv k) r) kc ko kv k u65.1 u65.2.1 u65.2.2.1 u65.2.2.2 u1) H := hP
    refine lv_iload_n E.1 E.2.1 dX0_purge_68 rfl (lv_at hl 4 rfl) ?_
    exact e_wi E hr hlk hS (u65.1, u65.2.1, u65.2.2.1, u65.2.2.2, u1) (⟨rfl, by rw [show n = r by omega]; exact hp65⟩) (by rw [show n = r by omega]; exact hP) dX0_purge_69
  · skip
    refine lv_iload_n E.1 E.2.1 dX0_purge_21 rfl (lv_at hl 1 rfl) ?_
    refine lv_iload_n E.1 E.2.1 dX0_purge_22 rfl (lv_at hl 4 rfl) ?_
    refine n_icmp_ge (tgt := 43) E dX0_purge_23 rfl (by omega) (by omega) (fun h23 => ?_) (fun h23 => ?_)
    · skip
      refine lv_aload_n E.1 E.2.1 dX0_purge_43 rfl (lv_at hl 3 rfl) ?_
      refine lv_iload E.1 E.2.1 dX0_purge_44 (lv_at hl 0 rfl) ?_
      refine lv_iload_n E.1 E.2.1 dX0_purge_46 rfl (lv_at hl 2 rfl) ?_
      refine cV_wv E (As := [.int (nI r), .int (nI (r - ct (ch T kc ko kv k) r))]) (rest := []) (cX_moveRow l D ad ca (pT (ch T kc ko kv k) T r) n kc ko kv k lo hi bw bb u1 r (r - ct (ch T kc ko kv k) r) hN (by omega) (by omega)) kX_126 hK hP hS (fun _ h => h) 0 rfl rfl rfl rfl ⟨Nat.le_of_ble_eq_true rfl, Nat.le_of_ble_eq_true rfl⟩ rfl hl.1 rfl (Nat.le_of_ble_eq_true rfl) dX0_purge_47 ⟨Nat.zero_le _, Nat.zero_le _⟩ (fun u47 H locs hp47 hP _ _ hS => ?_)
      have hP : va_P D c2 (wX ad ca (mvR (pT (ch T kc ko kv k) T r) r (r - ct (ch T kc ko kv k) r) 4) n kc ko kv k lo hi bw bb u1) H := hP
      refine lv_iinc (k := 2) (v := nI (r - ct (ch T kc ko kv k) r + 1)) (lv' := [(2, .int (nI (r - ct (ch T kc ko kv k) r + 1))), (4, .int (nI r)), (3, .int (nI (ct (ch T kc ko kv k) r))), (0, .ref (ad 0)), (1, .int (nI (ct (ch T kc ko kv k) n)))]) E.1 E.2.1 dX0_purge_50 hl rfl (inc1 _) (by decide) rfl (fun ls hl => ?_)
      refine lv_iinc (k := 1) (v := nI (r + 1)) (lv' := [(4, .int (nI (r + 1))), (2, .int (nI (r - ct (ch T kc ko kv k) r + 1))), (3, .int (nI (ct (ch T kc ko kv k) r))), (0, .ref (ad 0)), (1, .int (nI (ct (ch T kc ko kv k) n)))]) E.1 E.2.1 dX0_purge_53 hl rfl (inc1 _) (by decide) rfl (fun ls hl => ?_)
      refine lv_goto (tgt := 12) E.1 E.2.1 dX0_purge_56 rfl ?_
      have hPr : (ch T kc ko kv k) r = false := pu_f1 hE1 h18 h23
      rw [← pT_f hPr] at hP
      rw [show r - ct (ch T kc ko kv k) r + 1 = r + 1 - ct (ch T kc ko kv k) (r + 1) by rw [ct_f hPr]; omega, ← ct_f hPr] at hl
      exact ih12 (r + 1) _ _ _ (by omega) (by omega) ⟨hP, hS⟩ (lv_sub hl [0, 2, 1, 3, 4] rfl)
    · skip
      refine lv_aload_n E.1 E.2.1 dX0_purge_26 rfl (lv_at hl 3 rfl) ?_
      refine n_get E inX hK hP 0 rfl rfl 10 (by decide) flX_42 rfl rfl dX0_purge_27 ?_
      refine lv_iload_n E.1 E.2.1 dX0_purge_30 rfl (lv_at hl 1 rfl) ?_
      have hqi := (en_inv hE1 (ct (ch T kc ko kv k) r) h23).1
      refine n_iald E hK hP 9 8 rfl rfl (by decide) (by omega) dX0_purge_31 ?_
      refine lv_iload E.1 E.2.1 dX0_purge_32 (lv_at hl 0 rfl) ?_
      refine n_icmp_ne (tgt := 43) E dX0_purge_34 rfl (by omega) (by omega) (fun h34 => ?_) (fun h34 => ?_)
      · skip
        refine lv_aload_n E.1 E.2.1 dX0_purge_43 rfl (lv_at hl 3 rfl) ?_
        refine lv_iload E.1 E.2.1 dX0_purge_44 (lv_at hl 0 rfl) ?_
        refine lv_iload_n E.1 E.2.1 dX0_purge_46 rfl (lv_at hl 2 rfl) ?_
        refine cV_wv E (As := [.int (nI r), .int (nI (r - ct (ch T kc ko kv k) r))]) (rest := []) (cX_moveRow l D ad ca (pT (ch T kc ko kv k) T r) n kc ko kv k lo hi bw bb u1 r (r - ct (ch T kc ko kv k) r) hN (by omega) (by omega)) kX_126 hK hP hS (fun _ h => h) 0 rfl rfl rfl rfl ⟨Nat.le_of_ble_eq_true rfl, Nat.le_of_ble_eq_true rfl⟩ rfl hl.1 rfl (Nat.le_of_ble_eq_true rfl) dX0_purge_47 ⟨Nat.zero_le _, Nat.zero_le _⟩ (fun u47 H locs hp47 hP _ _ hS => ?_)
        have hP : va_P D c2 (wX ad ca (mvR (pT (ch T kc ko kv k) T r) r (r - ct (ch T kc ko kv k) r) 4) n kc ko kv k lo hi bw bb u1) H := hP
        refine lv_iinc (k := 2) (v := nI (r - ct (ch T kc ko kv k) r + 1)) (lv' := [(2, .int (nI (r - ct (ch T kc ko kv k) r + 1))), (4, .int (nI r)), (3, .int (nI (ct (ch T kc ko kv k) r))), (0, .ref (ad 0)), (1, .int (nI (ct (ch T kc ko kv k) n)))]) E.1 E.2.1 dX0_purge_50 hl rfl (inc1 _) (by decide) rfl (fun ls hl => ?_)
        refine lv_iinc (k := 1) (v := nI (r + 1)) (lv' := [(4, .int (nI (r + 1))), (2, .int (nI (r - ct (ch T kc ko kv k) r + 1))), (3, .int (nI (ct (ch T kc ko kv k) r))), (0, .ref (ad 0)), (1, .int (nI (ct (ch T kc ko kv k) n)))]) E.1 E.2.1 dX0_purge_53 hl rfl (inc1 _) (by decide) rfl (fun ls hl => ?_)
        refine lv_goto (tgt := 12) E.1 E.2.1 dX0_purge_56 rfl ?_
        have hPr : (ch T kc ko kv k) r = false := pu_f2 hE1 h18 h34
        rw [← pT_f hPr] at hP
        rw [show r - ct (ch T kc ko kv k) r + 1 = r + 1 - ct (ch T kc ko kv k) (r + 1) by rw [ct_f hPr]; omega, ← ct_f hPr] at hl
        exact ih12 (r + 1) _ _ _ (by omega) (by omega) ⟨hP, hS⟩ (lv_sub hl [0, 2, 1, 3, 4] rfl)
      · skip
        refine lv_iinc (k := 1) (v := nI (ct (ch T kc ko kv k) r + 1)) (lv' := [(3, .int (nI (ct (ch T kc ko kv k) r + 1))), (4, .int (nI r)), (2, .int (nI (r - ct (ch T kc ko kv k) r))), (0, .ref (ad 0)), (1, .int (nI (ct (ch T kc ko kv k) n)))]) E.1 E.2.1 dX0_purge_37 hl rfl (inc1 _) (by decide) rfl (fun ls hl => ?_)
        refine lv_goto (tgt := 53) E.1 E.2.1 dX0_purge_40 rfl ?_
        refine lv_iinc (k := 1) (v := nI (r + 1)) (lv' := [(4, .int (nI (r + 1))), (3, .int (nI (ct (ch T kc ko kv k) r + 1))), (2, .int (nI (r - ct (ch T kc ko kv k) r))), (0, .ref (ad 0)), (1, .int (nI (ct (ch T kc ko kv k) n)))]) E.1 E.2.1 dX0_purge_53 hl rfl (inc1 _) (by decide) rfl (fun ls hl => ?_)
        refine lv_goto (tgt := 12) E.1 E.2.1 dX0_purge_56 rfl ?_
        have hPr : (ch T kc ko kv k) r = true := pu_t hE1 h23 h34
        rw [← pT_t hPr] at hP
        rw [← ct_t hPr, show r - ct (ch T kc ko kv k) r = r + 1 - ct (ch T kc ko kv k) (r + 1) by rw [ct_t hPr]; omega] at hl
        exact ih12 (r + 1) _ _ _ (by omega) (by omega) ⟨hP, hS⟩ (lv_sub hl [0, 1, 2, 3, 4] rfl)
