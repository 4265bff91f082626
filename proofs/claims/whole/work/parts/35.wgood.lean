/-! The law's wrappers, where the hall answers: laid by program. -/
set_option maxHeartbeats 4000000 in
set_option maxRecDepth 100000 in
theorem wL_append (l : Launch) (D : va_G) (ad : Nat → Nat) (ca : Nat → ClassId) (T : Nat → Nat → Int64) (n : Nat) (kc ko : Nat → Nat) (kv : Nat → Int64) (k : Nat) (lo hi : Nat → Int64) (bw bb pk : Nat → Nat) (ao : Nat) (co : ClassId) (ov : Nat → Int64) (a0 b0 c0 : Int32) (d0 : Int64) (hN : inj ad 10) (hn : n < 128) (hao : ¬ fA ad 10 ao) : Met l yL_append (wW yL_append cL_append 8 (some .int) [(0, 14, 17, 13)]) (rN 5) (va_Pc [.ref (ad 0), .int a0, .int b0, .int c0, .long d0, .ref ao] (pO D (tX ca) (wX ad ca T n kc ko kv k lo hi bw bb pk) ao co ov)) (va_Qi (fun z (u : ((Nat → Int64) × (Nat → Int64) × (Nat → Nat) × (Nat → Nat)) × Int64) => z = nI 0 ∧ ∃ zz : Int32, u.2 = Int32.toInt64 zz ∧ (fun (z : Int32) (u : ((Nat → Int64) × (Nat → Int64) × (Nat → Nat) × (Nat → Nat))) => z = nI n ∧ (∀ c, (n + 1) % 16 = 0 → c < 4 → Pk (apT T n a0 b0 c0 d0) (n / 16) c u.1 u.2.1 u.2.2.1 u.2.2.2) ∧ (∀ i, ((n + 1) % 16 ≠ 0 ∨ i < n / 16 * 4 ∨ n / 16 * 4 + 4 ≤ i) → u.1 i = lo i ∧ u.2.1 i = hi i ∧ u.2.2.1 i = bw i ∧ u.2.2.2 i = bb i)) zz u.1) (fun u t => va_P D c2 ((fun u => wX ad ca (apT T n a0 b0 c0 d0) (n + 1) kc ko kv k u.1 u.2.1 u.2.2.1 u.2.2.2 pk) u.1) t.heap ∧ va_P D c2 (wO ao co (fS ov 0 u.2)) t.heap) (fO ad ao)) 0 0 (fO ad ao) := by
  refine wmet_of RL rfl (by decide) (Nat.le_of_ble_eq_true rfl) (fun p e s m below meth cd ls E hr hlk hex hB hl => ?_)
  obtain ⟨hP, hO, hK, hKO⟩ := hB
  have hl : lv_has ls 8 [(0, .ref (ad 0)), (1, .int a0), (2, .int b0), (3, .int c0), (4, .long d0), (6, .ref ao)] := hl
  have hS : va_S (fO ad ao) s.heap s.heap [] := va_S.rf
  refine lv_aload E.1 E.2.1 dL_append_0 (lv_at hl 5 rfl) ?_
  refine lv_iconst (v := nI 0) E.1 E.2.1 dL_append_2 rfl ?_
  refine lv_aload_n E.1 E.2.1 dL_append_3 rfl (lv_at hl 0 rfl) ?_
  refine lv_iload_n E.1 E.2.1 dL_append_4 rfl (lv_at hl 1 rfl) ?_
  refine lv_iload_n E.1 E.2.1 dL_append_5 rfl (lv_at hl 2 rfl) ?_
  refine lv_iload_n E.1 E.2.1 dL_append_6 rfl (lv_at hl 3 rfl) ?_
  refine lv_lload E.1 E.2.1 dL_append_7 (lv_at hl 4 rfl) ?_
  refine cV_wi E (As := [.int a0, .int b0, .int c0, .long d0]) (rest := [.int (nI 0), .ref ao]) (cX_append l D ad ca T n kc ko kv k lo hi bw bb pk a0 b0 c0 d0 hN hn) kL_7 hK hP hS (fun _ h => Or.inl h) 0 rfl rfl rfl rfl ⟨Nat.le_of_ble_eq_true rfl, Nat.le_of_ble_eq_true rfl⟩ rfl hl.1 rfl (Nat.le_of_ble_eq_true rfl) dL_append_9 ⟨Nat.zero_le _, Nat.zero_le _⟩ (fun z5 u5 H locs hp5 hP hsz hfr hS => ?_)
  have hO := apart_kept hO (wO_d hao) hfr
  refine lv_i2l E.1 E.2.1 dL_append_12 rfl ?_
  refine o_put E hKO hO hP (wX_d hao) hS dL_append_13 (fun H locs hO hP hS => ?_)
  refine lv_goto (tgt := 21) E.1 E.2.1 dL_append_14 rfl ?_
  refine lv_iconst (v := nI 0) E.1 E.2.1 dL_append_21 rfl ?_
  exact e_cg (S := ((Nat → Int64) × (Nat → Int64) × (Nat → Nat) × (Nat → Nat))) (post := (fun z (u : ((Nat → Int64) × (Nat → Int64) × (Nat → Nat) × (Nat → Nat)) × Int64) => z = nI 0 ∧ ∃ zz : Int32, u.2 = Int32.toInt64 zz ∧ (fun (z : Int32) (u : ((Nat → Int64) × (Nat → Int64) × (Nat → Nat) × (Nat → Nat))) => z = nI n ∧ (∀ c, (n + 1) % 16 = 0 → c < 4 → Pk (apT T n a0 b0 c0 d0) (n / 16) c u.1 u.2.1 u.2.2.1 u.2.2.2) ∧ (∀ i, ((n + 1) % 16 ≠ 0 ∨ i < n / 16 * 4 ∨ n / 16 * 4 + 4 ≤ i) → u.1 i = lo i ∧ u.2.1 i = hi i ∧ u.2.2.1 i = bw i ∧ u.2.2.2 i = bb i)) zz u.1)) (w1 := (fun u => wX ad ca (apT T n a0 b0 c0 d0) (n + 1) kc ko kv k u.1 u.2.1 u.2.2.1 u.2.2.2 pk)) E hr hlk u5 (Int32.toInt64 z5) (by exact ⟨rfl, z5, rfl, hp5⟩) hP hO hS dL_append_22
set_option maxHeartbeats 4000000 in
set_option maxRecDepth 100000 in
theorem wL_cell (l : Launch) (D : va_G) (ad : Nat → Nat) (ca : Nat → ClassId) (T : Nat → Nat → Int64) (n : Nat) (kc ko : Nat → Nat) (kv : Nat → Int64) (k : Nat) (lo hi : Nat → Int64) (bw bb pk : Nat → Nat) (ao : Nat) (co : ClassId) (ov : Nat → Int64) (r c : Nat) (hn128 : n ≤ 128) (hr0 : r < n) (hc : c < 4) (hao : ¬ fA ad 10 ao) : Met l yL_cell (wW yL_cell cL_cell 5 (some .int) [(0, 9, 12, 19), (0, 9, 16, 21)]) (rN 2) (va_Pc [.ref (ad 0), .int (nI r), .int (nI c), .ref ao] (pO D (tX ca) (wX ad ca T n kc ko kv k lo hi bw bb pk) ao co ov)) (va_Qi (fun z (u : Unit × Int64) => z = nI 0 ∧ u.2 = T r c) (fun u t => va_P D c2 ((fun _ => wX ad ca T n kc ko kv k lo hi bw bb pk) u.1) t.heap ∧ va_P D c2 (wO ao co (fS ov 0 u.2)) t.heap) (fO ad ao)) 0 0 (fO ad ao) := by
  refine wmet_of RL rfl (by decide) (Nat.le_of_ble_eq_true rfl) (fun p e s m below meth cd ls E hr hlk hex hB hl => ?_)
  obtain ⟨hP, hO, hK, hKO⟩ := hB
  have hl : lv_has ls 5 [(0, .ref (ad 0)), (1, .int (nI r)), (2, .int (nI c)), (3, .ref ao)] := hl
  have hS : va_S (fO ad ao) s.heap s.heap [] := va_S.rf
  refine lv_aload_n E.1 E.2.1 dL_cell_0 rfl (lv_at hl 3 rfl) ?_
  refine lv_iconst (v := nI 0) E.1 E.2.1 dL_cell_1 rfl ?_
  refine lv_aload_n E.1 E.2.1 dL_cell_2 rfl (lv_at hl 0 rfl) ?_
  refine lv_iload_n E.1 E.2.1 dL_cell_3 rfl (lv_at hl 1 rfl) ?_
  refine lv_iload_n E.1 E.2.1 dL_cell_4 rfl (lv_at hl 2 rfl) ?_
  refine cV_l E (As := [.int (nI r), .int (nI c)]) (rest := [.int (nI 0), .ref ao]) (cX_cell l D ad ca T n kc ko kv k lo hi bw bb pk r c hn128 hr0 hc) kL_15 hK hP 0 rfl rfl rfl rfl ⟨Nat.le_of_ble_eq_true rfl, Nat.le_of_ble_eq_true rfl⟩ rfl hl.1 rfl (Nat.le_of_ble_eq_true rfl) dL_cell_5 ⟨Nat.zero_le _, Nat.zero_le _⟩ ?_
  refine o_put E hKO hO hP (wX_d hao) hS dL_cell_8 (fun H locs hO hP hS => ?_)
  refine lv_goto (tgt := 20) E.1 E.2.1 dL_cell_9 rfl ?_
  refine lv_iconst (v := nI 0) E.1 E.2.1 dL_cell_20 rfl ?_
  exact e_cg (S := Unit) (post := (fun z (u : Unit × Int64) => z = nI 0 ∧ u.2 = T r c)) (w1 := (fun _ => wX ad ca T n kc ko kv k lo hi bw bb pk)) E hr hlk () (T r c) (by exact ⟨rfl, rfl⟩) hP hO hS dL_cell_21
set_option maxHeartbeats 4000000 in
set_option maxRecDepth 100000 in
theorem wL_where (l : Launch) (D : va_G) (ad : Nat → Nat) (ca : Nat → ClassId) (T : Nat → Nat → Int64) (n : Nat) (kc ko : Nat → Nat) (kv : Nat → Int64) (k : Nat) (lo hi : Nat → Int64) (bw bb pk : Nat → Nat) (ao : Nat) (co : ClassId) (ov : Nat → Int64) (c o : Nat) (v : Int64) (hN : inj ad 10) (hk : k < 3) (hc : c < 4) (ho : o < 6) (hao : ¬ fA ad 10 ao) : Met l yL_where (wW yL_where cL_where 7 (some .int) [(0, 12, 15, 19), (0, 12, 19, 13)]) (rN 2) (va_Pc [.ref (ad 0), .int (nI c), .int (nI o), .long v, .ref ao] (pO D (tX ca) (wX ad ca T n kc ko kv k lo hi bw bb pk) ao co ov)) (va_Qi (fun z (u : Unit × Int64) => z = nI 0 ∧ ∃ zz : Int32, u.2 = Int32.toInt64 zz ∧ (fun (z : Int32) (_ : Unit) => z = nI (k + 1)) zz u.1) (fun u t => va_P D c2 ((fun _ => wX ad ca T n (fS kc k c) (fS ko k o) (fS kv k v) (k + 1) lo hi bw bb pk) u.1) t.heap ∧ va_P D c2 (wO ao co (fS ov 0 u.2)) t.heap) (fO ad ao)) 0 0 (fO ad ao) := by
  refine wmet_of RL rfl (by decide) (Nat.le_of_ble_eq_true rfl) (fun p e s m below meth cd ls E hr hlk hex hB hl => ?_)
  obtain ⟨hP, hO, hK, hKO⟩ := hB
  have hl : lv_has ls 7 [(0, .ref (ad 0)), (1, .int (nI c)), (2, .int (nI o)), (3, .long v), (5, .ref ao)] := hl
  have hS : va_S (fO ad ao) s.heap s.heap [] := va_S.rf
  refine lv_aload E.1 E.2.1 dL_where_0 (lv_at hl 4 rfl) ?_
  refine lv_iconst (v := nI 0) E.1 E.2.1 dL_where_2 rfl ?_
  refine lv_aload_n E.1 E.2.1 dL_where_3 rfl (lv_at hl 0 rfl) ?_
  refine lv_iload_n E.1 E.2.1 dL_where_4 rfl (lv_at hl 1 rfl) ?_
  refine lv_iload_n E.1 E.2.1 dL_where_5 rfl (lv_at hl 2 rfl) ?_
  refine lv_lload_n E.1 E.2.1 dL_where_6 rfl (lv_at hl 3 rfl) ?_
  refine cV_wi E (As := [.int (nI c), .int (nI o), .long v]) (rest := [.int (nI 0), .ref ao]) (cX_where l D ad ca T n kc ko kv k lo hi bw bb pk c o v hN hk hc ho) kL_23 hK hP hS (fun _ h => Or.inl h) 0 rfl rfl rfl rfl ⟨Nat.le_of_ble_eq_true rfl, Nat.le_of_ble_eq_true rfl⟩ rfl hl.1 rfl (Nat.le_of_ble_eq_true rfl) dL_where_7 ⟨Nat.zero_le _, Nat.zero_le _⟩ (fun z5 u5 H locs hp5 hP hsz hfr hS => ?_)
  have hO := apart_kept hO (wO_d hao) hfr
  refine lv_i2l E.1 E.2.1 dL_where_10 rfl ?_
  refine o_put E hKO hO hP (wX_d hao) hS dL_where_11 (fun H locs hO hP hS => ?_)
  refine lv_goto (tgt := 23) E.1 E.2.1 dL_where_12 rfl ?_
  refine lv_iconst (v := nI 0) E.1 E.2.1 dL_where_23 rfl ?_
  exact e_cg (S := Unit) (post := (fun z (u : Unit × Int64) => z = nI 0 ∧ ∃ zz : Int32, u.2 = Int32.toInt64 zz ∧ (fun (z : Int32) (_ : Unit) => z = nI (k + 1)) zz u.1)) (w1 := (fun _ => wX ad ca T n (fS kc k c) (fS ko k o) (fS kv k v) (k + 1) lo hi bw bb pk)) E hr hlk u5 (Int32.toInt64 z5) (by exact ⟨rfl, z5, rfl, hp5⟩) hP hO hS dL_where_24
set_option maxHeartbeats 4000000 in
set_option maxRecDepth 100000 in
theorem wL_row (l : Launch) (D : va_G) (ad : Nat → Nat) (ca : Nat → ClassId) (T : Nat → Nat → Int64) (n : Nat) (kc ko : Nat → Nat) (kv : Nat → Int64) (k : Nat) (lo hi : Nat → Int64) (bw bb pk : Nat → Nat) (ao : Nat) (co : ClassId) (ov : Nat → Int64) (i : Nat) (hIK : iK kc ko k) (hN : inj ad 10) (hn128 : n ≤ 128) (hiB : iB T n lo hi) (hi0 : i < ct (ch T kc ko kv k) n) (hao : ¬ fA ad 10 ao) : Met l yL_row (wW yL_row cL_row 4 (some .int) [(0, 9, 12, 21)]) (rN 5) (va_Pc [.ref (ad 0), .int (nI i), .ref ao] (pO D (tX ca) (wX ad ca T n kc ko kv k lo hi bw bb pk) ao co ov)) (va_Qi (fun z (u : (Nat → Nat) × Int64) => z = nI 0 ∧ ∃ zz : Int32, u.2 = Int32.toInt64 zz ∧ (fun (z : Int32) (q : (Nat → Nat)) => z = nI (q i) ∧ En q (ch T kc ko kv k) n) zz u.1) (fun u t => va_P D c2 ((fun q => wX ad ca T n kc ko kv k lo hi bw bb q) u.1) t.heap ∧ va_P D c2 (wO ao co (fS ov 0 u.2)) t.heap) (fO ad ao)) 0 0 (fO ad ao) := by
  refine wmet_of RL rfl (by decide) (Nat.le_of_ble_eq_true rfl) (fun p e s m below meth cd ls E hr hlk hex hB hl => ?_)
  obtain ⟨hP, hO, hK, hKO⟩ := hB
  have hl : lv_has ls 4 [(0, .ref (ad 0)), (1, .int (nI i)), (2, .ref ao)] := hl
  have hS : va_S (fO ad ao) s.heap s.heap [] := va_S.rf
  refine lv_aload_n E.1 E.2.1 dL_row_0 rfl (lv_at hl 2 rfl) ?_
  refine lv_iconst (v := nI 0) E.1 E.2.1 dL_row_1 rfl ?_
  refine lv_aload_n E.1 E.2.1 dL_row_2 rfl (lv_at hl 0 rfl) ?_
  refine lv_iload_n E.1 E.2.1 dL_row_3 rfl (lv_at hl 1 rfl) ?_
  refine cV_wi E (As := [.int (nI i)]) (rest := [.int (nI 0), .ref ao]) (cX_row l D ad ca T n kc ko kv k lo hi bw bb pk i hIK hN hn128 hiB hi0) kL_27 hK hP hS (fun _ h => Or.inl h) 0 rfl rfl rfl rfl ⟨Nat.le_of_ble_eq_true rfl, Nat.le_of_ble_eq_true rfl⟩ rfl hl.1 rfl (Nat.le_of_ble_eq_true rfl) dL_row_4 ⟨Nat.zero_le _, Nat.zero_le _⟩ (fun z5 u5 H locs hp5 hP hsz hfr hS => ?_)
  have hO := apart_kept hO (wO_d hao) hfr
  refine lv_i2l E.1 E.2.1 dL_row_7 rfl ?_
  refine o_put E hKO hO hP (wX_d hao) hS dL_row_8 (fun H locs hO hP hS => ?_)
  refine lv_goto (tgt := 15) E.1 E.2.1 dL_row_9 rfl ?_
  refine lv_iconst (v := nI 0) E.1 E.2.1 dL_row_15 rfl ?_
  exact e_cg (S := (Nat → Nat)) (post := (fun z (u : (Nat → Nat) × Int64) => z = nI 0 ∧ ∃ zz : Int32, u.2 = Int32.toInt64 zz ∧ (fun (z : Int32) (q : (Nat → Nat)) => z = nI (q i) ∧ En q (ch T kc ko kv k) n) zz u.1)) (w1 := (fun q => wX ad ca T n kc ko kv k lo hi bw bb q)) E hr hlk u5 (Int32.toInt64 z5) (by exact ⟨rfl, z5, rfl, hp5⟩) hP hO hS dL_row_16
set_option maxHeartbeats 4000000 in
set_option maxRecDepth 100000 in
theorem wL_sum (l : Launch) (D : va_G) (ad : Nat → Nat) (ca : Nat → ClassId) (T : Nat → Nat → Int64) (n : Nat) (kc ko : Nat → Nat) (kv : Nat → Int64) (k : Nat) (lo hi : Nat → Int64) (bw bb pk : Nat → Nat) (ao : Nat) (co : ClassId) (ov : Nat → Int64) (c : Nat) (hIK : iK kc ko k) (hN : inj ad 10) (hn128 : n ≤ 128) (hiB : iB T n lo hi) (hc : c < 4) (hao : ¬ fA ad 10 ao) : Met l yL_sum (wW yL_sum cL_sum 4 (some .int) [(0, 8, 11, 19)]) (rN 5) (va_Pc [.ref (ad 0), .int (nI c), .ref ao] (pO D (tX ca) (wX ad ca T n kc ko kv k lo hi bw bb pk) ao co ov)) (va_Qi (fun z (u : (Nat → Nat) × Int64) => z = nI 0 ∧ (fun (z : Int64) (q : (Nat → Nat)) => z = sm (fun j => T (q j) c) (ct (ch T kc ko kv k) n) ∧ En q (ch T kc ko kv k) n) u.2 u.1) (fun u t => va_P D c2 ((fun q => wX ad ca T n kc ko kv k lo hi bw bb q) u.1) t.heap ∧ va_P D c2 (wO ao co (fS ov 0 u.2)) t.heap) (fO ad ao)) 0 0 (fO ad ao) := by
  refine wmet_of RL rfl (by decide) (Nat.le_of_ble_eq_true rfl) (fun p e s m below meth cd ls E hr hlk hex hB hl => ?_)
  obtain ⟨hP, hO, hK, hKO⟩ := hB
  have hl : lv_has ls 4 [(0, .ref (ad 0)), (1, .int (nI c)), (2, .ref ao)] := hl
  have hS : va_S (fO ad ao) s.heap s.heap [] := va_S.rf
  refine lv_aload_n E.1 E.2.1 dL_sum_0 rfl (lv_at hl 2 rfl) ?_
  refine lv_iconst (v := nI 0) E.1 E.2.1 dL_sum_1 rfl ?_
  refine lv_aload_n E.1 E.2.1 dL_sum_2 rfl (lv_at hl 0 rfl) ?_
  refine lv_iload_n E.1 E.2.1 dL_sum_3 rfl (lv_at hl 1 rfl) ?_
  refine cV_wl E (As := [.int (nI c)]) (rest := [.int (nI 0), .ref ao]) (cX_sum l D ad ca T n kc ko kv k lo hi bw bb pk c hIK hN hn128 hiB hc) kL_31 hK hP hS (fun _ h => Or.inl h) 0 rfl rfl rfl rfl ⟨Nat.le_of_ble_eq_true rfl, Nat.le_of_ble_eq_true rfl⟩ rfl hl.1 rfl (Nat.le_of_ble_eq_true rfl) dL_sum_4 ⟨Nat.zero_le _, Nat.zero_le _⟩ (fun z5 u5 H locs hp5 hP hsz hfr hS => ?_)
  have hO := apart_kept hO (wO_d hao) hfr
  refine o_put E hKO hO hP (wX_d hao) hS dL_sum_7 (fun H locs hO hP hS => ?_)
  refine lv_goto (tgt := 14) E.1 E.2.1 dL_sum_8 rfl ?_
  refine lv_iconst (v := nI 0) E.1 E.2.1 dL_sum_14 rfl ?_
  exact e_cg (S := (Nat → Nat)) (post := (fun z (u : (Nat → Nat) × Int64) => z = nI 0 ∧ (fun (z : Int64) (q : (Nat → Nat)) => z = sm (fun j => T (q j) c) (ct (ch T kc ko kv k) n) ∧ En q (ch T kc ko kv k) n) u.2 u.1)) (w1 := (fun q => wX ad ca T n kc ko kv k lo hi bw bb q)) E hr hlk u5 z5 (by exact ⟨rfl, hp5⟩) hP hO hS dL_sum_15
set_option maxHeartbeats 4000000 in
set_option maxRecDepth 100000 in
theorem wL_bound (l : Launch) (D : va_G) (ad : Nat → Nat) (ca : Nat → ClassId) (T : Nat → Nat → Int64) (n : Nat) (kc ko : Nat → Nat) (kv : Nat → Int64) (k : Nat) (lo hi : Nat → Int64) (bw bb pk : Nat → Nat) (ao : Nat) (co : ClassId) (ov : Nat → Int64) (c : Nat) (d : Bool) (hIK : iK kc ko k) (hN : inj ad 10) (hn128 : n ≤ 128) (hiB : iB T n lo hi) (hc : c < 4) (hpos : 0 < ct (ch T kc ko kv k) n) (hao : ¬ fA ad 10 ao) : Met l yL_bound (wW yL_bound cL_bound 5 (some .int) [(0, 9, 12, 19), (0, 9, 16, 39)]) (rN 5) (va_Pc [.ref (ad 0), .int (nI c), .int (bI d), .ref ao] (pO D (tX ca) (wX ad ca T n kc ko kv k lo hi bw bb pk) ao co ov)) (va_Qi (fun z (u : (Nat → Nat) × Int64) => z = nI 0 ∧ (fun (z : Int64) (q : (Nat → Nat)) => z = bnd (fun j => T (q j) c) d (ct (ch T kc ko kv k) n - 1) ∧ En q (ch T kc ko kv k) n) u.2 u.1) (fun u t => va_P D c2 ((fun q => wX ad ca T n kc ko kv k lo hi bw bb q) u.1) t.heap ∧ va_P D c2 (wO ao co (fS ov 0 u.2)) t.heap) (fO ad ao)) 0 0 (fO ad ao) := by
  refine wmet_of RL rfl (by decide) (Nat.le_of_ble_eq_true rfl) (fun p e s m below meth cd ls E hr hlk hex hB hl => ?_)
  obtain ⟨hP, hO, hK, hKO⟩ := hB
  have hl : lv_has ls 5 [(0, .ref (ad 0)), (1, .int (nI c)), (2, .int (bI d)), (3, .ref ao)] := hl
  have hS : va_S (fO ad ao) s.heap s.heap [] := va_S.rf
  refine lv_aload_n E.1 E.2.1 dL_bound_0 rfl (lv_at hl 3 rfl) ?_
  refine lv_iconst (v := nI 0) E.1 E.2.1 dL_bound_1 rfl ?_
  refine lv_aload_n E.1 E.2.1 dL_bound_2 rfl (lv_at hl 0 rfl) ?_
  refine lv_iload_n E.1 E.2.1 dL_bound_3 rfl (lv_at hl 1 rfl) ?_
  refine lv_iload_n E.1 E.2.1 dL_bound_4 rfl (lv_at hl 2 rfl) ?_
  refine cV_wl E (As := [.int (nI c), .int (bI d)]) (rest := [.int (nI 0), .ref ao]) (cX_bound l D ad ca T n kc ko kv k lo hi bw bb pk c d hIK hN hn128 hiB hc hpos) kL_35 hK hP hS (fun _ h => Or.inl h) 0 rfl rfl rfl rfl ⟨Nat.le_of_ble_eq_true rfl, Nat.le_of_ble_eq_true rfl⟩ rfl hl.1 rfl (Nat.le_of_ble_eq_true rfl) dL_bound_5 ⟨Nat.zero_le _, Nat.zero_le _⟩ (fun z5 u5 H locs hp5 hP hsz hfr hS => ?_)
  have hO := apart_kept hO (wO_d hao) hfr
  refine o_put E hKO hO hP (wX_d hao) hS dL_bound_8 (fun H locs hO hP hS => ?_)
  refine lv_goto (tgt := 20) E.1 E.2.1 dL_bound_9 rfl ?_
  refine lv_iconst (v := nI 0) E.1 E.2.1 dL_bound_20 rfl ?_
  exact e_cg (S := (Nat → Nat)) (post := (fun z (u : (Nat → Nat) × Int64) => z = nI 0 ∧ (fun (z : Int64) (q : (Nat → Nat)) => z = bnd (fun j => T (q j) c) d (ct (ch T kc ko kv k) n - 1) ∧ En q (ch T kc ko kv k) n) u.2 u.1)) (w1 := (fun q => wX ad ca T n kc ko kv k lo hi bw bb q)) E hr hlk u5 z5 (by exact ⟨rfl, hp5⟩) hP hO hS dL_bound_21
set_option maxHeartbeats 4000000 in
set_option maxRecDepth 100000 in
theorem wL_ranked (l : Launch) (D : va_G) (ad : Nat → Nat) (ca : Nat → ClassId) (T : Nat → Nat → Int64) (n : Nat) (kc ko : Nat → Nat) (kv : Nat → Int64) (k : Nat) (lo hi : Nat → Int64) (bw bb pk : Nat → Nat) (ao : Nat) (co : ClassId) (ov : Nat → Int64) (c i : Nat) (hIK : iK kc ko k) (hN : inj ad 10) (hn128 : n ≤ 128) (hiB : iB T n lo hi) (hc : c < 4) (hi0 : i < ct (ch T kc ko kv k) n) (hao : ¬ fA ad 10 ao) : Met l yL_ranked (wW yL_ranked cL_ranked 5 (some .int) [(0, 10, 13, 19), (0, 10, 17, 21)]) (rN 5) (va_Pc [.ref (ad 0), .int (nI c), .int (nI i), .ref ao] (pO D (tX ca) (wX ad ca T n kc ko kv k lo hi bw bb pk) ao co ov)) (va_Qi (fun z (u : (Nat → Nat) × Int64) => z = nI 0 ∧ ∃ zz : Int32, u.2 = Int32.toInt64 zz ∧ (fun (z : Int32) (q : (Nat → Nat)) => z = nI (q i) ∧ Sd T c true q (ct (ch T kc ko kv k) n) ∧ (∃ p, En p (ch T kc ko kv k) n ∧ Pm q p (ct (ch T kc ko kv k) n))) zz u.1) (fun u t => va_P D c2 ((fun q => wX ad ca T n kc ko kv k lo hi bw bb q) u.1) t.heap ∧ va_P D c2 (wO ao co (fS ov 0 u.2)) t.heap) (fO ad ao)) 0 0 (fO ad ao) := by
  refine wmet_of RL rfl (by decide) (Nat.le_of_ble_eq_true rfl) (fun p e s m below meth cd ls E hr hlk hex hB hl => ?_)
  obtain ⟨hP, hO, hK, hKO⟩ := hB
  have hl : lv_has ls 5 [(0, .ref (ad 0)), (1, .int (nI c)), (2, .int (nI i)), (3, .ref ao)] := hl
  have hS : va_S (fO ad ao) s.heap s.heap [] := va_S.rf
  refine lv_aload_n E.1 E.2.1 dL_ranked_0 rfl (lv_at hl 3 rfl) ?_
  refine lv_iconst (v := nI 0) E.1 E.2.1 dL_ranked_1 rfl ?_
  refine lv_aload_n E.1 E.2.1 dL_ranked_2 rfl (lv_at hl 0 rfl) ?_
  refine lv_iload_n E.1 E.2.1 dL_ranked_3 rfl (lv_at hl 1 rfl) ?_
  refine lv_iload_n E.1 E.2.1 dL_ranked_4 rfl (lv_at hl 2 rfl) ?_
  refine cV_wi E (As := [.int (nI c), .int (nI i)]) (rest := [.int (nI 0), .ref ao]) (cX_ranked l D ad ca T n kc ko kv k lo hi bw bb pk c i hIK hN hn128 hiB hc hi0) kL_41 hK hP hS (fun _ h => Or.inl h) 0 rfl rfl rfl rfl ⟨Nat.le_of_ble_eq_true rfl, Nat.le_of_ble_eq_true rfl⟩ rfl hl.1 rfl (Nat.le_of_ble_eq_true rfl) dL_ranked_5 ⟨Nat.zero_le _, Nat.zero_le _⟩ (fun z5 u5 H locs hp5 hP hsz hfr hS => ?_)
  have hO := apart_kept hO (wO_d hao) hfr
  refine lv_i2l E.1 E.2.1 dL_ranked_8 rfl ?_
  refine o_put E hKO hO hP (wX_d hao) hS dL_ranked_9 (fun H locs hO hP hS => ?_)
  refine lv_goto (tgt := 21) E.1 E.2.1 dL_ranked_10 rfl ?_
  refine lv_iconst (v := nI 0) E.1 E.2.1 dL_ranked_21 rfl ?_
  exact e_cg (S := (Nat → Nat)) (post := (fun z (u : (Nat → Nat) × Int64) => z = nI 0 ∧ ∃ zz : Int32, u.2 = Int32.toInt64 zz ∧ (fun (z : Int32) (q : (Nat → Nat)) => z = nI (q i) ∧ Sd T c true q (ct (ch T kc ko kv k) n) ∧ (∃ p, En p (ch T kc ko kv k) n ∧ Pm q p (ct (ch T kc ko kv k) n))) zz u.1)) (w1 := (fun q => wX ad ca T n kc ko kv k lo hi bw bb q)) E hr hlk u5 (Int32.toInt64 z5) (by exact ⟨rfl, z5, rfl, hp5⟩) hP hO hS dL_ranked_22
set_option maxHeartbeats 4000000 in
set_option maxRecDepth 100000 in
theorem wL_groups (l : Launch) (D : va_G) (ad : Nat → Nat) (ca : Nat → ClassId) (T : Nat → Nat → Int64) (n : Nat) (kc ko : Nat → Nat) (kv : Nat → Int64) (k : Nat) (lo hi : Nat → Int64) (bw bb pk : Nat → Nat) (ao : Nat) (co : ClassId) (ov : Nat → Int64) (c : Nat) (hIK : iK kc ko k) (hN : inj ad 10) (hn128 : n ≤ 128) (hiB : iB T n lo hi) (hc : c < 4) (hao : ¬ fA ad 10 ao) : Met l yL_groups (wW yL_groups cL_groups 4 (some .int) [(0, 9, 12, 19)]) (rN 5) (va_Pc [.ref (ad 0), .int (nI c), .ref ao] (pO D (tX ca) (wX ad ca T n kc ko kv k lo hi bw bb pk) ao co ov)) (va_Qi (fun z (u : (Nat → Nat) × Int64) => z = nI 0 ∧ ∃ zz : Int32, u.2 = Int32.toInt64 zz ∧ (fun (z : Int32) (q : (Nat → Nat)) => z = nI (ct (sg T c q) (ct (ch T kc ko kv k) n)) ∧ Gr (ch T kc ko kv k) T c n q) zz u.1) (fun u t => va_P D c2 ((fun q => wX ad ca T n kc ko kv k lo hi bw bb q) u.1) t.heap ∧ va_P D c2 (wO ao co (fS ov 0 u.2)) t.heap) (fO ad ao)) 0 0 (fO ad ao) := by
  refine wmet_of RL rfl (by decide) (Nat.le_of_ble_eq_true rfl) (fun p e s m below meth cd ls E hr hlk hex hB hl => ?_)
  obtain ⟨hP, hO, hK, hKO⟩ := hB
  have hl : lv_has ls 4 [(0, .ref (ad 0)), (1, .int (nI c)), (2, .ref ao)] := hl
  have hS : va_S (fO ad ao) s.heap s.heap [] := va_S.rf
  refine lv_aload_n E.1 E.2.1 dL_groups_0 rfl (lv_at hl 2 rfl) ?_
  refine lv_iconst (v := nI 0) E.1 E.2.1 dL_groups_1 rfl ?_
  refine lv_aload_n E.1 E.2.1 dL_groups_2 rfl (lv_at hl 0 rfl) ?_
  refine lv_iload_n E.1 E.2.1 dL_groups_3 rfl (lv_at hl 1 rfl) ?_
  refine cV_wi E (As := [.int (nI c)]) (rest := [.int (nI 0), .ref ao]) (cX_groups l D ad ca T n kc ko kv k lo hi bw bb pk c hIK hN hn128 hiB hc) kL_45 hK hP hS (fun _ h => Or.inl h) 0 rfl rfl rfl rfl ⟨Nat.le_of_ble_eq_true rfl, Nat.le_of_ble_eq_true rfl⟩ rfl hl.1 rfl (Nat.le_of_ble_eq_true rfl) dL_groups_4 ⟨Nat.zero_le _, Nat.zero_le _⟩ (fun z5 u5 H locs hp5 hP hsz hfr hS => ?_)
  have hO := apart_kept hO (wO_d hao) hfr
  refine lv_i2l E.1 E.2.1 dL_groups_7 rfl ?_
  refine o_put E hKO hO hP (wX_d hao) hS dL_groups_8 (fun H locs hO hP hS => ?_)
  refine lv_goto (tgt := 15) E.1 E.2.1 dL_groups_9 rfl ?_
  refine lv_iconst (v := nI 0) E.1 E.2.1 dL_groups_15 rfl ?_
  exact e_cg (S := (Nat → Nat)) (post := (fun z (u : (Nat → Nat) × Int64) => z = nI 0 ∧ ∃ zz : Int32, u.2 = Int32.toInt64 zz ∧ (fun (z : Int32) (q : (Nat → Nat)) => z = nI (ct (sg T c q) (ct (ch T kc ko kv k) n)) ∧ Gr (ch T kc ko kv k) T c n q) zz u.1)) (w1 := (fun q => wX ad ca T n kc ko kv k lo hi bw bb q)) E hr hlk u5 (Int32.toInt64 z5) (by exact ⟨rfl, z5, rfl, hp5⟩) hP hO hS dL_groups_16
set_option maxHeartbeats 4000000 in
set_option maxRecDepth 100000 in
theorem wL_group (l : Launch) (D : va_G) (ad : Nat → Nat) (ca : Nat → ClassId) (T : Nat → Nat → Int64) (n : Nat) (kc ko : Nat → Nat) (kv : Nat → Int64) (k : Nat) (lo hi : Nat → Int64) (bw bb pk : Nat → Nat) (ao : Nat) (co : ClassId) (ov : Nat → Int64) (c i w o : Nat) (hIK : iK kc ko k) (hN : inj ad 10) (hn128 : n ≤ 128) (hiB : iB T n lo hi) (hc : c < 4) (ho : o < 4) (hw : w < 5) (hi0 : i < ct (isF (ch T kc ko kv k) T c) n) (hao : ¬ fA ad 10 ao) : Met l yL_group (wW yL_group cL_group 7 (some .int) [(0, 13, 16, 19), (0, 13, 20, 21)]) (rN 5) (va_Pc [.ref (ad 0), .int (nI c), .int (nI i), .int (nI w), .int (nI o), .ref ao] (pO D (tX ca) (wX ad ca T n kc ko kv k lo hi bw bb pk) ao co ov)) (va_Qi (fun z (u : (Nat → Nat) × Int64) => z = nI 0 ∧ (fun (z : Int64) (q : (Nat → Nat)) => Gr (ch T kc ko kv k) T c n q ∧ ∃ a b, a < b ∧ b ≤ ct (ch T kc ko kv k) n ∧ sg T c q a = true ∧ ct (sg T c q) a = i ∧ (∀ j, a < j → j < b → sg T c q j = false) ∧ (b = ct (ch T kc ko kv k) n ∨ sg T c q b = true) ∧ z = (if w = 0 then T (q a) c else if w = 1 then lN (b - a) else if w = 2 then sm (fun j => T (q (a + j)) o) (b - a) else bnd (fun j => T (q (a + j)) o) (decide (w = 4)) (b - a - 1))) u.2 u.1) (fun u t => va_P D c2 ((fun q => wX ad ca T n kc ko kv k lo hi bw bb q) u.1) t.heap ∧ va_P D c2 (wO ao co (fS ov 0 u.2)) t.heap) (fO ad ao)) 0 0 (fO ad ao) := by
  refine wmet_of RL rfl (by decide) (Nat.le_of_ble_eq_true rfl) (fun p e s m below meth cd ls E hr hlk hex hB hl => ?_)
  obtain ⟨hP, hO, hK, hKO⟩ := hB
  have hl : lv_has ls 7 [(0, .ref (ad 0)), (1, .int (nI c)), (2, .int (nI i)), (3, .int (nI w)), (4, .int (nI o)), (5, .ref ao)] := hl
  have hS : va_S (fO ad ao) s.heap s.heap [] := va_S.rf
  refine lv_aload E.1 E.2.1 dL_group_0 (lv_at hl 5 rfl) ?_
  refine lv_iconst (v := nI 0) E.1 E.2.1 dL_group_2 rfl ?_
  refine lv_aload_n E.1 E.2.1 dL_group_3 rfl (lv_at hl 0 rfl) ?_
  refine lv_iload_n E.1 E.2.1 dL_group_4 rfl (lv_at hl 1 rfl) ?_
  refine lv_iload_n E.1 E.2.1 dL_group_5 rfl (lv_at hl 2 rfl) ?_
  refine lv_iload_n E.1 E.2.1 dL_group_6 rfl (lv_at hl 3 rfl) ?_
  refine lv_iload E.1 E.2.1 dL_group_7 (lv_at hl 4 rfl) ?_
  refine cV_wl E (As := [.int (nI c), .int (nI i), .int (nI w), .int (nI o)]) (rest := [.int (nI 0), .ref ao]) (cX_group l D ad ca T n kc ko kv k lo hi bw bb pk c i w o hIK hN hn128 hiB hc ho hw hi0) kL_48 hK hP hS (fun _ h => Or.inl h) 0 rfl rfl rfl rfl ⟨Nat.le_of_ble_eq_true rfl, Nat.le_of_ble_eq_true rfl⟩ rfl hl.1 rfl (Nat.le_of_ble_eq_true rfl) dL_group_9 ⟨Nat.zero_le _, Nat.zero_le _⟩ (fun z5 u5 H locs hp5 hP hsz hfr hS => ?_)
  have hO := apart_kept hO (wO_d hao) hfr
  refine o_put E hKO hO hP (wX_d hao) hS dL_group_12 (fun H locs hO hP hS => ?_)
  refine lv_goto (tgt := 24) E.1 E.2.1 dL_group_13 rfl ?_
  refine lv_iconst (v := nI 0) E.1 E.2.1 dL_group_24 rfl ?_
  exact e_cg (S := (Nat → Nat)) (post := (fun z (u : (Nat → Nat) × Int64) => z = nI 0 ∧ (fun (z : Int64) (q : (Nat → Nat)) => Gr (ch T kc ko kv k) T c n q ∧ ∃ a b, a < b ∧ b ≤ ct (ch T kc ko kv k) n ∧ sg T c q a = true ∧ ct (sg T c q) a = i ∧ (∀ j, a < j → j < b → sg T c q j = false) ∧ (b = ct (ch T kc ko kv k) n ∨ sg T c q b = true) ∧ z = (if w = 0 then T (q a) c else if w = 1 then lN (b - a) else if w = 2 then sm (fun j => T (q (a + j)) o) (b - a) else bnd (fun j => T (q (a + j)) o) (decide (w = 4)) (b - a - 1))) u.2 u.1)) (w1 := (fun q => wX ad ca T n kc ko kv k lo hi bw bb q)) E hr hlk u5 z5 (by exact ⟨rfl, hp5⟩) hP hO hS dL_group_25
set_option maxHeartbeats 4000000 in
set_option maxRecDepth 100000 in
theorem wL_pairs (l : Launch) (D : va_G) (ad : Nat → Nat) (ca : Nat → ClassId) (T : Nat → Nat → Int64) (n : Nat) (kc ko : Nat → Nat) (kv : Nat → Int64) (k : Nat) (lo hi : Nat → Int64) (bw bb pk : Nat → Nat) (ao : Nat) (co : ClassId) (ov : Nat → Int64) (c o : Nat) (hIK : iK kc ko k) (hN : inj ad 10) (hn128 : n ≤ 128) (hiB : iB T n lo hi) (hc : c < 4) (ho : o < 4) (hao : ¬ fA ad 10 ao) : Met l yL_pairs (wW yL_pairs cL_pairs 5 (some .int) [(0, 10, 13, 19)]) (rN 5) (va_Pc [.ref (ad 0), .int (nI c), .int (nI o), .ref ao] (pO D (tX ca) (wX ad ca T n kc ko kv k lo hi bw bb pk) ao co ov)) (va_Qi (fun z (u : (Nat → Nat) × Int64) => z = nI 0 ∧ ∃ zz : Int32, u.2 = Int32.toInt64 zz ∧ (fun (z : Int32) (q : (Nat → Nat)) => z = nI (sn (fun t => ct (fun j => decide (T (q j) c = T (q t) o)) t) (ct (ch T kc ko kv k) n)) ∧ En q (ch T kc ko kv k) n) zz u.1) (fun u t => va_P D c2 ((fun q => wX ad ca T n kc ko kv k lo hi bw bb q) u.1) t.heap ∧ va_P D c2 (wO ao co (fS ov 0 u.2)) t.heap) (fO ad ao)) 0 0 (fO ad ao) := by
  refine wmet_of RL rfl (by decide) (Nat.le_of_ble_eq_true rfl) (fun p e s m below meth cd ls E hr hlk hex hB hl => ?_)
  obtain ⟨hP, hO, hK, hKO⟩ := hB
  have hl : lv_has ls 5 [(0, .ref (ad 0)), (1, .int (nI c)), (2, .int (nI o)), (3, .ref ao)] := hl
  have hS : va_S (fO ad ao) s.heap s.heap [] := va_S.rf
  refine lv_aload_n E.1 E.2.1 dL_pairs_0 rfl (lv_at hl 3 rfl) ?_
  refine lv_iconst (v := nI 0) E.1 E.2.1 dL_pairs_1 rfl ?_
  refine lv_aload_n E.1 E.2.1 dL_pairs_2 rfl (lv_at hl 0 rfl) ?_
  refine lv_iload_n E.1 E.2.1 dL_pairs_3 rfl (lv_at hl 1 rfl) ?_
  refine lv_iload_n E.1 E.2.1 dL_pairs_4 rfl (lv_at hl 2 rfl) ?_
  refine cV_wi E (As := [.int (nI c), .int (nI o)]) (rest := [.int (nI 0), .ref ao]) (cX_pairs l D ad ca T n kc ko kv k lo hi bw bb pk c o hIK hN hn128 hiB hc ho) kL_52 hK hP hS (fun _ h => Or.inl h) 0 rfl rfl rfl rfl ⟨Nat.le_of_ble_eq_true rfl, Nat.le_of_ble_eq_true rfl⟩ rfl hl.1 rfl (Nat.le_of_ble_eq_true rfl) dL_pairs_5 ⟨Nat.zero_le _, Nat.zero_le _⟩ (fun z5 u5 H locs hp5 hP hsz hfr hS => ?_)
  have hO := apart_kept hO (wO_d hao) hfr
  refine lv_i2l E.1 E.2.1 dL_pairs_8 rfl ?_
  refine o_put E hKO hO hP (wX_d hao) hS dL_pairs_9 (fun H locs hO hP hS => ?_)
  refine lv_goto (tgt := 17) E.1 E.2.1 dL_pairs_10 rfl ?_
  refine lv_iconst (v := nI 0) E.1 E.2.1 dL_pairs_17 rfl ?_
  exact e_cg (S := (Nat → Nat)) (post := (fun z (u : (Nat → Nat) × Int64) => z = nI 0 ∧ ∃ zz : Int32, u.2 = Int32.toInt64 zz ∧ (fun (z : Int32) (q : (Nat → Nat)) => z = nI (sn (fun t => ct (fun j => decide (T (q j) c = T (q t) o)) t) (ct (ch T kc ko kv k) n)) ∧ En q (ch T kc ko kv k) n) zz u.1)) (w1 := (fun q => wX ad ca T n kc ko kv k lo hi bw bb q)) E hr hlk u5 (Int32.toInt64 z5) (by exact ⟨rfl, z5, rfl, hp5⟩) hP hO hS dL_pairs_18
set_option maxHeartbeats 4000000 in
set_option maxRecDepth 100000 in
theorem wL_way (l : Launch) (D : va_G) (ad : Nat → Nat) (ca : Nat → ClassId) (T : Nat → Nat → Int64) (n : Nat) (kc ko : Nat → Nat) (kv : Nat → Int64) (k : Nat) (lo hi : Nat → Int64) (bw bb pk : Nat → Nat) (ao : Nat) (co : ClassId) (ov : Nat → Int64) (b c : Nat) (hn128 : n ≤ 128) (hb : b < n / 16) (hc : c < 4) (hao : ¬ fA ad 10 ao) : Met l yL_way (wW yL_way cL_way 5 (some .int) [(0, 10, 13, 19), (0, 10, 17, 21)]) (rN 3) (va_Pc [.ref (ad 0), .int (nI b), .int (nI c), .ref ao] (pO D (tX ca) (wX ad ca T n kc ko kv k lo hi bw bb pk) ao co ov)) (va_Qi (fun z (u : Unit × Int64) => z = nI 0 ∧ u.2 = Int32.toInt64 (nI (bw (b * 4 + c)))) (fun u t => va_P D c2 ((fun _ => wX ad ca T n kc ko kv k lo hi bw bb pk) u.1) t.heap ∧ va_P D c2 (wO ao co (fS ov 0 u.2)) t.heap) (fO ad ao)) 0 0 (fO ad ao) := by
  refine wmet_of RL rfl (by decide) (Nat.le_of_ble_eq_true rfl) (fun p e s m below meth cd ls E hr hlk hex hB hl => ?_)
  obtain ⟨hP, hO, hK, hKO⟩ := hB
  have hl : lv_has ls 5 [(0, .ref (ad 0)), (1, .int (nI b)), (2, .int (nI c)), (3, .ref ao)] := hl
  have hS : va_S (fO ad ao) s.heap s.heap [] := va_S.rf
  refine lv_aload_n E.1 E.2.1 dL_way_0 rfl (lv_at hl 3 rfl) ?_
  refine lv_iconst (v := nI 0) E.1 E.2.1 dL_way_1 rfl ?_
  refine lv_aload_n E.1 E.2.1 dL_way_2 rfl (lv_at hl 0 rfl) ?_
  refine lv_iload_n E.1 E.2.1 dL_way_3 rfl (lv_at hl 1 rfl) ?_
  refine lv_iload_n E.1 E.2.1 dL_way_4 rfl (lv_at hl 2 rfl) ?_
  refine cV_i E (As := [.int (nI b), .int (nI c)]) (rest := [.int (nI 0), .ref ao]) (cX_way l D ad ca T n kc ko kv k lo hi bw bb pk b c hn128 hb hc) kL_55 hK hP 0 rfl rfl rfl rfl ⟨Nat.le_of_ble_eq_true rfl, Nat.le_of_ble_eq_true rfl⟩ rfl hl.1 rfl (Nat.le_of_ble_eq_true rfl) dL_way_5 ⟨Nat.zero_le _, Nat.zero_le _⟩ ?_
  refine lv_i2l E.1 E.2.1 dL_way_8 rfl ?_
  refine o_put E hKO hO hP (wX_d hao) hS dL_way_9 (fun H locs hO hP hS => ?_)
  refine lv_goto (tgt := 21) E.1 E.2.1 dL_way_10 rfl ?_
  refine lv_iconst (v := nI 0) E.1 E.2.1 dL_way_21 rfl ?_
  exact e_cg (S := Unit) (post := (fun z (u : Unit × Int64) => z = nI 0 ∧ u.2 = Int32.toInt64 (nI (bw (b * 4 + c))))) (w1 := (fun _ => wX ad ca T n kc ko kv k lo hi bw bb pk)) E hr hlk () (Int32.toInt64 (nI (bw (b * 4 + c)))) (by exact ⟨rfl, rfl⟩) hP hO hS dL_way_22
set_option maxHeartbeats 4000000 in
set_option maxRecDepth 100000 in
theorem wL_bits (l : Launch) (D : va_G) (ad : Nat → Nat) (ca : Nat → ClassId) (T : Nat → Nat → Int64) (n : Nat) (kc ko : Nat → Nat) (kv : Nat → Int64) (k : Nat) (lo hi : Nat → Int64) (bw bb pk : Nat → Nat) (ao : Nat) (co : ClassId) (ov : Nat → Int64) (b c : Nat) (hn128 : n ≤ 128) (hb : b < n / 16) (hc : c < 4) (hao : ¬ fA ad 10 ao) : Met l yL_bits (wW yL_bits cL_bits 5 (some .int) [(0, 10, 13, 19), (0, 10, 17, 21)]) (rN 3) (va_Pc [.ref (ad 0), .int (nI b), .int (nI c), .ref ao] (pO D (tX ca) (wX ad ca T n kc ko kv k lo hi bw bb pk) ao co ov)) (va_Qi (fun z (u : Unit × Int64) => z = nI 0 ∧ u.2 = Int32.toInt64 (nI (bb (b * 4 + c)))) (fun u t => va_P D c2 ((fun _ => wX ad ca T n kc ko kv k lo hi bw bb pk) u.1) t.heap ∧ va_P D c2 (wO ao co (fS ov 0 u.2)) t.heap) (fO ad ao)) 0 0 (fO ad ao) := by
  refine wmet_of RL rfl (by decide) (Nat.le_of_ble_eq_true rfl) (fun p e s m below meth cd ls E hr hlk hex hB hl => ?_)
  obtain ⟨hP, hO, hK, hKO⟩ := hB
  have hl : lv_has ls 5 [(0, .ref (ad 0)), (1, .int (nI b)), (2, .int (nI c)), (3, .ref ao)] := hl
  have hS : va_S (fO ad ao) s.heap s.heap [] := va_S.rf
  refine lv_aload_n E.1 E.2.1 dL_bits_0 rfl (lv_at hl 3 rfl) ?_
  refine lv_iconst (v := nI 0) E.1 E.2.1 dL_bits_1 rfl ?_
  refine lv_aload_n E.1 E.2.1 dL_bits_2 rfl (lv_at hl 0 rfl) ?_
  refine lv_iload_n E.1 E.2.1 dL_bits_3 rfl (lv_at hl 1 rfl) ?_
  refine lv_iload_n E.1 E.2.1 dL_bits_4 rfl (lv_at hl 2 rfl) ?_
  refine cV_i E (As := [.int (nI b), .int (nI c)]) (rest := [.int (nI 0), .ref ao]) (cX_bits l D ad ca T n kc ko kv k lo hi bw bb pk b c hn128 hb hc) kL_58 hK hP 0 rfl rfl rfl rfl ⟨Nat.le_of_ble_eq_true rfl, Nat.le_of_ble_eq_true rfl⟩ rfl hl.1 rfl (Nat.le_of_ble_eq_true rfl) dL_bits_5 ⟨Nat.zero_le _, Nat.zero_le _⟩ ?_
  refine lv_i2l E.1 E.2.1 dL_bits_8 rfl ?_
  refine o_put E hKO hO hP (wX_d hao) hS dL_bits_9 (fun H locs hO hP hS => ?_)
  refine lv_goto (tgt := 21) E.1 E.2.1 dL_bits_10 rfl ?_
  refine lv_iconst (v := nI 0) E.1 E.2.1 dL_bits_21 rfl ?_
  exact e_cg (S := Unit) (post := (fun z (u : Unit × Int64) => z = nI 0 ∧ u.2 = Int32.toInt64 (nI (bb (b * 4 + c))))) (w1 := (fun _ => wX ad ca T n kc ko kv k lo hi bw bb pk)) E hr hlk () (Int32.toInt64 (nI (bb (b * 4 + c)))) (by exact ⟨rfl, rfl⟩) hP hO hS dL_bits_22
