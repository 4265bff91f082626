/-! The law's wrappers, where the hall throws: laid by program. -/
set_option maxHeartbeats 4000000 in
set_option maxRecDepth 100000 in
theorem vL_append (l : Launch) (D : va_G) (ad : Nat → Nat) (ca : Nat → ClassId) (T : Nat → Nat → Int64) (n : Nat) (kc ko : Nat → Nat) (kv : Nat → Int64) (k : Nat) (lo hi : Nat → Int64) (bw bb pk : Nat → Nat) (ao : Nat) (co : ClassId) (ov : Nat → Int64) (lz : Nat) (sa : Nat → Nat) (a0 b0 c0 : Int32) (d0 : Int64) (hn : n = 128) (hao : ¬ fA ad 10 ao) (hlt : l.stackTraces = false) (hlo : ∀ q, fA ad 10 q → lz ≤ q) : Met l yL_append (wW yL_append cL_append 8 (some .int) [(0, 14, 17, 13)]) (rX 1) (va_Pc [.ref (ad 0), .int a0, .int b0, .int c0, .long d0, .ref ao] (pOZ D (tX ca) (wX ad ca T n kc ko kv k lo hi bw bb pk) ao co ov lz sa)) (va_Qi (fun z (_ : Unit) => z = nI 1) (fun u t => va_P D c2 ((fun _ => wX ad ca T n kc ko kv k lo hi bw bb pk) u) t.heap ∧ va_P D c2 (wO ao co ov) t.heap) (fO ad ao)) 1 6 (fun q => lz ≤ q) := by
  refine wmet_of RL rfl (by decide) (Nat.le_of_ble_eq_true rfl) (fun p e s m below meth cd ls E hr hlk hex hB hl => ?_)
  obtain ⟨hP, hO, hK, hKO, hZ⟩ := hB
  have hl : lv_has ls 8 [(0, .ref (ad 0)), (1, .int a0), (2, .int b0), (3, .int c0), (4, .long d0), (6, .ref ao)] := hl
  refine lv_aload E.1 E.2.1 dL_append_0 (lv_at hl 5 rfl) ?_
  refine lv_iconst (v := nI 0) E.1 E.2.1 dL_append_2 rfl ?_
  refine lv_aload_n E.1 E.2.1 dL_append_3 rfl (lv_at hl 0 rfl) ?_
  refine lv_iload_n E.1 E.2.1 dL_append_4 rfl (lv_at hl 1 rfl) ?_
  refine lv_iload_n E.1 E.2.1 dL_append_5 rfl (lv_at hl 2 rfl) ?_
  refine lv_iload_n E.1 E.2.1 dL_append_6 rfl (lv_at hl 3 rfl) ?_
  refine lv_lload E.1 E.2.1 dL_append_7 (lv_at hl 4 rfl) ?_
  refine x_got (xrun_V E (As := [.int a0, .int b0, .int c0, .long d0]) (rest := [.int (nI 0), .ref ao]) (xX_append l D ad ca T n kc ko kv k lo hi bw bb pk lz sa a0 b0 c0 d0 hn hlt hlo) kL_7 rfl rfl ⟨Nat.le_of_ble_eq_true rfl, Nat.le_of_ble_eq_true rfl⟩ ⟨(preZ hK hP hZ (.ref (ad 0) :: [.int a0, .int b0, .int c0, .long d0])).1, va_recv hK hP rfl (q0 := 0) rfl, (preZ hK hP hZ (.ref (ad 0) :: [.int a0, .int b0, .int c0, .long d0])).2⟩ rfl hl.1 rfl (Nat.le_of_ble_eq_true rfl) dL_append_9 ⟨Nat.le_of_ble_eq_true rfl, Nat.le_of_ble_eq_true rfl⟩) (fun ce q9 u5 H locs hP hsz hfr hlc hce hcv hcl => ?_)
  have hO := apart_kept hO (wO_d hao) hfr
  refine vx_catch (name := cISE) E.2.2.2.1 [] ⟨0, 14, 17, 13⟩ [] (by rw [hex]; rfl) (fun z hz => nomatch hz) rfl (by decide) (E.2.2.2.2 _ clL_13) (va_Nw.use rfl (hZ.2.2.1 _ bc_ISE)) hce hcv hcl ?_
  refine lv_astore (lv' := [(7, .ref q9), (0, .ref (ad 0)), (1, .int a0), (2, .int b0), (3, .int c0), (4, .long d0), (6, .ref ao)]) E.1 E.2.1 dL_append_17 hl (by decide) rfl (fun ls hl => ?_)
  refine lv_iconst (v := nI 1) E.1 E.2.1 dL_append_19 rfl ?_
  exact e_cx (S := Unit) (post := fun z (_ : Unit) => z = nI 1) (w1 := (fun _ => wX ad ca T n kc ko kv k lo hi bw bb pk)) E hr hlk u5 rfl hP hO hsz hfr hlc dL_append_20
set_option maxHeartbeats 4000000 in
set_option maxRecDepth 100000 in
theorem vL_cell1 (l : Launch) (D : va_G) (ad : Nat → Nat) (ca : Nat → ClassId) (T : Nat → Nat → Int64) (n : Nat) (kc ko : Nat → Nat) (kv : Nat → Int64) (k : Nat) (lo hi : Nat → Int64) (bw bb pk : Nat → Nat) (ao : Nat) (co : ClassId) (ov : Nat → Int64) (lz : Nat) (sa : Nat → Nat) (y x : Int32) (hx : x < 0 ∨ nI 4 ≤ x) (hao : ¬ fA ad 10 ao) (hlt : l.stackTraces = false) (hlo : ∀ q, fA ad 10 q → lz ≤ q) : Met l yL_cell (wW yL_cell cL_cell 5 (some .int) [(0, 9, 12, 19), (0, 9, 16, 21)]) (rX 2) (va_Pc [.ref (ad 0), .int y, .int x, .ref ao] (pOZ D (tX ca) (wX ad ca T n kc ko kv k lo hi bw bb pk) ao co ov lz sa)) (va_Qi (fun z (_ : Unit) => z = nI 1) (fun u t => va_P D c2 ((fun _ => wX ad ca T n kc ko kv k lo hi bw bb pk) u) t.heap ∧ va_P D c2 (wO ao co ov) t.heap) (fO ad ao)) 1 6 (fun q => lz ≤ q) := by
  refine wmet_of RL rfl (by decide) (Nat.le_of_ble_eq_true rfl) (fun p e s m below meth cd ls E hr hlk hex hB hl => ?_)
  obtain ⟨hP, hO, hK, hKO, hZ⟩ := hB
  have hl : lv_has ls 5 [(0, .ref (ad 0)), (1, .int y), (2, .int x), (3, .ref ao)] := hl
  refine lv_aload_n E.1 E.2.1 dL_cell_0 rfl (lv_at hl 3 rfl) ?_
  refine lv_iconst (v := nI 0) E.1 E.2.1 dL_cell_1 rfl ?_
  refine lv_aload_n E.1 E.2.1 dL_cell_2 rfl (lv_at hl 0 rfl) ?_
  refine lv_iload_n E.1 E.2.1 dL_cell_3 rfl (lv_at hl 1 rfl) ?_
  refine lv_iload_n E.1 E.2.1 dL_cell_4 rfl (lv_at hl 2 rfl) ?_
  refine x_got (xrun_V E (As := [.int y, .int x]) (rest := [.int (nI 0), .ref ao]) (xX_cell1 l D ad ca T n kc ko kv k lo hi bw bb pk lz sa y x hx hlt hlo) kL_15 rfl rfl ⟨Nat.le_of_ble_eq_true rfl, Nat.le_of_ble_eq_true rfl⟩ ⟨(preZ hK hP hZ (.ref (ad 0) :: [.int y, .int x])).1, va_recv hK hP rfl (q0 := 0) rfl, (preZ hK hP hZ (.ref (ad 0) :: [.int y, .int x])).2⟩ rfl hl.1 rfl (Nat.le_of_ble_eq_true rfl) dL_cell_5 ⟨Nat.le_of_ble_eq_true rfl, Nat.le_of_ble_eq_true rfl⟩) (fun ce q9 u5 H locs hP hsz hfr hlc hce hcv hcl => ?_)
  have hO := apart_kept hO (wO_d hao) hfr
  refine vx_catch (name := cIAE) E.2.2.2.1 [] ⟨0, 9, 12, 19⟩ [⟨0, 9, 16, 21⟩] (by rw [hex]; rfl) (fun z hz => nomatch hz) rfl (by decide) (E.2.2.2.2 _ clL_19) (va_Nw.use rfl (hZ.2.2.1 _ bc_IAE)) hce hcv hcl ?_
  refine lv_astore (lv' := [(4, .ref q9), (0, .ref (ad 0)), (1, .int y), (2, .int x), (3, .ref ao)]) E.1 E.2.1 dL_cell_12 hl (by decide) rfl (fun ls hl => ?_)
  refine lv_iconst (v := nI 1) E.1 E.2.1 dL_cell_14 rfl ?_
  exact e_cx (S := Unit) (post := fun z (_ : Unit) => z = nI 1) (w1 := (fun _ => wX ad ca T n kc ko kv k lo hi bw bb pk)) E hr hlk u5 rfl hP hO hsz hfr hlc dL_cell_15
set_option maxHeartbeats 4000000 in
set_option maxRecDepth 100000 in
theorem vL_cell2 (l : Launch) (D : va_G) (ad : Nat → Nat) (ca : Nat → ClassId) (T : Nat → Nat → Int64) (n : Nat) (kc ko : Nat → Nat) (kv : Nat → Int64) (k : Nat) (lo hi : Nat → Int64) (bw bb pk : Nat → Nat) (ao : Nat) (co : ClassId) (ov : Nat → Int64) (lz : Nat) (sa : Nat → Nat) (y : Int32) (c : Nat) (hc : c < 4) (hy : y < 0 ∨ nI n ≤ y) (hao : ¬ fA ad 10 ao) (hlt : l.stackTraces = false) (hlo : ∀ q, fA ad 10 q → lz ≤ q) : Met l yL_cell (wW yL_cell cL_cell 5 (some .int) [(0, 9, 12, 19), (0, 9, 16, 21)]) (rX 2) (va_Pc [.ref (ad 0), .int y, .int (nI c), .ref ao] (pOZ D (tX ca) (wX ad ca T n kc ko kv k lo hi bw bb pk) ao co ov lz sa)) (va_Qi (fun z (_ : Unit) => z = nI 2) (fun u t => va_P D c2 ((fun _ => wX ad ca T n kc ko kv k lo hi bw bb pk) u) t.heap ∧ va_P D c2 (wO ao co ov) t.heap) (fO ad ao)) 1 6 (fun q => lz ≤ q) := by
  refine wmet_of RL rfl (by decide) (Nat.le_of_ble_eq_true rfl) (fun p e s m below meth cd ls E hr hlk hex hB hl => ?_)
  obtain ⟨hP, hO, hK, hKO, hZ⟩ := hB
  have hl : lv_has ls 5 [(0, .ref (ad 0)), (1, .int y), (2, .int (nI c)), (3, .ref ao)] := hl
  refine lv_aload_n E.1 E.2.1 dL_cell_0 rfl (lv_at hl 3 rfl) ?_
  refine lv_iconst (v := nI 0) E.1 E.2.1 dL_cell_1 rfl ?_
  refine lv_aload_n E.1 E.2.1 dL_cell_2 rfl (lv_at hl 0 rfl) ?_
  refine lv_iload_n E.1 E.2.1 dL_cell_3 rfl (lv_at hl 1 rfl) ?_
  refine lv_iload_n E.1 E.2.1 dL_cell_4 rfl (lv_at hl 2 rfl) ?_
  refine x_got (xrun_V E (As := [.int y, .int (nI c)]) (rest := [.int (nI 0), .ref ao]) (xX_cell2 l D ad ca T n kc ko kv k lo hi bw bb pk lz sa y c hc hy hlt hlo) kL_15 rfl rfl ⟨Nat.le_of_ble_eq_true rfl, Nat.le_of_ble_eq_true rfl⟩ ⟨(preZ hK hP hZ (.ref (ad 0) :: [.int y, .int (nI c)])).1, va_recv hK hP rfl (q0 := 0) rfl, (preZ hK hP hZ (.ref (ad 0) :: [.int y, .int (nI c)])).2⟩ rfl hl.1 rfl (Nat.le_of_ble_eq_true rfl) dL_cell_5 ⟨Nat.le_of_ble_eq_true rfl, Nat.le_of_ble_eq_true rfl⟩) (fun ce q9 u5 H locs hP hsz hfr hlc hce hcv hcl => ?_)
  have hO := apart_kept hO (wO_d hao) hfr
  refine vx_catch (name := cIOB) E.2.2.2.1 [⟨0, 9, 12, 19⟩] ⟨0, 9, 16, 21⟩ [] (by rw [hex]; rfl) (fun z hz => by rw [List.mem_singleton.mp hz]; exact Or.inr ⟨by decide, cIAE, E.2.2.2.2 _ clL_19, hZ.2.2.2.2.1⟩) rfl (by decide) (E.2.2.2.2 _ clL_21) (va_Nw.use rfl (hZ.2.2.1 _ bc_IOB)) hce hcv hcl ?_
  refine lv_astore (lv' := [(4, .ref q9), (0, .ref (ad 0)), (1, .int y), (2, .int (nI c)), (3, .ref ao)]) E.1 E.2.1 dL_cell_16 hl (by decide) rfl (fun ls hl => ?_)
  refine lv_iconst (v := nI 2) E.1 E.2.1 dL_cell_18 rfl ?_
  exact e_cx (S := Unit) (post := fun z (_ : Unit) => z = nI 2) (w1 := (fun _ => wX ad ca T n kc ko kv k lo hi bw bb pk)) E hr hlk u5 rfl hP hO hsz hfr hlc dL_cell_19
set_option maxHeartbeats 4000000 in
set_option maxRecDepth 100000 in
theorem vL_where1 (l : Launch) (D : va_G) (ad : Nat → Nat) (ca : Nat → ClassId) (T : Nat → Nat → Int64) (n : Nat) (kc ko : Nat → Nat) (kv : Nat → Int64) (k : Nat) (lo hi : Nat → Int64) (bw bb pk : Nat → Nat) (ao : Nat) (co : ClassId) (ov : Nat → Int64) (lz : Nat) (sa : Nat → Nat) (x y : Int32) (v : Int64) (hx : x < 0 ∨ nI 4 ≤ x) (hao : ¬ fA ad 10 ao) (hlt : l.stackTraces = false) (hlo : ∀ q, fA ad 10 q → lz ≤ q) : Met l yL_where (wW yL_where cL_where 7 (some .int) [(0, 12, 15, 19), (0, 12, 19, 13)]) (rX 2) (va_Pc [.ref (ad 0), .int x, .int y, .long v, .ref ao] (pOZ D (tX ca) (wX ad ca T n kc ko kv k lo hi bw bb pk) ao co ov lz sa)) (va_Qi (fun z (_ : Unit) => z = nI 1) (fun u t => va_P D c2 ((fun _ => wX ad ca T n kc ko kv k lo hi bw bb pk) u) t.heap ∧ va_P D c2 (wO ao co ov) t.heap) (fO ad ao)) 1 6 (fun q => lz ≤ q) := by
  refine wmet_of RL rfl (by decide) (Nat.le_of_ble_eq_true rfl) (fun p e s m below meth cd ls E hr hlk hex hB hl => ?_)
  obtain ⟨hP, hO, hK, hKO, hZ⟩ := hB
  have hl : lv_has ls 7 [(0, .ref (ad 0)), (1, .int x), (2, .int y), (3, .long v), (5, .ref ao)] := hl
  refine lv_aload E.1 E.2.1 dL_where_0 (lv_at hl 4 rfl) ?_
  refine lv_iconst (v := nI 0) E.1 E.2.1 dL_where_2 rfl ?_
  refine lv_aload_n E.1 E.2.1 dL_where_3 rfl (lv_at hl 0 rfl) ?_
  refine lv_iload_n E.1 E.2.1 dL_where_4 rfl (lv_at hl 1 rfl) ?_
  refine lv_iload_n E.1 E.2.1 dL_where_5 rfl (lv_at hl 2 rfl) ?_
  refine lv_lload_n E.1 E.2.1 dL_where_6 rfl (lv_at hl 3 rfl) ?_
  refine x_got (xrun_V E (As := [.int x, .int y, .long v]) (rest := [.int (nI 0), .ref ao]) (xX_where1 l D ad ca T n kc ko kv k lo hi bw bb pk lz sa x y v hx hlt hlo) kL_23 rfl rfl ⟨Nat.le_of_ble_eq_true rfl, Nat.le_of_ble_eq_true rfl⟩ ⟨(preZ hK hP hZ (.ref (ad 0) :: [.int x, .int y, .long v])).1, va_recv hK hP rfl (q0 := 0) rfl, (preZ hK hP hZ (.ref (ad 0) :: [.int x, .int y, .long v])).2⟩ rfl hl.1 rfl (Nat.le_of_ble_eq_true rfl) dL_where_7 ⟨Nat.le_of_ble_eq_true rfl, Nat.le_of_ble_eq_true rfl⟩) (fun ce q9 u5 H locs hP hsz hfr hlc hce hcv hcl => ?_)
  have hO := apart_kept hO (wO_d hao) hfr
  refine vx_catch (name := cIAE) E.2.2.2.1 [] ⟨0, 12, 15, 19⟩ [⟨0, 12, 19, 13⟩] (by rw [hex]; rfl) (fun z hz => nomatch hz) rfl (by decide) (E.2.2.2.2 _ clL_19) (va_Nw.use rfl (hZ.2.2.1 _ bc_IAE)) hce hcv hcl ?_
  refine lv_astore (lv' := [(6, .ref q9), (0, .ref (ad 0)), (1, .int x), (2, .int y), (3, .long v), (5, .ref ao)]) E.1 E.2.1 dL_where_15 hl (by decide) rfl (fun ls hl => ?_)
  refine lv_iconst (v := nI 1) E.1 E.2.1 dL_where_17 rfl ?_
  exact e_cx (S := Unit) (post := fun z (_ : Unit) => z = nI 1) (w1 := (fun _ => wX ad ca T n kc ko kv k lo hi bw bb pk)) E hr hlk u5 rfl hP hO hsz hfr hlc dL_where_18
set_option maxHeartbeats 4000000 in
set_option maxRecDepth 100000 in
theorem vL_where1o (l : Launch) (D : va_G) (ad : Nat → Nat) (ca : Nat → ClassId) (T : Nat → Nat → Int64) (n : Nat) (kc ko : Nat → Nat) (kv : Nat → Int64) (k : Nat) (lo hi : Nat → Int64) (bw bb pk : Nat → Nat) (ao : Nat) (co : ClassId) (ov : Nat → Int64) (lz : Nat) (sa : Nat → Nat) (c : Nat) (y : Int32) (v : Int64) (hc : c < 4) (hy : y < 0 ∨ nI 5 < y) (hao : ¬ fA ad 10 ao) (hlt : l.stackTraces = false) (hlo : ∀ q, fA ad 10 q → lz ≤ q) : Met l yL_where (wW yL_where cL_where 7 (some .int) [(0, 12, 15, 19), (0, 12, 19, 13)]) (rX 2) (va_Pc [.ref (ad 0), .int (nI c), .int y, .long v, .ref ao] (pOZ D (tX ca) (wX ad ca T n kc ko kv k lo hi bw bb pk) ao co ov lz sa)) (va_Qi (fun z (_ : Unit) => z = nI 1) (fun u t => va_P D c2 ((fun _ => wX ad ca T n kc ko kv k lo hi bw bb pk) u) t.heap ∧ va_P D c2 (wO ao co ov) t.heap) (fO ad ao)) 1 6 (fun q => lz ≤ q) := by
  refine wmet_of RL rfl (by decide) (Nat.le_of_ble_eq_true rfl) (fun p e s m below meth cd ls E hr hlk hex hB hl => ?_)
  obtain ⟨hP, hO, hK, hKO, hZ⟩ := hB
  have hl : lv_has ls 7 [(0, .ref (ad 0)), (1, .int (nI c)), (2, .int y), (3, .long v), (5, .ref ao)] := hl
  refine lv_aload E.1 E.2.1 dL_where_0 (lv_at hl 4 rfl) ?_
  refine lv_iconst (v := nI 0) E.1 E.2.1 dL_where_2 rfl ?_
  refine lv_aload_n E.1 E.2.1 dL_where_3 rfl (lv_at hl 0 rfl) ?_
  refine lv_iload_n E.1 E.2.1 dL_where_4 rfl (lv_at hl 1 rfl) ?_
  refine lv_iload_n E.1 E.2.1 dL_where_5 rfl (lv_at hl 2 rfl) ?_
  refine lv_lload_n E.1 E.2.1 dL_where_6 rfl (lv_at hl 3 rfl) ?_
  refine x_got (xrun_V E (As := [.int (nI c), .int y, .long v]) (rest := [.int (nI 0), .ref ao]) (xX_where1o l D ad ca T n kc ko kv k lo hi bw bb pk lz sa c y v hc hy hlt hlo) kL_23 rfl rfl ⟨Nat.le_of_ble_eq_true rfl, Nat.le_of_ble_eq_true rfl⟩ ⟨(preZ hK hP hZ (.ref (ad 0) :: [.int (nI c), .int y, .long v])).1, va_recv hK hP rfl (q0 := 0) rfl, (preZ hK hP hZ (.ref (ad 0) :: [.int (nI c), .int y, .long v])).2⟩ rfl hl.1 rfl (Nat.le_of_ble_eq_true rfl) dL_where_7 ⟨Nat.le_of_ble_eq_true rfl, Nat.le_of_ble_eq_true rfl⟩) (fun ce q9 u5 H locs hP hsz hfr hlc hce hcv hcl => ?_)
  have hO := apart_kept hO (wO_d hao) hfr
  refine vx_catch (name := cIAE) E.2.2.2.1 [] ⟨0, 12, 15, 19⟩ [⟨0, 12, 19, 13⟩] (by rw [hex]; rfl) (fun z hz => nomatch hz) rfl (by decide) (E.2.2.2.2 _ clL_19) (va_Nw.use rfl (hZ.2.2.1 _ bc_IAE)) hce hcv hcl ?_
  refine lv_astore (lv' := [(6, .ref q9), (0, .ref (ad 0)), (1, .int (nI c)), (2, .int y), (3, .long v), (5, .ref ao)]) E.1 E.2.1 dL_where_15 hl (by decide) rfl (fun ls hl => ?_)
  refine lv_iconst (v := nI 1) E.1 E.2.1 dL_where_17 rfl ?_
  exact e_cx (S := Unit) (post := fun z (_ : Unit) => z = nI 1) (w1 := (fun _ => wX ad ca T n kc ko kv k lo hi bw bb pk)) E hr hlk u5 rfl hP hO hsz hfr hlc dL_where_18
set_option maxHeartbeats 4000000 in
set_option maxRecDepth 100000 in
theorem vL_where2 (l : Launch) (D : va_G) (ad : Nat → Nat) (ca : Nat → ClassId) (T : Nat → Nat → Int64) (n : Nat) (kc ko : Nat → Nat) (kv : Nat → Int64) (k : Nat) (lo hi : Nat → Int64) (bw bb pk : Nat → Nat) (ao : Nat) (co : ClassId) (ov : Nat → Int64) (lz : Nat) (sa : Nat → Nat) (c o : Nat) (v : Int64) (hk : k = 3) (hc : c < 4) (ho : o < 6) (hao : ¬ fA ad 10 ao) (hlt : l.stackTraces = false) (hlo : ∀ q, fA ad 10 q → lz ≤ q) : Met l yL_where (wW yL_where cL_where 7 (some .int) [(0, 12, 15, 19), (0, 12, 19, 13)]) (rX 2) (va_Pc [.ref (ad 0), .int (nI c), .int (nI o), .long v, .ref ao] (pOZ D (tX ca) (wX ad ca T n kc ko kv k lo hi bw bb pk) ao co ov lz sa)) (va_Qi (fun z (_ : Unit) => z = nI 2) (fun u t => va_P D c2 ((fun _ => wX ad ca T n kc ko kv k lo hi bw bb pk) u) t.heap ∧ va_P D c2 (wO ao co ov) t.heap) (fO ad ao)) 1 6 (fun q => lz ≤ q) := by
  refine wmet_of RL rfl (by decide) (Nat.le_of_ble_eq_true rfl) (fun p e s m below meth cd ls E hr hlk hex hB hl => ?_)
  obtain ⟨hP, hO, hK, hKO, hZ⟩ := hB
  have hl : lv_has ls 7 [(0, .ref (ad 0)), (1, .int (nI c)), (2, .int (nI o)), (3, .long v), (5, .ref ao)] := hl
  refine lv_aload E.1 E.2.1 dL_where_0 (lv_at hl 4 rfl) ?_
  refine lv_iconst (v := nI 0) E.1 E.2.1 dL_where_2 rfl ?_
  refine lv_aload_n E.1 E.2.1 dL_where_3 rfl (lv_at hl 0 rfl) ?_
  refine lv_iload_n E.1 E.2.1 dL_where_4 rfl (lv_at hl 1 rfl) ?_
  refine lv_iload_n E.1 E.2.1 dL_where_5 rfl (lv_at hl 2 rfl) ?_
  refine lv_lload_n E.1 E.2.1 dL_where_6 rfl (lv_at hl 3 rfl) ?_
  refine x_got (xrun_V E (As := [.int (nI c), .int (nI o), .long v]) (rest := [.int (nI 0), .ref ao]) (xX_where2 l D ad ca T n kc ko kv k lo hi bw bb pk lz sa c o v hk hc ho hlt hlo) kL_23 rfl rfl ⟨Nat.le_of_ble_eq_true rfl, Nat.le_of_ble_eq_true rfl⟩ ⟨(preZ hK hP hZ (.ref (ad 0) :: [.int (nI c), .int (nI o), .long v])).1, va_recv hK hP rfl (q0 := 0) rfl, (preZ hK hP hZ (.ref (ad 0) :: [.int (nI c), .int (nI o), .long v])).2⟩ rfl hl.1 rfl (Nat.le_of_ble_eq_true rfl) dL_where_7 ⟨Nat.le_of_ble_eq_true rfl, Nat.le_of_ble_eq_true rfl⟩) (fun ce q9 u5 H locs hP hsz hfr hlc hce hcv hcl => ?_)
  have hO := apart_kept hO (wO_d hao) hfr
  refine vx_catch (name := cISE) E.2.2.2.1 [⟨0, 12, 15, 19⟩] ⟨0, 12, 19, 13⟩ [] (by rw [hex]; rfl) (fun z hz => by rw [List.mem_singleton.mp hz]; exact Or.inr ⟨by decide, cIAE, E.2.2.2.2 _ clL_19, hZ.2.2.2.2.2.1⟩) rfl (by decide) (E.2.2.2.2 _ clL_13) (va_Nw.use rfl (hZ.2.2.1 _ bc_ISE)) hce hcv hcl ?_
  refine lv_astore (lv' := [(6, .ref q9), (0, .ref (ad 0)), (1, .int (nI c)), (2, .int (nI o)), (3, .long v), (5, .ref ao)]) E.1 E.2.1 dL_where_19 hl (by decide) rfl (fun ls hl => ?_)
  refine lv_iconst (v := nI 2) E.1 E.2.1 dL_where_21 rfl ?_
  exact e_cx (S := Unit) (post := fun z (_ : Unit) => z = nI 2) (w1 := (fun _ => wX ad ca T n kc ko kv k lo hi bw bb pk)) E hr hlk u5 rfl hP hO hsz hfr hlc dL_where_22
set_option maxHeartbeats 4000000 in
set_option maxRecDepth 100000 in
theorem vL_row1 (l : Launch) (D : va_G) (ad : Nat → Nat) (ca : Nat → ClassId) (T : Nat → Nat → Int64) (n : Nat) (kc ko : Nat → Nat) (kv : Nat → Int64) (k : Nat) (lo hi : Nat → Int64) (bw bb pk : Nat → Nat) (ao : Nat) (co : ClassId) (ov : Nat → Int64) (lz : Nat) (sa : Nat → Nat) (y : Int32) (hIK : iK kc ko k) (hN : inj ad 10) (hn128 : n ≤ 128) (hiB : iB T n lo hi) (hy : y < 0 ∨ nI (ct (ch T kc ko kv k) n) ≤ y) (hao : ¬ fA ad 10 ao) (hlt : l.stackTraces = false) (hlo : ∀ q, fA ad 10 q → lz ≤ q) : Met l yL_row (wW yL_row cL_row 4 (some .int) [(0, 9, 12, 21)]) (rX 3) (va_Pc [.ref (ad 0), .int y, .ref ao] (pOZ D (tX ca) (wX ad ca T n kc ko kv k lo hi bw bb pk) ao co ov lz sa)) (va_Qi (fun z (_ : (Nat → Nat)) => z = nI 1) (fun u t => va_P D c2 ((fun q => wX ad ca T n kc ko kv k lo hi bw bb q) u) t.heap ∧ va_P D c2 (wO ao co ov) t.heap) (fO ad ao)) 1 6 (fun q => lz ≤ q) := by
  refine wmet_of RL rfl (by decide) (Nat.le_of_ble_eq_true rfl) (fun p e s m below meth cd ls E hr hlk hex hB hl => ?_)
  obtain ⟨hP, hO, hK, hKO, hZ⟩ := hB
  have hl : lv_has ls 4 [(0, .ref (ad 0)), (1, .int y), (2, .ref ao)] := hl
  refine lv_aload_n E.1 E.2.1 dL_row_0 rfl (lv_at hl 2 rfl) ?_
  refine lv_iconst (v := nI 0) E.1 E.2.1 dL_row_1 rfl ?_
  refine lv_aload_n E.1 E.2.1 dL_row_2 rfl (lv_at hl 0 rfl) ?_
  refine lv_iload_n E.1 E.2.1 dL_row_3 rfl (lv_at hl 1 rfl) ?_
  refine x_got (xrun_V E (As := [.int y]) (rest := [.int (nI 0), .ref ao]) (xX_row1 l D ad ca T n kc ko kv k lo hi bw bb pk lz sa y hIK hN hn128 hiB hy hlt hlo) kL_27 rfl rfl ⟨Nat.le_of_ble_eq_true rfl, Nat.le_of_ble_eq_true rfl⟩ ⟨(preZ hK hP hZ (.ref (ad 0) :: [.int y])).1, va_recv hK hP rfl (q0 := 0) rfl, (preZ hK hP hZ (.ref (ad 0) :: [.int y])).2⟩ rfl hl.1 rfl (Nat.le_of_ble_eq_true rfl) dL_row_4 ⟨Nat.le_of_ble_eq_true rfl, Nat.le_of_ble_eq_true rfl⟩) (fun ce q9 u5 H locs hP hsz hfr hlc hce hcv hcl => ?_)
  have hO := apart_kept hO (wO_d hao) hfr
  refine vx_catch (name := cIOB) E.2.2.2.1 [] ⟨0, 9, 12, 21⟩ [] (by rw [hex]; rfl) (fun z hz => nomatch hz) rfl (by decide) (E.2.2.2.2 _ clL_21) (va_Nw.use rfl (hZ.2.2.1 _ bc_IOB)) hce hcv hcl ?_
  refine lv_astore_n (lv' := [(3, .ref q9), (0, .ref (ad 0)), (1, .int y), (2, .ref ao)]) E.1 E.2.1 dL_row_12 rfl hl (by decide) rfl (fun ls hl => ?_)
  refine lv_iconst (v := nI 1) E.1 E.2.1 dL_row_13 rfl ?_
  exact e_cx (S := (Nat → Nat)) (post := fun z (_ : (Nat → Nat)) => z = nI 1) (w1 := (fun q => wX ad ca T n kc ko kv k lo hi bw bb q)) E hr hlk u5 rfl hP hO hsz hfr hlc dL_row_14
set_option maxHeartbeats 4000000 in
set_option maxRecDepth 100000 in
theorem vL_sum1 (l : Launch) (D : va_G) (ad : Nat → Nat) (ca : Nat → ClassId) (T : Nat → Nat → Int64) (n : Nat) (kc ko : Nat → Nat) (kv : Nat → Int64) (k : Nat) (lo hi : Nat → Int64) (bw bb pk : Nat → Nat) (ao : Nat) (co : ClassId) (ov : Nat → Int64) (lz : Nat) (sa : Nat → Nat) (x : Int32) (hx : x < 0 ∨ nI 4 ≤ x) (hao : ¬ fA ad 10 ao) (hlt : l.stackTraces = false) (hlo : ∀ q, fA ad 10 q → lz ≤ q) : Met l yL_sum (wW yL_sum cL_sum 4 (some .int) [(0, 8, 11, 19)]) (rX 2) (va_Pc [.ref (ad 0), .int x, .ref ao] (pOZ D (tX ca) (wX ad ca T n kc ko kv k lo hi bw bb pk) ao co ov lz sa)) (va_Qi (fun z (_ : Unit) => z = nI 1) (fun u t => va_P D c2 ((fun _ => wX ad ca T n kc ko kv k lo hi bw bb pk) u) t.heap ∧ va_P D c2 (wO ao co ov) t.heap) (fO ad ao)) 1 6 (fun q => lz ≤ q) := by
  refine wmet_of RL rfl (by decide) (Nat.le_of_ble_eq_true rfl) (fun p e s m below meth cd ls E hr hlk hex hB hl => ?_)
  obtain ⟨hP, hO, hK, hKO, hZ⟩ := hB
  have hl : lv_has ls 4 [(0, .ref (ad 0)), (1, .int x), (2, .ref ao)] := hl
  refine lv_aload_n E.1 E.2.1 dL_sum_0 rfl (lv_at hl 2 rfl) ?_
  refine lv_iconst (v := nI 0) E.1 E.2.1 dL_sum_1 rfl ?_
  refine lv_aload_n E.1 E.2.1 dL_sum_2 rfl (lv_at hl 0 rfl) ?_
  refine lv_iload_n E.1 E.2.1 dL_sum_3 rfl (lv_at hl 1 rfl) ?_
  refine x_got (xrun_V E (As := [.int x]) (rest := [.int (nI 0), .ref ao]) (xX_sum1 l D ad ca T n kc ko kv k lo hi bw bb pk lz sa x hx hlt hlo) kL_31 rfl rfl ⟨Nat.le_of_ble_eq_true rfl, Nat.le_of_ble_eq_true rfl⟩ ⟨(preZ hK hP hZ (.ref (ad 0) :: [.int x])).1, va_recv hK hP rfl (q0 := 0) rfl, (preZ hK hP hZ (.ref (ad 0) :: [.int x])).2⟩ rfl hl.1 rfl (Nat.le_of_ble_eq_true rfl) dL_sum_4 ⟨Nat.le_of_ble_eq_true rfl, Nat.le_of_ble_eq_true rfl⟩) (fun ce q9 u5 H locs hP hsz hfr hlc hce hcv hcl => ?_)
  have hO := apart_kept hO (wO_d hao) hfr
  refine vx_catch (name := cIAE) E.2.2.2.1 [] ⟨0, 8, 11, 19⟩ [] (by rw [hex]; rfl) (fun z hz => nomatch hz) rfl (by decide) (E.2.2.2.2 _ clL_19) (va_Nw.use rfl (hZ.2.2.1 _ bc_IAE)) hce hcv hcl ?_
  refine lv_astore_n (lv' := [(3, .ref q9), (0, .ref (ad 0)), (1, .int x), (2, .ref ao)]) E.1 E.2.1 dL_sum_11 rfl hl (by decide) rfl (fun ls hl => ?_)
  refine lv_iconst (v := nI 1) E.1 E.2.1 dL_sum_12 rfl ?_
  exact e_cx (S := Unit) (post := fun z (_ : Unit) => z = nI 1) (w1 := (fun _ => wX ad ca T n kc ko kv k lo hi bw bb pk)) E hr hlk u5 rfl hP hO hsz hfr hlc dL_sum_13
set_option maxHeartbeats 4000000 in
set_option maxRecDepth 100000 in
theorem vL_bound1 (l : Launch) (D : va_G) (ad : Nat → Nat) (ca : Nat → ClassId) (T : Nat → Nat → Int64) (n : Nat) (kc ko : Nat → Nat) (kv : Nat → Int64) (k : Nat) (lo hi : Nat → Int64) (bw bb pk : Nat → Nat) (ao : Nat) (co : ClassId) (ov : Nat → Int64) (lz : Nat) (sa : Nat → Nat) (x : Int32) (d : Bool) (hx : x < 0 ∨ nI 4 ≤ x) (hao : ¬ fA ad 10 ao) (hlt : l.stackTraces = false) (hlo : ∀ q, fA ad 10 q → lz ≤ q) : Met l yL_bound (wW yL_bound cL_bound 5 (some .int) [(0, 9, 12, 19), (0, 9, 16, 39)]) (rX 2) (va_Pc [.ref (ad 0), .int x, .int (bI d), .ref ao] (pOZ D (tX ca) (wX ad ca T n kc ko kv k lo hi bw bb pk) ao co ov lz sa)) (va_Qi (fun z (_ : Unit) => z = nI 1) (fun u t => va_P D c2 ((fun _ => wX ad ca T n kc ko kv k lo hi bw bb pk) u) t.heap ∧ va_P D c2 (wO ao co ov) t.heap) (fO ad ao)) 1 6 (fun q => lz ≤ q) := by
  refine wmet_of RL rfl (by decide) (Nat.le_of_ble_eq_true rfl) (fun p e s m below meth cd ls E hr hlk hex hB hl => ?_)
  obtain ⟨hP, hO, hK, hKO, hZ⟩ := hB
  have hl : lv_has ls 5 [(0, .ref (ad 0)), (1, .int x), (2, .int (bI d)), (3, .ref ao)] := hl
  refine lv_aload_n E.1 E.2.1 dL_bound_0 rfl (lv_at hl 3 rfl) ?_
  refine lv_iconst (v := nI 0) E.1 E.2.1 dL_bound_1 rfl ?_
  refine lv_aload_n E.1 E.2.1 dL_bound_2 rfl (lv_at hl 0 rfl) ?_
  refine lv_iload_n E.1 E.2.1 dL_bound_3 rfl (lv_at hl 1 rfl) ?_
  refine lv_iload_n E.1 E.2.1 dL_bound_4 rfl (lv_at hl 2 rfl) ?_
  refine x_got (xrun_V E (As := [.int x, .int (bI d)]) (rest := [.int (nI 0), .ref ao]) (xX_bound1 l D ad ca T n kc ko kv k lo hi bw bb pk lz sa x d hx hlt hlo) kL_35 rfl rfl ⟨Nat.le_of_ble_eq_true rfl, Nat.le_of_ble_eq_true rfl⟩ ⟨(preZ hK hP hZ (.ref (ad 0) :: [.int x, .int (bI d)])).1, va_recv hK hP rfl (q0 := 0) rfl, (preZ hK hP hZ (.ref (ad 0) :: [.int x, .int (bI d)])).2⟩ rfl hl.1 rfl (Nat.le_of_ble_eq_true rfl) dL_bound_5 ⟨Nat.le_of_ble_eq_true rfl, Nat.le_of_ble_eq_true rfl⟩) (fun ce q9 u5 H locs hP hsz hfr hlc hce hcv hcl => ?_)
  have hO := apart_kept hO (wO_d hao) hfr
  refine vx_catch (name := cIAE) E.2.2.2.1 [] ⟨0, 9, 12, 19⟩ [⟨0, 9, 16, 39⟩] (by rw [hex]; rfl) (fun z hz => nomatch hz) rfl (by decide) (E.2.2.2.2 _ clL_19) (va_Nw.use rfl (hZ.2.2.1 _ bc_IAE)) hce hcv hcl ?_
  refine lv_astore (lv' := [(4, .ref q9), (0, .ref (ad 0)), (1, .int x), (2, .int (bI d)), (3, .ref ao)]) E.1 E.2.1 dL_bound_12 hl (by decide) rfl (fun ls hl => ?_)
  refine lv_iconst (v := nI 1) E.1 E.2.1 dL_bound_14 rfl ?_
  exact e_cx (S := Unit) (post := fun z (_ : Unit) => z = nI 1) (w1 := (fun _ => wX ad ca T n kc ko kv k lo hi bw bb pk)) E hr hlk u5 rfl hP hO hsz hfr hlc dL_bound_15
set_option maxHeartbeats 4000000 in
set_option maxRecDepth 100000 in
theorem vL_bound2 (l : Launch) (D : va_G) (ad : Nat → Nat) (ca : Nat → ClassId) (T : Nat → Nat → Int64) (n : Nat) (kc ko : Nat → Nat) (kv : Nat → Int64) (k : Nat) (lo hi : Nat → Int64) (bw bb pk : Nat → Nat) (ao : Nat) (co : ClassId) (ov : Nat → Int64) (lz : Nat) (sa : Nat → Nat) (c : Nat) (d : Bool) (hIK : iK kc ko k) (hN : inj ad 10) (hn128 : n ≤ 128) (hiB : iB T n lo hi) (hc : c < 4) (hpos : ct (ch T kc ko kv k) n = 0) (hao : ¬ fA ad 10 ao) (hlt : l.stackTraces = false) (hlo : ∀ q, fA ad 10 q → lz ≤ q) : Met l yL_bound (wW yL_bound cL_bound 5 (some .int) [(0, 9, 12, 19), (0, 9, 16, 39)]) (rX 3) (va_Pc [.ref (ad 0), .int (nI c), .int (bI d), .ref ao] (pOZ D (tX ca) (wX ad ca T n kc ko kv k lo hi bw bb pk) ao co ov lz sa)) (va_Qi (fun z (_ : (Nat → Nat)) => z = nI 2) (fun u t => va_P D c2 ((fun q => wX ad ca T n kc ko kv k lo hi bw bb q) u) t.heap ∧ va_P D c2 (wO ao co ov) t.heap) (fO ad ao)) 1 6 (fun q => lz ≤ q) := by
  refine wmet_of RL rfl (by decide) (Nat.le_of_ble_eq_true rfl) (fun p e s m below meth cd ls E hr hlk hex hB hl => ?_)
  obtain ⟨hP, hO, hK, hKO, hZ⟩ := hB
  have hl : lv_has ls 5 [(0, .ref (ad 0)), (1, .int (nI c)), (2, .int (bI d)), (3, .ref ao)] := hl
  refine lv_aload_n E.1 E.2.1 dL_bound_0 rfl (lv_at hl 3 rfl) ?_
  refine lv_iconst (v := nI 0) E.1 E.2.1 dL_bound_1 rfl ?_
  refine lv_aload_n E.1 E.2.1 dL_bound_2 rfl (lv_at hl 0 rfl) ?_
  refine lv_iload_n E.1 E.2.1 dL_bound_3 rfl (lv_at hl 1 rfl) ?_
  refine lv_iload_n E.1 E.2.1 dL_bound_4 rfl (lv_at hl 2 rfl) ?_
  refine x_got (xrun_V E (As := [.int (nI c), .int (bI d)]) (rest := [.int (nI 0), .ref ao]) (xX_bound2 l D ad ca T n kc ko kv k lo hi bw bb pk lz sa c d hIK hN hn128 hiB hc hpos hlt hlo) kL_35 rfl rfl ⟨Nat.le_of_ble_eq_true rfl, Nat.le_of_ble_eq_true rfl⟩ ⟨(preZ hK hP hZ (.ref (ad 0) :: [.int (nI c), .int (bI d)])).1, va_recv hK hP rfl (q0 := 0) rfl, (preZ hK hP hZ (.ref (ad 0) :: [.int (nI c), .int (bI d)])).2⟩ rfl hl.1 rfl (Nat.le_of_ble_eq_true rfl) dL_bound_5 ⟨Nat.le_of_ble_eq_true rfl, Nat.le_of_ble_eq_true rfl⟩) (fun ce q9 u5 H locs hP hsz hfr hlc hce hcv hcl => ?_)
  have hO := apart_kept hO (wO_d hao) hfr
  refine vx_catch (name := cNSE) E.2.2.2.1 [⟨0, 9, 12, 19⟩] ⟨0, 9, 16, 39⟩ [] (by rw [hex]; rfl) (fun z hz => by rw [List.mem_singleton.mp hz]; exact Or.inr ⟨by decide, cIAE, E.2.2.2.2 _ clL_19, hZ.2.2.2.2.2.2⟩) rfl (by decide) (E.2.2.2.2 _ clL_39) (va_Nw.use rfl (hZ.2.2.1 _ bc_NSE)) hce hcv hcl ?_
  refine lv_astore (lv' := [(4, .ref q9), (0, .ref (ad 0)), (1, .int (nI c)), (2, .int (bI d)), (3, .ref ao)]) E.1 E.2.1 dL_bound_16 hl (by decide) rfl (fun ls hl => ?_)
  refine lv_iconst (v := nI 2) E.1 E.2.1 dL_bound_18 rfl ?_
  exact e_cx (S := (Nat → Nat)) (post := fun z (_ : (Nat → Nat)) => z = nI 2) (w1 := (fun q => wX ad ca T n kc ko kv k lo hi bw bb q)) E hr hlk u5 rfl hP hO hsz hfr hlc dL_bound_19
set_option maxHeartbeats 4000000 in
set_option maxRecDepth 100000 in
theorem vL_ranked1 (l : Launch) (D : va_G) (ad : Nat → Nat) (ca : Nat → ClassId) (T : Nat → Nat → Int64) (n : Nat) (kc ko : Nat → Nat) (kv : Nat → Int64) (k : Nat) (lo hi : Nat → Int64) (bw bb pk : Nat → Nat) (ao : Nat) (co : ClassId) (ov : Nat → Int64) (lz : Nat) (sa : Nat → Nat) (x y : Int32) (hx : x < 0 ∨ nI 4 ≤ x) (hao : ¬ fA ad 10 ao) (hlt : l.stackTraces = false) (hlo : ∀ q, fA ad 10 q → lz ≤ q) : Met l yL_ranked (wW yL_ranked cL_ranked 5 (some .int) [(0, 10, 13, 19), (0, 10, 17, 21)]) (rX 2) (va_Pc [.ref (ad 0), .int x, .int y, .ref ao] (pOZ D (tX ca) (wX ad ca T n kc ko kv k lo hi bw bb pk) ao co ov lz sa)) (va_Qi (fun z (_ : Unit) => z = nI 1) (fun u t => va_P D c2 ((fun _ => wX ad ca T n kc ko kv k lo hi bw bb pk) u) t.heap ∧ va_P D c2 (wO ao co ov) t.heap) (fO ad ao)) 1 6 (fun q => lz ≤ q) := by
  refine wmet_of RL rfl (by decide) (Nat.le_of_ble_eq_true rfl) (fun p e s m below meth cd ls E hr hlk hex hB hl => ?_)
  obtain ⟨hP, hO, hK, hKO, hZ⟩ := hB
  have hl : lv_has ls 5 [(0, .ref (ad 0)), (1, .int x), (2, .int y), (3, .ref ao)] := hl
  refine lv_aload_n E.1 E.2.1 dL_ranked_0 rfl (lv_at hl 3 rfl) ?_
  refine lv_iconst (v := nI 0) E.1 E.2.1 dL_ranked_1 rfl ?_
  refine lv_aload_n E.1 E.2.1 dL_ranked_2 rfl (lv_at hl 0 rfl) ?_
  refine lv_iload_n E.1 E.2.1 dL_ranked_3 rfl (lv_at hl 1 rfl) ?_
  refine lv_iload_n E.1 E.2.1 dL_ranked_4 rfl (lv_at hl 2 rfl) ?_
  refine x_got (xrun_V E (As := [.int x, .int y]) (rest := [.int (nI 0), .ref ao]) (xX_ranked1 l D ad ca T n kc ko kv k lo hi bw bb pk lz sa x y hx hlt hlo) kL_41 rfl rfl ⟨Nat.le_of_ble_eq_true rfl, Nat.le_of_ble_eq_true rfl⟩ ⟨(preZ hK hP hZ (.ref (ad 0) :: [.int x, .int y])).1, va_recv hK hP rfl (q0 := 0) rfl, (preZ hK hP hZ (.ref (ad 0) :: [.int x, .int y])).2⟩ rfl hl.1 rfl (Nat.le_of_ble_eq_true rfl) dL_ranked_5 ⟨Nat.le_of_ble_eq_true rfl, Nat.le_of_ble_eq_true rfl⟩) (fun ce q9 u5 H locs hP hsz hfr hlc hce hcv hcl => ?_)
  have hO := apart_kept hO (wO_d hao) hfr
  refine vx_catch (name := cIAE) E.2.2.2.1 [] ⟨0, 10, 13, 19⟩ [⟨0, 10, 17, 21⟩] (by rw [hex]; rfl) (fun z hz => nomatch hz) rfl (by decide) (E.2.2.2.2 _ clL_19) (va_Nw.use rfl (hZ.2.2.1 _ bc_IAE)) hce hcv hcl ?_
  refine lv_astore (lv' := [(4, .ref q9), (0, .ref (ad 0)), (1, .int x), (2, .int y), (3, .ref ao)]) E.1 E.2.1 dL_ranked_13 hl (by decide) rfl (fun ls hl => ?_)
  refine lv_iconst (v := nI 1) E.1 E.2.1 dL_ranked_15 rfl ?_
  exact e_cx (S := Unit) (post := fun z (_ : Unit) => z = nI 1) (w1 := (fun _ => wX ad ca T n kc ko kv k lo hi bw bb pk)) E hr hlk u5 rfl hP hO hsz hfr hlc dL_ranked_16
set_option maxHeartbeats 4000000 in
set_option maxRecDepth 100000 in
theorem vL_ranked2 (l : Launch) (D : va_G) (ad : Nat → Nat) (ca : Nat → ClassId) (T : Nat → Nat → Int64) (n : Nat) (kc ko : Nat → Nat) (kv : Nat → Int64) (k : Nat) (lo hi : Nat → Int64) (bw bb pk : Nat → Nat) (ao : Nat) (co : ClassId) (ov : Nat → Int64) (lz : Nat) (sa : Nat → Nat) (c : Nat) (y : Int32) (hIK : iK kc ko k) (hN : inj ad 10) (hn128 : n ≤ 128) (hiB : iB T n lo hi) (hc : c < 4) (hy : y < 0 ∨ nI (ct (ch T kc ko kv k) n) ≤ y) (hao : ¬ fA ad 10 ao) (hlt : l.stackTraces = false) (hlo : ∀ q, fA ad 10 q → lz ≤ q) : Met l yL_ranked (wW yL_ranked cL_ranked 5 (some .int) [(0, 10, 13, 19), (0, 10, 17, 21)]) (rX 3) (va_Pc [.ref (ad 0), .int (nI c), .int y, .ref ao] (pOZ D (tX ca) (wX ad ca T n kc ko kv k lo hi bw bb pk) ao co ov lz sa)) (va_Qi (fun z (_ : (Nat → Nat)) => z = nI 2) (fun u t => va_P D c2 ((fun q => wX ad ca T n kc ko kv k lo hi bw bb q) u) t.heap ∧ va_P D c2 (wO ao co ov) t.heap) (fO ad ao)) 1 6 (fun q => lz ≤ q) := by
  refine wmet_of RL rfl (by decide) (Nat.le_of_ble_eq_true rfl) (fun p e s m below meth cd ls E hr hlk hex hB hl => ?_)
  obtain ⟨hP, hO, hK, hKO, hZ⟩ := hB
  have hl : lv_has ls 5 [(0, .ref (ad 0)), (1, .int (nI c)), (2, .int y), (3, .ref ao)] := hl
  refine lv_aload_n E.1 E.2.1 dL_ranked_0 rfl (lv_at hl 3 rfl) ?_
  refine lv_iconst (v := nI 0) E.1 E.2.1 dL_ranked_1 rfl ?_
  refine lv_aload_n E.1 E.2.1 dL_ranked_2 rfl (lv_at hl 0 rfl) ?_
  refine lv_iload_n E.1 E.2.1 dL_ranked_3 rfl (lv_at hl 1 rfl) ?_
  refine lv_iload_n E.1 E.2.1 dL_ranked_4 rfl (lv_at hl 2 rfl) ?_
  refine x_got (xrun_V E (As := [.int (nI c), .int y]) (rest := [.int (nI 0), .ref ao]) (xX_ranked2 l D ad ca T n kc ko kv k lo hi bw bb pk lz sa c y hIK hN hn128 hiB hc hy hlt hlo) kL_41 rfl rfl ⟨Nat.le_of_ble_eq_true rfl, Nat.le_of_ble_eq_true rfl⟩ ⟨(preZ hK hP hZ (.ref (ad 0) :: [.int (nI c), .int y])).1, va_recv hK hP rfl (q0 := 0) rfl, (preZ hK hP hZ (.ref (ad 0) :: [.int (nI c), .int y])).2⟩ rfl hl.1 rfl (Nat.le_of_ble_eq_true rfl) dL_ranked_5 ⟨Nat.le_of_ble_eq_true rfl, Nat.le_of_ble_eq_true rfl⟩) (fun ce q9 u5 H locs hP hsz hfr hlc hce hcv hcl => ?_)
  have hO := apart_kept hO (wO_d hao) hfr
  refine vx_catch (name := cIOB) E.2.2.2.1 [⟨0, 10, 13, 19⟩] ⟨0, 10, 17, 21⟩ [] (by rw [hex]; rfl) (fun z hz => by rw [List.mem_singleton.mp hz]; exact Or.inr ⟨by decide, cIAE, E.2.2.2.2 _ clL_19, hZ.2.2.2.2.1⟩) rfl (by decide) (E.2.2.2.2 _ clL_21) (va_Nw.use rfl (hZ.2.2.1 _ bc_IOB)) hce hcv hcl ?_
  refine lv_astore (lv' := [(4, .ref q9), (0, .ref (ad 0)), (1, .int (nI c)), (2, .int y), (3, .ref ao)]) E.1 E.2.1 dL_ranked_17 hl (by decide) rfl (fun ls hl => ?_)
  refine lv_iconst (v := nI 2) E.1 E.2.1 dL_ranked_19 rfl ?_
  exact e_cx (S := (Nat → Nat)) (post := fun z (_ : (Nat → Nat)) => z = nI 2) (w1 := (fun q => wX ad ca T n kc ko kv k lo hi bw bb q)) E hr hlk u5 rfl hP hO hsz hfr hlc dL_ranked_20
set_option maxHeartbeats 4000000 in
set_option maxRecDepth 100000 in
theorem vL_groups1 (l : Launch) (D : va_G) (ad : Nat → Nat) (ca : Nat → ClassId) (T : Nat → Nat → Int64) (n : Nat) (kc ko : Nat → Nat) (kv : Nat → Int64) (k : Nat) (lo hi : Nat → Int64) (bw bb pk : Nat → Nat) (ao : Nat) (co : ClassId) (ov : Nat → Int64) (lz : Nat) (sa : Nat → Nat) (x : Int32) (hx : x < 0 ∨ nI 4 ≤ x) (hao : ¬ fA ad 10 ao) (hlt : l.stackTraces = false) (hlo : ∀ q, fA ad 10 q → lz ≤ q) : Met l yL_groups (wW yL_groups cL_groups 4 (some .int) [(0, 9, 12, 19)]) (rX 2) (va_Pc [.ref (ad 0), .int x, .ref ao] (pOZ D (tX ca) (wX ad ca T n kc ko kv k lo hi bw bb pk) ao co ov lz sa)) (va_Qi (fun z (_ : Unit) => z = nI 1) (fun u t => va_P D c2 ((fun _ => wX ad ca T n kc ko kv k lo hi bw bb pk) u) t.heap ∧ va_P D c2 (wO ao co ov) t.heap) (fO ad ao)) 1 6 (fun q => lz ≤ q) := by
  refine wmet_of RL rfl (by decide) (Nat.le_of_ble_eq_true rfl) (fun p e s m below meth cd ls E hr hlk hex hB hl => ?_)
  obtain ⟨hP, hO, hK, hKO, hZ⟩ := hB
  have hl : lv_has ls 4 [(0, .ref (ad 0)), (1, .int x), (2, .ref ao)] := hl
  refine lv_aload_n E.1 E.2.1 dL_groups_0 rfl (lv_at hl 2 rfl) ?_
  refine lv_iconst (v := nI 0) E.1 E.2.1 dL_groups_1 rfl ?_
  refine lv_aload_n E.1 E.2.1 dL_groups_2 rfl (lv_at hl 0 rfl) ?_
  refine lv_iload_n E.1 E.2.1 dL_groups_3 rfl (lv_at hl 1 rfl) ?_
  refine x_got (xrun_V E (As := [.int x]) (rest := [.int (nI 0), .ref ao]) (xX_groups1 l D ad ca T n kc ko kv k lo hi bw bb pk lz sa x hx hlt hlo) kL_45 rfl rfl ⟨Nat.le_of_ble_eq_true rfl, Nat.le_of_ble_eq_true rfl⟩ ⟨(preZ hK hP hZ (.ref (ad 0) :: [.int x])).1, va_recv hK hP rfl (q0 := 0) rfl, (preZ hK hP hZ (.ref (ad 0) :: [.int x])).2⟩ rfl hl.1 rfl (Nat.le_of_ble_eq_true rfl) dL_groups_4 ⟨Nat.le_of_ble_eq_true rfl, Nat.le_of_ble_eq_true rfl⟩) (fun ce q9 u5 H locs hP hsz hfr hlc hce hcv hcl => ?_)
  have hO := apart_kept hO (wO_d hao) hfr
  refine vx_catch (name := cIAE) E.2.2.2.1 [] ⟨0, 9, 12, 19⟩ [] (by rw [hex]; rfl) (fun z hz => nomatch hz) rfl (by decide) (E.2.2.2.2 _ clL_19) (va_Nw.use rfl (hZ.2.2.1 _ bc_IAE)) hce hcv hcl ?_
  refine lv_astore_n (lv' := [(3, .ref q9), (0, .ref (ad 0)), (1, .int x), (2, .ref ao)]) E.1 E.2.1 dL_groups_12 rfl hl (by decide) rfl (fun ls hl => ?_)
  refine lv_iconst (v := nI 1) E.1 E.2.1 dL_groups_13 rfl ?_
  exact e_cx (S := Unit) (post := fun z (_ : Unit) => z = nI 1) (w1 := (fun _ => wX ad ca T n kc ko kv k lo hi bw bb pk)) E hr hlk u5 rfl hP hO hsz hfr hlc dL_groups_14
set_option maxHeartbeats 4000000 in
set_option maxRecDepth 100000 in
theorem vL_group1 (l : Launch) (D : va_G) (ad : Nat → Nat) (ca : Nat → ClassId) (T : Nat → Nat → Int64) (n : Nat) (kc ko : Nat → Nat) (kv : Nat → Int64) (k : Nat) (lo hi : Nat → Int64) (bw bb pk : Nat → Nat) (ao : Nat) (co : ClassId) (ov : Nat → Int64) (lz : Nat) (sa : Nat → Nat) (x y v u : Int32) (hx : x < 0 ∨ nI 4 ≤ x) (hao : ¬ fA ad 10 ao) (hlt : l.stackTraces = false) (hlo : ∀ q, fA ad 10 q → lz ≤ q) : Met l yL_group (wW yL_group cL_group 7 (some .int) [(0, 13, 16, 19), (0, 13, 20, 21)]) (rX 2) (va_Pc [.ref (ad 0), .int x, .int y, .int v, .int u, .ref ao] (pOZ D (tX ca) (wX ad ca T n kc ko kv k lo hi bw bb pk) ao co ov lz sa)) (va_Qi (fun z (_ : Unit) => z = nI 1) (fun u t => va_P D c2 ((fun _ => wX ad ca T n kc ko kv k lo hi bw bb pk) u) t.heap ∧ va_P D c2 (wO ao co ov) t.heap) (fO ad ao)) 1 6 (fun q => lz ≤ q) := by
  refine wmet_of RL rfl (by decide) (Nat.le_of_ble_eq_true rfl) (fun p e s m below meth cd ls E hr hlk hex hB hl => ?_)
  obtain ⟨hP, hO, hK, hKO, hZ⟩ := hB
  have hl : lv_has ls 7 [(0, .ref (ad 0)), (1, .int x), (2, .int y), (3, .int v), (4, .int u), (5, .ref ao)] := hl
  refine lv_aload E.1 E.2.1 dL_group_0 (lv_at hl 5 rfl) ?_
  refine lv_iconst (v := nI 0) E.1 E.2.1 dL_group_2 rfl ?_
  refine lv_aload_n E.1 E.2.1 dL_group_3 rfl (lv_at hl 0 rfl) ?_
  refine lv_iload_n E.1 E.2.1 dL_group_4 rfl (lv_at hl 1 rfl) ?_
  refine lv_iload_n E.1 E.2.1 dL_group_5 rfl (lv_at hl 2 rfl) ?_
  refine lv_iload_n E.1 E.2.1 dL_group_6 rfl (lv_at hl 3 rfl) ?_
  refine lv_iload E.1 E.2.1 dL_group_7 (lv_at hl 4 rfl) ?_
  refine x_got (xrun_V E (As := [.int x, .int y, .int v, .int u]) (rest := [.int (nI 0), .ref ao]) (xX_group1 l D ad ca T n kc ko kv k lo hi bw bb pk lz sa x y v u hx hlt hlo) kL_48 rfl rfl ⟨Nat.le_of_ble_eq_true rfl, Nat.le_of_ble_eq_true rfl⟩ ⟨(preZ hK hP hZ (.ref (ad 0) :: [.int x, .int y, .int v, .int u])).1, va_recv hK hP rfl (q0 := 0) rfl, (preZ hK hP hZ (.ref (ad 0) :: [.int x, .int y, .int v, .int u])).2⟩ rfl hl.1 rfl (Nat.le_of_ble_eq_true rfl) dL_group_9 ⟨Nat.le_of_ble_eq_true rfl, Nat.le_of_ble_eq_true rfl⟩) (fun ce q9 u5 H locs hP hsz hfr hlc hce hcv hcl => ?_)
  have hO := apart_kept hO (wO_d hao) hfr
  refine vx_catch (name := cIAE) E.2.2.2.1 [] ⟨0, 13, 16, 19⟩ [⟨0, 13, 20, 21⟩] (by rw [hex]; rfl) (fun z hz => nomatch hz) rfl (by decide) (E.2.2.2.2 _ clL_19) (va_Nw.use rfl (hZ.2.2.1 _ bc_IAE)) hce hcv hcl ?_
  refine lv_astore (lv' := [(6, .ref q9), (0, .ref (ad 0)), (1, .int x), (2, .int y), (3, .int v), (4, .int u), (5, .ref ao)]) E.1 E.2.1 dL_group_16 hl (by decide) rfl (fun ls hl => ?_)
  refine lv_iconst (v := nI 1) E.1 E.2.1 dL_group_18 rfl ?_
  exact e_cx (S := Unit) (post := fun z (_ : Unit) => z = nI 1) (w1 := (fun _ => wX ad ca T n kc ko kv k lo hi bw bb pk)) E hr hlk u5 rfl hP hO hsz hfr hlc dL_group_19
set_option maxHeartbeats 4000000 in
set_option maxRecDepth 100000 in
theorem vL_group1o (l : Launch) (D : va_G) (ad : Nat → Nat) (ca : Nat → ClassId) (T : Nat → Nat → Int64) (n : Nat) (kc ko : Nat → Nat) (kv : Nat → Int64) (k : Nat) (lo hi : Nat → Int64) (bw bb pk : Nat → Nat) (ao : Nat) (co : ClassId) (ov : Nat → Int64) (lz : Nat) (sa : Nat → Nat) (c : Nat) (y v u : Int32) (hc : c < 4) (hu : u < 0 ∨ nI 4 ≤ u) (hao : ¬ fA ad 10 ao) (hlt : l.stackTraces = false) (hlo : ∀ q, fA ad 10 q → lz ≤ q) : Met l yL_group (wW yL_group cL_group 7 (some .int) [(0, 13, 16, 19), (0, 13, 20, 21)]) (rX 2) (va_Pc [.ref (ad 0), .int (nI c), .int y, .int v, .int u, .ref ao] (pOZ D (tX ca) (wX ad ca T n kc ko kv k lo hi bw bb pk) ao co ov lz sa)) (va_Qi (fun z (_ : Unit) => z = nI 1) (fun u t => va_P D c2 ((fun _ => wX ad ca T n kc ko kv k lo hi bw bb pk) u) t.heap ∧ va_P D c2 (wO ao co ov) t.heap) (fO ad ao)) 1 6 (fun q => lz ≤ q) := by
  refine wmet_of RL rfl (by decide) (Nat.le_of_ble_eq_true rfl) (fun p e s m below meth cd ls E hr hlk hex hB hl => ?_)
  obtain ⟨hP, hO, hK, hKO, hZ⟩ := hB
  have hl : lv_has ls 7 [(0, .ref (ad 0)), (1, .int (nI c)), (2, .int y), (3, .int v), (4, .int u), (5, .ref ao)] := hl
  refine lv_aload E.1 E.2.1 dL_group_0 (lv_at hl 5 rfl) ?_
  refine lv_iconst (v := nI 0) E.1 E.2.1 dL_group_2 rfl ?_
  refine lv_aload_n E.1 E.2.1 dL_group_3 rfl (lv_at hl 0 rfl) ?_
  refine lv_iload_n E.1 E.2.1 dL_group_4 rfl (lv_at hl 1 rfl) ?_
  refine lv_iload_n E.1 E.2.1 dL_group_5 rfl (lv_at hl 2 rfl) ?_
  refine lv_iload_n E.1 E.2.1 dL_group_6 rfl (lv_at hl 3 rfl) ?_
  refine lv_iload E.1 E.2.1 dL_group_7 (lv_at hl 4 rfl) ?_
  refine x_got (xrun_V E (As := [.int (nI c), .int y, .int v, .int u]) (rest := [.int (nI 0), .ref ao]) (xX_group1o l D ad ca T n kc ko kv k lo hi bw bb pk lz sa c y v u hc hu hlt hlo) kL_48 rfl rfl ⟨Nat.le_of_ble_eq_true rfl, Nat.le_of_ble_eq_true rfl⟩ ⟨(preZ hK hP hZ (.ref (ad 0) :: [.int (nI c), .int y, .int v, .int u])).1, va_recv hK hP rfl (q0 := 0) rfl, (preZ hK hP hZ (.ref (ad 0) :: [.int (nI c), .int y, .int v, .int u])).2⟩ rfl hl.1 rfl (Nat.le_of_ble_eq_true rfl) dL_group_9 ⟨Nat.le_of_ble_eq_true rfl, Nat.le_of_ble_eq_true rfl⟩) (fun ce q9 u5 H locs hP hsz hfr hlc hce hcv hcl => ?_)
  have hO := apart_kept hO (wO_d hao) hfr
  refine vx_catch (name := cIAE) E.2.2.2.1 [] ⟨0, 13, 16, 19⟩ [⟨0, 13, 20, 21⟩] (by rw [hex]; rfl) (fun z hz => nomatch hz) rfl (by decide) (E.2.2.2.2 _ clL_19) (va_Nw.use rfl (hZ.2.2.1 _ bc_IAE)) hce hcv hcl ?_
  refine lv_astore (lv' := [(6, .ref q9), (0, .ref (ad 0)), (1, .int (nI c)), (2, .int y), (3, .int v), (4, .int u), (5, .ref ao)]) E.1 E.2.1 dL_group_16 hl (by decide) rfl (fun ls hl => ?_)
  refine lv_iconst (v := nI 1) E.1 E.2.1 dL_group_18 rfl ?_
  exact e_cx (S := Unit) (post := fun z (_ : Unit) => z = nI 1) (w1 := (fun _ => wX ad ca T n kc ko kv k lo hi bw bb pk)) E hr hlk u5 rfl hP hO hsz hfr hlc dL_group_19
set_option maxHeartbeats 4000000 in
set_option maxRecDepth 100000 in
theorem vL_group1w (l : Launch) (D : va_G) (ad : Nat → Nat) (ca : Nat → ClassId) (T : Nat → Nat → Int64) (n : Nat) (kc ko : Nat → Nat) (kv : Nat → Int64) (k : Nat) (lo hi : Nat → Int64) (bw bb pk : Nat → Nat) (ao : Nat) (co : ClassId) (ov : Nat → Int64) (lz : Nat) (sa : Nat → Nat) (c o : Nat) (y v : Int32) (hc : c < 4) (ho : o < 4) (hv : v < 0 ∨ nI 4 < v) (hao : ¬ fA ad 10 ao) (hlt : l.stackTraces = false) (hlo : ∀ q, fA ad 10 q → lz ≤ q) : Met l yL_group (wW yL_group cL_group 7 (some .int) [(0, 13, 16, 19), (0, 13, 20, 21)]) (rX 2) (va_Pc [.ref (ad 0), .int (nI c), .int y, .int v, .int (nI o), .ref ao] (pOZ D (tX ca) (wX ad ca T n kc ko kv k lo hi bw bb pk) ao co ov lz sa)) (va_Qi (fun z (_ : Unit) => z = nI 1) (fun u t => va_P D c2 ((fun _ => wX ad ca T n kc ko kv k lo hi bw bb pk) u) t.heap ∧ va_P D c2 (wO ao co ov) t.heap) (fO ad ao)) 1 6 (fun q => lz ≤ q) := by
  refine wmet_of RL rfl (by decide) (Nat.le_of_ble_eq_true rfl) (fun p e s m below meth cd ls E hr hlk hex hB hl => ?_)
  obtain ⟨hP, hO, hK, hKO, hZ⟩ := hB
  have hl : lv_has ls 7 [(0, .ref (ad 0)), (1, .int (nI c)), (2, .int y), (3, .int v), (4, .int (nI o)), (5, .ref ao)] := hl
  refine lv_aload E.1 E.2.1 dL_group_0 (lv_at hl 5 rfl) ?_
  refine lv_iconst (v := nI 0) E.1 E.2.1 dL_group_2 rfl ?_
  refine lv_aload_n E.1 E.2.1 dL_group_3 rfl (lv_at hl 0 rfl) ?_
  refine lv_iload_n E.1 E.2.1 dL_group_4 rfl (lv_at hl 1 rfl) ?_
  refine lv_iload_n E.1 E.2.1 dL_group_5 rfl (lv_at hl 2 rfl) ?_
  refine lv_iload_n E.1 E.2.1 dL_group_6 rfl (lv_at hl 3 rfl) ?_
  refine lv_iload E.1 E.2.1 dL_group_7 (lv_at hl 4 rfl) ?_
  refine x_got (xrun_V E (As := [.int (nI c), .int y, .int v, .int (nI o)]) (rest := [.int (nI 0), .ref ao]) (xX_group1w l D ad ca T n kc ko kv k lo hi bw bb pk lz sa c o y v hc ho hv hlt hlo) kL_48 rfl rfl ⟨Nat.le_of_ble_eq_true rfl, Nat.le_of_ble_eq_true rfl⟩ ⟨(preZ hK hP hZ (.ref (ad 0) :: [.int (nI c), .int y, .int v, .int (nI o)])).1, va_recv hK hP rfl (q0 := 0) rfl, (preZ hK hP hZ (.ref (ad 0) :: [.int (nI c), .int y, .int v, .int (nI o)])).2⟩ rfl hl.1 rfl (Nat.le_of_ble_eq_true rfl) dL_group_9 ⟨Nat.le_of_ble_eq_true rfl, Nat.le_of_ble_eq_true rfl⟩) (fun ce q9 u5 H locs hP hsz hfr hlc hce hcv hcl => ?_)
  have hO := apart_kept hO (wO_d hao) hfr
  refine vx_catch (name := cIAE) E.2.2.2.1 [] ⟨0, 13, 16, 19⟩ [⟨0, 13, 20, 21⟩] (by rw [hex]; rfl) (fun z hz => nomatch hz) rfl (by decide) (E.2.2.2.2 _ clL_19) (va_Nw.use rfl (hZ.2.2.1 _ bc_IAE)) hce hcv hcl ?_
  refine lv_astore (lv' := [(6, .ref q9), (0, .ref (ad 0)), (1, .int (nI c)), (2, .int y), (3, .int v), (4, .int (nI o)), (5, .ref ao)]) E.1 E.2.1 dL_group_16 hl (by decide) rfl (fun ls hl => ?_)
  refine lv_iconst (v := nI 1) E.1 E.2.1 dL_group_18 rfl ?_
  exact e_cx (S := Unit) (post := fun z (_ : Unit) => z = nI 1) (w1 := (fun _ => wX ad ca T n kc ko kv k lo hi bw bb pk)) E hr hlk u5 rfl hP hO hsz hfr hlc dL_group_19
set_option maxHeartbeats 4000000 in
set_option maxRecDepth 100000 in
theorem vL_group2 (l : Launch) (D : va_G) (ad : Nat → Nat) (ca : Nat → ClassId) (T : Nat → Nat → Int64) (n : Nat) (kc ko : Nat → Nat) (kv : Nat → Int64) (k : Nat) (lo hi : Nat → Int64) (bw bb pk : Nat → Nat) (ao : Nat) (co : ClassId) (ov : Nat → Int64) (lz : Nat) (sa : Nat → Nat) (c o w : Nat) (y : Int32) (hIK : iK kc ko k) (hN : inj ad 10) (hn128 : n ≤ 128) (hiB : iB T n lo hi) (hc : c < 4) (ho : o < 4) (hw : w < 5) (hy : y < 0 ∨ nI (ct (isF (ch T kc ko kv k) T c) n) ≤ y) (hao : ¬ fA ad 10 ao) (hlt : l.stackTraces = false) (hlo : ∀ q, fA ad 10 q → lz ≤ q) : Met l yL_group (wW yL_group cL_group 7 (some .int) [(0, 13, 16, 19), (0, 13, 20, 21)]) (rX 3) (va_Pc [.ref (ad 0), .int (nI c), .int y, .int (nI w), .int (nI o), .ref ao] (pOZ D (tX ca) (wX ad ca T n kc ko kv k lo hi bw bb pk) ao co ov lz sa)) (va_Qi (fun z (_ : (Nat → Nat)) => z = nI 2) (fun u t => va_P D c2 ((fun q => wX ad ca T n kc ko kv k lo hi bw bb q) u) t.heap ∧ va_P D c2 (wO ao co ov) t.heap) (fO ad ao)) 1 6 (fun q => lz ≤ q) := by
  refine wmet_of RL rfl (by decide) (Nat.le_of_ble_eq_true rfl) (fun p e s m below meth cd ls E hr hlk hex hB hl => ?_)
  obtain ⟨hP, hO, hK, hKO, hZ⟩ := hB
  have hl : lv_has ls 7 [(0, .ref (ad 0)), (1, .int (nI c)), (2, .int y), (3, .int (nI w)), (4, .int (nI o)), (5, .ref ao)] := hl
  refine lv_aload E.1 E.2.1 dL_group_0 (lv_at hl 5 rfl) ?_
  refine lv_iconst (v := nI 0) E.1 E.2.1 dL_group_2 rfl ?_
  refine lv_aload_n E.1 E.2.1 dL_group_3 rfl (lv_at hl 0 rfl) ?_
  refine lv_iload_n E.1 E.2.1 dL_group_4 rfl (lv_at hl 1 rfl) ?_
  refine lv_iload_n E.1 E.2.1 dL_group_5 rfl (lv_at hl 2 rfl) ?_
  refine lv_iload_n E.1 E.2.1 dL_group_6 rfl (lv_at hl 3 rfl) ?_
  refine lv_iload E.1 E.2.1 dL_group_7 (lv_at hl 4 rfl) ?_
  refine x_got (xrun_V E (As := [.int (nI c), .int y, .int (nI w), .int (nI o)]) (rest := [.int (nI 0), .ref ao]) (xX_group2 l D ad ca T n kc ko kv k lo hi bw bb pk lz sa c o w y hIK hN hn128 hiB hc ho hw hy hlt hlo) kL_48 rfl rfl ⟨Nat.le_of_ble_eq_true rfl, Nat.le_of_ble_eq_true rfl⟩ ⟨(preZ hK hP hZ (.ref (ad 0) :: [.int (nI c), .int y, .int (nI w), .int (nI o)])).1, va_recv hK hP rfl (q0 := 0) rfl, (preZ hK hP hZ (.ref (ad 0) :: [.int (nI c), .int y, .int (nI w), .int (nI o)])).2⟩ rfl hl.1 rfl (Nat.le_of_ble_eq_true rfl) dL_group_9 ⟨Nat.le_of_ble_eq_true rfl, Nat.le_of_ble_eq_true rfl⟩) (fun ce q9 u5 H locs hP hsz hfr hlc hce hcv hcl => ?_)
  have hO := apart_kept hO (wO_d hao) hfr
  refine vx_catch (name := cIOB) E.2.2.2.1 [⟨0, 13, 16, 19⟩] ⟨0, 13, 20, 21⟩ [] (by rw [hex]; rfl) (fun z hz => by rw [List.mem_singleton.mp hz]; exact Or.inr ⟨by decide, cIAE, E.2.2.2.2 _ clL_19, hZ.2.2.2.2.1⟩) rfl (by decide) (E.2.2.2.2 _ clL_21) (va_Nw.use rfl (hZ.2.2.1 _ bc_IOB)) hce hcv hcl ?_
  refine lv_astore (lv' := [(6, .ref q9), (0, .ref (ad 0)), (1, .int (nI c)), (2, .int y), (3, .int (nI w)), (4, .int (nI o)), (5, .ref ao)]) E.1 E.2.1 dL_group_20 hl (by decide) rfl (fun ls hl => ?_)
  refine lv_iconst (v := nI 2) E.1 E.2.1 dL_group_22 rfl ?_
  exact e_cx (S := (Nat → Nat)) (post := fun z (_ : (Nat → Nat)) => z = nI 2) (w1 := (fun q => wX ad ca T n kc ko kv k lo hi bw bb q)) E hr hlk u5 rfl hP hO hsz hfr hlc dL_group_23
set_option maxHeartbeats 4000000 in
set_option maxRecDepth 100000 in
theorem vL_pairs1 (l : Launch) (D : va_G) (ad : Nat → Nat) (ca : Nat → ClassId) (T : Nat → Nat → Int64) (n : Nat) (kc ko : Nat → Nat) (kv : Nat → Int64) (k : Nat) (lo hi : Nat → Int64) (bw bb pk : Nat → Nat) (ao : Nat) (co : ClassId) (ov : Nat → Int64) (lz : Nat) (sa : Nat → Nat) (x y : Int32) (hx : x < 0 ∨ nI 4 ≤ x) (hao : ¬ fA ad 10 ao) (hlt : l.stackTraces = false) (hlo : ∀ q, fA ad 10 q → lz ≤ q) : Met l yL_pairs (wW yL_pairs cL_pairs 5 (some .int) [(0, 10, 13, 19)]) (rX 2) (va_Pc [.ref (ad 0), .int x, .int y, .ref ao] (pOZ D (tX ca) (wX ad ca T n kc ko kv k lo hi bw bb pk) ao co ov lz sa)) (va_Qi (fun z (_ : Unit) => z = nI 1) (fun u t => va_P D c2 ((fun _ => wX ad ca T n kc ko kv k lo hi bw bb pk) u) t.heap ∧ va_P D c2 (wO ao co ov) t.heap) (fO ad ao)) 1 6 (fun q => lz ≤ q) := by
  refine wmet_of RL rfl (by decide) (Nat.le_of_ble_eq_true rfl) (fun p e s m below meth cd ls E hr hlk hex hB hl => ?_)
  obtain ⟨hP, hO, hK, hKO, hZ⟩ := hB
  have hl : lv_has ls 5 [(0, .ref (ad 0)), (1, .int x), (2, .int y), (3, .ref ao)] := hl
  refine lv_aload_n E.1 E.2.1 dL_pairs_0 rfl (lv_at hl 3 rfl) ?_
  refine lv_iconst (v := nI 0) E.1 E.2.1 dL_pairs_1 rfl ?_
  refine lv_aload_n E.1 E.2.1 dL_pairs_2 rfl (lv_at hl 0 rfl) ?_
  refine lv_iload_n E.1 E.2.1 dL_pairs_3 rfl (lv_at hl 1 rfl) ?_
  refine lv_iload_n E.1 E.2.1 dL_pairs_4 rfl (lv_at hl 2 rfl) ?_
  refine x_got (xrun_V E (As := [.int x, .int y]) (rest := [.int (nI 0), .ref ao]) (xX_pairs1 l D ad ca T n kc ko kv k lo hi bw bb pk lz sa x y hx hlt hlo) kL_52 rfl rfl ⟨Nat.le_of_ble_eq_true rfl, Nat.le_of_ble_eq_true rfl⟩ ⟨(preZ hK hP hZ (.ref (ad 0) :: [.int x, .int y])).1, va_recv hK hP rfl (q0 := 0) rfl, (preZ hK hP hZ (.ref (ad 0) :: [.int x, .int y])).2⟩ rfl hl.1 rfl (Nat.le_of_ble_eq_true rfl) dL_pairs_5 ⟨Nat.le_of_ble_eq_true rfl, Nat.le_of_ble_eq_true rfl⟩) (fun ce q9 u5 H locs hP hsz hfr hlc hce hcv hcl => ?_)
  have hO := apart_kept hO (wO_d hao) hfr
  refine vx_catch (name := cIAE) E.2.2.2.1 [] ⟨0, 10, 13, 19⟩ [] (by rw [hex]; rfl) (fun z hz => nomatch hz) rfl (by decide) (E.2.2.2.2 _ clL_19) (va_Nw.use rfl (hZ.2.2.1 _ bc_IAE)) hce hcv hcl ?_
  refine lv_astore (lv' := [(4, .ref q9), (0, .ref (ad 0)), (1, .int x), (2, .int y), (3, .ref ao)]) E.1 E.2.1 dL_pairs_13 hl (by decide) rfl (fun ls hl => ?_)
  refine lv_iconst (v := nI 1) E.1 E.2.1 dL_pairs_15 rfl ?_
  exact e_cx (S := Unit) (post := fun z (_ : Unit) => z = nI 1) (w1 := (fun _ => wX ad ca T n kc ko kv k lo hi bw bb pk)) E hr hlk u5 rfl hP hO hsz hfr hlc dL_pairs_16
set_option maxHeartbeats 4000000 in
set_option maxRecDepth 100000 in
theorem vL_pairs1o (l : Launch) (D : va_G) (ad : Nat → Nat) (ca : Nat → ClassId) (T : Nat → Nat → Int64) (n : Nat) (kc ko : Nat → Nat) (kv : Nat → Int64) (k : Nat) (lo hi : Nat → Int64) (bw bb pk : Nat → Nat) (ao : Nat) (co : ClassId) (ov : Nat → Int64) (lz : Nat) (sa : Nat → Nat) (c : Nat) (y : Int32) (hc : c < 4) (hy : y < 0 ∨ nI 4 ≤ y) (hao : ¬ fA ad 10 ao) (hlt : l.stackTraces = false) (hlo : ∀ q, fA ad 10 q → lz ≤ q) : Met l yL_pairs (wW yL_pairs cL_pairs 5 (some .int) [(0, 10, 13, 19)]) (rX 2) (va_Pc [.ref (ad 0), .int (nI c), .int y, .ref ao] (pOZ D (tX ca) (wX ad ca T n kc ko kv k lo hi bw bb pk) ao co ov lz sa)) (va_Qi (fun z (_ : Unit) => z = nI 1) (fun u t => va_P D c2 ((fun _ => wX ad ca T n kc ko kv k lo hi bw bb pk) u) t.heap ∧ va_P D c2 (wO ao co ov) t.heap) (fO ad ao)) 1 6 (fun q => lz ≤ q) := by
  refine wmet_of RL rfl (by decide) (Nat.le_of_ble_eq_true rfl) (fun p e s m below meth cd ls E hr hlk hex hB hl => ?_)
  obtain ⟨hP, hO, hK, hKO, hZ⟩ := hB
  have hl : lv_has ls 5 [(0, .ref (ad 0)), (1, .int (nI c)), (2, .int y), (3, .ref ao)] := hl
  refine lv_aload_n E.1 E.2.1 dL_pairs_0 rfl (lv_at hl 3 rfl) ?_
  refine lv_iconst (v := nI 0) E.1 E.2.1 dL_pairs_1 rfl ?_
  refine lv_aload_n E.1 E.2.1 dL_pairs_2 rfl (lv_at hl 0 rfl) ?_
  refine lv_iload_n E.1 E.2.1 dL_pairs_3 rfl (lv_at hl 1 rfl) ?_
  refine lv_iload_n E.1 E.2.1 dL_pairs_4 rfl (lv_at hl 2 rfl) ?_
  refine x_got (xrun_V E (As := [.int (nI c), .int y]) (rest := [.int (nI 0), .ref ao]) (xX_pairs1o l D ad ca T n kc ko kv k lo hi bw bb pk lz sa c y hc hy hlt hlo) kL_52 rfl rfl ⟨Nat.le_of_ble_eq_true rfl, Nat.le_of_ble_eq_true rfl⟩ ⟨(preZ hK hP hZ (.ref (ad 0) :: [.int (nI c), .int y])).1, va_recv hK hP rfl (q0 := 0) rfl, (preZ hK hP hZ (.ref (ad 0) :: [.int (nI c), .int y])).2⟩ rfl hl.1 rfl (Nat.le_of_ble_eq_true rfl) dL_pairs_5 ⟨Nat.le_of_ble_eq_true rfl, Nat.le_of_ble_eq_true rfl⟩) (fun ce q9 u5 H locs hP hsz hfr hlc hce hcv hcl => ?_)
  have hO := apart_kept hO (wO_d hao) hfr
  refine vx_catch (name := cIAE) E.2.2.2.1 [] ⟨0, 10, 13, 19⟩ [] (by rw [hex]; rfl) (fun z hz => nomatch hz) rfl (by decide) (E.2.2.2.2 _ clL_19) (va_Nw.use rfl (hZ.2.2.1 _ bc_IAE)) hce hcv hcl ?_
  refine lv_astore (lv' := [(4, .ref q9), (0, .ref (ad 0)), (1, .int (nI c)), (2, .int y), (3, .ref ao)]) E.1 E.2.1 dL_pairs_13 hl (by decide) rfl (fun ls hl => ?_)
  refine lv_iconst (v := nI 1) E.1 E.2.1 dL_pairs_15 rfl ?_
  exact e_cx (S := Unit) (post := fun z (_ : Unit) => z = nI 1) (w1 := (fun _ => wX ad ca T n kc ko kv k lo hi bw bb pk)) E hr hlk u5 rfl hP hO hsz hfr hlc dL_pairs_16
set_option maxHeartbeats 4000000 in
set_option maxRecDepth 100000 in
theorem vL_way1 (l : Launch) (D : va_G) (ad : Nat → Nat) (ca : Nat → ClassId) (T : Nat → Nat → Int64) (n : Nat) (kc ko : Nat → Nat) (kv : Nat → Int64) (k : Nat) (lo hi : Nat → Int64) (bw bb pk : Nat → Nat) (ao : Nat) (co : ClassId) (ov : Nat → Int64) (lz : Nat) (sa : Nat → Nat) (y x : Int32) (hx : x < 0 ∨ nI 4 ≤ x) (hao : ¬ fA ad 10 ao) (hlt : l.stackTraces = false) (hlo : ∀ q, fA ad 10 q → lz ≤ q) : Met l yL_way (wW yL_way cL_way 5 (some .int) [(0, 10, 13, 19), (0, 10, 17, 21)]) (rX 2) (va_Pc [.ref (ad 0), .int y, .int x, .ref ao] (pOZ D (tX ca) (wX ad ca T n kc ko kv k lo hi bw bb pk) ao co ov lz sa)) (va_Qi (fun z (_ : Unit) => z = nI 1) (fun u t => va_P D c2 ((fun _ => wX ad ca T n kc ko kv k lo hi bw bb pk) u) t.heap ∧ va_P D c2 (wO ao co ov) t.heap) (fO ad ao)) 1 6 (fun q => lz ≤ q) := by
  refine wmet_of RL rfl (by decide) (Nat.le_of_ble_eq_true rfl) (fun p e s m below meth cd ls E hr hlk hex hB hl => ?_)
  obtain ⟨hP, hO, hK, hKO, hZ⟩ := hB
  have hl : lv_has ls 5 [(0, .ref (ad 0)), (1, .int y), (2, .int x), (3, .ref ao)] := hl
  refine lv_aload_n E.1 E.2.1 dL_way_0 rfl (lv_at hl 3 rfl) ?_
  refine lv_iconst (v := nI 0) E.1 E.2.1 dL_way_1 rfl ?_
  refine lv_aload_n E.1 E.2.1 dL_way_2 rfl (lv_at hl 0 rfl) ?_
  refine lv_iload_n E.1 E.2.1 dL_way_3 rfl (lv_at hl 1 rfl) ?_
  refine lv_iload_n E.1 E.2.1 dL_way_4 rfl (lv_at hl 2 rfl) ?_
  refine x_got (xrun_V E (As := [.int y, .int x]) (rest := [.int (nI 0), .ref ao]) (xX_way1 l D ad ca T n kc ko kv k lo hi bw bb pk lz sa y x hx hlt hlo) kL_55 rfl rfl ⟨Nat.le_of_ble_eq_true rfl, Nat.le_of_ble_eq_true rfl⟩ ⟨(preZ hK hP hZ (.ref (ad 0) :: [.int y, .int x])).1, va_recv hK hP rfl (q0 := 0) rfl, (preZ hK hP hZ (.ref (ad 0) :: [.int y, .int x])).2⟩ rfl hl.1 rfl (Nat.le_of_ble_eq_true rfl) dL_way_5 ⟨Nat.le_of_ble_eq_true rfl, Nat.le_of_ble_eq_true rfl⟩) (fun ce q9 u5 H locs hP hsz hfr hlc hce hcv hcl => ?_)
  have hO := apart_kept hO (wO_d hao) hfr
  refine vx_catch (name := cIAE) E.2.2.2.1 [] ⟨0, 10, 13, 19⟩ [⟨0, 10, 17, 21⟩] (by rw [hex]; rfl) (fun z hz => nomatch hz) rfl (by decide) (E.2.2.2.2 _ clL_19) (va_Nw.use rfl (hZ.2.2.1 _ bc_IAE)) hce hcv hcl ?_
  refine lv_astore (lv' := [(4, .ref q9), (0, .ref (ad 0)), (1, .int y), (2, .int x), (3, .ref ao)]) E.1 E.2.1 dL_way_13 hl (by decide) rfl (fun ls hl => ?_)
  refine lv_iconst (v := nI 1) E.1 E.2.1 dL_way_15 rfl ?_
  exact e_cx (S := Unit) (post := fun z (_ : Unit) => z = nI 1) (w1 := (fun _ => wX ad ca T n kc ko kv k lo hi bw bb pk)) E hr hlk u5 rfl hP hO hsz hfr hlc dL_way_16
set_option maxHeartbeats 4000000 in
set_option maxRecDepth 100000 in
theorem vL_way2 (l : Launch) (D : va_G) (ad : Nat → Nat) (ca : Nat → ClassId) (T : Nat → Nat → Int64) (n : Nat) (kc ko : Nat → Nat) (kv : Nat → Int64) (k : Nat) (lo hi : Nat → Int64) (bw bb pk : Nat → Nat) (ao : Nat) (co : ClassId) (ov : Nat → Int64) (lz : Nat) (sa : Nat → Nat) (y : Int32) (c : Nat) (hn128 : n ≤ 128) (hc : c < 4) (hy : y < 0 ∨ nI (n / 16) ≤ y) (hao : ¬ fA ad 10 ao) (hlt : l.stackTraces = false) (hlo : ∀ q, fA ad 10 q → lz ≤ q) : Met l yL_way (wW yL_way cL_way 5 (some .int) [(0, 10, 13, 19), (0, 10, 17, 21)]) (rX 3) (va_Pc [.ref (ad 0), .int y, .int (nI c), .ref ao] (pOZ D (tX ca) (wX ad ca T n kc ko kv k lo hi bw bb pk) ao co ov lz sa)) (va_Qi (fun z (_ : Unit) => z = nI 2) (fun u t => va_P D c2 ((fun _ => wX ad ca T n kc ko kv k lo hi bw bb pk) u) t.heap ∧ va_P D c2 (wO ao co ov) t.heap) (fO ad ao)) 1 6 (fun q => lz ≤ q) := by
  refine wmet_of RL rfl (by decide) (Nat.le_of_ble_eq_true rfl) (fun p e s m below meth cd ls E hr hlk hex hB hl => ?_)
  obtain ⟨hP, hO, hK, hKO, hZ⟩ := hB
  have hl : lv_has ls 5 [(0, .ref (ad 0)), (1, .int y), (2, .int (nI c)), (3, .ref ao)] := hl
  refine lv_aload_n E.1 E.2.1 dL_way_0 rfl (lv_at hl 3 rfl) ?_
  refine lv_iconst (v := nI 0) E.1 E.2.1 dL_way_1 rfl ?_
  refine lv_aload_n E.1 E.2.1 dL_way_2 rfl (lv_at hl 0 rfl) ?_
  refine lv_iload_n E.1 E.2.1 dL_way_3 rfl (lv_at hl 1 rfl) ?_
  refine lv_iload_n E.1 E.2.1 dL_way_4 rfl (lv_at hl 2 rfl) ?_
  refine x_got (xrun_V E (As := [.int y, .int (nI c)]) (rest := [.int (nI 0), .ref ao]) (xX_way2 l D ad ca T n kc ko kv k lo hi bw bb pk lz sa y c hn128 hc hy hlt hlo) kL_55 rfl rfl ⟨Nat.le_of_ble_eq_true rfl, Nat.le_of_ble_eq_true rfl⟩ ⟨(preZ hK hP hZ (.ref (ad 0) :: [.int y, .int (nI c)])).1, va_recv hK hP rfl (q0 := 0) rfl, (preZ hK hP hZ (.ref (ad 0) :: [.int y, .int (nI c)])).2⟩ rfl hl.1 rfl (Nat.le_of_ble_eq_true rfl) dL_way_5 ⟨Nat.le_of_ble_eq_true rfl, Nat.le_of_ble_eq_true rfl⟩) (fun ce q9 u5 H locs hP hsz hfr hlc hce hcv hcl => ?_)
  have hO := apart_kept hO (wO_d hao) hfr
  refine vx_catch (name := cIOB) E.2.2.2.1 [⟨0, 10, 13, 19⟩] ⟨0, 10, 17, 21⟩ [] (by rw [hex]; rfl) (fun z hz => by rw [List.mem_singleton.mp hz]; exact Or.inr ⟨by decide, cIAE, E.2.2.2.2 _ clL_19, hZ.2.2.2.2.1⟩) rfl (by decide) (E.2.2.2.2 _ clL_21) (va_Nw.use rfl (hZ.2.2.1 _ bc_IOB)) hce hcv hcl ?_
  refine lv_astore (lv' := [(4, .ref q9), (0, .ref (ad 0)), (1, .int y), (2, .int (nI c)), (3, .ref ao)]) E.1 E.2.1 dL_way_17 hl (by decide) rfl (fun ls hl => ?_)
  refine lv_iconst (v := nI 2) E.1 E.2.1 dL_way_19 rfl ?_
  exact e_cx (S := Unit) (post := fun z (_ : Unit) => z = nI 2) (w1 := (fun _ => wX ad ca T n kc ko kv k lo hi bw bb pk)) E hr hlk u5 rfl hP hO hsz hfr hlc dL_way_20
set_option maxHeartbeats 4000000 in
set_option maxRecDepth 100000 in
theorem vL_bits1 (l : Launch) (D : va_G) (ad : Nat → Nat) (ca : Nat → ClassId) (T : Nat → Nat → Int64) (n : Nat) (kc ko : Nat → Nat) (kv : Nat → Int64) (k : Nat) (lo hi : Nat → Int64) (bw bb pk : Nat → Nat) (ao : Nat) (co : ClassId) (ov : Nat → Int64) (lz : Nat) (sa : Nat → Nat) (y x : Int32) (hx : x < 0 ∨ nI 4 ≤ x) (hao : ¬ fA ad 10 ao) (hlt : l.stackTraces = false) (hlo : ∀ q, fA ad 10 q → lz ≤ q) : Met l yL_bits (wW yL_bits cL_bits 5 (some .int) [(0, 10, 13, 19), (0, 10, 17, 21)]) (rX 2) (va_Pc [.ref (ad 0), .int y, .int x, .ref ao] (pOZ D (tX ca) (wX ad ca T n kc ko kv k lo hi bw bb pk) ao co ov lz sa)) (va_Qi (fun z (_ : Unit) => z = nI 1) (fun u t => va_P D c2 ((fun _ => wX ad ca T n kc ko kv k lo hi bw bb pk) u) t.heap ∧ va_P D c2 (wO ao co ov) t.heap) (fO ad ao)) 1 6 (fun q => lz ≤ q) := by
  refine wmet_of RL rfl (by decide) (Nat.le_of_ble_eq_true rfl) (fun p e s m below meth cd ls E hr hlk hex hB hl => ?_)
  obtain ⟨hP, hO, hK, hKO, hZ⟩ := hB
  have hl : lv_has ls 5 [(0, .ref (ad 0)), (1, .int y), (2, .int x), (3, .ref ao)] := hl
  refine lv_aload_n E.1 E.2.1 dL_bits_0 rfl (lv_at hl 3 rfl) ?_
  refine lv_iconst (v := nI 0) E.1 E.2.1 dL_bits_1 rfl ?_
  refine lv_aload_n E.1 E.2.1 dL_bits_2 rfl (lv_at hl 0 rfl) ?_
  refine lv_iload_n E.1 E.2.1 dL_bits_3 rfl (lv_at hl 1 rfl) ?_
  refine lv_iload_n E.1 E.2.1 dL_bits_4 rfl (lv_at hl 2 rfl) ?_
  refine x_got (xrun_V E (As := [.int y, .int x]) (rest := [.int (nI 0), .ref ao]) (xX_bits1 l D ad ca T n kc ko kv k lo hi bw bb pk lz sa y x hx hlt hlo) kL_58 rfl rfl ⟨Nat.le_of_ble_eq_true rfl, Nat.le_of_ble_eq_true rfl⟩ ⟨(preZ hK hP hZ (.ref (ad 0) :: [.int y, .int x])).1, va_recv hK hP rfl (q0 := 0) rfl, (preZ hK hP hZ (.ref (ad 0) :: [.int y, .int x])).2⟩ rfl hl.1 rfl (Nat.le_of_ble_eq_true rfl) dL_bits_5 ⟨Nat.le_of_ble_eq_true rfl, Nat.le_of_ble_eq_true rfl⟩) (fun ce q9 u5 H locs hP hsz hfr hlc hce hcv hcl => ?_)
  have hO := apart_kept hO (wO_d hao) hfr
  refine vx_catch (name := cIAE) E.2.2.2.1 [] ⟨0, 10, 13, 19⟩ [⟨0, 10, 17, 21⟩] (by rw [hex]; rfl) (fun z hz => nomatch hz) rfl (by decide) (E.2.2.2.2 _ clL_19) (va_Nw.use rfl (hZ.2.2.1 _ bc_IAE)) hce hcv hcl ?_
  refine lv_astore (lv' := [(4, .ref q9), (0, .ref (ad 0)), (1, .int y), (2, .int x), (3, .ref ao)]) E.1 E.2.1 dL_bits_13 hl (by decide) rfl (fun ls hl => ?_)
  refine lv_iconst (v := nI 1) E.1 E.2.1 dL_bits_15 rfl ?_
  exact e_cx (S := Unit) (post := fun z (_ : Unit) => z = nI 1) (w1 := (fun _ => wX ad ca T n kc ko kv k lo hi bw bb pk)) E hr hlk u5 rfl hP hO hsz hfr hlc dL_bits_16
set_option maxHeartbeats 4000000 in
set_option maxRecDepth 100000 in
theorem vL_bits2 (l : Launch) (D : va_G) (ad : Nat → Nat) (ca : Nat → ClassId) (T : Nat → Nat → Int64) (n : Nat) (kc ko : Nat → Nat) (kv : Nat → Int64) (k : Nat) (lo hi : Nat → Int64) (bw bb pk : Nat → Nat) (ao : Nat) (co : ClassId) (ov : Nat → Int64) (lz : Nat) (sa : Nat → Nat) (y : Int32) (c : Nat) (hn128 : n ≤ 128) (hc : c < 4) (hy : y < 0 ∨ nI (n / 16) ≤ y) (hao : ¬ fA ad 10 ao) (hlt : l.stackTraces = false) (hlo : ∀ q, fA ad 10 q → lz ≤ q) : Met l yL_bits (wW yL_bits cL_bits 5 (some .int) [(0, 10, 13, 19), (0, 10, 17, 21)]) (rX 3) (va_Pc [.ref (ad 0), .int y, .int (nI c), .ref ao] (pOZ D (tX ca) (wX ad ca T n kc ko kv k lo hi bw bb pk) ao co ov lz sa)) (va_Qi (fun z (_ : Unit) => z = nI 2) (fun u t => va_P D c2 ((fun _ => wX ad ca T n kc ko kv k lo hi bw bb pk) u) t.heap ∧ va_P D c2 (wO ao co ov) t.heap) (fO ad ao)) 1 6 (fun q => lz ≤ q) := by
  refine wmet_of RL rfl (by decide) (Nat.le_of_ble_eq_true rfl) (fun p e s m below meth cd ls E hr hlk hex hB hl => ?_)
  obtain ⟨hP, hO, hK, hKO, hZ⟩ := hB
  have hl : lv_has ls 5 [(0, .ref (ad 0)), (1, .int y), (2, .int (nI c)), (3, .ref ao)] := hl
  refine lv_aload_n E.1 E.2.1 dL_bits_0 rfl (lv_at hl 3 rfl) ?_
  refine lv_iconst (v := nI 0) E.1 E.2.1 dL_bits_1 rfl ?_
  refine lv_aload_n E.1 E.2.1 dL_bits_2 rfl (lv_at hl 0 rfl) ?_
  refine lv_iload_n E.1 E.2.1 dL_bits_3 rfl (lv_at hl 1 rfl) ?_
  refine lv_iload_n E.1 E.2.1 dL_bits_4 rfl (lv_at hl 2 rfl) ?_
  refine x_got (xrun_V E (As := [.int y, .int (nI c)]) (rest := [.int (nI 0), .ref ao]) (xX_bits2 l D ad ca T n kc ko kv k lo hi bw bb pk lz sa y c hn128 hc hy hlt hlo) kL_58 rfl rfl ⟨Nat.le_of_ble_eq_true rfl, Nat.le_of_ble_eq_true rfl⟩ ⟨(preZ hK hP hZ (.ref (ad 0) :: [.int y, .int (nI c)])).1, va_recv hK hP rfl (q0 := 0) rfl, (preZ hK hP hZ (.ref (ad 0) :: [.int y, .int (nI c)])).2⟩ rfl hl.1 rfl (Nat.le_of_ble_eq_true rfl) dL_bits_5 ⟨Nat.le_of_ble_eq_true rfl, Nat.le_of_ble_eq_true rfl⟩) (fun ce q9 u5 H locs hP hsz hfr hlc hce hcv hcl => ?_)
  have hO := apart_kept hO (wO_d hao) hfr
  refine vx_catch (name := cIOB) E.2.2.2.1 [⟨0, 10, 13, 19⟩] ⟨0, 10, 17, 21⟩ [] (by rw [hex]; rfl) (fun z hz => by rw [List.mem_singleton.mp hz]; exact Or.inr ⟨by decide, cIAE, E.2.2.2.2 _ clL_19, hZ.2.2.2.2.1⟩) rfl (by decide) (E.2.2.2.2 _ clL_21) (va_Nw.use rfl (hZ.2.2.1 _ bc_IOB)) hce hcv hcl ?_
  refine lv_astore (lv' := [(4, .ref q9), (0, .ref (ad 0)), (1, .int y), (2, .int (nI c)), (3, .ref ao)]) E.1 E.2.1 dL_bits_17 hl (by decide) rfl (fun ls hl => ?_)
  refine lv_iconst (v := nI 2) E.1 E.2.1 dL_bits_19 rfl ?_
  exact e_cx (S := Unit) (post := fun z (_ : Unit) => z = nI 2) (w1 := (fun _ => wX ad ca T n kc ko kv k lo hi bw bb pk)) E hr hlk u5 rfl hP hO hsz hfr hlc dL_bits_20
