/-! Contracts of the model: laid by program (wip/whole/gen.py). -/
set_option maxHeartbeats 4000000 in
set_option maxRecDepth 100000 in
theorem cR_thrown (l : Launch) (D : va_G) (ad : Nat → Nat) (ca : Nat → ClassId) (T : Nat → Nat → Int64) (n : Nat) (kc ko : Nat → Nat) (kv : Nat → Int64) (k cd : Nat)   : Met l yX1_thrown (wA yX1_thrown cX1_thrown 1 (some .int)) (rN 0) (va_Pc [.ref (ad 0)] (pW D c2 (tR ca) (wR ad ca T n kc ko kv k cd))) (vp_Si (fun z => z = nI cd)) 0 0 (fun _ => False) := by
  refine met_of RX1 rfl (by decide) (Nat.le_of_ble_eq_true rfl) (fun p e s m below meth cd0 ls E hr hlk _ hB hl => ?_)
  obtain ⟨hP, hK⟩ := hB
  have hl : lv_has ls 1 [(0, .ref (ad 0))] := hl
  refine lv_aload_n E.1 E.2.1 dX1_thrown_0 rfl (lv_at hl 0 rfl) ?_
  refine n_get E inR hK hP 0 rfl rfl 0 (by decide) flR_23 rfl rfl dX1_thrown_1 ?_
  exact e_i E hr hlk rfl dX1_thrown_4
set_option maxHeartbeats 4000000 in
set_option maxRecDepth 100000 in
theorem cR_isColumn (l : Launch) (x : Int32)  : Met l yX1_isColumn (wA yX1_isColumn cX1_isColumn 1 (some .boolean)) (rN 0) (va_Pc [.int x] (fun _ => True)) (vp_Si (fun z => z = bI (isC x))) 0 0 (fun _ => False) := by
  refine met_of RX1 rfl (by decide) (Nat.le_of_ble_eq_true rfl) (fun p e s m below meth cd0 ls E hr hlk _ hB hl => ?_)
  have hl : lv_has ls 1 [(0, .int x)] := hl
  refine lv_iload_n E.1 E.2.1 dX1_isColumn_0 rfl (lv_at hl 0 rfl) ?_
  refine lv_if_lt (tgt := 13) E.1 E.2.1 dX1_isColumn_1 rfl (fun h1 => ?_) (fun h1 => ?_)
  · skip
    refine lv_iconst (v := nI 0) E.1 E.2.1 dX1_isColumn_13 rfl ?_
    exact e_z E hr hlk (show _ = _ from congrArg bI (show false = _ from by simp [isC, h1])) dX1_isColumn_14
  · skip
    refine lv_iload_n E.1 E.2.1 dX1_isColumn_4 rfl (lv_at hl 0 rfl) ?_
    refine lv_iconst (v := nI 3) E.1 E.2.1 dX1_isColumn_5 rfl ?_
    refine lv_icmp_gt (tgt := 13) E.1 E.2.1 dX1_isColumn_6 rfl (fun h6 => ?_) (fun h6 => ?_)
    · skip
      refine lv_iconst (v := nI 0) E.1 E.2.1 dX1_isColumn_13 rfl ?_
      exact e_z E hr hlk (show _ = _ from congrArg bI (show false = _ from by simp [isC, h1, h6])) dX1_isColumn_14
    · skip
      refine lv_iconst (v := nI 1) E.1 E.2.1 dX1_isColumn_9 rfl ?_
      refine lv_goto (tgt := 14) E.1 E.2.1 dX1_isColumn_10 rfl ?_
      exact e_z E hr hlk (show _ = _ from congrArg bI (show true = _ from by simp [isC, h1, h6])) dX1_isColumn_14
set_option maxHeartbeats 4000000 in
set_option maxRecDepth 100000 in
theorem cR_holds (l : Launch) (o : Nat) (x v : Int64) (ho : o < 6) : Met l yX1_holds (wA yX1_holds cX1_holds 5 (some .boolean)) (rN 0) (va_Pc [.int (nI o), .long x, .long v] (fun _ => True)) (vp_Si (fun z => z = bI (hO o x v))) 0 0 (fun _ => False) := by
  refine met_of RX1 rfl (by decide) (Nat.le_of_ble_eq_true rfl) (fun p e s m below meth cd0 ls E hr hlk _ hB hl => ?_)
  have hl : lv_has ls 5 [(0, .int (nI o)), (1, .long x), (3, .long v)] := hl
  refine lv_iload_n E.1 E.2.1 dX1_holds_0 rfl (lv_at hl 0 rfl) ?_
  rcases o6 ho with rfl | rfl | rfl | rfl | rfl | rfl
  · skip
    refine lv_tableIn (off := 35) (tgt := 36) E.1 E.2.1 dX1_holds_1 (by decide) (by decide) (by decide) rfl ?_
    refine lv_lload_n E.1 E.2.1 dX1_holds_36 rfl (lv_at hl 1 rfl) ?_
    refine lv_lload_n E.1 E.2.1 dX1_holds_37 rfl (lv_at hl 2 rfl) ?_
    refine l_if_ge (tgt := 46) E dX1_holds_38 dX1_holds_39 rfl (fun h38 => ?_) (fun h38 => ?_)
    · skip
      refine lv_iconst (v := nI 0) E.1 E.2.1 dX1_holds_46 rfl ?_
      exact e_z E hr hlk (show _ = _ from congrArg bI (show false = _ from by simp [hO, h38])) dX1_holds_47
    · skip
      refine lv_iconst (v := nI 1) E.1 E.2.1 dX1_holds_42 rfl ?_
      refine lv_goto (tgt := 47) E.1 E.2.1 dX1_holds_43 rfl ?_
      exact e_z E hr hlk (show _ = _ from congrArg bI (show true = _ from by simp [hO, h38])) dX1_holds_47
  · skip
    refine lv_tableIn (off := 47) (tgt := 48) E.1 E.2.1 dX1_holds_1 (by decide) (by decide) (by decide) rfl ?_
    refine lv_lload_n E.1 E.2.1 dX1_holds_48 rfl (lv_at hl 1 rfl) ?_
    refine lv_lload_n E.1 E.2.1 dX1_holds_49 rfl (lv_at hl 2 rfl) ?_
    refine l_if_gt (tgt := 58) E dX1_holds_50 dX1_holds_51 rfl (fun h50 => ?_) (fun h50 => ?_)
    · skip
      refine lv_iconst (v := nI 0) E.1 E.2.1 dX1_holds_58 rfl ?_
      exact e_z E hr hlk (show _ = _ from congrArg bI (show false = _ from by simp [hO, h50])) dX1_holds_59
    · skip
      refine lv_iconst (v := nI 1) E.1 E.2.1 dX1_holds_54 rfl ?_
      refine lv_goto (tgt := 59) E.1 E.2.1 dX1_holds_55 rfl ?_
      exact e_z E hr hlk (show _ = _ from congrArg bI (show true = _ from by simp [hO, h50])) dX1_holds_59
  · skip
    refine lv_tableIn (off := 59) (tgt := 60) E.1 E.2.1 dX1_holds_1 (by decide) (by decide) (by decide) rfl ?_
    refine lv_lload_n E.1 E.2.1 dX1_holds_60 rfl (lv_at hl 1 rfl) ?_
    refine lv_lload_n E.1 E.2.1 dX1_holds_61 rfl (lv_at hl 2 rfl) ?_
    refine l_if_ne (tgt := 70) E dX1_holds_62 dX1_holds_63 rfl (fun h62 => ?_) (fun h62 => ?_)
    · skip
      refine lv_iconst (v := nI 0) E.1 E.2.1 dX1_holds_70 rfl ?_
      exact e_z E hr hlk (show _ = _ from congrArg bI (show false = _ from by simp [hO, h62])) dX1_holds_71
    · skip
      refine lv_iconst (v := nI 1) E.1 E.2.1 dX1_holds_66 rfl ?_
      refine lv_goto (tgt := 71) E.1 E.2.1 dX1_holds_67 rfl ?_
      exact e_z E hr hlk (show _ = _ from congrArg bI (show true = _ from by simp [hO, h62])) dX1_holds_71
  · skip
    refine lv_tableIn (off := 71) (tgt := 72) E.1 E.2.1 dX1_holds_1 (by decide) (by decide) (by decide) rfl ?_
    refine lv_lload_n E.1 E.2.1 dX1_holds_72 rfl (lv_at hl 1 rfl) ?_
    refine lv_lload_n E.1 E.2.1 dX1_holds_73 rfl (lv_at hl 2 rfl) ?_
    refine l_if_lt (tgt := 82) E dX1_holds_74 dX1_holds_75 rfl (fun h74 => ?_) (fun h74 => ?_)
    · skip
      refine lv_iconst (v := nI 0) E.1 E.2.1 dX1_holds_82 rfl ?_
      exact e_z E hr hlk (show _ = _ from congrArg bI (show false = _ from by simp [hO, h74])) dX1_holds_83
    · skip
      refine lv_iconst (v := nI 1) E.1 E.2.1 dX1_holds_78 rfl ?_
      refine lv_goto (tgt := 83) E.1 E.2.1 dX1_holds_79 rfl ?_
      exact e_z E hr hlk (show _ = _ from congrArg bI (show true = _ from by simp [hO, h74])) dX1_holds_83
  · skip
    refine lv_tableIn (off := 83) (tgt := 84) E.1 E.2.1 dX1_holds_1 (by decide) (by decide) (by decide) rfl ?_
    refine lv_lload_n E.1 E.2.1 dX1_holds_84 rfl (lv_at hl 1 rfl) ?_
    refine lv_lload_n E.1 E.2.1 dX1_holds_85 rfl (lv_at hl 2 rfl) ?_
    refine l_if_le (tgt := 94) E dX1_holds_86 dX1_holds_87 rfl (fun h86 => ?_) (fun h86 => ?_)
    · skip
      refine lv_iconst (v := nI 0) E.1 E.2.1 dX1_holds_94 rfl ?_
      exact e_z E hr hlk (show _ = _ from congrArg bI (show false = _ from by simp [hO, h86])) dX1_holds_95
    · skip
      refine lv_iconst (v := nI 1) E.1 E.2.1 dX1_holds_90 rfl ?_
      refine lv_goto (tgt := 95) E.1 E.2.1 dX1_holds_91 rfl ?_
      exact e_z E hr hlk (show _ = _ from congrArg bI (show true = _ from by simp [hO, h86])) dX1_holds_95
  · skip
    refine lv_tableOut (tgt := 96) E.1 E.2.1 dX1_holds_1 (by decide) rfl ?_
    refine lv_lload_n E.1 E.2.1 dX1_holds_96 rfl (lv_at hl 1 rfl) ?_
    refine lv_lload_n E.1 E.2.1 dX1_holds_97 rfl (lv_at hl 2 rfl) ?_
    refine l_if_eq (tgt := 106) E dX1_holds_98 dX1_holds_99 rfl (fun h98 => ?_) (fun h98 => ?_)
    · skip
      refine lv_iconst (v := nI 0) E.1 E.2.1 dX1_holds_106 rfl ?_
      exact e_z E hr hlk (show _ = _ from congrArg bI (show false = _ from by simp [hO, h98])) dX1_holds_107
    · skip
      refine lv_iconst (v := nI 1) E.1 E.2.1 dX1_holds_102 rfl ?_
      refine lv_goto (tgt := 107) E.1 E.2.1 dX1_holds_103 rfl ?_
      exact e_z E hr hlk (show _ = _ from congrArg bI (show true = _ from by simp [hO, h98])) dX1_holds_107
set_option maxHeartbeats 4000000 in
set_option maxRecDepth 100000 in
theorem cR_isChosen (l : Launch) (D : va_G) (ad : Nat → Nat) (ca : Nat → ClassId) (T : Nat → Nat → Int64) (n : Nat) (kc ko : Nat → Nat) (kv : Nat → Int64) (k cd : Nat) (r : Nat) (hIK : iK kc ko k) (hr0 : r < 128) : Met l yX1_isChosen (wA yX1_isChosen cX1_isChosen 4 (some .boolean)) (rN 1) (va_Pc [.ref (ad 0), .int (nI r)] (pW D c2 (tR ca) (wR ad ca T n kc ko kv k cd))) (vp_Si (fun z => z = bI (ch T kc ko kv k r))) 0 0 (fun _ => False) := by
  refine met_of RX1 rfl (by decide) (Nat.le_of_ble_eq_true rfl) (fun p e s m below meth cd0 ls E hr hlk _ hB hl => ?_)
  obtain ⟨hP, hK⟩ := hB
  have hl : lv_has ls 4 [(0, .ref (ad 0)), (1, .int (nI r))] := hl
  obtain ⟨hk, hkc, hko⟩ := id hIK
  refine lv_iconst (v := nI 1) E.1 E.2.1 dX1_isChosen_0 rfl ?_
  refine lv_istore_n (lv' := [(2, .int (nI 1)), (0, .ref (ad 0)), (1, .int (nI r))]) E.1 E.2.1 dX1_isChosen_1 rfl hl (by decide) rfl (fun ls hl => ?_)
  refine lv_iconst (v := nI 0) E.1 E.2.1 dX1_isChosen_2 rfl ?_
  refine lv_istore_n (lv' := [(3, .int (nI 0)), (2, .int (nI 1)), (0, .ref (ad 0)), (1, .int (nI r))]) E.1 E.2.1 dX1_isChosen_3 rfl hl (by decide) rfl (fun ls hl => ?_)
  refine w_lp1 (fun (j : Nat) => j ≤ k) (fun (j : Nat) => k - j) (fun (j : Nat) => [(3, .int (nI j)), (2, .int (bI (al (fun i => hO (ko i) (T r (kc i)) (kv i)) j))), (0, .ref (ad 0)), (1, .int (nI r))]) 0 (Nat.zero_le _) (lv_sub hl [0, 1, 2, 3] rfl) (fun j ls hI hl ih4 => ?_)
  have hl : lv_has ls 4 [(3, .int (nI j)), (2, .int (bI (al (fun i => hO (ko i) (T r (kc i)) (kv i)) j))), (0, .ref (ad 0)), (1, .int (nI r))] := hl
  refine lv_iload_n E.1 E.2.1 dX1_isChosen_4 rfl (lv_at hl 0 rfl) ?_
  refine lv_aload_n E.1 E.2.1 dX1_isChosen_5 rfl (lv_at hl 2 rfl) ?_
  refine n_get E inR hK hP 0 rfl rfl 3 (by decide) flR_34 rfl rfl dX1_isChosen_6 ?_
  refine n_icmp_ge (tgt := 61) E dX1_isChosen_9 rfl (by omega) (by omega) (fun h9 => ?_) (fun h9 => ?_)
  · skip
    refine lv_iload_n E.1 E.2.1 dX1_isChosen_61 rfl (lv_at hl 1 rfl) ?_
    exact e_z E hr hlk (congrArg bI (by rw [ch, show k = j by omega])) dX1_isChosen_62
  · skip
    refine lv_iload_n E.1 E.2.1 dX1_isChosen_12 rfl (lv_at hl 1 rfl) ?_
    refine b_if_eq (tgt := 53) E dX1_isChosen_13 rfl (fun h13 => ?_) (fun h13 => ?_)
    · skip
      refine lv_iconst (v := nI 0) E.1 E.2.1 dX1_isChosen_53 rfl ?_
      refine tpi (y := bI (al (fun i => hO (ko i) (T r (kc i)) (kv i)) (j + 1))) (congrArg bI (al2 h13 rfl).symm) ?_
      refine lv_istore_n (lv' := [(2, .int (bI (al (fun i => hO (ko i) (T r (kc i)) (kv i)) (j + 1)))), (3, .int (nI j)), (0, .ref (ad 0)), (1, .int (nI r))]) E.1 E.2.1 dX1_isChosen_54 rfl hl (by decide) rfl (fun ls hl => ?_)
      refine lv_iinc (k := 1) (v := nI (j + 1)) (lv' := [(3, .int (nI (j + 1))), (2, .int (bI (al (fun i => hO (ko i) (T r (kc i)) (kv i)) (j + 1)))), (0, .ref (ad 0)), (1, .int (nI r))]) E.1 E.2.1 dX1_isChosen_55 hl rfl (inc1 _) (by decide) rfl (fun ls hl => ?_)
      refine lv_goto (tgt := 4) E.1 E.2.1 dX1_isChosen_58 rfl ?_
      exact ih4 (j + 1) _ (by omega) (by omega) (lv_sub hl [0, 1, 2, 3] rfl)
    · skip
      refine lv_aload_n E.1 E.2.1 dX1_isChosen_16 rfl (lv_at hl 2 rfl) ?_
      refine n_get E inR hK hP 0 rfl rfl 5 (by decide) flR_17 rfl rfl dX1_isChosen_17 ?_
      refine lv_iload_n E.1 E.2.1 dX1_isChosen_20 rfl (lv_at hl 0 rfl) ?_
      refine n_iald E hK hP 3 2 rfl rfl (by decide) (by omega) dX1_isChosen_21 ?_
      refine lv_aload_n E.1 E.2.1 dX1_isChosen_22 rfl (lv_at hl 2 rfl) ?_
      refine n_get E inR hK hP 0 rfl rfl 2 (by decide) flR_7 rfl rfl dX1_isChosen_23 ?_
      refine lv_iconst (v := nI 4) E.1 E.2.1 dX1_isChosen_26 rfl ?_
      refine lv_iload_n E.1 E.2.1 dX1_isChosen_27 rfl (lv_at hl 3 rfl) ?_
      refine n_imul E dX1_isChosen_28 ?_
      refine lv_aload_n E.1 E.2.1 dX1_isChosen_29 rfl (lv_at hl 2 rfl) ?_
      refine n_get E inR hK hP 0 rfl rfl 4 (by decide) flR_13 rfl rfl dX1_isChosen_30 ?_
      refine lv_iload_n E.1 E.2.1 dX1_isChosen_33 rfl (lv_at hl 0 rfl) ?_
      have hq := hkc j
      refine n_iald E hK hP 2 1 rfl rfl (by decide) (by omega) dX1_isChosen_34 ?_
      refine n_iadd E dX1_isChosen_35 ?_
      refine n_rald E hK hP 1 0 rfl rfl r (kc j) (by omega) (by omega) (by omega) dX1_isChosen_36 ?_
      refine lv_aload_n E.1 E.2.1 dX1_isChosen_37 rfl (lv_at hl 2 rfl) ?_
      refine n_get E inR hK hP 0 rfl rfl 6 (by decide) flR_20 rfl rfl dX1_isChosen_38 ?_
      refine lv_iload_n E.1 E.2.1 dX1_isChosen_41 rfl (lv_at hl 0 rfl) ?_
      refine n_lald E hK hP 4 3 rfl rfl (by decide) (by omega) dX1_isChosen_42 ?_
      refine cS_i E (As := [.int (nI (ko j)), .long (T r (kc j)), .long (kv j)]) (rest := []) (cR_holds l (ko j) (T r (kc j)) (kv j) (hko j)) kR_37 rfl rfl ⟨Nat.le_of_ble_eq_true rfl, Nat.le_of_ble_eq_true rfl⟩ rfl hl.1 rfl (Nat.le_of_ble_eq_true rfl) dX1_isChosen_43 ⟨Nat.zero_le _, Nat.zero_le _⟩ ?_
      refine b_if_eq (tgt := 53) E dX1_isChosen_46 rfl (fun h46 => ?_) (fun h46 => ?_)
      · skip
        refine lv_iconst (v := nI 0) E.1 E.2.1 dX1_isChosen_53 rfl ?_
        refine tpi (y := bI (al (fun i => hO (ko i) (T r (kc i)) (kv i)) (j + 1))) (congrArg bI (al2 h13 h46).symm) ?_
        refine lv_istore_n (lv' := [(2, .int (bI (al (fun i => hO (ko i) (T r (kc i)) (kv i)) (j + 1)))), (3, .int (nI j)), (0, .ref (ad 0)), (1, .int (nI r))]) E.1 E.2.1 dX1_isChosen_54 rfl hl (by decide) rfl (fun ls hl => ?_)
        refine lv_iinc (k := 1) (v := nI (j + 1)) (lv' := [(3, .int (nI (j + 1))), (2, .int (bI (al (fun i => hO (ko i) (T r (kc i)) (kv i)) (j + 1)))), (0, .ref (ad 0)), (1, .int (nI r))]) E.1 E.2.1 dX1_isChosen_55 hl rfl (inc1 _) (by decide) rfl (fun ls hl => ?_)
        refine lv_goto (tgt := 4) E.1 E.2.1 dX1_isChosen_58 rfl ?_
        exact ih4 (j + 1) _ (by omega) (by omega) (lv_sub hl [0, 1, 2, 3] rfl)
      · skip
        refine lv_iconst (v := nI 1) E.1 E.2.1 dX1_isChosen_49 rfl ?_
        refine lv_goto (tgt := 54) E.1 E.2.1 dX1_isChosen_50 rfl ?_
        refine tpi (y := bI (al (fun i => hO (ko i) (T r (kc i)) (kv i)) (j + 1))) (congrArg bI (al2 h13 h46).symm) ?_
        refine lv_istore_n (lv' := [(2, .int (bI (al (fun i => hO (ko i) (T r (kc i)) (kv i)) (j + 1)))), (3, .int (nI j)), (0, .ref (ad 0)), (1, .int (nI r))]) E.1 E.2.1 dX1_isChosen_54 rfl hl (by decide) rfl (fun ls hl => ?_)
        refine lv_iinc (k := 1) (v := nI (j + 1)) (lv' := [(3, .int (nI (j + 1))), (2, .int (bI (al (fun i => hO (ko i) (T r (kc i)) (kv i)) (j + 1)))), (0, .ref (ad 0)), (1, .int (nI r))]) E.1 E.2.1 dX1_isChosen_55 hl rfl (inc1 _) (by decide) rfl (fun ls hl => ?_)
        refine lv_goto (tgt := 4) E.1 E.2.1 dX1_isChosen_58 rfl ?_
        exact ih4 (j + 1) _ (by omega) (by omega) (lv_sub hl [0, 1, 2, 3] rfl)
set_option maxHeartbeats 4000000 in
set_option maxRecDepth 100000 in
theorem cR_countChosen (l : Launch) (D : va_G) (ad : Nat → Nat) (ca : Nat → ClassId) (T : Nat → Nat → Int64) (n : Nat) (kc ko : Nat → Nat) (kv : Nat → Int64) (k cd : Nat)  (hIK : iK kc ko k) (hn128 : n ≤ 128) : Met l yX1_countChosen (wA yX1_countChosen cX1_countChosen 3 (some .int)) (rN 2) (va_Pc [.ref (ad 0)] (pW D c2 (tR ca) (wR ad ca T n kc ko kv k cd))) (vp_Si (fun z => z = nI (ct (ch T kc ko kv k) n))) 0 0 (fun _ => False) := by
  refine met_of RX1 rfl (by decide) (Nat.le_of_ble_eq_true rfl) (fun p e s m below meth cd0 ls E hr hlk _ hB hl => ?_)
  obtain ⟨hP, hK⟩ := hB
  have hl : lv_has ls 3 [(0, .ref (ad 0))] := hl
  refine lv_iconst (v := nI 0) E.1 E.2.1 dX1_countChosen_0 rfl ?_
  refine lv_istore_n (lv' := [(1, .int (nI 0)), (0, .ref (ad 0))]) E.1 E.2.1 dX1_countChosen_1 rfl hl (by decide) rfl (fun ls hl => ?_)
  refine lv_iconst (v := nI 0) E.1 E.2.1 dX1_countChosen_2 rfl ?_
  refine lv_istore_n (lv' := [(2, .int (nI 0)), (1, .int (nI 0)), (0, .ref (ad 0))]) E.1 E.2.1 dX1_countChosen_3 rfl hl (by decide) rfl (fun ls hl => ?_)
  refine w_lp1 (fun (r : Nat) => r ≤ n) (fun (r : Nat) => n - r) (fun (r : Nat) => [(2, .int (nI r)), (1, .int (nI (ct (ch T kc ko kv k) r))), (0, .ref (ad 0))]) 0 (Nat.zero_le _) (lv_sub hl [0, 1, 2] rfl) (fun r ls hI hl ih4 => ?_)
  have hl : lv_has ls 3 [(2, .int (nI r)), (1, .int (nI (ct (ch T kc ko kv k) r))), (0, .ref (ad 0))] := hl
  refine lv_iload_n E.1 E.2.1 dX1_countChosen_4 rfl (lv_at hl 0 rfl) ?_
  refine lv_aload_n E.1 E.2.1 dX1_countChosen_5 rfl (lv_at hl 2 rfl) ?_
  refine n_get E inR hK hP 0 rfl rfl 1 (by decide) flR_27 rfl rfl dX1_countChosen_6 ?_
  refine n_icmp_ge (tgt := 34) E dX1_countChosen_9 rfl (by omega) (by omega) (fun h9 => ?_) (fun h9 => ?_)
  · skip
    refine lv_iload_n E.1 E.2.1 dX1_countChosen_34 rfl (lv_at hl 1 rfl) ?_
    exact e_i E hr hlk (by rw [show n = r by omega]) dX1_countChosen_35
  · skip
    refine lv_iload_n E.1 E.2.1 dX1_countChosen_12 rfl (lv_at hl 1 rfl) ?_
    refine lv_aload_n E.1 E.2.1 dX1_countChosen_13 rfl (lv_at hl 2 rfl) ?_
    refine lv_iload_n E.1 E.2.1 dX1_countChosen_14 rfl (lv_at hl 0 rfl) ?_
    refine cV_i E (As := [.int (nI r)]) (rest := [.int (nI (ct (ch T kc ko kv k) r))]) (cR_isChosen l D ad ca T n kc ko kv k cd r hIK (by omega)) kR_41 hK hP 0 rfl rfl rfl rfl ⟨Nat.le_of_ble_eq_true rfl, Nat.le_of_ble_eq_true rfl⟩ rfl hl.1 rfl (Nat.le_of_ble_eq_true rfl) dX1_countChosen_15 ⟨Nat.zero_le _, Nat.zero_le _⟩ ?_
    refine b_if_eq (tgt := 25) E dX1_countChosen_18 rfl (fun h18 => ?_) (fun h18 => ?_)
    · skip
      refine lv_iconst (v := nI 0) E.1 E.2.1 dX1_countChosen_25 rfl ?_
      refine n_iadd E dX1_countChosen_26 ?_
      refine lv_istore_n (lv' := [(1, .int (nI (ct (ch T kc ko kv k) r + 0))), (2, .int (nI r)), (0, .ref (ad 0))]) E.1 E.2.1 dX1_countChosen_27 rfl hl (by decide) rfl (fun ls hl => ?_)
      refine lv_iinc (k := 1) (v := nI (r + 1)) (lv' := [(2, .int (nI (r + 1))), (1, .int (nI (ct (ch T kc ko kv k) r + 0))), (0, .ref (ad 0))]) E.1 E.2.1 dX1_countChosen_28 hl rfl (inc1 _) (by decide) rfl (fun ls hl => ?_)
      refine lv_goto (tgt := 4) E.1 E.2.1 dX1_countChosen_31 rfl ?_
      rw [← ct_f (p := (ch T kc ko kv k)) h18] at hl
      exact ih4 (r + 1) _ (by omega) (by omega) (lv_sub hl [0, 1, 2] rfl)
    · skip
      refine lv_iconst (v := nI 1) E.1 E.2.1 dX1_countChosen_21 rfl ?_
      refine lv_goto (tgt := 26) E.1 E.2.1 dX1_countChosen_22 rfl ?_
      refine n_iadd E dX1_countChosen_26 ?_
      refine lv_istore_n (lv' := [(1, .int (nI (ct (ch T kc ko kv k) r + 1))), (2, .int (nI r)), (0, .ref (ad 0))]) E.1 E.2.1 dX1_countChosen_27 rfl hl (by decide) rfl (fun ls hl => ?_)
      refine lv_iinc (k := 1) (v := nI (r + 1)) (lv' := [(2, .int (nI (r + 1))), (1, .int (nI (ct (ch T kc ko kv k) r + 1))), (0, .ref (ad 0))]) E.1 E.2.1 dX1_countChosen_28 hl rfl (inc1 _) (by decide) rfl (fun ls hl => ?_)
      refine lv_goto (tgt := 4) E.1 E.2.1 dX1_countChosen_31 rfl ?_
      rw [← ct_t (p := (ch T kc ko kv k)) h18] at hl
      exact ih4 (r + 1) _ (by omega) (by omega) (lv_sub hl [0, 1, 2] rfl)
set_option maxHeartbeats 4000000 in
set_option maxRecDepth 100000 in
theorem cR_chosen (l : Launch) (D : va_G) (ad : Nat → Nat) (ca : Nat → ClassId) (T : Nat → Nat → Int64) (n : Nat) (kc ko : Nat → Nat) (kv : Nat → Int64) (k cd : Nat)  (hN : inj ad 5) (hIK : iK kc ko k) (hn128 : n ≤ 128) : Met l yX1_chosen (wA yX1_chosen cX1_chosen 1 (some .int)) (rN 3) (va_Pc [.ref (ad 0)] (pW D c2 (tR ca) (wR ad ca T n kc ko kv k cd))) (qI (fun z (_ : Unit) => z = nI (ct (ch T kc ko kv k) n)) D c2 (fun _ => wR ad ca T n kc ko kv k 0) (fA ad 5)) 0 0 (fA ad 5) := by
  refine met_of RX1 rfl (by decide) (Nat.le_of_ble_eq_true rfl) (fun p e s m below meth cd0 ls E hr hlk _ hB hl => ?_)
  obtain ⟨hP, hK⟩ := hB
  have hl : lv_has ls 1 [(0, .ref (ad 0))] := hl
  have hS : va_S (fA ad 5) s.heap s.heap [] := va_S.rf
  refine lv_aload_n E.1 E.2.1 dX1_chosen_0 rfl (lv_at hl 0 rfl) ?_
  refine lv_iconst (v := nI 0) E.1 E.2.1 dX1_chosen_1 rfl ?_
  refine n_put E inR tyR1 tyR1_ok nmR1 hK hP (dW hN rfl) hS 0 rfl rfl 0 (by decide) flR_23 rfl rfl (tyR1_ok 0 (by decide)) (Nat.le_of_ble_eq_true rfl) dX1_chosen_2 (fun H locs hP hS => ?_)
  have hP : va_P D c2 (wR ad ca T n kc ko kv k 0) H := hP
  refine lv_aload_n E.1 E.2.1 dX1_chosen_5 rfl (lv_at hl 0 rfl) ?_
  refine cV_i E (As := []) (rest := []) (cR_countChosen l D ad ca T n kc ko kv k 0 hIK hn128) kR_44 hK hP 0 rfl rfl rfl rfl ⟨Nat.le_of_ble_eq_true rfl, Nat.le_of_ble_eq_true rfl⟩ rfl hl.1 rfl (Nat.le_of_ble_eq_true rfl) dX1_chosen_6 ⟨Nat.zero_le _, Nat.zero_le _⟩ ?_
  exact e_wi E hr hlk hS () rfl hP dX1_chosen_9
set_option maxHeartbeats 4000000 in
set_option maxRecDepth 100000 in
theorem cR_rows (l : Launch) (D : va_G) (ad : Nat → Nat) (ca : Nat → ClassId) (T : Nat → Nat → Int64) (n : Nat) (kc ko : Nat → Nat) (kv : Nat → Int64) (k cd : Nat)  (hN : inj ad 5) : Met l yX1_rows (wA yX1_rows cX1_rows 1 (some .int)) (rN 0) (va_Pc [.ref (ad 0)] (pW D c2 (tR ca) (wR ad ca T n kc ko kv k cd))) (qI (fun z (_ : Unit) => z = nI n) D c2 (fun _ => wR ad ca T n kc ko kv k 0) (fA ad 5)) 0 0 (fA ad 5) := by
  refine met_of RX1 rfl (by decide) (Nat.le_of_ble_eq_true rfl) (fun p e s m below meth cd0 ls E hr hlk _ hB hl => ?_)
  obtain ⟨hP, hK⟩ := hB
  have hl : lv_has ls 1 [(0, .ref (ad 0))] := hl
  have hS : va_S (fA ad 5) s.heap s.heap [] := va_S.rf
  refine lv_aload_n E.1 E.2.1 dX1_rows_0 rfl (lv_at hl 0 rfl) ?_
  refine lv_iconst (v := nI 0) E.1 E.2.1 dX1_rows_1 rfl ?_
  refine n_put E inR tyR1 tyR1_ok nmR1 hK hP (dW hN rfl) hS 0 rfl rfl 0 (by decide) flR_23 rfl rfl (tyR1_ok 0 (by decide)) (Nat.le_of_ble_eq_true rfl) dX1_rows_2 (fun H locs hP hS => ?_)
  have hP : va_P D c2 (wR ad ca T n kc ko kv k 0) H := hP
  refine lv_aload_n E.1 E.2.1 dX1_rows_5 rfl (lv_at hl 0 rfl) ?_
  refine n_get E inR hK hP 0 rfl rfl 1 (by decide) flR_27 rfl rfl dX1_rows_6 ?_
  exact e_wi E hr hlk hS () rfl hP dX1_rows_9
set_option maxHeartbeats 4000000 in
set_option maxRecDepth 100000 in
theorem cR_all (l : Launch) (D : va_G) (ad : Nat → Nat) (ca : Nat → ClassId) (T : Nat → Nat → Int64) (n : Nat) (kc ko : Nat → Nat) (kv : Nat → Int64) (k cd : Nat)  (hN : inj ad 5) : Met l yX1_all (wA yX1_all cX1_all 2 (some .int)) (rN 0) (va_Pc [.ref (ad 0)] (pW D c2 (tR ca) (wR ad ca T n kc ko kv k cd))) (qI (fun z (_ : Unit) => z = nI k) D c2 (fun _ => wR ad ca T n kc ko kv 0 0) (fA ad 5)) 0 0 (fA ad 5) := by
  refine met_of RX1 rfl (by decide) (Nat.le_of_ble_eq_true rfl) (fun p e s m below meth cd0 ls E hr hlk _ hB hl => ?_)
  obtain ⟨hP, hK⟩ := hB
  have hl : lv_has ls 2 [(0, .ref (ad 0))] := hl
  have hS : va_S (fA ad 5) s.heap s.heap [] := va_S.rf
  refine lv_aload_n E.1 E.2.1 dX1_all_0 rfl (lv_at hl 0 rfl) ?_
  refine lv_iconst (v := nI 0) E.1 E.2.1 dX1_all_1 rfl ?_
  refine n_put E inR tyR1 tyR1_ok nmR1 hK hP (dW hN rfl) hS 0 rfl rfl 0 (by decide) flR_23 rfl rfl (tyR1_ok 0 (by decide)) (Nat.le_of_ble_eq_true rfl) dX1_all_2 (fun H locs hP hS => ?_)
  have hP : va_P D c2 (wR ad ca T n kc ko kv k 0) H := hP
  refine lv_aload_n E.1 E.2.1 dX1_all_5 rfl (lv_at hl 0 rfl) ?_
  refine n_get E inR hK hP 0 rfl rfl 3 (by decide) flR_34 rfl rfl dX1_all_6 ?_
  refine lv_istore_n (lv' := [(1, .int (nI k)), (0, .ref (ad 0))]) E.1 E.2.1 dX1_all_9 rfl hl (by decide) rfl (fun ls hl => ?_)
  refine lv_aload_n E.1 E.2.1 dX1_all_10 rfl (lv_at hl 1 rfl) ?_
  refine lv_iconst (v := nI 0) E.1 E.2.1 dX1_all_11 rfl ?_
  refine n_put E inR tyR1 tyR1_ok nmR1 hK hP (dW hN rfl) hS 0 rfl rfl 3 (by decide) flR_34 rfl rfl (tyR1_ok 3 (by decide)) (Nat.le_of_ble_eq_true rfl) dX1_all_12 (fun H locs hP hS => ?_)
  have hP : va_P D c2 (wR ad ca T n kc ko kv 0 0) H := hP
  refine lv_iload_n E.1 E.2.1 dX1_all_15 rfl (lv_at hl 0 rfl) ?_
  exact e_wi E hr hlk hS () rfl hP dX1_all_16
set_option maxHeartbeats 4000000 in
set_option maxRecDepth 100000 in
theorem cR_append (l : Launch) (D : va_G) (ad : Nat → Nat) (ca : Nat → ClassId) (T : Nat → Nat → Int64) (n : Nat) (kc ko : Nat → Nat) (kv : Nat → Int64) (k cd : Nat) (a0 b0 c0 : Int32) (d0 : Int64) (hN : inj ad 5) (hn : n < 128) : Met l yX1_append (wA yX1_append cX1_append 6 (some .int)) (rN 0) (va_Pc [.ref (ad 0), .int a0, .int b0, .int c0, .long d0] (pW D c2 (tR ca) (wR ad ca T n kc ko kv k cd))) (qI (fun z (_ : Unit) => z = nI n) D c2 (fun _ => wR ad ca (apT T n a0 b0 c0 d0) (n + 1) kc ko kv k 0) (fA ad 5)) 0 0 (fA ad 5) := by
  refine met_of RX1 rfl (by decide) (Nat.le_of_ble_eq_true rfl) (fun p e s m below meth cd0 ls E hr hlk _ hB hl => ?_)
  obtain ⟨hP, hK⟩ := hB
  have hl : lv_has ls 6 [(0, .ref (ad 0)), (1, .int a0), (2, .int b0), (3, .int c0), (4, .long d0)] := hl
  have hS : va_S (fA ad 5) s.heap s.heap [] := va_S.rf
  refine lv_aload_n E.1 E.2.1 dX1_append_0 rfl (lv_at hl 0 rfl) ?_
  refine lv_aload_n E.1 E.2.1 dX1_append_1 rfl (lv_at hl 0 rfl) ?_
  refine n_get E inR hK hP 0 rfl rfl 1 (by decide) flR_27 rfl rfl dX1_append_2 ?_
  refine lv_sipush (v := nI 128) E.1 E.2.1 dX1_append_5 rfl ?_
  refine n_icmp_ne (tgt := 15) E dX1_append_8 rfl (by omega) (by omega) (fun h8 => ?_) (fun h8 => ?_)
  · skip
    refine lv_iconst (v := nI 0) E.1 E.2.1 dX1_append_15 rfl ?_
    refine n_put E inR tyR1 tyR1_ok nmR1 hK hP (dW hN rfl) hS 0 rfl rfl 0 (by decide) flR_23 rfl rfl (tyR1_ok 0 (by decide)) (Nat.le_of_ble_eq_true rfl) dX1_append_16 (fun H locs hP hS => ?_)
    have hP : va_P D c2 (wR ad ca T n kc ko kv k 0) H := hP
    refine lv_aload_n E.1 E.2.1 dX1_append_19 rfl (lv_at hl 0 rfl) ?_
    refine n_get E inR hK hP 0 rfl rfl 0 (by decide) flR_23 rfl rfl dX1_append_20 ?_
    refine n_if_le (tgt := 28) E dX1_append_23 rfl (by decide) (fun _ => ?_) (fun h => absurd h (by decide))
    refine lv_aload_n E.1 E.2.1 dX1_append_28 rfl (lv_at hl 0 rfl) ?_
    refine n_get E inR hK hP 0 rfl rfl 2 (by decide) flR_7 rfl rfl dX1_append_29 ?_
    refine lv_iconst (v := nI 4) E.1 E.2.1 dX1_append_32 rfl ?_
    refine lv_aload_n E.1 E.2.1 dX1_append_33 rfl (lv_at hl 0 rfl) ?_
    refine n_get E inR hK hP 0 rfl rfl 1 (by decide) flR_27 rfl rfl dX1_append_34 ?_
    refine n_imul E dX1_append_37 ?_
    refine lv_iload_n E.1 E.2.1 dX1_append_38 rfl (lv_at hl 1 rfl) ?_
    refine lv_i2l E.1 E.2.1 dX1_append_39 rfl ?_
    refine n_rast E hK hP (dW hN rfl) hS 1 0 rfl rfl n 0 (by omega) (by omega) (by omega) dX1_append_40 (fun H locs hP hS => ?_)
    have hP : va_P D c2 (wR ad ca (tS T n 0 (Int32.toInt64 a0)) n kc ko kv k 0) H := hP
    refine lv_aload_n E.1 E.2.1 dX1_append_41 rfl (lv_at hl 0 rfl) ?_
    refine n_get E inR hK hP 0 rfl rfl 2 (by decide) flR_7 rfl rfl dX1_append_42 ?_
    refine lv_iconst (v := nI 4) E.1 E.2.1 dX1_append_45 rfl ?_
    refine lv_aload_n E.1 E.2.1 dX1_append_46 rfl (lv_at hl 0 rfl) ?_
    refine n_get E inR hK hP 0 rfl rfl 1 (by decide) flR_27 rfl rfl dX1_append_47 ?_
    refine n_imul E dX1_append_50 ?_
    refine lv_iconst (v := nI 1) E.1 E.2.1 dX1_append_51 rfl ?_
    refine n_iadd E dX1_append_52 ?_
    refine lv_iload_n E.1 E.2.1 dX1_append_53 rfl (lv_at hl 2 rfl) ?_
    refine lv_i2l E.1 E.2.1 dX1_append_54 rfl ?_
    refine n_rast E hK hP (dW hN rfl) hS 1 0 rfl rfl n 1 (by omega) (by omega) (by omega) dX1_append_55 (fun H locs hP hS => ?_)
    have hP : va_P D c2 (wR ad ca (tS (tS T n 0 (Int32.toInt64 a0)) n 1 (Int32.toInt64 b0)) n kc ko kv k 0) H := hP
    refine lv_aload_n E.1 E.2.1 dX1_append_56 rfl (lv_at hl 0 rfl) ?_
    refine n_get E inR hK hP 0 rfl rfl 2 (by decide) flR_7 rfl rfl dX1_append_57 ?_
    refine lv_iconst (v := nI 4) E.1 E.2.1 dX1_append_60 rfl ?_
    refine lv_aload_n E.1 E.2.1 dX1_append_61 rfl (lv_at hl 0 rfl) ?_
    refine n_get E inR hK hP 0 rfl rfl 1 (by decide) flR_27 rfl rfl dX1_append_62 ?_
    refine n_imul E dX1_append_65 ?_
    refine lv_iconst (v := nI 2) E.1 E.2.1 dX1_append_66 rfl ?_
    refine n_iadd E dX1_append_67 ?_
    refine lv_iload_n E.1 E.2.1 dX1_append_68 rfl (lv_at hl 3 rfl) ?_
    refine lv_i2l E.1 E.2.1 dX1_append_69 rfl ?_
    refine n_rast E hK hP (dW hN rfl) hS 1 0 rfl rfl n 2 (by omega) (by omega) (by omega) dX1_append_70 (fun H locs hP hS => ?_)
    have hP : va_P D c2 (wR ad ca (tS (tS (tS T n 0 (Int32.toInt64 a0)) n 1 (Int32.toInt64 b0)) n 2 (Int32.toInt64 c0)) n kc ko kv k 0) H := hP
    refine lv_aload_n E.1 E.2.1 dX1_append_71 rfl (lv_at hl 0 rfl) ?_
    refine n_get E inR hK hP 0 rfl rfl 2 (by decide) flR_7 rfl rfl dX1_append_72 ?_
    refine lv_iconst (v := nI 4) E.1 E.2.1 dX1_append_75 rfl ?_
    refine lv_aload_n E.1 E.2.1 dX1_append_76 rfl (lv_at hl 0 rfl) ?_
    refine n_get E inR hK hP 0 rfl rfl 1 (by decide) flR_27 rfl rfl dX1_append_77 ?_
    refine n_imul E dX1_append_80 ?_
    refine lv_iconst (v := nI 3) E.1 E.2.1 dX1_append_81 rfl ?_
    refine n_iadd E dX1_append_82 ?_
    refine lv_lload E.1 E.2.1 dX1_append_83 (lv_at hl 4 rfl) ?_
    refine n_rast E hK hP (dW hN rfl) hS 1 0 rfl rfl n 3 (by omega) (by omega) (by omega) dX1_append_85 (fun H locs hP hS => ?_)
    have hP : va_P D c2 (wR ad ca (tS (tS (tS (tS T n 0 (Int32.toInt64 a0)) n 1 (Int32.toInt64 b0)) n 2 (Int32.toInt64 c0)) n 3 d0) n kc ko kv k 0) H := hP
    refine lv_aload_n E.1 E.2.1 dX1_append_86 rfl (lv_at hl 0 rfl) ?_
    refine lv_dup E.1 E.2.1 dX1_append_87 rfl ?_
    refine n_get E inR hK hP 0 rfl rfl 1 (by decide) flR_27 rfl rfl dX1_append_88 ?_
    refine lv_iconst (v := nI 1) E.1 E.2.1 dX1_append_91 rfl ?_
    refine n_iadd E dX1_append_92 ?_
    refine n_put E inR tyR1 tyR1_ok nmR1 hK hP (dW hN rfl) hS 0 rfl rfl 1 (by decide) flR_27 rfl rfl (tyR1_ok 1 (by decide)) (Nat.le_of_ble_eq_true rfl) dX1_append_93 (fun H locs hP hS => ?_)
    have hP : va_P D c2 (wR ad ca (tS (tS (tS (tS T n 0 (Int32.toInt64 a0)) n 1 (Int32.toInt64 b0)) n 2 (Int32.toInt64 c0)) n 3 d0) (n + 1) kc ko kv k 0) H := hP
    refine lv_aload_n E.1 E.2.1 dX1_append_96 rfl (lv_at hl 0 rfl) ?_
    refine n_get E inR hK hP 0 rfl rfl 1 (by decide) flR_27 rfl rfl dX1_append_97 ?_
    refine lv_iconst (v := nI 1) E.1 E.2.1 dX1_append_100 rfl ?_
    refine n_isub E (by omega) dX1_append_101 ?_
    exact e_wi E hr hlk hS () (congrArg nI (by omega)) hP dX1_append_102
  · skip
    exfalso; omega
set_option maxHeartbeats 4000000 in
set_option maxRecDepth 100000 in
theorem cR_append1 (l : Launch) (D : va_G) (ad : Nat → Nat) (ca : Nat → ClassId) (T : Nat → Nat → Int64) (n : Nat) (kc ko : Nat → Nat) (kv : Nat → Int64) (k cd : Nat) (a0 b0 c0 : Int32) (d0 : Int64) (hN : inj ad 5) (hn : n = 128) : Met l yX1_append (wA yX1_append cX1_append 6 (some .int)) (rN 0) (va_Pc [.ref (ad 0), .int a0, .int b0, .int c0, .long d0] (pW D c2 (tR ca) (wR ad ca T n kc ko kv k cd))) (qI (fun z (_ : Unit) => True) D c2 (fun _ => wR ad ca T n kc ko kv k 1) (fA ad 5)) 0 0 (fA ad 5) := by
  refine met_of RX1 rfl (by decide) (Nat.le_of_ble_eq_true rfl) (fun p e s m below meth cd0 ls E hr hlk _ hB hl => ?_)
  obtain ⟨hP, hK⟩ := hB
  have hl : lv_has ls 6 [(0, .ref (ad 0)), (1, .int a0), (2, .int b0), (3, .int c0), (4, .long d0)] := hl
  have hS : va_S (fA ad 5) s.heap s.heap [] := va_S.rf
  refine lv_aload_n E.1 E.2.1 dX1_append_0 rfl (lv_at hl 0 rfl) ?_
  refine lv_aload_n E.1 E.2.1 dX1_append_1 rfl (lv_at hl 0 rfl) ?_
  refine n_get E inR hK hP 0 rfl rfl 1 (by decide) flR_27 rfl rfl dX1_append_2 ?_
  refine lv_sipush (v := nI 128) E.1 E.2.1 dX1_append_5 rfl ?_
  refine n_icmp_ne (tgt := 15) E dX1_append_8 rfl (by omega) (by omega) (fun h8 => ?_) (fun h8 => ?_)
  · skip
    exfalso; omega
  · skip
    refine lv_iconst (v := nI 1) E.1 E.2.1 dX1_append_11 rfl ?_
    refine lv_goto (tgt := 16) E.1 E.2.1 dX1_append_12 rfl ?_
    refine n_put E inR tyR1 tyR1_ok nmR1 hK hP (dW hN rfl) hS 0 rfl rfl 0 (by decide) flR_23 rfl rfl (tyR1_ok 0 (by decide)) (Nat.le_of_ble_eq_true rfl) dX1_append_16 (fun H locs hP hS => ?_)
    have hP : va_P D c2 (wR ad ca T n kc ko kv k 1) H := hP
    refine lv_aload_n E.1 E.2.1 dX1_append_19 rfl (lv_at hl 0 rfl) ?_
    refine n_get E inR hK hP 0 rfl rfl 0 (by decide) flR_23 rfl rfl dX1_append_20 ?_
    refine n_if_le (tgt := 28) E dX1_append_23 rfl (by decide) (fun h => absurd h (by decide)) (fun _ => ?_)
    refine lv_iconst (v := nI 0) E.1 E.2.1 dX1_append_26 rfl ?_
    exact e_wi E hr hlk hS () trivial hP dX1_append_27
set_option maxHeartbeats 4000000 in
set_option maxRecDepth 100000 in
theorem cR_cell (l : Launch) (D : va_G) (ad : Nat → Nat) (ca : Nat → ClassId) (T : Nat → Nat → Int64) (n : Nat) (kc ko : Nat → Nat) (kv : Nat → Int64) (k cd : Nat) (r c : Nat) (hN : inj ad 5) (hn128 : n ≤ 128) (hr0 : r < n) (hc : c < 4) : Met l yX1_cell (wA yX1_cell cX1_cell 3 (some .long)) (rN 1) (va_Pc [.ref (ad 0), .int (nI r), .int (nI c)] (pW D c2 (tR ca) (wR ad ca T n kc ko kv k cd))) (qL (fun z (_ : Unit) => z = T r c) D c2 (fun _ => wR ad ca T n kc ko kv k 0) (fA ad 5)) 0 0 (fA ad 5) := by
  refine met_of RX1 rfl (by decide) (Nat.le_of_ble_eq_true rfl) (fun p e s m below meth cd0 ls E hr hlk _ hB hl => ?_)
  obtain ⟨hP, hK⟩ := hB
  have hl : lv_has ls 3 [(0, .ref (ad 0)), (1, .int (nI r)), (2, .int (nI c))] := hl
  have hS : va_S (fA ad 5) s.heap s.heap [] := va_S.rf
  refine lv_aload_n E.1 E.2.1 dX1_cell_0 rfl (lv_at hl 0 rfl) ?_
  refine lv_iload_n E.1 E.2.1 dX1_cell_1 rfl (lv_at hl 2 rfl) ?_
  refine cS_i E (As := [.int (nI c)]) (rest := [.ref (ad 0)]) (cR_isColumn l (nI c)) kR_30 rfl rfl ⟨Nat.le_of_ble_eq_true rfl, Nat.le_of_ble_eq_true rfl⟩ rfl hl.1 rfl (Nat.le_of_ble_eq_true rfl) dX1_cell_2 ⟨Nat.zero_le _, Nat.zero_le _⟩ ?_
  refine tpi (y := bI true) (congrArg bI (isC_n (by omega))) ?_
  refine b_if_ne (tgt := 12) E dX1_cell_5 rfl (fun _ => ?_) (fun h => Bool.noConfusion h)
  refine lv_iload_n E.1 E.2.1 dX1_cell_12 rfl (lv_at hl 1 rfl) ?_
  refine n_if_lt (tgt := 24) E dX1_cell_13 rfl (by omega) ?_
  refine lv_iload_n E.1 E.2.1 dX1_cell_16 rfl (lv_at hl 1 rfl) ?_
  refine lv_aload_n E.1 E.2.1 dX1_cell_17 rfl (lv_at hl 0 rfl) ?_
  refine n_get E inR hK hP 0 rfl rfl 1 (by decide) flR_27 rfl rfl dX1_cell_18 ?_
  refine n_icmp_lt (tgt := 28) E dX1_cell_21 rfl (by omega) (by omega) (fun h21 => ?_) (fun h21 => ?_)
  · skip
    refine lv_iconst (v := nI 0) E.1 E.2.1 dX1_cell_28 rfl ?_
    refine n_put E inR tyR1 tyR1_ok nmR1 hK hP (dW hN rfl) hS 0 rfl rfl 0 (by decide) flR_23 rfl rfl (tyR1_ok 0 (by decide)) (Nat.le_of_ble_eq_true rfl) dX1_cell_29 (fun H locs hP hS => ?_)
    have hP : va_P D c2 (wR ad ca T n kc ko kv k 0) H := hP
    refine lv_aload_n E.1 E.2.1 dX1_cell_32 rfl (lv_at hl 0 rfl) ?_
    refine n_get E inR hK hP 0 rfl rfl 0 (by decide) flR_23 rfl rfl dX1_cell_33 ?_
    refine n_if_ne (tgt := 52) E dX1_cell_36 rfl (by decide) (fun h => absurd h (by decide)) (fun _ => ?_)
    refine lv_aload_n E.1 E.2.1 dX1_cell_39 rfl (lv_at hl 0 rfl) ?_
    refine n_get E inR hK hP 0 rfl rfl 2 (by decide) flR_7 rfl rfl dX1_cell_40 ?_
    refine lv_iconst (v := nI 4) E.1 E.2.1 dX1_cell_43 rfl ?_
    refine lv_iload_n E.1 E.2.1 dX1_cell_44 rfl (lv_at hl 1 rfl) ?_
    refine n_imul E dX1_cell_45 ?_
    refine lv_iload_n E.1 E.2.1 dX1_cell_46 rfl (lv_at hl 2 rfl) ?_
    refine n_iadd E dX1_cell_47 ?_
    refine n_rald E hK hP 1 0 rfl rfl r c (by omega) (by omega) (by omega) dX1_cell_48 ?_
    refine lv_goto (tgt := 53) E.1 E.2.1 dX1_cell_49 rfl ?_
    exact e_wl E hr hlk hS () rfl hP dX1_cell_53
  · skip
    exfalso; omega
set_option maxHeartbeats 4000000 in
set_option maxRecDepth 100000 in
theorem cR_cell1 (l : Launch) (D : va_G) (ad : Nat → Nat) (ca : Nat → ClassId) (T : Nat → Nat → Int64) (n : Nat) (kc ko : Nat → Nat) (kv : Nat → Int64) (k cd : Nat) (y x : Int32) (hN : inj ad 5) (hx : isC x = false) : Met l yX1_cell (wA yX1_cell cX1_cell 3 (some .long)) (rN 1) (va_Pc [.ref (ad 0), .int y, .int x] (pW D c2 (tR ca) (wR ad ca T n kc ko kv k cd))) (qL (fun z (_ : Unit) => True) D c2 (fun _ => wR ad ca T n kc ko kv k 1) (fA ad 5)) 0 0 (fA ad 5) := by
  refine met_of RX1 rfl (by decide) (Nat.le_of_ble_eq_true rfl) (fun p e s m below meth cd0 ls E hr hlk _ hB hl => ?_)
  obtain ⟨hP, hK⟩ := hB
  have hl : lv_has ls 3 [(0, .ref (ad 0)), (1, .int y), (2, .int x)] := hl
  have hS : va_S (fA ad 5) s.heap s.heap [] := va_S.rf
  refine lv_aload_n E.1 E.2.1 dX1_cell_0 rfl (lv_at hl 0 rfl) ?_
  refine lv_iload_n E.1 E.2.1 dX1_cell_1 rfl (lv_at hl 2 rfl) ?_
  refine cS_i E (As := [.int x]) (rest := [.ref (ad 0)]) (cR_isColumn l x) kR_30 rfl rfl ⟨Nat.le_of_ble_eq_true rfl, Nat.le_of_ble_eq_true rfl⟩ rfl hl.1 rfl (Nat.le_of_ble_eq_true rfl) dX1_cell_2 ⟨Nat.zero_le _, Nat.zero_le _⟩ ?_
  refine tpi (y := bI false) (congrArg bI hx) ?_
  refine b_if_ne (tgt := 12) E dX1_cell_5 rfl (fun h => Bool.noConfusion h) (fun _ => ?_)
  refine lv_iconst (v := nI 1) E.1 E.2.1 dX1_cell_8 rfl ?_
  refine lv_goto (tgt := 29) E.1 E.2.1 dX1_cell_9 rfl ?_
  refine n_put E inR tyR1 tyR1_ok nmR1 hK hP (dW hN rfl) hS 0 rfl rfl 0 (by decide) flR_23 rfl rfl (tyR1_ok 0 (by decide)) (Nat.le_of_ble_eq_true rfl) dX1_cell_29 (fun H locs hP hS => ?_)
  have hP : va_P D c2 (wR ad ca T n kc ko kv k 1) H := hP
  refine lv_aload_n E.1 E.2.1 dX1_cell_32 rfl (lv_at hl 0 rfl) ?_
  refine n_get E inR hK hP 0 rfl rfl 0 (by decide) flR_23 rfl rfl dX1_cell_33 ?_
  refine n_if_ne (tgt := 52) E dX1_cell_36 rfl (by decide) (fun _ => ?_) (fun h => absurd h (by decide))
  refine lv_lconst (v := 0) E.1 E.2.1 dX1_cell_52 rfl ?_
  exact e_wl E hr hlk hS () trivial hP dX1_cell_53
set_option maxHeartbeats 4000000 in
set_option maxRecDepth 100000 in
theorem cR_cell2 (l : Launch) (D : va_G) (ad : Nat → Nat) (ca : Nat → ClassId) (T : Nat → Nat → Int64) (n : Nat) (kc ko : Nat → Nat) (kv : Nat → Int64) (k cd : Nat) (y : Int32) (c : Nat) (hN : inj ad 5) (hc : c < 4) (hy : y < 0 ∨ nI n ≤ y) : Met l yX1_cell (wA yX1_cell cX1_cell 3 (some .long)) (rN 1) (va_Pc [.ref (ad 0), .int y, .int (nI c)] (pW D c2 (tR ca) (wR ad ca T n kc ko kv k cd))) (qL (fun z (_ : Unit) => True) D c2 (fun _ => wR ad ca T n kc ko kv k 2) (fA ad 5)) 0 0 (fA ad 5) := by
  refine met_of RX1 rfl (by decide) (Nat.le_of_ble_eq_true rfl) (fun p e s m below meth cd0 ls E hr hlk _ hB hl => ?_)
  obtain ⟨hP, hK⟩ := hB
  have hl : lv_has ls 3 [(0, .ref (ad 0)), (1, .int y), (2, .int (nI c))] := hl
  have hS : va_S (fA ad 5) s.heap s.heap [] := va_S.rf
  refine lv_aload_n E.1 E.2.1 dX1_cell_0 rfl (lv_at hl 0 rfl) ?_
  refine lv_iload_n E.1 E.2.1 dX1_cell_1 rfl (lv_at hl 2 rfl) ?_
  refine cS_i E (As := [.int (nI c)]) (rest := [.ref (ad 0)]) (cR_isColumn l (nI c)) kR_30 rfl rfl ⟨Nat.le_of_ble_eq_true rfl, Nat.le_of_ble_eq_true rfl⟩ rfl hl.1 rfl (Nat.le_of_ble_eq_true rfl) dX1_cell_2 ⟨Nat.zero_le _, Nat.zero_le _⟩ ?_
  refine tpi (y := bI true) (congrArg bI (isC_n (by omega))) ?_
  refine b_if_ne (tgt := 12) E dX1_cell_5 rfl (fun _ => ?_) (fun h => Bool.noConfusion h)
  refine lv_iload_n E.1 E.2.1 dX1_cell_12 rfl (lv_at hl 1 rfl) ?_
  refine lv_if_lt (tgt := 24) E.1 E.2.1 dX1_cell_13 rfl (fun h13 => ?_) (fun h13 => ?_)
  · skip
    refine lv_iconst (v := nI 2) E.1 E.2.1 dX1_cell_24 rfl ?_
    refine lv_goto (tgt := 29) E.1 E.2.1 dX1_cell_25 rfl ?_
    refine n_put E inR tyR1 tyR1_ok nmR1 hK hP (dW hN rfl) hS 0 rfl rfl 0 (by decide) flR_23 rfl rfl (tyR1_ok 0 (by decide)) (Nat.le_of_ble_eq_true rfl) dX1_cell_29 (fun H locs hP hS => ?_)
    have hP : va_P D c2 (wR ad ca T n kc ko kv k 2) H := hP
    refine lv_aload_n E.1 E.2.1 dX1_cell_32 rfl (lv_at hl 0 rfl) ?_
    refine n_get E inR hK hP 0 rfl rfl 0 (by decide) flR_23 rfl rfl dX1_cell_33 ?_
    refine n_if_ne (tgt := 52) E dX1_cell_36 rfl (by decide) (fun _ => ?_) (fun h => absurd h (by decide))
    refine lv_lconst (v := 0) E.1 E.2.1 dX1_cell_52 rfl ?_
    exact e_wl E hr hlk hS () trivial hP dX1_cell_53
  · skip
    refine lv_iload_n E.1 E.2.1 dX1_cell_16 rfl (lv_at hl 1 rfl) ?_
    refine lv_aload_n E.1 E.2.1 dX1_cell_17 rfl (lv_at hl 0 rfl) ?_
    refine n_get E inR hK hP 0 rfl rfl 1 (by decide) flR_27 rfl rfl dX1_cell_18 ?_
    refine lv_icmp_lt (tgt := 28) E.1 E.2.1 dX1_cell_21 rfl (fun h21 => ?_) (fun h21 => ?_)
    · skip
      exact (bad_no hy h13 h21).elim
    · skip
      refine lv_iconst (v := nI 2) E.1 E.2.1 dX1_cell_24 rfl ?_
      refine lv_goto (tgt := 29) E.1 E.2.1 dX1_cell_25 rfl ?_
      refine n_put E inR tyR1 tyR1_ok nmR1 hK hP (dW hN rfl) hS 0 rfl rfl 0 (by decide) flR_23 rfl rfl (tyR1_ok 0 (by decide)) (Nat.le_of_ble_eq_true rfl) dX1_cell_29 (fun H locs hP hS => ?_)
      have hP : va_P D c2 (wR ad ca T n kc ko kv k 2) H := hP
      refine lv_aload_n E.1 E.2.1 dX1_cell_32 rfl (lv_at hl 0 rfl) ?_
      refine n_get E inR hK hP 0 rfl rfl 0 (by decide) flR_23 rfl rfl dX1_cell_33 ?_
      refine n_if_ne (tgt := 52) E dX1_cell_36 rfl (by decide) (fun _ => ?_) (fun h => absurd h (by decide))
      refine lv_lconst (v := 0) E.1 E.2.1 dX1_cell_52 rfl ?_
      exact e_wl E hr hlk hS () trivial hP dX1_cell_53
set_option maxHeartbeats 4000000 in
set_option maxRecDepth 100000 in
theorem cR_where (l : Launch) (D : va_G) (ad : Nat → Nat) (ca : Nat → ClassId) (T : Nat → Nat → Int64) (n : Nat) (kc ko : Nat → Nat) (kv : Nat → Int64) (k cd : Nat) (c o : Nat) (v : Int64) (hN : inj ad 5) (hk : k < 3) (hc : c < 4) (ho : o < 6) : Met l yX1_where (wA yX1_where cX1_where 5 (some .int)) (rN 1) (va_Pc [.ref (ad 0), .int (nI c), .int (nI o), .long v] (pW D c2 (tR ca) (wR ad ca T n kc ko kv k cd))) (qI (fun z (_ : Unit) => z = nI (k + 1)) D c2 (fun _ => wR ad ca T n (fS kc k c) (fS ko k o) (fS kv k v) (k + 1) 0) (fA ad 5)) 0 0 (fA ad 5) := by
  refine met_of RX1 rfl (by decide) (Nat.le_of_ble_eq_true rfl) (fun p e s m below meth cd0 ls E hr hlk _ hB hl => ?_)
  obtain ⟨hP, hK⟩ := hB
  have hl : lv_has ls 5 [(0, .ref (ad 0)), (1, .int (nI c)), (2, .int (nI o)), (3, .long v)] := hl
  have hS : va_S (fA ad 5) s.heap s.heap [] := va_S.rf
  refine lv_aload_n E.1 E.2.1 dX1_where_0 rfl (lv_at hl 0 rfl) ?_
  refine lv_iload_n E.1 E.2.1 dX1_where_1 rfl (lv_at hl 1 rfl) ?_
  refine cS_i E (As := [.int (nI c)]) (rest := [.ref (ad 0)]) (cR_isColumn l (nI c)) kR_30 rfl rfl ⟨Nat.le_of_ble_eq_true rfl, Nat.le_of_ble_eq_true rfl⟩ rfl hl.1 rfl (Nat.le_of_ble_eq_true rfl) dX1_where_2 ⟨Nat.zero_le _, Nat.zero_le _⟩ ?_
  refine tpi (y := bI true) (congrArg bI (isC_n (by omega))) ?_
  refine b_if_eq (tgt := 17) E dX1_where_5 rfl (fun h => Bool.noConfusion h) (fun _ => ?_)
  refine lv_iload_n E.1 E.2.1 dX1_where_8 rfl (lv_at hl 2 rfl) ?_
  refine n_if_lt (tgt := 17) E dX1_where_9 rfl (by omega) ?_
  refine lv_iload_n E.1 E.2.1 dX1_where_12 rfl (lv_at hl 2 rfl) ?_
  refine lv_iconst (v := nI 5) E.1 E.2.1 dX1_where_13 rfl ?_
  refine n_icmp_le (tgt := 21) E dX1_where_14 rfl (by omega) (by omega) (fun h14 => ?_) (fun h14 => ?_)
  · skip
    refine lv_aload_n E.1 E.2.1 dX1_where_21 rfl (lv_at hl 0 rfl) ?_
    refine n_get E inR hK hP 0 rfl rfl 3 (by decide) flR_34 rfl rfl dX1_where_22 ?_
    refine lv_iconst (v := nI 3) E.1 E.2.1 dX1_where_25 rfl ?_
    refine n_icmp_ne (tgt := 33) E dX1_where_26 rfl (by omega) (by omega) (fun h26 => ?_) (fun h26 => ?_)
    · skip
      refine lv_iconst (v := nI 0) E.1 E.2.1 dX1_where_33 rfl ?_
      refine n_put E inR tyR1 tyR1_ok nmR1 hK hP (dW hN rfl) hS 0 rfl rfl 0 (by decide) flR_23 rfl rfl (tyR1_ok 0 (by decide)) (Nat.le_of_ble_eq_true rfl) dX1_where_34 (fun H locs hP hS => ?_)
      have hP : va_P D c2 (wR ad ca T n kc ko kv k 0) H := hP
      refine lv_aload_n E.1 E.2.1 dX1_where_37 rfl (lv_at hl 0 rfl) ?_
      refine n_get E inR hK hP 0 rfl rfl 0 (by decide) flR_23 rfl rfl dX1_where_38 ?_
      refine n_if_le (tgt := 46) E dX1_where_41 rfl (by decide) (fun _ => ?_) (fun h => absurd h (by decide))
      refine lv_aload_n E.1 E.2.1 dX1_where_46 rfl (lv_at hl 0 rfl) ?_
      refine n_get E inR hK hP 0 rfl rfl 4 (by decide) flR_13 rfl rfl dX1_where_47 ?_
      refine lv_aload_n E.1 E.2.1 dX1_where_50 rfl (lv_at hl 0 rfl) ?_
      refine n_get E inR hK hP 0 rfl rfl 3 (by decide) flR_34 rfl rfl dX1_where_51 ?_
      refine lv_iload_n E.1 E.2.1 dX1_where_54 rfl (lv_at hl 1 rfl) ?_
      refine n_iast E hK hP (dW hN rfl) hS 2 1 rfl rfl (by decide) (by omega) dX1_where_55 (fun H locs hP hS => ?_)
      have hP : va_P D c2 (wR ad ca T n (fS kc k c) ko kv k 0) H := hP
      refine lv_aload_n E.1 E.2.1 dX1_where_56 rfl (lv_at hl 0 rfl) ?_
      refine n_get E inR hK hP 0 rfl rfl 5 (by decide) flR_17 rfl rfl dX1_where_57 ?_
      refine lv_aload_n E.1 E.2.1 dX1_where_60 rfl (lv_at hl 0 rfl) ?_
      refine n_get E inR hK hP 0 rfl rfl 3 (by decide) flR_34 rfl rfl dX1_where_61 ?_
      refine lv_iload_n E.1 E.2.1 dX1_where_64 rfl (lv_at hl 2 rfl) ?_
      refine n_iast E hK hP (dW hN rfl) hS 3 2 rfl rfl (by decide) (by omega) dX1_where_65 (fun H locs hP hS => ?_)
      have hP : va_P D c2 (wR ad ca T n (fS kc k c) (fS ko k o) kv k 0) H := hP
      refine lv_aload_n E.1 E.2.1 dX1_where_66 rfl (lv_at hl 0 rfl) ?_
      refine n_get E inR hK hP 0 rfl rfl 6 (by decide) flR_20 rfl rfl dX1_where_67 ?_
      refine lv_aload_n E.1 E.2.1 dX1_where_70 rfl (lv_at hl 0 rfl) ?_
      refine n_get E inR hK hP 0 rfl rfl 3 (by decide) flR_34 rfl rfl dX1_where_71 ?_
      refine lv_lload_n E.1 E.2.1 dX1_where_74 rfl (lv_at hl 3 rfl) ?_
      refine n_last E hK hP (dW hN rfl) hS 4 3 rfl rfl (by decide) (by omega) dX1_where_75 (fun H locs hP hS => ?_)
      have hP : va_P D c2 (wR ad ca T n (fS kc k c) (fS ko k o) (fS kv k v) k 0) H := hP
      refine lv_aload_n E.1 E.2.1 dX1_where_76 rfl (lv_at hl 0 rfl) ?_
      refine lv_dup E.1 E.2.1 dX1_where_77 rfl ?_
      refine n_get E inR hK hP 0 rfl rfl 3 (by decide) flR_34 rfl rfl dX1_where_78 ?_
      refine lv_iconst (v := nI 1) E.1 E.2.1 dX1_where_81 rfl ?_
      refine n_iadd E dX1_where_82 ?_
      refine n_put E inR tyR1 tyR1_ok nmR1 hK hP (dW hN rfl) hS 0 rfl rfl 3 (by decide) flR_34 rfl rfl (tyR1_ok 3 (by decide)) (Nat.le_of_ble_eq_true rfl) dX1_where_83 (fun H locs hP hS => ?_)
      have hP : va_P D c2 (wR ad ca T n (fS kc k c) (fS ko k o) (fS kv k v) (k + 1) 0) H := hP
      refine lv_aload_n E.1 E.2.1 dX1_where_86 rfl (lv_at hl 0 rfl) ?_
      refine n_get E inR hK hP 0 rfl rfl 3 (by decide) flR_34 rfl rfl dX1_where_87 ?_
      exact e_wi E hr hlk hS () rfl hP dX1_where_90
    · skip
      exfalso; omega
  · skip
    exfalso; omega
set_option maxHeartbeats 4000000 in
set_option maxRecDepth 100000 in
theorem cR_where1 (l : Launch) (D : va_G) (ad : Nat → Nat) (ca : Nat → ClassId) (T : Nat → Nat → Int64) (n : Nat) (kc ko : Nat → Nat) (kv : Nat → Int64) (k cd : Nat) (x y : Int32) (v : Int64) (hN : inj ad 5) (hx : isC x = false) : Met l yX1_where (wA yX1_where cX1_where 5 (some .int)) (rN 1) (va_Pc [.ref (ad 0), .int x, .int y, .long v] (pW D c2 (tR ca) (wR ad ca T n kc ko kv k cd))) (qI (fun z (_ : Unit) => True) D c2 (fun _ => wR ad ca T n kc ko kv k 1) (fA ad 5)) 0 0 (fA ad 5) := by
  refine met_of RX1 rfl (by decide) (Nat.le_of_ble_eq_true rfl) (fun p e s m below meth cd0 ls E hr hlk _ hB hl => ?_)
  obtain ⟨hP, hK⟩ := hB
  have hl : lv_has ls 5 [(0, .ref (ad 0)), (1, .int x), (2, .int y), (3, .long v)] := hl
  have hS : va_S (fA ad 5) s.heap s.heap [] := va_S.rf
  refine lv_aload_n E.1 E.2.1 dX1_where_0 rfl (lv_at hl 0 rfl) ?_
  refine lv_iload_n E.1 E.2.1 dX1_where_1 rfl (lv_at hl 1 rfl) ?_
  refine cS_i E (As := [.int x]) (rest := [.ref (ad 0)]) (cR_isColumn l x) kR_30 rfl rfl ⟨Nat.le_of_ble_eq_true rfl, Nat.le_of_ble_eq_true rfl⟩ rfl hl.1 rfl (Nat.le_of_ble_eq_true rfl) dX1_where_2 ⟨Nat.zero_le _, Nat.zero_le _⟩ ?_
  refine tpi (y := bI false) (congrArg bI hx) ?_
  refine b_if_eq (tgt := 17) E dX1_where_5 rfl (fun _ => ?_) (fun h => Bool.noConfusion h)
  refine lv_iconst (v := nI 1) E.1 E.2.1 dX1_where_17 rfl ?_
  refine lv_goto (tgt := 34) E.1 E.2.1 dX1_where_18 rfl ?_
  refine n_put E inR tyR1 tyR1_ok nmR1 hK hP (dW hN rfl) hS 0 rfl rfl 0 (by decide) flR_23 rfl rfl (tyR1_ok 0 (by decide)) (Nat.le_of_ble_eq_true rfl) dX1_where_34 (fun H locs hP hS => ?_)
  have hP : va_P D c2 (wR ad ca T n kc ko kv k 1) H := hP
  refine lv_aload_n E.1 E.2.1 dX1_where_37 rfl (lv_at hl 0 rfl) ?_
  refine n_get E inR hK hP 0 rfl rfl 0 (by decide) flR_23 rfl rfl dX1_where_38 ?_
  refine n_if_le (tgt := 46) E dX1_where_41 rfl (by decide) (fun h => absurd h (by decide)) (fun _ => ?_)
  refine lv_iconst (v := nI 0) E.1 E.2.1 dX1_where_44 rfl ?_
  exact e_wi E hr hlk hS () trivial hP dX1_where_45
set_option maxHeartbeats 4000000 in
set_option maxRecDepth 100000 in
theorem cR_where1o (l : Launch) (D : va_G) (ad : Nat → Nat) (ca : Nat → ClassId) (T : Nat → Nat → Int64) (n : Nat) (kc ko : Nat → Nat) (kv : Nat → Int64) (k cd : Nat) (c : Nat) (y : Int32) (v : Int64) (hN : inj ad 5) (hc : c < 4) (hy : y < 0 ∨ nI 5 < y) : Met l yX1_where (wA yX1_where cX1_where 5 (some .int)) (rN 1) (va_Pc [.ref (ad 0), .int (nI c), .int y, .long v] (pW D c2 (tR ca) (wR ad ca T n kc ko kv k cd))) (qI (fun z (_ : Unit) => True) D c2 (fun _ => wR ad ca T n kc ko kv k 1) (fA ad 5)) 0 0 (fA ad 5) := by
  refine met_of RX1 rfl (by decide) (Nat.le_of_ble_eq_true rfl) (fun p e s m below meth cd0 ls E hr hlk _ hB hl => ?_)
  obtain ⟨hP, hK⟩ := hB
  have hl : lv_has ls 5 [(0, .ref (ad 0)), (1, .int (nI c)), (2, .int y), (3, .long v)] := hl
  have hS : va_S (fA ad 5) s.heap s.heap [] := va_S.rf
  refine lv_aload_n E.1 E.2.1 dX1_where_0 rfl (lv_at hl 0 rfl) ?_
  refine lv_iload_n E.1 E.2.1 dX1_where_1 rfl (lv_at hl 1 rfl) ?_
  refine cS_i E (As := [.int (nI c)]) (rest := [.ref (ad 0)]) (cR_isColumn l (nI c)) kR_30 rfl rfl ⟨Nat.le_of_ble_eq_true rfl, Nat.le_of_ble_eq_true rfl⟩ rfl hl.1 rfl (Nat.le_of_ble_eq_true rfl) dX1_where_2 ⟨Nat.zero_le _, Nat.zero_le _⟩ ?_
  refine tpi (y := bI true) (congrArg bI (isC_n (by omega))) ?_
  refine b_if_eq (tgt := 17) E dX1_where_5 rfl (fun h => Bool.noConfusion h) (fun _ => ?_)
  refine lv_iload_n E.1 E.2.1 dX1_where_8 rfl (lv_at hl 2 rfl) ?_
  refine lv_if_lt (tgt := 17) E.1 E.2.1 dX1_where_9 rfl (fun h9 => ?_) (fun h9 => ?_)
  · skip
    refine lv_iconst (v := nI 1) E.1 E.2.1 dX1_where_17 rfl ?_
    refine lv_goto (tgt := 34) E.1 E.2.1 dX1_where_18 rfl ?_
    refine n_put E inR tyR1 tyR1_ok nmR1 hK hP (dW hN rfl) hS 0 rfl rfl 0 (by decide) flR_23 rfl rfl (tyR1_ok 0 (by decide)) (Nat.le_of_ble_eq_true rfl) dX1_where_34 (fun H locs hP hS => ?_)
    have hP : va_P D c2 (wR ad ca T n kc ko kv k 1) H := hP
    refine lv_aload_n E.1 E.2.1 dX1_where_37 rfl (lv_at hl 0 rfl) ?_
    refine n_get E inR hK hP 0 rfl rfl 0 (by decide) flR_23 rfl rfl dX1_where_38 ?_
    refine n_if_le (tgt := 46) E dX1_where_41 rfl (by decide) (fun h => absurd h (by decide)) (fun _ => ?_)
    refine lv_iconst (v := nI 0) E.1 E.2.1 dX1_where_44 rfl ?_
    exact e_wi E hr hlk hS () trivial hP dX1_where_45
  · skip
    refine lv_iload_n E.1 E.2.1 dX1_where_12 rfl (lv_at hl 2 rfl) ?_
    refine lv_iconst (v := nI 5) E.1 E.2.1 dX1_where_13 rfl ?_
    refine lv_icmp_le (tgt := 21) E.1 E.2.1 dX1_where_14 rfl (fun h14 => ?_) (fun h14 => ?_)
    · skip
      exact (bad_le hy h9 h14).elim
    · skip
      refine lv_iconst (v := nI 1) E.1 E.2.1 dX1_where_17 rfl ?_
      refine lv_goto (tgt := 34) E.1 E.2.1 dX1_where_18 rfl ?_
      refine n_put E inR tyR1 tyR1_ok nmR1 hK hP (dW hN rfl) hS 0 rfl rfl 0 (by decide) flR_23 rfl rfl (tyR1_ok 0 (by decide)) (Nat.le_of_ble_eq_true rfl) dX1_where_34 (fun H locs hP hS => ?_)
      have hP : va_P D c2 (wR ad ca T n kc ko kv k 1) H := hP
      refine lv_aload_n E.1 E.2.1 dX1_where_37 rfl (lv_at hl 0 rfl) ?_
      refine n_get E inR hK hP 0 rfl rfl 0 (by decide) flR_23 rfl rfl dX1_where_38 ?_
      refine n_if_le (tgt := 46) E dX1_where_41 rfl (by decide) (fun h => absurd h (by decide)) (fun _ => ?_)
      refine lv_iconst (v := nI 0) E.1 E.2.1 dX1_where_44 rfl ?_
      exact e_wi E hr hlk hS () trivial hP dX1_where_45
set_option maxHeartbeats 4000000 in
set_option maxRecDepth 100000 in
theorem cR_where2 (l : Launch) (D : va_G) (ad : Nat → Nat) (ca : Nat → ClassId) (T : Nat → Nat → Int64) (n : Nat) (kc ko : Nat → Nat) (kv : Nat → Int64) (k cd : Nat) (c o : Nat) (v : Int64) (hN : inj ad 5) (hk : k = 3) (hc : c < 4) (ho : o < 6) : Met l yX1_where (wA yX1_where cX1_where 5 (some .int)) (rN 1) (va_Pc [.ref (ad 0), .int (nI c), .int (nI o), .long v] (pW D c2 (tR ca) (wR ad ca T n kc ko kv k cd))) (qI (fun z (_ : Unit) => True) D c2 (fun _ => wR ad ca T n kc ko kv k 2) (fA ad 5)) 0 0 (fA ad 5) := by
  refine met_of RX1 rfl (by decide) (Nat.le_of_ble_eq_true rfl) (fun p e s m below meth cd0 ls E hr hlk _ hB hl => ?_)
  obtain ⟨hP, hK⟩ := hB
  have hl : lv_has ls 5 [(0, .ref (ad 0)), (1, .int (nI c)), (2, .int (nI o)), (3, .long v)] := hl
  have hS : va_S (fA ad 5) s.heap s.heap [] := va_S.rf
  refine lv_aload_n E.1 E.2.1 dX1_where_0 rfl (lv_at hl 0 rfl) ?_
  refine lv_iload_n E.1 E.2.1 dX1_where_1 rfl (lv_at hl 1 rfl) ?_
  refine cS_i E (As := [.int (nI c)]) (rest := [.ref (ad 0)]) (cR_isColumn l (nI c)) kR_30 rfl rfl ⟨Nat.le_of_ble_eq_true rfl, Nat.le_of_ble_eq_true rfl⟩ rfl hl.1 rfl (Nat.le_of_ble_eq_true rfl) dX1_where_2 ⟨Nat.zero_le _, Nat.zero_le _⟩ ?_
  refine tpi (y := bI true) (congrArg bI (isC_n (by omega))) ?_
  refine b_if_eq (tgt := 17) E dX1_where_5 rfl (fun h => Bool.noConfusion h) (fun _ => ?_)
  refine lv_iload_n E.1 E.2.1 dX1_where_8 rfl (lv_at hl 2 rfl) ?_
  refine n_if_lt (tgt := 17) E dX1_where_9 rfl (by omega) ?_
  refine lv_iload_n E.1 E.2.1 dX1_where_12 rfl (lv_at hl 2 rfl) ?_
  refine lv_iconst (v := nI 5) E.1 E.2.1 dX1_where_13 rfl ?_
  refine n_icmp_le (tgt := 21) E dX1_where_14 rfl (by omega) (by omega) (fun h14 => ?_) (fun h14 => ?_)
  · skip
    refine lv_aload_n E.1 E.2.1 dX1_where_21 rfl (lv_at hl 0 rfl) ?_
    refine n_get E inR hK hP 0 rfl rfl 3 (by decide) flR_34 rfl rfl dX1_where_22 ?_
    refine lv_iconst (v := nI 3) E.1 E.2.1 dX1_where_25 rfl ?_
    refine n_icmp_ne (tgt := 33) E dX1_where_26 rfl (by omega) (by omega) (fun h26 => ?_) (fun h26 => ?_)
    · skip
      exfalso; omega
    · skip
      refine lv_iconst (v := nI 2) E.1 E.2.1 dX1_where_29 rfl ?_
      refine lv_goto (tgt := 34) E.1 E.2.1 dX1_where_30 rfl ?_
      refine n_put E inR tyR1 tyR1_ok nmR1 hK hP (dW hN rfl) hS 0 rfl rfl 0 (by decide) flR_23 rfl rfl (tyR1_ok 0 (by decide)) (Nat.le_of_ble_eq_true rfl) dX1_where_34 (fun H locs hP hS => ?_)
      have hP : va_P D c2 (wR ad ca T n kc ko kv k 2) H := hP
      refine lv_aload_n E.1 E.2.1 dX1_where_37 rfl (lv_at hl 0 rfl) ?_
      refine n_get E inR hK hP 0 rfl rfl 0 (by decide) flR_23 rfl rfl dX1_where_38 ?_
      refine n_if_le (tgt := 46) E dX1_where_41 rfl (by decide) (fun h => absurd h (by decide)) (fun _ => ?_)
      refine lv_iconst (v := nI 0) E.1 E.2.1 dX1_where_44 rfl ?_
      exact e_wi E hr hlk hS () trivial hP dX1_where_45
  · skip
    exfalso; omega
set_option maxHeartbeats 4000000 in
set_option maxRecDepth 100000 in
theorem cR_row (l : Launch) (D : va_G) (ad : Nat → Nat) (ca : Nat → ClassId) (T : Nat → Nat → Int64) (n : Nat) (kc ko : Nat → Nat) (kv : Nat → Int64) (k cd : Nat) (r : Nat) (hN : inj ad 5) (hIK : iK kc ko k) (hn128 : n ≤ 128) (hr0 : r < n) (hPr : (ch T kc ko kv k) r = true) : Met l yX1_row (wA yX1_row cX1_row 4 (some .int)) (rN 2) (va_Pc [.ref (ad 0), .int (nI (ct (ch T kc ko kv k) r))] (pW D c2 (tR ca) (wR ad ca T n kc ko kv k cd))) (qI (fun z (_ : Unit) => z = nI r) D c2 (fun _ => wR ad ca T n kc ko kv k 0) (fA ad 5)) 0 0 (fA ad 5) := by
  refine met_of RX1 rfl (by decide) (Nat.le_of_ble_eq_true rfl) (fun p e s m below meth cd0 ls E hr hlk _ hB hl => ?_)
  obtain ⟨hP, hK⟩ := hB
  have hl : lv_has ls 4 [(0, .ref (ad 0)), (1, .int (nI (ct (ch T kc ko kv k) r)))] := hl
  have hS : va_S (fA ad 5) s.heap s.heap [] := va_S.rf
  refine lv_iconst (v := nI 0) E.1 E.2.1 dX1_row_0 rfl ?_
  refine lv_istore_n (lv' := [(2, .int (nI 0)), (0, .ref (ad 0)), (1, .int (nI (ct (ch T kc ko kv k) r)))]) E.1 E.2.1 dX1_row_1 rfl hl (by decide) rfl (fun ls hl => ?_)
  refine lv_iconst (v := nI 0) E.1 E.2.1 dX1_row_2 rfl ?_
  refine lv_istore_n (lv' := [(3, .int (nI 0)), (2, .int (nI 0)), (0, .ref (ad 0)), (1, .int (nI (ct (ch T kc ko kv k) r)))]) E.1 E.2.1 dX1_row_3 rfl hl (by decide) rfl (fun ls hl => ?_)
  refine w_lp1 (fun (t : Nat) => t ≤ r) (fun (t : Nat) => n - t) (fun (t : Nat) => [(3, .int (nI t)), (2, .int (nI (ct (ch T kc ko kv k) t))), (0, .ref (ad 0)), (1, .int (nI (ct (ch T kc ko kv k) r)))]) 0 (Nat.zero_le _) (lv_sub hl [0, 1, 2, 3] rfl) (fun t ls hI hl ih4 => ?_)
  have hl : lv_has ls 4 [(3, .int (nI t)), (2, .int (nI (ct (ch T kc ko kv k) t))), (0, .ref (ad 0)), (1, .int (nI (ct (ch T kc ko kv k) r)))] := hl
  refine lv_iload_n E.1 E.2.1 dX1_row_4 rfl (lv_at hl 0 rfl) ?_
  refine lv_aload_n E.1 E.2.1 dX1_row_5 rfl (lv_at hl 2 rfl) ?_
  refine n_get E inR hK hP 0 rfl rfl 1 (by decide) flR_27 rfl rfl dX1_row_6 ?_
  refine n_icmp_ge (tgt := 41) E dX1_row_9 rfl (by omega) (by omega) (fun h9 => ?_) (fun h9 => ?_)
  · skip
    exfalso; omega
  · skip
    refine lv_aload_n E.1 E.2.1 dX1_row_12 rfl (lv_at hl 2 rfl) ?_
    refine lv_iload_n E.1 E.2.1 dX1_row_13 rfl (lv_at hl 0 rfl) ?_
    refine cV_i E (As := [.int (nI t)]) (rest := []) (cR_isChosen l D ad ca T n kc ko kv k cd t hIK (by omega)) kR_41 hK hP 0 rfl rfl rfl rfl ⟨Nat.le_of_ble_eq_true rfl, Nat.le_of_ble_eq_true rfl⟩ rfl hl.1 rfl (Nat.le_of_ble_eq_true rfl) dX1_row_14 ⟨Nat.zero_le _, Nat.zero_le _⟩ ?_
    have hct := ct_le (ch T kc ko kv k) t
    have hct2 := ct_le (ch T kc ko kv k) r
    refine b_if_eq (tgt := 35) E dX1_row_17 rfl (fun h17 => ?_) (fun h17 => ?_)
    · skip
      refine lv_iinc (k := 0) (v := nI (t + 1)) (lv' := [(3, .int (nI (t + 1))), (2, .int (nI (ct (ch T kc ko kv k) t))), (0, .ref (ad 0)), (1, .int (nI (ct (ch T kc ko kv k) r)))]) E.1 E.2.1 dX1_row_35 hl rfl (inc1 _) (by decide) rfl (fun ls hl => ?_)
      refine lv_goto (tgt := 4) E.1 E.2.1 dX1_row_38 rfl ?_
      rw [← ct_f (p := (ch T kc ko kv k)) h17] at hl
      exact ih4 (t + 1) _ (lt_of_ne_le hI (fun e => by rw [e, hPr] at h17; cases h17)) (by omega) (lv_sub hl [0, 1, 2, 3] rfl)
    · skip
      refine lv_iload_n E.1 E.2.1 dX1_row_20 rfl (lv_at hl 1 rfl) ?_
      refine lv_iload_n E.1 E.2.1 dX1_row_21 rfl (lv_at hl 3 rfl) ?_
      refine n_icmp_ne (tgt := 32) E dX1_row_22 rfl (by omega) (by omega) (fun h22 => ?_) (fun h22 => ?_)
      · skip
        refine lv_iinc (k := 1) (v := nI (ct (ch T kc ko kv k) t + 1)) (lv' := [(2, .int (nI (ct (ch T kc ko kv k) t + 1))), (3, .int (nI t)), (0, .ref (ad 0)), (1, .int (nI (ct (ch T kc ko kv k) r)))]) E.1 E.2.1 dX1_row_32 hl rfl (inc1 _) (by decide) rfl (fun ls hl => ?_)
        refine lv_iinc (k := 1) (v := nI (t + 1)) (lv' := [(3, .int (nI (t + 1))), (2, .int (nI (ct (ch T kc ko kv k) t + 1))), (0, .ref (ad 0)), (1, .int (nI (ct (ch T kc ko kv k) r)))]) E.1 E.2.1 dX1_row_35 hl rfl (inc1 _) (by decide) rfl (fun ls hl => ?_)
        refine lv_goto (tgt := 4) E.1 E.2.1 dX1_row_38 rfl ?_
        rw [← ct_t (p := (ch T kc ko kv k)) h17] at hl
        exact ih4 (t + 1) _ (lt_of_ne_le hI (fun e => h22 (by rw [e]))) (by omega) (lv_sub hl [0, 1, 2, 3] rfl)
      · skip
        refine lv_aload_n E.1 E.2.1 dX1_row_25 rfl (lv_at hl 2 rfl) ?_
        refine lv_iconst (v := nI 0) E.1 E.2.1 dX1_row_26 rfl ?_
        refine n_put E inR tyR1 tyR1_ok nmR1 hK hP (dW hN rfl) hS 0 rfl rfl 0 (by decide) flR_23 rfl rfl (tyR1_ok 0 (by decide)) (Nat.le_of_ble_eq_true rfl) dX1_row_27 (fun H locs hP hS => ?_)
        have hP : va_P D c2 (wR ad ca T n kc ko kv k 0) H := hP
        refine lv_iload_n E.1 E.2.1 dX1_row_30 rfl (lv_at hl 0 rfl) ?_
        exact e_wi E hr hlk hS () (congrArg nI (ct_inj h17 hPr h22)) hP dX1_row_31
set_option maxHeartbeats 4000000 in
set_option maxRecDepth 100000 in
theorem cR_row1 (l : Launch) (D : va_G) (ad : Nat → Nat) (ca : Nat → ClassId) (T : Nat → Nat → Int64) (n : Nat) (kc ko : Nat → Nat) (kv : Nat → Int64) (k cd : Nat) (x : Int32) (hN : inj ad 5) (hIK : iK kc ko k) (hn128 : n ≤ 128) (hx : ∀ t, t < n → (ch T kc ko kv k) t = true → nI (ct (ch T kc ko kv k) t) ≠ x) : Met l yX1_row (wA yX1_row cX1_row 4 (some .int)) (rN 2) (va_Pc [.ref (ad 0), .int x] (pW D c2 (tR ca) (wR ad ca T n kc ko kv k cd))) (qI (fun z (_ : Unit) => True) D c2 (fun _ => wR ad ca T n kc ko kv k 1) (fA ad 5)) 0 0 (fA ad 5) := by
  refine met_of RX1 rfl (by decide) (Nat.le_of_ble_eq_true rfl) (fun p e s m below meth cd0 ls E hr hlk _ hB hl => ?_)
  obtain ⟨hP, hK⟩ := hB
  have hl : lv_has ls 4 [(0, .ref (ad 0)), (1, .int x)] := hl
  have hS : va_S (fA ad 5) s.heap s.heap [] := va_S.rf
  refine lv_iconst (v := nI 0) E.1 E.2.1 dX1_row_0 rfl ?_
  refine lv_istore_n (lv' := [(2, .int (nI 0)), (0, .ref (ad 0)), (1, .int x)]) E.1 E.2.1 dX1_row_1 rfl hl (by decide) rfl (fun ls hl => ?_)
  refine lv_iconst (v := nI 0) E.1 E.2.1 dX1_row_2 rfl ?_
  refine lv_istore_n (lv' := [(3, .int (nI 0)), (2, .int (nI 0)), (0, .ref (ad 0)), (1, .int x)]) E.1 E.2.1 dX1_row_3 rfl hl (by decide) rfl (fun ls hl => ?_)
  refine w_lp1 (fun (t : Nat) => t ≤ n) (fun (t : Nat) => n - t) (fun (t : Nat) => [(3, .int (nI t)), (2, .int (nI (ct (ch T kc ko kv k) t))), (0, .ref (ad 0)), (1, .int x)]) 0 (Nat.zero_le _) (lv_sub hl [0, 1, 2, 3] rfl) (fun t ls hI hl ih4 => ?_)
  have hl : lv_has ls 4 [(3, .int (nI t)), (2, .int (nI (ct (ch T kc ko kv k) t))), (0, .ref (ad 0)), (1, .int x)] := hl
  refine lv_iload_n E.1 E.2.1 dX1_row_4 rfl (lv_at hl 0 rfl) ?_
  refine lv_aload_n E.1 E.2.1 dX1_row_5 rfl (lv_at hl 2 rfl) ?_
  refine n_get E inR hK hP 0 rfl rfl 1 (by decide) flR_27 rfl rfl dX1_row_6 ?_
  refine n_icmp_ge (tgt := 41) E dX1_row_9 rfl (by omega) (by omega) (fun h9 => ?_) (fun h9 => ?_)
  · skip
    refine lv_aload_n E.1 E.2.1 dX1_row_41 rfl (lv_at hl 2 rfl) ?_
    refine lv_iconst (v := nI 1) E.1 E.2.1 dX1_row_42 rfl ?_
    refine n_put E inR tyR1 tyR1_ok nmR1 hK hP (dW hN rfl) hS 0 rfl rfl 0 (by decide) flR_23 rfl rfl (tyR1_ok 0 (by decide)) (Nat.le_of_ble_eq_true rfl) dX1_row_43 (fun H locs hP hS => ?_)
    have hP : va_P D c2 (wR ad ca T n kc ko kv k 1) H := hP
    refine lv_iconst (v := nI 0) E.1 E.2.1 dX1_row_46 rfl ?_
    exact e_wi E hr hlk hS () trivial hP dX1_row_47
  · skip
    refine lv_aload_n E.1 E.2.1 dX1_row_12 rfl (lv_at hl 2 rfl) ?_
    refine lv_iload_n E.1 E.2.1 dX1_row_13 rfl (lv_at hl 0 rfl) ?_
    refine cV_i E (As := [.int (nI t)]) (rest := []) (cR_isChosen l D ad ca T n kc ko kv k cd t hIK (by omega)) kR_41 hK hP 0 rfl rfl rfl rfl ⟨Nat.le_of_ble_eq_true rfl, Nat.le_of_ble_eq_true rfl⟩ rfl hl.1 rfl (Nat.le_of_ble_eq_true rfl) dX1_row_14 ⟨Nat.zero_le _, Nat.zero_le _⟩ ?_
    refine b_if_eq (tgt := 35) E dX1_row_17 rfl (fun h17 => ?_) (fun h17 => ?_)
    · skip
      refine lv_iinc (k := 0) (v := nI (t + 1)) (lv' := [(3, .int (nI (t + 1))), (2, .int (nI (ct (ch T kc ko kv k) t))), (0, .ref (ad 0)), (1, .int x)]) E.1 E.2.1 dX1_row_35 hl rfl (inc1 _) (by decide) rfl (fun ls hl => ?_)
      refine lv_goto (tgt := 4) E.1 E.2.1 dX1_row_38 rfl ?_
      rw [← ct_f (p := (ch T kc ko kv k)) h17] at hl
      exact ih4 (t + 1) _ (by omega) (by omega) (lv_sub hl [0, 1, 2, 3] rfl)
    · skip
      refine lv_iload_n E.1 E.2.1 dX1_row_20 rfl (lv_at hl 1 rfl) ?_
      refine lv_iload_n E.1 E.2.1 dX1_row_21 rfl (lv_at hl 3 rfl) ?_
      refine lv_icmp_ne (tgt := 32) E.1 E.2.1 dX1_row_22 rfl (fun h22 => ?_) (fun h22 => ?_)
      · skip
        refine lv_iinc (k := 1) (v := nI (ct (ch T kc ko kv k) t + 1)) (lv' := [(2, .int (nI (ct (ch T kc ko kv k) t + 1))), (3, .int (nI t)), (0, .ref (ad 0)), (1, .int x)]) E.1 E.2.1 dX1_row_32 hl rfl (inc1 _) (by decide) rfl (fun ls hl => ?_)
        refine lv_iinc (k := 1) (v := nI (t + 1)) (lv' := [(3, .int (nI (t + 1))), (2, .int (nI (ct (ch T kc ko kv k) t + 1))), (0, .ref (ad 0)), (1, .int x)]) E.1 E.2.1 dX1_row_35 hl rfl (inc1 _) (by decide) rfl (fun ls hl => ?_)
        refine lv_goto (tgt := 4) E.1 E.2.1 dX1_row_38 rfl ?_
        rw [← ct_t (p := (ch T kc ko kv k)) h17] at hl
        exact ih4 (t + 1) _ (by omega) (by omega) (lv_sub hl [0, 1, 2, 3] rfl)
      · skip
        exact (hx t (by omega) h17 h22).elim
set_option maxHeartbeats 4000000 in
set_option maxRecDepth 100000 in
theorem cR_least (l : Launch) (D : va_G) (ad : Nat → Nat) (ca : Nat → ClassId) (T : Nat → Nat → Int64) (n : Nat) (kc ko : Nat → Nat) (kv : Nat → Int64) (k cd : Nat) (b c : Nat) (hb0 : b < 8) (hc0 : c < 4) : Met l yX1_least (wA yX1_least cX1_least 6 (some .long)) (rN 0) (va_Pc [.ref (ad 0), .int (nI b), .int (nI c)] (pW D c2 (tR ca) (wR ad ca T n kc ko kv k cd))) (vp_Sl (fun z => z = mn (xb T b c) 15)) 0 0 (fun _ => False) := by
  refine met_of RX1 rfl (by decide) (Nat.le_of_ble_eq_true rfl) (fun p e s m below meth cd0 ls E hr hlk _ hB hl => ?_)
  obtain ⟨hP, hK⟩ := hB
  have hl : lv_has ls 6 [(0, .ref (ad 0)), (1, .int (nI b)), (2, .int (nI c))] := hl
  refine lv_aload_n E.1 E.2.1 dX1_least_0 rfl (lv_at hl 0 rfl) ?_
  refine n_get E inR hK hP 0 rfl rfl 2 (by decide) flR_7 rfl rfl dX1_least_1 ?_
  refine lv_bipush (v := nI 64) E.1 E.2.1 dX1_least_4 rfl ?_
  refine lv_iload_n E.1 E.2.1 dX1_least_6 rfl (lv_at hl 1 rfl) ?_
  refine n_imul E dX1_least_7 ?_
  refine lv_iload_n E.1 E.2.1 dX1_least_8 rfl (lv_at hl 2 rfl) ?_
  refine n_iadd E dX1_least_9 ?_
  refine n_rald E hK hP 1 0 rfl rfl (16 * b) c (by omega) (by omega) (by omega) dX1_least_10 ?_
  refine lv_lstore_n (lv' := [(3, .long (T (16 * b) c)), (0, .ref (ad 0)), (1, .int (nI b)), (2, .int (nI c))]) E.1 E.2.1 dX1_least_11 rfl hl (by decide) rfl (fun ls hl => ?_)
  refine lv_bipush (v := nI 16) E.1 E.2.1 dX1_least_12 rfl ?_
  refine lv_iload_n E.1 E.2.1 dX1_least_14 rfl (lv_at hl 2 rfl) ?_
  refine n_imul E dX1_least_15 ?_
  refine lv_istore (lv' := [(5, .int (nI (16 * b))), (3, .long (T (16 * b) c)), (0, .ref (ad 0)), (1, .int (nI b)), (2, .int (nI c))]) E.1 E.2.1 dX1_least_16 hl (by decide) rfl (fun ls hl => ?_)
  refine w_lp1 (fun (j : Nat) => j ≤ 16) (fun (j : Nat) => 16 - j) (fun (j : Nat) => [(5, .int (nI (16 * b + j))), (3, .long (mn (xb T b c) (j - 1))), (0, .ref (ad 0)), (1, .int (nI b)), (2, .int (nI c))]) 0 (Nat.zero_le _) (lv_sub hl [0, 1, 2, 3, 4] rfl) (fun j ls hI hl ih18 => ?_)
  have hl : lv_has ls 6 [(5, .int (nI (16 * b + j))), (3, .long (mn (xb T b c) (j - 1))), (0, .ref (ad 0)), (1, .int (nI b)), (2, .int (nI c))] := hl
  refine lv_iload E.1 E.2.1 dX1_least_18 (lv_at hl 0 rfl) ?_
  refine lv_bipush (v := nI 16) E.1 E.2.1 dX1_least_20 rfl ?_
  refine lv_iload_n E.1 E.2.1 dX1_least_22 rfl (lv_at hl 3 rfl) ?_
  refine n_imul E dX1_least_23 ?_
  refine lv_bipush (v := nI 16) E.1 E.2.1 dX1_least_24 rfl ?_
  refine n_iadd E dX1_least_26 ?_
  refine n_icmp_ge (tgt := 68) E dX1_least_27 rfl (by omega) (by omega) (fun h27 => ?_) (fun h27 => ?_)
  · skip
    refine lv_lload_n E.1 E.2.1 dX1_least_68 rfl (lv_at hl 1 rfl) ?_
    exact e_l E hr hlk (by rw [show j = 16 by omega]) dX1_least_69
  · skip
    refine lv_aload_n E.1 E.2.1 dX1_least_30 rfl (lv_at hl 2 rfl) ?_
    refine n_get E inR hK hP 0 rfl rfl 2 (by decide) flR_7 rfl rfl dX1_least_31 ?_
    refine lv_iconst (v := nI 4) E.1 E.2.1 dX1_least_34 rfl ?_
    refine lv_iload E.1 E.2.1 dX1_least_35 (lv_at hl 0 rfl) ?_
    refine n_imul E dX1_least_37 ?_
    refine lv_iload_n E.1 E.2.1 dX1_least_38 rfl (lv_at hl 4 rfl) ?_
    refine n_iadd E dX1_least_39 ?_
    refine n_rald E hK hP 1 0 rfl rfl (16 * b + j) c (by omega) (by omega) (by omega) dX1_least_40 ?_
    refine lv_lload_n E.1 E.2.1 dX1_least_41 rfl (lv_at hl 1 rfl) ?_
    refine l_if_ge (tgt := 60) E dX1_least_42 dX1_least_43 rfl (fun h42 => ?_) (fun h42 => ?_)
    · skip
      refine lv_lload_n E.1 E.2.1 dX1_least_60 rfl (lv_at hl 1 rfl) ?_
      refine tpl (y := mn (xb T b c) j) (mnj_f h42) ?_
      refine lv_lstore_n (lv' := [(3, .long (mn (xb T b c) j)), (5, .int (nI (16 * b + j))), (0, .ref (ad 0)), (1, .int (nI b)), (2, .int (nI c))]) E.1 E.2.1 dX1_least_61 rfl hl (by decide) rfl (fun ls hl => ?_)
      refine lv_iinc (k := 1) (v := nI (16 * b + j + 1)) (lv' := [(5, .int (nI (16 * b + j + 1))), (3, .long (mn (xb T b c) j)), (0, .ref (ad 0)), (1, .int (nI b)), (2, .int (nI c))]) E.1 E.2.1 dX1_least_62 hl rfl (inc1 _) (by decide) rfl (fun ls hl => ?_)
      refine lv_goto (tgt := 18) E.1 E.2.1 dX1_least_65 rfl ?_
      exact ih18 (j + 1) _ (by omega) (by omega) (lv_sub hl [0, 1, 2, 3, 4] rfl)
    · skip
      refine lv_aload_n E.1 E.2.1 dX1_least_46 rfl (lv_at hl 2 rfl) ?_
      refine n_get E inR hK hP 0 rfl rfl 2 (by decide) flR_7 rfl rfl dX1_least_47 ?_
      refine lv_iconst (v := nI 4) E.1 E.2.1 dX1_least_50 rfl ?_
      refine lv_iload E.1 E.2.1 dX1_least_51 (lv_at hl 0 rfl) ?_
      refine n_imul E dX1_least_53 ?_
      refine lv_iload_n E.1 E.2.1 dX1_least_54 rfl (lv_at hl 4 rfl) ?_
      refine n_iadd E dX1_least_55 ?_
      refine n_rald E hK hP 1 0 rfl rfl (16 * b + j) c (by omega) (by omega) (by omega) dX1_least_56 ?_
      refine lv_goto (tgt := 61) E.1 E.2.1 dX1_least_57 rfl ?_
      refine tpl (y := mn (xb T b c) j) (mnj_t h42) ?_
      refine lv_lstore_n (lv' := [(3, .long (mn (xb T b c) j)), (5, .int (nI (16 * b + j))), (0, .ref (ad 0)), (1, .int (nI b)), (2, .int (nI c))]) E.1 E.2.1 dX1_least_61 rfl hl (by decide) rfl (fun ls hl => ?_)
      refine lv_iinc (k := 1) (v := nI (16 * b + j + 1)) (lv' := [(5, .int (nI (16 * b + j + 1))), (3, .long (mn (xb T b c) j)), (0, .ref (ad 0)), (1, .int (nI b)), (2, .int (nI c))]) E.1 E.2.1 dX1_least_62 hl rfl (inc1 _) (by decide) rfl (fun ls hl => ?_)
      refine lv_goto (tgt := 18) E.1 E.2.1 dX1_least_65 rfl ?_
      exact ih18 (j + 1) _ (by omega) (by omega) (lv_sub hl [0, 1, 2, 3, 4] rfl)
set_option maxHeartbeats 4000000 in
set_option maxRecDepth 100000 in
theorem cR_greatest (l : Launch) (D : va_G) (ad : Nat → Nat) (ca : Nat → ClassId) (T : Nat → Nat → Int64) (n : Nat) (kc ko : Nat → Nat) (kv : Nat → Int64) (k cd : Nat) (b c : Nat) (hb0 : b < 8) (hc0 : c < 4) : Met l yX1_greatest (wA yX1_greatest cX1_greatest 6 (some .long)) (rN 0) (va_Pc [.ref (ad 0), .int (nI b), .int (nI c)] (pW D c2 (tR ca) (wR ad ca T n kc ko kv k cd))) (vp_Sl (fun z => z = mx (xb T b c) 15)) 0 0 (fun _ => False) := by
  refine met_of RX1 rfl (by decide) (Nat.le_of_ble_eq_true rfl) (fun p e s m below meth cd0 ls E hr hlk _ hB hl => ?_)
  obtain ⟨hP, hK⟩ := hB
  have hl : lv_has ls 6 [(0, .ref (ad 0)), (1, .int (nI b)), (2, .int (nI c))] := hl
  refine lv_aload_n E.1 E.2.1 dX1_greatest_0 rfl (lv_at hl 0 rfl) ?_
  refine n_get E inR hK hP 0 rfl rfl 2 (by decide) flR_7 rfl rfl dX1_greatest_1 ?_
  refine lv_bipush (v := nI 64) E.1 E.2.1 dX1_greatest_4 rfl ?_
  refine lv_iload_n E.1 E.2.1 dX1_greatest_6 rfl (lv_at hl 1 rfl) ?_
  refine n_imul E dX1_greatest_7 ?_
  refine lv_iload_n E.1 E.2.1 dX1_greatest_8 rfl (lv_at hl 2 rfl) ?_
  refine n_iadd E dX1_greatest_9 ?_
  refine n_rald E hK hP 1 0 rfl rfl (16 * b) c (by omega) (by omega) (by omega) dX1_greatest_10 ?_
  refine lv_lstore_n (lv' := [(3, .long (T (16 * b) c)), (0, .ref (ad 0)), (1, .int (nI b)), (2, .int (nI c))]) E.1 E.2.1 dX1_greatest_11 rfl hl (by decide) rfl (fun ls hl => ?_)
  refine lv_bipush (v := nI 16) E.1 E.2.1 dX1_greatest_12 rfl ?_
  refine lv_iload_n E.1 E.2.1 dX1_greatest_14 rfl (lv_at hl 2 rfl) ?_
  refine n_imul E dX1_greatest_15 ?_
  refine lv_istore (lv' := [(5, .int (nI (16 * b))), (3, .long (T (16 * b) c)), (0, .ref (ad 0)), (1, .int (nI b)), (2, .int (nI c))]) E.1 E.2.1 dX1_greatest_16 hl (by decide) rfl (fun ls hl => ?_)
  refine w_lp1 (fun (j : Nat) => j ≤ 16) (fun (j : Nat) => 16 - j) (fun (j : Nat) => [(5, .int (nI (16 * b + j))), (3, .long (mx (xb T b c) (j - 1))), (0, .ref (ad 0)), (1, .int (nI b)), (2, .int (nI c))]) 0 (Nat.zero_le _) (lv_sub hl [0, 1, 2, 3, 4] rfl) (fun j ls hI hl ih18 => ?_)
  have hl : lv_has ls 6 [(5, .int (nI (16 * b + j))), (3, .long (mx (xb T b c) (j - 1))), (0, .ref (ad 0)), (1, .int (nI b)), (2, .int (nI c))] := hl
  refine lv_iload E.1 E.2.1 dX1_greatest_18 (lv_at hl 0 rfl) ?_
  refine lv_bipush (v := nI 16) E.1 E.2.1 dX1_greatest_20 rfl ?_
  refine lv_iload_n E.1 E.2.1 dX1_greatest_22 rfl (lv_at hl 3 rfl) ?_
  refine n_imul E dX1_greatest_23 ?_
  refine lv_bipush (v := nI 16) E.1 E.2.1 dX1_greatest_24 rfl ?_
  refine n_iadd E dX1_greatest_26 ?_
  refine n_icmp_ge (tgt := 68) E dX1_greatest_27 rfl (by omega) (by omega) (fun h27 => ?_) (fun h27 => ?_)
  · skip
    refine lv_lload_n E.1 E.2.1 dX1_greatest_68 rfl (lv_at hl 1 rfl) ?_
    exact e_l E hr hlk (by rw [show j = 16 by omega]) dX1_greatest_69
  · skip
    refine lv_aload_n E.1 E.2.1 dX1_greatest_30 rfl (lv_at hl 2 rfl) ?_
    refine n_get E inR hK hP 0 rfl rfl 2 (by decide) flR_7 rfl rfl dX1_greatest_31 ?_
    refine lv_iconst (v := nI 4) E.1 E.2.1 dX1_greatest_34 rfl ?_
    refine lv_iload E.1 E.2.1 dX1_greatest_35 (lv_at hl 0 rfl) ?_
    refine n_imul E dX1_greatest_37 ?_
    refine lv_iload_n E.1 E.2.1 dX1_greatest_38 rfl (lv_at hl 4 rfl) ?_
    refine n_iadd E dX1_greatest_39 ?_
    refine n_rald E hK hP 1 0 rfl rfl (16 * b + j) c (by omega) (by omega) (by omega) dX1_greatest_40 ?_
    refine lv_lload_n E.1 E.2.1 dX1_greatest_41 rfl (lv_at hl 1 rfl) ?_
    refine l_if_le (tgt := 60) E dX1_greatest_42 dX1_greatest_43 rfl (fun h42 => ?_) (fun h42 => ?_)
    · skip
      refine lv_lload_n E.1 E.2.1 dX1_greatest_60 rfl (lv_at hl 1 rfl) ?_
      refine tpl (y := mx (xb T b c) j) (mxj_f h42) ?_
      refine lv_lstore_n (lv' := [(3, .long (mx (xb T b c) j)), (5, .int (nI (16 * b + j))), (0, .ref (ad 0)), (1, .int (nI b)), (2, .int (nI c))]) E.1 E.2.1 dX1_greatest_61 rfl hl (by decide) rfl (fun ls hl => ?_)
      refine lv_iinc (k := 1) (v := nI (16 * b + j + 1)) (lv' := [(5, .int (nI (16 * b + j + 1))), (3, .long (mx (xb T b c) j)), (0, .ref (ad 0)), (1, .int (nI b)), (2, .int (nI c))]) E.1 E.2.1 dX1_greatest_62 hl rfl (inc1 _) (by decide) rfl (fun ls hl => ?_)
      refine lv_goto (tgt := 18) E.1 E.2.1 dX1_greatest_65 rfl ?_
      exact ih18 (j + 1) _ (by omega) (by omega) (lv_sub hl [0, 1, 2, 3, 4] rfl)
    · skip
      refine lv_aload_n E.1 E.2.1 dX1_greatest_46 rfl (lv_at hl 2 rfl) ?_
      refine n_get E inR hK hP 0 rfl rfl 2 (by decide) flR_7 rfl rfl dX1_greatest_47 ?_
      refine lv_iconst (v := nI 4) E.1 E.2.1 dX1_greatest_50 rfl ?_
      refine lv_iload E.1 E.2.1 dX1_greatest_51 (lv_at hl 0 rfl) ?_
      refine n_imul E dX1_greatest_53 ?_
      refine lv_iload_n E.1 E.2.1 dX1_greatest_54 rfl (lv_at hl 4 rfl) ?_
      refine n_iadd E dX1_greatest_55 ?_
      refine n_rald E hK hP 1 0 rfl rfl (16 * b + j) c (by omega) (by omega) (by omega) dX1_greatest_56 ?_
      refine lv_goto (tgt := 61) E.1 E.2.1 dX1_greatest_57 rfl ?_
      refine tpl (y := mx (xb T b c) j) (mxj_t h42) ?_
      refine lv_lstore_n (lv' := [(3, .long (mx (xb T b c) j)), (5, .int (nI (16 * b + j))), (0, .ref (ad 0)), (1, .int (nI b)), (2, .int (nI c))]) E.1 E.2.1 dX1_greatest_61 rfl hl (by decide) rfl (fun ls hl => ?_)
      refine lv_iinc (k := 1) (v := nI (16 * b + j + 1)) (lv' := [(5, .int (nI (16 * b + j + 1))), (3, .long (mx (xb T b c) j)), (0, .ref (ad 0)), (1, .int (nI b)), (2, .int (nI c))]) E.1 E.2.1 dX1_greatest_62 hl rfl (inc1 _) (by decide) rfl (fun ls hl => ?_)
      refine lv_goto (tgt := 18) E.1 E.2.1 dX1_greatest_65 rfl ?_
      exact ih18 (j + 1) _ (by omega) (by omega) (lv_sub hl [0, 1, 2, 3, 4] rfl)
set_option maxHeartbeats 4000000 in
set_option maxRecDepth 100000 in
theorem cR_could (l : Launch) (o : Nat) (lo hi v : Int64) (ho : o < 6) : Met l yX1_could (wA yX1_could cX1_could 7 (some .boolean)) (rN 1) (va_Pc [.int (nI o), .long lo, .long hi, .long v] (fun _ => True)) (vp_Si (fun z => z = bI (cR o lo hi v))) 0 0 (fun _ => False) := by
  refine met_of RX1 rfl (by decide) (Nat.le_of_ble_eq_true rfl) (fun p e s m below meth cd0 ls E hr hlk _ hB hl => ?_)
  have hl : lv_has ls 7 [(0, .int (nI o)), (1, .long lo), (3, .long hi), (5, .long v)] := hl
  refine lv_iload_n E.1 E.2.1 dX1_could_0 rfl (lv_at hl 0 rfl) ?_
  refine lv_iconst (v := nI 2) E.1 E.2.1 dX1_could_1 rfl ?_
  refine n_icmp_ne (tgt := 25) E dX1_could_2 rfl (by omega) (by omega) (fun h2 => ?_) (fun h2 => ?_)
  · skip
    refine lv_iload_n E.1 E.2.1 dX1_could_25 rfl (lv_at hl 0 rfl) ?_
    refine lv_lload_n E.1 E.2.1 dX1_could_26 rfl (lv_at hl 1 rfl) ?_
    refine lv_lload E.1 E.2.1 dX1_could_27 (lv_at hl 3 rfl) ?_
    refine cS_i E (As := [.int (nI o), .long lo, .long v]) (rest := []) (cR_holds l o lo v ho) kR_37 rfl rfl ⟨Nat.le_of_ble_eq_true rfl, Nat.le_of_ble_eq_true rfl⟩ rfl hl.1 rfl (Nat.le_of_ble_eq_true rfl) dX1_could_29 ⟨Nat.zero_le _, Nat.zero_le _⟩ ?_
    refine b_if_ne (tgt := 45) E dX1_could_32 rfl (fun h32 => ?_) (fun h32 => ?_)
    · skip
      refine lv_iconst (v := nI 1) E.1 E.2.1 dX1_could_45 rfl ?_
      refine lv_goto (tgt := 50) E.1 E.2.1 dX1_could_46 rfl ?_
      exact e_z E hr hlk (show _ = _ from congrArg bI (show true = _ from by simp [cR, h2, h32])) dX1_could_50
    · skip
      refine lv_iload_n E.1 E.2.1 dX1_could_35 rfl (lv_at hl 0 rfl) ?_
      refine lv_lload_n E.1 E.2.1 dX1_could_36 rfl (lv_at hl 2 rfl) ?_
      refine lv_lload E.1 E.2.1 dX1_could_37 (lv_at hl 3 rfl) ?_
      refine cS_i E (As := [.int (nI o), .long hi, .long v]) (rest := []) (cR_holds l o hi v ho) kR_37 rfl rfl ⟨Nat.le_of_ble_eq_true rfl, Nat.le_of_ble_eq_true rfl⟩ rfl hl.1 rfl (Nat.le_of_ble_eq_true rfl) dX1_could_39 ⟨Nat.zero_le _, Nat.zero_le _⟩ ?_
      refine b_if_eq (tgt := 49) E dX1_could_42 rfl (fun h42 => ?_) (fun h42 => ?_)
      · skip
        refine lv_iconst (v := nI 0) E.1 E.2.1 dX1_could_49 rfl ?_
        exact e_z E hr hlk (show _ = _ from congrArg bI (show false = _ from by simp [cR, h2, h32, h42])) dX1_could_50
      · skip
        refine lv_iconst (v := nI 1) E.1 E.2.1 dX1_could_45 rfl ?_
        refine lv_goto (tgt := 50) E.1 E.2.1 dX1_could_46 rfl ?_
        exact e_z E hr hlk (show _ = _ from congrArg bI (show true = _ from by simp [cR, h2, h32, h42])) dX1_could_50
  · skip
    refine lv_lload_n E.1 E.2.1 dX1_could_5 rfl (lv_at hl 1 rfl) ?_
    refine lv_lload E.1 E.2.1 dX1_could_6 (lv_at hl 3 rfl) ?_
    refine l_if_gt (tgt := 23) E dX1_could_8 dX1_could_9 rfl (fun h8 => ?_) (fun h8 => ?_)
    · skip
      refine lv_iconst (v := nI 0) E.1 E.2.1 dX1_could_23 rfl ?_
      exact e_z E hr hlk (show _ = _ from congrArg bI (show false = _ from by simp [cR, h2, h8])) dX1_could_24
    · skip
      refine lv_lload E.1 E.2.1 dX1_could_12 (lv_at hl 3 rfl) ?_
      refine lv_lload_n E.1 E.2.1 dX1_could_14 rfl (lv_at hl 2 rfl) ?_
      refine l_if_gt (tgt := 23) E dX1_could_15 dX1_could_16 rfl (fun h15 => ?_) (fun h15 => ?_)
      · skip
        refine lv_iconst (v := nI 0) E.1 E.2.1 dX1_could_23 rfl ?_
        exact e_z E hr hlk (show _ = _ from congrArg bI (show false = _ from by simp [cR, h2, h8, h15])) dX1_could_24
      · skip
        refine lv_iconst (v := nI 1) E.1 E.2.1 dX1_could_19 rfl ?_
        refine lv_goto (tgt := 24) E.1 E.2.1 dX1_could_20 rfl ?_
        exact e_z E hr hlk (show _ = _ from congrArg bI (show true = _ from by simp [cR, h2, h8, h15])) dX1_could_24
set_option maxHeartbeats 4000000 in
set_option maxRecDepth 100000 in
theorem cR_blocks (l : Launch) (D : va_G) (ad : Nat → Nat) (ca : Nat → ClassId) (T : Nat → Nat → Int64) (n : Nat) (kc ko : Nat → Nat) (kv : Nat → Int64) (k cd : Nat)  (hN : inj ad 5) (hIK : iK kc ko k) (hn128 : n ≤ 128) : Met l yX1_blocks (wA yX1_blocks cX1_blocks 9 (some .int)) (rN 2) (va_Pc [.ref (ad 0)] (pW D c2 (tR ca) (wR ad ca T n kc ko kv k cd))) (qI (fun z (_ : Unit) => z = nI (ct (rbk T n kc ko kv k) ((n + 15) / 16))) D c2 (fun _ => wR ad ca T n kc ko kv k 0) (fA ad 5)) 0 0 (fA ad 5) := by
  refine met_of RX1 rfl (by decide) (Nat.le_of_ble_eq_true rfl) (fun p e s m below meth cd0 ls E hr hlk _ hB hl => ?_)
  obtain ⟨hP, hK⟩ := hB
  have hl : lv_has ls 9 [(0, .ref (ad 0))] := hl
  have hS : va_S (fA ad 5) s.heap s.heap [] := va_S.rf
  obtain ⟨hk, hkc, hko⟩ := id hIK
  refine lv_aload_n E.1 E.2.1 dX1_blocks_0 rfl (lv_at hl 0 rfl) ?_
  refine lv_iconst (v := nI 0) E.1 E.2.1 dX1_blocks_1 rfl ?_
  refine n_put E inR tyR1 tyR1_ok nmR1 hK hP (dW hN rfl) hS 0 rfl rfl 0 (by decide) flR_23 rfl rfl (tyR1_ok 0 (by decide)) (Nat.le_of_ble_eq_true rfl) dX1_blocks_2 (fun H locs hP hS => ?_)
  have hP : va_P D c2 (wR ad ca T n kc ko kv k 0) H := hP
  refine lv_iconst (v := nI 0) E.1 E.2.1 dX1_blocks_5 rfl ?_
  refine lv_istore_n (lv' := [(1, .int (nI 0)), (0, .ref (ad 0))]) E.1 E.2.1 dX1_blocks_6 rfl hl (by decide) rfl (fun ls hl => ?_)
  refine lv_iconst (v := nI 0) E.1 E.2.1 dX1_blocks_7 rfl ?_
  refine lv_istore_n (lv' := [(2, .int (nI 0)), (1, .int (nI 0)), (0, .ref (ad 0))]) E.1 E.2.1 dX1_blocks_8 rfl hl (by decide) rfl (fun ls hl => ?_)
  refine w_lp1 (fun (b : Nat) => b ≤ (n + 15) / 16) (fun (b : Nat) => (n + 15) / 16 - b) (fun (b : Nat) => [(2, .int (nI b)), (1, .int (nI (ct (rbk T n kc ko kv k) b))), (0, .ref (ad 0))]) 0 (Nat.zero_le _) (lv_sub hl [0, 1, 2] rfl) (fun b ls hI hl ih9 => ?_)
  have hl : lv_has ls 9 [(2, .int (nI b)), (1, .int (nI (ct (rbk T n kc ko kv k) b))), (0, .ref (ad 0))] := hl
  refine lv_bipush (v := nI 16) E.1 E.2.1 dX1_blocks_9 rfl ?_
  refine lv_iload_n E.1 E.2.1 dX1_blocks_11 rfl (lv_at hl 0 rfl) ?_
  refine n_imul E dX1_blocks_12 ?_
  refine lv_aload_n E.1 E.2.1 dX1_blocks_13 rfl (lv_at hl 2 rfl) ?_
  refine n_get E inR hK hP 0 rfl rfl 1 (by decide) flR_27 rfl rfl dX1_blocks_14 ?_
  refine n_icmp_ge (tgt := 134) E dX1_blocks_17 rfl (by omega) (by omega) (fun h17 => ?_) (fun h17 => ?_)
  · skip
    refine lv_iload_n E.1 E.2.1 dX1_blocks_134 rfl (lv_at hl 1 rfl) ?_
    exact e_wi E hr hlk hS () (by rw [show (n + 15) / 16 = b by omega]) hP dX1_blocks_135
  · skip
    refine lv_iconst (v := nI 1) E.1 E.2.1 dX1_blocks_20 rfl ?_
    refine lv_istore_n (lv' := [(3, .int (nI 1)), (2, .int (nI b)), (1, .int (nI (ct (rbk T n kc ko kv k) b))), (0, .ref (ad 0))]) E.1 E.2.1 dX1_blocks_21 rfl hl (by decide) rfl (fun ls hl => ?_)
    refine lv_iconst (v := nI 0) E.1 E.2.1 dX1_blocks_22 rfl ?_
    refine lv_istore (lv' := [(4, .int (nI 0)), (3, .int (nI 1)), (2, .int (nI b)), (1, .int (nI (ct (rbk T n kc ko kv k) b))), (0, .ref (ad 0))]) E.1 E.2.1 dX1_blocks_23 hl (by decide) rfl (fun ls hl => ?_)
    refine w_lp1 (fun (j : Nat) => j ≤ k ∧ (16 * b + 16 ≤ n ∨ j = 0)) (fun (j : Nat) => k - j) (fun (j : Nat) => [(4, .int (nI j)), (3, .int (bI (al (fun i => cR (ko i) (mn (xb T b (kc i)) 15) (mx (xb T b (kc i)) 15) (kv i)) j))), (2, .int (nI b)), (1, .int (nI (ct (rbk T n kc ko kv k) b))), (0, .ref (ad 0))]) 0 (⟨Nat.zero_le _, Or.inr rfl⟩) (lv_sub hl [0, 1, 2, 3, 4] rfl) (fun j ls hI hl ih25 => ?_)
    have hl : lv_has ls 9 [(4, .int (nI j)), (3, .int (bI (al (fun i => cR (ko i) (mn (xb T b (kc i)) 15) (mx (xb T b (kc i)) 15) (kv i)) j))), (2, .int (nI b)), (1, .int (nI (ct (rbk T n kc ko kv k) b))), (0, .ref (ad 0))] := hl
    obtain ⟨hj1, hj2⟩ := hI
    refine lv_iload E.1 E.2.1 dX1_blocks_25 (lv_at hl 0 rfl) ?_
    refine lv_aload_n E.1 E.2.1 dX1_blocks_27 rfl (lv_at hl 4 rfl) ?_
    refine n_get E inR hK hP 0 rfl rfl 3 (by decide) flR_34 rfl rfl dX1_blocks_28 ?_
    refine n_icmp_ge (tgt := 116) E dX1_blocks_31 rfl (by omega) (by omega) (fun h31 => ?_) (fun h31 => ?_)
    · skip
      have e9 : al (fun i => cR (ko i) (mn (xb T b (kc i)) 15) (mx (xb T b (kc i)) 15) (kv i)) j = rbk T n kc ko kv k b := rbk_full hj2 (by omega)
      rw [e9] at hl
      refine lv_iload_n E.1 E.2.1 dX1_blocks_116 rfl (lv_at hl 3 rfl) ?_
      refine lv_iload_n E.1 E.2.1 dX1_blocks_117 rfl (lv_at hl 1 rfl) ?_
      refine b_if_eq (tgt := 125) E dX1_blocks_118 rfl (fun h118 => ?_) (fun h118 => ?_)
      · skip
        refine lv_iconst (v := nI 0) E.1 E.2.1 dX1_blocks_125 rfl ?_
        refine n_iadd E dX1_blocks_126 ?_
        refine lv_istore_n (lv' := [(1, .int (nI (ct (rbk T n kc ko kv k) b + 0))), (4, .int (nI j)), (3, .int (bI (rbk T n kc ko kv k b))), (2, .int (nI b)), (0, .ref (ad 0))]) E.1 E.2.1 dX1_blocks_127 rfl hl (by decide) rfl (fun ls hl => ?_)
        refine lv_iinc (k := 3) (v := nI (b + 1)) (lv' := [(2, .int (nI (b + 1))), (1, .int (nI (ct (rbk T n kc ko kv k) b + 0))), (4, .int (nI j)), (3, .int (bI (rbk T n kc ko kv k b))), (0, .ref (ad 0))]) E.1 E.2.1 dX1_blocks_128 hl rfl (inc1 _) (by decide) rfl (fun ls hl => ?_)
        refine lv_goto (tgt := 9) E.1 E.2.1 dX1_blocks_131 rfl ?_
        rw [← ct_f (p := (rbk T n kc ko kv k)) h118] at hl
        exact ih9 (b + 1) _ (by omega) (by omega) (lv_sub hl [0, 1, 4] rfl)
      · skip
        refine lv_iconst (v := nI 1) E.1 E.2.1 dX1_blocks_121 rfl ?_
        refine lv_goto (tgt := 126) E.1 E.2.1 dX1_blocks_122 rfl ?_
        refine n_iadd E dX1_blocks_126 ?_
        refine lv_istore_n (lv' := [(1, .int (nI (ct (rbk T n kc ko kv k) b + 1))), (4, .int (nI j)), (3, .int (bI (rbk T n kc ko kv k b))), (2, .int (nI b)), (0, .ref (ad 0))]) E.1 E.2.1 dX1_blocks_127 rfl hl (by decide) rfl (fun ls hl => ?_)
        refine lv_iinc (k := 3) (v := nI (b + 1)) (lv' := [(2, .int (nI (b + 1))), (1, .int (nI (ct (rbk T n kc ko kv k) b + 1))), (4, .int (nI j)), (3, .int (bI (rbk T n kc ko kv k b))), (0, .ref (ad 0))]) E.1 E.2.1 dX1_blocks_128 hl rfl (inc1 _) (by decide) rfl (fun ls hl => ?_)
        refine lv_goto (tgt := 9) E.1 E.2.1 dX1_blocks_131 rfl ?_
        rw [← ct_t (p := (rbk T n kc ko kv k)) h118] at hl
        exact ih9 (b + 1) _ (by omega) (by omega) (lv_sub hl [0, 1, 4] rfl)
    · skip
      refine lv_bipush (v := nI 16) E.1 E.2.1 dX1_blocks_34 rfl ?_
      refine lv_iload_n E.1 E.2.1 dX1_blocks_36 rfl (lv_at hl 2 rfl) ?_
      refine n_imul E dX1_blocks_37 ?_
      refine lv_bipush (v := nI 16) E.1 E.2.1 dX1_blocks_38 rfl ?_
      refine n_iadd E dX1_blocks_40 ?_
      refine lv_aload_n E.1 E.2.1 dX1_blocks_41 rfl (lv_at hl 4 rfl) ?_
      refine n_get E inR hK hP 0 rfl rfl 1 (by decide) flR_27 rfl rfl dX1_blocks_42 ?_
      refine n_icmp_gt (tgt := 116) E dX1_blocks_45 rfl (by omega) (by omega) (fun h45 => ?_) (fun h45 => ?_)
      · skip
        have e9 : al (fun i => cR (ko i) (mn (xb T b (kc i)) 15) (mx (xb T b (kc i)) 15) (kv i)) j = rbk T n kc ko kv k b := rbk_part (by omega) (by omega)
        rw [e9] at hl
        refine lv_iload_n E.1 E.2.1 dX1_blocks_116 rfl (lv_at hl 3 rfl) ?_
        refine lv_iload_n E.1 E.2.1 dX1_blocks_117 rfl (lv_at hl 1 rfl) ?_
        refine b_if_eq (tgt := 125) E dX1_blocks_118 rfl (fun h118 => ?_) (fun h118 => ?_)
        · skip
          refine lv_iconst (v := nI 0) E.1 E.2.1 dX1_blocks_125 rfl ?_
          refine n_iadd E dX1_blocks_126 ?_
          refine lv_istore_n (lv' := [(1, .int (nI (ct (rbk T n kc ko kv k) b + 0))), (4, .int (nI j)), (3, .int (bI (rbk T n kc ko kv k b))), (2, .int (nI b)), (0, .ref (ad 0))]) E.1 E.2.1 dX1_blocks_127 rfl hl (by decide) rfl (fun ls hl => ?_)
          refine lv_iinc (k := 3) (v := nI (b + 1)) (lv' := [(2, .int (nI (b + 1))), (1, .int (nI (ct (rbk T n kc ko kv k) b + 0))), (4, .int (nI j)), (3, .int (bI (rbk T n kc ko kv k b))), (0, .ref (ad 0))]) E.1 E.2.1 dX1_blocks_128 hl rfl (inc1 _) (by decide) rfl (fun ls hl => ?_)
          refine lv_goto (tgt := 9) E.1 E.2.1 dX1_blocks_131 rfl ?_
          rw [← ct_f (p := (rbk T n kc ko kv k)) h118] at hl
          exact ih9 (b + 1) _ (by omega) (by omega) (lv_sub hl [0, 1, 4] rfl)
        · skip
          refine lv_iconst (v := nI 1) E.1 E.2.1 dX1_blocks_121 rfl ?_
          refine lv_goto (tgt := 126) E.1 E.2.1 dX1_blocks_122 rfl ?_
          refine n_iadd E dX1_blocks_126 ?_
          refine lv_istore_n (lv' := [(1, .int (nI (ct (rbk T n kc ko kv k) b + 1))), (4, .int (nI j)), (3, .int (bI (rbk T n kc ko kv k b))), (2, .int (nI b)), (0, .ref (ad 0))]) E.1 E.2.1 dX1_blocks_127 rfl hl (by decide) rfl (fun ls hl => ?_)
          refine lv_iinc (k := 3) (v := nI (b + 1)) (lv' := [(2, .int (nI (b + 1))), (1, .int (nI (ct (rbk T n kc ko kv k) b + 1))), (4, .int (nI j)), (3, .int (bI (rbk T n kc ko kv k b))), (0, .ref (ad 0))]) E.1 E.2.1 dX1_blocks_128 hl rfl (inc1 _) (by decide) rfl (fun ls hl => ?_)
          refine lv_goto (tgt := 9) E.1 E.2.1 dX1_blocks_131 rfl ?_
          rw [← ct_t (p := (rbk T n kc ko kv k)) h118] at hl
          exact ih9 (b + 1) _ (by omega) (by omega) (lv_sub hl [0, 1, 4] rfl)
      · skip
        have hq := hkc j
        refine lv_aload_n E.1 E.2.1 dX1_blocks_48 rfl (lv_at hl 4 rfl) ?_
        refine lv_iload_n E.1 E.2.1 dX1_blocks_49 rfl (lv_at hl 2 rfl) ?_
        refine lv_aload_n E.1 E.2.1 dX1_blocks_50 rfl (lv_at hl 4 rfl) ?_
        refine n_get E inR hK hP 0 rfl rfl 4 (by decide) flR_13 rfl rfl dX1_blocks_51 ?_
        refine lv_iload E.1 E.2.1 dX1_blocks_54 (lv_at hl 0 rfl) ?_
        refine n_iald E hK hP 2 1 rfl rfl (by decide) (by omega) dX1_blocks_56 ?_
        refine cV_l E (As := [.int (nI b), .int (nI (kc j))]) (rest := []) (cR_least l D ad ca T n kc ko kv k 0 b (kc j) (by omega) (by omega)) kR_48 hK hP 0 rfl rfl rfl rfl ⟨Nat.le_of_ble_eq_true rfl, Nat.le_of_ble_eq_true rfl⟩ rfl hl.1 rfl (Nat.le_of_ble_eq_true rfl) dX1_blocks_57 ⟨Nat.zero_le _, Nat.zero_le _⟩ ?_
        refine lv_lstore (lv' := [(5, .long (mn (xb T b (kc j)) 15)), (4, .int (nI j)), (3, .int (bI (al (fun i => cR (ko i) (mn (xb T b (kc i)) 15) (mx (xb T b (kc i)) 15) (kv i)) j))), (2, .int (nI b)), (1, .int (nI (ct (rbk T n kc ko kv k) b))), (0, .ref (ad 0))]) E.1 E.2.1 dX1_blocks_60 hl (by decide) rfl (fun ls hl => ?_)
        refine lv_aload_n E.1 E.2.1 dX1_blocks_62 rfl (lv_at hl 5 rfl) ?_
        refine lv_iload_n E.1 E.2.1 dX1_blocks_63 rfl (lv_at hl 3 rfl) ?_
        refine lv_aload_n E.1 E.2.1 dX1_blocks_64 rfl (lv_at hl 5 rfl) ?_
        refine n_get E inR hK hP 0 rfl rfl 4 (by decide) flR_13 rfl rfl dX1_blocks_65 ?_
        refine lv_iload E.1 E.2.1 dX1_blocks_68 (lv_at hl 1 rfl) ?_
        refine n_iald E hK hP 2 1 rfl rfl (by decide) (by omega) dX1_blocks_70 ?_
        refine cV_l E (As := [.int (nI b), .int (nI (kc j))]) (rest := []) (cR_greatest l D ad ca T n kc ko kv k 0 b (kc j) (by omega) (by omega)) kR_52 hK hP 0 rfl rfl rfl rfl ⟨Nat.le_of_ble_eq_true rfl, Nat.le_of_ble_eq_true rfl⟩ rfl hl.1 rfl (Nat.le_of_ble_eq_true rfl) dX1_blocks_71 ⟨Nat.zero_le _, Nat.zero_le _⟩ ?_
        refine lv_lstore (lv' := [(7, .long (mx (xb T b (kc j)) 15)), (5, .long (mn (xb T b (kc j)) 15)), (4, .int (nI j)), (3, .int (bI (al (fun i => cR (ko i) (mn (xb T b (kc i)) 15) (mx (xb T b (kc i)) 15) (kv i)) j))), (2, .int (nI b)), (1, .int (nI (ct (rbk T n kc ko kv k) b))), (0, .ref (ad 0))]) E.1 E.2.1 dX1_blocks_74 hl (by decide) rfl (fun ls hl => ?_)
        refine lv_iload_n E.1 E.2.1 dX1_blocks_76 rfl (lv_at hl 3 rfl) ?_
        refine b_if_eq (tgt := 108) E dX1_blocks_77 rfl (fun h77 => ?_) (fun h77 => ?_)
        · skip
          refine lv_iconst (v := nI 0) E.1 E.2.1 dX1_blocks_108 rfl ?_
          refine tpi (y := bI (al (fun i => cR (ko i) (mn (xb T b (kc i)) 15) (mx (xb T b (kc i)) 15) (kv i)) (j + 1))) (congrArg bI (al2 h77 rfl).symm) ?_
          refine lv_istore_n (lv' := [(3, .int (bI (al (fun i => cR (ko i) (mn (xb T b (kc i)) 15) (mx (xb T b (kc i)) 15) (kv i)) (j + 1)))), (7, .long (mx (xb T b (kc j)) 15)), (5, .long (mn (xb T b (kc j)) 15)), (4, .int (nI j)), (2, .int (nI b)), (1, .int (nI (ct (rbk T n kc ko kv k) b))), (0, .ref (ad 0))]) E.1 E.2.1 dX1_blocks_109 rfl hl (by decide) rfl (fun ls hl => ?_)
          refine lv_iinc (k := 3) (v := nI (j + 1)) (lv' := [(4, .int (nI (j + 1))), (3, .int (bI (al (fun i => cR (ko i) (mn (xb T b (kc i)) 15) (mx (xb T b (kc i)) 15) (kv i)) (j + 1)))), (7, .long (mx (xb T b (kc j)) 15)), (5, .long (mn (xb T b (kc j)) 15)), (2, .int (nI b)), (1, .int (nI (ct (rbk T n kc ko kv k) b))), (0, .ref (ad 0))]) E.1 E.2.1 dX1_blocks_110 hl rfl (inc1 _) (by decide) rfl (fun ls hl => ?_)
          refine lv_goto (tgt := 25) E.1 E.2.1 dX1_blocks_113 rfl ?_
          exact ih25 (j + 1) _ (⟨by omega, by omega⟩) (by omega) (lv_sub hl [0, 1, 4, 5, 6] rfl)
        · skip
          refine lv_aload_n E.1 E.2.1 dX1_blocks_80 rfl (lv_at hl 6 rfl) ?_
          refine n_get E inR hK hP 0 rfl rfl 5 (by decide) flR_17 rfl rfl dX1_blocks_81 ?_
          refine lv_iload E.1 E.2.1 dX1_blocks_84 (lv_at hl 2 rfl) ?_
          refine n_iald E hK hP 3 2 rfl rfl (by decide) (by omega) dX1_blocks_86 ?_
          refine lv_lload E.1 E.2.1 dX1_blocks_87 (lv_at hl 1 rfl) ?_
          refine lv_lload E.1 E.2.1 dX1_blocks_89 (lv_at hl 0 rfl) ?_
          refine lv_aload_n E.1 E.2.1 dX1_blocks_91 rfl (lv_at hl 6 rfl) ?_
          refine n_get E inR hK hP 0 rfl rfl 6 (by decide) flR_20 rfl rfl dX1_blocks_92 ?_
          refine lv_iload E.1 E.2.1 dX1_blocks_95 (lv_at hl 2 rfl) ?_
          refine n_lald E hK hP 4 3 rfl rfl (by decide) (by omega) dX1_blocks_97 ?_
          refine cS_i E (As := [.int (nI (ko j)), .long (mn (xb T b (kc j)) 15), .long (mx (xb T b (kc j)) 15), .long (kv j)]) (rest := []) (cR_could l (ko j) (mn (xb T b (kc j)) 15) (mx (xb T b (kc j)) 15) (kv j) (hko j)) kR_55 rfl rfl ⟨Nat.le_of_ble_eq_true rfl, Nat.le_of_ble_eq_true rfl⟩ rfl hl.1 rfl (Nat.le_of_ble_eq_true rfl) dX1_blocks_98 ⟨Nat.zero_le _, Nat.zero_le _⟩ ?_
          refine b_if_eq (tgt := 108) E dX1_blocks_101 rfl (fun h101 => ?_) (fun h101 => ?_)
          · skip
            refine lv_iconst (v := nI 0) E.1 E.2.1 dX1_blocks_108 rfl ?_
            refine tpi (y := bI (al (fun i => cR (ko i) (mn (xb T b (kc i)) 15) (mx (xb T b (kc i)) 15) (kv i)) (j + 1))) (congrArg bI (al2 h77 h101).symm) ?_
            refine lv_istore_n (lv' := [(3, .int (bI (al (fun i => cR (ko i) (mn (xb T b (kc i)) 15) (mx (xb T b (kc i)) 15) (kv i)) (j + 1)))), (7, .long (mx (xb T b (kc j)) 15)), (5, .long (mn (xb T b (kc j)) 15)), (4, .int (nI j)), (2, .int (nI b)), (1, .int (nI (ct (rbk T n kc ko kv k) b))), (0, .ref (ad 0))]) E.1 E.2.1 dX1_blocks_109 rfl hl (by decide) rfl (fun ls hl => ?_)
            refine lv_iinc (k := 3) (v := nI (j + 1)) (lv' := [(4, .int (nI (j + 1))), (3, .int (bI (al (fun i => cR (ko i) (mn (xb T b (kc i)) 15) (mx (xb T b (kc i)) 15) (kv i)) (j + 1)))), (7, .long (mx (xb T b (kc j)) 15)), (5, .long (mn (xb T b (kc j)) 15)), (2, .int (nI b)), (1, .int (nI (ct (rbk T n kc ko kv k) b))), (0, .ref (ad 0))]) E.1 E.2.1 dX1_blocks_110 hl rfl (inc1 _) (by decide) rfl (fun ls hl => ?_)
            refine lv_goto (tgt := 25) E.1 E.2.1 dX1_blocks_113 rfl ?_
            exact ih25 (j + 1) _ (⟨by omega, by omega⟩) (by omega) (lv_sub hl [0, 1, 4, 5, 6] rfl)
          · skip
            refine lv_iconst (v := nI 1) E.1 E.2.1 dX1_blocks_104 rfl ?_
            refine lv_goto (tgt := 109) E.1 E.2.1 dX1_blocks_105 rfl ?_
            refine tpi (y := bI (al (fun i => cR (ko i) (mn (xb T b (kc i)) 15) (mx (xb T b (kc i)) 15) (kv i)) (j + 1))) (congrArg bI (al2 h77 h101).symm) ?_
            refine lv_istore_n (lv' := [(3, .int (bI (al (fun i => cR (ko i) (mn (xb T b (kc i)) 15) (mx (xb T b (kc i)) 15) (kv i)) (j + 1)))), (7, .long (mx (xb T b (kc j)) 15)), (5, .long (mn (xb T b (kc j)) 15)), (4, .int (nI j)), (2, .int (nI b)), (1, .int (nI (ct (rbk T n kc ko kv k) b))), (0, .ref (ad 0))]) E.1 E.2.1 dX1_blocks_109 rfl hl (by decide) rfl (fun ls hl => ?_)
            refine lv_iinc (k := 3) (v := nI (j + 1)) (lv' := [(4, .int (nI (j + 1))), (3, .int (bI (al (fun i => cR (ko i) (mn (xb T b (kc i)) 15) (mx (xb T b (kc i)) 15) (kv i)) (j + 1)))), (7, .long (mx (xb T b (kc j)) 15)), (5, .long (mn (xb T b (kc j)) 15)), (2, .int (nI b)), (1, .int (nI (ct (rbk T n kc ko kv k) b))), (0, .ref (ad 0))]) E.1 E.2.1 dX1_blocks_110 hl rfl (inc1 _) (by decide) rfl (fun ls hl => ?_)
            refine lv_goto (tgt := 25) E.1 E.2.1 dX1_blocks_113 rfl ?_
            exact ih25 (j + 1) _ (⟨by omega, by omega⟩) (by omega) (lv_sub hl [0, 1, 4, 5, 6] rfl)
