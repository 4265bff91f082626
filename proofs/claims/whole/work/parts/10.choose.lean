/-! Contracts of the hall: laid by program (wip/whole/gen.py). -/
set_option maxHeartbeats 4000000 in
set_option maxRecDepth 100000 in
theorem cX_spot (l : Launch) (r c : Nat)  : Met l yX0_spot (wA yX0_spot cX0_spot 2 (some .int)) (rN 0) (va_Pc [.int (nI r), .int (nI c)] (fun _ => True)) (vp_Si (fun z => z = nI (c * 128 + r))) 0 0 (fun _ => False) := by
  refine met_of RX0 rfl (by decide) (Nat.le_of_ble_eq_true rfl) (fun p e s m below meth cd ls E hr hlk _ hB hl => ?_)
  have hl : lv_has ls 2 [(0, .int (nI r)), (1, .int (nI c))] := hl
  refine lv_iload_n E.1 E.2.1 dX0_spot_0 rfl (lv_at hl 1 rfl) ?_
  refine lv_sipush (v := nI 128) E.1 E.2.1 dX0_spot_1 rfl ?_
  refine n_imul E dX0_spot_4 ?_
  refine lv_iload_n E.1 E.2.1 dX0_spot_5 rfl (lv_at hl 0 rfl) ?_
  refine n_iadd E dX0_spot_6 ?_
  exact e_i E hr hlk rfl dX0_spot_7
set_option maxHeartbeats 4000000 in
set_option maxRecDepth 100000 in
theorem cX_place (l : Launch) (b c : Nat)  : Met l yX0_place (wA yX0_place cX0_place 2 (some .int)) (rN 0) (va_Pc [.int (nI b), .int (nI c)] (fun _ => True)) (vp_Si (fun z => z = nI (b * 4 + c))) 0 0 (fun _ => False) := by
  refine met_of RX0 rfl (by decide) (Nat.le_of_ble_eq_true rfl) (fun p e s m below meth cd ls E hr hlk _ hB hl => ?_)
  have hl : lv_has ls 2 [(0, .int (nI b)), (1, .int (nI c))] := hl
  refine lv_iload_n E.1 E.2.1 dX0_place_0 rfl (lv_at hl 0 rfl) ?_
  refine lv_iconst (v := nI 4) E.1 E.2.1 dX0_place_1 rfl ?_
  refine n_imul E dX0_place_2 ?_
  refine lv_iload_n E.1 E.2.1 dX0_place_3 rfl (lv_at hl 1 rfl) ?_
  refine n_iadd E dX0_place_4 ?_
  exact e_i E hr hlk rfl dX0_place_5
set_option maxHeartbeats 4000000 in
set_option maxRecDepth 100000 in
theorem cX_fullBlocks (l : Launch) (D : va_G) (ad : Nat → Nat) (ca : Nat → ClassId) (T : Nat → Nat → Int64) (n : Nat) (kc ko : Nat → Nat) (kv : Nat → Int64) (k : Nat) (lo hi : Nat → Int64) (bw bb pk : Nat → Nat)  (hn : n ≤ 128) : Met l yX0_fullBlocks (wA yX0_fullBlocks cX0_fullBlocks 1 (some .int)) (rN 0) (va_Pc [.ref (ad 0)] (pW D c2 (tX ca) (wX ad ca T n kc ko kv k lo hi bw bb pk))) (vp_Si (fun z => z = nI (n / 16))) 0 0 (fun _ => False) := by
  refine met_of RX0 rfl (by decide) (Nat.le_of_ble_eq_true rfl) (fun p e s m below meth cd ls E hr hlk _ hB hl => ?_)
  obtain ⟨hP, hK⟩ := hB
  have hl : lv_has ls 1 [(0, .ref (ad 0))] := hl
  refine lv_aload_n E.1 E.2.1 dX0_fullBlocks_0 rfl (lv_at hl 0 rfl) ?_
  refine n_get E inX hK hP 0 rfl rfl 1 (by decide) flX_13 rfl rfl dX0_fullBlocks_1 ?_
  refine lv_bipush (v := nI 16) E.1 E.2.1 dX0_fullBlocks_4 rfl ?_
  refine n_idiv E (by omega) (by omega) (by omega) dX0_fullBlocks_6 ?_
  exact e_i E hr hlk rfl dX0_fullBlocks_7
set_option maxHeartbeats 4000000 in
set_option maxRecDepth 100000 in
theorem cX_startedBlocks (l : Launch) (D : va_G) (ad : Nat → Nat) (ca : Nat → ClassId) (T : Nat → Nat → Int64) (n : Nat) (kc ko : Nat → Nat) (kv : Nat → Int64) (k : Nat) (lo hi : Nat → Int64) (bw bb pk : Nat → Nat)  (hn : n ≤ 128) : Met l yX0_startedBlocks (wA yX0_startedBlocks cX0_startedBlocks 1 (some .int)) (rN 0) (va_Pc [.ref (ad 0)] (pW D c2 (tX ca) (wX ad ca T n kc ko kv k lo hi bw bb pk))) (vp_Si (fun z => z = nI ((n + 16 - 1) / 16))) 0 0 (fun _ => False) := by
  refine met_of RX0 rfl (by decide) (Nat.le_of_ble_eq_true rfl) (fun p e s m below meth cd ls E hr hlk _ hB hl => ?_)
  obtain ⟨hP, hK⟩ := hB
  have hl : lv_has ls 1 [(0, .ref (ad 0))] := hl
  refine lv_aload_n E.1 E.2.1 dX0_startedBlocks_0 rfl (lv_at hl 0 rfl) ?_
  refine n_get E inX hK hP 0 rfl rfl 1 (by decide) flX_13 rfl rfl dX0_startedBlocks_1 ?_
  refine lv_bipush (v := nI 16) E.1 E.2.1 dX0_startedBlocks_4 rfl ?_
  refine n_iadd E dX0_startedBlocks_6 ?_
  refine lv_iconst (v := nI 1) E.1 E.2.1 dX0_startedBlocks_7 rfl ?_
  refine n_isub E (by omega) dX0_startedBlocks_8 ?_
  refine lv_bipush (v := nI 16) E.1 E.2.1 dX0_startedBlocks_9 rfl ?_
  refine n_idiv E (by omega) (by omega) (by omega) dX0_startedBlocks_11 ?_
  exact e_i E hr hlk rfl dX0_startedBlocks_12
set_option maxHeartbeats 4000000 in
set_option maxRecDepth 100000 in
theorem cX_couldHold (l : Launch) (o : Nat) (v x y : Int64) (ho : o < 6) : Met l yX0_couldHold (wA yX0_couldHold cX0_couldHold 7 (some .boolean)) (rN 0) (va_Pc [.int (nI o), .long v, .long x, .long y] (fun _ => True)) (vp_Si (fun z => z = bI (cH o v x y))) 0 0 (fun _ => False) := by
  refine met_of RX0 rfl (by decide) (Nat.le_of_ble_eq_true rfl) (fun p e s m below meth cd ls E hr hlk _ hB hl => ?_)
  have hl : lv_has ls 7 [(0, .int (nI o)), (1, .long v), (3, .long x), (5, .long y)] := hl
  refine lv_iload_n E.1 E.2.1 dX0_couldHold_0 rfl (lv_at hl 0 rfl) ?_
  rcases o6 ho with rfl | rfl | rfl | rfl | rfl | rfl
  · skip
    refine lv_tableIn (off := 35) (tgt := 36) E.1 E.2.1 dX0_couldHold_1 (by decide) (by decide) (by decide) rfl ?_
    refine lv_lload_n E.1 E.2.1 dX0_couldHold_36 rfl (lv_at hl 2 rfl) ?_
    refine lv_lload_n E.1 E.2.1 dX0_couldHold_37 rfl (lv_at hl 1 rfl) ?_
    refine l_if_ge (tgt := 46) E dX0_couldHold_38 dX0_couldHold_39 rfl (fun h38 => ?_) (fun h38 => ?_)
    · skip
      refine lv_iconst (v := nI 0) E.1 E.2.1 dX0_couldHold_46 rfl ?_
      exact e_z E hr hlk (show _ = _ from congrArg bI (show false = _ from by simp [cH, h38])) dX0_couldHold_47
    · skip
      refine lv_iconst (v := nI 1) E.1 E.2.1 dX0_couldHold_42 rfl ?_
      refine lv_goto (tgt := 47) E.1 E.2.1 dX0_couldHold_43 rfl ?_
      exact e_z E hr hlk (show _ = _ from congrArg bI (show true = _ from by simp [cH, h38])) dX0_couldHold_47
  · skip
    refine lv_tableIn (off := 47) (tgt := 48) E.1 E.2.1 dX0_couldHold_1 (by decide) (by decide) (by decide) rfl ?_
    refine lv_lload_n E.1 E.2.1 dX0_couldHold_48 rfl (lv_at hl 2 rfl) ?_
    refine lv_lload_n E.1 E.2.1 dX0_couldHold_49 rfl (lv_at hl 1 rfl) ?_
    refine l_if_gt (tgt := 58) E dX0_couldHold_50 dX0_couldHold_51 rfl (fun h50 => ?_) (fun h50 => ?_)
    · skip
      refine lv_iconst (v := nI 0) E.1 E.2.1 dX0_couldHold_58 rfl ?_
      exact e_z E hr hlk (show _ = _ from congrArg bI (show false = _ from by simp [cH, h50])) dX0_couldHold_59
    · skip
      refine lv_iconst (v := nI 1) E.1 E.2.1 dX0_couldHold_54 rfl ?_
      refine lv_goto (tgt := 59) E.1 E.2.1 dX0_couldHold_55 rfl ?_
      exact e_z E hr hlk (show _ = _ from congrArg bI (show true = _ from by simp [cH, h50])) dX0_couldHold_59
  · skip
    refine lv_tableIn (off := 59) (tgt := 60) E.1 E.2.1 dX0_couldHold_1 (by decide) (by decide) (by decide) rfl ?_
    refine lv_lload_n E.1 E.2.1 dX0_couldHold_60 rfl (lv_at hl 2 rfl) ?_
    refine lv_lload_n E.1 E.2.1 dX0_couldHold_61 rfl (lv_at hl 1 rfl) ?_
    refine l_if_gt (tgt := 77) E dX0_couldHold_62 dX0_couldHold_63 rfl (fun h62 => ?_) (fun h62 => ?_)
    · skip
      refine lv_iconst (v := nI 0) E.1 E.2.1 dX0_couldHold_77 rfl ?_
      exact e_z E hr hlk (show _ = _ from congrArg bI (show false = _ from by simp [cH, h62])) dX0_couldHold_78
    · skip
      refine lv_lload_n E.1 E.2.1 dX0_couldHold_66 rfl (lv_at hl 1 rfl) ?_
      refine lv_lload E.1 E.2.1 dX0_couldHold_67 (lv_at hl 3 rfl) ?_
      refine l_if_gt (tgt := 77) E dX0_couldHold_69 dX0_couldHold_70 rfl (fun h69 => ?_) (fun h69 => ?_)
      · skip
        refine lv_iconst (v := nI 0) E.1 E.2.1 dX0_couldHold_77 rfl ?_
        exact e_z E hr hlk (show _ = _ from congrArg bI (show false = _ from by simp [cH, h62, h69])) dX0_couldHold_78
      · skip
        refine lv_iconst (v := nI 1) E.1 E.2.1 dX0_couldHold_73 rfl ?_
        refine lv_goto (tgt := 78) E.1 E.2.1 dX0_couldHold_74 rfl ?_
        exact e_z E hr hlk (show _ = _ from congrArg bI (show true = _ from by simp [cH, h62, h69])) dX0_couldHold_78
  · skip
    refine lv_tableIn (off := 78) (tgt := 79) E.1 E.2.1 dX0_couldHold_1 (by decide) (by decide) (by decide) rfl ?_
    refine lv_lload E.1 E.2.1 dX0_couldHold_79 (lv_at hl 3 rfl) ?_
    refine lv_lload_n E.1 E.2.1 dX0_couldHold_81 rfl (lv_at hl 1 rfl) ?_
    refine l_if_lt (tgt := 90) E dX0_couldHold_82 dX0_couldHold_83 rfl (fun h82 => ?_) (fun h82 => ?_)
    · skip
      refine lv_iconst (v := nI 0) E.1 E.2.1 dX0_couldHold_90 rfl ?_
      exact e_z E hr hlk (show _ = _ from congrArg bI (show false = _ from by simp [cH, h82])) dX0_couldHold_91
    · skip
      refine lv_iconst (v := nI 1) E.1 E.2.1 dX0_couldHold_86 rfl ?_
      refine lv_goto (tgt := 91) E.1 E.2.1 dX0_couldHold_87 rfl ?_
      exact e_z E hr hlk (show _ = _ from congrArg bI (show true = _ from by simp [cH, h82])) dX0_couldHold_91
  · skip
    refine lv_tableIn (off := 91) (tgt := 92) E.1 E.2.1 dX0_couldHold_1 (by decide) (by decide) (by decide) rfl ?_
    refine lv_lload E.1 E.2.1 dX0_couldHold_92 (lv_at hl 3 rfl) ?_
    refine lv_lload_n E.1 E.2.1 dX0_couldHold_94 rfl (lv_at hl 1 rfl) ?_
    refine l_if_le (tgt := 103) E dX0_couldHold_95 dX0_couldHold_96 rfl (fun h95 => ?_) (fun h95 => ?_)
    · skip
      refine lv_iconst (v := nI 0) E.1 E.2.1 dX0_couldHold_103 rfl ?_
      exact e_z E hr hlk (show _ = _ from congrArg bI (show false = _ from by simp [cH, h95])) dX0_couldHold_104
    · skip
      refine lv_iconst (v := nI 1) E.1 E.2.1 dX0_couldHold_99 rfl ?_
      refine lv_goto (tgt := 104) E.1 E.2.1 dX0_couldHold_100 rfl ?_
      exact e_z E hr hlk (show _ = _ from congrArg bI (show true = _ from by simp [cH, h95])) dX0_couldHold_104
  · skip
    refine lv_tableOut (tgt := 105) E.1 E.2.1 dX0_couldHold_1 (by decide) rfl ?_
    refine lv_lload_n E.1 E.2.1 dX0_couldHold_105 rfl (lv_at hl 2 rfl) ?_
    refine lv_lload_n E.1 E.2.1 dX0_couldHold_106 rfl (lv_at hl 1 rfl) ?_
    refine l_if_ne (tgt := 118) E dX0_couldHold_107 dX0_couldHold_108 rfl (fun h107 => ?_) (fun h107 => ?_)
    · skip
      refine lv_iconst (v := nI 1) E.1 E.2.1 dX0_couldHold_118 rfl ?_
      refine lv_goto (tgt := 123) E.1 E.2.1 dX0_couldHold_119 rfl ?_
      exact e_z E hr hlk (show _ = _ from congrArg bI (show true = _ from by simp [cH, h107])) dX0_couldHold_123
    · skip
      refine lv_lload E.1 E.2.1 dX0_couldHold_111 (lv_at hl 3 rfl) ?_
      refine lv_lload_n E.1 E.2.1 dX0_couldHold_113 rfl (lv_at hl 1 rfl) ?_
      refine l_if_eq (tgt := 122) E dX0_couldHold_114 dX0_couldHold_115 rfl (fun h114 => ?_) (fun h114 => ?_)
      · skip
        refine lv_iconst (v := nI 0) E.1 E.2.1 dX0_couldHold_122 rfl ?_
        exact e_z E hr hlk (show _ = _ from congrArg bI (show false = _ from by simp [cH, h107, h114])) dX0_couldHold_123
      · skip
        refine lv_iconst (v := nI 1) E.1 E.2.1 dX0_couldHold_118 rfl ?_
        refine lv_goto (tgt := 123) E.1 E.2.1 dX0_couldHold_119 rfl ?_
        exact e_z E hr hlk (show _ = _ from congrArg bI (show true = _ from by simp [cH, h107, h114])) dX0_couldHold_123
set_option maxHeartbeats 4000000 in
set_option maxRecDepth 100000 in
theorem cX_isChosen (l : Launch) (D : va_G) (ad : Nat → Nat) (ca : Nat → ClassId) (T : Nat → Nat → Int64) (n : Nat) (kc ko : Nat → Nat) (kv : Nat → Int64) (k : Nat) (lo hi : Nat → Int64) (bw bb pk : Nat → Nat) (r : Nat) (hIK : iK kc ko k) (hr0 : r < 128) : Met l yX0_isChosen (wA yX0_isChosen cX0_isChosen 5 (some .boolean)) (rN 1) (va_Pc [.ref (ad 0), .int (nI r)] (pW D c2 (tX ca) (wX ad ca T n kc ko kv k lo hi bw bb pk))) (vp_Si (fun z => z = bI (ch T kc ko kv k r))) 0 0 (fun _ => False) := by
  refine met_of RX0 rfl (by decide) (Nat.le_of_ble_eq_true rfl) (fun p e s m below meth cd ls E hr hlk _ hB hl => ?_)
  obtain ⟨hP, hK⟩ := hB
  have hl : lv_has ls 5 [(0, .ref (ad 0)), (1, .int (nI r))] := hl
  obtain ⟨hk, hkc, hko⟩ := id hIK
  refine lv_iconst (v := nI 0) E.1 E.2.1 dX0_isChosen_0 rfl ?_
  refine lv_istore_n (lv' := [(2, .int (nI 0)), (0, .ref (ad 0)), (1, .int (nI r))]) E.1 E.2.1 dX0_isChosen_1 rfl hl (by decide) rfl (fun ls hl => ?_)
  refine w_lp1 (fun (j : Nat) => j ≤ k ∧ al (fun i => hO (ko i) (T r (kc i)) (kv i)) j = true) (fun (j : Nat) => k - j) (fun (j : Nat) => [(2, .int (nI j)), (0, .ref (ad 0)), (1, .int (nI r))]) 0 (⟨Nat.zero_le _, rfl⟩) (lv_sub hl [0, 1, 2] rfl) (fun j ls hI hl ih2 => ?_)
  have hl : lv_has ls 5 [(2, .int (nI j)), (0, .ref (ad 0)), (1, .int (nI r))] := hl
  obtain ⟨hj, hc⟩ := hI
  refine lv_iload_n E.1 E.2.1 dX0_isChosen_2 rfl (lv_at hl 0 rfl) ?_
  refine lv_aload_n E.1 E.2.1 dX0_isChosen_3 rfl (lv_at hl 1 rfl) ?_
  refine n_get E inX hK hP 0 rfl rfl 5 (by decide) flX_27 rfl rfl dX0_isChosen_4 ?_
  refine n_icmp_ge (tgt := 54) E dX0_isChosen_7 rfl (by omega) (by omega) (fun h7 => ?_) (fun h7 => ?_)
  · skip
    refine lv_iconst (v := nI 1) E.1 E.2.1 dX0_isChosen_54 rfl ?_
    exact e_z E hr hlk (show _ = _ from congrArg bI (show true = _ from by rw [show k = j by omega]; exact hc.symm)) dX0_isChosen_55
  · skip
    refine lv_aload_n E.1 E.2.1 dX0_isChosen_10 rfl (lv_at hl 1 rfl) ?_
    refine n_get E inX hK hP 0 rfl rfl 0 (by decide) flX_9 rfl rfl dX0_isChosen_11 ?_
    refine lv_iload_n E.1 E.2.1 dX0_isChosen_14 rfl (lv_at hl 2 rfl) ?_
    refine lv_aload_n E.1 E.2.1 dX0_isChosen_15 rfl (lv_at hl 1 rfl) ?_
    refine n_get E inX hK hP 0 rfl rfl 2 (by decide) flX_17 rfl rfl dX0_isChosen_16 ?_
    refine lv_iload_n E.1 E.2.1 dX0_isChosen_19 rfl (lv_at hl 0 rfl) ?_
    have hq := hkc j
    refine n_iald E hK hP 2 1 rfl rfl (by decide) (by omega) dX0_isChosen_20 ?_
    refine cS_i E (As := [.int (nI r), .int (nI (kc j))]) (rest := [.ref (ad 1)]) (cX_spot l r (kc j)) kX_52 rfl rfl ⟨Nat.le_of_ble_eq_true rfl, Nat.le_of_ble_eq_true rfl⟩ rfl hl.1 rfl (Nat.le_of_ble_eq_true rfl) dX0_isChosen_21 ⟨Nat.zero_le _, Nat.zero_le _⟩ ?_
    refine n_cald E hK hP 1 0 rfl rfl r (kc j) (by omega) (by omega) (by omega) dX0_isChosen_24 ?_
    refine lv_lstore_n (lv' := [(3, .long (T r (kc j))), (2, .int (nI j)), (0, .ref (ad 0)), (1, .int (nI r))]) E.1 E.2.1 dX0_isChosen_25 rfl hl (by decide) rfl (fun ls hl => ?_)
    refine lv_aload_n E.1 E.2.1 dX0_isChosen_26 rfl (lv_at hl 2 rfl) ?_
    refine n_get E inX hK hP 0 rfl rfl 3 (by decide) flX_21 rfl rfl dX0_isChosen_27 ?_
    refine lv_iload_n E.1 E.2.1 dX0_isChosen_30 rfl (lv_at hl 1 rfl) ?_
    refine n_iald E hK hP 3 2 rfl rfl (by decide) (by omega) dX0_isChosen_31 ?_
    refine lv_aload_n E.1 E.2.1 dX0_isChosen_32 rfl (lv_at hl 2 rfl) ?_
    refine n_get E inX hK hP 0 rfl rfl 4 (by decide) flX_24 rfl rfl dX0_isChosen_33 ?_
    refine lv_iload_n E.1 E.2.1 dX0_isChosen_36 rfl (lv_at hl 1 rfl) ?_
    refine n_lald E hK hP 4 3 rfl rfl (by decide) (by omega) dX0_isChosen_37 ?_
    refine lv_lload_n E.1 E.2.1 dX0_isChosen_38 rfl (lv_at hl 0 rfl) ?_
    refine lv_lload_n E.1 E.2.1 dX0_isChosen_39 rfl (lv_at hl 0 rfl) ?_
    refine cS_i E (As := [.int (nI (ko j)), .long (kv j), .long (T r (kc j)), .long (T r (kc j))]) (rest := []) (cX_couldHold l (ko j) (kv j) (T r (kc j)) (T r (kc j)) (hko j)) kX_151 rfl rfl ⟨Nat.le_of_ble_eq_true rfl, Nat.le_of_ble_eq_true rfl⟩ rfl hl.1 rfl (Nat.le_of_ble_eq_true rfl) dX0_isChosen_40 ⟨Nat.zero_le _, Nat.zero_le _⟩ ?_
    refine b_if_ne (tgt := 48) E dX0_isChosen_43 rfl (fun h43 => ?_) (fun h43 => ?_)
    · skip
      refine lv_iinc (k := 1) (v := nI (j + 1)) (lv' := [(2, .int (nI (j + 1))), (3, .long (T r (kc j))), (0, .ref (ad 0)), (1, .int (nI r))]) E.1 E.2.1 dX0_isChosen_48 hl rfl (inc1 _) (by decide) rfl (fun ls hl => ?_)
      refine lv_goto (tgt := 2) E.1 E.2.1 dX0_isChosen_51 rfl ?_
      exact ih2 (j + 1) _ (⟨by omega, al_s hc ((cH_one _ _ _).symm.trans h43)⟩) (by omega) (lv_sub hl [0, 2, 3] rfl)
    · skip
      refine lv_iconst (v := nI 0) E.1 E.2.1 dX0_isChosen_46 rfl ?_
      exact e_z E hr hlk (show _ = _ from congrArg bI (show false = _ from (al_false h7 ((cH_one _ _ _).symm.trans h43)).symm)) dX0_isChosen_47
set_option maxHeartbeats 4000000 in
set_option maxRecDepth 100000 in
theorem cX_isPassedOver (l : Launch) (D : va_G) (ad : Nat → Nat) (ca : Nat → ClassId) (T : Nat → Nat → Int64) (n : Nat) (kc ko : Nat → Nat) (kv : Nat → Int64) (k : Nat) (lo hi : Nat → Int64) (bw bb pk : Nat → Nat) (b : Nat) (hIK : iK kc ko k) (hn128 : n ≤ 128) (hb0 : b < 1000) : Met l yX0_isPassedOver (wA yX0_isPassedOver cX0_isPassedOver 4 (some .boolean)) (rN 1) (va_Pc [.ref (ad 0), .int (nI b)] (pW D c2 (tX ca) (wX ad ca T n kc ko kv k lo hi bw bb pk))) (vp_Si (fun z => z = bI (po n kc ko kv k lo hi b))) 0 0 (fun _ => False) := by
  refine met_of RX0 rfl (by decide) (Nat.le_of_ble_eq_true rfl) (fun p e s m below meth cd ls E hr hlk _ hB hl => ?_)
  obtain ⟨hP, hK⟩ := hB
  have hl : lv_has ls 4 [(0, .ref (ad 0)), (1, .int (nI b))] := hl
  obtain ⟨hk, hkc, hko⟩ := id hIK
  refine lv_iload_n E.1 E.2.1 dX0_isPassedOver_0 rfl (lv_at hl 1 rfl) ?_
  refine lv_aload_n E.1 E.2.1 dX0_isPassedOver_1 rfl (lv_at hl 0 rfl) ?_
  refine cV_i E (As := []) (rest := [.int (nI b)]) (cX_fullBlocks l D ad ca T n kc ko kv k lo hi bw bb pk (by omega)) kX_135 hK hP 0 rfl rfl rfl rfl ⟨Nat.le_of_ble_eq_true rfl, Nat.le_of_ble_eq_true rfl⟩ rfl hl.1 rfl (Nat.le_of_ble_eq_true rfl) dX0_isPassedOver_2 ⟨Nat.zero_le _, Nat.zero_le _⟩ ?_
  refine n_icmp_lt (tgt := 10) E dX0_isPassedOver_5 rfl (by omega) (by omega) (fun h5 => ?_) (fun h5 => ?_)
  · skip
    refine lv_iconst (v := nI 0) E.1 E.2.1 dX0_isPassedOver_10 rfl ?_
    refine lv_istore_n (lv' := [(2, .int (nI 0)), (0, .ref (ad 0)), (1, .int (nI b))]) E.1 E.2.1 dX0_isPassedOver_11 rfl hl (by decide) rfl (fun ls hl => ?_)
    refine w_lp1 (fun (j : Nat) => j ≤ k ∧ al (fun i => cH (ko i) (kv i) (lo (b * 4 + kc i)) (hi (b * 4 + kc i))) j = true) (fun (j : Nat) => k - j) (fun (j : Nat) => [(2, .int (nI j)), (0, .ref (ad 0)), (1, .int (nI b))]) 0 (⟨Nat.zero_le _, rfl⟩) (lv_sub hl [0, 1, 2] rfl) (fun j ls hI hl ih12 => ?_)
    have hl : lv_has ls 4 [(2, .int (nI j)), (0, .ref (ad 0)), (1, .int (nI b))] := hl
    obtain ⟨hj, hc⟩ := hI
    refine lv_iload_n E.1 E.2.1 dX0_isPassedOver_12 rfl (lv_at hl 0 rfl) ?_
    refine lv_aload_n E.1 E.2.1 dX0_isPassedOver_13 rfl (lv_at hl 1 rfl) ?_
    refine n_get E inX hK hP 0 rfl rfl 5 (by decide) flX_27 rfl rfl dX0_isPassedOver_14 ?_
    refine n_icmp_ge (tgt := 69) E dX0_isPassedOver_17 rfl (by omega) (by omega) (fun h17 => ?_) (fun h17 => ?_)
    · skip
      refine lv_iconst (v := nI 0) E.1 E.2.1 dX0_isPassedOver_69 rfl ?_
      exact e_z E hr hlk (show _ = _ from congrArg bI (show false = _ from by rw [po_lt h5, show k = j by omega, hc]; rfl)) dX0_isPassedOver_70
    · skip
      refine lv_iload_n E.1 E.2.1 dX0_isPassedOver_20 rfl (lv_at hl 2 rfl) ?_
      refine lv_aload_n E.1 E.2.1 dX0_isPassedOver_21 rfl (lv_at hl 1 rfl) ?_
      refine n_get E inX hK hP 0 rfl rfl 2 (by decide) flX_17 rfl rfl dX0_isPassedOver_22 ?_
      refine lv_iload_n E.1 E.2.1 dX0_isPassedOver_25 rfl (lv_at hl 0 rfl) ?_
      have hq := hkc j
      refine n_iald E hK hP 2 1 rfl rfl (by decide) (by omega) dX0_isPassedOver_26 ?_
      refine cS_i E (As := [.int (nI b), .int (nI (kc j))]) (rest := []) (cX_place l b (kc j)) kX_123 rfl rfl ⟨Nat.le_of_ble_eq_true rfl, Nat.le_of_ble_eq_true rfl⟩ rfl hl.1 rfl (Nat.le_of_ble_eq_true rfl) dX0_isPassedOver_27 ⟨Nat.zero_le _, Nat.zero_le _⟩ ?_
      refine lv_istore_n (lv' := [(3, .int (nI (b * 4 + (kc j)))), (2, .int (nI j)), (0, .ref (ad 0)), (1, .int (nI b))]) E.1 E.2.1 dX0_isPassedOver_30 rfl hl (by decide) rfl (fun ls hl => ?_)
      refine lv_aload_n E.1 E.2.1 dX0_isPassedOver_31 rfl (lv_at hl 2 rfl) ?_
      refine n_get E inX hK hP 0 rfl rfl 3 (by decide) flX_21 rfl rfl dX0_isPassedOver_32 ?_
      refine lv_iload_n E.1 E.2.1 dX0_isPassedOver_35 rfl (lv_at hl 1 rfl) ?_
      refine n_iald E hK hP 3 2 rfl rfl (by decide) (by omega) dX0_isPassedOver_36 ?_
      refine lv_aload_n E.1 E.2.1 dX0_isPassedOver_37 rfl (lv_at hl 2 rfl) ?_
      refine n_get E inX hK hP 0 rfl rfl 4 (by decide) flX_24 rfl rfl dX0_isPassedOver_38 ?_
      refine lv_iload_n E.1 E.2.1 dX0_isPassedOver_41 rfl (lv_at hl 1 rfl) ?_
      refine n_lald E hK hP 4 3 rfl rfl (by decide) (by omega) dX0_isPassedOver_42 ?_
      refine lv_aload_n E.1 E.2.1 dX0_isPassedOver_43 rfl (lv_at hl 2 rfl) ?_
      refine n_get E inX hK hP 0 rfl rfl 6 (by decide) flX_30 rfl rfl dX0_isPassedOver_44 ?_
      refine lv_iload_n E.1 E.2.1 dX0_isPassedOver_47 rfl (lv_at hl 0 rfl) ?_
      refine n_lald E hK hP 5 4 rfl rfl (by decide) (by omega) dX0_isPassedOver_48 ?_
      refine lv_aload_n E.1 E.2.1 dX0_isPassedOver_49 rfl (lv_at hl 2 rfl) ?_
      refine n_get E inX hK hP 0 rfl rfl 7 (by decide) flX_33 rfl rfl dX0_isPassedOver_50 ?_
      refine lv_iload_n E.1 E.2.1 dX0_isPassedOver_53 rfl (lv_at hl 0 rfl) ?_
      refine n_lald E hK hP 6 5 rfl rfl (by decide) (by omega) dX0_isPassedOver_54 ?_
      refine cS_i E (As := [.int (nI (ko j)), .long (kv j), .long (lo (b * 4 + (kc j))), .long (hi (b * 4 + (kc j)))]) (rest := []) (cX_couldHold l (ko j) (kv j) (lo (b * 4 + (kc j))) (hi (b * 4 + (kc j))) (hko j)) kX_151 rfl rfl ⟨Nat.le_of_ble_eq_true rfl, Nat.le_of_ble_eq_true rfl⟩ rfl hl.1 rfl (Nat.le_of_ble_eq_true rfl) dX0_isPassedOver_55 ⟨Nat.zero_le _, Nat.zero_le _⟩ ?_
      refine b_if_ne (tgt := 63) E dX0_isPassedOver_58 rfl (fun h58 => ?_) (fun h58 => ?_)
      · skip
        refine lv_iinc (k := 1) (v := nI (j + 1)) (lv' := [(2, .int (nI (j + 1))), (3, .int (nI (b * 4 + (kc j)))), (0, .ref (ad 0)), (1, .int (nI b))]) E.1 E.2.1 dX0_isPassedOver_63 hl rfl (inc1 _) (by decide) rfl (fun ls hl => ?_)
        refine lv_goto (tgt := 12) E.1 E.2.1 dX0_isPassedOver_66 rfl ?_
        exact ih12 (j + 1) _ (⟨by omega, al_s hc h58⟩) (by omega) (lv_sub hl [0, 2, 3] rfl)
      · skip
        refine lv_iconst (v := nI 1) E.1 E.2.1 dX0_isPassedOver_61 rfl ?_
        exact e_z E hr hlk (show _ = _ from congrArg bI (show true = _ from by rw [po_lt h5, al_false h17 h58]; rfl)) dX0_isPassedOver_62
  · skip
    refine lv_iconst (v := nI 0) E.1 E.2.1 dX0_isPassedOver_8 rfl ?_
    exact e_z E hr hlk (show _ = _ from congrArg bI (show false = _ from (po_ge h5).symm)) dX0_isPassedOver_9
set_option maxHeartbeats 4000000 in
set_option maxRecDepth 100000 in
theorem cX_pickFromBlock (l : Launch) (D : va_G) (ad : Nat → Nat) (ca : Nat → ClassId) (T : Nat → Nat → Int64) (n : Nat) (kc ko : Nat → Nat) (kv : Nat → Int64) (k : Nat) (lo hi : Nat → Int64) (bw bb pk : Nat → Nat) (b : Nat) (hIK : iK kc ko k) (hN : inj ad 10) (hb0 : b * 16 < n) (hn128 : n ≤ 128) (hE : En pk (ch T kc ko kv k) (b * 16)) : Met l yX0_pickFromBlock (wA yX0_pickFromBlock cX0_pickFromBlock 6 (some .int)) (rN 2) (va_Pc [.ref (ad 0), .int (nI b), .int (nI (ct (ch T kc ko kv k) (b * 16)))] (pW D c2 (tX ca) (wX ad ca T n kc ko kv k lo hi bw bb pk))) (qI (fun z (q : Nat → Nat) => z = nI (ct (ch T kc ko kv k) (min n (b * 16 + 16))) ∧ En q (ch T kc ko kv k) (min n (b * 16 + 16))) D c2 (fun q => wX ad ca T n kc ko kv k lo hi bw bb q) (fA ad 10)) 0 0 (fA ad 10) := by
  refine met_of RX0 rfl (by decide) (Nat.le_of_ble_eq_true rfl) (fun p e s m below meth cd ls E hr hlk _ hB hl => ?_)
  obtain ⟨hP, hK⟩ := hB
  have hl : lv_has ls 6 [(0, .ref (ad 0)), (1, .int (nI b)), (2, .int (nI (ct (ch T kc ko kv k) (b * 16))))] := hl
  have hS : va_S (fA ad 10) s.heap s.heap [] := va_S.rf
  refine lv_iload_n E.1 E.2.1 dX0_pickFromBlock_0 rfl (lv_at hl 2 rfl) ?_
  refine lv_istore_n (lv' := [(3, .int (nI (ct (ch T kc ko kv k) (b * 16)))), (0, .ref (ad 0)), (1, .int (nI b)), (2, .int (nI (ct (ch T kc ko kv k) (b * 16))))]) E.1 E.2.1 dX0_pickFromBlock_1 rfl hl (by decide) rfl (fun ls hl => ?_)
  refine lv_aload_n E.1 E.2.1 dX0_pickFromBlock_2 rfl (lv_at hl 1 rfl) ?_
  refine n_get E inX hK hP 0 rfl rfl 1 (by decide) flX_13 rfl rfl dX0_pickFromBlock_3 ?_
  refine lv_iload_n E.1 E.2.1 dX0_pickFromBlock_6 rfl (lv_at hl 2 rfl) ?_
  refine lv_iconst (v := nI 1) E.1 E.2.1 dX0_pickFromBlock_7 rfl ?_
  refine n_iadd E dX0_pickFromBlock_8 ?_
  refine lv_bipush (v := nI 16) E.1 E.2.1 dX0_pickFromBlock_9 rfl ?_
  refine n_imul E dX0_pickFromBlock_11 ?_
  refine va_mmin E.1 E.2.1 (E.2.2.1.trans hl.1.symm) E.2.2.2.1 (E.2.2.2.2 _ mi_l) (E.2.2.2.2 _ mi_s) (E.2.2.2.2 _ mt_i) (E.2.2.2.2 _ mi_c) (Nat.le_of_ble_eq_true rfl) (Nat.le_of_ble_eq_true rfl) (Nat.zero_le _) (Nat.zero_le _) dX0_pickFromBlock_12 ?_
  refine tpi (nI_min (by omega) (by omega)) ?_
  refine lv_istore (lv' := [(4, .int (nI (min n ((b + 1) * 16)))), (3, .int (nI (ct (ch T kc ko kv k) (b * 16)))), (0, .ref (ad 0)), (1, .int (nI b)), (2, .int (nI (ct (ch T kc ko kv k) (b * 16))))]) E.1 E.2.1 dX0_pickFromBlock_15 hl (by decide) rfl (fun ls hl => ?_)
  refine lv_iload_n E.1 E.2.1 dX0_pickFromBlock_17 rfl (lv_at hl 3 rfl) ?_
  refine lv_bipush (v := nI 16) E.1 E.2.1 dX0_pickFromBlock_18 rfl ?_
  refine n_imul E dX0_pickFromBlock_20 ?_
  refine lv_istore (lv' := [(5, .int (nI (b * 16))), (4, .int (nI (min n ((b + 1) * 16)))), (3, .int (nI (ct (ch T kc ko kv k) (b * 16)))), (0, .ref (ad 0)), (1, .int (nI b)), (2, .int (nI (ct (ch T kc ko kv k) (b * 16))))]) E.1 E.2.1 dX0_pickFromBlock_21 hl (by decide) rfl (fun ls hl => ?_)
  refine w_lq2 (fun (r : Nat) (q : Nat → Nat) => b * 16 ≤ r ∧ r ≤ min n ((b + 1) * 16) ∧ En q (ch T kc ko kv k) r) (fun (r : Nat) (q : Nat → Nat) => min n ((b + 1) * 16) - r) (fun (r : Nat) (q : Nat → Nat) => [(5, .int (nI r)), (4, .int (nI (min n ((b + 1) * 16)))), (3, .int (nI (ct (ch T kc ko kv k) r))), (0, .ref (ad 0))]) (fun (r : Nat) (q : Nat → Nat) H locs => va_P D c2 (wX ad ca T n kc ko kv k lo hi bw bb q) H ∧ va_S (fA ad 10) s.heap H locs) (b * 16) pk (⟨by omega, by omega, hE⟩) ⟨hP, hS⟩ (lv_sub hl [0, 1, 2, 3] rfl) (fun r q ls H locs hI hB hl ih23 => ?_)
  obtain ⟨hP, hS⟩ := hB
  have hl : lv_has ls 6 [(5, .int (nI r)), (4, .int (nI (min n ((b + 1) * 16)))), (3, .int (nI (ct (ch T kc ko kv k) r))), (0, .ref (ad 0))] := hl
  have hP : va_P D c2 (wX ad ca T n kc ko kv k lo hi bw bb q) H := hP
  obtain ⟨hr1, hr2, hE⟩ := hI
  refine lv_iload E.1 E.2.1 dX0_pickFromBlock_23 (lv_at hl 0 rfl) ?_
  refine lv_iload E.1 E.2.1 dX0_pickFromBlock_25 (lv_at hl 1 rfl) ?_
  refine n_icmp_ge (tgt := 56) E dX0_pickFromBlock_27 rfl (by omega) (by omega) (fun h27 => ?_) (fun h27 => ?_)
  · skip
    refine lv_iload_n E.1 E.2.1 dX0_pickFromBlock_56 rfl (lv_at hl 2 rfl) ?_
    exact e_wi E hr hlk hS q (⟨by rw [show min n (b * 16 + 16) = r by omega], by rw [show min n (b * 16 + 16) = r by omega]; exact hE⟩) hP dX0_pickFromBlock_57
  · skip
    refine lv_aload_n E.1 E.2.1 dX0_pickFromBlock_30 rfl (lv_at hl 3 rfl) ?_
    refine lv_iload E.1 E.2.1 dX0_pickFromBlock_31 (lv_at hl 0 rfl) ?_
    have hq := ct_le (ch T kc ko kv k) r
    refine cV_i E (As := [.int (nI r)]) (rest := []) (cX_isChosen l D ad ca T n kc ko kv k lo hi bw bb q r hIK (by omega)) kX_148 hK hP 0 rfl rfl rfl rfl ⟨Nat.le_of_ble_eq_true rfl, Nat.le_of_ble_eq_true rfl⟩ rfl hl.1 rfl (Nat.le_of_ble_eq_true rfl) dX0_pickFromBlock_33 ⟨Nat.zero_le _, Nat.zero_le _⟩ ?_
    refine b_if_eq (tgt := 50) E dX0_pickFromBlock_36 rfl (fun h36 => ?_) (fun h36 => ?_)
    · skip
      refine lv_iinc (k := 0) (v := nI (r + 1)) (lv' := [(5, .int (nI (r + 1))), (4, .int (nI (min n ((b + 1) * 16)))), (3, .int (nI (ct (ch T kc ko kv k) r))), (0, .ref (ad 0))]) E.1 E.2.1 dX0_pickFromBlock_50 hl rfl (inc1 _) (by decide) rfl (fun ls hl => ?_)
      refine lv_goto (tgt := 23) E.1 E.2.1 dX0_pickFromBlock_53 rfl ?_
      rw [← ct_f h36] at hl
      exact ih23 (r + 1) q _ _ _ (⟨by omega, by omega, en_f hE h36⟩) (by omega) ⟨hP, hS⟩ (lv_sub hl [0, 1, 2, 3] rfl)
    · skip
      refine lv_aload_n E.1 E.2.1 dX0_pickFromBlock_39 rfl (lv_at hl 3 rfl) ?_
      refine n_get E inX hK hP 0 rfl rfl 10 (by decide) flX_42 rfl rfl dX0_pickFromBlock_40 ?_
      refine lv_iload_n E.1 E.2.1 dX0_pickFromBlock_43 rfl (lv_at hl 2 rfl) ?_
      refine lv_iload E.1 E.2.1 dX0_pickFromBlock_44 (lv_at hl 0 rfl) ?_
      refine n_iast E hK hP (dW hN rfl) hS 9 8 rfl rfl (by decide) (by omega) dX0_pickFromBlock_46 (fun H locs hP hS => ?_)
      have hP : va_P D c2 (wX ad ca T n kc ko kv k lo hi bw bb (fS q (ct (ch T kc ko kv k) r) r)) H := hP
      refine lv_iinc (k := 2) (v := nI (ct (ch T kc ko kv k) r + 1)) (lv' := [(3, .int (nI (ct (ch T kc ko kv k) r + 1))), (5, .int (nI r)), (4, .int (nI (min n ((b + 1) * 16)))), (0, .ref (ad 0))]) E.1 E.2.1 dX0_pickFromBlock_47 hl rfl (inc1 _) (by decide) rfl (fun ls hl => ?_)
      refine lv_iinc (k := 1) (v := nI (r + 1)) (lv' := [(5, .int (nI (r + 1))), (3, .int (nI (ct (ch T kc ko kv k) r + 1))), (4, .int (nI (min n ((b + 1) * 16)))), (0, .ref (ad 0))]) E.1 E.2.1 dX0_pickFromBlock_50 hl rfl (inc1 _) (by decide) rfl (fun ls hl => ?_)
      refine lv_goto (tgt := 23) E.1 E.2.1 dX0_pickFromBlock_53 rfl ?_
      rw [← ct_t h36] at hl
      exact ih23 (r + 1) (fS q (ct (ch T kc ko kv k) r) r) _ _ _ (⟨by omega, by omega, en_t hE h36⟩) (by omega) ⟨hP, hS⟩ (lv_sub hl [0, 2, 1, 3] rfl)
set_option maxHeartbeats 4000000 in
set_option maxRecDepth 100000 in
theorem cX_pick (l : Launch) (D : va_G) (ad : Nat → Nat) (ca : Nat → ClassId) (T : Nat → Nat → Int64) (n : Nat) (kc ko : Nat → Nat) (kv : Nat → Int64) (k : Nat) (lo hi : Nat → Int64) (bw bb pk : Nat → Nat)  (hIK : iK kc ko k) (hN : inj ad 10) (hn128 : n ≤ 128) (hiB : iB T n lo hi) : Met l yX0_pick (wA yX0_pick cX0_pick 3 (some .int)) (rN 3) (va_Pc [.ref (ad 0)] (pW D c2 (tX ca) (wX ad ca T n kc ko kv k lo hi bw bb pk))) (qI (fun z (q : Nat → Nat) => z = nI (ct (ch T kc ko kv k) n) ∧ En q (ch T kc ko kv k) n) D c2 (fun q => wX ad ca T n kc ko kv k lo hi bw bb q) (fA ad 10)) 0 0 (fA ad 10) := by
  refine met_of RX0 rfl (by decide) (Nat.le_of_ble_eq_true rfl) (fun p e s m below meth cd ls E hr hlk _ hB hl => ?_)
  obtain ⟨hP, hK⟩ := hB
  have hl : lv_has ls 3 [(0, .ref (ad 0))] := hl
  have hS : va_S (fA ad 10) s.heap s.heap [] := va_S.rf
  refine lv_iconst (v := nI 0) E.1 E.2.1 dX0_pick_0 rfl ?_
  refine lv_istore_n (lv' := [(1, .int (nI 0)), (0, .ref (ad 0))]) E.1 E.2.1 dX0_pick_1 rfl hl (by decide) rfl (fun ls hl => ?_)
  refine lv_iconst (v := nI 0) E.1 E.2.1 dX0_pick_2 rfl ?_
  refine lv_istore_n (lv' := [(2, .int (nI 0)), (1, .int (nI 0)), (0, .ref (ad 0))]) E.1 E.2.1 dX0_pick_3 rfl hl (by decide) rfl (fun ls hl => ?_)
  refine w_lq3 (fun (b : Nat) (r : Nat) (q : Nat → Nat) => b * 16 ≤ n + 15 ∧ r = min n (b * 16) ∧ En q (ch T kc ko kv k) r) (fun (b : Nat) (r : Nat) (q : Nat → Nat) => n + 16 - b * 16) (fun (b : Nat) (r : Nat) (q : Nat → Nat) => [(2, .int (nI b)), (1, .int (nI (ct (ch T kc ko kv k) r))), (0, .ref (ad 0))]) (fun (b : Nat) (r : Nat) (q : Nat → Nat) H locs => va_P D c2 (wX ad ca T n kc ko kv k lo hi bw bb q) H ∧ va_S (fA ad 10) s.heap H locs) 0 0 pk (⟨by omega, by omega, en_0 _ _⟩) ⟨hP, hS⟩ (lv_sub hl [0, 1, 2] rfl) (fun b r q ls H locs hI hB hl ih4 => ?_)
  obtain ⟨hP, hS⟩ := hB
  have hl : lv_has ls 3 [(2, .int (nI b)), (1, .int (nI (ct (ch T kc ko kv k) r))), (0, .ref (ad 0))] := hl
  have hP : va_P D c2 (wX ad ca T n kc ko kv k lo hi bw bb q) H := hP
  obtain ⟨hr0, hr1, hE⟩ := hI
  refine lv_iload_n E.1 E.2.1 dX0_pick_4 rfl (lv_at hl 0 rfl) ?_
  refine lv_aload_n E.1 E.2.1 dX0_pick_5 rfl (lv_at hl 2 rfl) ?_
  refine cV_i E (As := []) (rest := [.int (nI b)]) (cX_startedBlocks l D ad ca T n kc ko kv k lo hi bw bb q (by omega)) kX_81 hK hP 0 rfl rfl rfl rfl ⟨Nat.le_of_ble_eq_true rfl, Nat.le_of_ble_eq_true rfl⟩ rfl hl.1 rfl (Nat.le_of_ble_eq_true rfl) dX0_pick_6 ⟨Nat.zero_le _, Nat.zero_le _⟩ ?_
  refine n_icmp_ge (tgt := 33) E dX0_pick_9 rfl (by omega) (by omega) (fun h9 => ?_) (fun h9 => ?_)
  · skip
    refine lv_iload_n E.1 E.2.1 dX0_pick_33 rfl (lv_at hl 1 rfl) ?_
    exact e_wi E hr hlk hS q (⟨by rw [show n = r by omega], by rw [show n = r by omega]; exact hE⟩) hP dX0_pick_34
  · skip
    have hb9 : b * 16 < n := by omega
    have hr9 : r = b * 16 := by omega
    subst hr9
    refine lv_aload_n E.1 E.2.1 dX0_pick_12 rfl (lv_at hl 2 rfl) ?_
    refine lv_iload_n E.1 E.2.1 dX0_pick_13 rfl (lv_at hl 0 rfl) ?_
    refine cV_i E (As := [.int (nI b)]) (rest := []) (cX_isPassedOver l D ad ca T n kc ko kv k lo hi bw bb q b hIK (by omega) (by omega)) kX_84 hK hP 0 rfl rfl rfl rfl ⟨Nat.le_of_ble_eq_true rfl, Nat.le_of_ble_eq_true rfl⟩ rfl hl.1 rfl (Nat.le_of_ble_eq_true rfl) dX0_pick_14 ⟨Nat.zero_le _, Nat.zero_le _⟩ ?_
    refine b_if_ne (tgt := 27) E dX0_pick_17 rfl (fun h17 => ?_) (fun h17 => ?_)
    · skip
      refine lv_iinc (k := 0) (v := nI (b + 1)) (lv' := [(2, .int (nI (b + 1))), (1, .int (nI (ct (ch T kc ko kv k) (b * 16)))), (0, .ref (ad 0))]) E.1 E.2.1 dX0_pick_27 hl rfl (inc1 _) (by decide) rfl (fun ls hl => ?_)
      refine lv_goto (tgt := 4) E.1 E.2.1 dX0_pick_30 rfl ?_
      have hno := po_none hiB hIK.2.1 h17
      have hfb := po_full h17
      have hE2 : En q (ch T kc ko kv k) (min n (b * 16 + 16)) := en_none hE (fun j h1 h2 => hno j (by omega) (by omega))
      rw [← ct_none (p := (ch T kc ko kv k)) (b := min n (b * 16 + 16)) (by omega) (fun j h1 h2 => hno j (by omega) (by omega))] at hl
      exact ih4 (b + 1) (min n (b * 16 + 16)) q _ _ _ (⟨by omega, by omega, hE2⟩) (by omega) ⟨hP, hS⟩ (lv_sub hl [0, 1, 2] rfl)
    · skip
      refine lv_aload_n E.1 E.2.1 dX0_pick_20 rfl (lv_at hl 2 rfl) ?_
      refine lv_iload_n E.1 E.2.1 dX0_pick_21 rfl (lv_at hl 0 rfl) ?_
      refine lv_iload_n E.1 E.2.1 dX0_pick_22 rfl (lv_at hl 1 rfl) ?_
      refine cV_wi E (As := [.int (nI b), .int (nI (ct (ch T kc ko kv k) (b * 16)))]) (rest := []) (cX_pickFromBlock l D ad ca T n kc ko kv k lo hi bw bb q b hIK hN (by omega) (by omega) hE) kX_140 hK hP hS (fun _ h => h) 0 rfl rfl rfl rfl ⟨Nat.le_of_ble_eq_true rfl, Nat.le_of_ble_eq_true rfl⟩ rfl hl.1 rfl (Nat.le_of_ble_eq_true rfl) dX0_pick_23 ⟨Nat.zero_le _, Nat.zero_le _⟩ (fun z23 u23 H locs hp23 hP _ _ hS => ?_)
      obtain ⟨hz23, hE23⟩ := hp23
      subst hz23
      have hP : va_P D c2 (wX ad ca T n kc ko kv k lo hi bw bb u23) H := hP
      refine lv_istore_n (lv' := [(1, .int (nI (ct (ch T kc ko kv k) (min n (b * 16 + 16))))), (2, .int (nI b)), (0, .ref (ad 0))]) E.1 E.2.1 dX0_pick_26 rfl hl (by decide) rfl (fun ls hl => ?_)
      refine lv_iinc (k := 1) (v := nI (b + 1)) (lv' := [(2, .int (nI (b + 1))), (1, .int (nI (ct (ch T kc ko kv k) (min n (b * 16 + 16))))), (0, .ref (ad 0))]) E.1 E.2.1 dX0_pick_27 hl rfl (inc1 _) (by decide) rfl (fun ls hl => ?_)
      refine lv_goto (tgt := 4) E.1 E.2.1 dX0_pick_30 rfl ?_
      exact ih4 (b + 1) (min n (b * 16 + 16)) u23 _ _ _ (⟨by omega, by omega, hE23⟩) (by omega) ⟨hP, hS⟩ (lv_sub hl [0, 1, 2] rfl)
set_option maxHeartbeats 4000000 in
set_option maxRecDepth 100000 in
theorem cX_blocks (l : Launch) (D : va_G) (ad : Nat → Nat) (ca : Nat → ClassId) (T : Nat → Nat → Int64) (n : Nat) (kc ko : Nat → Nat) (kv : Nat → Int64) (k : Nat) (lo hi : Nat → Int64) (bw bb pk : Nat → Nat)  (hIK : iK kc ko k) (hn128 : n ≤ 128) : Met l yX0_blocks (wA yX0_blocks cX0_blocks 3 (some .int)) (rN 2) (va_Pc [.ref (ad 0)] (pW D c2 (tX ca) (wX ad ca T n kc ko kv k lo hi bw bb pk))) (vp_Si (fun z => z = nI (ct (fun b => !po n kc ko kv k lo hi b) ((n + 16 - 1) / 16)))) 0 0 (fun _ => False) := by
  refine met_of RX0 rfl (by decide) (Nat.le_of_ble_eq_true rfl) (fun p e s m below meth cd ls E hr hlk _ hB hl => ?_)
  obtain ⟨hP, hK⟩ := hB
  have hl : lv_has ls 3 [(0, .ref (ad 0))] := hl
  refine lv_iconst (v := nI 0) E.1 E.2.1 dX0_blocks_0 rfl ?_
  refine lv_istore_n (lv' := [(1, .int (nI 0)), (0, .ref (ad 0))]) E.1 E.2.1 dX0_blocks_1 rfl hl (by decide) rfl (fun ls hl => ?_)
  refine lv_iconst (v := nI 0) E.1 E.2.1 dX0_blocks_2 rfl ?_
  refine lv_istore_n (lv' := [(2, .int (nI 0)), (1, .int (nI 0)), (0, .ref (ad 0))]) E.1 E.2.1 dX0_blocks_3 rfl hl (by decide) rfl (fun ls hl => ?_)
  refine w_lp1 (fun (b : Nat) => b ≤ (n + 16 - 1) / 16) (fun (b : Nat) => (n + 16 - 1) / 16 - b) (fun (b : Nat) => [(2, .int (nI b)), (1, .int (nI (ct (fun b => !po n kc ko kv k lo hi b) b))), (0, .ref (ad 0))]) 0 (Nat.zero_le _) (lv_sub hl [0, 1, 2] rfl) (fun b ls hI hl ih4 => ?_)
  have hl : lv_has ls 3 [(2, .int (nI b)), (1, .int (nI (ct (fun b => !po n kc ko kv k lo hi b) b))), (0, .ref (ad 0))] := hl
  refine lv_iload_n E.1 E.2.1 dX0_blocks_4 rfl (lv_at hl 0 rfl) ?_
  refine lv_aload_n E.1 E.2.1 dX0_blocks_5 rfl (lv_at hl 2 rfl) ?_
  refine cV_i E (As := []) (rest := [.int (nI b)]) (cX_startedBlocks l D ad ca T n kc ko kv k lo hi bw bb pk (by omega)) kX_81 hK hP 0 rfl rfl rfl rfl ⟨Nat.le_of_ble_eq_true rfl, Nat.le_of_ble_eq_true rfl⟩ rfl hl.1 rfl (Nat.le_of_ble_eq_true rfl) dX0_blocks_6 ⟨Nat.zero_le _, Nat.zero_le _⟩ ?_
  refine n_icmp_ge (tgt := 29) E dX0_blocks_9 rfl (by omega) (by omega) (fun h9 => ?_) (fun h9 => ?_)
  · skip
    refine lv_iload_n E.1 E.2.1 dX0_blocks_29 rfl (lv_at hl 1 rfl) ?_
    exact e_i E hr hlk (by rw [show (n + 16 - 1) / 16 = b by omega]) dX0_blocks_30
  · skip
    refine lv_aload_n E.1 E.2.1 dX0_blocks_12 rfl (lv_at hl 2 rfl) ?_
    refine lv_iload_n E.1 E.2.1 dX0_blocks_13 rfl (lv_at hl 0 rfl) ?_
    refine cV_i E (As := [.int (nI b)]) (rest := []) (cX_isPassedOver l D ad ca T n kc ko kv k lo hi bw bb pk b hIK (by omega) (by omega)) kX_84 hK hP 0 rfl rfl rfl rfl ⟨Nat.le_of_ble_eq_true rfl, Nat.le_of_ble_eq_true rfl⟩ rfl hl.1 rfl (Nat.le_of_ble_eq_true rfl) dX0_blocks_14 ⟨Nat.zero_le _, Nat.zero_le _⟩ ?_
    refine b_if_ne (tgt := 23) E dX0_blocks_17 rfl (fun h17 => ?_) (fun h17 => ?_)
    · skip
      refine lv_iinc (k := 0) (v := nI (b + 1)) (lv' := [(2, .int (nI (b + 1))), (1, .int (nI (ct (fun b => !po n kc ko kv k lo hi b) b))), (0, .ref (ad 0))]) E.1 E.2.1 dX0_blocks_23 hl rfl (inc1 _) (by decide) rfl (fun ls hl => ?_)
      refine lv_goto (tgt := 4) E.1 E.2.1 dX0_blocks_26 rfl ?_
      rw [← ct_f (p := fun b => !po n kc ko kv k lo hi b) (by rw [h17]; rfl)] at hl
      exact ih4 (b + 1) _ (by omega) (by omega) (lv_sub hl [0, 1, 2] rfl)
    · skip
      refine lv_iinc (k := 1) (v := nI (ct (fun b => !po n kc ko kv k lo hi b) b + 1)) (lv' := [(1, .int (nI (ct (fun b => !po n kc ko kv k lo hi b) b + 1))), (2, .int (nI b)), (0, .ref (ad 0))]) E.1 E.2.1 dX0_blocks_20 hl rfl (inc1 _) (by decide) rfl (fun ls hl => ?_)
      refine lv_iinc (k := 1) (v := nI (b + 1)) (lv' := [(2, .int (nI (b + 1))), (1, .int (nI (ct (fun b => !po n kc ko kv k lo hi b) b + 1))), (0, .ref (ad 0))]) E.1 E.2.1 dX0_blocks_23 hl rfl (inc1 _) (by decide) rfl (fun ls hl => ?_)
      refine lv_goto (tgt := 4) E.1 E.2.1 dX0_blocks_26 rfl ?_
      rw [← ct_t (p := fun b => !po n kc ko kv k lo hi b) (by rw [h17]; rfl)] at hl
      exact ih4 (b + 1) _ (by omega) (by omega) (lv_sub hl [0, 1, 2] rfl)
set_option maxHeartbeats 4000000 in
set_option maxRecDepth 100000 in
theorem cX_rows (l : Launch) (D : va_G) (ad : Nat → Nat) (ca : Nat → ClassId) (T : Nat → Nat → Int64) (n : Nat) (kc ko : Nat → Nat) (kv : Nat → Int64) (k : Nat) (lo hi : Nat → Int64) (bw bb pk : Nat → Nat)   : Met l yX0_rows (wA yX0_rows cX0_rows 1 (some .int)) (rN 0) (va_Pc [.ref (ad 0)] (pW D c2 (tX ca) (wX ad ca T n kc ko kv k lo hi bw bb pk))) (vp_Si (fun z => z = nI n)) 0 0 (fun _ => False) := by
  refine met_of RX0 rfl (by decide) (Nat.le_of_ble_eq_true rfl) (fun p e s m below meth cd ls E hr hlk _ hB hl => ?_)
  obtain ⟨hP, hK⟩ := hB
  have hl : lv_has ls 1 [(0, .ref (ad 0))] := hl
  refine lv_aload_n E.1 E.2.1 dX0_rows_0 rfl (lv_at hl 0 rfl) ?_
  refine n_get E inX hK hP 0 rfl rfl 1 (by decide) flX_13 rfl rfl dX0_rows_1 ?_
  exact e_i E hr hlk rfl dX0_rows_4
set_option maxHeartbeats 4000000 in
set_option maxRecDepth 100000 in
theorem cX_all (l : Launch) (D : va_G) (ad : Nat → Nat) (ca : Nat → ClassId) (T : Nat → Nat → Int64) (n : Nat) (kc ko : Nat → Nat) (kv : Nat → Int64) (k : Nat) (lo hi : Nat → Int64) (bw bb pk : Nat → Nat)  (hN : inj ad 10) : Met l yX0_all (wA yX0_all cX0_all 2 (some .int)) (rN 0) (va_Pc [.ref (ad 0)] (pW D c2 (tX ca) (wX ad ca T n kc ko kv k lo hi bw bb pk))) (qI (fun z (_ : Unit) => z = nI k) D c2 (fun _ => wX ad ca T n kc ko kv 0 lo hi bw bb pk) (fA ad 10)) 0 0 (fA ad 10) := by
  refine met_of RX0 rfl (by decide) (Nat.le_of_ble_eq_true rfl) (fun p e s m below meth cd ls E hr hlk _ hB hl => ?_)
  obtain ⟨hP, hK⟩ := hB
  have hl : lv_has ls 2 [(0, .ref (ad 0))] := hl
  have hS : va_S (fA ad 10) s.heap s.heap [] := va_S.rf
  refine lv_aload_n E.1 E.2.1 dX0_all_0 rfl (lv_at hl 0 rfl) ?_
  refine n_get E inX hK hP 0 rfl rfl 5 (by decide) flX_27 rfl rfl dX0_all_1 ?_
  refine lv_istore_n (lv' := [(1, .int (nI k)), (0, .ref (ad 0))]) E.1 E.2.1 dX0_all_4 rfl hl (by decide) rfl (fun ls hl => ?_)
  refine lv_aload_n E.1 E.2.1 dX0_all_5 rfl (lv_at hl 1 rfl) ?_
  refine lv_iconst (v := nI 0) E.1 E.2.1 dX0_all_6 rfl ?_
  refine n_put E inX tyX0 tyX0_ok nmX0 hK hP (dW hN rfl) hS 0 rfl rfl 5 (by decide) flX_27 rfl rfl (tyX0_ok 5 (by decide)) (Nat.le_of_ble_eq_true rfl) dX0_all_7 (fun H locs hP hS => ?_)
  have hP : va_P D c2 (wX ad ca T n kc ko kv 0 lo hi bw bb pk) H := hP
  refine lv_iload_n E.1 E.2.1 dX0_all_10 rfl (lv_at hl 0 rfl) ?_
  exact e_wi E hr hlk hS () rfl hP dX0_all_11
set_option maxHeartbeats 4000000 in
set_option maxRecDepth 100000 in
theorem cX_chosen (l : Launch) (D : va_G) (ad : Nat → Nat) (ca : Nat → ClassId) (T : Nat → Nat → Int64) (n : Nat) (kc ko : Nat → Nat) (kv : Nat → Int64) (k : Nat) (lo hi : Nat → Int64) (bw bb pk : Nat → Nat)  (hIK : iK kc ko k) (hN : inj ad 10) (hn128 : n ≤ 128) (hiB : iB T n lo hi) : Met l yX0_chosen (wA yX0_chosen cX0_chosen 1 (some .int)) (rN 4) (va_Pc [.ref (ad 0)] (pW D c2 (tX ca) (wX ad ca T n kc ko kv k lo hi bw bb pk))) (qI (fun z (q : Nat → Nat) => z = nI (ct (ch T kc ko kv k) n) ∧ En q (ch T kc ko kv k) n) D c2 (fun q => wX ad ca T n kc ko kv k lo hi bw bb q) (fA ad 10)) 0 0 (fA ad 10) := by
  refine met_of RX0 rfl (by decide) (Nat.le_of_ble_eq_true rfl) (fun p e s m below meth cd ls E hr hlk _ hB hl => ?_)
  obtain ⟨hP, hK⟩ := hB
  have hl : lv_has ls 1 [(0, .ref (ad 0))] := hl
  have hS : va_S (fA ad 10) s.heap s.heap [] := va_S.rf
  refine lv_aload_n E.1 E.2.1 dX0_chosen_0 rfl (lv_at hl 0 rfl) ?_
  refine cV_wi E (As := []) (rest := []) (cX_pick l D ad ca T n kc ko kv k lo hi bw bb pk hIK hN hn128 hiB) kX_75 hK hP hS (fun _ h => h) 0 rfl rfl rfl rfl ⟨Nat.le_of_ble_eq_true rfl, Nat.le_of_ble_eq_true rfl⟩ rfl hl.1 rfl (Nat.le_of_ble_eq_true rfl) dX0_chosen_1 ⟨Nat.zero_le _, Nat.zero_le _⟩ (fun z1 u1 H locs hp1 hP _ _ hS => ?_)
  obtain ⟨hz1, hE1⟩ := hp1
  subst hz1
  have hP : va_P D c2 (wX ad ca T n kc ko kv k lo hi bw bb u1) H := hP
  exact e_wi E hr hlk hS u1 (⟨rfl, hE1⟩) hP dX0_chosen_4
