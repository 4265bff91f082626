/-! Contracts of the model: laid by program (wip/whole/gen.py). -/
set_option maxHeartbeats 4000000 in
set_option maxRecDepth 100000 in
theorem cR_group (l : Launch) (D : va_G) (ad : Nat → Nat) (ca : Nat → ClassId) (T : Nat → Nat → Int64) (n : Nat) (kc ko : Nat → Nat) (kv : Nat → Int64) (k cd : Nat) (c i w o r : Nat) (hN : inj ad 5) (hIK : iK kc ko k) (hn128 : n ≤ 128) (hc : c < 4) (ho : o < 4) (hw : w < 5) (hi0 : i < ct (isF (ch T kc ko kv k) T c) n) (hr0 : r < n) (hrF : isF (ch T kc ko kv k) T c r = true) (hrc : ct (fun u => isF (ch T kc ko kv k) T c u && decide (T u c < T r c)) n = i) (hru : ∀ t, t < n → isF (ch T kc ko kv k) T c t = true → ct (fun u => isF (ch T kc ko kv k) T c u && decide (T u c < T t c)) n = i → t = r) : Met l yX1_group (wA yX1_group cX1_group 18 (some .long)) (rN 4) (va_Pc [.ref (ad 0), .int (nI c), .int (nI i), .int (nI w), .int (nI o)] (pW D c2 (tR ca) (wR ad ca T n kc ko kv k cd))) (qL (fun z (_ : Unit) => z = (if w = 0 then T r c else if w = 1 then lN (ct (fun j => (ch T kc ko kv k) (r + j) && decide (T (r + j) c = T r c)) (n - r)) else if w = 2 then sm (fun j => if (ch T kc ko kv k) (r + j) && decide (T (r + j) c = T r c) then T (r + j) o else 0) (n - r) else gB (fun j => (ch T kc ko kv k) (r + j) && decide (T (r + j) c = T r c)) (fun j => T (r + j) o) (decide (w = 4)) (n - r))) D c2 (fun _ => wR ad ca T n kc ko kv k 0) (fA ad 5)) 0 0 (fA ad 5) := by
  refine met_of RX1 rfl (by decide) (Nat.le_of_ble_eq_true rfl) (fun p e s m below meth cd0 ls E hr hlk _ hB hl => ?_)
  obtain ⟨hP, hK⟩ := hB
  have hl : lv_has ls 18 [(0, .ref (ad 0)), (1, .int (nI c)), (2, .int (nI i)), (3, .int (nI w)), (4, .int (nI o))] := hl
  have hS : va_S (fA ad 5) s.heap s.heap [] := va_S.rf
  have hcg := ct_le (isF (ch T kc ko kv k) T c) n
  refine lv_aload_n E.1 E.2.1 dX1_group_0 rfl (lv_at hl 0 rfl) ?_
  refine lv_iload_n E.1 E.2.1 dX1_group_1 rfl (lv_at hl 1 rfl) ?_
  refine cS_i E (As := [.int (nI c)]) (rest := [.ref (ad 0)]) (cR_isColumn l (nI c)) kR_30 rfl rfl ⟨Nat.le_of_ble_eq_true rfl, Nat.le_of_ble_eq_true rfl⟩ rfl hl.1 rfl (Nat.le_of_ble_eq_true rfl) dX1_group_2 ⟨Nat.zero_le _, Nat.zero_le _⟩ ?_
  refine tpi (y := bI true) (congrArg bI (isC_n (by omega))) ?_
  refine b_if_eq (tgt := 25) E dX1_group_5 rfl (fun h => Bool.noConfusion h) (fun _ => ?_)
  refine lv_iload E.1 E.2.1 dX1_group_8 (lv_at hl 4 rfl) ?_
  refine cS_i E (As := [.int (nI o)]) (rest := [.ref (ad 0)]) (cR_isColumn l (nI o)) kR_30 rfl rfl ⟨Nat.le_of_ble_eq_true rfl, Nat.le_of_ble_eq_true rfl⟩ rfl hl.1 rfl (Nat.le_of_ble_eq_true rfl) dX1_group_10 ⟨Nat.zero_le _, Nat.zero_le _⟩ ?_
  refine tpi (y := bI true) (congrArg bI (isC_n (by omega))) ?_
  refine b_if_eq (tgt := 25) E dX1_group_13 rfl (fun h => Bool.noConfusion h) (fun _ => ?_)
  refine lv_iload_n E.1 E.2.1 dX1_group_16 rfl (lv_at hl 3 rfl) ?_
  refine n_if_lt (tgt := 25) E dX1_group_17 rfl (by omega) ?_
  refine lv_iload_n E.1 E.2.1 dX1_group_20 rfl (lv_at hl 3 rfl) ?_
  refine lv_iconst (v := nI 4) E.1 E.2.1 dX1_group_21 rfl ?_
  refine n_icmp_le (tgt := 29) E dX1_group_22 rfl (by omega) (by omega) (fun h22 => ?_) (fun h22 => ?_)
  · skip
    refine lv_iload_n E.1 E.2.1 dX1_group_29 rfl (lv_at hl 2 rfl) ?_
    refine n_if_lt (tgt := 42) E dX1_group_30 rfl (by omega) ?_
    refine lv_iload_n E.1 E.2.1 dX1_group_33 rfl (lv_at hl 2 rfl) ?_
    refine lv_aload_n E.1 E.2.1 dX1_group_34 rfl (lv_at hl 0 rfl) ?_
    refine lv_iload_n E.1 E.2.1 dX1_group_35 rfl (lv_at hl 1 rfl) ?_
    refine cV_i E (As := [.int (nI c)]) (rest := [.int (nI i), .ref (ad 0)]) (cR_countGroups l D ad ca T n kc ko kv k cd c hIK hn128 (by omega)) kR_82 hK hP 0 rfl rfl rfl rfl ⟨Nat.le_of_ble_eq_true rfl, Nat.le_of_ble_eq_true rfl⟩ rfl hl.1 rfl (Nat.le_of_ble_eq_true rfl) dX1_group_36 ⟨Nat.zero_le _, Nat.zero_le _⟩ ?_
    refine n_icmp_lt (tgt := 46) E dX1_group_39 rfl (by omega) (by omega) (fun h39 => ?_) (fun h39 => ?_)
    · skip
      refine lv_iconst (v := nI 0) E.1 E.2.1 dX1_group_46 rfl ?_
      refine n_put E inR tyR1 tyR1_ok nmR1 hK hP (dW hN rfl) hS 0 rfl rfl 0 (by decide) flR_23 rfl rfl (tyR1_ok 0 (by decide)) (Nat.le_of_ble_eq_true rfl) dX1_group_47 (fun H locs hP hS => ?_)
      have hP : va_P D c2 (wR ad ca T n kc ko kv k 0) H := hP
      refine lv_aload_n E.1 E.2.1 dX1_group_50 rfl (lv_at hl 0 rfl) ?_
      refine n_get E inR hK hP 0 rfl rfl 0 (by decide) flR_23 rfl rfl dX1_group_51 ?_
      refine n_if_le (tgt := 59) E dX1_group_54 rfl (by decide) (fun _ => ?_) (fun h => absurd h (by decide))
      refine lv_aload_n E.1 E.2.1 dX1_group_59 rfl (lv_at hl 0 rfl) ?_
      refine lv_iload_n E.1 E.2.1 dX1_group_60 rfl (lv_at hl 1 rfl) ?_
      refine lv_iload_n E.1 E.2.1 dX1_group_61 rfl (lv_at hl 2 rfl) ?_
      refine cV_i E (As := [.int (nI c), .int (nI i)]) (rest := []) (cR_firstOf l D ad ca T n kc ko kv k 0 c i r hIK hn128 (by omega) (by omega) hrF hrc hru) kR_86 hK hP 0 rfl rfl rfl rfl ⟨Nat.le_of_ble_eq_true rfl, Nat.le_of_ble_eq_true rfl⟩ rfl hl.1 rfl (Nat.le_of_ble_eq_true rfl) dX1_group_62 ⟨Nat.zero_le _, Nat.zero_le _⟩ ?_
      refine lv_istore (lv' := [(5, .int (nI r)), (0, .ref (ad 0)), (1, .int (nI c)), (2, .int (nI i)), (3, .int (nI w)), (4, .int (nI o))]) E.1 E.2.1 dX1_group_65 hl (by decide) rfl (fun ls hl => ?_)
      refine lv_aload_n E.1 E.2.1 dX1_group_67 rfl (lv_at hl 1 rfl) ?_
      refine n_get E inR hK hP 0 rfl rfl 2 (by decide) flR_7 rfl rfl dX1_group_68 ?_
      refine lv_iconst (v := nI 4) E.1 E.2.1 dX1_group_71 rfl ?_
      refine lv_iload E.1 E.2.1 dX1_group_72 (lv_at hl 0 rfl) ?_
      refine n_imul E dX1_group_74 ?_
      refine lv_iload_n E.1 E.2.1 dX1_group_75 rfl (lv_at hl 2 rfl) ?_
      refine n_iadd E dX1_group_76 ?_
      refine n_rald E hK hP 1 0 rfl rfl r c (by omega) (by omega) (by omega) dX1_group_77 ?_
      refine lv_lstore (lv' := [(6, .long (T r c)), (5, .int (nI r)), (0, .ref (ad 0)), (1, .int (nI c)), (2, .int (nI i)), (3, .int (nI w)), (4, .int (nI o))]) E.1 E.2.1 dX1_group_78 hl (by decide) rfl (fun ls hl => ?_)
      refine lv_aload_n E.1 E.2.1 dX1_group_80 rfl (lv_at hl 2 rfl) ?_
      refine n_get E inR hK hP 0 rfl rfl 2 (by decide) flR_7 rfl rfl dX1_group_81 ?_
      refine lv_iconst (v := nI 4) E.1 E.2.1 dX1_group_84 rfl ?_
      refine lv_iload E.1 E.2.1 dX1_group_85 (lv_at hl 1 rfl) ?_
      refine n_imul E dX1_group_87 ?_
      refine lv_iload E.1 E.2.1 dX1_group_88 (lv_at hl 6 rfl) ?_
      refine n_iadd E dX1_group_90 ?_
      refine n_rald E hK hP 1 0 rfl rfl r o (by omega) (by omega) (by omega) dX1_group_91 ?_
      refine lv_lstore (lv' := [(8, .long (T r o)), (6, .long (T r c)), (5, .int (nI r)), (0, .ref (ad 0)), (1, .int (nI c)), (2, .int (nI i)), (3, .int (nI w)), (4, .int (nI o))]) E.1 E.2.1 dX1_group_92 hl (by decide) rfl (fun ls hl => ?_)
      refine lv_lload E.1 E.2.1 dX1_group_94 (lv_at hl 0 rfl) ?_
      refine lv_lstore (lv' := [(10, .long (T r o)), (8, .long (T r o)), (6, .long (T r c)), (5, .int (nI r)), (0, .ref (ad 0)), (1, .int (nI c)), (2, .int (nI i)), (3, .int (nI w)), (4, .int (nI o))]) E.1 E.2.1 dX1_group_96 hl (by decide) rfl (fun ls hl => ?_)
      refine lv_lconst (v := 0) E.1 E.2.1 dX1_group_98 rfl ?_
      refine lv_lstore (lv' := [(12, .long 0), (10, .long (T r o)), (8, .long (T r o)), (6, .long (T r c)), (5, .int (nI r)), (0, .ref (ad 0)), (1, .int (nI c)), (2, .int (nI i)), (3, .int (nI w)), (4, .int (nI o))]) E.1 E.2.1 dX1_group_99 hl (by decide) rfl (fun ls hl => ?_)
      refine lv_iconst (v := nI 0) E.1 E.2.1 dX1_group_101 rfl ?_
      refine lv_istore (lv' := [(14, .int (nI 0)), (12, .long 0), (10, .long (T r o)), (8, .long (T r o)), (6, .long (T r c)), (5, .int (nI r)), (0, .ref (ad 0)), (1, .int (nI c)), (2, .int (nI i)), (3, .int (nI w)), (4, .int (nI o))]) E.1 E.2.1 dX1_group_102 hl (by decide) rfl (fun ls hl => ?_)
      refine lv_iload E.1 E.2.1 dX1_group_104 (lv_at hl 5 rfl) ?_
      refine lv_istore (lv' := [(15, .int (nI r)), (14, .int (nI 0)), (12, .long 0), (10, .long (T r o)), (8, .long (T r o)), (6, .long (T r c)), (5, .int (nI r)), (0, .ref (ad 0)), (1, .int (nI c)), (2, .int (nI i)), (3, .int (nI w)), (4, .int (nI o))]) E.1 E.2.1 dX1_group_106 hl (by decide) rfl (fun ls hl => ?_)
      refine w_lp1 (fun (d : Nat) => r + d ≤ n) (fun (d : Nat) => n - (r + d)) (fun (d : Nat) => [(15, .int (nI (r + d))), (14, .int (nI (ct (fun j => (ch T kc ko kv k) (r + j) && decide (T (r + j) c = T r c)) d))), (12, .long (sm (fun j => if (ch T kc ko kv k) (r + j) && decide (T (r + j) c = T r c) then T (r + j) o else 0) d)), (10, .long (gB (fun j => (ch T kc ko kv k) (r + j) && decide (T (r + j) c = T r c)) (fun j => T (r + j) o) true d)), (8, .long (gB (fun j => (ch T kc ko kv k) (r + j) && decide (T (r + j) c = T r c)) (fun j => T (r + j) o) false d)), (6, .long (T r c)), (5, .int (nI r)), (0, .ref (ad 0)), (1, .int (nI c)), (3, .int (nI w)), (4, .int (nI o))]) 0 (by omega) (lv_sub hl [0, 1, 2, 3, 4, 5, 6, 7, 8, 10, 11] rfl) (fun d ls hI hl ih108 => ?_)
      have hl : lv_has ls 18 [(15, .int (nI (r + d))), (14, .int (nI (ct (fun j => (ch T kc ko kv k) (r + j) && decide (T (r + j) c = T r c)) d))), (12, .long (sm (fun j => if (ch T kc ko kv k) (r + j) && decide (T (r + j) c = T r c) then T (r + j) o else 0) d)), (10, .long (gB (fun j => (ch T kc ko kv k) (r + j) && decide (T (r + j) c = T r c)) (fun j => T (r + j) o) true d)), (8, .long (gB (fun j => (ch T kc ko kv k) (r + j) && decide (T (r + j) c = T r c)) (fun j => T (r + j) o) false d)), (6, .long (T r c)), (5, .int (nI r)), (0, .ref (ad 0)), (1, .int (nI c)), (3, .int (nI w)), (4, .int (nI o))] := hl
      refine lv_iload E.1 E.2.1 dX1_group_108 (lv_at hl 0 rfl) ?_
      refine lv_aload_n E.1 E.2.1 dX1_group_110 rfl (lv_at hl 7 rfl) ?_
      refine n_get E inR hK hP 0 rfl rfl 1 (by decide) flR_27 rfl rfl dX1_group_111 ?_
      refine n_icmp_ge (tgt := 207) E dX1_group_114 rfl (by omega) (by omega) (fun h114 => ?_) (fun h114 => ?_)
      · skip
        have hctd := ct_le (fun j => (ch T kc ko kv k) (r + j) && decide (T (r + j) c = T r c)) d
        refine lv_iload_n E.1 E.2.1 dX1_group_207 rfl (lv_at hl 9 rfl) ?_
        refine n_if_ne (tgt := 216) E dX1_group_208 rfl (by omega) (fun h208 => ?_) (fun h208 => ?_)
        · skip
          refine lv_iload_n E.1 E.2.1 dX1_group_216 rfl (lv_at hl 9 rfl) ?_
          refine lv_iconst (v := nI 1) E.1 E.2.1 dX1_group_217 rfl ?_
          refine n_icmp_ne (tgt := 227) E dX1_group_218 rfl (by omega) (by omega) (fun h218 => ?_) (fun h218 => ?_)
          · skip
            refine lv_iload_n E.1 E.2.1 dX1_group_227 rfl (lv_at hl 9 rfl) ?_
            refine lv_iconst (v := nI 2) E.1 E.2.1 dX1_group_228 rfl ?_
            refine n_icmp_ne (tgt := 237) E dX1_group_229 rfl (by omega) (by omega) (fun h229 => ?_) (fun h229 => ?_)
            · skip
              refine lv_iload_n E.1 E.2.1 dX1_group_237 rfl (lv_at hl 9 rfl) ?_
              refine lv_iconst (v := nI 3) E.1 E.2.1 dX1_group_238 rfl ?_
              refine n_icmp_ne (tgt := 247) E dX1_group_239 rfl (by omega) (by omega) (fun h239 => ?_) (fun h239 => ?_)
              · skip
                refine lv_lload E.1 E.2.1 dX1_group_247 (lv_at hl 3 rfl) ?_
                exact e_wl E hr hlk hS () (by rw [show n - r = d by omega]; have e4 : w = 4 := (by omega); subst e4; rfl) hP dX1_group_249
              · skip
                refine lv_lload E.1 E.2.1 dX1_group_242 (lv_at hl 4 rfl) ?_
                refine lv_goto (tgt := 249) E.1 E.2.1 dX1_group_244 rfl ?_
                exact e_wl E hr hlk hS () (by rw [show n - r = d by omega]; subst h239; rfl) hP dX1_group_249
            · skip
              refine lv_lload E.1 E.2.1 dX1_group_232 (lv_at hl 2 rfl) ?_
              refine lv_goto (tgt := 249) E.1 E.2.1 dX1_group_234 rfl ?_
              exact e_wl E hr hlk hS () (by rw [show n - r = d by omega]; subst h229; rfl) hP dX1_group_249
          · skip
            refine lv_iload E.1 E.2.1 dX1_group_221 (lv_at hl 1 rfl) ?_
            refine n_i2l E (by omega) dX1_group_223 ?_
            refine lv_goto (tgt := 249) E.1 E.2.1 dX1_group_224 rfl ?_
            exact e_wl E hr hlk hS () (by rw [show n - r = d by omega]; subst h218; rfl) hP dX1_group_249
        · skip
          refine lv_lload E.1 E.2.1 dX1_group_211 (lv_at hl 5 rfl) ?_
          refine lv_goto (tgt := 249) E.1 E.2.1 dX1_group_213 rfl ?_
          exact e_wl E hr hlk hS () (by rw [show n - r = d by omega]; subst h208; rfl) hP dX1_group_249
      · skip
        refine lv_aload_n E.1 E.2.1 dX1_group_117 rfl (lv_at hl 7 rfl) ?_
        refine lv_iload E.1 E.2.1 dX1_group_118 (lv_at hl 0 rfl) ?_
        refine cV_i E (As := [.int (nI (r + d))]) (rest := []) (cR_isChosen l D ad ca T n kc ko kv k 0 (r + d) hIK (by omega)) kR_41 hK hP 0 rfl rfl rfl rfl ⟨Nat.le_of_ble_eq_true rfl, Nat.le_of_ble_eq_true rfl⟩ rfl hl.1 rfl (Nat.le_of_ble_eq_true rfl) dX1_group_120 ⟨Nat.zero_le _, Nat.zero_le _⟩ ?_
        refine b_if_eq (tgt := 201) E dX1_group_123 rfl (fun h123 => ?_) (fun h123 => ?_)
        · skip
          refine lv_iinc (k := 0) (v := nI (r + d + 1)) (lv' := [(15, .int (nI (r + d + 1))), (14, .int (nI (ct (fun j => (ch T kc ko kv k) (r + j) && decide (T (r + j) c = T r c)) d))), (12, .long (sm (fun j => if (ch T kc ko kv k) (r + j) && decide (T (r + j) c = T r c) then T (r + j) o else 0) d)), (10, .long (gB (fun j => (ch T kc ko kv k) (r + j) && decide (T (r + j) c = T r c)) (fun j => T (r + j) o) true d)), (8, .long (gB (fun j => (ch T kc ko kv k) (r + j) && decide (T (r + j) c = T r c)) (fun j => T (r + j) o) false d)), (6, .long (T r c)), (5, .int (nI r)), (0, .ref (ad 0)), (1, .int (nI c)), (3, .int (nI w)), (4, .int (nI o))]) E.1 E.2.1 dX1_group_201 hl rfl (inc1 _) (by decide) rfl (fun ls hl => ?_)
          refine lv_goto (tgt := 108) E.1 E.2.1 dX1_group_204 rfl ?_
          have hKf : (fun j => (ch T kc ko kv k) (r + j) && decide (T (r + j) c = T r c)) d = false := (show ((ch T kc ko kv k) (r + d) && decide (T (r + d) c = T r c)) = false by rw [h123]; rfl)
          rw [← ct_f (p := (fun j => (ch T kc ko kv k) (r + j) && decide (T (r + j) c = T r c))) hKf, sm_n (f := fun j => T (r + j) o) hKf, gB_n (f := (fun j => T (r + j) o)) (d := true) hKf, gB_n (f := (fun j => T (r + j) o)) (d := false) hKf] at hl
          exact ih108 (d + 1) _ (by omega) (by omega) (lv_sub hl [0, 1, 2, 3, 4, 5, 6, 7, 8, 9, 10] rfl)
        · skip
          refine lv_aload_n E.1 E.2.1 dX1_group_126 rfl (lv_at hl 7 rfl) ?_
          refine n_get E inR hK hP 0 rfl rfl 2 (by decide) flR_7 rfl rfl dX1_group_127 ?_
          refine lv_iconst (v := nI 4) E.1 E.2.1 dX1_group_130 rfl ?_
          refine lv_iload E.1 E.2.1 dX1_group_131 (lv_at hl 0 rfl) ?_
          refine n_imul E dX1_group_133 ?_
          refine lv_iload_n E.1 E.2.1 dX1_group_134 rfl (lv_at hl 8 rfl) ?_
          refine n_iadd E dX1_group_135 ?_
          refine n_rald E hK hP 1 0 rfl rfl (r + d) c (by omega) (by omega) (by omega) dX1_group_136 ?_
          refine lv_lload E.1 E.2.1 dX1_group_137 (lv_at hl 5 rfl) ?_
          refine l_if_ne (tgt := 201) E dX1_group_139 dX1_group_140 rfl (fun h139 => ?_) (fun h139 => ?_)
          · skip
            refine lv_iinc (k := 0) (v := nI (r + d + 1)) (lv' := [(15, .int (nI (r + d + 1))), (14, .int (nI (ct (fun j => (ch T kc ko kv k) (r + j) && decide (T (r + j) c = T r c)) d))), (12, .long (sm (fun j => if (ch T kc ko kv k) (r + j) && decide (T (r + j) c = T r c) then T (r + j) o else 0) d)), (10, .long (gB (fun j => (ch T kc ko kv k) (r + j) && decide (T (r + j) c = T r c)) (fun j => T (r + j) o) true d)), (8, .long (gB (fun j => (ch T kc ko kv k) (r + j) && decide (T (r + j) c = T r c)) (fun j => T (r + j) o) false d)), (6, .long (T r c)), (5, .int (nI r)), (0, .ref (ad 0)), (1, .int (nI c)), (3, .int (nI w)), (4, .int (nI o))]) E.1 E.2.1 dX1_group_201 hl rfl (inc1 _) (by decide) rfl (fun ls hl => ?_)
            refine lv_goto (tgt := 108) E.1 E.2.1 dX1_group_204 rfl ?_
            have hKf : (fun j => (ch T kc ko kv k) (r + j) && decide (T (r + j) c = T r c)) d = false := (show ((ch T kc ko kv k) (r + d) && decide (T (r + d) c = T r c)) = false by rw [decide_eq_false h139, Bool.and_false])
            rw [← ct_f (p := (fun j => (ch T kc ko kv k) (r + j) && decide (T (r + j) c = T r c))) hKf, sm_n (f := fun j => T (r + j) o) hKf, gB_n (f := (fun j => T (r + j) o)) (d := true) hKf, gB_n (f := (fun j => T (r + j) o)) (d := false) hKf] at hl
            exact ih108 (d + 1) _ (by omega) (by omega) (lv_sub hl [0, 1, 2, 3, 4, 5, 6, 7, 8, 9, 10] rfl)
          · skip
            have hKt : (fun j => (ch T kc ko kv k) (r + j) && decide (T (r + j) c = T r c)) d = true := (show ((ch T kc ko kv k) (r + d) && decide (T (r + d) c = T r c)) = true by rw [h123, decide_eq_true h139]; rfl)
            refine lv_aload_n E.1 E.2.1 dX1_group_143 rfl (lv_at hl 7 rfl) ?_
            refine n_get E inR hK hP 0 rfl rfl 2 (by decide) flR_7 rfl rfl dX1_group_144 ?_
            refine lv_iconst (v := nI 4) E.1 E.2.1 dX1_group_147 rfl ?_
            refine lv_iload E.1 E.2.1 dX1_group_148 (lv_at hl 0 rfl) ?_
            refine n_imul E dX1_group_150 ?_
            refine lv_iload E.1 E.2.1 dX1_group_151 (lv_at hl 10 rfl) ?_
            refine n_iadd E dX1_group_153 ?_
            refine n_rald E hK hP 1 0 rfl rfl (r + d) o (by omega) (by omega) (by omega) dX1_group_154 ?_
            refine lv_lstore (lv' := [(16, .long (T (r + d) o)), (15, .int (nI (r + d))), (14, .int (nI (ct (fun j => (ch T kc ko kv k) (r + j) && decide (T (r + j) c = T r c)) d))), (12, .long (sm (fun j => if (ch T kc ko kv k) (r + j) && decide (T (r + j) c = T r c) then T (r + j) o else 0) d)), (10, .long (gB (fun j => (ch T kc ko kv k) (r + j) && decide (T (r + j) c = T r c)) (fun j => T (r + j) o) true d)), (8, .long (gB (fun j => (ch T kc ko kv k) (r + j) && decide (T (r + j) c = T r c)) (fun j => T (r + j) o) false d)), (6, .long (T r c)), (5, .int (nI r)), (0, .ref (ad 0)), (1, .int (nI c)), (3, .int (nI w)), (4, .int (nI o))]) E.1 E.2.1 dX1_group_155 hl (by decide) rfl (fun ls hl => ?_)
            refine lv_iinc (k := 2) (v := nI (ct (fun j => (ch T kc ko kv k) (r + j) && decide (T (r + j) c = T r c)) d + 1)) (lv' := [(14, .int (nI (ct (fun j => (ch T kc ko kv k) (r + j) && decide (T (r + j) c = T r c)) d + 1))), (16, .long (T (r + d) o)), (15, .int (nI (r + d))), (12, .long (sm (fun j => if (ch T kc ko kv k) (r + j) && decide (T (r + j) c = T r c) then T (r + j) o else 0) d)), (10, .long (gB (fun j => (ch T kc ko kv k) (r + j) && decide (T (r + j) c = T r c)) (fun j => T (r + j) o) true d)), (8, .long (gB (fun j => (ch T kc ko kv k) (r + j) && decide (T (r + j) c = T r c)) (fun j => T (r + j) o) false d)), (6, .long (T r c)), (5, .int (nI r)), (0, .ref (ad 0)), (1, .int (nI c)), (3, .int (nI w)), (4, .int (nI o))]) E.1 E.2.1 dX1_group_157 hl rfl (inc1 _) (by decide) rfl (fun ls hl => ?_)
            refine lv_lload E.1 E.2.1 dX1_group_160 (lv_at hl 3 rfl) ?_
            refine lv_lload E.1 E.2.1 dX1_group_162 (lv_at hl 1 rfl) ?_
            refine lv_ladd E.1 E.2.1 dX1_group_164 ?_
            refine tpl (y := sm (fun j => if (ch T kc ko kv k) (r + j) && decide (T (r + j) c = T r c) then T (r + j) o else 0) (d + 1)) (sm_y (f := fun j => T (r + j) o) hKt) ?_
            refine lv_lstore (lv' := [(12, .long (sm (fun j => if (ch T kc ko kv k) (r + j) && decide (T (r + j) c = T r c) then T (r + j) o else 0) (d + 1))), (14, .int (nI (ct (fun j => (ch T kc ko kv k) (r + j) && decide (T (r + j) c = T r c)) d + 1))), (16, .long (T (r + d) o)), (15, .int (nI (r + d))), (10, .long (gB (fun j => (ch T kc ko kv k) (r + j) && decide (T (r + j) c = T r c)) (fun j => T (r + j) o) true d)), (8, .long (gB (fun j => (ch T kc ko kv k) (r + j) && decide (T (r + j) c = T r c)) (fun j => T (r + j) o) false d)), (6, .long (T r c)), (5, .int (nI r)), (0, .ref (ad 0)), (1, .int (nI c)), (3, .int (nI w)), (4, .int (nI o))]) E.1 E.2.1 dX1_group_165 hl (by decide) rfl (fun ls hl => ?_)
            refine lv_lload E.1 E.2.1 dX1_group_167 (lv_at hl 2 rfl) ?_
            refine lv_lload E.1 E.2.1 dX1_group_169 (lv_at hl 5 rfl) ?_
            refine l_if_ge (tgt := 180) E dX1_group_171 dX1_group_172 rfl (fun h171 => ?_) (fun h171 => ?_)
            · skip
              refine lv_lload E.1 E.2.1 dX1_group_180 (lv_at hl 5 rfl) ?_
              refine tpl (y := gB (fun j => (ch T kc ko kv k) (r + j) && decide (T (r + j) c = T r c)) (fun j => T (r + j) o) false (d + 1)) (gB_f (f := (fun j => T (r + j) o)) hKt (bef_Ff h171)) ?_
              refine lv_lstore (lv' := [(8, .long (gB (fun j => (ch T kc ko kv k) (r + j) && decide (T (r + j) c = T r c)) (fun j => T (r + j) o) false (d + 1))), (12, .long (sm (fun j => if (ch T kc ko kv k) (r + j) && decide (T (r + j) c = T r c) then T (r + j) o else 0) (d + 1))), (14, .int (nI (ct (fun j => (ch T kc ko kv k) (r + j) && decide (T (r + j) c = T r c)) d + 1))), (16, .long (T (r + d) o)), (15, .int (nI (r + d))), (10, .long (gB (fun j => (ch T kc ko kv k) (r + j) && decide (T (r + j) c = T r c)) (fun j => T (r + j) o) true d)), (6, .long (T r c)), (5, .int (nI r)), (0, .ref (ad 0)), (1, .int (nI c)), (3, .int (nI w)), (4, .int (nI o))]) E.1 E.2.1 dX1_group_182 hl (by decide) rfl (fun ls hl => ?_)
              refine lv_lload E.1 E.2.1 dX1_group_184 (lv_at hl 3 rfl) ?_
              refine lv_lload E.1 E.2.1 dX1_group_186 (lv_at hl 5 rfl) ?_
              refine l_if_le (tgt := 197) E dX1_group_188 dX1_group_189 rfl (fun h188 => ?_) (fun h188 => ?_)
              · skip
                refine lv_lload E.1 E.2.1 dX1_group_197 (lv_at hl 5 rfl) ?_
                refine tpl (y := gB (fun j => (ch T kc ko kv k) (r + j) && decide (T (r + j) c = T r c)) (fun j => T (r + j) o) true (d + 1)) (gB_f (f := (fun j => T (r + j) o)) hKt (bef_Tf h188)) ?_
                refine lv_lstore (lv' := [(10, .long (gB (fun j => (ch T kc ko kv k) (r + j) && decide (T (r + j) c = T r c)) (fun j => T (r + j) o) true (d + 1))), (8, .long (gB (fun j => (ch T kc ko kv k) (r + j) && decide (T (r + j) c = T r c)) (fun j => T (r + j) o) false (d + 1))), (12, .long (sm (fun j => if (ch T kc ko kv k) (r + j) && decide (T (r + j) c = T r c) then T (r + j) o else 0) (d + 1))), (14, .int (nI (ct (fun j => (ch T kc ko kv k) (r + j) && decide (T (r + j) c = T r c)) d + 1))), (16, .long (T (r + d) o)), (15, .int (nI (r + d))), (6, .long (T r c)), (5, .int (nI r)), (0, .ref (ad 0)), (1, .int (nI c)), (3, .int (nI w)), (4, .int (nI o))]) E.1 E.2.1 dX1_group_199 hl (by decide) rfl (fun ls hl => ?_)
                refine lv_iinc (k := 5) (v := nI (r + d + 1)) (lv' := [(15, .int (nI (r + d + 1))), (10, .long (gB (fun j => (ch T kc ko kv k) (r + j) && decide (T (r + j) c = T r c)) (fun j => T (r + j) o) true (d + 1))), (8, .long (gB (fun j => (ch T kc ko kv k) (r + j) && decide (T (r + j) c = T r c)) (fun j => T (r + j) o) false (d + 1))), (12, .long (sm (fun j => if (ch T kc ko kv k) (r + j) && decide (T (r + j) c = T r c) then T (r + j) o else 0) (d + 1))), (14, .int (nI (ct (fun j => (ch T kc ko kv k) (r + j) && decide (T (r + j) c = T r c)) d + 1))), (16, .long (T (r + d) o)), (6, .long (T r c)), (5, .int (nI r)), (0, .ref (ad 0)), (1, .int (nI c)), (3, .int (nI w)), (4, .int (nI o))]) E.1 E.2.1 dX1_group_201 hl rfl (inc1 _) (by decide) rfl (fun ls hl => ?_)
                refine lv_goto (tgt := 108) E.1 E.2.1 dX1_group_204 rfl ?_
                rw [← ct_t (p := (fun j => (ch T kc ko kv k) (r + j) && decide (T (r + j) c = T r c))) hKt] at hl
                exact ih108 (d + 1) _ (by omega) (by omega) (lv_sub hl [0, 4, 3, 1, 2, 6, 7, 8, 9, 10, 11] rfl)
              · skip
                refine lv_lload E.1 E.2.1 dX1_group_192 (lv_at hl 3 rfl) ?_
                refine lv_goto (tgt := 199) E.1 E.2.1 dX1_group_194 rfl ?_
                refine tpl (y := gB (fun j => (ch T kc ko kv k) (r + j) && decide (T (r + j) c = T r c)) (fun j => T (r + j) o) true (d + 1)) (gB_t (f := (fun j => T (r + j) o)) hKt (bef_Tt h188)) ?_
                refine lv_lstore (lv' := [(10, .long (gB (fun j => (ch T kc ko kv k) (r + j) && decide (T (r + j) c = T r c)) (fun j => T (r + j) o) true (d + 1))), (8, .long (gB (fun j => (ch T kc ko kv k) (r + j) && decide (T (r + j) c = T r c)) (fun j => T (r + j) o) false (d + 1))), (12, .long (sm (fun j => if (ch T kc ko kv k) (r + j) && decide (T (r + j) c = T r c) then T (r + j) o else 0) (d + 1))), (14, .int (nI (ct (fun j => (ch T kc ko kv k) (r + j) && decide (T (r + j) c = T r c)) d + 1))), (16, .long (T (r + d) o)), (15, .int (nI (r + d))), (6, .long (T r c)), (5, .int (nI r)), (0, .ref (ad 0)), (1, .int (nI c)), (3, .int (nI w)), (4, .int (nI o))]) E.1 E.2.1 dX1_group_199 hl (by decide) rfl (fun ls hl => ?_)
                refine lv_iinc (k := 5) (v := nI (r + d + 1)) (lv' := [(15, .int (nI (r + d + 1))), (10, .long (gB (fun j => (ch T kc ko kv k) (r + j) && decide (T (r + j) c = T r c)) (fun j => T (r + j) o) true (d + 1))), (8, .long (gB (fun j => (ch T kc ko kv k) (r + j) && decide (T (r + j) c = T r c)) (fun j => T (r + j) o) false (d + 1))), (12, .long (sm (fun j => if (ch T kc ko kv k) (r + j) && decide (T (r + j) c = T r c) then T (r + j) o else 0) (d + 1))), (14, .int (nI (ct (fun j => (ch T kc ko kv k) (r + j) && decide (T (r + j) c = T r c)) d + 1))), (16, .long (T (r + d) o)), (6, .long (T r c)), (5, .int (nI r)), (0, .ref (ad 0)), (1, .int (nI c)), (3, .int (nI w)), (4, .int (nI o))]) E.1 E.2.1 dX1_group_201 hl rfl (inc1 _) (by decide) rfl (fun ls hl => ?_)
                refine lv_goto (tgt := 108) E.1 E.2.1 dX1_group_204 rfl ?_
                rw [← ct_t (p := (fun j => (ch T kc ko kv k) (r + j) && decide (T (r + j) c = T r c))) hKt] at hl
                exact ih108 (d + 1) _ (by omega) (by omega) (lv_sub hl [0, 4, 3, 1, 2, 6, 7, 8, 9, 10, 11] rfl)
            · skip
              refine lv_lload E.1 E.2.1 dX1_group_175 (lv_at hl 2 rfl) ?_
              refine lv_goto (tgt := 182) E.1 E.2.1 dX1_group_177 rfl ?_
              refine tpl (y := gB (fun j => (ch T kc ko kv k) (r + j) && decide (T (r + j) c = T r c)) (fun j => T (r + j) o) false (d + 1)) (gB_t (f := (fun j => T (r + j) o)) hKt (bef_Ft h171)) ?_
              refine lv_lstore (lv' := [(8, .long (gB (fun j => (ch T kc ko kv k) (r + j) && decide (T (r + j) c = T r c)) (fun j => T (r + j) o) false (d + 1))), (12, .long (sm (fun j => if (ch T kc ko kv k) (r + j) && decide (T (r + j) c = T r c) then T (r + j) o else 0) (d + 1))), (14, .int (nI (ct (fun j => (ch T kc ko kv k) (r + j) && decide (T (r + j) c = T r c)) d + 1))), (16, .long (T (r + d) o)), (15, .int (nI (r + d))), (10, .long (gB (fun j => (ch T kc ko kv k) (r + j) && decide (T (r + j) c = T r c)) (fun j => T (r + j) o) true d)), (6, .long (T r c)), (5, .int (nI r)), (0, .ref (ad 0)), (1, .int (nI c)), (3, .int (nI w)), (4, .int (nI o))]) E.1 E.2.1 dX1_group_182 hl (by decide) rfl (fun ls hl => ?_)
              refine lv_lload E.1 E.2.1 dX1_group_184 (lv_at hl 3 rfl) ?_
              refine lv_lload E.1 E.2.1 dX1_group_186 (lv_at hl 5 rfl) ?_
              refine l_if_le (tgt := 197) E dX1_group_188 dX1_group_189 rfl (fun h188 => ?_) (fun h188 => ?_)
              · skip
                refine lv_lload E.1 E.2.1 dX1_group_197 (lv_at hl 5 rfl) ?_
                refine tpl (y := gB (fun j => (ch T kc ko kv k) (r + j) && decide (T (r + j) c = T r c)) (fun j => T (r + j) o) true (d + 1)) (gB_f (f := (fun j => T (r + j) o)) hKt (bef_Tf h188)) ?_
                refine lv_lstore (lv' := [(10, .long (gB (fun j => (ch T kc ko kv k) (r + j) && decide (T (r + j) c = T r c)) (fun j => T (r + j) o) true (d + 1))), (8, .long (gB (fun j => (ch T kc ko kv k) (r + j) && decide (T (r + j) c = T r c)) (fun j => T (r + j) o) false (d + 1))), (12, .long (sm (fun j => if (ch T kc ko kv k) (r + j) && decide (T (r + j) c = T r c) then T (r + j) o else 0) (d + 1))), (14, .int (nI (ct (fun j => (ch T kc ko kv k) (r + j) && decide (T (r + j) c = T r c)) d + 1))), (16, .long (T (r + d) o)), (15, .int (nI (r + d))), (6, .long (T r c)), (5, .int (nI r)), (0, .ref (ad 0)), (1, .int (nI c)), (3, .int (nI w)), (4, .int (nI o))]) E.1 E.2.1 dX1_group_199 hl (by decide) rfl (fun ls hl => ?_)
                refine lv_iinc (k := 5) (v := nI (r + d + 1)) (lv' := [(15, .int (nI (r + d + 1))), (10, .long (gB (fun j => (ch T kc ko kv k) (r + j) && decide (T (r + j) c = T r c)) (fun j => T (r + j) o) true (d + 1))), (8, .long (gB (fun j => (ch T kc ko kv k) (r + j) && decide (T (r + j) c = T r c)) (fun j => T (r + j) o) false (d + 1))), (12, .long (sm (fun j => if (ch T kc ko kv k) (r + j) && decide (T (r + j) c = T r c) then T (r + j) o else 0) (d + 1))), (14, .int (nI (ct (fun j => (ch T kc ko kv k) (r + j) && decide (T (r + j) c = T r c)) d + 1))), (16, .long (T (r + d) o)), (6, .long (T r c)), (5, .int (nI r)), (0, .ref (ad 0)), (1, .int (nI c)), (3, .int (nI w)), (4, .int (nI o))]) E.1 E.2.1 dX1_group_201 hl rfl (inc1 _) (by decide) rfl (fun ls hl => ?_)
                refine lv_goto (tgt := 108) E.1 E.2.1 dX1_group_204 rfl ?_
                rw [← ct_t (p := (fun j => (ch T kc ko kv k) (r + j) && decide (T (r + j) c = T r c))) hKt] at hl
                exact ih108 (d + 1) _ (by omega) (by omega) (lv_sub hl [0, 4, 3, 1, 2, 6, 7, 8, 9, 10, 11] rfl)
              · skip
                refine lv_lload E.1 E.2.1 dX1_group_192 (lv_at hl 3 rfl) ?_
                refine lv_goto (tgt := 199) E.1 E.2.1 dX1_group_194 rfl ?_
                refine tpl (y := gB (fun j => (ch T kc ko kv k) (r + j) && decide (T (r + j) c = T r c)) (fun j => T (r + j) o) true (d + 1)) (gB_t (f := (fun j => T (r + j) o)) hKt (bef_Tt h188)) ?_
                refine lv_lstore (lv' := [(10, .long (gB (fun j => (ch T kc ko kv k) (r + j) && decide (T (r + j) c = T r c)) (fun j => T (r + j) o) true (d + 1))), (8, .long (gB (fun j => (ch T kc ko kv k) (r + j) && decide (T (r + j) c = T r c)) (fun j => T (r + j) o) false (d + 1))), (12, .long (sm (fun j => if (ch T kc ko kv k) (r + j) && decide (T (r + j) c = T r c) then T (r + j) o else 0) (d + 1))), (14, .int (nI (ct (fun j => (ch T kc ko kv k) (r + j) && decide (T (r + j) c = T r c)) d + 1))), (16, .long (T (r + d) o)), (15, .int (nI (r + d))), (6, .long (T r c)), (5, .int (nI r)), (0, .ref (ad 0)), (1, .int (nI c)), (3, .int (nI w)), (4, .int (nI o))]) E.1 E.2.1 dX1_group_199 hl (by decide) rfl (fun ls hl => ?_)
                refine lv_iinc (k := 5) (v := nI (r + d + 1)) (lv' := [(15, .int (nI (r + d + 1))), (10, .long (gB (fun j => (ch T kc ko kv k) (r + j) && decide (T (r + j) c = T r c)) (fun j => T (r + j) o) true (d + 1))), (8, .long (gB (fun j => (ch T kc ko kv k) (r + j) && decide (T (r + j) c = T r c)) (fun j => T (r + j) o) false (d + 1))), (12, .long (sm (fun j => if (ch T kc ko kv k) (r + j) && decide (T (r + j) c = T r c) then T (r + j) o else 0) (d + 1))), (14, .int (nI (ct (fun j => (ch T kc ko kv k) (r + j) && decide (T (r + j) c = T r c)) d + 1))), (16, .long (T (r + d) o)), (6, .long (T r c)), (5, .int (nI r)), (0, .ref (ad 0)), (1, .int (nI c)), (3, .int (nI w)), (4, .int (nI o))]) E.1 E.2.1 dX1_group_201 hl rfl (inc1 _) (by decide) rfl (fun ls hl => ?_)
                refine lv_goto (tgt := 108) E.1 E.2.1 dX1_group_204 rfl ?_
                rw [← ct_t (p := (fun j => (ch T kc ko kv k) (r + j) && decide (T (r + j) c = T r c))) hKt] at hl
                exact ih108 (d + 1) _ (by omega) (by omega) (lv_sub hl [0, 4, 3, 1, 2, 6, 7, 8, 9, 10, 11] rfl)
    · skip
      exfalso; omega
  · skip
    exfalso; omega
set_option maxHeartbeats 4000000 in
set_option maxRecDepth 100000 in
theorem cR_group1 (l : Launch) (D : va_G) (ad : Nat → Nat) (ca : Nat → ClassId) (T : Nat → Nat → Int64) (n : Nat) (kc ko : Nat → Nat) (kv : Nat → Int64) (k cd : Nat) (x y v u : Int32) (hN : inj ad 5) (hx : isC x = false) : Met l yX1_group (wA yX1_group cX1_group 18 (some .long)) (rN 4) (va_Pc [.ref (ad 0), .int x, .int y, .int v, .int u] (pW D c2 (tR ca) (wR ad ca T n kc ko kv k cd))) (qL (fun z (_ : Unit) => True) D c2 (fun _ => wR ad ca T n kc ko kv k 1) (fA ad 5)) 0 0 (fA ad 5) := by
  refine met_of RX1 rfl (by decide) (Nat.le_of_ble_eq_true rfl) (fun p e s m below meth cd0 ls E hr hlk _ hB hl => ?_)
  obtain ⟨hP, hK⟩ := hB
  have hl : lv_has ls 18 [(0, .ref (ad 0)), (1, .int x), (2, .int y), (3, .int v), (4, .int u)] := hl
  have hS : va_S (fA ad 5) s.heap s.heap [] := va_S.rf
  refine lv_aload_n E.1 E.2.1 dX1_group_0 rfl (lv_at hl 0 rfl) ?_
  refine lv_iload_n E.1 E.2.1 dX1_group_1 rfl (lv_at hl 1 rfl) ?_
  refine cS_i E (As := [.int x]) (rest := [.ref (ad 0)]) (cR_isColumn l x) kR_30 rfl rfl ⟨Nat.le_of_ble_eq_true rfl, Nat.le_of_ble_eq_true rfl⟩ rfl hl.1 rfl (Nat.le_of_ble_eq_true rfl) dX1_group_2 ⟨Nat.zero_le _, Nat.zero_le _⟩ ?_
  refine tpi (y := bI false) (congrArg bI hx) ?_
  refine b_if_eq (tgt := 25) E dX1_group_5 rfl (fun _ => ?_) (fun h => Bool.noConfusion h)
  refine lv_iconst (v := nI 1) E.1 E.2.1 dX1_group_25 rfl ?_
  refine lv_goto (tgt := 47) E.1 E.2.1 dX1_group_26 rfl ?_
  refine n_put E inR tyR1 tyR1_ok nmR1 hK hP (dW hN rfl) hS 0 rfl rfl 0 (by decide) flR_23 rfl rfl (tyR1_ok 0 (by decide)) (Nat.le_of_ble_eq_true rfl) dX1_group_47 (fun H locs hP hS => ?_)
  have hP : va_P D c2 (wR ad ca T n kc ko kv k 1) H := hP
  refine lv_aload_n E.1 E.2.1 dX1_group_50 rfl (lv_at hl 0 rfl) ?_
  refine n_get E inR hK hP 0 rfl rfl 0 (by decide) flR_23 rfl rfl dX1_group_51 ?_
  refine n_if_le (tgt := 59) E dX1_group_54 rfl (by decide) (fun h => absurd h (by decide)) (fun _ => ?_)
  refine lv_lconst (v := 0) E.1 E.2.1 dX1_group_57 rfl ?_
  exact e_wl E hr hlk hS () trivial hP dX1_group_58
set_option maxHeartbeats 4000000 in
set_option maxRecDepth 100000 in
theorem cR_group1o (l : Launch) (D : va_G) (ad : Nat → Nat) (ca : Nat → ClassId) (T : Nat → Nat → Int64) (n : Nat) (kc ko : Nat → Nat) (kv : Nat → Int64) (k cd : Nat) (c : Nat) (y v u : Int32) (hN : inj ad 5) (hc : c < 4) (hu : isC u = false) : Met l yX1_group (wA yX1_group cX1_group 18 (some .long)) (rN 4) (va_Pc [.ref (ad 0), .int (nI c), .int y, .int v, .int u] (pW D c2 (tR ca) (wR ad ca T n kc ko kv k cd))) (qL (fun z (_ : Unit) => True) D c2 (fun _ => wR ad ca T n kc ko kv k 1) (fA ad 5)) 0 0 (fA ad 5) := by
  refine met_of RX1 rfl (by decide) (Nat.le_of_ble_eq_true rfl) (fun p e s m below meth cd0 ls E hr hlk _ hB hl => ?_)
  obtain ⟨hP, hK⟩ := hB
  have hl : lv_has ls 18 [(0, .ref (ad 0)), (1, .int (nI c)), (2, .int y), (3, .int v), (4, .int u)] := hl
  have hS : va_S (fA ad 5) s.heap s.heap [] := va_S.rf
  refine lv_aload_n E.1 E.2.1 dX1_group_0 rfl (lv_at hl 0 rfl) ?_
  refine lv_iload_n E.1 E.2.1 dX1_group_1 rfl (lv_at hl 1 rfl) ?_
  refine cS_i E (As := [.int (nI c)]) (rest := [.ref (ad 0)]) (cR_isColumn l (nI c)) kR_30 rfl rfl ⟨Nat.le_of_ble_eq_true rfl, Nat.le_of_ble_eq_true rfl⟩ rfl hl.1 rfl (Nat.le_of_ble_eq_true rfl) dX1_group_2 ⟨Nat.zero_le _, Nat.zero_le _⟩ ?_
  refine tpi (y := bI true) (congrArg bI (isC_n (by omega))) ?_
  refine b_if_eq (tgt := 25) E dX1_group_5 rfl (fun h => Bool.noConfusion h) (fun _ => ?_)
  refine lv_iload E.1 E.2.1 dX1_group_8 (lv_at hl 4 rfl) ?_
  refine cS_i E (As := [.int u]) (rest := [.ref (ad 0)]) (cR_isColumn l u) kR_30 rfl rfl ⟨Nat.le_of_ble_eq_true rfl, Nat.le_of_ble_eq_true rfl⟩ rfl hl.1 rfl (Nat.le_of_ble_eq_true rfl) dX1_group_10 ⟨Nat.zero_le _, Nat.zero_le _⟩ ?_
  refine tpi (y := bI false) (congrArg bI hu) ?_
  refine b_if_eq (tgt := 25) E dX1_group_13 rfl (fun _ => ?_) (fun h => Bool.noConfusion h)
  refine lv_iconst (v := nI 1) E.1 E.2.1 dX1_group_25 rfl ?_
  refine lv_goto (tgt := 47) E.1 E.2.1 dX1_group_26 rfl ?_
  refine n_put E inR tyR1 tyR1_ok nmR1 hK hP (dW hN rfl) hS 0 rfl rfl 0 (by decide) flR_23 rfl rfl (tyR1_ok 0 (by decide)) (Nat.le_of_ble_eq_true rfl) dX1_group_47 (fun H locs hP hS => ?_)
  have hP : va_P D c2 (wR ad ca T n kc ko kv k 1) H := hP
  refine lv_aload_n E.1 E.2.1 dX1_group_50 rfl (lv_at hl 0 rfl) ?_
  refine n_get E inR hK hP 0 rfl rfl 0 (by decide) flR_23 rfl rfl dX1_group_51 ?_
  refine n_if_le (tgt := 59) E dX1_group_54 rfl (by decide) (fun h => absurd h (by decide)) (fun _ => ?_)
  refine lv_lconst (v := 0) E.1 E.2.1 dX1_group_57 rfl ?_
  exact e_wl E hr hlk hS () trivial hP dX1_group_58
set_option maxHeartbeats 4000000 in
set_option maxRecDepth 100000 in
theorem cR_group1w (l : Launch) (D : va_G) (ad : Nat → Nat) (ca : Nat → ClassId) (T : Nat → Nat → Int64) (n : Nat) (kc ko : Nat → Nat) (kv : Nat → Int64) (k cd : Nat) (c o : Nat) (y v : Int32) (hN : inj ad 5) (hc : c < 4) (ho : o < 4) (hv : v < 0 ∨ nI 4 < v) : Met l yX1_group (wA yX1_group cX1_group 18 (some .long)) (rN 4) (va_Pc [.ref (ad 0), .int (nI c), .int y, .int v, .int (nI o)] (pW D c2 (tR ca) (wR ad ca T n kc ko kv k cd))) (qL (fun z (_ : Unit) => True) D c2 (fun _ => wR ad ca T n kc ko kv k 1) (fA ad 5)) 0 0 (fA ad 5) := by
  refine met_of RX1 rfl (by decide) (Nat.le_of_ble_eq_true rfl) (fun p e s m below meth cd0 ls E hr hlk _ hB hl => ?_)
  obtain ⟨hP, hK⟩ := hB
  have hl : lv_has ls 18 [(0, .ref (ad 0)), (1, .int (nI c)), (2, .int y), (3, .int v), (4, .int (nI o))] := hl
  have hS : va_S (fA ad 5) s.heap s.heap [] := va_S.rf
  refine lv_aload_n E.1 E.2.1 dX1_group_0 rfl (lv_at hl 0 rfl) ?_
  refine lv_iload_n E.1 E.2.1 dX1_group_1 rfl (lv_at hl 1 rfl) ?_
  refine cS_i E (As := [.int (nI c)]) (rest := [.ref (ad 0)]) (cR_isColumn l (nI c)) kR_30 rfl rfl ⟨Nat.le_of_ble_eq_true rfl, Nat.le_of_ble_eq_true rfl⟩ rfl hl.1 rfl (Nat.le_of_ble_eq_true rfl) dX1_group_2 ⟨Nat.zero_le _, Nat.zero_le _⟩ ?_
  refine tpi (y := bI true) (congrArg bI (isC_n (by omega))) ?_
  refine b_if_eq (tgt := 25) E dX1_group_5 rfl (fun h => Bool.noConfusion h) (fun _ => ?_)
  refine lv_iload E.1 E.2.1 dX1_group_8 (lv_at hl 4 rfl) ?_
  refine cS_i E (As := [.int (nI o)]) (rest := [.ref (ad 0)]) (cR_isColumn l (nI o)) kR_30 rfl rfl ⟨Nat.le_of_ble_eq_true rfl, Nat.le_of_ble_eq_true rfl⟩ rfl hl.1 rfl (Nat.le_of_ble_eq_true rfl) dX1_group_10 ⟨Nat.zero_le _, Nat.zero_le _⟩ ?_
  refine tpi (y := bI true) (congrArg bI (isC_n (by omega))) ?_
  refine b_if_eq (tgt := 25) E dX1_group_13 rfl (fun h => Bool.noConfusion h) (fun _ => ?_)
  refine lv_iload_n E.1 E.2.1 dX1_group_16 rfl (lv_at hl 3 rfl) ?_
  refine lv_if_lt (tgt := 25) E.1 E.2.1 dX1_group_17 rfl (fun h17 => ?_) (fun h17 => ?_)
  · skip
    refine lv_iconst (v := nI 1) E.1 E.2.1 dX1_group_25 rfl ?_
    refine lv_goto (tgt := 47) E.1 E.2.1 dX1_group_26 rfl ?_
    refine n_put E inR tyR1 tyR1_ok nmR1 hK hP (dW hN rfl) hS 0 rfl rfl 0 (by decide) flR_23 rfl rfl (tyR1_ok 0 (by decide)) (Nat.le_of_ble_eq_true rfl) dX1_group_47 (fun H locs hP hS => ?_)
    have hP : va_P D c2 (wR ad ca T n kc ko kv k 1) H := hP
    refine lv_aload_n E.1 E.2.1 dX1_group_50 rfl (lv_at hl 0 rfl) ?_
    refine n_get E inR hK hP 0 rfl rfl 0 (by decide) flR_23 rfl rfl dX1_group_51 ?_
    refine n_if_le (tgt := 59) E dX1_group_54 rfl (by decide) (fun h => absurd h (by decide)) (fun _ => ?_)
    refine lv_lconst (v := 0) E.1 E.2.1 dX1_group_57 rfl ?_
    exact e_wl E hr hlk hS () trivial hP dX1_group_58
  · skip
    refine lv_iload_n E.1 E.2.1 dX1_group_20 rfl (lv_at hl 3 rfl) ?_
    refine lv_iconst (v := nI 4) E.1 E.2.1 dX1_group_21 rfl ?_
    refine lv_icmp_le (tgt := 29) E.1 E.2.1 dX1_group_22 rfl (fun h22 => ?_) (fun h22 => ?_)
    · skip
      exact (bad_le hv h17 h22).elim
    · skip
      refine lv_iconst (v := nI 1) E.1 E.2.1 dX1_group_25 rfl ?_
      refine lv_goto (tgt := 47) E.1 E.2.1 dX1_group_26 rfl ?_
      refine n_put E inR tyR1 tyR1_ok nmR1 hK hP (dW hN rfl) hS 0 rfl rfl 0 (by decide) flR_23 rfl rfl (tyR1_ok 0 (by decide)) (Nat.le_of_ble_eq_true rfl) dX1_group_47 (fun H locs hP hS => ?_)
      have hP : va_P D c2 (wR ad ca T n kc ko kv k 1) H := hP
      refine lv_aload_n E.1 E.2.1 dX1_group_50 rfl (lv_at hl 0 rfl) ?_
      refine n_get E inR hK hP 0 rfl rfl 0 (by decide) flR_23 rfl rfl dX1_group_51 ?_
      refine n_if_le (tgt := 59) E dX1_group_54 rfl (by decide) (fun h => absurd h (by decide)) (fun _ => ?_)
      refine lv_lconst (v := 0) E.1 E.2.1 dX1_group_57 rfl ?_
      exact e_wl E hr hlk hS () trivial hP dX1_group_58
set_option maxHeartbeats 4000000 in
set_option maxRecDepth 100000 in
theorem cR_group2 (l : Launch) (D : va_G) (ad : Nat → Nat) (ca : Nat → ClassId) (T : Nat → Nat → Int64) (n : Nat) (kc ko : Nat → Nat) (kv : Nat → Int64) (k cd : Nat) (c o w : Nat) (y : Int32) (hN : inj ad 5) (hIK : iK kc ko k) (hn128 : n ≤ 128) (hc : c < 4) (ho : o < 4) (hw : w < 5) (hy : y < 0 ∨ nI (ct (isF (ch T kc ko kv k) T c) n) ≤ y) : Met l yX1_group (wA yX1_group cX1_group 18 (some .long)) (rN 4) (va_Pc [.ref (ad 0), .int (nI c), .int y, .int (nI w), .int (nI o)] (pW D c2 (tR ca) (wR ad ca T n kc ko kv k cd))) (qL (fun z (_ : Unit) => True) D c2 (fun _ => wR ad ca T n kc ko kv k 2) (fA ad 5)) 0 0 (fA ad 5) := by
  refine met_of RX1 rfl (by decide) (Nat.le_of_ble_eq_true rfl) (fun p e s m below meth cd0 ls E hr hlk _ hB hl => ?_)
  obtain ⟨hP, hK⟩ := hB
  have hl : lv_has ls 18 [(0, .ref (ad 0)), (1, .int (nI c)), (2, .int y), (3, .int (nI w)), (4, .int (nI o))] := hl
  have hS : va_S (fA ad 5) s.heap s.heap [] := va_S.rf
  refine lv_aload_n E.1 E.2.1 dX1_group_0 rfl (lv_at hl 0 rfl) ?_
  refine lv_iload_n E.1 E.2.1 dX1_group_1 rfl (lv_at hl 1 rfl) ?_
  refine cS_i E (As := [.int (nI c)]) (rest := [.ref (ad 0)]) (cR_isColumn l (nI c)) kR_30 rfl rfl ⟨Nat.le_of_ble_eq_true rfl, Nat.le_of_ble_eq_true rfl⟩ rfl hl.1 rfl (Nat.le_of_ble_eq_true rfl) dX1_group_2 ⟨Nat.zero_le _, Nat.zero_le _⟩ ?_
  refine tpi (y := bI true) (congrArg bI (isC_n (by omega))) ?_
  refine b_if_eq (tgt := 25) E dX1_group_5 rfl (fun h => Bool.noConfusion h) (fun _ => ?_)
  refine lv_iload E.1 E.2.1 dX1_group_8 (lv_at hl 4 rfl) ?_
  refine cS_i E (As := [.int (nI o)]) (rest := [.ref (ad 0)]) (cR_isColumn l (nI o)) kR_30 rfl rfl ⟨Nat.le_of_ble_eq_true rfl, Nat.le_of_ble_eq_true rfl⟩ rfl hl.1 rfl (Nat.le_of_ble_eq_true rfl) dX1_group_10 ⟨Nat.zero_le _, Nat.zero_le _⟩ ?_
  refine tpi (y := bI true) (congrArg bI (isC_n (by omega))) ?_
  refine b_if_eq (tgt := 25) E dX1_group_13 rfl (fun h => Bool.noConfusion h) (fun _ => ?_)
  refine lv_iload_n E.1 E.2.1 dX1_group_16 rfl (lv_at hl 3 rfl) ?_
  refine n_if_lt (tgt := 25) E dX1_group_17 rfl (by omega) ?_
  refine lv_iload_n E.1 E.2.1 dX1_group_20 rfl (lv_at hl 3 rfl) ?_
  refine lv_iconst (v := nI 4) E.1 E.2.1 dX1_group_21 rfl ?_
  refine n_icmp_le (tgt := 29) E dX1_group_22 rfl (by omega) (by omega) (fun h22 => ?_) (fun h22 => ?_)
  · skip
    refine lv_iload_n E.1 E.2.1 dX1_group_29 rfl (lv_at hl 2 rfl) ?_
    refine lv_if_lt (tgt := 42) E.1 E.2.1 dX1_group_30 rfl (fun h30 => ?_) (fun h30 => ?_)
    · skip
      refine lv_iconst (v := nI 2) E.1 E.2.1 dX1_group_42 rfl ?_
      refine lv_goto (tgt := 47) E.1 E.2.1 dX1_group_43 rfl ?_
      refine n_put E inR tyR1 tyR1_ok nmR1 hK hP (dW hN rfl) hS 0 rfl rfl 0 (by decide) flR_23 rfl rfl (tyR1_ok 0 (by decide)) (Nat.le_of_ble_eq_true rfl) dX1_group_47 (fun H locs hP hS => ?_)
      have hP : va_P D c2 (wR ad ca T n kc ko kv k 2) H := hP
      refine lv_aload_n E.1 E.2.1 dX1_group_50 rfl (lv_at hl 0 rfl) ?_
      refine n_get E inR hK hP 0 rfl rfl 0 (by decide) flR_23 rfl rfl dX1_group_51 ?_
      refine n_if_le (tgt := 59) E dX1_group_54 rfl (by decide) (fun h => absurd h (by decide)) (fun _ => ?_)
      refine lv_lconst (v := 0) E.1 E.2.1 dX1_group_57 rfl ?_
      exact e_wl E hr hlk hS () trivial hP dX1_group_58
    · skip
      refine lv_iload_n E.1 E.2.1 dX1_group_33 rfl (lv_at hl 2 rfl) ?_
      refine lv_aload_n E.1 E.2.1 dX1_group_34 rfl (lv_at hl 0 rfl) ?_
      refine lv_iload_n E.1 E.2.1 dX1_group_35 rfl (lv_at hl 1 rfl) ?_
      refine cV_i E (As := [.int (nI c)]) (rest := [.int y, .ref (ad 0)]) (cR_countGroups l D ad ca T n kc ko kv k cd c hIK hn128 (by omega)) kR_82 hK hP 0 rfl rfl rfl rfl ⟨Nat.le_of_ble_eq_true rfl, Nat.le_of_ble_eq_true rfl⟩ rfl hl.1 rfl (Nat.le_of_ble_eq_true rfl) dX1_group_36 ⟨Nat.zero_le _, Nat.zero_le _⟩ ?_
      refine lv_icmp_lt (tgt := 46) E.1 E.2.1 dX1_group_39 rfl (fun h39 => ?_) (fun h39 => ?_)
      · skip
        exact (bad_no hy h30 h39).elim
      · skip
        refine lv_iconst (v := nI 2) E.1 E.2.1 dX1_group_42 rfl ?_
        refine lv_goto (tgt := 47) E.1 E.2.1 dX1_group_43 rfl ?_
        refine n_put E inR tyR1 tyR1_ok nmR1 hK hP (dW hN rfl) hS 0 rfl rfl 0 (by decide) flR_23 rfl rfl (tyR1_ok 0 (by decide)) (Nat.le_of_ble_eq_true rfl) dX1_group_47 (fun H locs hP hS => ?_)
        have hP : va_P D c2 (wR ad ca T n kc ko kv k 2) H := hP
        refine lv_aload_n E.1 E.2.1 dX1_group_50 rfl (lv_at hl 0 rfl) ?_
        refine n_get E inR hK hP 0 rfl rfl 0 (by decide) flR_23 rfl rfl dX1_group_51 ?_
        refine n_if_le (tgt := 59) E dX1_group_54 rfl (by decide) (fun h => absurd h (by decide)) (fun _ => ?_)
        refine lv_lconst (v := 0) E.1 E.2.1 dX1_group_57 rfl ?_
        exact e_wl E hr hlk hS () trivial hP dX1_group_58
  · skip
    exfalso; omega
set_option maxHeartbeats 4000000 in
set_option maxRecDepth 100000 in
theorem cR_pairs (l : Launch) (D : va_G) (ad : Nat → Nat) (ca : Nat → ClassId) (T : Nat → Nat → Int64) (n : Nat) (kc ko : Nat → Nat) (kv : Nat → Int64) (k cd : Nat) (c o : Nat) (hN : inj ad 5) (hIK : iK kc ko k) (hn128 : n ≤ 128) (hc : c < 4) (ho : o < 4) : Met l yX1_pairs (wA yX1_pairs cX1_pairs 6 (some .int)) (rN 2) (va_Pc [.ref (ad 0), .int (nI c), .int (nI o)] (pW D c2 (tR ca) (wR ad ca T n kc ko kv k cd))) (qI (fun z (_ : Unit) => z = nI (sn (fun t => if (ch T kc ko kv k) t then ct (fun u => (ch T kc ko kv k) u && decide (T u c = T t o)) t else 0) n)) D c2 (fun _ => wR ad ca T n kc ko kv k 0) (fA ad 5)) 0 0 (fA ad 5) := by
  refine met_of RX1 rfl (by decide) (Nat.le_of_ble_eq_true rfl) (fun p e s m below meth cd0 ls E hr hlk _ hB hl => ?_)
  obtain ⟨hP, hK⟩ := hB
  have hl : lv_has ls 6 [(0, .ref (ad 0)), (1, .int (nI c)), (2, .int (nI o))] := hl
  have hS : va_S (fA ad 5) s.heap s.heap [] := va_S.rf
  refine lv_aload_n E.1 E.2.1 dX1_pairs_0 rfl (lv_at hl 0 rfl) ?_
  refine lv_iload_n E.1 E.2.1 dX1_pairs_1 rfl (lv_at hl 1 rfl) ?_
  refine cS_i E (As := [.int (nI c)]) (rest := [.ref (ad 0)]) (cR_isColumn l (nI c)) kR_30 rfl rfl ⟨Nat.le_of_ble_eq_true rfl, Nat.le_of_ble_eq_true rfl⟩ rfl hl.1 rfl (Nat.le_of_ble_eq_true rfl) dX1_pairs_2 ⟨Nat.zero_le _, Nat.zero_le _⟩ ?_
  refine tpi (y := bI true) (congrArg bI (isC_n (by omega))) ?_
  refine b_if_eq (tgt := 19) E dX1_pairs_5 rfl (fun h => Bool.noConfusion h) (fun _ => ?_)
  refine lv_iload_n E.1 E.2.1 dX1_pairs_8 rfl (lv_at hl 2 rfl) ?_
  refine cS_i E (As := [.int (nI o)]) (rest := [.ref (ad 0)]) (cR_isColumn l (nI o)) kR_30 rfl rfl ⟨Nat.le_of_ble_eq_true rfl, Nat.le_of_ble_eq_true rfl⟩ rfl hl.1 rfl (Nat.le_of_ble_eq_true rfl) dX1_pairs_9 ⟨Nat.zero_le _, Nat.zero_le _⟩ ?_
  refine tpi (y := bI true) (congrArg bI (isC_n (by omega))) ?_
  refine b_if_eq (tgt := 19) E dX1_pairs_12 rfl (fun h => Bool.noConfusion h) (fun _ => ?_)
  refine lv_iconst (v := nI 0) E.1 E.2.1 dX1_pairs_15 rfl ?_
  refine lv_goto (tgt := 20) E.1 E.2.1 dX1_pairs_16 rfl ?_
  refine n_put E inR tyR1 tyR1_ok nmR1 hK hP (dW hN rfl) hS 0 rfl rfl 0 (by decide) flR_23 rfl rfl (tyR1_ok 0 (by decide)) (Nat.le_of_ble_eq_true rfl) dX1_pairs_20 (fun H locs hP hS => ?_)
  have hP : va_P D c2 (wR ad ca T n kc ko kv k 0) H := hP
  refine lv_iconst (v := nI 0) E.1 E.2.1 dX1_pairs_23 rfl ?_
  refine lv_istore_n (lv' := [(3, .int (nI 0)), (0, .ref (ad 0)), (1, .int (nI c)), (2, .int (nI o))]) E.1 E.2.1 dX1_pairs_24 rfl hl (by decide) rfl (fun ls hl => ?_)
  refine lv_iconst (v := nI 0) E.1 E.2.1 dX1_pairs_25 rfl ?_
  refine lv_istore (lv' := [(4, .int (nI 0)), (3, .int (nI 0)), (0, .ref (ad 0)), (1, .int (nI c)), (2, .int (nI o))]) E.1 E.2.1 dX1_pairs_26 hl (by decide) rfl (fun ls hl => ?_)
  refine w_lp1 (fun (t : Nat) => t ≤ n) (fun (t : Nat) => n - t) (fun (t : Nat) => [(3, .int (nI (sn (fun t => if (ch T kc ko kv k) t then ct (fun u => (ch T kc ko kv k) u && decide (T u c = T t o)) t else 0) t))), (4, .int (nI t)), (0, .ref (ad 0)), (1, .int (nI c)), (2, .int (nI o))]) 0 (Nat.zero_le _) (lv_sub hl [1, 0, 2, 3, 4] rfl) (fun t ls hI hl ih28 => ?_)
  have hl : lv_has ls 6 [(3, .int (nI (sn (fun t => if (ch T kc ko kv k) t then ct (fun u => (ch T kc ko kv k) u && decide (T u c = T t o)) t else 0) t))), (4, .int (nI t)), (0, .ref (ad 0)), (1, .int (nI c)), (2, .int (nI o))] := hl
  have hI28 := hI
  refine lv_iload E.1 E.2.1 dX1_pairs_28 (lv_at hl 1 rfl) ?_
  refine lv_aload_n E.1 E.2.1 dX1_pairs_30 rfl (lv_at hl 2 rfl) ?_
  refine n_get E inR hK hP 0 rfl rfl 1 (by decide) flR_27 rfl rfl dX1_pairs_31 ?_
  refine n_icmp_ge (tgt := 118) E dX1_pairs_34 rfl (by omega) (by omega) (fun h34 => ?_) (fun h34 => ?_)
  · skip
    refine lv_iload_n E.1 E.2.1 dX1_pairs_118 rfl (lv_at hl 0 rfl) ?_
    exact e_wi E hr hlk hS () (by rw [show n = t by omega]) hP dX1_pairs_119
  · skip
    refine lv_aload_n E.1 E.2.1 dX1_pairs_37 rfl (lv_at hl 2 rfl) ?_
    refine n_get E inR hK hP 0 rfl rfl 0 (by decide) flR_23 rfl rfl dX1_pairs_38 ?_
    refine n_if_ne (tgt := 118) E dX1_pairs_41 rfl (by decide) (fun h => absurd h (by decide)) (fun _ => ?_)
    refine lv_iconst (v := nI 0) E.1 E.2.1 dX1_pairs_44 rfl ?_
    refine lv_istore (lv' := [(5, .int (nI 0)), (3, .int (nI (sn (fun t => if (ch T kc ko kv k) t then ct (fun u => (ch T kc ko kv k) u && decide (T u c = T t o)) t else 0) t))), (4, .int (nI t)), (0, .ref (ad 0)), (1, .int (nI c)), (2, .int (nI o))]) E.1 E.2.1 dX1_pairs_45 hl (by decide) rfl (fun ls hl => ?_)
    refine w_lp1 (fun (u : Nat) => u ≤ t ∧ ((ch T kc ko kv k) t = true ∨ u = 0)) (fun (u : Nat) => t - u) (fun (u : Nat) => [(5, .int (nI u)), (3, .int (nI (sn (fun t => if (ch T kc ko kv k) t then ct (fun u => (ch T kc ko kv k) u && decide (T u c = T t o)) t else 0) t + ct (fun u => (ch T kc ko kv k) u && decide (T u c = T t o)) u))), (4, .int (nI t)), (0, .ref (ad 0)), (1, .int (nI c)), (2, .int (nI o))]) 0 (⟨Nat.zero_le _, Or.inr rfl⟩) (lv_sub hl [0, 1, 2, 3, 4, 5] rfl) (fun u ls hI hl ih47 => ?_)
    have hl : lv_has ls 6 [(5, .int (nI u)), (3, .int (nI (sn (fun t => if (ch T kc ko kv k) t then ct (fun u => (ch T kc ko kv k) u && decide (T u c = T t o)) t else 0) t + ct (fun u => (ch T kc ko kv k) u && decide (T u c = T t o)) u))), (4, .int (nI t)), (0, .ref (ad 0)), (1, .int (nI c)), (2, .int (nI o))] := hl
    obtain ⟨hu1, hu2⟩ := hI
    refine lv_iload E.1 E.2.1 dX1_pairs_47 (lv_at hl 0 rfl) ?_
    refine lv_iload E.1 E.2.1 dX1_pairs_49 (lv_at hl 2 rfl) ?_
    refine n_icmp_ge (tgt := 112) E dX1_pairs_51 rfl (by omega) (by omega) (fun h51 => ?_) (fun h51 => ?_)
    · skip
      refine lv_iinc (k := 2) (v := nI (t + 1)) (lv' := [(4, .int (nI (t + 1))), (5, .int (nI u)), (3, .int (nI (sn (fun t => if (ch T kc ko kv k) t then ct (fun u => (ch T kc ko kv k) u && decide (T u c = T t o)) t else 0) t + ct (fun u => (ch T kc ko kv k) u && decide (T u c = T t o)) u))), (0, .ref (ad 0)), (1, .int (nI c)), (2, .int (nI o))]) E.1 E.2.1 dX1_pairs_112 hl rfl (inc1 _) (by decide) rfl (fun ls hl => ?_)
      refine lv_goto (tgt := 28) E.1 E.2.1 dX1_pairs_115 rfl ?_
      rw [show sn (fun t => if (ch T kc ko kv k) t then ct (fun u => (ch T kc ko kv k) u && decide (T u c = T t o)) t else 0) t + ct (fun u => (ch T kc ko kv k) u && decide (T u c = T t o)) u = sn (fun t => if (ch T kc ko kv k) t then ct (fun u => (ch T kc ko kv k) u && decide (T u c = T t o)) t else 0) (t + 1) from pr_y hu2 (by omega)] at hl
      exact ih28 (t + 1) _ (by omega) (by omega) (lv_sub hl [2, 0, 3, 4, 5] rfl)
    · skip
      refine lv_aload_n E.1 E.2.1 dX1_pairs_54 rfl (lv_at hl 3 rfl) ?_
      refine lv_iload E.1 E.2.1 dX1_pairs_55 (lv_at hl 2 rfl) ?_
      refine cV_i E (As := [.int (nI t)]) (rest := []) (cR_isChosen l D ad ca T n kc ko kv k 0 t hIK (by omega)) kR_41 hK hP 0 rfl rfl rfl rfl ⟨Nat.le_of_ble_eq_true rfl, Nat.le_of_ble_eq_true rfl⟩ rfl hl.1 rfl (Nat.le_of_ble_eq_true rfl) dX1_pairs_57 ⟨Nat.zero_le _, Nat.zero_le _⟩ ?_
      refine b_if_eq (tgt := 112) E dX1_pairs_60 rfl (fun h60 => ?_) (fun h60 => ?_)
      · skip
        refine lv_iinc (k := 2) (v := nI (t + 1)) (lv' := [(4, .int (nI (t + 1))), (5, .int (nI u)), (3, .int (nI (sn (fun t => if (ch T kc ko kv k) t then ct (fun u => (ch T kc ko kv k) u && decide (T u c = T t o)) t else 0) t + ct (fun u => (ch T kc ko kv k) u && decide (T u c = T t o)) u))), (0, .ref (ad 0)), (1, .int (nI c)), (2, .int (nI o))]) E.1 E.2.1 dX1_pairs_112 hl rfl (inc1 _) (by decide) rfl (fun ls hl => ?_)
        refine lv_goto (tgt := 28) E.1 E.2.1 dX1_pairs_115 rfl ?_
        have e9 : u = 0 := hu2.resolve_left (by rw [h60]; decide)
        subst e9
        rw [show sn (fun t => if (ch T kc ko kv k) t then ct (fun u => (ch T kc ko kv k) u && decide (T u c = T t o)) t else 0) t + ct (fun u => (ch T kc ko kv k) u && decide (T u c = T t o)) 0 = sn (fun t => if (ch T kc ko kv k) t then ct (fun u => (ch T kc ko kv k) u && decide (T u c = T t o)) t else 0) (t + 1) from pr_n h60] at hl
        exact ih28 (t + 1) _ (by omega) (by omega) (lv_sub hl [2, 0, 3, 4, 5] rfl)
      · skip
        refine lv_iload_n E.1 E.2.1 dX1_pairs_63 rfl (lv_at hl 1 rfl) ?_
        refine lv_aload_n E.1 E.2.1 dX1_pairs_64 rfl (lv_at hl 3 rfl) ?_
        refine lv_iload E.1 E.2.1 dX1_pairs_65 (lv_at hl 0 rfl) ?_
        refine cV_i E (As := [.int (nI u)]) (rest := [.int (nI (sn (fun t => if (ch T kc ko kv k) t then ct (fun u => (ch T kc ko kv k) u && decide (T u c = T t o)) t else 0) t + ct (fun u => (ch T kc ko kv k) u && decide (T u c = T t o)) u))]) (cR_isChosen l D ad ca T n kc ko kv k 0 u hIK (by omega)) kR_41 hK hP 0 rfl rfl rfl rfl ⟨Nat.le_of_ble_eq_true rfl, Nat.le_of_ble_eq_true rfl⟩ rfl hl.1 rfl (Nat.le_of_ble_eq_true rfl) dX1_pairs_67 ⟨Nat.zero_le _, Nat.zero_le _⟩ ?_
        refine b_if_eq (tgt := 103) E dX1_pairs_70 rfl (fun h70 => ?_) (fun h70 => ?_)
        · skip
          refine lv_iconst (v := nI 0) E.1 E.2.1 dX1_pairs_103 rfl ?_
          refine n_iadd E dX1_pairs_104 ?_
          refine lv_istore_n (lv' := [(3, .int (nI (sn (fun t => if (ch T kc ko kv k) t then ct (fun u => (ch T kc ko kv k) u && decide (T u c = T t o)) t else 0) t + ct (fun u => (ch T kc ko kv k) u && decide (T u c = T t o)) u + 0))), (5, .int (nI u)), (4, .int (nI t)), (0, .ref (ad 0)), (1, .int (nI c)), (2, .int (nI o))]) E.1 E.2.1 dX1_pairs_105 rfl hl (by decide) rfl (fun ls hl => ?_)
          refine lv_iinc (k := 1) (v := nI (u + 1)) (lv' := [(5, .int (nI (u + 1))), (3, .int (nI (sn (fun t => if (ch T kc ko kv k) t then ct (fun u => (ch T kc ko kv k) u && decide (T u c = T t o)) t else 0) t + ct (fun u => (ch T kc ko kv k) u && decide (T u c = T t o)) u + 0))), (4, .int (nI t)), (0, .ref (ad 0)), (1, .int (nI c)), (2, .int (nI o))]) E.1 E.2.1 dX1_pairs_106 hl rfl (inc1 _) (by decide) rfl (fun ls hl => ?_)
          refine lv_goto (tgt := 47) E.1 E.2.1 dX1_pairs_109 rfl ?_
          rw [← ct_f (p := (fun u => (ch T kc ko kv k) u && decide (T u c = T t o))) (by rw [h70]; rfl)] at hl
          exact ih47 (u + 1) _ (⟨by omega, Or.inl h60⟩) (by omega) (lv_sub hl [0, 1, 2, 3, 4, 5] rfl)
        · skip
          refine lv_aload_n E.1 E.2.1 dX1_pairs_73 rfl (lv_at hl 3 rfl) ?_
          refine n_get E inR hK hP 0 rfl rfl 2 (by decide) flR_7 rfl rfl dX1_pairs_74 ?_
          refine lv_iconst (v := nI 4) E.1 E.2.1 dX1_pairs_77 rfl ?_
          refine lv_iload E.1 E.2.1 dX1_pairs_78 (lv_at hl 0 rfl) ?_
          refine n_imul E dX1_pairs_80 ?_
          refine lv_iload_n E.1 E.2.1 dX1_pairs_81 rfl (lv_at hl 4 rfl) ?_
          refine n_iadd E dX1_pairs_82 ?_
          refine n_rald E hK hP 1 0 rfl rfl u c (by omega) (by omega) (by omega) dX1_pairs_83 ?_
          refine lv_aload_n E.1 E.2.1 dX1_pairs_84 rfl (lv_at hl 3 rfl) ?_
          refine n_get E inR hK hP 0 rfl rfl 2 (by decide) flR_7 rfl rfl dX1_pairs_85 ?_
          refine lv_iconst (v := nI 4) E.1 E.2.1 dX1_pairs_88 rfl ?_
          refine lv_iload E.1 E.2.1 dX1_pairs_89 (lv_at hl 2 rfl) ?_
          refine n_imul E dX1_pairs_91 ?_
          refine lv_iload_n E.1 E.2.1 dX1_pairs_92 rfl (lv_at hl 5 rfl) ?_
          refine n_iadd E dX1_pairs_93 ?_
          refine n_rald E hK hP 1 0 rfl rfl t o (by omega) (by omega) (by omega) dX1_pairs_94 ?_
          refine l_if_ne (tgt := 103) E dX1_pairs_95 dX1_pairs_96 rfl (fun h95 => ?_) (fun h95 => ?_)
          · skip
            refine lv_iconst (v := nI 0) E.1 E.2.1 dX1_pairs_103 rfl ?_
            refine n_iadd E dX1_pairs_104 ?_
            refine lv_istore_n (lv' := [(3, .int (nI (sn (fun t => if (ch T kc ko kv k) t then ct (fun u => (ch T kc ko kv k) u && decide (T u c = T t o)) t else 0) t + ct (fun u => (ch T kc ko kv k) u && decide (T u c = T t o)) u + 0))), (5, .int (nI u)), (4, .int (nI t)), (0, .ref (ad 0)), (1, .int (nI c)), (2, .int (nI o))]) E.1 E.2.1 dX1_pairs_105 rfl hl (by decide) rfl (fun ls hl => ?_)
            refine lv_iinc (k := 1) (v := nI (u + 1)) (lv' := [(5, .int (nI (u + 1))), (3, .int (nI (sn (fun t => if (ch T kc ko kv k) t then ct (fun u => (ch T kc ko kv k) u && decide (T u c = T t o)) t else 0) t + ct (fun u => (ch T kc ko kv k) u && decide (T u c = T t o)) u + 0))), (4, .int (nI t)), (0, .ref (ad 0)), (1, .int (nI c)), (2, .int (nI o))]) E.1 E.2.1 dX1_pairs_106 hl rfl (inc1 _) (by decide) rfl (fun ls hl => ?_)
            refine lv_goto (tgt := 47) E.1 E.2.1 dX1_pairs_109 rfl ?_
            rw [← ct_f (p := (fun u => (ch T kc ko kv k) u && decide (T u c = T t o))) (by rw [decide_eq_false h95, Bool.and_false])] at hl
            exact ih47 (u + 1) _ (⟨by omega, Or.inl h60⟩) (by omega) (lv_sub hl [0, 1, 2, 3, 4, 5] rfl)
          · skip
            refine lv_iconst (v := nI 1) E.1 E.2.1 dX1_pairs_99 rfl ?_
            refine lv_goto (tgt := 104) E.1 E.2.1 dX1_pairs_100 rfl ?_
            refine n_iadd E dX1_pairs_104 ?_
            refine lv_istore_n (lv' := [(3, .int (nI (sn (fun t => if (ch T kc ko kv k) t then ct (fun u => (ch T kc ko kv k) u && decide (T u c = T t o)) t else 0) t + ct (fun u => (ch T kc ko kv k) u && decide (T u c = T t o)) u + 1))), (5, .int (nI u)), (4, .int (nI t)), (0, .ref (ad 0)), (1, .int (nI c)), (2, .int (nI o))]) E.1 E.2.1 dX1_pairs_105 rfl hl (by decide) rfl (fun ls hl => ?_)
            refine lv_iinc (k := 1) (v := nI (u + 1)) (lv' := [(5, .int (nI (u + 1))), (3, .int (nI (sn (fun t => if (ch T kc ko kv k) t then ct (fun u => (ch T kc ko kv k) u && decide (T u c = T t o)) t else 0) t + ct (fun u => (ch T kc ko kv k) u && decide (T u c = T t o)) u + 1))), (4, .int (nI t)), (0, .ref (ad 0)), (1, .int (nI c)), (2, .int (nI o))]) E.1 E.2.1 dX1_pairs_106 hl rfl (inc1 _) (by decide) rfl (fun ls hl => ?_)
            refine lv_goto (tgt := 47) E.1 E.2.1 dX1_pairs_109 rfl ?_
            rw [Nat.add_assoc, ← ct_t (p := (fun u => (ch T kc ko kv k) u && decide (T u c = T t o))) (by rw [h70, decide_eq_true h95]; rfl)] at hl
            exact ih47 (u + 1) _ (⟨by omega, Or.inl h60⟩) (by omega) (lv_sub hl [0, 1, 2, 3, 4, 5] rfl)
set_option maxHeartbeats 4000000 in
set_option maxRecDepth 100000 in
theorem cR_pairs1 (l : Launch) (D : va_G) (ad : Nat → Nat) (ca : Nat → ClassId) (T : Nat → Nat → Int64) (n : Nat) (kc ko : Nat → Nat) (kv : Nat → Int64) (k cd : Nat) (x y : Int32) (hN : inj ad 5) (hn128 : n ≤ 128) (hx : isC x = false) : Met l yX1_pairs (wA yX1_pairs cX1_pairs 6 (some .int)) (rN 2) (va_Pc [.ref (ad 0), .int x, .int y] (pW D c2 (tR ca) (wR ad ca T n kc ko kv k cd))) (qI (fun z (_ : Unit) => True) D c2 (fun _ => wR ad ca T n kc ko kv k 1) (fA ad 5)) 0 0 (fA ad 5) := by
  refine met_of RX1 rfl (by decide) (Nat.le_of_ble_eq_true rfl) (fun p e s m below meth cd0 ls E hr hlk _ hB hl => ?_)
  obtain ⟨hP, hK⟩ := hB
  have hl : lv_has ls 6 [(0, .ref (ad 0)), (1, .int x), (2, .int y)] := hl
  have hS : va_S (fA ad 5) s.heap s.heap [] := va_S.rf
  refine lv_aload_n E.1 E.2.1 dX1_pairs_0 rfl (lv_at hl 0 rfl) ?_
  refine lv_iload_n E.1 E.2.1 dX1_pairs_1 rfl (lv_at hl 1 rfl) ?_
  refine cS_i E (As := [.int x]) (rest := [.ref (ad 0)]) (cR_isColumn l x) kR_30 rfl rfl ⟨Nat.le_of_ble_eq_true rfl, Nat.le_of_ble_eq_true rfl⟩ rfl hl.1 rfl (Nat.le_of_ble_eq_true rfl) dX1_pairs_2 ⟨Nat.zero_le _, Nat.zero_le _⟩ ?_
  refine tpi (y := bI false) (congrArg bI hx) ?_
  refine b_if_eq (tgt := 19) E dX1_pairs_5 rfl (fun _ => ?_) (fun h => Bool.noConfusion h)
  refine lv_iconst (v := nI 1) E.1 E.2.1 dX1_pairs_19 rfl ?_
  refine n_put E inR tyR1 tyR1_ok nmR1 hK hP (dW hN rfl) hS 0 rfl rfl 0 (by decide) flR_23 rfl rfl (tyR1_ok 0 (by decide)) (Nat.le_of_ble_eq_true rfl) dX1_pairs_20 (fun H locs hP hS => ?_)
  have hP : va_P D c2 (wR ad ca T n kc ko kv k 1) H := hP
  refine lv_iconst (v := nI 0) E.1 E.2.1 dX1_pairs_23 rfl ?_
  refine lv_istore_n (lv' := [(3, .int (nI 0)), (0, .ref (ad 0)), (1, .int x), (2, .int y)]) E.1 E.2.1 dX1_pairs_24 rfl hl (by decide) rfl (fun ls hl => ?_)
  refine lv_iconst (v := nI 0) E.1 E.2.1 dX1_pairs_25 rfl ?_
  refine lv_istore (lv' := [(4, .int (nI 0)), (3, .int (nI 0)), (0, .ref (ad 0)), (1, .int x), (2, .int y)]) E.1 E.2.1 dX1_pairs_26 hl (by decide) rfl (fun ls hl => ?_)
  refine lv_iload E.1 E.2.1 dX1_pairs_28 (lv_at hl 0 rfl) ?_
  refine lv_aload_n E.1 E.2.1 dX1_pairs_30 rfl (lv_at hl 2 rfl) ?_
  refine n_get E inR hK hP 0 rfl rfl 1 (by decide) flR_27 rfl rfl dX1_pairs_31 ?_
  refine n_icmp_ge (tgt := 118) E dX1_pairs_34 rfl (by omega) (by omega) (fun h34 => ?_) (fun h34 => ?_)
  · skip
    refine lv_iload_n E.1 E.2.1 dX1_pairs_118 rfl (lv_at hl 1 rfl) ?_
    exact e_wi E hr hlk hS () trivial hP dX1_pairs_119
  · skip
    refine lv_aload_n E.1 E.2.1 dX1_pairs_37 rfl (lv_at hl 2 rfl) ?_
    refine n_get E inR hK hP 0 rfl rfl 0 (by decide) flR_23 rfl rfl dX1_pairs_38 ?_
    refine n_if_ne (tgt := 118) E dX1_pairs_41 rfl (by decide) (fun _ => ?_) (fun h => absurd h (by decide))
    refine lv_iload_n E.1 E.2.1 dX1_pairs_118 rfl (lv_at hl 1 rfl) ?_
    exact e_wi E hr hlk hS () trivial hP dX1_pairs_119
set_option maxHeartbeats 4000000 in
set_option maxRecDepth 100000 in
theorem cR_pairs1o (l : Launch) (D : va_G) (ad : Nat → Nat) (ca : Nat → ClassId) (T : Nat → Nat → Int64) (n : Nat) (kc ko : Nat → Nat) (kv : Nat → Int64) (k cd : Nat) (c : Nat) (y : Int32) (hN : inj ad 5) (hn128 : n ≤ 128) (hc : c < 4) (hy : isC y = false) : Met l yX1_pairs (wA yX1_pairs cX1_pairs 6 (some .int)) (rN 2) (va_Pc [.ref (ad 0), .int (nI c), .int y] (pW D c2 (tR ca) (wR ad ca T n kc ko kv k cd))) (qI (fun z (_ : Unit) => True) D c2 (fun _ => wR ad ca T n kc ko kv k 1) (fA ad 5)) 0 0 (fA ad 5) := by
  refine met_of RX1 rfl (by decide) (Nat.le_of_ble_eq_true rfl) (fun p e s m below meth cd0 ls E hr hlk _ hB hl => ?_)
  obtain ⟨hP, hK⟩ := hB
  have hl : lv_has ls 6 [(0, .ref (ad 0)), (1, .int (nI c)), (2, .int y)] := hl
  have hS : va_S (fA ad 5) s.heap s.heap [] := va_S.rf
  refine lv_aload_n E.1 E.2.1 dX1_pairs_0 rfl (lv_at hl 0 rfl) ?_
  refine lv_iload_n E.1 E.2.1 dX1_pairs_1 rfl (lv_at hl 1 rfl) ?_
  refine cS_i E (As := [.int (nI c)]) (rest := [.ref (ad 0)]) (cR_isColumn l (nI c)) kR_30 rfl rfl ⟨Nat.le_of_ble_eq_true rfl, Nat.le_of_ble_eq_true rfl⟩ rfl hl.1 rfl (Nat.le_of_ble_eq_true rfl) dX1_pairs_2 ⟨Nat.zero_le _, Nat.zero_le _⟩ ?_
  refine tpi (y := bI true) (congrArg bI (isC_n (by omega))) ?_
  refine b_if_eq (tgt := 19) E dX1_pairs_5 rfl (fun h => Bool.noConfusion h) (fun _ => ?_)
  refine lv_iload_n E.1 E.2.1 dX1_pairs_8 rfl (lv_at hl 2 rfl) ?_
  refine cS_i E (As := [.int y]) (rest := [.ref (ad 0)]) (cR_isColumn l y) kR_30 rfl rfl ⟨Nat.le_of_ble_eq_true rfl, Nat.le_of_ble_eq_true rfl⟩ rfl hl.1 rfl (Nat.le_of_ble_eq_true rfl) dX1_pairs_9 ⟨Nat.zero_le _, Nat.zero_le _⟩ ?_
  refine tpi (y := bI false) (congrArg bI hy) ?_
  refine b_if_eq (tgt := 19) E dX1_pairs_12 rfl (fun _ => ?_) (fun h => Bool.noConfusion h)
  refine lv_iconst (v := nI 1) E.1 E.2.1 dX1_pairs_19 rfl ?_
  refine n_put E inR tyR1 tyR1_ok nmR1 hK hP (dW hN rfl) hS 0 rfl rfl 0 (by decide) flR_23 rfl rfl (tyR1_ok 0 (by decide)) (Nat.le_of_ble_eq_true rfl) dX1_pairs_20 (fun H locs hP hS => ?_)
  have hP : va_P D c2 (wR ad ca T n kc ko kv k 1) H := hP
  refine lv_iconst (v := nI 0) E.1 E.2.1 dX1_pairs_23 rfl ?_
  refine lv_istore_n (lv' := [(3, .int (nI 0)), (0, .ref (ad 0)), (1, .int (nI c)), (2, .int y)]) E.1 E.2.1 dX1_pairs_24 rfl hl (by decide) rfl (fun ls hl => ?_)
  refine lv_iconst (v := nI 0) E.1 E.2.1 dX1_pairs_25 rfl ?_
  refine lv_istore (lv' := [(4, .int (nI 0)), (3, .int (nI 0)), (0, .ref (ad 0)), (1, .int (nI c)), (2, .int y)]) E.1 E.2.1 dX1_pairs_26 hl (by decide) rfl (fun ls hl => ?_)
  refine lv_iload E.1 E.2.1 dX1_pairs_28 (lv_at hl 0 rfl) ?_
  refine lv_aload_n E.1 E.2.1 dX1_pairs_30 rfl (lv_at hl 2 rfl) ?_
  refine n_get E inR hK hP 0 rfl rfl 1 (by decide) flR_27 rfl rfl dX1_pairs_31 ?_
  refine n_icmp_ge (tgt := 118) E dX1_pairs_34 rfl (by omega) (by omega) (fun h34 => ?_) (fun h34 => ?_)
  · skip
    refine lv_iload_n E.1 E.2.1 dX1_pairs_118 rfl (lv_at hl 1 rfl) ?_
    exact e_wi E hr hlk hS () trivial hP dX1_pairs_119
  · skip
    refine lv_aload_n E.1 E.2.1 dX1_pairs_37 rfl (lv_at hl 2 rfl) ?_
    refine n_get E inR hK hP 0 rfl rfl 0 (by decide) flR_23 rfl rfl dX1_pairs_38 ?_
    refine n_if_ne (tgt := 118) E dX1_pairs_41 rfl (by decide) (fun _ => ?_) (fun h => absurd h (by decide))
    refine lv_iload_n E.1 E.2.1 dX1_pairs_118 rfl (lv_at hl 1 rfl) ?_
    exact e_wi E hr hlk hS () trivial hP dX1_pairs_119
set_option maxHeartbeats 4000000 in
set_option maxRecDepth 100000 in
theorem cR_purge (l : Launch) (D : va_G) (ad : Nat → Nat) (ca : Nat → ClassId) (T : Nat → Nat → Int64) (n : Nat) (kc ko : Nat → Nat) (kv : Nat → Int64) (k cd : Nat)  (hN : inj ad 5) (hIK : iK kc ko k) (hn128 : n ≤ 128) : Met l yX1_purge (wA yX1_purge cX1_purge 4 (some .int)) (rN 2) (va_Pc [.ref (ad 0)] (pW D c2 (tR ca) (wR ad ca T n kc ko kv k cd))) (qI (fun z (_ : Unit) => z = nI (ct (ch T kc ko kv k) n)) D c2 (fun _ => wR ad ca (pT (ch T kc ko kv k) T n) (n - ct (ch T kc ko kv k) n) kc ko kv k 0) (fA ad 5)) 0 0 (fA ad 5) := by
  refine met_of RX1 rfl (by decide) (Nat.le_of_ble_eq_true rfl) (fun p e s m below meth cd0 ls E hr hlk _ hB hl => ?_)
  obtain ⟨hP, hK⟩ := hB
  have hl : lv_has ls 4 [(0, .ref (ad 0))] := hl
  have hS : va_S (fA ad 5) s.heap s.heap [] := va_S.rf
  refine lv_aload_n E.1 E.2.1 dX1_purge_0 rfl (lv_at hl 0 rfl) ?_
  refine lv_iconst (v := nI 0) E.1 E.2.1 dX1_purge_1 rfl ?_
  refine n_put E inR tyR1 tyR1_ok nmR1 hK hP (dW hN rfl) hS 0 rfl rfl 0 (by decide) flR_23 rfl rfl (tyR1_ok 0 (by decide)) (Nat.le_of_ble_eq_true rfl) dX1_purge_2 (fun H locs hP hS => ?_)
  have hP : va_P D c2 (wR ad ca T n kc ko kv k 0) H := hP
  refine lv_iconst (v := nI 0) E.1 E.2.1 dX1_purge_5 rfl ?_
  refine lv_istore_n (lv' := [(1, .int (nI 0)), (0, .ref (ad 0))]) E.1 E.2.1 dX1_purge_6 rfl hl (by decide) rfl (fun ls hl => ?_)
  refine lv_iconst (v := nI 0) E.1 E.2.1 dX1_purge_7 rfl ?_
  refine lv_istore_n (lv' := [(2, .int (nI 0)), (1, .int (nI 0)), (0, .ref (ad 0))]) E.1 E.2.1 dX1_purge_8 rfl hl (by decide) rfl (fun ls hl => ?_)
  refine w_lq1 (fun (r : Nat) => r ≤ n) (fun (r : Nat) => n - r) (fun (r : Nat) => [(2, .int (nI r)), (1, .int (nI (r - ct (ch T kc ko kv k) r))), (0, .ref (ad 0))]) (fun (r : Nat) H locs => va_P D c2 (wR ad ca (pT (ch T kc ko kv k) T r) n kc ko kv k 0) H ∧ va_S (fA ad 5) s.heap H locs) 0 (Nat.zero_le _) ⟨hP, hS⟩ (lv_sub hl [0, 1, 2] rfl) (fun r ls H locs hI hB hl ih9 => ?_)
  obtain ⟨hP, hS⟩ := hB
  have hl : lv_has ls 4 [(2, .int (nI r)), (1, .int (nI (r - ct (ch T kc ko kv k) r))), (0, .ref (ad 0))] := hl
  have hP : va_P D c2 (wR ad ca (pT (ch T kc ko kv k) T r) n kc ko kv k 0) H := hP
  have hI9 := hI
  refine lv_iload_n E.1 E.2.1 dX1_purge_9 rfl (lv_at hl 0 rfl) ?_
  refine lv_aload_n E.1 E.2.1 dX1_purge_10 rfl (lv_at hl 2 rfl) ?_
  refine n_get E inR hK hP 0 rfl rfl 1 (by decide) flR_27 rfl rfl dX1_purge_11 ?_
  have hctr := ct_le (ch T kc ko kv k) r
  refine n_icmp_ge (tgt := 67) E dX1_purge_14 rfl (by omega) (by omega) (fun h14 => ?_) (fun h14 => ?_)
  · skip
    have e9 : n = r := by omega
    have hctn := ct_le (ch T kc ko kv k) n
    refine lv_aload_n E.1 E.2.1 dX1_purge_67 rfl (lv_at hl 2 rfl) ?_
    refine n_get E inR hK hP 0 rfl rfl 1 (by decide) flR_27 rfl rfl dX1_purge_68 ?_
    refine lv_iload_n E.1 E.2.1 dX1_purge_71 rfl (lv_at hl 1 rfl) ?_
    refine n_isub E (by omega) dX1_purge_72 ?_
    refine lv_istore_n (lv' := [(2, .int (nI (n - (r - ct (ch T kc ko kv k) r)))), (1, .int (nI (r - ct (ch T kc ko kv k) r))), (0, .ref (ad 0))]) E.1 E.2.1 dX1_purge_73 rfl hl (by decide) rfl (fun ls hl => ?_)
    refine lv_aload_n E.1 E.2.1 dX1_purge_74 rfl (lv_at hl 2 rfl) ?_
    refine lv_iload_n E.1 E.2.1 dX1_purge_75 rfl (lv_at hl 1 rfl) ?_
    refine n_put E inR tyR1 tyR1_ok nmR1 hK hP (dW hN rfl) hS 0 rfl rfl 1 (by decide) flR_27 rfl rfl (tyR1_ok 1 (by decide)) (Nat.le_of_ble_eq_true rfl) dX1_purge_76 (fun H locs hP hS => ?_)
    have hP : va_P D c2 (wR ad ca (pT (ch T kc ko kv k) T r) (r - ct (ch T kc ko kv k) r) kc ko kv k 0) H := hP
    refine lv_iload_n E.1 E.2.1 dX1_purge_79 rfl (lv_at hl 0 rfl) ?_
    exact e_wi E hr hlk hS () (congrArg nI (by rw [← e9]; omega)) (by rw [e9]; exact hP) dX1_purge_80
  · skip
    refine lv_aload_n E.1 E.2.1 dX1_purge_17 rfl (lv_at hl 2 rfl) ?_
    refine lv_iload_n E.1 E.2.1 dX1_purge_18 rfl (lv_at hl 0 rfl) ?_
    refine cV_i E (As := [.int (nI r)]) (rest := []) (cR_isChosen l D ad ca (pT (ch T kc ko kv k) T r) n kc ko kv k 0 r hIK (by omega)) kR_41 hK hP 0 rfl rfl rfl rfl ⟨Nat.le_of_ble_eq_true rfl, Nat.le_of_ble_eq_true rfl⟩ rfl hl.1 rfl (Nat.le_of_ble_eq_true rfl) dX1_purge_19 ⟨Nat.zero_le _, Nat.zero_le _⟩ ?_
    refine tpi (y := bI ((ch T kc ko kv k) r)) (congrArg bI (pT_ch r)) ?_
    refine b_if_ne (tgt := 61) E dX1_purge_22 rfl (fun h22 => ?_) (fun h22 => ?_)
    · skip
      refine lv_iinc (k := 0) (v := nI (r + 1)) (lv' := [(2, .int (nI (r + 1))), (1, .int (nI (r - ct (ch T kc ko kv k) r))), (0, .ref (ad 0))]) E.1 E.2.1 dX1_purge_61 hl rfl (inc1 _) (by decide) rfl (fun ls hl => ?_)
      refine lv_goto (tgt := 9) E.1 E.2.1 dX1_purge_64 rfl ?_
      rw [← pT_t h22] at hP
      rw [show r - ct (ch T kc ko kv k) r = r + 1 - ct (ch T kc ko kv k) (r + 1) by rw [ct_t h22]; omega] at hl
      exact ih9 (r + 1) _ _ _ (by omega) (by omega) ⟨hP, hS⟩ (lv_sub hl [0, 1, 2] rfl)
    · skip
      refine lv_iconst (v := nI 0) E.1 E.2.1 dX1_purge_25 rfl ?_
      refine lv_istore_n (lv' := [(3, .int (nI 0)), (2, .int (nI r)), (1, .int (nI (r - ct (ch T kc ko kv k) r))), (0, .ref (ad 0))]) E.1 E.2.1 dX1_purge_26 rfl hl (by decide) rfl (fun ls hl => ?_)
      rw [← mvR_0 (pT (ch T kc ko kv k) T r) r (r - ct (ch T kc ko kv k) r)] at hP
      refine w_lq1 (fun (d : Nat) => d ≤ 4) (fun (d : Nat) => 4 - d) (fun (d : Nat) => [(3, .int (nI d)), (2, .int (nI r)), (1, .int (nI (r - ct (ch T kc ko kv k) r))), (0, .ref (ad 0))]) (fun (d : Nat) H locs => va_P D c2 (wR ad ca (mvR (pT (ch T kc ko kv k) T r) r (r - ct (ch T kc ko kv k) r) d) n kc ko kv k 0) H ∧ va_S (fA ad 5) s.heap H locs) 0 (Nat.zero_le _) ⟨hP, hS⟩ (lv_sub hl [0, 1, 2, 3] rfl) (fun d ls H locs hI hB hl ih27 => ?_)
      obtain ⟨hP, hS⟩ := hB
      have hl : lv_has ls 4 [(3, .int (nI d)), (2, .int (nI r)), (1, .int (nI (r - ct (ch T kc ko kv k) r))), (0, .ref (ad 0))] := hl
      have hP : va_P D c2 (wR ad ca (mvR (pT (ch T kc ko kv k) T r) r (r - ct (ch T kc ko kv k) r) d) n kc ko kv k 0) H := hP
      refine lv_iload_n E.1 E.2.1 dX1_purge_27 rfl (lv_at hl 0 rfl) ?_
      refine lv_iconst (v := nI 4) E.1 E.2.1 dX1_purge_28 rfl ?_
      refine n_icmp_ge (tgt := 58) E dX1_purge_29 rfl (by omega) (by omega) (fun h29 => ?_) (fun h29 => ?_)
      · skip
        refine lv_iinc (k := 2) (v := nI (r - ct (ch T kc ko kv k) r + 1)) (lv' := [(1, .int (nI (r - ct (ch T kc ko kv k) r + 1))), (3, .int (nI d)), (2, .int (nI r)), (0, .ref (ad 0))]) E.1 E.2.1 dX1_purge_58 hl rfl (inc1 _) (by decide) rfl (fun ls hl => ?_)
        refine lv_iinc (k := 2) (v := nI (r + 1)) (lv' := [(2, .int (nI (r + 1))), (1, .int (nI (r - ct (ch T kc ko kv k) r + 1))), (3, .int (nI d)), (0, .ref (ad 0))]) E.1 E.2.1 dX1_purge_61 hl rfl (inc1 _) (by decide) rfl (fun ls hl => ?_)
        refine lv_goto (tgt := 9) E.1 E.2.1 dX1_purge_64 rfl ?_
        have e4 : d = 4 := by omega
        subst e4
        rw [← pT_f h22] at hP
        rw [show r - ct (ch T kc ko kv k) r + 1 = r + 1 - ct (ch T kc ko kv k) (r + 1) by rw [ct_f h22]; omega] at hl
        exact ih9 (r + 1) _ _ _ (by omega) (by omega) ⟨hP, hS⟩ (lv_sub hl [0, 1, 3] rfl)
      · skip
        refine lv_aload_n E.1 E.2.1 dX1_purge_32 rfl (lv_at hl 3 rfl) ?_
        refine n_get E inR hK hP 0 rfl rfl 2 (by decide) flR_7 rfl rfl dX1_purge_33 ?_
        refine lv_iconst (v := nI 4) E.1 E.2.1 dX1_purge_36 rfl ?_
        refine lv_iload_n E.1 E.2.1 dX1_purge_37 rfl (lv_at hl 2 rfl) ?_
        refine n_imul E dX1_purge_38 ?_
        refine lv_iload_n E.1 E.2.1 dX1_purge_39 rfl (lv_at hl 0 rfl) ?_
        refine n_iadd E dX1_purge_40 ?_
        refine lv_aload_n E.1 E.2.1 dX1_purge_41 rfl (lv_at hl 3 rfl) ?_
        refine n_get E inR hK hP 0 rfl rfl 2 (by decide) flR_7 rfl rfl dX1_purge_42 ?_
        refine lv_iconst (v := nI 4) E.1 E.2.1 dX1_purge_45 rfl ?_
        refine lv_iload_n E.1 E.2.1 dX1_purge_46 rfl (lv_at hl 1 rfl) ?_
        refine n_imul E dX1_purge_47 ?_
        refine lv_iload_n E.1 E.2.1 dX1_purge_48 rfl (lv_at hl 0 rfl) ?_
        refine n_iadd E dX1_purge_49 ?_
        refine n_rald E hK hP 1 0 rfl rfl r d (by omega) (by omega) (by omega) dX1_purge_50 ?_
        refine n_rast E hK hP (dW hN rfl) hS 1 0 rfl rfl (r - ct (ch T kc ko kv k) r) d (by omega) (by omega) (by omega) dX1_purge_51 (fun H locs hP hS => ?_)
        have hP : va_P D c2 (wR ad ca (tS (mvR (pT (ch T kc ko kv k) T r) r (r - ct (ch T kc ko kv k) r) d) (r - ct (ch T kc ko kv k) r) d (mvR (pT (ch T kc ko kv k) T r) r (r - ct (ch T kc ko kv k) r) d r d)) n kc ko kv k 0) H := hP
        refine lv_iinc (k := 0) (v := nI (d + 1)) (lv' := [(3, .int (nI (d + 1))), (2, .int (nI r)), (1, .int (nI (r - ct (ch T kc ko kv k) r))), (0, .ref (ad 0))]) E.1 E.2.1 dX1_purge_52 hl rfl (inc1 _) (by decide) rfl (fun ls hl => ?_)
        refine lv_goto (tgt := 27) E.1 E.2.1 dX1_purge_55 rfl ?_
        rw [mvR_s] at hP
        exact ih27 (d + 1) _ _ _ (by omega) (by omega) ⟨hP, hS⟩ (lv_sub hl [0, 1, 2, 3] rfl)
