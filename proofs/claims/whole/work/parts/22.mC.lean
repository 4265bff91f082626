/-! Contracts of the model: laid by program (wip/whole/gen.py). -/
set_option maxHeartbeats 4000000 in
set_option maxRecDepth 100000 in
theorem cR_ranked (l : Launch) (D : va_G) (ad : Nat → Nat) (ca : Nat → ClassId) (T : Nat → Nat → Int64) (n : Nat) (kc ko : Nat → Nat) (kv : Nat → Int64) (k cd : Nat) (c i r : Nat) (hN : inj ad 5) (hIK : iK kc ko k) (hn128 : n ≤ 128) (hc : c < 4) (hi0 : i ≤ 128) (hr0 : r < n) (hPr : (ch T kc ko kv k) r = true) (hri : ct (fun u => (ch T kc ko kv k) u && bfb T c true u r) n = i) (hru : ∀ t, t < n → (ch T kc ko kv k) t = true → ct (fun u => (ch T kc ko kv k) u && bfb T c true u t) n = i → t = r) : Met l yX1_ranked (wA yX1_ranked cX1_ranked 10 (some .int)) (rN 2) (va_Pc [.ref (ad 0), .int (nI c), .int (nI i)] (pW D c2 (tR ca) (wR ad ca T n kc ko kv k cd))) (qI (fun z (_ : Unit) => z = nI r) D c2 (fun _ => wR ad ca T n kc ko kv k 0) (fA ad 5)) 0 0 (fA ad 5) := by
  refine met_of RX1 rfl (by decide) (Nat.le_of_ble_eq_true rfl) (fun p e s m below meth cd0 ls E hr hlk _ hB hl => ?_)
  obtain ⟨hP, hK⟩ := hB
  have hl : lv_has ls 10 [(0, .ref (ad 0)), (1, .int (nI c)), (2, .int (nI i))] := hl
  have hS : va_S (fA ad 5) s.heap s.heap [] := va_S.rf
  refine lv_aload_n E.1 E.2.1 dX1_ranked_0 rfl (lv_at hl 0 rfl) ?_
  refine lv_iload_n E.1 E.2.1 dX1_ranked_1 rfl (lv_at hl 1 rfl) ?_
  refine cS_i E (As := [.int (nI c)]) (rest := [.ref (ad 0)]) (cR_isColumn l (nI c)) kR_30 rfl rfl ⟨Nat.le_of_ble_eq_true rfl, Nat.le_of_ble_eq_true rfl⟩ rfl hl.1 rfl (Nat.le_of_ble_eq_true rfl) dX1_ranked_2 ⟨Nat.zero_le _, Nat.zero_le _⟩ ?_
  refine tpi (y := bI true) (congrArg bI (isC_n (by omega))) ?_
  refine b_if_ne (tgt := 12) E dX1_ranked_5 rfl (fun _ => ?_) (fun h => Bool.noConfusion h)
  refine lv_iconst (v := nI 0) E.1 E.2.1 dX1_ranked_12 rfl ?_
  refine n_put E inR tyR1 tyR1_ok nmR1 hK hP (dW hN rfl) hS 0 rfl rfl 0 (by decide) flR_23 rfl rfl (tyR1_ok 0 (by decide)) (Nat.le_of_ble_eq_true rfl) dX1_ranked_13 (fun H locs hP hS => ?_)
  have hP : va_P D c2 (wR ad ca T n kc ko kv k 0) H := hP
  refine lv_aload_n E.1 E.2.1 dX1_ranked_16 rfl (lv_at hl 0 rfl) ?_
  refine n_get E inR hK hP 0 rfl rfl 0 (by decide) flR_23 rfl rfl dX1_ranked_17 ?_
  refine n_if_le (tgt := 25) E dX1_ranked_20 rfl (by decide) (fun _ => ?_) (fun h => absurd h (by decide))
  refine lv_iconst (v := nI 0) E.1 E.2.1 dX1_ranked_25 rfl ?_
  refine lv_istore_n (lv' := [(3, .int (nI 0)), (0, .ref (ad 0)), (1, .int (nI c)), (2, .int (nI i))]) E.1 E.2.1 dX1_ranked_26 rfl hl (by decide) rfl (fun ls hl => ?_)
  refine w_lp1 (fun (t : Nat) => t ≤ r) (fun (t : Nat) => n - t) (fun (t : Nat) => [(3, .int (nI t)), (0, .ref (ad 0)), (1, .int (nI c)), (2, .int (nI i))]) 0 (Nat.zero_le _) (lv_sub hl [0, 1, 2, 3] rfl) (fun t ls hI hl ih27 => ?_)
  have hl : lv_has ls 10 [(3, .int (nI t)), (0, .ref (ad 0)), (1, .int (nI c)), (2, .int (nI i))] := hl
  have hI27 := hI
  refine lv_iload_n E.1 E.2.1 dX1_ranked_27 rfl (lv_at hl 0 rfl) ?_
  refine lv_aload_n E.1 E.2.1 dX1_ranked_28 rfl (lv_at hl 1 rfl) ?_
  refine n_get E inR hK hP 0 rfl rfl 1 (by decide) flR_27 rfl rfl dX1_ranked_29 ?_
  refine n_icmp_ge (tgt := 144) E dX1_ranked_32 rfl (by omega) (by omega) (fun h32 => ?_) (fun h32 => ?_)
  · skip
    exfalso; omega
  · skip
    refine lv_iconst (v := nI 0) E.1 E.2.1 dX1_ranked_35 rfl ?_
    refine lv_istore (lv' := [(4, .int (nI 0)), (3, .int (nI t)), (0, .ref (ad 0)), (1, .int (nI c)), (2, .int (nI i))]) E.1 E.2.1 dX1_ranked_36 hl (by decide) rfl (fun ls hl => ?_)
    refine lv_iconst (v := nI 0) E.1 E.2.1 dX1_ranked_38 rfl ?_
    refine lv_istore (lv' := [(5, .int (nI 0)), (4, .int (nI 0)), (3, .int (nI t)), (0, .ref (ad 0)), (1, .int (nI c)), (2, .int (nI i))]) E.1 E.2.1 dX1_ranked_39 hl (by decide) rfl (fun ls hl => ?_)
    refine w_lp1 (fun (u : Nat) => u ≤ n) (fun (u : Nat) => n - u) (fun (u : Nat) => [(5, .int (nI u)), (4, .int (nI (ct (fun u => (ch T kc ko kv k) u && bfb T c true u t) u))), (3, .int (nI t)), (0, .ref (ad 0)), (1, .int (nI c)), (2, .int (nI i))]) 0 (Nat.zero_le _) (lv_sub hl [0, 1, 2, 3, 4, 5] rfl) (fun u ls hI hl ih41 => ?_)
    have hl : lv_has ls 10 [(5, .int (nI u)), (4, .int (nI (ct (fun u => (ch T kc ko kv k) u && bfb T c true u t) u))), (3, .int (nI t)), (0, .ref (ad 0)), (1, .int (nI c)), (2, .int (nI i))] := hl
    refine lv_iload E.1 E.2.1 dX1_ranked_41 (lv_at hl 0 rfl) ?_
    refine lv_aload_n E.1 E.2.1 dX1_ranked_43 rfl (lv_at hl 3 rfl) ?_
    refine n_get E inR hK hP 0 rfl rfl 1 (by decide) flR_27 rfl rfl dX1_ranked_44 ?_
    refine n_icmp_ge (tgt := 122) E dX1_ranked_47 rfl (by omega) (by omega) (fun h47 => ?_) (fun h47 => ?_)
    · skip
      have e9 : u = n := by omega
      rw [e9] at hl
      have hctn := ct_le (fun u => (ch T kc ko kv k) u && bfb T c true u t) n
      refine lv_aload_n E.1 E.2.1 dX1_ranked_122 rfl (lv_at hl 3 rfl) ?_
      refine lv_iload_n E.1 E.2.1 dX1_ranked_123 rfl (lv_at hl 2 rfl) ?_
      refine cV_i E (As := [.int (nI t)]) (rest := []) (cR_isChosen l D ad ca T n kc ko kv k 0 t hIK (by omega)) kR_41 hK hP 0 rfl rfl rfl rfl ⟨Nat.le_of_ble_eq_true rfl, Nat.le_of_ble_eq_true rfl⟩ rfl hl.1 rfl (Nat.le_of_ble_eq_true rfl) dX1_ranked_124 ⟨Nat.zero_le _, Nat.zero_le _⟩ ?_
      refine b_if_eq (tgt := 138) E dX1_ranked_127 rfl (fun h127 => ?_) (fun h127 => ?_)
      · skip
        refine lv_iinc (k := 2) (v := nI (t + 1)) (lv' := [(3, .int (nI (t + 1))), (5, .int (nI n)), (4, .int (nI (ct (fun u => (ch T kc ko kv k) u && bfb T c true u t) n))), (0, .ref (ad 0)), (1, .int (nI c)), (2, .int (nI i))]) E.1 E.2.1 dX1_ranked_138 hl rfl (inc1 _) (by decide) rfl (fun ls hl => ?_)
        refine lv_goto (tgt := 27) E.1 E.2.1 dX1_ranked_141 rfl ?_
        exact ih27 (t + 1) _ (lt_of_ne_le hI27 (fun e => by rw [e, hPr] at h127; cases h127)) (by omega) (lv_sub hl [0, 3, 4, 5] rfl)
      · skip
        refine lv_iload E.1 E.2.1 dX1_ranked_130 (lv_at hl 1 rfl) ?_
        refine lv_iload_n E.1 E.2.1 dX1_ranked_132 rfl (lv_at hl 5 rfl) ?_
        refine n_icmp_ne (tgt := 138) E dX1_ranked_133 rfl (by omega) (by omega) (fun h133 => ?_) (fun h133 => ?_)
        · skip
          refine lv_iinc (k := 2) (v := nI (t + 1)) (lv' := [(3, .int (nI (t + 1))), (5, .int (nI n)), (4, .int (nI (ct (fun u => (ch T kc ko kv k) u && bfb T c true u t) n))), (0, .ref (ad 0)), (1, .int (nI c)), (2, .int (nI i))]) E.1 E.2.1 dX1_ranked_138 hl rfl (inc1 _) (by decide) rfl (fun ls hl => ?_)
          refine lv_goto (tgt := 27) E.1 E.2.1 dX1_ranked_141 rfl ?_
          exact ih27 (t + 1) _ (lt_of_ne_le hI27 (fun e => h133 (by rw [e]; exact hri))) (by omega) (lv_sub hl [0, 3, 4, 5] rfl)
        · skip
          refine lv_iload_n E.1 E.2.1 dX1_ranked_136 rfl (lv_at hl 2 rfl) ?_
          exact e_wi E hr hlk hS () (congrArg nI (hru t (by omega) h127 h133)) hP dX1_ranked_137
    · skip
      refine lv_aload_n E.1 E.2.1 dX1_ranked_50 rfl (lv_at hl 3 rfl) ?_
      refine n_get E inR hK hP 0 rfl rfl 2 (by decide) flR_7 rfl rfl dX1_ranked_51 ?_
      refine lv_iconst (v := nI 4) E.1 E.2.1 dX1_ranked_54 rfl ?_
      refine lv_iload E.1 E.2.1 dX1_ranked_55 (lv_at hl 0 rfl) ?_
      refine n_imul E dX1_ranked_57 ?_
      refine lv_iload_n E.1 E.2.1 dX1_ranked_58 rfl (lv_at hl 4 rfl) ?_
      refine n_iadd E dX1_ranked_59 ?_
      refine n_rald E hK hP 1 0 rfl rfl u c (by omega) (by omega) (by omega) dX1_ranked_60 ?_
      refine lv_lstore (lv' := [(6, .long (T u c)), (5, .int (nI u)), (4, .int (nI (ct (fun u => (ch T kc ko kv k) u && bfb T c true u t) u))), (3, .int (nI t)), (0, .ref (ad 0)), (1, .int (nI c)), (2, .int (nI i))]) E.1 E.2.1 dX1_ranked_61 hl (by decide) rfl (fun ls hl => ?_)
      refine lv_aload_n E.1 E.2.1 dX1_ranked_63 rfl (lv_at hl 4 rfl) ?_
      refine n_get E inR hK hP 0 rfl rfl 2 (by decide) flR_7 rfl rfl dX1_ranked_64 ?_
      refine lv_iconst (v := nI 4) E.1 E.2.1 dX1_ranked_67 rfl ?_
      refine lv_iload_n E.1 E.2.1 dX1_ranked_68 rfl (lv_at hl 3 rfl) ?_
      refine n_imul E dX1_ranked_69 ?_
      refine lv_iload_n E.1 E.2.1 dX1_ranked_70 rfl (lv_at hl 5 rfl) ?_
      refine n_iadd E dX1_ranked_71 ?_
      refine n_rald E hK hP 1 0 rfl rfl t c (by omega) (by omega) (by omega) dX1_ranked_72 ?_
      refine lv_lstore (lv' := [(8, .long (T t c)), (6, .long (T u c)), (5, .int (nI u)), (4, .int (nI (ct (fun u => (ch T kc ko kv k) u && bfb T c true u t) u))), (3, .int (nI t)), (0, .ref (ad 0)), (1, .int (nI c)), (2, .int (nI i))]) E.1 E.2.1 dX1_ranked_73 hl (by decide) rfl (fun ls hl => ?_)
      refine lv_iload E.1 E.2.1 dX1_ranked_75 (lv_at hl 3 rfl) ?_
      refine lv_aload_n E.1 E.2.1 dX1_ranked_77 rfl (lv_at hl 5 rfl) ?_
      refine lv_iload E.1 E.2.1 dX1_ranked_78 (lv_at hl 2 rfl) ?_
      refine cV_i E (As := [.int (nI u)]) (rest := [.int (nI (ct (fun u => (ch T kc ko kv k) u && bfb T c true u t) u))]) (cR_isChosen l D ad ca T n kc ko kv k 0 u hIK (by omega)) kR_41 hK hP 0 rfl rfl rfl rfl ⟨Nat.le_of_ble_eq_true rfl, Nat.le_of_ble_eq_true rfl⟩ rfl hl.1 rfl (Nat.le_of_ble_eq_true rfl) dX1_ranked_80 ⟨Nat.zero_le _, Nat.zero_le _⟩ ?_
      refine b_if_eq (tgt := 112) E dX1_ranked_83 rfl (fun h83 => ?_) (fun h83 => ?_)
      · skip
        refine lv_iconst (v := nI 0) E.1 E.2.1 dX1_ranked_112 rfl ?_
        refine n_iadd E dX1_ranked_113 ?_
        refine lv_istore (lv' := [(4, .int (nI (ct (fun u => (ch T kc ko kv k) u && bfb T c true u t) u + 0))), (8, .long (T t c)), (6, .long (T u c)), (5, .int (nI u)), (3, .int (nI t)), (0, .ref (ad 0)), (1, .int (nI c)), (2, .int (nI i))]) E.1 E.2.1 dX1_ranked_114 hl (by decide) rfl (fun ls hl => ?_)
        refine lv_iinc (k := 3) (v := nI (u + 1)) (lv' := [(5, .int (nI (u + 1))), (4, .int (nI (ct (fun u => (ch T kc ko kv k) u && bfb T c true u t) u + 0))), (8, .long (T t c)), (6, .long (T u c)), (3, .int (nI t)), (0, .ref (ad 0)), (1, .int (nI c)), (2, .int (nI i))]) E.1 E.2.1 dX1_ranked_116 hl rfl (inc1 _) (by decide) rfl (fun ls hl => ?_)
        refine lv_goto (tgt := 41) E.1 E.2.1 dX1_ranked_119 rfl ?_
        rw [← ct_f (p := (fun u => (ch T kc ko kv k) u && bfb T c true u t)) (by simp [bfb, bef, h83])] at hl
        exact ih41 (u + 1) _ (by omega) (by omega) (lv_sub hl [0, 1, 4, 5, 6, 7] rfl)
      · skip
        refine lv_lload E.1 E.2.1 dX1_ranked_86 (lv_at hl 1 rfl) ?_
        refine lv_lload E.1 E.2.1 dX1_ranked_88 (lv_at hl 0 rfl) ?_
        refine l_if_gt (tgt := 108) E dX1_ranked_90 dX1_ranked_91 rfl (fun h90 => ?_) (fun h90 => ?_)
        · skip
          refine lv_iconst (v := nI 1) E.1 E.2.1 dX1_ranked_108 rfl ?_
          refine lv_goto (tgt := 113) E.1 E.2.1 dX1_ranked_109 rfl ?_
          refine n_iadd E dX1_ranked_113 ?_
          refine lv_istore (lv' := [(4, .int (nI (ct (fun u => (ch T kc ko kv k) u && bfb T c true u t) u + 1))), (8, .long (T t c)), (6, .long (T u c)), (5, .int (nI u)), (3, .int (nI t)), (0, .ref (ad 0)), (1, .int (nI c)), (2, .int (nI i))]) E.1 E.2.1 dX1_ranked_114 hl (by decide) rfl (fun ls hl => ?_)
          refine lv_iinc (k := 3) (v := nI (u + 1)) (lv' := [(5, .int (nI (u + 1))), (4, .int (nI (ct (fun u => (ch T kc ko kv k) u && bfb T c true u t) u + 1))), (8, .long (T t c)), (6, .long (T u c)), (3, .int (nI t)), (0, .ref (ad 0)), (1, .int (nI c)), (2, .int (nI i))]) E.1 E.2.1 dX1_ranked_116 hl rfl (inc1 _) (by decide) rfl (fun ls hl => ?_)
          refine lv_goto (tgt := 41) E.1 E.2.1 dX1_ranked_119 rfl ?_
          rw [← ct_t (p := (fun u => (ch T kc ko kv k) u && bfb T c true u t)) (by simp [bfb, bef, h83, h90])] at hl
          exact ih41 (u + 1) _ (by omega) (by omega) (lv_sub hl [0, 1, 4, 5, 6, 7] rfl)
        · skip
          refine lv_lload E.1 E.2.1 dX1_ranked_94 (lv_at hl 1 rfl) ?_
          refine lv_lload E.1 E.2.1 dX1_ranked_96 (lv_at hl 0 rfl) ?_
          refine l_if_ne (tgt := 112) E dX1_ranked_98 dX1_ranked_99 rfl (fun h98 => ?_) (fun h98 => ?_)
          · skip
            refine lv_iconst (v := nI 0) E.1 E.2.1 dX1_ranked_112 rfl ?_
            refine n_iadd E dX1_ranked_113 ?_
            refine lv_istore (lv' := [(4, .int (nI (ct (fun u => (ch T kc ko kv k) u && bfb T c true u t) u + 0))), (8, .long (T t c)), (6, .long (T u c)), (5, .int (nI u)), (3, .int (nI t)), (0, .ref (ad 0)), (1, .int (nI c)), (2, .int (nI i))]) E.1 E.2.1 dX1_ranked_114 hl (by decide) rfl (fun ls hl => ?_)
            refine lv_iinc (k := 3) (v := nI (u + 1)) (lv' := [(5, .int (nI (u + 1))), (4, .int (nI (ct (fun u => (ch T kc ko kv k) u && bfb T c true u t) u + 0))), (8, .long (T t c)), (6, .long (T u c)), (3, .int (nI t)), (0, .ref (ad 0)), (1, .int (nI c)), (2, .int (nI i))]) E.1 E.2.1 dX1_ranked_116 hl rfl (inc1 _) (by decide) rfl (fun ls hl => ?_)
            refine lv_goto (tgt := 41) E.1 E.2.1 dX1_ranked_119 rfl ?_
            rw [← ct_f (p := (fun u => (ch T kc ko kv k) u && bfb T c true u t)) (by simp [bfb, bef, h83, h90, h98])] at hl
            exact ih41 (u + 1) _ (by omega) (by omega) (lv_sub hl [0, 1, 4, 5, 6, 7] rfl)
          · skip
            refine lv_iload E.1 E.2.1 dX1_ranked_102 (lv_at hl 2 rfl) ?_
            refine lv_iload_n E.1 E.2.1 dX1_ranked_104 rfl (lv_at hl 4 rfl) ?_
            refine n_icmp_ge (tgt := 112) E dX1_ranked_105 rfl (by omega) (by omega) (fun h105 => ?_) (fun h105 => ?_)
            · skip
              refine lv_iconst (v := nI 0) E.1 E.2.1 dX1_ranked_112 rfl ?_
              refine n_iadd E dX1_ranked_113 ?_
              refine lv_istore (lv' := [(4, .int (nI (ct (fun u => (ch T kc ko kv k) u && bfb T c true u t) u + 0))), (8, .long (T t c)), (6, .long (T u c)), (5, .int (nI u)), (3, .int (nI t)), (0, .ref (ad 0)), (1, .int (nI c)), (2, .int (nI i))]) E.1 E.2.1 dX1_ranked_114 hl (by decide) rfl (fun ls hl => ?_)
              refine lv_iinc (k := 3) (v := nI (u + 1)) (lv' := [(5, .int (nI (u + 1))), (4, .int (nI (ct (fun u => (ch T kc ko kv k) u && bfb T c true u t) u + 0))), (8, .long (T t c)), (6, .long (T u c)), (3, .int (nI t)), (0, .ref (ad 0)), (1, .int (nI c)), (2, .int (nI i))]) E.1 E.2.1 dX1_ranked_116 hl rfl (inc1 _) (by decide) rfl (fun ls hl => ?_)
              refine lv_goto (tgt := 41) E.1 E.2.1 dX1_ranked_119 rfl ?_
              rw [← ct_f (p := (fun u => (ch T kc ko kv k) u && bfb T c true u t)) (by simp [bfb, bef, h83, h90, h98, h105, show ¬ u < t by omega])] at hl
              exact ih41 (u + 1) _ (by omega) (by omega) (lv_sub hl [0, 1, 4, 5, 6, 7] rfl)
            · skip
              refine lv_iconst (v := nI 1) E.1 E.2.1 dX1_ranked_108 rfl ?_
              refine lv_goto (tgt := 113) E.1 E.2.1 dX1_ranked_109 rfl ?_
              refine n_iadd E dX1_ranked_113 ?_
              refine lv_istore (lv' := [(4, .int (nI (ct (fun u => (ch T kc ko kv k) u && bfb T c true u t) u + 1))), (8, .long (T t c)), (6, .long (T u c)), (5, .int (nI u)), (3, .int (nI t)), (0, .ref (ad 0)), (1, .int (nI c)), (2, .int (nI i))]) E.1 E.2.1 dX1_ranked_114 hl (by decide) rfl (fun ls hl => ?_)
              refine lv_iinc (k := 3) (v := nI (u + 1)) (lv' := [(5, .int (nI (u + 1))), (4, .int (nI (ct (fun u => (ch T kc ko kv k) u && bfb T c true u t) u + 1))), (8, .long (T t c)), (6, .long (T u c)), (3, .int (nI t)), (0, .ref (ad 0)), (1, .int (nI c)), (2, .int (nI i))]) E.1 E.2.1 dX1_ranked_116 hl rfl (inc1 _) (by decide) rfl (fun ls hl => ?_)
              refine lv_goto (tgt := 41) E.1 E.2.1 dX1_ranked_119 rfl ?_
              rw [← ct_t (p := (fun u => (ch T kc ko kv k) u && bfb T c true u t)) (by simp [bfb, bef, h83, h90, h98, h105])] at hl
              exact ih41 (u + 1) _ (by omega) (by omega) (lv_sub hl [0, 1, 4, 5, 6, 7] rfl)
set_option maxHeartbeats 4000000 in
set_option maxRecDepth 100000 in
theorem cR_ranked2 (l : Launch) (D : va_G) (ad : Nat → Nat) (ca : Nat → ClassId) (T : Nat → Nat → Int64) (n : Nat) (kc ko : Nat → Nat) (kv : Nat → Int64) (k cd : Nat) (c : Nat) (x : Int32) (hN : inj ad 5) (hIK : iK kc ko k) (hn128 : n ≤ 128) (hc : c < 4) (hx : ∀ t, t < n → (ch T kc ko kv k) t = true → nI (ct (fun u => (ch T kc ko kv k) u && bfb T c true u t) n) ≠ x) : Met l yX1_ranked (wA yX1_ranked cX1_ranked 10 (some .int)) (rN 2) (va_Pc [.ref (ad 0), .int (nI c), .int x] (pW D c2 (tR ca) (wR ad ca T n kc ko kv k cd))) (qI (fun z (_ : Unit) => True) D c2 (fun _ => wR ad ca T n kc ko kv k 2) (fA ad 5)) 0 0 (fA ad 5) := by
  refine met_of RX1 rfl (by decide) (Nat.le_of_ble_eq_true rfl) (fun p e s m below meth cd0 ls E hr hlk _ hB hl => ?_)
  obtain ⟨hP, hK⟩ := hB
  have hl : lv_has ls 10 [(0, .ref (ad 0)), (1, .int (nI c)), (2, .int x)] := hl
  have hS : va_S (fA ad 5) s.heap s.heap [] := va_S.rf
  refine lv_aload_n E.1 E.2.1 dX1_ranked_0 rfl (lv_at hl 0 rfl) ?_
  refine lv_iload_n E.1 E.2.1 dX1_ranked_1 rfl (lv_at hl 1 rfl) ?_
  refine cS_i E (As := [.int (nI c)]) (rest := [.ref (ad 0)]) (cR_isColumn l (nI c)) kR_30 rfl rfl ⟨Nat.le_of_ble_eq_true rfl, Nat.le_of_ble_eq_true rfl⟩ rfl hl.1 rfl (Nat.le_of_ble_eq_true rfl) dX1_ranked_2 ⟨Nat.zero_le _, Nat.zero_le _⟩ ?_
  refine tpi (y := bI true) (congrArg bI (isC_n (by omega))) ?_
  refine b_if_ne (tgt := 12) E dX1_ranked_5 rfl (fun _ => ?_) (fun h => Bool.noConfusion h)
  refine lv_iconst (v := nI 0) E.1 E.2.1 dX1_ranked_12 rfl ?_
  refine n_put E inR tyR1 tyR1_ok nmR1 hK hP (dW hN rfl) hS 0 rfl rfl 0 (by decide) flR_23 rfl rfl (tyR1_ok 0 (by decide)) (Nat.le_of_ble_eq_true rfl) dX1_ranked_13 (fun H locs hP hS => ?_)
  have hP : va_P D c2 (wR ad ca T n kc ko kv k 0) H := hP
  refine lv_aload_n E.1 E.2.1 dX1_ranked_16 rfl (lv_at hl 0 rfl) ?_
  refine n_get E inR hK hP 0 rfl rfl 0 (by decide) flR_23 rfl rfl dX1_ranked_17 ?_
  refine n_if_le (tgt := 25) E dX1_ranked_20 rfl (by decide) (fun _ => ?_) (fun h => absurd h (by decide))
  refine lv_iconst (v := nI 0) E.1 E.2.1 dX1_ranked_25 rfl ?_
  refine lv_istore_n (lv' := [(3, .int (nI 0)), (0, .ref (ad 0)), (1, .int (nI c)), (2, .int x)]) E.1 E.2.1 dX1_ranked_26 rfl hl (by decide) rfl (fun ls hl => ?_)
  refine w_lp1 (fun (t : Nat) => t ≤ n) (fun (t : Nat) => n - t) (fun (t : Nat) => [(3, .int (nI t)), (0, .ref (ad 0)), (1, .int (nI c)), (2, .int x)]) 0 (Nat.zero_le _) (lv_sub hl [0, 1, 2, 3] rfl) (fun t ls hI hl ih27 => ?_)
  have hl : lv_has ls 10 [(3, .int (nI t)), (0, .ref (ad 0)), (1, .int (nI c)), (2, .int x)] := hl
  have hI27 := hI
  refine lv_iload_n E.1 E.2.1 dX1_ranked_27 rfl (lv_at hl 0 rfl) ?_
  refine lv_aload_n E.1 E.2.1 dX1_ranked_28 rfl (lv_at hl 1 rfl) ?_
  refine n_get E inR hK hP 0 rfl rfl 1 (by decide) flR_27 rfl rfl dX1_ranked_29 ?_
  refine n_icmp_ge (tgt := 144) E dX1_ranked_32 rfl (by omega) (by omega) (fun h32 => ?_) (fun h32 => ?_)
  · skip
    refine lv_aload_n E.1 E.2.1 dX1_ranked_144 rfl (lv_at hl 1 rfl) ?_
    refine lv_iconst (v := nI 2) E.1 E.2.1 dX1_ranked_145 rfl ?_
    refine n_put E inR tyR1 tyR1_ok nmR1 hK hP (dW hN rfl) hS 0 rfl rfl 0 (by decide) flR_23 rfl rfl (tyR1_ok 0 (by decide)) (Nat.le_of_ble_eq_true rfl) dX1_ranked_146 (fun H locs hP hS => ?_)
    have hP : va_P D c2 (wR ad ca T n kc ko kv k 2) H := hP
    refine lv_iconst (v := nI 0) E.1 E.2.1 dX1_ranked_149 rfl ?_
    exact e_wi E hr hlk hS () trivial hP dX1_ranked_150
  · skip
    refine lv_iconst (v := nI 0) E.1 E.2.1 dX1_ranked_35 rfl ?_
    refine lv_istore (lv' := [(4, .int (nI 0)), (3, .int (nI t)), (0, .ref (ad 0)), (1, .int (nI c)), (2, .int x)]) E.1 E.2.1 dX1_ranked_36 hl (by decide) rfl (fun ls hl => ?_)
    refine lv_iconst (v := nI 0) E.1 E.2.1 dX1_ranked_38 rfl ?_
    refine lv_istore (lv' := [(5, .int (nI 0)), (4, .int (nI 0)), (3, .int (nI t)), (0, .ref (ad 0)), (1, .int (nI c)), (2, .int x)]) E.1 E.2.1 dX1_ranked_39 hl (by decide) rfl (fun ls hl => ?_)
    refine w_lp1 (fun (u : Nat) => u ≤ n) (fun (u : Nat) => n - u) (fun (u : Nat) => [(5, .int (nI u)), (4, .int (nI (ct (fun u => (ch T kc ko kv k) u && bfb T c true u t) u))), (3, .int (nI t)), (0, .ref (ad 0)), (1, .int (nI c)), (2, .int x)]) 0 (Nat.zero_le _) (lv_sub hl [0, 1, 2, 3, 4, 5] rfl) (fun u ls hI hl ih41 => ?_)
    have hl : lv_has ls 10 [(5, .int (nI u)), (4, .int (nI (ct (fun u => (ch T kc ko kv k) u && bfb T c true u t) u))), (3, .int (nI t)), (0, .ref (ad 0)), (1, .int (nI c)), (2, .int x)] := hl
    refine lv_iload E.1 E.2.1 dX1_ranked_41 (lv_at hl 0 rfl) ?_
    refine lv_aload_n E.1 E.2.1 dX1_ranked_43 rfl (lv_at hl 3 rfl) ?_
    refine n_get E inR hK hP 0 rfl rfl 1 (by decide) flR_27 rfl rfl dX1_ranked_44 ?_
    refine n_icmp_ge (tgt := 122) E dX1_ranked_47 rfl (by omega) (by omega) (fun h47 => ?_) (fun h47 => ?_)
    · skip
      have e9 : u = n := by omega
      rw [e9] at hl
      have hctn := ct_le (fun u => (ch T kc ko kv k) u && bfb T c true u t) n
      refine lv_aload_n E.1 E.2.1 dX1_ranked_122 rfl (lv_at hl 3 rfl) ?_
      refine lv_iload_n E.1 E.2.1 dX1_ranked_123 rfl (lv_at hl 2 rfl) ?_
      refine cV_i E (As := [.int (nI t)]) (rest := []) (cR_isChosen l D ad ca T n kc ko kv k 0 t hIK (by omega)) kR_41 hK hP 0 rfl rfl rfl rfl ⟨Nat.le_of_ble_eq_true rfl, Nat.le_of_ble_eq_true rfl⟩ rfl hl.1 rfl (Nat.le_of_ble_eq_true rfl) dX1_ranked_124 ⟨Nat.zero_le _, Nat.zero_le _⟩ ?_
      refine b_if_eq (tgt := 138) E dX1_ranked_127 rfl (fun h127 => ?_) (fun h127 => ?_)
      · skip
        refine lv_iinc (k := 2) (v := nI (t + 1)) (lv' := [(3, .int (nI (t + 1))), (5, .int (nI n)), (4, .int (nI (ct (fun u => (ch T kc ko kv k) u && bfb T c true u t) n))), (0, .ref (ad 0)), (1, .int (nI c)), (2, .int x)]) E.1 E.2.1 dX1_ranked_138 hl rfl (inc1 _) (by decide) rfl (fun ls hl => ?_)
        refine lv_goto (tgt := 27) E.1 E.2.1 dX1_ranked_141 rfl ?_
        exact ih27 (t + 1) _ (by omega) (by omega) (lv_sub hl [0, 3, 4, 5] rfl)
      · skip
        refine lv_iload E.1 E.2.1 dX1_ranked_130 (lv_at hl 1 rfl) ?_
        refine lv_iload_n E.1 E.2.1 dX1_ranked_132 rfl (lv_at hl 5 rfl) ?_
        refine lv_icmp_ne (tgt := 138) E.1 E.2.1 dX1_ranked_133 rfl (fun h133 => ?_) (fun h133 => ?_)
        · skip
          refine lv_iinc (k := 2) (v := nI (t + 1)) (lv' := [(3, .int (nI (t + 1))), (5, .int (nI n)), (4, .int (nI (ct (fun u => (ch T kc ko kv k) u && bfb T c true u t) n))), (0, .ref (ad 0)), (1, .int (nI c)), (2, .int x)]) E.1 E.2.1 dX1_ranked_138 hl rfl (inc1 _) (by decide) rfl (fun ls hl => ?_)
          refine lv_goto (tgt := 27) E.1 E.2.1 dX1_ranked_141 rfl ?_
          exact ih27 (t + 1) _ (by omega) (by omega) (lv_sub hl [0, 3, 4, 5] rfl)
        · skip
          exact (hx t (by omega) h127 h133).elim
    · skip
      refine lv_aload_n E.1 E.2.1 dX1_ranked_50 rfl (lv_at hl 3 rfl) ?_
      refine n_get E inR hK hP 0 rfl rfl 2 (by decide) flR_7 rfl rfl dX1_ranked_51 ?_
      refine lv_iconst (v := nI 4) E.1 E.2.1 dX1_ranked_54 rfl ?_
      refine lv_iload E.1 E.2.1 dX1_ranked_55 (lv_at hl 0 rfl) ?_
      refine n_imul E dX1_ranked_57 ?_
      refine lv_iload_n E.1 E.2.1 dX1_ranked_58 rfl (lv_at hl 4 rfl) ?_
      refine n_iadd E dX1_ranked_59 ?_
      refine n_rald E hK hP 1 0 rfl rfl u c (by omega) (by omega) (by omega) dX1_ranked_60 ?_
      refine lv_lstore (lv' := [(6, .long (T u c)), (5, .int (nI u)), (4, .int (nI (ct (fun u => (ch T kc ko kv k) u && bfb T c true u t) u))), (3, .int (nI t)), (0, .ref (ad 0)), (1, .int (nI c)), (2, .int x)]) E.1 E.2.1 dX1_ranked_61 hl (by decide) rfl (fun ls hl => ?_)
      refine lv_aload_n E.1 E.2.1 dX1_ranked_63 rfl (lv_at hl 4 rfl) ?_
      refine n_get E inR hK hP 0 rfl rfl 2 (by decide) flR_7 rfl rfl dX1_ranked_64 ?_
      refine lv_iconst (v := nI 4) E.1 E.2.1 dX1_ranked_67 rfl ?_
      refine lv_iload_n E.1 E.2.1 dX1_ranked_68 rfl (lv_at hl 3 rfl) ?_
      refine n_imul E dX1_ranked_69 ?_
      refine lv_iload_n E.1 E.2.1 dX1_ranked_70 rfl (lv_at hl 5 rfl) ?_
      refine n_iadd E dX1_ranked_71 ?_
      refine n_rald E hK hP 1 0 rfl rfl t c (by omega) (by omega) (by omega) dX1_ranked_72 ?_
      refine lv_lstore (lv' := [(8, .long (T t c)), (6, .long (T u c)), (5, .int (nI u)), (4, .int (nI (ct (fun u => (ch T kc ko kv k) u && bfb T c true u t) u))), (3, .int (nI t)), (0, .ref (ad 0)), (1, .int (nI c)), (2, .int x)]) E.1 E.2.1 dX1_ranked_73 hl (by decide) rfl (fun ls hl => ?_)
      refine lv_iload E.1 E.2.1 dX1_ranked_75 (lv_at hl 3 rfl) ?_
      refine lv_aload_n E.1 E.2.1 dX1_ranked_77 rfl (lv_at hl 5 rfl) ?_
      refine lv_iload E.1 E.2.1 dX1_ranked_78 (lv_at hl 2 rfl) ?_
      refine cV_i E (As := [.int (nI u)]) (rest := [.int (nI (ct (fun u => (ch T kc ko kv k) u && bfb T c true u t) u))]) (cR_isChosen l D ad ca T n kc ko kv k 0 u hIK (by omega)) kR_41 hK hP 0 rfl rfl rfl rfl ⟨Nat.le_of_ble_eq_true rfl, Nat.le_of_ble_eq_true rfl⟩ rfl hl.1 rfl (Nat.le_of_ble_eq_true rfl) dX1_ranked_80 ⟨Nat.zero_le _, Nat.zero_le _⟩ ?_
      refine b_if_eq (tgt := 112) E dX1_ranked_83 rfl (fun h83 => ?_) (fun h83 => ?_)
      · skip
        refine lv_iconst (v := nI 0) E.1 E.2.1 dX1_ranked_112 rfl ?_
        refine n_iadd E dX1_ranked_113 ?_
        refine lv_istore (lv' := [(4, .int (nI (ct (fun u => (ch T kc ko kv k) u && bfb T c true u t) u + 0))), (8, .long (T t c)), (6, .long (T u c)), (5, .int (nI u)), (3, .int (nI t)), (0, .ref (ad 0)), (1, .int (nI c)), (2, .int x)]) E.1 E.2.1 dX1_ranked_114 hl (by decide) rfl (fun ls hl => ?_)
        refine lv_iinc (k := 3) (v := nI (u + 1)) (lv' := [(5, .int (nI (u + 1))), (4, .int (nI (ct (fun u => (ch T kc ko kv k) u && bfb T c true u t) u + 0))), (8, .long (T t c)), (6, .long (T u c)), (3, .int (nI t)), (0, .ref (ad 0)), (1, .int (nI c)), (2, .int x)]) E.1 E.2.1 dX1_ranked_116 hl rfl (inc1 _) (by decide) rfl (fun ls hl => ?_)
        refine lv_goto (tgt := 41) E.1 E.2.1 dX1_ranked_119 rfl ?_
        rw [← ct_f (p := (fun u => (ch T kc ko kv k) u && bfb T c true u t)) (by simp [bfb, bef, h83])] at hl
        exact ih41 (u + 1) _ (by omega) (by omega) (lv_sub hl [0, 1, 4, 5, 6, 7] rfl)
      · skip
        refine lv_lload E.1 E.2.1 dX1_ranked_86 (lv_at hl 1 rfl) ?_
        refine lv_lload E.1 E.2.1 dX1_ranked_88 (lv_at hl 0 rfl) ?_
        refine l_if_gt (tgt := 108) E dX1_ranked_90 dX1_ranked_91 rfl (fun h90 => ?_) (fun h90 => ?_)
        · skip
          refine lv_iconst (v := nI 1) E.1 E.2.1 dX1_ranked_108 rfl ?_
          refine lv_goto (tgt := 113) E.1 E.2.1 dX1_ranked_109 rfl ?_
          refine n_iadd E dX1_ranked_113 ?_
          refine lv_istore (lv' := [(4, .int (nI (ct (fun u => (ch T kc ko kv k) u && bfb T c true u t) u + 1))), (8, .long (T t c)), (6, .long (T u c)), (5, .int (nI u)), (3, .int (nI t)), (0, .ref (ad 0)), (1, .int (nI c)), (2, .int x)]) E.1 E.2.1 dX1_ranked_114 hl (by decide) rfl (fun ls hl => ?_)
          refine lv_iinc (k := 3) (v := nI (u + 1)) (lv' := [(5, .int (nI (u + 1))), (4, .int (nI (ct (fun u => (ch T kc ko kv k) u && bfb T c true u t) u + 1))), (8, .long (T t c)), (6, .long (T u c)), (3, .int (nI t)), (0, .ref (ad 0)), (1, .int (nI c)), (2, .int x)]) E.1 E.2.1 dX1_ranked_116 hl rfl (inc1 _) (by decide) rfl (fun ls hl => ?_)
          refine lv_goto (tgt := 41) E.1 E.2.1 dX1_ranked_119 rfl ?_
          rw [← ct_t (p := (fun u => (ch T kc ko kv k) u && bfb T c true u t)) (by simp [bfb, bef, h83, h90])] at hl
          exact ih41 (u + 1) _ (by omega) (by omega) (lv_sub hl [0, 1, 4, 5, 6, 7] rfl)
        · skip
          refine lv_lload E.1 E.2.1 dX1_ranked_94 (lv_at hl 1 rfl) ?_
          refine lv_lload E.1 E.2.1 dX1_ranked_96 (lv_at hl 0 rfl) ?_
          refine l_if_ne (tgt := 112) E dX1_ranked_98 dX1_ranked_99 rfl (fun h98 => ?_) (fun h98 => ?_)
          · skip
            refine lv_iconst (v := nI 0) E.1 E.2.1 dX1_ranked_112 rfl ?_
            refine n_iadd E dX1_ranked_113 ?_
            refine lv_istore (lv' := [(4, .int (nI (ct (fun u => (ch T kc ko kv k) u && bfb T c true u t) u + 0))), (8, .long (T t c)), (6, .long (T u c)), (5, .int (nI u)), (3, .int (nI t)), (0, .ref (ad 0)), (1, .int (nI c)), (2, .int x)]) E.1 E.2.1 dX1_ranked_114 hl (by decide) rfl (fun ls hl => ?_)
            refine lv_iinc (k := 3) (v := nI (u + 1)) (lv' := [(5, .int (nI (u + 1))), (4, .int (nI (ct (fun u => (ch T kc ko kv k) u && bfb T c true u t) u + 0))), (8, .long (T t c)), (6, .long (T u c)), (3, .int (nI t)), (0, .ref (ad 0)), (1, .int (nI c)), (2, .int x)]) E.1 E.2.1 dX1_ranked_116 hl rfl (inc1 _) (by decide) rfl (fun ls hl => ?_)
            refine lv_goto (tgt := 41) E.1 E.2.1 dX1_ranked_119 rfl ?_
            rw [← ct_f (p := (fun u => (ch T kc ko kv k) u && bfb T c true u t)) (by simp [bfb, bef, h83, h90, h98])] at hl
            exact ih41 (u + 1) _ (by omega) (by omega) (lv_sub hl [0, 1, 4, 5, 6, 7] rfl)
          · skip
            refine lv_iload E.1 E.2.1 dX1_ranked_102 (lv_at hl 2 rfl) ?_
            refine lv_iload_n E.1 E.2.1 dX1_ranked_104 rfl (lv_at hl 4 rfl) ?_
            refine n_icmp_ge (tgt := 112) E dX1_ranked_105 rfl (by omega) (by omega) (fun h105 => ?_) (fun h105 => ?_)
            · skip
              refine lv_iconst (v := nI 0) E.1 E.2.1 dX1_ranked_112 rfl ?_
              refine n_iadd E dX1_ranked_113 ?_
              refine lv_istore (lv' := [(4, .int (nI (ct (fun u => (ch T kc ko kv k) u && bfb T c true u t) u + 0))), (8, .long (T t c)), (6, .long (T u c)), (5, .int (nI u)), (3, .int (nI t)), (0, .ref (ad 0)), (1, .int (nI c)), (2, .int x)]) E.1 E.2.1 dX1_ranked_114 hl (by decide) rfl (fun ls hl => ?_)
              refine lv_iinc (k := 3) (v := nI (u + 1)) (lv' := [(5, .int (nI (u + 1))), (4, .int (nI (ct (fun u => (ch T kc ko kv k) u && bfb T c true u t) u + 0))), (8, .long (T t c)), (6, .long (T u c)), (3, .int (nI t)), (0, .ref (ad 0)), (1, .int (nI c)), (2, .int x)]) E.1 E.2.1 dX1_ranked_116 hl rfl (inc1 _) (by decide) rfl (fun ls hl => ?_)
              refine lv_goto (tgt := 41) E.1 E.2.1 dX1_ranked_119 rfl ?_
              rw [← ct_f (p := (fun u => (ch T kc ko kv k) u && bfb T c true u t)) (by simp [bfb, bef, h83, h90, h98, h105, show ¬ u < t by omega])] at hl
              exact ih41 (u + 1) _ (by omega) (by omega) (lv_sub hl [0, 1, 4, 5, 6, 7] rfl)
            · skip
              refine lv_iconst (v := nI 1) E.1 E.2.1 dX1_ranked_108 rfl ?_
              refine lv_goto (tgt := 113) E.1 E.2.1 dX1_ranked_109 rfl ?_
              refine n_iadd E dX1_ranked_113 ?_
              refine lv_istore (lv' := [(4, .int (nI (ct (fun u => (ch T kc ko kv k) u && bfb T c true u t) u + 1))), (8, .long (T t c)), (6, .long (T u c)), (5, .int (nI u)), (3, .int (nI t)), (0, .ref (ad 0)), (1, .int (nI c)), (2, .int x)]) E.1 E.2.1 dX1_ranked_114 hl (by decide) rfl (fun ls hl => ?_)
              refine lv_iinc (k := 3) (v := nI (u + 1)) (lv' := [(5, .int (nI (u + 1))), (4, .int (nI (ct (fun u => (ch T kc ko kv k) u && bfb T c true u t) u + 1))), (8, .long (T t c)), (6, .long (T u c)), (3, .int (nI t)), (0, .ref (ad 0)), (1, .int (nI c)), (2, .int x)]) E.1 E.2.1 dX1_ranked_116 hl rfl (inc1 _) (by decide) rfl (fun ls hl => ?_)
              refine lv_goto (tgt := 41) E.1 E.2.1 dX1_ranked_119 rfl ?_
              rw [← ct_t (p := (fun u => (ch T kc ko kv k) u && bfb T c true u t)) (by simp [bfb, bef, h83, h90, h98, h105])] at hl
              exact ih41 (u + 1) _ (by omega) (by omega) (lv_sub hl [0, 1, 4, 5, 6, 7] rfl)
set_option maxHeartbeats 4000000 in
set_option maxRecDepth 100000 in
theorem cR_ranked1 (l : Launch) (D : va_G) (ad : Nat → Nat) (ca : Nat → ClassId) (T : Nat → Nat → Int64) (n : Nat) (kc ko : Nat → Nat) (kv : Nat → Int64) (k cd : Nat) (x y : Int32) (hN : inj ad 5) (hx : isC x = false) : Met l yX1_ranked (wA yX1_ranked cX1_ranked 10 (some .int)) (rN 2) (va_Pc [.ref (ad 0), .int x, .int y] (pW D c2 (tR ca) (wR ad ca T n kc ko kv k cd))) (qI (fun z (_ : Unit) => True) D c2 (fun _ => wR ad ca T n kc ko kv k 1) (fA ad 5)) 0 0 (fA ad 5) := by
  refine met_of RX1 rfl (by decide) (Nat.le_of_ble_eq_true rfl) (fun p e s m below meth cd0 ls E hr hlk _ hB hl => ?_)
  obtain ⟨hP, hK⟩ := hB
  have hl : lv_has ls 10 [(0, .ref (ad 0)), (1, .int x), (2, .int y)] := hl
  have hS : va_S (fA ad 5) s.heap s.heap [] := va_S.rf
  refine lv_aload_n E.1 E.2.1 dX1_ranked_0 rfl (lv_at hl 0 rfl) ?_
  refine lv_iload_n E.1 E.2.1 dX1_ranked_1 rfl (lv_at hl 1 rfl) ?_
  refine cS_i E (As := [.int x]) (rest := [.ref (ad 0)]) (cR_isColumn l x) kR_30 rfl rfl ⟨Nat.le_of_ble_eq_true rfl, Nat.le_of_ble_eq_true rfl⟩ rfl hl.1 rfl (Nat.le_of_ble_eq_true rfl) dX1_ranked_2 ⟨Nat.zero_le _, Nat.zero_le _⟩ ?_
  refine tpi (y := bI false) (congrArg bI hx) ?_
  refine b_if_ne (tgt := 12) E dX1_ranked_5 rfl (fun h => Bool.noConfusion h) (fun _ => ?_)
  refine lv_iconst (v := nI 1) E.1 E.2.1 dX1_ranked_8 rfl ?_
  refine lv_goto (tgt := 13) E.1 E.2.1 dX1_ranked_9 rfl ?_
  refine n_put E inR tyR1 tyR1_ok nmR1 hK hP (dW hN rfl) hS 0 rfl rfl 0 (by decide) flR_23 rfl rfl (tyR1_ok 0 (by decide)) (Nat.le_of_ble_eq_true rfl) dX1_ranked_13 (fun H locs hP hS => ?_)
  have hP : va_P D c2 (wR ad ca T n kc ko kv k 1) H := hP
  refine lv_aload_n E.1 E.2.1 dX1_ranked_16 rfl (lv_at hl 0 rfl) ?_
  refine n_get E inR hK hP 0 rfl rfl 0 (by decide) flR_23 rfl rfl dX1_ranked_17 ?_
  refine n_if_le (tgt := 25) E dX1_ranked_20 rfl (by decide) (fun h => absurd h (by decide)) (fun _ => ?_)
  refine lv_iconst (v := nI 0) E.1 E.2.1 dX1_ranked_23 rfl ?_
  exact e_wi E hr hlk hS () trivial hP dX1_ranked_24
set_option maxHeartbeats 4000000 in
set_option maxRecDepth 100000 in
theorem cR_isFirst (l : Launch) (D : va_G) (ad : Nat → Nat) (ca : Nat → ClassId) (T : Nat → Nat → Int64) (n : Nat) (kc ko : Nat → Nat) (kv : Nat → Int64) (k cd : Nat) (c r : Nat) (hIK : iK kc ko k) (hc : c < 4) (hr0 : r < 128) : Met l yX1_isFirst (wA yX1_isFirst cX1_isFirst 5 (some .boolean)) (rN 2) (va_Pc [.ref (ad 0), .int (nI c), .int (nI r)] (pW D c2 (tR ca) (wR ad ca T n kc ko kv k cd))) (vp_Si (fun z => z = bI (isF (ch T kc ko kv k) T c r))) 0 0 (fun _ => False) := by
  refine met_of RX1 rfl (by decide) (Nat.le_of_ble_eq_true rfl) (fun p e s m below meth cd0 ls E hr hlk _ hB hl => ?_)
  obtain ⟨hP, hK⟩ := hB
  have hl : lv_has ls 5 [(0, .ref (ad 0)), (1, .int (nI c)), (2, .int (nI r))] := hl
  refine lv_aload_n E.1 E.2.1 dX1_isFirst_0 rfl (lv_at hl 0 rfl) ?_
  refine lv_iload_n E.1 E.2.1 dX1_isFirst_1 rfl (lv_at hl 2 rfl) ?_
  refine cV_i E (As := [.int (nI r)]) (rest := []) (cR_isChosen l D ad ca T n kc ko kv k cd r hIK (by omega)) kR_41 hK hP 0 rfl rfl rfl rfl ⟨Nat.le_of_ble_eq_true rfl, Nat.le_of_ble_eq_true rfl⟩ rfl hl.1 rfl (Nat.le_of_ble_eq_true rfl) dX1_isFirst_2 ⟨Nat.zero_le _, Nat.zero_le _⟩ ?_
  refine tpi (y := bI ((ch T kc ko kv k) r && al (fun t => !((ch T kc ko kv k) t && decide (T t c = T r c))) 0)) (congrArg bI (Bool.and_true _).symm) ?_
  refine lv_istore_n (lv' := [(3, .int (bI ((ch T kc ko kv k) r && al (fun t => !((ch T kc ko kv k) t && decide (T t c = T r c))) 0))), (0, .ref (ad 0)), (1, .int (nI c)), (2, .int (nI r))]) E.1 E.2.1 dX1_isFirst_5 rfl hl (by decide) rfl (fun ls hl => ?_)
  refine lv_iconst (v := nI 0) E.1 E.2.1 dX1_isFirst_6 rfl ?_
  refine lv_istore (lv' := [(4, .int (nI 0)), (3, .int (bI ((ch T kc ko kv k) r && al (fun t => !((ch T kc ko kv k) t && decide (T t c = T r c))) 0))), (0, .ref (ad 0)), (1, .int (nI c)), (2, .int (nI r))]) E.1 E.2.1 dX1_isFirst_7 hl (by decide) rfl (fun ls hl => ?_)
  refine w_lp1 (fun (j : Nat) => j ≤ r) (fun (j : Nat) => r - j) (fun (j : Nat) => [(4, .int (nI j)), (3, .int (bI ((ch T kc ko kv k) r && al (fun t => !((ch T kc ko kv k) t && decide (T t c = T r c))) j))), (0, .ref (ad 0)), (1, .int (nI c)), (2, .int (nI r))]) 0 (Nat.zero_le _) (lv_sub hl [0, 1, 2, 3, 4] rfl) (fun j ls hI hl ih9 => ?_)
  have hl : lv_has ls 5 [(4, .int (nI j)), (3, .int (bI ((ch T kc ko kv k) r && al (fun t => !((ch T kc ko kv k) t && decide (T t c = T r c))) j))), (0, .ref (ad 0)), (1, .int (nI c)), (2, .int (nI r))] := hl
  refine lv_iload E.1 E.2.1 dX1_isFirst_9 (lv_at hl 0 rfl) ?_
  refine lv_iload_n E.1 E.2.1 dX1_isFirst_11 rfl (lv_at hl 4 rfl) ?_
  refine n_icmp_ge (tgt := 65) E dX1_isFirst_12 rfl (by omega) (by omega) (fun h12 => ?_) (fun h12 => ?_)
  · skip
    refine lv_iload_n E.1 E.2.1 dX1_isFirst_65 rfl (lv_at hl 1 rfl) ?_
    exact e_z E hr hlk (congrArg bI (by rw [isF, show j = r by omega])) dX1_isFirst_66
  · skip
    refine lv_iload_n E.1 E.2.1 dX1_isFirst_15 rfl (lv_at hl 1 rfl) ?_
    refine b_if_eq (tgt := 57) E dX1_isFirst_16 rfl (fun h16 => ?_) (fun h16 => ?_)
    · skip
      refine lv_iconst (v := nI 0) E.1 E.2.1 dX1_isFirst_57 rfl ?_
      refine tpi (y := bI ((ch T kc ko kv k) r && al (fun t => !((ch T kc ko kv k) t && decide (T t c = T r c))) (j + 1))) (congrArg bI (if2 h16 rfl).symm) ?_
      refine lv_istore_n (lv' := [(3, .int (bI ((ch T kc ko kv k) r && al (fun t => !((ch T kc ko kv k) t && decide (T t c = T r c))) (j + 1)))), (4, .int (nI j)), (0, .ref (ad 0)), (1, .int (nI c)), (2, .int (nI r))]) E.1 E.2.1 dX1_isFirst_58 rfl hl (by decide) rfl (fun ls hl => ?_)
      refine lv_iinc (k := 1) (v := nI (j + 1)) (lv' := [(4, .int (nI (j + 1))), (3, .int (bI ((ch T kc ko kv k) r && al (fun t => !((ch T kc ko kv k) t && decide (T t c = T r c))) (j + 1)))), (0, .ref (ad 0)), (1, .int (nI c)), (2, .int (nI r))]) E.1 E.2.1 dX1_isFirst_59 hl rfl (inc1 _) (by decide) rfl (fun ls hl => ?_)
      refine lv_goto (tgt := 9) E.1 E.2.1 dX1_isFirst_62 rfl ?_
      exact ih9 (j + 1) _ (by omega) (by omega) (lv_sub hl [0, 1, 2, 3, 4] rfl)
    · skip
      refine lv_aload_n E.1 E.2.1 dX1_isFirst_19 rfl (lv_at hl 2 rfl) ?_
      refine lv_iload E.1 E.2.1 dX1_isFirst_20 (lv_at hl 0 rfl) ?_
      refine cV_i E (As := [.int (nI j)]) (rest := []) (cR_isChosen l D ad ca T n kc ko kv k cd j hIK (by omega)) kR_41 hK hP 0 rfl rfl rfl rfl ⟨Nat.le_of_ble_eq_true rfl, Nat.le_of_ble_eq_true rfl⟩ rfl hl.1 rfl (Nat.le_of_ble_eq_true rfl) dX1_isFirst_22 ⟨Nat.zero_le _, Nat.zero_le _⟩ ?_
      refine b_if_eq (tgt := 53) E dX1_isFirst_25 rfl (fun h25 => ?_) (fun h25 => ?_)
      · skip
        refine lv_iconst (v := nI 1) E.1 E.2.1 dX1_isFirst_53 rfl ?_
        refine lv_goto (tgt := 58) E.1 E.2.1 dX1_isFirst_54 rfl ?_
        refine tpi (y := bI ((ch T kc ko kv k) r && al (fun t => !((ch T kc ko kv k) t && decide (T t c = T r c))) (j + 1))) (congrArg bI (if2 h16 (show (!(_ && _)) = true by rw [h25]; rfl)).symm) ?_
        refine lv_istore_n (lv' := [(3, .int (bI ((ch T kc ko kv k) r && al (fun t => !((ch T kc ko kv k) t && decide (T t c = T r c))) (j + 1)))), (4, .int (nI j)), (0, .ref (ad 0)), (1, .int (nI c)), (2, .int (nI r))]) E.1 E.2.1 dX1_isFirst_58 rfl hl (by decide) rfl (fun ls hl => ?_)
        refine lv_iinc (k := 1) (v := nI (j + 1)) (lv' := [(4, .int (nI (j + 1))), (3, .int (bI ((ch T kc ko kv k) r && al (fun t => !((ch T kc ko kv k) t && decide (T t c = T r c))) (j + 1)))), (0, .ref (ad 0)), (1, .int (nI c)), (2, .int (nI r))]) E.1 E.2.1 dX1_isFirst_59 hl rfl (inc1 _) (by decide) rfl (fun ls hl => ?_)
        refine lv_goto (tgt := 9) E.1 E.2.1 dX1_isFirst_62 rfl ?_
        exact ih9 (j + 1) _ (by omega) (by omega) (lv_sub hl [0, 1, 2, 3, 4] rfl)
      · skip
        refine lv_aload_n E.1 E.2.1 dX1_isFirst_28 rfl (lv_at hl 2 rfl) ?_
        refine n_get E inR hK hP 0 rfl rfl 2 (by decide) flR_7 rfl rfl dX1_isFirst_29 ?_
        refine lv_iconst (v := nI 4) E.1 E.2.1 dX1_isFirst_32 rfl ?_
        refine lv_iload E.1 E.2.1 dX1_isFirst_33 (lv_at hl 0 rfl) ?_
        refine n_imul E dX1_isFirst_35 ?_
        refine lv_iload_n E.1 E.2.1 dX1_isFirst_36 rfl (lv_at hl 3 rfl) ?_
        refine n_iadd E dX1_isFirst_37 ?_
        refine n_rald E hK hP 1 0 rfl rfl j c (by omega) (by omega) (by omega) dX1_isFirst_38 ?_
        refine lv_aload_n E.1 E.2.1 dX1_isFirst_39 rfl (lv_at hl 2 rfl) ?_
        refine n_get E inR hK hP 0 rfl rfl 2 (by decide) flR_7 rfl rfl dX1_isFirst_40 ?_
        refine lv_iconst (v := nI 4) E.1 E.2.1 dX1_isFirst_43 rfl ?_
        refine lv_iload_n E.1 E.2.1 dX1_isFirst_44 rfl (lv_at hl 4 rfl) ?_
        refine n_imul E dX1_isFirst_45 ?_
        refine lv_iload_n E.1 E.2.1 dX1_isFirst_46 rfl (lv_at hl 3 rfl) ?_
        refine n_iadd E dX1_isFirst_47 ?_
        refine n_rald E hK hP 1 0 rfl rfl r c (by omega) (by omega) (by omega) dX1_isFirst_48 ?_
        refine l_if_eq (tgt := 57) E dX1_isFirst_49 dX1_isFirst_50 rfl (fun h49 => ?_) (fun h49 => ?_)
        · skip
          refine lv_iconst (v := nI 0) E.1 E.2.1 dX1_isFirst_57 rfl ?_
          refine tpi (y := bI ((ch T kc ko kv k) r && al (fun t => !((ch T kc ko kv k) t && decide (T t c = T r c))) (j + 1))) (congrArg bI (if2 h16 (show (!(_ && _)) = false by rw [h25, decide_eq_true h49]; rfl)).symm) ?_
          refine lv_istore_n (lv' := [(3, .int (bI ((ch T kc ko kv k) r && al (fun t => !((ch T kc ko kv k) t && decide (T t c = T r c))) (j + 1)))), (4, .int (nI j)), (0, .ref (ad 0)), (1, .int (nI c)), (2, .int (nI r))]) E.1 E.2.1 dX1_isFirst_58 rfl hl (by decide) rfl (fun ls hl => ?_)
          refine lv_iinc (k := 1) (v := nI (j + 1)) (lv' := [(4, .int (nI (j + 1))), (3, .int (bI ((ch T kc ko kv k) r && al (fun t => !((ch T kc ko kv k) t && decide (T t c = T r c))) (j + 1)))), (0, .ref (ad 0)), (1, .int (nI c)), (2, .int (nI r))]) E.1 E.2.1 dX1_isFirst_59 hl rfl (inc1 _) (by decide) rfl (fun ls hl => ?_)
          refine lv_goto (tgt := 9) E.1 E.2.1 dX1_isFirst_62 rfl ?_
          exact ih9 (j + 1) _ (by omega) (by omega) (lv_sub hl [0, 1, 2, 3, 4] rfl)
        · skip
          refine lv_iconst (v := nI 1) E.1 E.2.1 dX1_isFirst_53 rfl ?_
          refine lv_goto (tgt := 58) E.1 E.2.1 dX1_isFirst_54 rfl ?_
          refine tpi (y := bI ((ch T kc ko kv k) r && al (fun t => !((ch T kc ko kv k) t && decide (T t c = T r c))) (j + 1))) (congrArg bI (if2 h16 (show (!(_ && _)) = true by rw [h25, decide_eq_false h49]; rfl)).symm) ?_
          refine lv_istore_n (lv' := [(3, .int (bI ((ch T kc ko kv k) r && al (fun t => !((ch T kc ko kv k) t && decide (T t c = T r c))) (j + 1)))), (4, .int (nI j)), (0, .ref (ad 0)), (1, .int (nI c)), (2, .int (nI r))]) E.1 E.2.1 dX1_isFirst_58 rfl hl (by decide) rfl (fun ls hl => ?_)
          refine lv_iinc (k := 1) (v := nI (j + 1)) (lv' := [(4, .int (nI (j + 1))), (3, .int (bI ((ch T kc ko kv k) r && al (fun t => !((ch T kc ko kv k) t && decide (T t c = T r c))) (j + 1)))), (0, .ref (ad 0)), (1, .int (nI c)), (2, .int (nI r))]) E.1 E.2.1 dX1_isFirst_59 hl rfl (inc1 _) (by decide) rfl (fun ls hl => ?_)
          refine lv_goto (tgt := 9) E.1 E.2.1 dX1_isFirst_62 rfl ?_
          exact ih9 (j + 1) _ (by omega) (by omega) (lv_sub hl [0, 1, 2, 3, 4] rfl)
set_option maxHeartbeats 4000000 in
set_option maxRecDepth 100000 in
theorem cR_countGroups (l : Launch) (D : va_G) (ad : Nat → Nat) (ca : Nat → ClassId) (T : Nat → Nat → Int64) (n : Nat) (kc ko : Nat → Nat) (kv : Nat → Int64) (k cd : Nat) (c : Nat) (hIK : iK kc ko k) (hn128 : n ≤ 128) (hc : c < 4) : Met l yX1_countGroups (wA yX1_countGroups cX1_countGroups 4 (some .int)) (rN 3) (va_Pc [.ref (ad 0), .int (nI c)] (pW D c2 (tR ca) (wR ad ca T n kc ko kv k cd))) (vp_Si (fun z => z = nI (ct (isF (ch T kc ko kv k) T c) n))) 0 0 (fun _ => False) := by
  refine met_of RX1 rfl (by decide) (Nat.le_of_ble_eq_true rfl) (fun p e s m below meth cd0 ls E hr hlk _ hB hl => ?_)
  obtain ⟨hP, hK⟩ := hB
  have hl : lv_has ls 4 [(0, .ref (ad 0)), (1, .int (nI c))] := hl
  refine lv_iconst (v := nI 0) E.1 E.2.1 dX1_countGroups_0 rfl ?_
  refine lv_istore_n (lv' := [(2, .int (nI 0)), (0, .ref (ad 0)), (1, .int (nI c))]) E.1 E.2.1 dX1_countGroups_1 rfl hl (by decide) rfl (fun ls hl => ?_)
  refine lv_iconst (v := nI 0) E.1 E.2.1 dX1_countGroups_2 rfl ?_
  refine lv_istore_n (lv' := [(3, .int (nI 0)), (2, .int (nI 0)), (0, .ref (ad 0)), (1, .int (nI c))]) E.1 E.2.1 dX1_countGroups_3 rfl hl (by decide) rfl (fun ls hl => ?_)
  refine w_lp1 (fun (r : Nat) => r ≤ n) (fun (r : Nat) => n - r) (fun (r : Nat) => [(3, .int (nI r)), (2, .int (nI (ct (isF (ch T kc ko kv k) T c) r))), (0, .ref (ad 0)), (1, .int (nI c))]) 0 (Nat.zero_le _) (lv_sub hl [0, 1, 2, 3] rfl) (fun r ls hI hl ih4 => ?_)
  have hl : lv_has ls 4 [(3, .int (nI r)), (2, .int (nI (ct (isF (ch T kc ko kv k) T c) r))), (0, .ref (ad 0)), (1, .int (nI c))] := hl
  refine lv_iload_n E.1 E.2.1 dX1_countGroups_4 rfl (lv_at hl 0 rfl) ?_
  refine lv_aload_n E.1 E.2.1 dX1_countGroups_5 rfl (lv_at hl 2 rfl) ?_
  refine n_get E inR hK hP 0 rfl rfl 1 (by decide) flR_27 rfl rfl dX1_countGroups_6 ?_
  refine n_icmp_ge (tgt := 35) E dX1_countGroups_9 rfl (by omega) (by omega) (fun h9 => ?_) (fun h9 => ?_)
  · skip
    refine lv_iload_n E.1 E.2.1 dX1_countGroups_35 rfl (lv_at hl 1 rfl) ?_
    exact e_i E hr hlk (by rw [show n = r by omega]) dX1_countGroups_36
  · skip
    refine lv_iload_n E.1 E.2.1 dX1_countGroups_12 rfl (lv_at hl 1 rfl) ?_
    refine lv_aload_n E.1 E.2.1 dX1_countGroups_13 rfl (lv_at hl 2 rfl) ?_
    refine lv_iload_n E.1 E.2.1 dX1_countGroups_14 rfl (lv_at hl 3 rfl) ?_
    refine lv_iload_n E.1 E.2.1 dX1_countGroups_15 rfl (lv_at hl 0 rfl) ?_
    refine cV_i E (As := [.int (nI c), .int (nI r)]) (rest := [.int (nI (ct (isF (ch T kc ko kv k) T c) r))]) (cR_isFirst l D ad ca T n kc ko kv k cd c r hIK (by omega) (by omega)) kR_79 hK hP 0 rfl rfl rfl rfl ⟨Nat.le_of_ble_eq_true rfl, Nat.le_of_ble_eq_true rfl⟩ rfl hl.1 rfl (Nat.le_of_ble_eq_true rfl) dX1_countGroups_16 ⟨Nat.zero_le _, Nat.zero_le _⟩ ?_
    refine b_if_eq (tgt := 26) E dX1_countGroups_19 rfl (fun h19 => ?_) (fun h19 => ?_)
    · skip
      refine lv_iconst (v := nI 0) E.1 E.2.1 dX1_countGroups_26 rfl ?_
      refine n_iadd E dX1_countGroups_27 ?_
      refine lv_istore_n (lv' := [(2, .int (nI (ct (isF (ch T kc ko kv k) T c) r + 0))), (3, .int (nI r)), (0, .ref (ad 0)), (1, .int (nI c))]) E.1 E.2.1 dX1_countGroups_28 rfl hl (by decide) rfl (fun ls hl => ?_)
      refine lv_iinc (k := 1) (v := nI (r + 1)) (lv' := [(3, .int (nI (r + 1))), (2, .int (nI (ct (isF (ch T kc ko kv k) T c) r + 0))), (0, .ref (ad 0)), (1, .int (nI c))]) E.1 E.2.1 dX1_countGroups_29 hl rfl (inc1 _) (by decide) rfl (fun ls hl => ?_)
      refine lv_goto (tgt := 4) E.1 E.2.1 dX1_countGroups_32 rfl ?_
      rw [← ct_f (p := (isF (ch T kc ko kv k) T c)) h19] at hl
      exact ih4 (r + 1) _ (by omega) (by omega) (lv_sub hl [0, 1, 2, 3] rfl)
    · skip
      refine lv_iconst (v := nI 1) E.1 E.2.1 dX1_countGroups_22 rfl ?_
      refine lv_goto (tgt := 27) E.1 E.2.1 dX1_countGroups_23 rfl ?_
      refine n_iadd E dX1_countGroups_27 ?_
      refine lv_istore_n (lv' := [(2, .int (nI (ct (isF (ch T kc ko kv k) T c) r + 1))), (3, .int (nI r)), (0, .ref (ad 0)), (1, .int (nI c))]) E.1 E.2.1 dX1_countGroups_28 rfl hl (by decide) rfl (fun ls hl => ?_)
      refine lv_iinc (k := 1) (v := nI (r + 1)) (lv' := [(3, .int (nI (r + 1))), (2, .int (nI (ct (isF (ch T kc ko kv k) T c) r + 1))), (0, .ref (ad 0)), (1, .int (nI c))]) E.1 E.2.1 dX1_countGroups_29 hl rfl (inc1 _) (by decide) rfl (fun ls hl => ?_)
      refine lv_goto (tgt := 4) E.1 E.2.1 dX1_countGroups_32 rfl ?_
      rw [← ct_t (p := (isF (ch T kc ko kv k) T c)) h19] at hl
      exact ih4 (r + 1) _ (by omega) (by omega) (lv_sub hl [0, 1, 2, 3] rfl)
set_option maxHeartbeats 4000000 in
set_option maxRecDepth 100000 in
theorem cR_groups (l : Launch) (D : va_G) (ad : Nat → Nat) (ca : Nat → ClassId) (T : Nat → Nat → Int64) (n : Nat) (kc ko : Nat → Nat) (kv : Nat → Int64) (k cd : Nat) (c : Nat) (hN : inj ad 5) (hIK : iK kc ko k) (hn128 : n ≤ 128) (hc : c < 4) : Met l yX1_groups (wA yX1_groups cX1_groups 2 (some .int)) (rN 4) (va_Pc [.ref (ad 0), .int (nI c)] (pW D c2 (tR ca) (wR ad ca T n kc ko kv k cd))) (qI (fun z (_ : Unit) => z = nI (ct (isF (ch T kc ko kv k) T c) n)) D c2 (fun _ => wR ad ca T n kc ko kv k 0) (fA ad 5)) 0 0 (fA ad 5) := by
  refine met_of RX1 rfl (by decide) (Nat.le_of_ble_eq_true rfl) (fun p e s m below meth cd0 ls E hr hlk _ hB hl => ?_)
  obtain ⟨hP, hK⟩ := hB
  have hl : lv_has ls 2 [(0, .ref (ad 0)), (1, .int (nI c))] := hl
  have hS : va_S (fA ad 5) s.heap s.heap [] := va_S.rf
  refine lv_aload_n E.1 E.2.1 dX1_groups_0 rfl (lv_at hl 0 rfl) ?_
  refine lv_iload_n E.1 E.2.1 dX1_groups_1 rfl (lv_at hl 1 rfl) ?_
  refine cS_i E (As := [.int (nI c)]) (rest := [.ref (ad 0)]) (cR_isColumn l (nI c)) kR_30 rfl rfl ⟨Nat.le_of_ble_eq_true rfl, Nat.le_of_ble_eq_true rfl⟩ rfl hl.1 rfl (Nat.le_of_ble_eq_true rfl) dX1_groups_2 ⟨Nat.zero_le _, Nat.zero_le _⟩ ?_
  refine tpi (y := bI true) (congrArg bI (isC_n (by omega))) ?_
  refine b_if_eq (tgt := 12) E dX1_groups_5 rfl (fun h => Bool.noConfusion h) (fun _ => ?_)
  refine lv_iconst (v := nI 0) E.1 E.2.1 dX1_groups_8 rfl ?_
  refine lv_goto (tgt := 13) E.1 E.2.1 dX1_groups_9 rfl ?_
  refine n_put E inR tyR1 tyR1_ok nmR1 hK hP (dW hN rfl) hS 0 rfl rfl 0 (by decide) flR_23 rfl rfl (tyR1_ok 0 (by decide)) (Nat.le_of_ble_eq_true rfl) dX1_groups_13 (fun H locs hP hS => ?_)
  have hP : va_P D c2 (wR ad ca T n kc ko kv k 0) H := hP
  refine lv_aload_n E.1 E.2.1 dX1_groups_16 rfl (lv_at hl 0 rfl) ?_
  refine n_get E inR hK hP 0 rfl rfl 0 (by decide) flR_23 rfl rfl dX1_groups_17 ?_
  refine n_if_ne (tgt := 31) E dX1_groups_20 rfl (by decide) (fun h => absurd h (by decide)) (fun _ => ?_)
  refine lv_aload_n E.1 E.2.1 dX1_groups_23 rfl (lv_at hl 0 rfl) ?_
  refine lv_iload_n E.1 E.2.1 dX1_groups_24 rfl (lv_at hl 1 rfl) ?_
  refine cV_i E (As := [.int (nI c)]) (rest := []) (cR_countGroups l D ad ca T n kc ko kv k 0 c hIK hn128 (by omega)) kR_82 hK hP 0 rfl rfl rfl rfl ⟨Nat.le_of_ble_eq_true rfl, Nat.le_of_ble_eq_true rfl⟩ rfl hl.1 rfl (Nat.le_of_ble_eq_true rfl) dX1_groups_25 ⟨Nat.zero_le _, Nat.zero_le _⟩ ?_
  refine lv_goto (tgt := 32) E.1 E.2.1 dX1_groups_28 rfl ?_
  exact e_wi E hr hlk hS () rfl hP dX1_groups_32
set_option maxHeartbeats 4000000 in
set_option maxRecDepth 100000 in
theorem cR_groups1 (l : Launch) (D : va_G) (ad : Nat → Nat) (ca : Nat → ClassId) (T : Nat → Nat → Int64) (n : Nat) (kc ko : Nat → Nat) (kv : Nat → Int64) (k cd : Nat) (x : Int32) (hN : inj ad 5) (hx : isC x = false) : Met l yX1_groups (wA yX1_groups cX1_groups 2 (some .int)) (rN 4) (va_Pc [.ref (ad 0), .int x] (pW D c2 (tR ca) (wR ad ca T n kc ko kv k cd))) (qI (fun z (_ : Unit) => True) D c2 (fun _ => wR ad ca T n kc ko kv k 1) (fA ad 5)) 0 0 (fA ad 5) := by
  refine met_of RX1 rfl (by decide) (Nat.le_of_ble_eq_true rfl) (fun p e s m below meth cd0 ls E hr hlk _ hB hl => ?_)
  obtain ⟨hP, hK⟩ := hB
  have hl : lv_has ls 2 [(0, .ref (ad 0)), (1, .int x)] := hl
  have hS : va_S (fA ad 5) s.heap s.heap [] := va_S.rf
  refine lv_aload_n E.1 E.2.1 dX1_groups_0 rfl (lv_at hl 0 rfl) ?_
  refine lv_iload_n E.1 E.2.1 dX1_groups_1 rfl (lv_at hl 1 rfl) ?_
  refine cS_i E (As := [.int x]) (rest := [.ref (ad 0)]) (cR_isColumn l x) kR_30 rfl rfl ⟨Nat.le_of_ble_eq_true rfl, Nat.le_of_ble_eq_true rfl⟩ rfl hl.1 rfl (Nat.le_of_ble_eq_true rfl) dX1_groups_2 ⟨Nat.zero_le _, Nat.zero_le _⟩ ?_
  refine tpi (y := bI false) (congrArg bI hx) ?_
  refine b_if_eq (tgt := 12) E dX1_groups_5 rfl (fun _ => ?_) (fun h => Bool.noConfusion h)
  refine lv_iconst (v := nI 1) E.1 E.2.1 dX1_groups_12 rfl ?_
  refine n_put E inR tyR1 tyR1_ok nmR1 hK hP (dW hN rfl) hS 0 rfl rfl 0 (by decide) flR_23 rfl rfl (tyR1_ok 0 (by decide)) (Nat.le_of_ble_eq_true rfl) dX1_groups_13 (fun H locs hP hS => ?_)
  have hP : va_P D c2 (wR ad ca T n kc ko kv k 1) H := hP
  refine lv_aload_n E.1 E.2.1 dX1_groups_16 rfl (lv_at hl 0 rfl) ?_
  refine n_get E inR hK hP 0 rfl rfl 0 (by decide) flR_23 rfl rfl dX1_groups_17 ?_
  refine n_if_ne (tgt := 31) E dX1_groups_20 rfl (by decide) (fun _ => ?_) (fun h => absurd h (by decide))
  refine lv_iconst (v := nI 0) E.1 E.2.1 dX1_groups_31 rfl ?_
  exact e_wi E hr hlk hS () trivial hP dX1_groups_32
set_option maxHeartbeats 4000000 in
set_option maxRecDepth 100000 in
theorem cR_firstOf (l : Launch) (D : va_G) (ad : Nat → Nat) (ca : Nat → ClassId) (T : Nat → Nat → Int64) (n : Nat) (kc ko : Nat → Nat) (kv : Nat → Int64) (k cd : Nat) (c i r : Nat) (hIK : iK kc ko k) (hn128 : n ≤ 128) (hc : c < 4) (hr0 : r < n) (hrF : isF (ch T kc ko kv k) T c r = true) (hrc : ct (fun u => isF (ch T kc ko kv k) T c u && decide (T u c < T r c)) n = i) (hru : ∀ t, t < n → isF (ch T kc ko kv k) T c t = true → ct (fun u => isF (ch T kc ko kv k) T c u && decide (T u c < T t c)) n = i → t = r) : Met l yX1_firstOf (wA yX1_firstOf cX1_firstOf 7 (some .int)) (rN 3) (va_Pc [.ref (ad 0), .int (nI c), .int (nI i)] (pW D c2 (tR ca) (wR ad ca T n kc ko kv k cd))) (vp_Si (fun z => z = nI r)) 0 0 (fun _ => False) := by
  refine met_of RX1 rfl (by decide) (Nat.le_of_ble_eq_true rfl) (fun p e s m below meth cd0 ls E hr hlk _ hB hl => ?_)
  obtain ⟨hP, hK⟩ := hB
  have hl : lv_has ls 7 [(0, .ref (ad 0)), (1, .int (nI c)), (2, .int (nI i))] := hl
  have hi9 : i ≤ 128 := by rw [← hrc]; exact Nat.le_trans (ct_le _ n) hn128
  refine lv_iconst (v := nI 0) E.1 E.2.1 dX1_firstOf_0 rfl ?_
  refine lv_istore_n (lv' := [(3, .int (nI 0)), (0, .ref (ad 0)), (1, .int (nI c)), (2, .int (nI i))]) E.1 E.2.1 dX1_firstOf_1 rfl hl (by decide) rfl (fun ls hl => ?_)
  refine lv_iconst (v := nI 0) E.1 E.2.1 dX1_firstOf_2 rfl ?_
  refine lv_istore (lv' := [(4, .int (nI 0)), (3, .int (nI 0)), (0, .ref (ad 0)), (1, .int (nI c)), (2, .int (nI i))]) E.1 E.2.1 dX1_firstOf_3 hl (by decide) rfl (fun ls hl => ?_)
  refine w_lp1 (fun (t : Nat) => t ≤ n) (fun (t : Nat) => n - t) (fun (t : Nat) => [(4, .int (nI t)), (3, .int (nI (if r < t then r else 0))), (0, .ref (ad 0)), (1, .int (nI c)), (2, .int (nI i))]) 0 (Nat.zero_le _) (lv_sub hl [0, 1, 2, 3, 4] rfl) (fun t ls hI hl ih5 => ?_)
  have hl : lv_has ls 7 [(4, .int (nI t)), (3, .int (nI (if r < t then r else 0))), (0, .ref (ad 0)), (1, .int (nI c)), (2, .int (nI i))] := hl
  refine lv_iload E.1 E.2.1 dX1_firstOf_5 (lv_at hl 0 rfl) ?_
  refine lv_aload_n E.1 E.2.1 dX1_firstOf_7 rfl (lv_at hl 2 rfl) ?_
  refine n_get E inR hK hP 0 rfl rfl 1 (by decide) flR_27 rfl rfl dX1_firstOf_8 ?_
  refine n_icmp_ge (tgt := 110) E dX1_firstOf_11 rfl (by omega) (by omega) (fun h11 => ?_) (fun h11 => ?_)
  · skip
    refine lv_iload_n E.1 E.2.1 dX1_firstOf_110 rfl (lv_at hl 1 rfl) ?_
    exact e_i E hr hlk (congrArg nI (if_pos (by omega))) dX1_firstOf_111
  · skip
    refine lv_aload_n E.1 E.2.1 dX1_firstOf_14 rfl (lv_at hl 2 rfl) ?_
    refine lv_iload_n E.1 E.2.1 dX1_firstOf_15 rfl (lv_at hl 3 rfl) ?_
    refine lv_iload E.1 E.2.1 dX1_firstOf_16 (lv_at hl 0 rfl) ?_
    refine cV_i E (As := [.int (nI c), .int (nI t)]) (rest := []) (cR_isFirst l D ad ca T n kc ko kv k cd c t hIK (by omega) (by omega)) kR_79 hK hP 0 rfl rfl rfl rfl ⟨Nat.le_of_ble_eq_true rfl, Nat.le_of_ble_eq_true rfl⟩ rfl hl.1 rfl (Nat.le_of_ble_eq_true rfl) dX1_firstOf_18 ⟨Nat.zero_le _, Nat.zero_le _⟩ ?_
    refine b_if_eq (tgt := 104) E dX1_firstOf_21 rfl (fun h21 => ?_) (fun h21 => ?_)
    · skip
      refine lv_iinc (k := 0) (v := nI (t + 1)) (lv' := [(4, .int (nI (t + 1))), (3, .int (nI (if r < t then r else 0))), (0, .ref (ad 0)), (1, .int (nI c)), (2, .int (nI i))]) E.1 E.2.1 dX1_firstOf_104 hl rfl (inc1 _) (by decide) rfl (fun ls hl => ?_)
      refine lv_goto (tgt := 5) E.1 E.2.1 dX1_firstOf_107 rfl ?_
      rw [fo_f (t := t) (r := r) (fun e => by rw [← e, hrF] at h21; cases h21)] at hl
      exact ih5 (t + 1) _ (by omega) (by omega) (lv_sub hl [0, 1, 2, 3, 4] rfl)
    · skip
      refine lv_iconst (v := nI 0) E.1 E.2.1 dX1_firstOf_24 rfl ?_
      refine lv_istore (lv' := [(5, .int (nI 0)), (4, .int (nI t)), (3, .int (nI (if r < t then r else 0))), (0, .ref (ad 0)), (1, .int (nI c)), (2, .int (nI i))]) E.1 E.2.1 dX1_firstOf_25 hl (by decide) rfl (fun ls hl => ?_)
      refine lv_iconst (v := nI 0) E.1 E.2.1 dX1_firstOf_27 rfl ?_
      refine lv_istore (lv' := [(6, .int (nI 0)), (5, .int (nI 0)), (4, .int (nI t)), (3, .int (nI (if r < t then r else 0))), (0, .ref (ad 0)), (1, .int (nI c)), (2, .int (nI i))]) E.1 E.2.1 dX1_firstOf_28 hl (by decide) rfl (fun ls hl => ?_)
      refine w_lp1 (fun (u : Nat) => u ≤ n) (fun (u : Nat) => n - u) (fun (u : Nat) => [(6, .int (nI u)), (5, .int (nI (ct (fun u => isF (ch T kc ko kv k) T c u && decide (T u c < T t c)) u))), (4, .int (nI t)), (3, .int (nI (if r < t then r else 0))), (0, .ref (ad 0)), (1, .int (nI c)), (2, .int (nI i))]) 0 (Nat.zero_le _) (lv_sub hl [0, 1, 2, 3, 4, 5, 6] rfl) (fun u ls hI hl ih30 => ?_)
      have hl : lv_has ls 7 [(6, .int (nI u)), (5, .int (nI (ct (fun u => isF (ch T kc ko kv k) T c u && decide (T u c < T t c)) u))), (4, .int (nI t)), (3, .int (nI (if r < t then r else 0))), (0, .ref (ad 0)), (1, .int (nI c)), (2, .int (nI i))] := hl
      refine lv_iload E.1 E.2.1 dX1_firstOf_30 (lv_at hl 0 rfl) ?_
      refine lv_aload_n E.1 E.2.1 dX1_firstOf_32 rfl (lv_at hl 4 rfl) ?_
      refine n_get E inR hK hP 0 rfl rfl 1 (by decide) flR_27 rfl rfl dX1_firstOf_33 ?_
      refine n_icmp_ge (tgt := 91) E dX1_firstOf_36 rfl (by omega) (by omega) (fun h36 => ?_) (fun h36 => ?_)
      · skip
        have e9 : u = n := by omega
        rw [e9] at hl
        have hctn := ct_le (fun u => isF (ch T kc ko kv k) T c u && decide (T u c < T t c)) n
        refine lv_iload E.1 E.2.1 dX1_firstOf_91 (lv_at hl 1 rfl) ?_
        refine lv_iload_n E.1 E.2.1 dX1_firstOf_93 rfl (lv_at hl 6 rfl) ?_
        refine n_icmp_ne (tgt := 102) E dX1_firstOf_94 rfl (by omega) (by omega) (fun h94 => ?_) (fun h94 => ?_)
        · skip
          refine lv_iload_n E.1 E.2.1 dX1_firstOf_102 rfl (lv_at hl 3 rfl) ?_
          refine tpi (y := nI (if r < t + 1 then r else 0)) (congrArg nI (fo_f (fun e => h94 (by rw [← e]; exact hrc)))) ?_
          refine lv_istore_n (lv' := [(3, .int (nI (if r < t + 1 then r else 0))), (6, .int (nI n)), (5, .int (nI (ct (fun u => isF (ch T kc ko kv k) T c u && decide (T u c < T t c)) n))), (4, .int (nI t)), (0, .ref (ad 0)), (1, .int (nI c)), (2, .int (nI i))]) E.1 E.2.1 dX1_firstOf_103 rfl hl (by decide) rfl (fun ls hl => ?_)
          refine lv_iinc (k := 3) (v := nI (t + 1)) (lv' := [(4, .int (nI (t + 1))), (3, .int (nI (if r < t + 1 then r else 0))), (6, .int (nI n)), (5, .int (nI (ct (fun u => isF (ch T kc ko kv k) T c u && decide (T u c < T t c)) n))), (0, .ref (ad 0)), (1, .int (nI c)), (2, .int (nI i))]) E.1 E.2.1 dX1_firstOf_104 hl rfl (inc1 _) (by decide) rfl (fun ls hl => ?_)
          refine lv_goto (tgt := 5) E.1 E.2.1 dX1_firstOf_107 rfl ?_
          exact ih5 (t + 1) _ (by omega) (by omega) (lv_sub hl [0, 1, 4, 5, 6] rfl)
        · skip
          refine lv_iload E.1 E.2.1 dX1_firstOf_97 (lv_at hl 2 rfl) ?_
          refine lv_goto (tgt := 103) E.1 E.2.1 dX1_firstOf_99 rfl ?_
          refine tpi (y := nI (if r < t + 1 then r else 0)) (congrArg nI (fo_t (hru t (by omega) h21 h94))) ?_
          refine lv_istore_n (lv' := [(3, .int (nI (if r < t + 1 then r else 0))), (6, .int (nI n)), (5, .int (nI (ct (fun u => isF (ch T kc ko kv k) T c u && decide (T u c < T t c)) n))), (4, .int (nI t)), (0, .ref (ad 0)), (1, .int (nI c)), (2, .int (nI i))]) E.1 E.2.1 dX1_firstOf_103 rfl hl (by decide) rfl (fun ls hl => ?_)
          refine lv_iinc (k := 3) (v := nI (t + 1)) (lv' := [(4, .int (nI (t + 1))), (3, .int (nI (if r < t + 1 then r else 0))), (6, .int (nI n)), (5, .int (nI (ct (fun u => isF (ch T kc ko kv k) T c u && decide (T u c < T t c)) n))), (0, .ref (ad 0)), (1, .int (nI c)), (2, .int (nI i))]) E.1 E.2.1 dX1_firstOf_104 hl rfl (inc1 _) (by decide) rfl (fun ls hl => ?_)
          refine lv_goto (tgt := 5) E.1 E.2.1 dX1_firstOf_107 rfl ?_
          exact ih5 (t + 1) _ (by omega) (by omega) (lv_sub hl [0, 1, 4, 5, 6] rfl)
      · skip
        refine lv_iload E.1 E.2.1 dX1_firstOf_39 (lv_at hl 1 rfl) ?_
        refine lv_aload_n E.1 E.2.1 dX1_firstOf_41 rfl (lv_at hl 4 rfl) ?_
        refine lv_iload_n E.1 E.2.1 dX1_firstOf_42 rfl (lv_at hl 5 rfl) ?_
        refine lv_iload E.1 E.2.1 dX1_firstOf_43 (lv_at hl 0 rfl) ?_
        refine cV_i E (As := [.int (nI c), .int (nI u)]) (rest := [.int (nI (ct (fun u => isF (ch T kc ko kv k) T c u && decide (T u c < T t c)) u))]) (cR_isFirst l D ad ca T n kc ko kv k cd c u hIK (by omega) (by omega)) kR_79 hK hP 0 rfl rfl rfl rfl ⟨Nat.le_of_ble_eq_true rfl, Nat.le_of_ble_eq_true rfl⟩ rfl hl.1 rfl (Nat.le_of_ble_eq_true rfl) dX1_firstOf_45 ⟨Nat.zero_le _, Nat.zero_le _⟩ ?_
        refine b_if_eq (tgt := 81) E dX1_firstOf_48 rfl (fun h48 => ?_) (fun h48 => ?_)
        · skip
          refine lv_iconst (v := nI 0) E.1 E.2.1 dX1_firstOf_81 rfl ?_
          refine n_iadd E dX1_firstOf_82 ?_
          refine lv_istore (lv' := [(5, .int (nI (ct (fun u => isF (ch T kc ko kv k) T c u && decide (T u c < T t c)) u + 0))), (6, .int (nI u)), (4, .int (nI t)), (3, .int (nI (if r < t then r else 0))), (0, .ref (ad 0)), (1, .int (nI c)), (2, .int (nI i))]) E.1 E.2.1 dX1_firstOf_83 hl (by decide) rfl (fun ls hl => ?_)
          refine lv_iinc (k := 1) (v := nI (u + 1)) (lv' := [(6, .int (nI (u + 1))), (5, .int (nI (ct (fun u => isF (ch T kc ko kv k) T c u && decide (T u c < T t c)) u + 0))), (4, .int (nI t)), (3, .int (nI (if r < t then r else 0))), (0, .ref (ad 0)), (1, .int (nI c)), (2, .int (nI i))]) E.1 E.2.1 dX1_firstOf_85 hl rfl (inc1 _) (by decide) rfl (fun ls hl => ?_)
          refine lv_goto (tgt := 30) E.1 E.2.1 dX1_firstOf_88 rfl ?_
          rw [← ct_f (p := (fun u => isF (ch T kc ko kv k) T c u && decide (T u c < T t c))) (by simp [h48])] at hl
          exact ih30 (u + 1) _ (by omega) (by omega) (lv_sub hl [0, 1, 2, 3, 4, 5, 6] rfl)
        · skip
          refine lv_aload_n E.1 E.2.1 dX1_firstOf_51 rfl (lv_at hl 4 rfl) ?_
          refine n_get E inR hK hP 0 rfl rfl 2 (by decide) flR_7 rfl rfl dX1_firstOf_52 ?_
          refine lv_iconst (v := nI 4) E.1 E.2.1 dX1_firstOf_55 rfl ?_
          refine lv_iload E.1 E.2.1 dX1_firstOf_56 (lv_at hl 0 rfl) ?_
          refine n_imul E dX1_firstOf_58 ?_
          refine lv_iload_n E.1 E.2.1 dX1_firstOf_59 rfl (lv_at hl 5 rfl) ?_
          refine n_iadd E dX1_firstOf_60 ?_
          refine n_rald E hK hP 1 0 rfl rfl u c (by omega) (by omega) (by omega) dX1_firstOf_61 ?_
          refine lv_aload_n E.1 E.2.1 dX1_firstOf_62 rfl (lv_at hl 4 rfl) ?_
          refine n_get E inR hK hP 0 rfl rfl 2 (by decide) flR_7 rfl rfl dX1_firstOf_63 ?_
          refine lv_iconst (v := nI 4) E.1 E.2.1 dX1_firstOf_66 rfl ?_
          refine lv_iload E.1 E.2.1 dX1_firstOf_67 (lv_at hl 2 rfl) ?_
          refine n_imul E dX1_firstOf_69 ?_
          refine lv_iload_n E.1 E.2.1 dX1_firstOf_70 rfl (lv_at hl 5 rfl) ?_
          refine n_iadd E dX1_firstOf_71 ?_
          refine n_rald E hK hP 1 0 rfl rfl t c (by omega) (by omega) (by omega) dX1_firstOf_72 ?_
          refine l_if_ge (tgt := 81) E dX1_firstOf_73 dX1_firstOf_74 rfl (fun h73 => ?_) (fun h73 => ?_)
          · skip
            refine lv_iconst (v := nI 0) E.1 E.2.1 dX1_firstOf_81 rfl ?_
            refine n_iadd E dX1_firstOf_82 ?_
            refine lv_istore (lv' := [(5, .int (nI (ct (fun u => isF (ch T kc ko kv k) T c u && decide (T u c < T t c)) u + 0))), (6, .int (nI u)), (4, .int (nI t)), (3, .int (nI (if r < t then r else 0))), (0, .ref (ad 0)), (1, .int (nI c)), (2, .int (nI i))]) E.1 E.2.1 dX1_firstOf_83 hl (by decide) rfl (fun ls hl => ?_)
            refine lv_iinc (k := 1) (v := nI (u + 1)) (lv' := [(6, .int (nI (u + 1))), (5, .int (nI (ct (fun u => isF (ch T kc ko kv k) T c u && decide (T u c < T t c)) u + 0))), (4, .int (nI t)), (3, .int (nI (if r < t then r else 0))), (0, .ref (ad 0)), (1, .int (nI c)), (2, .int (nI i))]) E.1 E.2.1 dX1_firstOf_85 hl rfl (inc1 _) (by decide) rfl (fun ls hl => ?_)
            refine lv_goto (tgt := 30) E.1 E.2.1 dX1_firstOf_88 rfl ?_
            rw [← ct_f (p := (fun u => isF (ch T kc ko kv k) T c u && decide (T u c < T t c))) (by simp [h48, h73])] at hl
            exact ih30 (u + 1) _ (by omega) (by omega) (lv_sub hl [0, 1, 2, 3, 4, 5, 6] rfl)
          · skip
            refine lv_iconst (v := nI 1) E.1 E.2.1 dX1_firstOf_77 rfl ?_
            refine lv_goto (tgt := 82) E.1 E.2.1 dX1_firstOf_78 rfl ?_
            refine n_iadd E dX1_firstOf_82 ?_
            refine lv_istore (lv' := [(5, .int (nI (ct (fun u => isF (ch T kc ko kv k) T c u && decide (T u c < T t c)) u + 1))), (6, .int (nI u)), (4, .int (nI t)), (3, .int (nI (if r < t then r else 0))), (0, .ref (ad 0)), (1, .int (nI c)), (2, .int (nI i))]) E.1 E.2.1 dX1_firstOf_83 hl (by decide) rfl (fun ls hl => ?_)
            refine lv_iinc (k := 1) (v := nI (u + 1)) (lv' := [(6, .int (nI (u + 1))), (5, .int (nI (ct (fun u => isF (ch T kc ko kv k) T c u && decide (T u c < T t c)) u + 1))), (4, .int (nI t)), (3, .int (nI (if r < t then r else 0))), (0, .ref (ad 0)), (1, .int (nI c)), (2, .int (nI i))]) E.1 E.2.1 dX1_firstOf_85 hl rfl (inc1 _) (by decide) rfl (fun ls hl => ?_)
            refine lv_goto (tgt := 30) E.1 E.2.1 dX1_firstOf_88 rfl ?_
            rw [← ct_t (p := (fun u => isF (ch T kc ko kv k) T c u && decide (T u c < T t c))) (by simp [h48, h73])] at hl
            exact ih30 (u + 1) _ (by omega) (by omega) (lv_sub hl [0, 1, 2, 3, 4, 5, 6] rfl)
