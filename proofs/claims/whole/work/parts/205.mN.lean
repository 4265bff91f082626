/-! Contracts of the model: laid by program (wip/whole/gen.py). -/
set_option maxHeartbeats 4000000 in
set_option maxRecDepth 100000 in
theorem cR_width (l : Launch) (x : Int64)  : Met l yX1_width (wA yX1_width cX1_width 5 (some .int)) (rN 0) (va_Pc [.long x] (fun _ => True)) (vp_Si (fun z => z = nI (wd x))) 0 0 (fun _ => False) := by
  refine met_of RX1 rfl (by decide) (Nat.le_of_ble_eq_true rfl) (fun p e s m below meth cd0 ls E hr hlk _ hB hl => ?_)
  have hl : lv_has ls 5 [(0, .long x)] := hl
  refine lv_iconst (v := nI 0) E.1 E.2.1 dX1_width_0 rfl ?_
  refine lv_istore_n (lv' := [(2, .int (nI 0)), (0, .long x)]) E.1 E.2.1 dX1_width_1 rfl hl (by decide) rfl (fun ls hl => ?_)
  refine lv_lload_n E.1 E.2.1 dX1_width_2 rfl (lv_at hl 1 rfl) ?_
  refine lv_lstore_n (lv' := [(3, .long x), (2, .int (nI 0)), (0, .long x)]) E.1 E.2.1 dX1_width_3 rfl hl (by decide) rfl (fun ls hl => ?_)
  refine w_lp2 (fun (j : Nat) (r : Int64) => uN r = uN x / 2 ^ j ∧ j ≤ wd x) (fun (j : Nat) (r : Int64) => wd x - j) (fun (j : Nat) (r : Int64) => [(3, .long r), (2, .int (nI j)), (0, .long x)]) 0 x (⟨by simp, Nat.zero_le _⟩) (lv_sub hl [0, 1, 2] rfl) (fun j r ls hI hl ih4 => ?_)
  have hl : lv_has ls 5 [(3, .long r), (2, .int (nI j)), (0, .long x)] := hl
  obtain ⟨hw1, hw2⟩ := hI
  refine lv_lload_n E.1 E.2.1 dX1_width_4 rfl (lv_at hl 0 rfl) ?_
  refine lv_lconst (v := 0) E.1 E.2.1 dX1_width_5 rfl ?_
  refine l_if_eq (tgt := 20) E dX1_width_6 dX1_width_7 rfl (fun h6 => ?_) (fun h6 => ?_)
  · skip
    refine lv_iload_n E.1 E.2.1 dX1_width_20 rfl (lv_at hl 1 rfl) ?_
    exact e_i E hr hlk (by rw [wd_stop hw1 hw2 h6]) dX1_width_21
  · skip
    refine lv_iinc (k := 1) (v := nI (j + 1)) (lv' := [(2, .int (nI (j + 1))), (3, .long r), (0, .long x)]) E.1 E.2.1 dX1_width_10 hl rfl (inc1 _) (by decide) rfl (fun ls hl => ?_)
    refine lv_lload_n E.1 E.2.1 dX1_width_13 rfl (lv_at hl 1 rfl) ?_
    refine lv_iconst (v := nI 1) E.1 E.2.1 dX1_width_14 rfl ?_
    refine lv_lushr E.1 E.2.1 dX1_width_15 rfl ?_
    refine lv_lstore_n (lv' := [(3, .long ((r.toUInt64 >>> ((nI 1).toInt64.toUInt64 &&& Int64.toUInt64 63)).toInt64)), (2, .int (nI (j + 1))), (0, .long x)]) E.1 E.2.1 dX1_width_16 rfl hl (by decide) rfl (fun ls hl => ?_)
    refine lv_goto (tgt := 4) E.1 E.2.1 dX1_width_17 rfl ?_
    have hw3 := wd_next hw1 h6
    exact ih4 (j + 1) ((r.toUInt64 >>> ((nI 1).toInt64.toUInt64 &&& Int64.toUInt64 63)).toInt64) _ (⟨by rw [uN_sk r (by omega), hw1, Nat.div_div_eq_div_mul, Nat.pow_one, Nat.pow_succ], hw3⟩) (by omega) (lv_sub hl [0, 1, 2] rfl)
set_option maxHeartbeats 4000000 in
set_option maxRecDepth 100000 in
theorem cR_need (l : Launch) (D : va_G) (ad : Nat → Nat) (ca : Nat → ClassId) (T : Nat → Nat → Int64) (n : Nat) (kc ko : Nat → Nat) (kv : Nat → Int64) (k cd : Nat) (b c w : Nat) (hb0 : b < 8) (hc0 : c < 4) (hw0 : w < 4) : Met l yX1_need (wA yX1_need cX1_need 12 (some .int)) (rN 1) (va_Pc [.ref (ad 0), .int (nI b), .int (nI c), .int (nI w)] (pW D c2 (tR ca) (wR ad ca T n kc ko kv k cd))) (vp_Si (fun z => z = nI (ndz (xb T b c) (cb c) w))) 0 0 (fun _ => False) := by
  refine met_of RX1 rfl (by decide) (Nat.le_of_ble_eq_true rfl) (fun p e s m below meth cd0 ls E hr hlk _ hB hl => ?_)
  obtain ⟨hP, hK⟩ := hB
  have hl : lv_has ls 12 [(0, .ref (ad 0)), (1, .int (nI b)), (2, .int (nI c)), (3, .int (nI w))] := hl
  refine lv_iload_n E.1 E.2.1 dX1_need_0 rfl (lv_at hl 2 rfl) ?_
  refine lv_iconst (v := nI 3) E.1 E.2.1 dX1_need_1 rfl ?_
  refine n_icmp_ne (tgt := 10) E dX1_need_2 rfl (by omega) (by omega) (fun h2 => ?_) (fun h2 => ?_)
  · skip
    refine lv_bipush (v := nI 32) E.1 E.2.1 dX1_need_10 rfl ?_
    refine tpi (y := nI (cb c)) (by rw [cb, if_neg h2]) ?_
    refine lv_istore (lv' := [(4, .int (nI (cb c))), (0, .ref (ad 0)), (1, .int (nI b)), (2, .int (nI c)), (3, .int (nI w))]) E.1 E.2.1 dX1_need_12 hl (by decide) rfl (fun ls hl => ?_)
    have hcb := cb_le c
    refine lv_iload_n E.1 E.2.1 dX1_need_14 rfl (lv_at hl 4 rfl) ?_
    refine n_if_ne (tgt := 24) E dX1_need_15 rfl (by omega) (fun h15 => ?_) (fun h15 => ?_)
    · skip
      refine lv_iload_n E.1 E.2.1 dX1_need_24 rfl (lv_at hl 4 rfl) ?_
      refine lv_iconst (v := nI 3) E.1 E.2.1 dX1_need_25 rfl ?_
      refine n_icmp_ne (tgt := 59) E dX1_need_26 rfl (by omega) (by omega) (fun h26 => ?_) (fun h26 => ?_)
      · skip
        refine lv_iconst (v := nI 0) E.1 E.2.1 dX1_need_59 rfl ?_
        refine lv_istore (lv' := [(5, .int (nI 0)), (4, .int (nI (cb c))), (0, .ref (ad 0)), (1, .int (nI b)), (2, .int (nI c)), (3, .int (nI w))]) E.1 E.2.1 dX1_need_60 hl (by decide) rfl (fun ls hl => ?_)
        refine lv_iconst (v := nI 0) E.1 E.2.1 dX1_need_62 rfl ?_
        refine lv_istore (lv' := [(6, .int (nI 0)), (5, .int (nI 0)), (4, .int (nI (cb c))), (0, .ref (ad 0)), (1, .int (nI b)), (2, .int (nI c)), (3, .int (nI w))]) E.1 E.2.1 dX1_need_63 hl (by decide) rfl (fun ls hl => ?_)
        refine lv_bipush (v := nI 16) E.1 E.2.1 dX1_need_65 rfl ?_
        refine lv_iload_n E.1 E.2.1 dX1_need_67 rfl (lv_at hl 4 rfl) ?_
        refine n_imul E dX1_need_68 ?_
        refine lv_istore (lv' := [(7, .int (nI (16 * b))), (6, .int (nI 0)), (5, .int (nI 0)), (4, .int (nI (cb c))), (0, .ref (ad 0)), (1, .int (nI b)), (2, .int (nI c)), (3, .int (nI w))]) E.1 E.2.1 dX1_need_69 hl (by decide) rfl (fun ls hl => ?_)
        refine w_lp1 (fun (j : Nat) => j ≤ 16) (fun (j : Nat) => 16 - j) (fun (j : Nat) => [(7, .int (nI (16 * b + j))), (6, .int (nI (ct (fun j => al (fun q => !decide (xb T b c q = xb T b c j)) j) j))), (5, .int (nI (ct (fun j => decide (j = 0) || !decide (xb T b c (j - 1) = xb T b c j)) j))), (4, .int (nI (cb c))), (0, .ref (ad 0)), (1, .int (nI b)), (2, .int (nI c)), (3, .int (nI w))]) 0 (Nat.zero_le _) (lv_sub hl [0, 1, 2, 3, 4, 5, 6, 7] rfl) (fun j ls hI hl ih71 => ?_)
        have hl : lv_has ls 12 [(7, .int (nI (16 * b + j))), (6, .int (nI (ct (fun j => al (fun q => !decide (xb T b c q = xb T b c j)) j) j))), (5, .int (nI (ct (fun j => decide (j = 0) || !decide (xb T b c (j - 1) = xb T b c j)) j))), (4, .int (nI (cb c))), (0, .ref (ad 0)), (1, .int (nI b)), (2, .int (nI c)), (3, .int (nI w))] := hl
        refine lv_iload E.1 E.2.1 dX1_need_71 (lv_at hl 0 rfl) ?_
        refine lv_bipush (v := nI 16) E.1 E.2.1 dX1_need_73 rfl ?_
        refine lv_iload_n E.1 E.2.1 dX1_need_75 rfl (lv_at hl 5 rfl) ?_
        refine n_imul E dX1_need_76 ?_
        refine lv_bipush (v := nI 16) E.1 E.2.1 dX1_need_77 rfl ?_
        refine n_iadd E dX1_need_79 ?_
        refine n_icmp_ge (tgt := 206) E dX1_need_80 rfl (by omega) (by omega) (fun h80 => ?_) (fun h80 => ?_)
        · skip
          have e16 : j = 16 := by omega
          subst e16
          have hrr : ct (fun j => decide (j = 0) || !decide (xb T b c (j - 1) = xb T b c j)) 16 = rns (xb T b c) := rns_eq _
          have hww : ct (fun j => al (fun q => !decide (xb T b c q = xb T b c j)) j) 16 = wds (xb T b c) := wds_eq _
          rw [hrr, hww] at hl
          have hwp := wds_pos (xb T b c)
          have hwl := wds_le (xb T b c)
          refine lv_iload_n E.1 E.2.1 dX1_need_206 rfl (lv_at hl 7 rfl) ?_
          refine lv_iconst (v := nI 1) E.1 E.2.1 dX1_need_207 rfl ?_
          refine n_icmp_ne (tgt := 221) E dX1_need_208 rfl (by omega) (by omega) (fun h208 => ?_) (fun h208 => ?_)
          · skip
            refine lv_iload E.1 E.2.1 dX1_need_221 (lv_at hl 3 rfl) ?_
            refine lv_iload E.1 E.2.1 dX1_need_223 (lv_at hl 1 rfl) ?_
            refine n_imul E dX1_need_225 ?_
            refine lv_bipush (v := nI 16) E.1 E.2.1 dX1_need_226 rfl ?_
            refine lv_iload E.1 E.2.1 dX1_need_228 (lv_at hl 1 rfl) ?_
            refine n_i2l E (by omega) dX1_need_230 ?_
            refine lv_lconst (v := 1) E.1 E.2.1 dX1_need_231 rfl ?_
            refine lv_lsub E.1 E.2.1 dX1_need_232 ?_
            refine tpl (y := lN (wds (xb T b c) - 1)) (lN_sub hwp) ?_
            refine cS_i E (As := [.long (lN (wds (xb T b c) - 1))]) (rest := [.int (nI 16), .int (nI ((cb c) * (wds (xb T b c))))]) (cR_width l (lN (wds (xb T b c) - 1))) kR_59 rfl rfl ⟨Nat.le_of_ble_eq_true rfl, Nat.le_of_ble_eq_true rfl⟩ rfl hl.1 rfl (Nat.le_of_ble_eq_true rfl) dX1_need_233 ⟨Nat.zero_le _, Nat.zero_le _⟩ ?_
            refine n_imul E dX1_need_236 ?_
            refine n_iadd E dX1_need_237 ?_
            exact e_i E hr hlk (congrArg nI (by rw [ndz, if_neg h15, if_neg h26, if_neg h208, zW, Nat.mul_comm (cb c)])) dX1_need_238
          · skip
            refine lv_iload E.1 E.2.1 dX1_need_211 (lv_at hl 3 rfl) ?_
            refine lv_iconst (v := nI 5) E.1 E.2.1 dX1_need_213 rfl ?_
            refine n_iadd E dX1_need_214 ?_
            refine lv_iload E.1 E.2.1 dX1_need_215 (lv_at hl 2 rfl) ?_
            refine n_imul E dX1_need_217 ?_
            refine lv_goto (tgt := 238) E.1 E.2.1 dX1_need_218 rfl ?_
            exact e_i E hr hlk (congrArg nI (by rw [ndz, if_neg h15, if_neg h26, if_pos h208, zR, Nat.mul_comm])) dX1_need_238
        · skip
          refine lv_aload_n E.1 E.2.1 dX1_need_83 rfl (lv_at hl 4 rfl) ?_
          refine n_get E inR hK hP 0 rfl rfl 2 (by decide) flR_7 rfl rfl dX1_need_84 ?_
          refine lv_iconst (v := nI 4) E.1 E.2.1 dX1_need_87 rfl ?_
          refine lv_iload E.1 E.2.1 dX1_need_88 (lv_at hl 0 rfl) ?_
          refine n_imul E dX1_need_90 ?_
          refine lv_iload_n E.1 E.2.1 dX1_need_91 rfl (lv_at hl 6 rfl) ?_
          refine n_iadd E dX1_need_92 ?_
          refine n_rald E hK hP 1 0 rfl rfl (16 * b + j) c (by omega) (by omega) (by omega) dX1_need_93 ?_
          refine lv_lstore (lv' := [(8, .long (T (16 * b + j) c)), (7, .int (nI (16 * b + j))), (6, .int (nI (ct (fun j => al (fun q => !decide (xb T b c q = xb T b c j)) j) j))), (5, .int (nI (ct (fun j => decide (j = 0) || !decide (xb T b c (j - 1) = xb T b c j)) j))), (4, .int (nI (cb c))), (0, .ref (ad 0)), (1, .int (nI b)), (2, .int (nI c)), (3, .int (nI w))]) E.1 E.2.1 dX1_need_94 hl (by decide) rfl (fun ls hl => ?_)
          refine lv_iconst (v := nI 1) E.1 E.2.1 dX1_need_96 rfl ?_
          refine lv_istore (lv' := [(10, .int (nI 1)), (8, .long (T (16 * b + j) c)), (7, .int (nI (16 * b + j))), (6, .int (nI (ct (fun j => al (fun q => !decide (xb T b c q = xb T b c j)) j) j))), (5, .int (nI (ct (fun j => decide (j = 0) || !decide (xb T b c (j - 1) = xb T b c j)) j))), (4, .int (nI (cb c))), (0, .ref (ad 0)), (1, .int (nI b)), (2, .int (nI c)), (3, .int (nI w))]) E.1 E.2.1 dX1_need_97 hl (by decide) rfl (fun ls hl => ?_)
          refine lv_bipush (v := nI 16) E.1 E.2.1 dX1_need_99 rfl ?_
          refine lv_iload_n E.1 E.2.1 dX1_need_101 rfl (lv_at hl 7 rfl) ?_
          refine n_imul E dX1_need_102 ?_
          refine lv_istore (lv' := [(11, .int (nI (16 * b))), (10, .int (nI 1)), (8, .long (T (16 * b + j) c)), (7, .int (nI (16 * b + j))), (6, .int (nI (ct (fun j => al (fun q => !decide (xb T b c q = xb T b c j)) j) j))), (5, .int (nI (ct (fun j => decide (j = 0) || !decide (xb T b c (j - 1) = xb T b c j)) j))), (4, .int (nI (cb c))), (0, .ref (ad 0)), (1, .int (nI b)), (2, .int (nI c)), (3, .int (nI w))]) E.1 E.2.1 dX1_need_103 hl (by decide) rfl (fun ls hl => ?_)
          refine w_lp1 (fun (i : Nat) => i ≤ j) (fun (i : Nat) => j - i) (fun (i : Nat) => [(11, .int (nI (16 * b + i))), (10, .int (bI (al (fun q => !decide (xb T b c q = xb T b c j)) i))), (7, .int (nI (16 * b + j))), (8, .long (T (16 * b + j) c)), (6, .int (nI (ct (fun j => al (fun q => !decide (xb T b c q = xb T b c j)) j) j))), (5, .int (nI (ct (fun j => decide (j = 0) || !decide (xb T b c (j - 1) = xb T b c j)) j))), (4, .int (nI (cb c))), (0, .ref (ad 0)), (1, .int (nI b)), (2, .int (nI c)), (3, .int (nI w))]) 0 (Nat.zero_le _) (lv_sub hl [0, 1, 3, 2, 4, 5, 6, 7, 8, 9, 10] rfl) (fun i ls hI hl ih105 => ?_)
          have hl : lv_has ls 12 [(11, .int (nI (16 * b + i))), (10, .int (bI (al (fun q => !decide (xb T b c q = xb T b c j)) i))), (7, .int (nI (16 * b + j))), (8, .long (T (16 * b + j) c)), (6, .int (nI (ct (fun j => al (fun q => !decide (xb T b c q = xb T b c j)) j) j))), (5, .int (nI (ct (fun j => decide (j = 0) || !decide (xb T b c (j - 1) = xb T b c j)) j))), (4, .int (nI (cb c))), (0, .ref (ad 0)), (1, .int (nI b)), (2, .int (nI c)), (3, .int (nI w))] := hl
          refine lv_iload E.1 E.2.1 dX1_need_105 (lv_at hl 0 rfl) ?_
          refine lv_iload E.1 E.2.1 dX1_need_107 (lv_at hl 2 rfl) ?_
          refine n_icmp_ge (tgt := 147) E dX1_need_109 rfl (by omega) (by omega) (fun h109 => ?_) (fun h109 => ?_)
          · skip
            have e9 : i = j := by omega
            rw [e9] at hl
            refine lv_iload E.1 E.2.1 dX1_need_147 (lv_at hl 4 rfl) ?_
            refine lv_iload E.1 E.2.1 dX1_need_149 (lv_at hl 1 rfl) ?_
            refine b_if_eq (tgt := 158) E dX1_need_151 rfl (fun h151 => ?_) (fun h151 => ?_)
            · skip
              refine lv_iconst (v := nI 0) E.1 E.2.1 dX1_need_158 rfl ?_
              refine n_iadd E dX1_need_159 ?_
              refine tpi (y := nI (ct (fun j => al (fun q => !decide (xb T b c q = xb T b c j)) j) (j + 1))) (congrArg nI (ct_f (p := (fun j => al (fun q => !decide (xb T b c q = xb T b c j)) j)) h151).symm) ?_
              refine lv_istore (lv' := [(6, .int (nI (ct (fun j => al (fun q => !decide (xb T b c q = xb T b c j)) j) (j + 1)))), (11, .int (nI (16 * b + j))), (10, .int (bI (al (fun q => !decide (xb T b c q = xb T b c j)) j))), (7, .int (nI (16 * b + j))), (8, .long (T (16 * b + j) c)), (5, .int (nI (ct (fun j => decide (j = 0) || !decide (xb T b c (j - 1) = xb T b c j)) j))), (4, .int (nI (cb c))), (0, .ref (ad 0)), (1, .int (nI b)), (2, .int (nI c)), (3, .int (nI w))]) E.1 E.2.1 dX1_need_160 hl (by decide) rfl (fun ls hl => ?_)
              refine lv_iload E.1 E.2.1 dX1_need_162 (lv_at hl 5 rfl) ?_
              refine lv_iload E.1 E.2.1 dX1_need_164 (lv_at hl 3 rfl) ?_
              refine lv_bipush (v := nI 16) E.1 E.2.1 dX1_need_166 rfl ?_
              refine lv_iload_n E.1 E.2.1 dX1_need_168 rfl (lv_at hl 8 rfl) ?_
              refine n_imul E dX1_need_169 ?_
              refine n_icmp_eq (tgt := 192) E dX1_need_170 rfl (by omega) (by omega) (fun h170 => ?_) (fun h170 => ?_)
              · skip
                refine lv_iconst (v := nI 1) E.1 E.2.1 dX1_need_192 rfl ?_
                refine lv_goto (tgt := 197) E.1 E.2.1 dX1_need_193 rfl ?_
                refine n_iadd E dX1_need_197 ?_
                refine tpi (y := nI (ct (fun j => decide (j = 0) || !decide (xb T b c (j - 1) = xb T b c j)) (j + 1))) (congrArg nI (ct_t (p := (fun j => decide (j = 0) || !decide (xb T b c (j - 1) = xb T b c j))) (by simp [show j = 0 by omega])).symm) ?_
                refine lv_istore (lv' := [(5, .int (nI (ct (fun j => decide (j = 0) || !decide (xb T b c (j - 1) = xb T b c j)) (j + 1)))), (6, .int (nI (ct (fun j => al (fun q => !decide (xb T b c q = xb T b c j)) j) (j + 1)))), (11, .int (nI (16 * b + j))), (10, .int (bI (al (fun q => !decide (xb T b c q = xb T b c j)) j))), (7, .int (nI (16 * b + j))), (8, .long (T (16 * b + j) c)), (4, .int (nI (cb c))), (0, .ref (ad 0)), (1, .int (nI b)), (2, .int (nI c)), (3, .int (nI w))]) E.1 E.2.1 dX1_need_198 hl (by decide) rfl (fun ls hl => ?_)
                refine lv_iinc (k := 4) (v := nI (16 * b + j + 1)) (lv' := [(7, .int (nI (16 * b + j + 1))), (5, .int (nI (ct (fun j => decide (j = 0) || !decide (xb T b c (j - 1) = xb T b c j)) (j + 1)))), (6, .int (nI (ct (fun j => al (fun q => !decide (xb T b c q = xb T b c j)) j) (j + 1)))), (11, .int (nI (16 * b + j))), (10, .int (bI (al (fun q => !decide (xb T b c q = xb T b c j)) j))), (8, .long (T (16 * b + j) c)), (4, .int (nI (cb c))), (0, .ref (ad 0)), (1, .int (nI b)), (2, .int (nI c)), (3, .int (nI w))]) E.1 E.2.1 dX1_need_200 hl rfl (inc1 _) (by decide) rfl (fun ls hl => ?_)
                refine lv_goto (tgt := 71) E.1 E.2.1 dX1_need_203 rfl ?_
                exact ih71 (j + 1) _ (by omega) (by omega) (lv_sub hl [0, 2, 1, 6, 7, 8, 9, 10] rfl)
              · skip
                refine lv_aload_n E.1 E.2.1 dX1_need_173 rfl (lv_at hl 7 rfl) ?_
                refine n_get E inR hK hP 0 rfl rfl 2 (by decide) flR_7 rfl rfl dX1_need_174 ?_
                refine lv_iconst (v := nI 4) E.1 E.2.1 dX1_need_177 rfl ?_
                refine lv_iload E.1 E.2.1 dX1_need_178 (lv_at hl 3 rfl) ?_
                refine n_imul E dX1_need_180 ?_
                refine lv_iconst (v := nI 4) E.1 E.2.1 dX1_need_181 rfl ?_
                refine n_isub E (by omega) dX1_need_182 ?_
                refine lv_iload_n E.1 E.2.1 dX1_need_183 rfl (lv_at hl 9 rfl) ?_
                refine n_iadd E dX1_need_184 ?_
                refine n_rald E hK hP 1 0 rfl rfl (16 * b + (j - 1)) c (by omega) (by omega) (by omega) dX1_need_185 ?_
                refine lv_lload E.1 E.2.1 dX1_need_186 (lv_at hl 4 rfl) ?_
                refine l_if_eq (tgt := 196) E dX1_need_188 dX1_need_189 rfl (fun h188 => ?_) (fun h188 => ?_)
                · skip
                  refine lv_iconst (v := nI 0) E.1 E.2.1 dX1_need_196 rfl ?_
                  refine n_iadd E dX1_need_197 ?_
                  refine tpi (y := nI (ct (fun j => decide (j = 0) || !decide (xb T b c (j - 1) = xb T b c j)) (j + 1))) (congrArg nI (ct_f (p := (fun j => decide (j = 0) || !decide (xb T b c (j - 1) = xb T b c j))) (by rw [nd_t (show xb T b c (j - 1) = xb T b c j from h188), decide_eq_false (show ¬ j = 0 by omega)]; rfl)).symm) ?_
                  refine lv_istore (lv' := [(5, .int (nI (ct (fun j => decide (j = 0) || !decide (xb T b c (j - 1) = xb T b c j)) (j + 1)))), (6, .int (nI (ct (fun j => al (fun q => !decide (xb T b c q = xb T b c j)) j) (j + 1)))), (11, .int (nI (16 * b + j))), (10, .int (bI (al (fun q => !decide (xb T b c q = xb T b c j)) j))), (7, .int (nI (16 * b + j))), (8, .long (T (16 * b + j) c)), (4, .int (nI (cb c))), (0, .ref (ad 0)), (1, .int (nI b)), (2, .int (nI c)), (3, .int (nI w))]) E.1 E.2.1 dX1_need_198 hl (by decide) rfl (fun ls hl => ?_)
                  refine lv_iinc (k := 4) (v := nI (16 * b + j + 1)) (lv' := [(7, .int (nI (16 * b + j + 1))), (5, .int (nI (ct (fun j => decide (j = 0) || !decide (xb T b c (j - 1) = xb T b c j)) (j + 1)))), (6, .int (nI (ct (fun j => al (fun q => !decide (xb T b c q = xb T b c j)) j) (j + 1)))), (11, .int (nI (16 * b + j))), (10, .int (bI (al (fun q => !decide (xb T b c q = xb T b c j)) j))), (8, .long (T (16 * b + j) c)), (4, .int (nI (cb c))), (0, .ref (ad 0)), (1, .int (nI b)), (2, .int (nI c)), (3, .int (nI w))]) E.1 E.2.1 dX1_need_200 hl rfl (inc1 _) (by decide) rfl (fun ls hl => ?_)
                  refine lv_goto (tgt := 71) E.1 E.2.1 dX1_need_203 rfl ?_
                  exact ih71 (j + 1) _ (by omega) (by omega) (lv_sub hl [0, 2, 1, 6, 7, 8, 9, 10] rfl)
                · skip
                  refine lv_iconst (v := nI 1) E.1 E.2.1 dX1_need_192 rfl ?_
                  refine lv_goto (tgt := 197) E.1 E.2.1 dX1_need_193 rfl ?_
                  refine n_iadd E dX1_need_197 ?_
                  refine tpi (y := nI (ct (fun j => decide (j = 0) || !decide (xb T b c (j - 1) = xb T b c j)) (j + 1))) (congrArg nI (ct_t (p := (fun j => decide (j = 0) || !decide (xb T b c (j - 1) = xb T b c j))) (by rw [nd_f (show ¬ xb T b c (j - 1) = xb T b c j from h188), Bool.or_true])).symm) ?_
                  refine lv_istore (lv' := [(5, .int (nI (ct (fun j => decide (j = 0) || !decide (xb T b c (j - 1) = xb T b c j)) (j + 1)))), (6, .int (nI (ct (fun j => al (fun q => !decide (xb T b c q = xb T b c j)) j) (j + 1)))), (11, .int (nI (16 * b + j))), (10, .int (bI (al (fun q => !decide (xb T b c q = xb T b c j)) j))), (7, .int (nI (16 * b + j))), (8, .long (T (16 * b + j) c)), (4, .int (nI (cb c))), (0, .ref (ad 0)), (1, .int (nI b)), (2, .int (nI c)), (3, .int (nI w))]) E.1 E.2.1 dX1_need_198 hl (by decide) rfl (fun ls hl => ?_)
                  refine lv_iinc (k := 4) (v := nI (16 * b + j + 1)) (lv' := [(7, .int (nI (16 * b + j + 1))), (5, .int (nI (ct (fun j => decide (j = 0) || !decide (xb T b c (j - 1) = xb T b c j)) (j + 1)))), (6, .int (nI (ct (fun j => al (fun q => !decide (xb T b c q = xb T b c j)) j) (j + 1)))), (11, .int (nI (16 * b + j))), (10, .int (bI (al (fun q => !decide (xb T b c q = xb T b c j)) j))), (8, .long (T (16 * b + j) c)), (4, .int (nI (cb c))), (0, .ref (ad 0)), (1, .int (nI b)), (2, .int (nI c)), (3, .int (nI w))]) E.1 E.2.1 dX1_need_200 hl rfl (inc1 _) (by decide) rfl (fun ls hl => ?_)
                  refine lv_goto (tgt := 71) E.1 E.2.1 dX1_need_203 rfl ?_
                  exact ih71 (j + 1) _ (by omega) (by omega) (lv_sub hl [0, 2, 1, 6, 7, 8, 9, 10] rfl)
            · skip
              refine lv_iconst (v := nI 1) E.1 E.2.1 dX1_need_154 rfl ?_
              refine lv_goto (tgt := 159) E.1 E.2.1 dX1_need_155 rfl ?_
              refine n_iadd E dX1_need_159 ?_
              refine tpi (y := nI (ct (fun j => al (fun q => !decide (xb T b c q = xb T b c j)) j) (j + 1))) (congrArg nI (ct_t (p := (fun j => al (fun q => !decide (xb T b c q = xb T b c j)) j)) h151).symm) ?_
              refine lv_istore (lv' := [(6, .int (nI (ct (fun j => al (fun q => !decide (xb T b c q = xb T b c j)) j) (j + 1)))), (11, .int (nI (16 * b + j))), (10, .int (bI (al (fun q => !decide (xb T b c q = xb T b c j)) j))), (7, .int (nI (16 * b + j))), (8, .long (T (16 * b + j) c)), (5, .int (nI (ct (fun j => decide (j = 0) || !decide (xb T b c (j - 1) = xb T b c j)) j))), (4, .int (nI (cb c))), (0, .ref (ad 0)), (1, .int (nI b)), (2, .int (nI c)), (3, .int (nI w))]) E.1 E.2.1 dX1_need_160 hl (by decide) rfl (fun ls hl => ?_)
              refine lv_iload E.1 E.2.1 dX1_need_162 (lv_at hl 5 rfl) ?_
              refine lv_iload E.1 E.2.1 dX1_need_164 (lv_at hl 3 rfl) ?_
              refine lv_bipush (v := nI 16) E.1 E.2.1 dX1_need_166 rfl ?_
              refine lv_iload_n E.1 E.2.1 dX1_need_168 rfl (lv_at hl 8 rfl) ?_
              refine n_imul E dX1_need_169 ?_
              refine n_icmp_eq (tgt := 192) E dX1_need_170 rfl (by omega) (by omega) (fun h170 => ?_) (fun h170 => ?_)
              · skip
                refine lv_iconst (v := nI 1) E.1 E.2.1 dX1_need_192 rfl ?_
                refine lv_goto (tgt := 197) E.1 E.2.1 dX1_need_193 rfl ?_
                refine n_iadd E dX1_need_197 ?_
                refine tpi (y := nI (ct (fun j => decide (j = 0) || !decide (xb T b c (j - 1) = xb T b c j)) (j + 1))) (congrArg nI (ct_t (p := (fun j => decide (j = 0) || !decide (xb T b c (j - 1) = xb T b c j))) (by simp [show j = 0 by omega])).symm) ?_
                refine lv_istore (lv' := [(5, .int (nI (ct (fun j => decide (j = 0) || !decide (xb T b c (j - 1) = xb T b c j)) (j + 1)))), (6, .int (nI (ct (fun j => al (fun q => !decide (xb T b c q = xb T b c j)) j) (j + 1)))), (11, .int (nI (16 * b + j))), (10, .int (bI (al (fun q => !decide (xb T b c q = xb T b c j)) j))), (7, .int (nI (16 * b + j))), (8, .long (T (16 * b + j) c)), (4, .int (nI (cb c))), (0, .ref (ad 0)), (1, .int (nI b)), (2, .int (nI c)), (3, .int (nI w))]) E.1 E.2.1 dX1_need_198 hl (by decide) rfl (fun ls hl => ?_)
                refine lv_iinc (k := 4) (v := nI (16 * b + j + 1)) (lv' := [(7, .int (nI (16 * b + j + 1))), (5, .int (nI (ct (fun j => decide (j = 0) || !decide (xb T b c (j - 1) = xb T b c j)) (j + 1)))), (6, .int (nI (ct (fun j => al (fun q => !decide (xb T b c q = xb T b c j)) j) (j + 1)))), (11, .int (nI (16 * b + j))), (10, .int (bI (al (fun q => !decide (xb T b c q = xb T b c j)) j))), (8, .long (T (16 * b + j) c)), (4, .int (nI (cb c))), (0, .ref (ad 0)), (1, .int (nI b)), (2, .int (nI c)), (3, .int (nI w))]) E.1 E.2.1 dX1_need_200 hl rfl (inc1 _) (by decide) rfl (fun ls hl => ?_)
                refine lv_goto (tgt := 71) E.1 E.2.1 dX1_need_203 rfl ?_
                exact ih71 (j + 1) _ (by omega) (by omega) (lv_sub hl [0, 2, 1, 6, 7, 8, 9, 10] rfl)
              · skip
                refine lv_aload_n E.1 E.2.1 dX1_need_173 rfl (lv_at hl 7 rfl) ?_
                refine n_get E inR hK hP 0 rfl rfl 2 (by decide) flR_7 rfl rfl dX1_need_174 ?_
                refine lv_iconst (v := nI 4) E.1 E.2.1 dX1_need_177 rfl ?_
                refine lv_iload E.1 E.2.1 dX1_need_178 (lv_at hl 3 rfl) ?_
                refine n_imul E dX1_need_180 ?_
                refine lv_iconst (v := nI 4) E.1 E.2.1 dX1_need_181 rfl ?_
                refine n_isub E (by omega) dX1_need_182 ?_
                refine lv_iload_n E.1 E.2.1 dX1_need_183 rfl (lv_at hl 9 rfl) ?_
                refine n_iadd E dX1_need_184 ?_
                refine n_rald E hK hP 1 0 rfl rfl (16 * b + (j - 1)) c (by omega) (by omega) (by omega) dX1_need_185 ?_
                refine lv_lload E.1 E.2.1 dX1_need_186 (lv_at hl 4 rfl) ?_
                refine l_if_eq (tgt := 196) E dX1_need_188 dX1_need_189 rfl (fun h188 => ?_) (fun h188 => ?_)
                · skip
                  refine lv_iconst (v := nI 0) E.1 E.2.1 dX1_need_196 rfl ?_
                  refine n_iadd E dX1_need_197 ?_
                  refine tpi (y := nI (ct (fun j => decide (j = 0) || !decide (xb T b c (j - 1) = xb T b c j)) (j + 1))) (congrArg nI (ct_f (p := (fun j => decide (j = 0) || !decide (xb T b c (j - 1) = xb T b c j))) (by rw [nd_t (show xb T b c (j - 1) = xb T b c j from h188), decide_eq_false (show ¬ j = 0 by omega)]; rfl)).symm) ?_
                  refine lv_istore (lv' := [(5, .int (nI (ct (fun j => decide (j = 0) || !decide (xb T b c (j - 1) = xb T b c j)) (j + 1)))), (6, .int (nI (ct (fun j => al (fun q => !decide (xb T b c q = xb T b c j)) j) (j + 1)))), (11, .int (nI (16 * b + j))), (10, .int (bI (al (fun q => !decide (xb T b c q = xb T b c j)) j))), (7, .int (nI (16 * b + j))), (8, .long (T (16 * b + j) c)), (4, .int (nI (cb c))), (0, .ref (ad 0)), (1, .int (nI b)), (2, .int (nI c)), (3, .int (nI w))]) E.1 E.2.1 dX1_need_198 hl (by decide) rfl (fun ls hl => ?_)
                  refine lv_iinc (k := 4) (v := nI (16 * b + j + 1)) (lv' := [(7, .int (nI (16 * b + j + 1))), (5, .int (nI (ct (fun j => decide (j = 0) || !decide (xb T b c (j - 1) = xb T b c j)) (j + 1)))), (6, .int (nI (ct (fun j => al (fun q => !decide (xb T b c q = xb T b c j)) j) (j + 1)))), (11, .int (nI (16 * b + j))), (10, .int (bI (al (fun q => !decide (xb T b c q = xb T b c j)) j))), (8, .long (T (16 * b + j) c)), (4, .int (nI (cb c))), (0, .ref (ad 0)), (1, .int (nI b)), (2, .int (nI c)), (3, .int (nI w))]) E.1 E.2.1 dX1_need_200 hl rfl (inc1 _) (by decide) rfl (fun ls hl => ?_)
                  refine lv_goto (tgt := 71) E.1 E.2.1 dX1_need_203 rfl ?_
                  exact ih71 (j + 1) _ (by omega) (by omega) (lv_sub hl [0, 2, 1, 6, 7, 8, 9, 10] rfl)
                · skip
                  refine lv_iconst (v := nI 1) E.1 E.2.1 dX1_need_192 rfl ?_
                  refine lv_goto (tgt := 197) E.1 E.2.1 dX1_need_193 rfl ?_
                  refine n_iadd E dX1_need_197 ?_
                  refine tpi (y := nI (ct (fun j => decide (j = 0) || !decide (xb T b c (j - 1) = xb T b c j)) (j + 1))) (congrArg nI (ct_t (p := (fun j => decide (j = 0) || !decide (xb T b c (j - 1) = xb T b c j))) (by rw [nd_f (show ¬ xb T b c (j - 1) = xb T b c j from h188), Bool.or_true])).symm) ?_
                  refine lv_istore (lv' := [(5, .int (nI (ct (fun j => decide (j = 0) || !decide (xb T b c (j - 1) = xb T b c j)) (j + 1)))), (6, .int (nI (ct (fun j => al (fun q => !decide (xb T b c q = xb T b c j)) j) (j + 1)))), (11, .int (nI (16 * b + j))), (10, .int (bI (al (fun q => !decide (xb T b c q = xb T b c j)) j))), (7, .int (nI (16 * b + j))), (8, .long (T (16 * b + j) c)), (4, .int (nI (cb c))), (0, .ref (ad 0)), (1, .int (nI b)), (2, .int (nI c)), (3, .int (nI w))]) E.1 E.2.1 dX1_need_198 hl (by decide) rfl (fun ls hl => ?_)
                  refine lv_iinc (k := 4) (v := nI (16 * b + j + 1)) (lv' := [(7, .int (nI (16 * b + j + 1))), (5, .int (nI (ct (fun j => decide (j = 0) || !decide (xb T b c (j - 1) = xb T b c j)) (j + 1)))), (6, .int (nI (ct (fun j => al (fun q => !decide (xb T b c q = xb T b c j)) j) (j + 1)))), (11, .int (nI (16 * b + j))), (10, .int (bI (al (fun q => !decide (xb T b c q = xb T b c j)) j))), (8, .long (T (16 * b + j) c)), (4, .int (nI (cb c))), (0, .ref (ad 0)), (1, .int (nI b)), (2, .int (nI c)), (3, .int (nI w))]) E.1 E.2.1 dX1_need_200 hl rfl (inc1 _) (by decide) rfl (fun ls hl => ?_)
                  refine lv_goto (tgt := 71) E.1 E.2.1 dX1_need_203 rfl ?_
                  exact ih71 (j + 1) _ (by omega) (by omega) (lv_sub hl [0, 2, 1, 6, 7, 8, 9, 10] rfl)
          · skip
            refine lv_iload E.1 E.2.1 dX1_need_112 (lv_at hl 1 rfl) ?_
            refine b_if_eq (tgt := 138) E dX1_need_114 rfl (fun h114 => ?_) (fun h114 => ?_)
            · skip
              refine lv_iconst (v := nI 0) E.1 E.2.1 dX1_need_138 rfl ?_
              refine tpi (y := bI (al (fun q => !decide (xb T b c q = xb T b c j)) (i + 1))) (congrArg bI (al2 h114 rfl).symm) ?_
              refine lv_istore (lv' := [(10, .int (bI (al (fun q => !decide (xb T b c q = xb T b c j)) (i + 1)))), (11, .int (nI (16 * b + i))), (7, .int (nI (16 * b + j))), (8, .long (T (16 * b + j) c)), (6, .int (nI (ct (fun j => al (fun q => !decide (xb T b c q = xb T b c j)) j) j))), (5, .int (nI (ct (fun j => decide (j = 0) || !decide (xb T b c (j - 1) = xb T b c j)) j))), (4, .int (nI (cb c))), (0, .ref (ad 0)), (1, .int (nI b)), (2, .int (nI c)), (3, .int (nI w))]) E.1 E.2.1 dX1_need_139 hl (by decide) rfl (fun ls hl => ?_)
              refine lv_iinc (k := 1) (v := nI (16 * b + i + 1)) (lv' := [(11, .int (nI (16 * b + i + 1))), (10, .int (bI (al (fun q => !decide (xb T b c q = xb T b c j)) (i + 1)))), (7, .int (nI (16 * b + j))), (8, .long (T (16 * b + j) c)), (6, .int (nI (ct (fun j => al (fun q => !decide (xb T b c q = xb T b c j)) j) j))), (5, .int (nI (ct (fun j => decide (j = 0) || !decide (xb T b c (j - 1) = xb T b c j)) j))), (4, .int (nI (cb c))), (0, .ref (ad 0)), (1, .int (nI b)), (2, .int (nI c)), (3, .int (nI w))]) E.1 E.2.1 dX1_need_141 hl rfl (inc1 _) (by decide) rfl (fun ls hl => ?_)
              refine lv_goto (tgt := 105) E.1 E.2.1 dX1_need_144 rfl ?_
              exact ih105 (i + 1) _ (by omega) (by omega) (lv_sub hl [0, 1, 2, 3, 4, 5, 6, 7, 8, 9, 10] rfl)
            · skip
              refine lv_aload_n E.1 E.2.1 dX1_need_117 rfl (lv_at hl 7 rfl) ?_
              refine n_get E inR hK hP 0 rfl rfl 2 (by decide) flR_7 rfl rfl dX1_need_118 ?_
              refine lv_iconst (v := nI 4) E.1 E.2.1 dX1_need_121 rfl ?_
              refine lv_iload E.1 E.2.1 dX1_need_122 (lv_at hl 0 rfl) ?_
              refine n_imul E dX1_need_124 ?_
              refine lv_iload_n E.1 E.2.1 dX1_need_125 rfl (lv_at hl 9 rfl) ?_
              refine n_iadd E dX1_need_126 ?_
              refine n_rald E hK hP 1 0 rfl rfl (16 * b + i) c (by omega) (by omega) (by omega) dX1_need_127 ?_
              refine lv_lload E.1 E.2.1 dX1_need_128 (lv_at hl 3 rfl) ?_
              refine l_if_eq (tgt := 138) E dX1_need_130 dX1_need_131 rfl (fun h130 => ?_) (fun h130 => ?_)
              · skip
                refine lv_iconst (v := nI 0) E.1 E.2.1 dX1_need_138 rfl ?_
                refine tpi (y := bI (al (fun q => !decide (xb T b c q = xb T b c j)) (i + 1))) (congrArg bI (al2 h114 (nd_t h130)).symm) ?_
                refine lv_istore (lv' := [(10, .int (bI (al (fun q => !decide (xb T b c q = xb T b c j)) (i + 1)))), (11, .int (nI (16 * b + i))), (7, .int (nI (16 * b + j))), (8, .long (T (16 * b + j) c)), (6, .int (nI (ct (fun j => al (fun q => !decide (xb T b c q = xb T b c j)) j) j))), (5, .int (nI (ct (fun j => decide (j = 0) || !decide (xb T b c (j - 1) = xb T b c j)) j))), (4, .int (nI (cb c))), (0, .ref (ad 0)), (1, .int (nI b)), (2, .int (nI c)), (3, .int (nI w))]) E.1 E.2.1 dX1_need_139 hl (by decide) rfl (fun ls hl => ?_)
                refine lv_iinc (k := 1) (v := nI (16 * b + i + 1)) (lv' := [(11, .int (nI (16 * b + i + 1))), (10, .int (bI (al (fun q => !decide (xb T b c q = xb T b c j)) (i + 1)))), (7, .int (nI (16 * b + j))), (8, .long (T (16 * b + j) c)), (6, .int (nI (ct (fun j => al (fun q => !decide (xb T b c q = xb T b c j)) j) j))), (5, .int (nI (ct (fun j => decide (j = 0) || !decide (xb T b c (j - 1) = xb T b c j)) j))), (4, .int (nI (cb c))), (0, .ref (ad 0)), (1, .int (nI b)), (2, .int (nI c)), (3, .int (nI w))]) E.1 E.2.1 dX1_need_141 hl rfl (inc1 _) (by decide) rfl (fun ls hl => ?_)
                refine lv_goto (tgt := 105) E.1 E.2.1 dX1_need_144 rfl ?_
                exact ih105 (i + 1) _ (by omega) (by omega) (lv_sub hl [0, 1, 2, 3, 4, 5, 6, 7, 8, 9, 10] rfl)
              · skip
                refine lv_iconst (v := nI 1) E.1 E.2.1 dX1_need_134 rfl ?_
                refine lv_goto (tgt := 139) E.1 E.2.1 dX1_need_135 rfl ?_
                refine tpi (y := bI (al (fun q => !decide (xb T b c q = xb T b c j)) (i + 1))) (congrArg bI (al2 h114 (nd_f h130)).symm) ?_
                refine lv_istore (lv' := [(10, .int (bI (al (fun q => !decide (xb T b c q = xb T b c j)) (i + 1)))), (11, .int (nI (16 * b + i))), (7, .int (nI (16 * b + j))), (8, .long (T (16 * b + j) c)), (6, .int (nI (ct (fun j => al (fun q => !decide (xb T b c q = xb T b c j)) j) j))), (5, .int (nI (ct (fun j => decide (j = 0) || !decide (xb T b c (j - 1) = xb T b c j)) j))), (4, .int (nI (cb c))), (0, .ref (ad 0)), (1, .int (nI b)), (2, .int (nI c)), (3, .int (nI w))]) E.1 E.2.1 dX1_need_139 hl (by decide) rfl (fun ls hl => ?_)
                refine lv_iinc (k := 1) (v := nI (16 * b + i + 1)) (lv' := [(11, .int (nI (16 * b + i + 1))), (10, .int (bI (al (fun q => !decide (xb T b c q = xb T b c j)) (i + 1)))), (7, .int (nI (16 * b + j))), (8, .long (T (16 * b + j) c)), (6, .int (nI (ct (fun j => al (fun q => !decide (xb T b c q = xb T b c j)) j) j))), (5, .int (nI (ct (fun j => decide (j = 0) || !decide (xb T b c (j - 1) = xb T b c j)) j))), (4, .int (nI (cb c))), (0, .ref (ad 0)), (1, .int (nI b)), (2, .int (nI c)), (3, .int (nI w))]) E.1 E.2.1 dX1_need_141 hl rfl (inc1 _) (by decide) rfl (fun ls hl => ?_)
                refine lv_goto (tgt := 105) E.1 E.2.1 dX1_need_144 rfl ?_
                exact ih105 (i + 1) _ (by omega) (by omega) (lv_sub hl [0, 1, 2, 3, 4, 5, 6, 7, 8, 9, 10] rfl)
      · skip
        refine lv_aload_n E.1 E.2.1 dX1_need_29 rfl (lv_at hl 1 rfl) ?_
        refine lv_iload_n E.1 E.2.1 dX1_need_30 rfl (lv_at hl 2 rfl) ?_
        refine lv_iload_n E.1 E.2.1 dX1_need_31 rfl (lv_at hl 3 rfl) ?_
        refine cV_l E (As := [.int (nI b), .int (nI c)]) (rest := []) (cR_greatest l D ad ca T n kc ko kv k cd b c (by omega) (by omega)) kR_52 hK hP 0 rfl rfl rfl rfl ⟨Nat.le_of_ble_eq_true rfl, Nat.le_of_ble_eq_true rfl⟩ rfl hl.1 rfl (Nat.le_of_ble_eq_true rfl) dX1_need_32 ⟨Nat.zero_le _, Nat.zero_le _⟩ ?_
        refine lv_aload_n E.1 E.2.1 dX1_need_35 rfl (lv_at hl 1 rfl) ?_
        refine lv_iload_n E.1 E.2.1 dX1_need_36 rfl (lv_at hl 2 rfl) ?_
        refine lv_iload_n E.1 E.2.1 dX1_need_37 rfl (lv_at hl 3 rfl) ?_
        refine cV_l E (As := [.int (nI b), .int (nI c)]) (rest := [.long (mx (xb T b c) 15)]) (cR_least l D ad ca T n kc ko kv k cd b c (by omega) (by omega)) kR_48 hK hP 0 rfl rfl rfl rfl ⟨Nat.le_of_ble_eq_true rfl, Nat.le_of_ble_eq_true rfl⟩ rfl hl.1 rfl (Nat.le_of_ble_eq_true rfl) dX1_need_38 ⟨Nat.zero_le _, Nat.zero_le _⟩ ?_
        refine lv_lsub E.1 E.2.1 dX1_need_41 ?_
        refine lv_lstore (lv' := [(5, .long ((mx (xb T b c) 15) - (mn (xb T b c) 15))), (4, .int (nI (cb c))), (0, .ref (ad 0)), (1, .int (nI b)), (2, .int (nI c)), (3, .int (nI w))]) E.1 E.2.1 dX1_need_42 hl (by decide) rfl (fun ls hl => ?_)
        refine lv_iload E.1 E.2.1 dX1_need_44 (lv_at hl 1 rfl) ?_
        refine lv_bipush (v := nI 7) E.1 E.2.1 dX1_need_46 rfl ?_
        refine n_iadd E dX1_need_48 ?_
        refine lv_bipush (v := nI 16) E.1 E.2.1 dX1_need_49 rfl ?_
        refine lv_lload E.1 E.2.1 dX1_need_51 (lv_at hl 0 rfl) ?_
        refine cS_i E (As := [.long ((mx (xb T b c) 15) - (mn (xb T b c) 15))]) (rest := [.int (nI 16), .int (nI (cb c + 7))]) (cR_width l ((mx (xb T b c) 15) - (mn (xb T b c) 15))) kR_59 rfl rfl ⟨Nat.le_of_ble_eq_true rfl, Nat.le_of_ble_eq_true rfl⟩ rfl hl.1 rfl (Nat.le_of_ble_eq_true rfl) dX1_need_53 ⟨Nat.zero_le _, Nat.zero_le _⟩ ?_
        refine n_imul E dX1_need_56 ?_
        refine n_iadd E dX1_need_57 ?_
        exact e_i E hr hlk (congrArg nI (by rw [ndz, if_neg h15, if_pos h26]; rfl)) dX1_need_58
    · skip
      refine lv_bipush (v := nI 16) E.1 E.2.1 dX1_need_18 rfl ?_
      refine lv_iload E.1 E.2.1 dX1_need_20 (lv_at hl 0 rfl) ?_
      refine n_imul E dX1_need_22 ?_
      exact e_i E hr hlk (congrArg nI (by rw [ndz, if_pos h15])) dX1_need_23
  · skip
    refine lv_bipush (v := nI 64) E.1 E.2.1 dX1_need_5 rfl ?_
    refine lv_goto (tgt := 12) E.1 E.2.1 dX1_need_7 rfl ?_
    refine tpi (y := nI (cb c)) (by rw [cb, if_pos h2]) ?_
    refine lv_istore (lv' := [(4, .int (nI (cb c))), (0, .ref (ad 0)), (1, .int (nI b)), (2, .int (nI c)), (3, .int (nI w))]) E.1 E.2.1 dX1_need_12 hl (by decide) rfl (fun ls hl => ?_)
    have hcb := cb_le c
    refine lv_iload_n E.1 E.2.1 dX1_need_14 rfl (lv_at hl 4 rfl) ?_
    refine n_if_ne (tgt := 24) E dX1_need_15 rfl (by omega) (fun h15 => ?_) (fun h15 => ?_)
    · skip
      refine lv_iload_n E.1 E.2.1 dX1_need_24 rfl (lv_at hl 4 rfl) ?_
      refine lv_iconst (v := nI 3) E.1 E.2.1 dX1_need_25 rfl ?_
      refine n_icmp_ne (tgt := 59) E dX1_need_26 rfl (by omega) (by omega) (fun h26 => ?_) (fun h26 => ?_)
      · skip
        refine lv_iconst (v := nI 0) E.1 E.2.1 dX1_need_59 rfl ?_
        refine lv_istore (lv' := [(5, .int (nI 0)), (4, .int (nI (cb c))), (0, .ref (ad 0)), (1, .int (nI b)), (2, .int (nI c)), (3, .int (nI w))]) E.1 E.2.1 dX1_need_60 hl (by decide) rfl (fun ls hl => ?_)
        refine lv_iconst (v := nI 0) E.1 E.2.1 dX1_need_62 rfl ?_
        refine lv_istore (lv' := [(6, .int (nI 0)), (5, .int (nI 0)), (4, .int (nI (cb c))), (0, .ref (ad 0)), (1, .int (nI b)), (2, .int (nI c)), (3, .int (nI w))]) E.1 E.2.1 dX1_need_63 hl (by decide) rfl (fun ls hl => ?_)
        refine lv_bipush (v := nI 16) E.1 E.2.1 dX1_need_65 rfl ?_
        refine lv_iload_n E.1 E.2.1 dX1_need_67 rfl (lv_at hl 4 rfl) ?_
        refine n_imul E dX1_need_68 ?_
        refine lv_istore (lv' := [(7, .int (nI (16 * b))), (6, .int (nI 0)), (5, .int (nI 0)), (4, .int (nI (cb c))), (0, .ref (ad 0)), (1, .int (nI b)), (2, .int (nI c)), (3, .int (nI w))]) E.1 E.2.1 dX1_need_69 hl (by decide) rfl (fun ls hl => ?_)
        refine w_lp1 (fun (j : Nat) => j ≤ 16) (fun (j : Nat) => 16 - j) (fun (j : Nat) => [(7, .int (nI (16 * b + j))), (6, .int (nI (ct (fun j => al (fun q => !decide (xb T b c q = xb T b c j)) j) j))), (5, .int (nI (ct (fun j => decide (j = 0) || !decide (xb T b c (j - 1) = xb T b c j)) j))), (4, .int (nI (cb c))), (0, .ref (ad 0)), (1, .int (nI b)), (2, .int (nI c)), (3, .int (nI w))]) 0 (Nat.zero_le _) (lv_sub hl [0, 1, 2, 3, 4, 5, 6, 7] rfl) (fun j ls hI hl ih71 => ?_)
        have hl : lv_has ls 12 [(7, .int (nI (16 * b + j))), (6, .int (nI (ct (fun j => al (fun q => !decide (xb T b c q = xb T b c j)) j) j))), (5, .int (nI (ct (fun j => decide (j = 0) || !decide (xb T b c (j - 1) = xb T b c j)) j))), (4, .int (nI (cb c))), (0, .ref (ad 0)), (1, .int (nI b)), (2, .int (nI c)), (3, .int (nI w))] := hl
        refine lv_iload E.1 E.2.1 dX1_need_71 (lv_at hl 0 rfl) ?_
        refine lv_bipush (v := nI 16) E.1 E.2.1 dX1_need_73 rfl ?_
        refine lv_iload_n E.1 E.2.1 dX1_need_75 rfl (lv_at hl 5 rfl) ?_
        refine n_imul E dX1_need_76 ?_
        refine lv_bipush (v := nI 16) E.1 E.2.1 dX1_need_77 rfl ?_
        refine n_iadd E dX1_need_79 ?_
        refine n_icmp_ge (tgt := 206) E dX1_need_80 rfl (by omega) (by omega) (fun h80 => ?_) (fun h80 => ?_)
        · skip
          have e16 : j = 16 := by omega
          subst e16
          have hrr : ct (fun j => decide (j = 0) || !decide (xb T b c (j - 1) = xb T b c j)) 16 = rns (xb T b c) := rns_eq _
          have hww : ct (fun j => al (fun q => !decide (xb T b c q = xb T b c j)) j) 16 = wds (xb T b c) := wds_eq _
          rw [hrr, hww] at hl
          have hwp := wds_pos (xb T b c)
          have hwl := wds_le (xb T b c)
          refine lv_iload_n E.1 E.2.1 dX1_need_206 rfl (lv_at hl 7 rfl) ?_
          refine lv_iconst (v := nI 1) E.1 E.2.1 dX1_need_207 rfl ?_
          refine n_icmp_ne (tgt := 221) E dX1_need_208 rfl (by omega) (by omega) (fun h208 => ?_) (fun h208 => ?_)
          · skip
            refine lv_iload E.1 E.2.1 dX1_need_221 (lv_at hl 3 rfl) ?_
            refine lv_iload E.1 E.2.1 dX1_need_223 (lv_at hl 1 rfl) ?_
            refine n_imul E dX1_need_225 ?_
            refine lv_bipush (v := nI 16) E.1 E.2.1 dX1_need_226 rfl ?_
            refine lv_iload E.1 E.2.1 dX1_need_228 (lv_at hl 1 rfl) ?_
            refine n_i2l E (by omega) dX1_need_230 ?_
            refine lv_lconst (v := 1) E.1 E.2.1 dX1_need_231 rfl ?_
            refine lv_lsub E.1 E.2.1 dX1_need_232 ?_
            refine tpl (y := lN (wds (xb T b c) - 1)) (lN_sub hwp) ?_
            refine cS_i E (As := [.long (lN (wds (xb T b c) - 1))]) (rest := [.int (nI 16), .int (nI ((cb c) * (wds (xb T b c))))]) (cR_width l (lN (wds (xb T b c) - 1))) kR_59 rfl rfl ⟨Nat.le_of_ble_eq_true rfl, Nat.le_of_ble_eq_true rfl⟩ rfl hl.1 rfl (Nat.le_of_ble_eq_true rfl) dX1_need_233 ⟨Nat.zero_le _, Nat.zero_le _⟩ ?_
            refine n_imul E dX1_need_236 ?_
            refine n_iadd E dX1_need_237 ?_
            exact e_i E hr hlk (congrArg nI (by rw [ndz, if_neg h15, if_neg h26, if_neg h208, zW, Nat.mul_comm (cb c)])) dX1_need_238
          · skip
            refine lv_iload E.1 E.2.1 dX1_need_211 (lv_at hl 3 rfl) ?_
            refine lv_iconst (v := nI 5) E.1 E.2.1 dX1_need_213 rfl ?_
            refine n_iadd E dX1_need_214 ?_
            refine lv_iload E.1 E.2.1 dX1_need_215 (lv_at hl 2 rfl) ?_
            refine n_imul E dX1_need_217 ?_
            refine lv_goto (tgt := 238) E.1 E.2.1 dX1_need_218 rfl ?_
            exact e_i E hr hlk (congrArg nI (by rw [ndz, if_neg h15, if_neg h26, if_pos h208, zR, Nat.mul_comm])) dX1_need_238
        · skip
          refine lv_aload_n E.1 E.2.1 dX1_need_83 rfl (lv_at hl 4 rfl) ?_
          refine n_get E inR hK hP 0 rfl rfl 2 (by decide) flR_7 rfl rfl dX1_need_84 ?_
          refine lv_iconst (v := nI 4) E.1 E.2.1 dX1_need_87 rfl ?_
          refine lv_iload E.1 E.2.1 dX1_need_88 (lv_at hl 0 rfl) ?_
          refine n_imul E dX1_need_90 ?_
          refine lv_iload_n E.1 E.2.1 dX1_need_91 rfl (lv_at hl 6 rfl) ?_
          refine n_iadd E dX1_need_92 ?_
          refine n_rald E hK hP 1 0 rfl rfl (16 * b + j) c (by omega) (by omega) (by omega) dX1_need_93 ?_
          refine lv_lstore (lv' := [(8, .long (T (16 * b + j) c)), (7, .int (nI (16 * b + j))), (6, .int (nI (ct (fun j => al (fun q => !decide (xb T b c q = xb T b c j)) j) j))), (5, .int (nI (ct (fun j => decide (j = 0) || !decide (xb T b c (j - 1) = xb T b c j)) j))), (4, .int (nI (cb c))), (0, .ref (ad 0)), (1, .int (nI b)), (2, .int (nI c)), (3, .int (nI w))]) E.1 E.2.1 dX1_need_94 hl (by decide) rfl (fun ls hl => ?_)
          refine lv_iconst (v := nI 1) E.1 E.2.1 dX1_need_96 rfl ?_
          refine lv_istore (lv' := [(10, .int (nI 1)), (8, .long (T (16 * b + j) c)), (7, .int (nI (16 * b + j))), (6, .int (nI (ct (fun j => al (fun q => !decide (xb T b c q = xb T b c j)) j) j))), (5, .int (nI (ct (fun j => decide (j = 0) || !decide (xb T b c (j - 1) = xb T b c j)) j))), (4, .int (nI (cb c))), (0, .ref (ad 0)), (1, .int (nI b)), (2, .int (nI c)), (3, .int (nI w))]) E.1 E.2.1 dX1_need_97 hl (by decide) rfl (fun ls hl => ?_)
          refine lv_bipush (v := nI 16) E.1 E.2.1 dX1_need_99 rfl ?_
          refine lv_iload_n E.1 E.2.1 dX1_need_101 rfl (lv_at hl 7 rfl) ?_
          refine n_imul E dX1_need_102 ?_
          refine lv_istore (lv' := [(11, .int (nI (16 * b))), (10, .int (nI 1)), (8, .long (T (16 * b + j) c)), (7, .int (nI (16 * b + j))), (6, .int (nI (ct (fun j => al (fun q => !decide (xb T b c q = xb T b c j)) j) j))), (5, .int (nI (ct (fun j => decide (j = 0) || !decide (xb T b c (j - 1) = xb T b c j)) j))), (4, .int (nI (cb c))), (0, .ref (ad 0)), (1, .int (nI b)), (2, .int (nI c)), (3, .int (nI w))]) E.1 E.2.1 dX1_need_103 hl (by decide) rfl (fun ls hl => ?_)
          refine w_lp1 (fun (i : Nat) => i ≤ j) (fun (i : Nat) => j - i) (fun (i : Nat) => [(11, .int (nI (16 * b + i))), (10, .int (bI (al (fun q => !decide (xb T b c q = xb T b c j)) i))), (7, .int (nI (16 * b + j))), (8, .long (T (16 * b + j) c)), (6, .int (nI (ct (fun j => al (fun q => !decide (xb T b c q = xb T b c j)) j) j))), (5, .int (nI (ct (fun j => decide (j = 0) || !decide (xb T b c (j - 1) = xb T b c j)) j))), (4, .int (nI (cb c))), (0, .ref (ad 0)), (1, .int (nI b)), (2, .int (nI c)), (3, .int (nI w))]) 0 (Nat.zero_le _) (lv_sub hl [0, 1, 3, 2, 4, 5, 6, 7, 8, 9, 10] rfl) (fun i ls hI hl ih105 => ?_)
          have hl : lv_has ls 12 [(11, .int (nI (16 * b + i))), (10, .int (bI (al (fun q => !decide (xb T b c q = xb T b c j)) i))), (7, .int (nI (16 * b + j))), (8, .long (T (16 * b + j) c)), (6, .int (nI (ct (fun j => al (fun q => !decide (xb T b c q = xb T b c j)) j) j))), (5, .int (nI (ct (fun j => decide (j = 0) || !decide (xb T b c (j - 1) = xb T b c j)) j))), (4, .int (nI (cb c))), (0, .ref (ad 0)), (1, .int (nI b)), (2, .int (nI c)), (3, .int (nI w))] := hl
          refine lv_iload E.1 E.2.1 dX1_need_105 (lv_at hl 0 rfl) ?_
          refine lv_iload E.1 E.2.1 dX1_need_107 (lv_at hl 2 rfl) ?_
          refine n_icmp_ge (tgt := 147) E dX1_need_109 rfl (by omega) (by omega) (fun h109 => ?_) (fun h109 => ?_)
          · skip
            have e9 : i = j := by omega
            rw [e9] at hl
            refine lv_iload E.1 E.2.1 dX1_need_147 (lv_at hl 4 rfl) ?_
            refine lv_iload E.1 E.2.1 dX1_need_149 (lv_at hl 1 rfl) ?_
            refine b_if_eq (tgt := 158) E dX1_need_151 rfl (fun h151 => ?_) (fun h151 => ?_)
            · skip
              refine lv_iconst (v := nI 0) E.1 E.2.1 dX1_need_158 rfl ?_
              refine n_iadd E dX1_need_159 ?_
              refine tpi (y := nI (ct (fun j => al (fun q => !decide (xb T b c q = xb T b c j)) j) (j + 1))) (congrArg nI (ct_f (p := (fun j => al (fun q => !decide (xb T b c q = xb T b c j)) j)) h151).symm) ?_
              refine lv_istore (lv' := [(6, .int (nI (ct (fun j => al (fun q => !decide (xb T b c q = xb T b c j)) j) (j + 1)))), (11, .int (nI (16 * b + j))), (10, .int (bI (al (fun q => !decide (xb T b c q = xb T b c j)) j))), (7, .int (nI (16 * b + j))), (8, .long (T (16 * b + j) c)), (5, .int (nI (ct (fun j => decide (j = 0) || !decide (xb T b c (j - 1) = xb T b c j)) j))), (4, .int (nI (cb c))), (0, .ref (ad 0)), (1, .int (nI b)), (2, .int (nI c)), (3, .int (nI w))]) E.1 E.2.1 dX1_need_160 hl (by decide) rfl (fun ls hl => ?_)
              refine lv_iload E.1 E.2.1 dX1_need_162 (lv_at hl 5 rfl) ?_
              refine lv_iload E.1 E.2.1 dX1_need_164 (lv_at hl 3 rfl) ?_
              refine lv_bipush (v := nI 16) E.1 E.2.1 dX1_need_166 rfl ?_
              refine lv_iload_n E.1 E.2.1 dX1_need_168 rfl (lv_at hl 8 rfl) ?_
              refine n_imul E dX1_need_169 ?_
              refine n_icmp_eq (tgt := 192) E dX1_need_170 rfl (by omega) (by omega) (fun h170 => ?_) (fun h170 => ?_)
              · skip
                refine lv_iconst (v := nI 1) E.1 E.2.1 dX1_need_192 rfl ?_
                refine lv_goto (tgt := 197) E.1 E.2.1 dX1_need_193 rfl ?_
                refine n_iadd E dX1_need_197 ?_
                refine tpi (y := nI (ct (fun j => decide (j = 0) || !decide (xb T b c (j - 1) = xb T b c j)) (j + 1))) (congrArg nI (ct_t (p := (fun j => decide (j = 0) || !decide (xb T b c (j - 1) = xb T b c j))) (by simp [show j = 0 by omega])).symm) ?_
                refine lv_istore (lv' := [(5, .int (nI (ct (fun j => decide (j = 0) || !decide (xb T b c (j - 1) = xb T b c j)) (j + 1)))), (6, .int (nI (ct (fun j => al (fun q => !decide (xb T b c q = xb T b c j)) j) (j + 1)))), (11, .int (nI (16 * b + j))), (10, .int (bI (al (fun q => !decide (xb T b c q = xb T b c j)) j))), (7, .int (nI (16 * b + j))), (8, .long (T (16 * b + j) c)), (4, .int (nI (cb c))), (0, .ref (ad 0)), (1, .int (nI b)), (2, .int (nI c)), (3, .int (nI w))]) E.1 E.2.1 dX1_need_198 hl (by decide) rfl (fun ls hl => ?_)
                refine lv_iinc (k := 4) (v := nI (16 * b + j + 1)) (lv' := [(7, .int (nI (16 * b + j + 1))), (5, .int (nI (ct (fun j => decide (j = 0) || !decide (xb T b c (j - 1) = xb T b c j)) (j + 1)))), (6, .int (nI (ct (fun j => al (fun q => !decide (xb T b c q = xb T b c j)) j) (j + 1)))), (11, .int (nI (16 * b + j))), (10, .int (bI (al (fun q => !decide (xb T b c q = xb T b c j)) j))), (8, .long (T (16 * b + j) c)), (4, .int (nI (cb c))), (0, .ref (ad 0)), (1, .int (nI b)), (2, .int (nI c)), (3, .int (nI w))]) E.1 E.2.1 dX1_need_200 hl rfl (inc1 _) (by decide) rfl (fun ls hl => ?_)
                refine lv_goto (tgt := 71) E.1 E.2.1 dX1_need_203 rfl ?_
                exact ih71 (j + 1) _ (by omega) (by omega) (lv_sub hl [0, 2, 1, 6, 7, 8, 9, 10] rfl)
              · skip
                refine lv_aload_n E.1 E.2.1 dX1_need_173 rfl (lv_at hl 7 rfl) ?_
                refine n_get E inR hK hP 0 rfl rfl 2 (by decide) flR_7 rfl rfl dX1_need_174 ?_
                refine lv_iconst (v := nI 4) E.1 E.2.1 dX1_need_177 rfl ?_
                refine lv_iload E.1 E.2.1 dX1_need_178 (lv_at hl 3 rfl) ?_
                refine n_imul E dX1_need_180 ?_
                refine lv_iconst (v := nI 4) E.1 E.2.1 dX1_need_181 rfl ?_
                refine n_isub E (by omega) dX1_need_182 ?_
                refine lv_iload_n E.1 E.2.1 dX1_need_183 rfl (lv_at hl 9 rfl) ?_
                refine n_iadd E dX1_need_184 ?_
                refine n_rald E hK hP 1 0 rfl rfl (16 * b + (j - 1)) c (by omega) (by omega) (by omega) dX1_need_185 ?_
                refine lv_lload E.1 E.2.1 dX1_need_186 (lv_at hl 4 rfl) ?_
                refine l_if_eq (tgt := 196) E dX1_need_188 dX1_need_189 rfl (fun h188 => ?_) (fun h188 => ?_)
                · skip
                  refine lv_iconst (v := nI 0) E.1 E.2.1 dX1_need_196 rfl ?_
                  refine n_iadd E dX1_need_197 ?_
                  refine tpi (y := nI (ct (fun j => decide (j = 0) || !decide (xb T b c (j - 1) = xb T b c j)) (j + 1))) (congrArg nI (ct_f (p := (fun j => decide (j = 0) || !decide (xb T b c (j - 1) = xb T b c j))) (by rw [nd_t (show xb T b c (j - 1) = xb T b c j from h188), decide_eq_false (show ¬ j = 0 by omega)]; rfl)).symm) ?_
                  refine lv_istore (lv' := [(5, .int (nI (ct (fun j => decide (j = 0) || !decide (xb T b c (j - 1) = xb T b c j)) (j + 1)))), (6, .int (nI (ct (fun j => al (fun q => !decide (xb T b c q = xb T b c j)) j) (j + 1)))), (11, .int (nI (16 * b + j))), (10, .int (bI (al (fun q => !decide (xb T b c q = xb T b c j)) j))), (7, .int (nI (16 * b + j))), (8, .long (T (16 * b + j) c)), (4, .int (nI (cb c))), (0, .ref (ad 0)), (1, .int (nI b)), (2, .int (nI c)), (3, .int (nI w))]) E.1 E.2.1 dX1_need_198 hl (by decide) rfl (fun ls hl => ?_)
                  refine lv_iinc (k := 4) (v := nI (16 * b + j + 1)) (lv' := [(7, .int (nI (16 * b + j + 1))), (5, .int (nI (ct (fun j => decide (j = 0) || !decide (xb T b c (j - 1) = xb T b c j)) (j + 1)))), (6, .int (nI (ct (fun j => al (fun q => !decide (xb T b c q = xb T b c j)) j) (j + 1)))), (11, .int (nI (16 * b + j))), (10, .int (bI (al (fun q => !decide (xb T b c q = xb T b c j)) j))), (8, .long (T (16 * b + j) c)), (4, .int (nI (cb c))), (0, .ref (ad 0)), (1, .int (nI b)), (2, .int (nI c)), (3, .int (nI w))]) E.1 E.2.1 dX1_need_200 hl rfl (inc1 _) (by decide) rfl (fun ls hl => ?_)
                  refine lv_goto (tgt := 71) E.1 E.2.1 dX1_need_203 rfl ?_
                  exact ih71 (j + 1) _ (by omega) (by omega) (lv_sub hl [0, 2, 1, 6, 7, 8, 9, 10] rfl)
                · skip
                  refine lv_iconst (v := nI 1) E.1 E.2.1 dX1_need_192 rfl ?_
                  refine lv_goto (tgt := 197) E.1 E.2.1 dX1_need_193 rfl ?_
                  refine n_iadd E dX1_need_197 ?_
                  refine tpi (y := nI (ct (fun j => decide (j = 0) || !decide (xb T b c (j - 1) = xb T b c j)) (j + 1))) (congrArg nI (ct_t (p := (fun j => decide (j = 0) || !decide (xb T b c (j - 1) = xb T b c j))) (by rw [nd_f (show ¬ xb T b c (j - 1) = xb T b c j from h188), Bool.or_true])).symm) ?_
                  refine lv_istore (lv' := [(5, .int (nI (ct (fun j => decide (j = 0) || !decide (xb T b c (j - 1) = xb T b c j)) (j + 1)))), (6, .int (nI (ct (fun j => al (fun q => !decide (xb T b c q = xb T b c j)) j) (j + 1)))), (11, .int (nI (16 * b + j))), (10, .int (bI (al (fun q => !decide (xb T b c q = xb T b c j)) j))), (7, .int (nI (16 * b + j))), (8, .long (T (16 * b + j) c)), (4, .int (nI (cb c))), (0, .ref (ad 0)), (1, .int (nI b)), (2, .int (nI c)), (3, .int (nI w))]) E.1 E.2.1 dX1_need_198 hl (by decide) rfl (fun ls hl => ?_)
                  refine lv_iinc (k := 4) (v := nI (16 * b + j + 1)) (lv' := [(7, .int (nI (16 * b + j + 1))), (5, .int (nI (ct (fun j => decide (j = 0) || !decide (xb T b c (j - 1) = xb T b c j)) (j + 1)))), (6, .int (nI (ct (fun j => al (fun q => !decide (xb T b c q = xb T b c j)) j) (j + 1)))), (11, .int (nI (16 * b + j))), (10, .int (bI (al (fun q => !decide (xb T b c q = xb T b c j)) j))), (8, .long (T (16 * b + j) c)), (4, .int (nI (cb c))), (0, .ref (ad 0)), (1, .int (nI b)), (2, .int (nI c)), (3, .int (nI w))]) E.1 E.2.1 dX1_need_200 hl rfl (inc1 _) (by decide) rfl (fun ls hl => ?_)
                  refine lv_goto (tgt := 71) E.1 E.2.1 dX1_need_203 rfl ?_
                  exact ih71 (j + 1) _ (by omega) (by omega) (lv_sub hl [0, 2, 1, 6, 7, 8, 9, 10] rfl)
            · skip
              refine lv_iconst (v := nI 1) E.1 E.2.1 dX1_need_154 rfl ?_
              refine lv_goto (tgt := 159) E.1 E.2.1 dX1_need_155 rfl ?_
              refine n_iadd E dX1_need_159 ?_
              refine tpi (y := nI (ct (fun j => al (fun q => !decide (xb T b c q = xb T b c j)) j) (j + 1))) (congrArg nI (ct_t (p := (fun j => al (fun q => !decide (xb T b c q = xb T b c j)) j)) h151).symm) ?_
              refine lv_istore (lv' := [(6, .int (nI (ct (fun j => al (fun q => !decide (xb T b c q = xb T b c j)) j) (j + 1)))), (11, .int (nI (16 * b + j))), (10, .int (bI (al (fun q => !decide (xb T b c q = xb T b c j)) j))), (7, .int (nI (16 * b + j))), (8, .long (T (16 * b + j) c)), (5, .int (nI (ct (fun j => decide (j = 0) || !decide (xb T b c (j - 1) = xb T b c j)) j))), (4, .int (nI (cb c))), (0, .ref (ad 0)), (1, .int (nI b)), (2, .int (nI c)), (3, .int (nI w))]) E.1 E.2.1 dX1_need_160 hl (by decide) rfl (fun ls hl => ?_)
              refine lv_iload E.1 E.2.1 dX1_need_162 (lv_at hl 5 rfl) ?_
              refine lv_iload E.1 E.2.1 dX1_need_164 (lv_at hl 3 rfl) ?_
              refine lv_bipush (v := nI 16) E.1 E.2.1 dX1_need_166 rfl ?_
              refine lv_iload_n E.1 E.2.1 dX1_need_168 rfl (lv_at hl 8 rfl) ?_
              refine n_imul E dX1_need_169 ?_
              refine n_icmp_eq (tgt := 192) E dX1_need_170 rfl (by omega) (by omega) (fun h170 => ?_) (fun h170 => ?_)
              · skip
                refine lv_iconst (v := nI 1) E.1 E.2.1 dX1_need_192 rfl ?_
                refine lv_goto (tgt := 197) E.1 E.2.1 dX1_need_193 rfl ?_
                refine n_iadd E dX1_need_197 ?_
                refine tpi (y := nI (ct (fun j => decide (j = 0) || !decide (xb T b c (j - 1) = xb T b c j)) (j + 1))) (congrArg nI (ct_t (p := (fun j => decide (j = 0) || !decide (xb T b c (j - 1) = xb T b c j))) (by simp [show j = 0 by omega])).symm) ?_
                refine lv_istore (lv' := [(5, .int (nI (ct (fun j => decide (j = 0) || !decide (xb T b c (j - 1) = xb T b c j)) (j + 1)))), (6, .int (nI (ct (fun j => al (fun q => !decide (xb T b c q = xb T b c j)) j) (j + 1)))), (11, .int (nI (16 * b + j))), (10, .int (bI (al (fun q => !decide (xb T b c q = xb T b c j)) j))), (7, .int (nI (16 * b + j))), (8, .long (T (16 * b + j) c)), (4, .int (nI (cb c))), (0, .ref (ad 0)), (1, .int (nI b)), (2, .int (nI c)), (3, .int (nI w))]) E.1 E.2.1 dX1_need_198 hl (by decide) rfl (fun ls hl => ?_)
                refine lv_iinc (k := 4) (v := nI (16 * b + j + 1)) (lv' := [(7, .int (nI (16 * b + j + 1))), (5, .int (nI (ct (fun j => decide (j = 0) || !decide (xb T b c (j - 1) = xb T b c j)) (j + 1)))), (6, .int (nI (ct (fun j => al (fun q => !decide (xb T b c q = xb T b c j)) j) (j + 1)))), (11, .int (nI (16 * b + j))), (10, .int (bI (al (fun q => !decide (xb T b c q = xb T b c j)) j))), (8, .long (T (16 * b + j) c)), (4, .int (nI (cb c))), (0, .ref (ad 0)), (1, .int (nI b)), (2, .int (nI c)), (3, .int (nI w))]) E.1 E.2.1 dX1_need_200 hl rfl (inc1 _) (by decide) rfl (fun ls hl => ?_)
                refine lv_goto (tgt := 71) E.1 E.2.1 dX1_need_203 rfl ?_
                exact ih71 (j + 1) _ (by omega) (by omega) (lv_sub hl [0, 2, 1, 6, 7, 8, 9, 10] rfl)
              · skip
                refine lv_aload_n E.1 E.2.1 dX1_need_173 rfl (lv_at hl 7 rfl) ?_
                refine n_get E inR hK hP 0 rfl rfl 2 (by decide) flR_7 rfl rfl dX1_need_174 ?_
                refine lv_iconst (v := nI 4) E.1 E.2.1 dX1_need_177 rfl ?_
                refine lv_iload E.1 E.2.1 dX1_need_178 (lv_at hl 3 rfl) ?_
                refine n_imul E dX1_need_180 ?_
                refine lv_iconst (v := nI 4) E.1 E.2.1 dX1_need_181 rfl ?_
                refine n_isub E (by omega) dX1_need_182 ?_
                refine lv_iload_n E.1 E.2.1 dX1_need_183 rfl (lv_at hl 9 rfl) ?_
                refine n_iadd E dX1_need_184 ?_
                refine n_rald E hK hP 1 0 rfl rfl (16 * b + (j - 1)) c (by omega) (by omega) (by omega) dX1_need_185 ?_
                refine lv_lload E.1 E.2.1 dX1_need_186 (lv_at hl 4 rfl) ?_
                refine l_if_eq (tgt := 196) E dX1_need_188 dX1_need_189 rfl (fun h188 => ?_) (fun h188 => ?_)
                · skip
                  refine lv_iconst (v := nI 0) E.1 E.2.1 dX1_need_196 rfl ?_
                  refine n_iadd E dX1_need_197 ?_
                  refine tpi (y := nI (ct (fun j => decide (j = 0) || !decide (xb T b c (j - 1) = xb T b c j)) (j + 1))) (congrArg nI (ct_f (p := (fun j => decide (j = 0) || !decide (xb T b c (j - 1) = xb T b c j))) (by rw [nd_t (show xb T b c (j - 1) = xb T b c j from h188), decide_eq_false (show ¬ j = 0 by omega)]; rfl)).symm) ?_
                  refine lv_istore (lv' := [(5, .int (nI (ct (fun j => decide (j = 0) || !decide (xb T b c (j - 1) = xb T b c j)) (j + 1)))), (6, .int (nI (ct (fun j => al (fun q => !decide (xb T b c q = xb T b c j)) j) (j + 1)))), (11, .int (nI (16 * b + j))), (10, .int (bI (al (fun q => !decide (xb T b c q = xb T b c j)) j))), (7, .int (nI (16 * b + j))), (8, .long (T (16 * b + j) c)), (4, .int (nI (cb c))), (0, .ref (ad 0)), (1, .int (nI b)), (2, .int (nI c)), (3, .int (nI w))]) E.1 E.2.1 dX1_need_198 hl (by decide) rfl (fun ls hl => ?_)
                  refine lv_iinc (k := 4) (v := nI (16 * b + j + 1)) (lv' := [(7, .int (nI (16 * b + j + 1))), (5, .int (nI (ct (fun j => decide (j = 0) || !decide (xb T b c (j - 1) = xb T b c j)) (j + 1)))), (6, .int (nI (ct (fun j => al (fun q => !decide (xb T b c q = xb T b c j)) j) (j + 1)))), (11, .int (nI (16 * b + j))), (10, .int (bI (al (fun q => !decide (xb T b c q = xb T b c j)) j))), (8, .long (T (16 * b + j) c)), (4, .int (nI (cb c))), (0, .ref (ad 0)), (1, .int (nI b)), (2, .int (nI c)), (3, .int (nI w))]) E.1 E.2.1 dX1_need_200 hl rfl (inc1 _) (by decide) rfl (fun ls hl => ?_)
                  refine lv_goto (tgt := 71) E.1 E.2.1 dX1_need_203 rfl ?_
                  exact ih71 (j + 1) _ (by omega) (by omega) (lv_sub hl [0, 2, 1, 6, 7, 8, 9, 10] rfl)
                · skip
                  refine lv_iconst (v := nI 1) E.1 E.2.1 dX1_need_192 rfl ?_
                  refine lv_goto (tgt := 197) E.1 E.2.1 dX1_need_193 rfl ?_
                  refine n_iadd E dX1_need_197 ?_
                  refine tpi (y := nI (ct (fun j => decide (j = 0) || !decide (xb T b c (j - 1) = xb T b c j)) (j + 1))) (congrArg nI (ct_t (p := (fun j => decide (j = 0) || !decide (xb T b c (j - 1) = xb T b c j))) (by rw [nd_f (show ¬ xb T b c (j - 1) = xb T b c j from h188), Bool.or_true])).symm) ?_
                  refine lv_istore (lv' := [(5, .int (nI (ct (fun j => decide (j = 0) || !decide (xb T b c (j - 1) = xb T b c j)) (j + 1)))), (6, .int (nI (ct (fun j => al (fun q => !decide (xb T b c q = xb T b c j)) j) (j + 1)))), (11, .int (nI (16 * b + j))), (10, .int (bI (al (fun q => !decide (xb T b c q = xb T b c j)) j))), (7, .int (nI (16 * b + j))), (8, .long (T (16 * b + j) c)), (4, .int (nI (cb c))), (0, .ref (ad 0)), (1, .int (nI b)), (2, .int (nI c)), (3, .int (nI w))]) E.1 E.2.1 dX1_need_198 hl (by decide) rfl (fun ls hl => ?_)
                  refine lv_iinc (k := 4) (v := nI (16 * b + j + 1)) (lv' := [(7, .int (nI (16 * b + j + 1))), (5, .int (nI (ct (fun j => decide (j = 0) || !decide (xb T b c (j - 1) = xb T b c j)) (j + 1)))), (6, .int (nI (ct (fun j => al (fun q => !decide (xb T b c q = xb T b c j)) j) (j + 1)))), (11, .int (nI (16 * b + j))), (10, .int (bI (al (fun q => !decide (xb T b c q = xb T b c j)) j))), (8, .long (T (16 * b + j) c)), (4, .int (nI (cb c))), (0, .ref (ad 0)), (1, .int (nI b)), (2, .int (nI c)), (3, .int (nI w))]) E.1 E.2.1 dX1_need_200 hl rfl (inc1 _) (by decide) rfl (fun ls hl => ?_)
                  refine lv_goto (tgt := 71) E.1 E.2.1 dX1_need_203 rfl ?_
                  exact ih71 (j + 1) _ (by omega) (by omega) (lv_sub hl [0, 2, 1, 6, 7, 8, 9, 10] rfl)
          · skip
            refine lv_iload E.1 E.2.1 dX1_need_112 (lv_at hl 1 rfl) ?_
            refine b_if_eq (tgt := 138) E dX1_need_114 rfl (fun h114 => ?_) (fun h114 => ?_)
            · skip
              refine lv_iconst (v := nI 0) E.1 E.2.1 dX1_need_138 rfl ?_
              refine tpi (y := bI (al (fun q => !decide (xb T b c q = xb T b c j)) (i + 1))) (congrArg bI (al2 h114 rfl).symm) ?_
              refine lv_istore (lv' := [(10, .int (bI (al (fun q => !decide (xb T b c q = xb T b c j)) (i + 1)))), (11, .int (nI (16 * b + i))), (7, .int (nI (16 * b + j))), (8, .long (T (16 * b + j) c)), (6, .int (nI (ct (fun j => al (fun q => !decide (xb T b c q = xb T b c j)) j) j))), (5, .int (nI (ct (fun j => decide (j = 0) || !decide (xb T b c (j - 1) = xb T b c j)) j))), (4, .int (nI (cb c))), (0, .ref (ad 0)), (1, .int (nI b)), (2, .int (nI c)), (3, .int (nI w))]) E.1 E.2.1 dX1_need_139 hl (by decide) rfl (fun ls hl => ?_)
              refine lv_iinc (k := 1) (v := nI (16 * b + i + 1)) (lv' := [(11, .int (nI (16 * b + i + 1))), (10, .int (bI (al (fun q => !decide (xb T b c q = xb T b c j)) (i + 1)))), (7, .int (nI (16 * b + j))), (8, .long (T (16 * b + j) c)), (6, .int (nI (ct (fun j => al (fun q => !decide (xb T b c q = xb T b c j)) j) j))), (5, .int (nI (ct (fun j => decide (j = 0) || !decide (xb T b c (j - 1) = xb T b c j)) j))), (4, .int (nI (cb c))), (0, .ref (ad 0)), (1, .int (nI b)), (2, .int (nI c)), (3, .int (nI w))]) E.1 E.2.1 dX1_need_141 hl rfl (inc1 _) (by decide) rfl (fun ls hl => ?_)
              refine lv_goto (tgt := 105) E.1 E.2.1 dX1_need_144 rfl ?_
              exact ih105 (i + 1) _ (by omega) (by omega) (lv_sub hl [0, 1, 2, 3, 4, 5, 6, 7, 8, 9, 10] rfl)
            · skip
              refine lv_aload_n E.1 E.2.1 dX1_need_117 rfl (lv_at hl 7 rfl) ?_
              refine n_get E inR hK hP 0 rfl rfl 2 (by decide) flR_7 rfl rfl dX1_need_118 ?_
              refine lv_iconst (v := nI 4) E.1 E.2.1 dX1_need_121 rfl ?_
              refine lv_iload E.1 E.2.1 dX1_need_122 (lv_at hl 0 rfl) ?_
              refine n_imul E dX1_need_124 ?_
              refine lv_iload_n E.1 E.2.1 dX1_need_125 rfl (lv_at hl 9 rfl) ?_
              refine n_iadd E dX1_need_126 ?_
              refine n_rald E hK hP 1 0 rfl rfl (16 * b + i) c (by omega) (by omega) (by omega) dX1_need_127 ?_
              refine lv_lload E.1 E.2.1 dX1_need_128 (lv_at hl 3 rfl) ?_
              refine l_if_eq (tgt := 138) E dX1_need_130 dX1_need_131 rfl (fun h130 => ?_) (fun h130 => ?_)
              · skip
                refine lv_iconst (v := nI 0) E.1 E.2.1 dX1_need_138 rfl ?_
                refine tpi (y := bI (al (fun q => !decide (xb T b c q = xb T b c j)) (i + 1))) (congrArg bI (al2 h114 (nd_t h130)).symm) ?_
                refine lv_istore (lv' := [(10, .int (bI (al (fun q => !decide (xb T b c q = xb T b c j)) (i + 1)))), (11, .int (nI (16 * b + i))), (7, .int (nI (16 * b + j))), (8, .long (T (16 * b + j) c)), (6, .int (nI (ct (fun j => al (fun q => !decide (xb T b c q = xb T b c j)) j) j))), (5, .int (nI (ct (fun j => decide (j = 0) || !decide (xb T b c (j - 1) = xb T b c j)) j))), (4, .int (nI (cb c))), (0, .ref (ad 0)), (1, .int (nI b)), (2, .int (nI c)), (3, .int (nI w))]) E.1 E.2.1 dX1_need_139 hl (by decide) rfl (fun ls hl => ?_)
                refine lv_iinc (k := 1) (v := nI (16 * b + i + 1)) (lv' := [(11, .int (nI (16 * b + i + 1))), (10, .int (bI (al (fun q => !decide (xb T b c q = xb T b c j)) (i + 1)))), (7, .int (nI (16 * b + j))), (8, .long (T (16 * b + j) c)), (6, .int (nI (ct (fun j => al (fun q => !decide (xb T b c q = xb T b c j)) j) j))), (5, .int (nI (ct (fun j => decide (j = 0) || !decide (xb T b c (j - 1) = xb T b c j)) j))), (4, .int (nI (cb c))), (0, .ref (ad 0)), (1, .int (nI b)), (2, .int (nI c)), (3, .int (nI w))]) E.1 E.2.1 dX1_need_141 hl rfl (inc1 _) (by decide) rfl (fun ls hl => ?_)
                refine lv_goto (tgt := 105) E.1 E.2.1 dX1_need_144 rfl ?_
                exact ih105 (i + 1) _ (by omega) (by omega) (lv_sub hl [0, 1, 2, 3, 4, 5, 6, 7, 8, 9, 10] rfl)
              · skip
                refine lv_iconst (v := nI 1) E.1 E.2.1 dX1_need_134 rfl ?_
                refine lv_goto (tgt := 139) E.1 E.2.1 dX1_need_135 rfl ?_
                refine tpi (y := bI (al (fun q => !decide (xb T b c q = xb T b c j)) (i + 1))) (congrArg bI (al2 h114 (nd_f h130)).symm) ?_
                refine lv_istore (lv' := [(10, .int (bI (al (fun q => !decide (xb T b c q = xb T b c j)) (i + 1)))), (11, .int (nI (16 * b + i))), (7, .int (nI (16 * b + j))), (8, .long (T (16 * b + j) c)), (6, .int (nI (ct (fun j => al (fun q => !decide (xb T b c q = xb T b c j)) j) j))), (5, .int (nI (ct (fun j => decide (j = 0) || !decide (xb T b c (j - 1) = xb T b c j)) j))), (4, .int (nI (cb c))), (0, .ref (ad 0)), (1, .int (nI b)), (2, .int (nI c)), (3, .int (nI w))]) E.1 E.2.1 dX1_need_139 hl (by decide) rfl (fun ls hl => ?_)
                refine lv_iinc (k := 1) (v := nI (16 * b + i + 1)) (lv' := [(11, .int (nI (16 * b + i + 1))), (10, .int (bI (al (fun q => !decide (xb T b c q = xb T b c j)) (i + 1)))), (7, .int (nI (16 * b + j))), (8, .long (T (16 * b + j) c)), (6, .int (nI (ct (fun j => al (fun q => !decide (xb T b c q = xb T b c j)) j) j))), (5, .int (nI (ct (fun j => decide (j = 0) || !decide (xb T b c (j - 1) = xb T b c j)) j))), (4, .int (nI (cb c))), (0, .ref (ad 0)), (1, .int (nI b)), (2, .int (nI c)), (3, .int (nI w))]) E.1 E.2.1 dX1_need_141 hl rfl (inc1 _) (by decide) rfl (fun ls hl => ?_)
                refine lv_goto (tgt := 105) E.1 E.2.1 dX1_need_144 rfl ?_
                exact ih105 (i + 1) _ (by omega) (by omega) (lv_sub hl [0, 1, 2, 3, 4, 5, 6, 7, 8, 9, 10] rfl)
      · skip
        refine lv_aload_n E.1 E.2.1 dX1_need_29 rfl (lv_at hl 1 rfl) ?_
        refine lv_iload_n E.1 E.2.1 dX1_need_30 rfl (lv_at hl 2 rfl) ?_
        refine lv_iload_n E.1 E.2.1 dX1_need_31 rfl (lv_at hl 3 rfl) ?_
        refine cV_l E (As := [.int (nI b), .int (nI c)]) (rest := []) (cR_greatest l D ad ca T n kc ko kv k cd b c (by omega) (by omega)) kR_52 hK hP 0 rfl rfl rfl rfl ⟨Nat.le_of_ble_eq_true rfl, Nat.le_of_ble_eq_true rfl⟩ rfl hl.1 rfl (Nat.le_of_ble_eq_true rfl) dX1_need_32 ⟨Nat.zero_le _, Nat.zero_le _⟩ ?_
        refine lv_aload_n E.1 E.2.1 dX1_need_35 rfl (lv_at hl 1 rfl) ?_
        refine lv_iload_n E.1 E.2.1 dX1_need_36 rfl (lv_at hl 2 rfl) ?_
        refine lv_iload_n E.1 E.2.1 dX1_need_37 rfl (lv_at hl 3 rfl) ?_
        refine cV_l E (As := [.int (nI b), .int (nI c)]) (rest := [.long (mx (xb T b c) 15)]) (cR_least l D ad ca T n kc ko kv k cd b c (by omega) (by omega)) kR_48 hK hP 0 rfl rfl rfl rfl ⟨Nat.le_of_ble_eq_true rfl, Nat.le_of_ble_eq_true rfl⟩ rfl hl.1 rfl (Nat.le_of_ble_eq_true rfl) dX1_need_38 ⟨Nat.zero_le _, Nat.zero_le _⟩ ?_
        refine lv_lsub E.1 E.2.1 dX1_need_41 ?_
        refine lv_lstore (lv' := [(5, .long ((mx (xb T b c) 15) - (mn (xb T b c) 15))), (4, .int (nI (cb c))), (0, .ref (ad 0)), (1, .int (nI b)), (2, .int (nI c)), (3, .int (nI w))]) E.1 E.2.1 dX1_need_42 hl (by decide) rfl (fun ls hl => ?_)
        refine lv_iload E.1 E.2.1 dX1_need_44 (lv_at hl 1 rfl) ?_
        refine lv_bipush (v := nI 7) E.1 E.2.1 dX1_need_46 rfl ?_
        refine n_iadd E dX1_need_48 ?_
        refine lv_bipush (v := nI 16) E.1 E.2.1 dX1_need_49 rfl ?_
        refine lv_lload E.1 E.2.1 dX1_need_51 (lv_at hl 0 rfl) ?_
        refine cS_i E (As := [.long ((mx (xb T b c) 15) - (mn (xb T b c) 15))]) (rest := [.int (nI 16), .int (nI (cb c + 7))]) (cR_width l ((mx (xb T b c) 15) - (mn (xb T b c) 15))) kR_59 rfl rfl ⟨Nat.le_of_ble_eq_true rfl, Nat.le_of_ble_eq_true rfl⟩ rfl hl.1 rfl (Nat.le_of_ble_eq_true rfl) dX1_need_53 ⟨Nat.zero_le _, Nat.zero_le _⟩ ?_
        refine n_imul E dX1_need_56 ?_
        refine n_iadd E dX1_need_57 ?_
        exact e_i E hr hlk (congrArg nI (by rw [ndz, if_neg h15, if_pos h26]; rfl)) dX1_need_58
    · skip
      refine lv_bipush (v := nI 16) E.1 E.2.1 dX1_need_18 rfl ?_
      refine lv_iload E.1 E.2.1 dX1_need_20 (lv_at hl 0 rfl) ?_
      refine n_imul E dX1_need_22 ?_
      exact e_i E hr hlk (congrArg nI (by rw [ndz, if_pos h15])) dX1_need_23
set_option maxHeartbeats 4000000 in
set_option maxRecDepth 100000 in
theorem cR_best (l : Launch) (D : va_G) (ad : Nat → Nat) (ca : Nat → ClassId) (T : Nat → Nat → Int64) (n : Nat) (kc ko : Nat → Nat) (kv : Nat → Int64) (k cd : Nat) (b c : Nat) (hb0 : b < 8) (hc0 : c < 4) : Met l yX1_best (wA yX1_best cX1_best 6 (some .int)) (rN 2) (va_Pc [.ref (ad 0), .int (nI b), .int (nI c)] (pW D c2 (tR ca) (wR ad ca T n kc ko kv k cd))) (vp_Si (fun z => z = nI (bW (xb T b c) (cb c) 3))) 0 0 (fun _ => False) := by
  refine met_of RX1 rfl (by decide) (Nat.le_of_ble_eq_true rfl) (fun p e s m below meth cd0 ls E hr hlk _ hB hl => ?_)
  obtain ⟨hP, hK⟩ := hB
  have hl : lv_has ls 6 [(0, .ref (ad 0)), (1, .int (nI b)), (2, .int (nI c))] := hl
  refine lv_iconst (v := nI 0) E.1 E.2.1 dX1_best_0 rfl ?_
  refine lv_istore_n (lv' := [(3, .int (nI 0)), (0, .ref (ad 0)), (1, .int (nI b)), (2, .int (nI c))]) E.1 E.2.1 dX1_best_1 rfl hl (by decide) rfl (fun ls hl => ?_)
  refine lv_iconst (v := nI 1) E.1 E.2.1 dX1_best_2 rfl ?_
  refine lv_istore (lv' := [(4, .int (nI 1)), (3, .int (nI 0)), (0, .ref (ad 0)), (1, .int (nI b)), (2, .int (nI c))]) E.1 E.2.1 dX1_best_3 hl (by decide) rfl (fun ls hl => ?_)
  refine w_lp1 (fun (j : Nat) => j ≤ 3) (fun (j : Nat) => 3 - j) (fun (j : Nat) => [(4, .int (nI (j + 1))), (3, .int (nI (bW (xb T b c) (cb c) j))), (0, .ref (ad 0)), (1, .int (nI b)), (2, .int (nI c))]) 0 (Nat.zero_le _) (lv_sub hl [0, 1, 2, 3, 4] rfl) (fun j ls hI hl ih5 => ?_)
  have hl : lv_has ls 6 [(4, .int (nI (j + 1))), (3, .int (nI (bW (xb T b c) (cb c) j))), (0, .ref (ad 0)), (1, .int (nI b)), (2, .int (nI c))] := hl
  refine lv_iload E.1 E.2.1 dX1_best_5 (lv_at hl 0 rfl) ?_
  refine lv_iconst (v := nI 4) E.1 E.2.1 dX1_best_7 rfl ?_
  refine n_icmp_ge (tgt := 46) E dX1_best_8 rfl (by omega) (by omega) (fun h8 => ?_) (fun h8 => ?_)
  · skip
    refine lv_iload_n E.1 E.2.1 dX1_best_46 rfl (lv_at hl 1 rfl) ?_
    exact e_i E hr hlk (by rw [show 3 = j by omega]) dX1_best_47
  · skip
    refine lv_aload_n E.1 E.2.1 dX1_best_11 rfl (lv_at hl 2 rfl) ?_
    refine lv_iload_n E.1 E.2.1 dX1_best_12 rfl (lv_at hl 3 rfl) ?_
    refine lv_iload_n E.1 E.2.1 dX1_best_13 rfl (lv_at hl 4 rfl) ?_
    refine lv_iload E.1 E.2.1 dX1_best_14 (lv_at hl 0 rfl) ?_
    have hbw := bW_le (xb T b c) (cb c) j
    have hnz1 := ndz_le (xb T b c) c (j + 1)
    have hnz2 := ndz_le (xb T b c) c (bW (xb T b c) (cb c) j)
    refine cV_i E (As := [.int (nI b), .int (nI c), .int (nI (j + 1))]) (rest := []) (cR_need l D ad ca T n kc ko kv k cd b c (j + 1) (by omega) (by omega) (by omega)) kR_63 hK hP 0 rfl rfl rfl rfl ⟨Nat.le_of_ble_eq_true rfl, Nat.le_of_ble_eq_true rfl⟩ rfl hl.1 rfl (Nat.le_of_ble_eq_true rfl) dX1_best_16 ⟨Nat.zero_le _, Nat.zero_le _⟩ ?_
    refine lv_istore (lv' := [(5, .int (nI (ndz (xb T b c) (cb c) (j + 1)))), (4, .int (nI (j + 1))), (3, .int (nI (bW (xb T b c) (cb c) j))), (0, .ref (ad 0)), (1, .int (nI b)), (2, .int (nI c))]) E.1 E.2.1 dX1_best_19 hl (by decide) rfl (fun ls hl => ?_)
    refine lv_iload E.1 E.2.1 dX1_best_21 (lv_at hl 0 rfl) ?_
    refine lv_aload_n E.1 E.2.1 dX1_best_23 rfl (lv_at hl 3 rfl) ?_
    refine lv_iload_n E.1 E.2.1 dX1_best_24 rfl (lv_at hl 4 rfl) ?_
    refine lv_iload_n E.1 E.2.1 dX1_best_25 rfl (lv_at hl 5 rfl) ?_
    refine lv_iload_n E.1 E.2.1 dX1_best_26 rfl (lv_at hl 2 rfl) ?_
    refine cV_i E (As := [.int (nI b), .int (nI c), .int (nI (bW (xb T b c) (cb c) j))]) (rest := [.int (nI (ndz (xb T b c) (cb c) (j + 1)))]) (cR_need l D ad ca T n kc ko kv k cd b c (bW (xb T b c) (cb c) j) (by omega) (by omega) (by omega)) kR_63 hK hP 0 rfl rfl rfl rfl ⟨Nat.le_of_ble_eq_true rfl, Nat.le_of_ble_eq_true rfl⟩ rfl hl.1 rfl (Nat.le_of_ble_eq_true rfl) dX1_best_27 ⟨Nat.zero_le _, Nat.zero_le _⟩ ?_
    refine n_icmp_ge (tgt := 38) E dX1_best_30 rfl (by omega) (by omega) (fun h30 => ?_) (fun h30 => ?_)
    · skip
      refine lv_iload_n E.1 E.2.1 dX1_best_38 rfl (lv_at hl 2 rfl) ?_
      refine tpi (y := nI (bW (xb T b c) (cb c) (j + 1))) (congrArg nI (by rw [bW, if_neg (by omega)])) ?_
      refine lv_istore_n (lv' := [(3, .int (nI (bW (xb T b c) (cb c) (j + 1)))), (5, .int (nI (ndz (xb T b c) (cb c) (j + 1)))), (4, .int (nI (j + 1))), (0, .ref (ad 0)), (1, .int (nI b)), (2, .int (nI c))]) E.1 E.2.1 dX1_best_39 rfl hl (by decide) rfl (fun ls hl => ?_)
      refine lv_iinc (k := 2) (v := nI (j + 1 + 1)) (lv' := [(4, .int (nI (j + 1 + 1))), (3, .int (nI (bW (xb T b c) (cb c) (j + 1)))), (5, .int (nI (ndz (xb T b c) (cb c) (j + 1)))), (0, .ref (ad 0)), (1, .int (nI b)), (2, .int (nI c))]) E.1 E.2.1 dX1_best_40 hl rfl (inc1 _) (by decide) rfl (fun ls hl => ?_)
      refine lv_goto (tgt := 5) E.1 E.2.1 dX1_best_43 rfl ?_
      exact ih5 (j + 1) _ (by omega) (by omega) (lv_sub hl [0, 1, 3, 4, 5] rfl)
    · skip
      refine lv_iload E.1 E.2.1 dX1_best_33 (lv_at hl 1 rfl) ?_
      refine lv_goto (tgt := 39) E.1 E.2.1 dX1_best_35 rfl ?_
      refine tpi (y := nI (bW (xb T b c) (cb c) (j + 1))) (congrArg nI (by rw [bW, if_pos h30])) ?_
      refine lv_istore_n (lv' := [(3, .int (nI (bW (xb T b c) (cb c) (j + 1)))), (5, .int (nI (ndz (xb T b c) (cb c) (j + 1)))), (4, .int (nI (j + 1))), (0, .ref (ad 0)), (1, .int (nI b)), (2, .int (nI c))]) E.1 E.2.1 dX1_best_39 rfl hl (by decide) rfl (fun ls hl => ?_)
      refine lv_iinc (k := 2) (v := nI (j + 1 + 1)) (lv' := [(4, .int (nI (j + 1 + 1))), (3, .int (nI (bW (xb T b c) (cb c) (j + 1)))), (5, .int (nI (ndz (xb T b c) (cb c) (j + 1)))), (0, .ref (ad 0)), (1, .int (nI b)), (2, .int (nI c))]) E.1 E.2.1 dX1_best_40 hl rfl (inc1 _) (by decide) rfl (fun ls hl => ?_)
      refine lv_goto (tgt := 5) E.1 E.2.1 dX1_best_43 rfl ?_
      exact ih5 (j + 1) _ (by omega) (by omega) (lv_sub hl [0, 1, 3, 4, 5] rfl)
