/-! The law's calls, one by one: laid by program. -/
def LC (p : Program) (l : Launch) (s : State) (m : MethodId) (c0 : Code) (b L : Nat) (xs : Nat → Int32) (D : va_G) (adX : Nat → Nat) (caX : Nat → ClassId) (adR : Nat → Nat) (caR : Nat → ClassId) (ao : Nat) (co : ClassId) (sa : Nat → Nat) : Prop :=
  CallFix p m c0 cL_law 8 s #[Value.ref b] tG RL ∧ L ≤ 3072 ∧ va_X b L xs s s.heap ∧ b < s.heap.size ∧ l.stackTraces = false ∧ Dj adX adR ao s.heap.size ∧ va_K D c2 (tX caX) s ∧ va_K D c2 (tR caR) s ∧ va_K D c2 (tO co) s ∧ xE s.heap.size sa s s.heap
def LI (D : va_G) (adX : Nat → Nat) (caX : Nat → ClassId) (adR : Nat → Nat) (caR : Nat → ClassId) (ao : Nat) (co : ClassId) (s : State) (H : Heap) (locs : List Loc) : Prop :=
  ∃ (T : Nat → Nat → Int64) (n : Nat) (kc ko : Nat → Nat) (kv : Nat → Int64) (k : Nat) (lo hi : Nat → Int64) (bw bb pk : Nat → Nat) (cd : Nat) (ov : Nat → Int64), n ≤ 128 ∧ iK kc ko k ∧ Pks T n lo hi bw bb ∧ va_P D c2 (wX adX caX T n kc ko kv k lo hi bw bb pk) H ∧ va_P D c2 (wR adR caR T n kc ko kv k cd) H ∧ va_P D c2 (wO ao co ov) H ∧ va_S (fun q => s.heap.size ≤ q) s.heap H locs
abbrev lvB (b : Nat) (adX adR : Nat → Nat) (ao i : Nat) : List (Nat × Value) := [(4, .int (nI i)), (0, .ref b), (1, .ref (adX 0)), (2, .ref (adR 0)), (3, .ref ao)]
def NX (p : Program) (l : Launch) (e : Env) (s : State) (m : MethodId) (below : List Frame) (meth : Method) (c0 : Code) (b : Nat) (D : va_G) (adX : Nat → Nat) (caX : Nat → ClassId) (adR : Nat → Nat) (caR : Nat → ClassId) (ao : Nat) (co : ClassId) (i cells slots : Nat) (Q : State → Prop) : Prop :=
  ∀ (H : Heap) (locs : List Loc) (ls : Array Slot), LI D adX caX adR caR ao co s H locs → lv_has ls 8 (lvB b adX adR ao i) → W p l e room_1 s m #[Value.ref b] below meth c0 H locs (cells + 1) (slots + 6) Q (F0 m 1105 ls [])
set_option maxHeartbeats 4000000 in
set_option maxRecDepth 100000 in
theorem op_append {p : Program} {l : Launch} {e : Env} {s : State} {m : MethodId} {below : List Frame} {meth : Method} {c0 : Code} {b L : Nat} {xs : Nat → Int32} {D : va_G} {adX adR : Nat → Nat} {caX caR : Nat → ClassId} {ao : Nat} {co : ClassId} {sa : Nat → Nat} (C : LC p l s m c0 b L xs D adX caX adR caR ao co sa) (T : Nat → Nat → Int64) (n : Nat) (kc ko : Nat → Nat) (kv : Nat → Int64) (k : Nat) (lo hi : Nat → Int64) (bw bb pk : Nat → Nat) (cd : Nat) (ov : Nat → Int64) (hn128 : n ≤ 128) (hIK : iK kc ko k) (hPk : Pks T n lo hi bw bb) {H : Heap} {locs : List Loc} (hPX : va_P D c2 (wX adX caX T n kc ko kv k lo hi bw bb pk) H) (hPR : va_P D c2 (wR adR caR T n kc ko kv k cd) H) (hPO : va_P D c2 (wO ao co ov) H) (hS : va_S (fun q => s.heap.size ≤ q) s.heap H locs) {cells slots : Nat} (hcl : cells + 1 ≤ 1051 ∧ slots + 6 ≤ 9575) {i : Nat} (hi6 : i + 6 ≤ L) {ls : Array Slot} (hl : lv_has ls 8 (lvB b adX adR ao i)) {Q : State → Prop} (next : NX p l e s m below meth c0 b D adX caX adR caR ao co i cells slots Q)  (hn : n < 128) : W p l e room_1 s m #[Value.ref b] below meth c0 H locs cells slots Q (F0 m 124 ls []) := by
  obtain ⟨E, hL, hX, hbl, hlt, hd, hKX, hKR, hKO, hZ⟩ := C
  have hiB := iB_of hPk
  have hctn := ct_le (ch T kc ko kv k) n
  refine lv_aload_n E.1 E.2.1 dL_law_124 rfl (lv_at hl 2 rfl) ?_
  refine lv_aload_n E.1 E.2.1 dL_law_125 rfl (lv_at hl 1 rfl) ?_
  refine lv_iload E.1 E.2.1 dL_law_126 (lv_at hl 0 rfl) ?_
  refine lv_iconst (v := nI 1) E.1 E.2.1 dL_law_128 rfl ?_
  refine n_iadd E dL_law_129 ?_
  refine s_ld E hX hbl hS hL (show i + 1 < L by omega) rfl dL_law_130 ?_
  refine lv_aload_n E.1 E.2.1 dL_law_131 rfl (lv_at hl 1 rfl) ?_
  refine lv_iload E.1 E.2.1 dL_law_132 (lv_at hl 0 rfl) ?_
  refine lv_iconst (v := nI 2) E.1 E.2.1 dL_law_134 rfl ?_
  refine n_iadd E dL_law_135 ?_
  refine s_ld E hX hbl hS hL (show i + 2 < L by omega) rfl dL_law_136 ?_
  refine lv_aload_n E.1 E.2.1 dL_law_137 rfl (lv_at hl 1 rfl) ?_
  refine lv_iload E.1 E.2.1 dL_law_138 (lv_at hl 0 rfl) ?_
  refine lv_iconst (v := nI 3) E.1 E.2.1 dL_law_140 rfl ?_
  refine n_iadd E dL_law_141 ?_
  refine s_ld E hX hbl hS hL (show i + 3 < L by omega) rfl dL_law_142 ?_
  refine lv_aload_n E.1 E.2.1 dL_law_143 rfl (lv_at hl 1 rfl) ?_
  refine lv_iload E.1 E.2.1 dL_law_144 (lv_at hl 0 rfl) ?_
  refine lv_iconst (v := nI 4) E.1 E.2.1 dL_law_146 rfl ?_
  refine n_iadd E dL_law_147 ?_
  refine s_ld E hX hbl hS hL (show i + 4 < L by omega) rfl dL_law_148 ?_
  refine lv_i2l E.1 E.2.1 dL_law_149 rfl ?_
  refine lv_bipush (v := nI 32) E.1 E.2.1 dL_law_150 rfl ?_
  refine lv_lshl E.1 E.2.1 dL_law_152 rfl ?_
  refine lv_aload_n E.1 E.2.1 dL_law_153 rfl (lv_at hl 1 rfl) ?_
  refine lv_iload E.1 E.2.1 dL_law_154 (lv_at hl 0 rfl) ?_
  refine lv_iconst (v := nI 5) E.1 E.2.1 dL_law_156 rfl ?_
  refine n_iadd E dL_law_157 ?_
  refine s_ld E hX hbl hS hL (show i + 5 < L by omega) rfl dL_law_158 ?_
  refine lv_i2l E.1 E.2.1 dL_law_159 rfl ?_
  refine lv_ldc2 E.1 E.2.1 E.2.2.2.1 (E.2.2.2.2 _ ldL_65) dL_law_160 ?_
  refine lv_land E.1 E.2.1 dL_law_163 ?_
  refine lv_lor E.1 E.2.1 dL_law_164 ?_
  refine lv_aload_n E.1 E.2.1 dL_law_165 rfl (lv_at hl 4 rfl) ?_
  refine l_wg (S := ((Nat → Int64) × (Nat → Int64) × (Nat → Nat) × (Nat → Nat))) (w1 := fun u9 => wX adX caX (apT T n (xs (i + 1)) (xs (i + 2)) (xs (i + 3)) (((Int32.toInt64 (xs (i + 4))) <<< ((nI 32).toInt64 &&& 63)) ||| ((Int32.toInt64 (xs (i + 5))) &&& 4294967295))) (n + 1) kc ko kv k u9.1 u9.2.1 u9.2.2.1 u9.2.2.2 pk) (wx := wX adX caX T n kc ko kv k lo hi bw bb pk) (wr := wR adR caR T n kc ko kv k cd) E (As := [.ref (adX 0), .int (xs (i + 1)), .int (xs (i + 2)), .int (xs (i + 3)), .long (((Int32.toInt64 (xs (i + 4))) <<< ((nI 32).toInt64 &&& 63)) ||| ((Int32.toInt64 (xs (i + 5))) &&& 4294967295)), .ref ao]) (rest := []) (wL_append l D adX caX T n kc ko kv k lo hi bw bb pk ao co ov (xs (i + 1)) (xs (i + 2)) (xs (i + 3)) (((Int32.toInt64 (xs (i + 4))) <<< ((nI 32).toInt64 &&& 63)) ||| ((Int32.toInt64 (xs (i + 5))) &&& 4294967295)) hd.1 hn hd.2.2.2.1) kL_67 hd rfl hKX hKO hPX hPR hPO hS rfl rfl ⟨Nat.le_of_ble_eq_true rfl, Nat.le_of_ble_eq_true rfl⟩ rfl hl.1 rfl (Nat.le_of_ble_eq_true rfl) dL_law_166 ⟨by show _ ≤ 1051; omega, by show _ ≤ 9575; omega⟩ (fun z9 u9 x9 H locs hp9 hPX hPR hPO hS => ?_)
  obtain ⟨rfl, zz, hx9, hz9, hA1, hA2⟩ := hp9
  have hx9 : x9 = Int32.toInt64 zz := hx9
  subst hx9
  have hz9 : zz = nI n := hz9
  subst hz9
  have hPX : va_P D c2 (wX adX caX (apT T n (xs (i + 1)) (xs (i + 2)) (xs (i + 3)) (((Int32.toInt64 (xs (i + 4))) <<< ((nI 32).toInt64 &&& 63)) ||| ((Int32.toInt64 (xs (i + 5))) &&& 4294967295))) (n + 1) kc ko kv k u9.1 u9.2.1 u9.2.2.1 u9.2.2.2 pk) H := hPX
  refine lv_istore (lv' := [(5, .int (nI 0)), (4, .int (nI i)), (0, .ref b), (1, .ref (adX 0)), (2, .ref (adR 0)), (3, .ref ao)]) E.1 E.2.1 dL_law_169 hl (by decide) rfl (fun ls hl => ?_)
  refine lv_aload_n E.1 E.2.1 dL_law_171 rfl (lv_at hl 4 rfl) ?_
  refine lv_aload_n E.1 E.2.1 dL_law_172 rfl (lv_at hl 2 rfl) ?_
  refine lv_iload E.1 E.2.1 dL_law_173 (lv_at hl 1 rfl) ?_
  refine lv_iconst (v := nI 1) E.1 E.2.1 dL_law_175 rfl ?_
  refine n_iadd E dL_law_176 ?_
  refine s_ld E hX hbl hS hL (show i + 1 < L by omega) rfl dL_law_177 ?_
  refine lv_aload_n E.1 E.2.1 dL_law_178 rfl (lv_at hl 2 rfl) ?_
  refine lv_iload E.1 E.2.1 dL_law_179 (lv_at hl 1 rfl) ?_
  refine lv_iconst (v := nI 2) E.1 E.2.1 dL_law_181 rfl ?_
  refine n_iadd E dL_law_182 ?_
  refine s_ld E hX hbl hS hL (show i + 2 < L by omega) rfl dL_law_183 ?_
  refine lv_aload_n E.1 E.2.1 dL_law_184 rfl (lv_at hl 2 rfl) ?_
  refine lv_iload E.1 E.2.1 dL_law_185 (lv_at hl 1 rfl) ?_
  refine lv_iconst (v := nI 3) E.1 E.2.1 dL_law_187 rfl ?_
  refine n_iadd E dL_law_188 ?_
  refine s_ld E hX hbl hS hL (show i + 3 < L by omega) rfl dL_law_189 ?_
  refine lv_aload_n E.1 E.2.1 dL_law_190 rfl (lv_at hl 2 rfl) ?_
  refine lv_iload E.1 E.2.1 dL_law_191 (lv_at hl 1 rfl) ?_
  refine lv_iconst (v := nI 4) E.1 E.2.1 dL_law_193 rfl ?_
  refine n_iadd E dL_law_194 ?_
  refine s_ld E hX hbl hS hL (show i + 4 < L by omega) rfl dL_law_195 ?_
  refine lv_i2l E.1 E.2.1 dL_law_196 rfl ?_
  refine lv_bipush (v := nI 32) E.1 E.2.1 dL_law_197 rfl ?_
  refine lv_lshl E.1 E.2.1 dL_law_199 rfl ?_
  refine lv_aload_n E.1 E.2.1 dL_law_200 rfl (lv_at hl 2 rfl) ?_
  refine lv_iload E.1 E.2.1 dL_law_201 (lv_at hl 1 rfl) ?_
  refine lv_iconst (v := nI 5) E.1 E.2.1 dL_law_203 rfl ?_
  refine n_iadd E dL_law_204 ?_
  refine s_ld E hX hbl hS hL (show i + 5 < L by omega) rfl dL_law_205 ?_
  refine lv_i2l E.1 E.2.1 dL_law_206 rfl ?_
  refine lv_ldc2 E.1 E.2.1 E.2.2.2.1 (E.2.2.2.2 _ ldL_65) dL_law_207 ?_
  refine lv_land E.1 E.2.1 dL_law_210 ?_
  refine lv_lor E.1 E.2.1 dL_law_211 ?_
  refine l_mi (wx := wX adX caX (apT T n (xs (i + 1)) (xs (i + 2)) (xs (i + 3)) (((Int32.toInt64 (xs (i + 4))) <<< ((nI 32).toInt64 &&& 63)) ||| ((Int32.toInt64 (xs (i + 5))) &&& 4294967295))) (n + 1) kc ko kv k u9.1 u9.2.1 u9.2.2.1 u9.2.2.2 pk) (wr := wR adR caR T n kc ko kv k cd) E (As := [.int (xs (i + 1)), .int (xs (i + 2)), .int (xs (i + 3)), .long (((Int32.toInt64 (xs (i + 4))) <<< ((nI 32).toInt64 &&& 63)) ||| ((Int32.toInt64 (xs (i + 5))) &&& 4294967295))]) (rest := []) (cR_append l D adR caR T n kc ko kv k cd (xs (i + 1)) (xs (i + 2)) (xs (i + 3)) (((Int32.toInt64 (xs (i + 4))) <<< ((nI 32).toInt64 &&& 63)) ||| ((Int32.toInt64 (xs (i + 5))) &&& 4294967295)) hd.2.1 hn) kL_72 hd rfl hKR hPX hPR hPO hS rfl rfl rfl rfl ⟨Nat.le_of_ble_eq_true rfl, Nat.le_of_ble_eq_true rfl⟩ rfl hl.1 rfl (Nat.le_of_ble_eq_true rfl) dL_law_212 ⟨by show _ ≤ 1051; omega, by show _ ≤ 9575; omega⟩ (fun z8 u8 H locs hp8 hPX hPR hPO hS => ?_)
  have hp8 : z8 = nI n := hp8
  subst hp8
  have hPR : va_P D c2 (wR adR caR (apT T n (xs (i + 1)) (xs (i + 2)) (xs (i + 3)) (((Int32.toInt64 (xs (i + 4))) <<< ((nI 32).toInt64 &&& 63)) ||| ((Int32.toInt64 (xs (i + 5))) &&& 4294967295))) (n + 1) kc ko kv k 0) H := hPR
  refine lv_istore (lv' := [(6, .int (nI n)), (5, .int (nI 0)), (4, .int (nI i)), (0, .ref b), (1, .ref (adX 0)), (2, .ref (adR 0)), (3, .ref ao)]) E.1 E.2.1 dL_law_215 hl (by decide) rfl (fun ls hl => ?_)
  refine lv_aload_n E.1 E.2.1 dL_law_217 rfl (lv_at hl 5 rfl) ?_
  refine cV_i E (As := []) (rest := []) (cR_thrown l D adR caR (apT T n (xs (i + 1)) (xs (i + 2)) (xs (i + 3)) (((Int32.toInt64 (xs (i + 4))) <<< ((nI 32).toInt64 &&& 63)) ||| ((Int32.toInt64 (xs (i + 5))) &&& 4294967295))) (n + 1) kc ko kv k 0) kL_73 hKR hPR 0 rfl rfl rfl rfl ⟨Nat.le_of_ble_eq_true rfl, Nat.le_of_ble_eq_true rfl⟩ rfl hl.1 rfl (Nat.le_of_ble_eq_true rfl) dL_law_218 ⟨by show _ ≤ 1051; omega, by show _ ≤ 9575; omega⟩ ?_
  refine lv_iload E.1 E.2.1 dL_law_221 (lv_at hl 1 rfl) ?_
  refine n_icmp_eq (tgt := 228) E dL_law_223 rfl (by decide) (by decide) (fun _ => ?_) (fun h => absurd rfl h)
  refine lv_iload E.1 E.2.1 dL_law_228 (lv_at hl 1 rfl) ?_
  refine n_if_ne (tgt := 245) E dL_law_230 rfl (by decide) (fun h => absurd h (by decide)) (fun _ => ?_)
  refine lv_aload_n E.1 E.2.1 dL_law_233 rfl (lv_at hl 6 rfl) ?_
  refine lv_iconst (v := nI 0) E.1 E.2.1 dL_law_234 rfl ?_
  refine n_lald E hKO hPO 0 0 rfl rfl (by decide) (by decide) dL_law_235 ?_
  refine lv_iload E.1 E.2.1 dL_law_236 (lv_at hl 0 rfl) ?_
  refine lv_i2l E.1 E.2.1 dL_law_238 rfl ?_
  refine l_if_eq (tgt := 245) E dL_law_239 dL_law_240 rfl (fun _ => ?_) (fun hne => (hne fS_s).elim)
  refine lv_goto (tgt := 1105) E.1 E.2.1 dL_law_245 rfl ?_
  refine W.widen (k := cells + 1) (n := slots + 6) (by omega) (by omega) ?_
  exact next _ _ _ ⟨apT T n (xs (i + 1)) (xs (i + 2)) (xs (i + 3)) (((Int32.toInt64 (xs (i + 4))) <<< ((nI 32).toInt64 &&& 63)) ||| ((Int32.toInt64 (xs (i + 5))) &&& 4294967295)), n + 1, kc, ko, kv, k, u9.1, u9.2.1, u9.2.2.1, u9.2.2.2, pk, 0, fS ov 0 (Int32.toInt64 (nI n)), by omega, hIK, Pks_append hPk hA1 hA2, hPX, hPR, hPO, hS⟩ (lv_sub hl [2, 3, 4, 5, 6] rfl)
set_option maxHeartbeats 4000000 in
set_option maxRecDepth 100000 in
theorem op_append1 {p : Program} {l : Launch} {e : Env} {s : State} {m : MethodId} {below : List Frame} {meth : Method} {c0 : Code} {b L : Nat} {xs : Nat → Int32} {D : va_G} {adX adR : Nat → Nat} {caX caR : Nat → ClassId} {ao : Nat} {co : ClassId} {sa : Nat → Nat} (C : LC p l s m c0 b L xs D adX caX adR caR ao co sa) (T : Nat → Nat → Int64) (n : Nat) (kc ko : Nat → Nat) (kv : Nat → Int64) (k : Nat) (lo hi : Nat → Int64) (bw bb pk : Nat → Nat) (cd : Nat) (ov : Nat → Int64) (hn128 : n ≤ 128) (hIK : iK kc ko k) (hPk : Pks T n lo hi bw bb) {H : Heap} {locs : List Loc} (hPX : va_P D c2 (wX adX caX T n kc ko kv k lo hi bw bb pk) H) (hPR : va_P D c2 (wR adR caR T n kc ko kv k cd) H) (hPO : va_P D c2 (wO ao co ov) H) (hS : va_S (fun q => s.heap.size ≤ q) s.heap H locs) {cells slots : Nat} (hcl : cells + 1 ≤ 1051 ∧ slots + 6 ≤ 9575) {i : Nat} (hi6 : i + 6 ≤ L) {ls : Array Slot} (hl : lv_has ls 8 (lvB b adX adR ao i)) {Q : State → Prop} (next : NX p l e s m below meth c0 b D adX caX adR caR ao co i cells slots Q)  (hn : n = 128) : W p l e room_1 s m #[Value.ref b] below meth c0 H locs cells slots Q (F0 m 124 ls []) := by
  obtain ⟨E, hL, hX, hbl, hlt, hd, hKX, hKR, hKO, hZ⟩ := C
  have hiB := iB_of hPk
  have hctn := ct_le (ch T kc ko kv k) n
  refine lv_aload_n E.1 E.2.1 dL_law_124 rfl (lv_at hl 2 rfl) ?_
  refine lv_aload_n E.1 E.2.1 dL_law_125 rfl (lv_at hl 1 rfl) ?_
  refine lv_iload E.1 E.2.1 dL_law_126 (lv_at hl 0 rfl) ?_
  refine lv_iconst (v := nI 1) E.1 E.2.1 dL_law_128 rfl ?_
  refine n_iadd E dL_law_129 ?_
  refine s_ld E hX hbl hS hL (show i + 1 < L by omega) rfl dL_law_130 ?_
  refine lv_aload_n E.1 E.2.1 dL_law_131 rfl (lv_at hl 1 rfl) ?_
  refine lv_iload E.1 E.2.1 dL_law_132 (lv_at hl 0 rfl) ?_
  refine lv_iconst (v := nI 2) E.1 E.2.1 dL_law_134 rfl ?_
  refine n_iadd E dL_law_135 ?_
  refine s_ld E hX hbl hS hL (show i + 2 < L by omega) rfl dL_law_136 ?_
  refine lv_aload_n E.1 E.2.1 dL_law_137 rfl (lv_at hl 1 rfl) ?_
  refine lv_iload E.1 E.2.1 dL_law_138 (lv_at hl 0 rfl) ?_
  refine lv_iconst (v := nI 3) E.1 E.2.1 dL_law_140 rfl ?_
  refine n_iadd E dL_law_141 ?_
  refine s_ld E hX hbl hS hL (show i + 3 < L by omega) rfl dL_law_142 ?_
  refine lv_aload_n E.1 E.2.1 dL_law_143 rfl (lv_at hl 1 rfl) ?_
  refine lv_iload E.1 E.2.1 dL_law_144 (lv_at hl 0 rfl) ?_
  refine lv_iconst (v := nI 4) E.1 E.2.1 dL_law_146 rfl ?_
  refine n_iadd E dL_law_147 ?_
  refine s_ld E hX hbl hS hL (show i + 4 < L by omega) rfl dL_law_148 ?_
  refine lv_i2l E.1 E.2.1 dL_law_149 rfl ?_
  refine lv_bipush (v := nI 32) E.1 E.2.1 dL_law_150 rfl ?_
  refine lv_lshl E.1 E.2.1 dL_law_152 rfl ?_
  refine lv_aload_n E.1 E.2.1 dL_law_153 rfl (lv_at hl 1 rfl) ?_
  refine lv_iload E.1 E.2.1 dL_law_154 (lv_at hl 0 rfl) ?_
  refine lv_iconst (v := nI 5) E.1 E.2.1 dL_law_156 rfl ?_
  refine n_iadd E dL_law_157 ?_
  refine s_ld E hX hbl hS hL (show i + 5 < L by omega) rfl dL_law_158 ?_
  refine lv_i2l E.1 E.2.1 dL_law_159 rfl ?_
  refine lv_ldc2 E.1 E.2.1 E.2.2.2.1 (E.2.2.2.2 _ ldL_65) dL_law_160 ?_
  refine lv_land E.1 E.2.1 dL_law_163 ?_
  refine lv_lor E.1 E.2.1 dL_law_164 ?_
  refine lv_aload_n E.1 E.2.1 dL_law_165 rfl (lv_at hl 4 rfl) ?_
  refine l_wb (wx := wX adX caX T n kc ko kv k lo hi bw bb pk) (wr := wR adR caR T n kc ko kv k cd) E (As := [.ref (adX 0), .int (xs (i + 1)), .int (xs (i + 2)), .int (xs (i + 3)), .long (((Int32.toInt64 (xs (i + 4))) <<< ((nI 32).toInt64 &&& 63)) ||| ((Int32.toInt64 (xs (i + 5))) &&& 4294967295)), .ref ao]) (rest := []) (vL_append l D adX caX T n kc ko kv k lo hi bw bb pk ao co ov s.heap.size sa (xs (i + 1)) (xs (i + 2)) (xs (i + 3)) (((Int32.toInt64 (xs (i + 4))) <<< ((nI 32).toInt64 &&& 63)) ||| ((Int32.toInt64 (xs (i + 5))) &&& 4294967295)) hn hd.2.2.2.1 hlt hd.2.2.2.2.2.1) kL_67 hd rfl hKX hKO hZ hPX hPR hPO hS rfl rfl ⟨Nat.le_of_ble_eq_true rfl, Nat.le_of_ble_eq_true rfl⟩ rfl hl.1 rfl (Nat.le_of_ble_eq_true rfl) dL_law_166 ⟨by show _ ≤ 1051; omega, by show _ ≤ 9575; omega⟩ (fun z9 u9 H locs hp9 hPX hPR hPO hS => ?_)
  have hp9 : z9 = nI 1 := hp9
  subst hp9
  have hPX : va_P D c2 (wX adX caX T n kc ko kv k lo hi bw bb pk) H := hPX
  refine lv_istore (lv' := [(5, .int (nI 1)), (4, .int (nI i)), (0, .ref b), (1, .ref (adX 0)), (2, .ref (adR 0)), (3, .ref ao)]) E.1 E.2.1 dL_law_169 hl (by decide) rfl (fun ls hl => ?_)
  refine lv_aload_n E.1 E.2.1 dL_law_171 rfl (lv_at hl 4 rfl) ?_
  refine lv_aload_n E.1 E.2.1 dL_law_172 rfl (lv_at hl 2 rfl) ?_
  refine lv_iload E.1 E.2.1 dL_law_173 (lv_at hl 1 rfl) ?_
  refine lv_iconst (v := nI 1) E.1 E.2.1 dL_law_175 rfl ?_
  refine n_iadd E dL_law_176 ?_
  refine s_ld E hX hbl hS hL (show i + 1 < L by omega) rfl dL_law_177 ?_
  refine lv_aload_n E.1 E.2.1 dL_law_178 rfl (lv_at hl 2 rfl) ?_
  refine lv_iload E.1 E.2.1 dL_law_179 (lv_at hl 1 rfl) ?_
  refine lv_iconst (v := nI 2) E.1 E.2.1 dL_law_181 rfl ?_
  refine n_iadd E dL_law_182 ?_
  refine s_ld E hX hbl hS hL (show i + 2 < L by omega) rfl dL_law_183 ?_
  refine lv_aload_n E.1 E.2.1 dL_law_184 rfl (lv_at hl 2 rfl) ?_
  refine lv_iload E.1 E.2.1 dL_law_185 (lv_at hl 1 rfl) ?_
  refine lv_iconst (v := nI 3) E.1 E.2.1 dL_law_187 rfl ?_
  refine n_iadd E dL_law_188 ?_
  refine s_ld E hX hbl hS hL (show i + 3 < L by omega) rfl dL_law_189 ?_
  refine lv_aload_n E.1 E.2.1 dL_law_190 rfl (lv_at hl 2 rfl) ?_
  refine lv_iload E.1 E.2.1 dL_law_191 (lv_at hl 1 rfl) ?_
  refine lv_iconst (v := nI 4) E.1 E.2.1 dL_law_193 rfl ?_
  refine n_iadd E dL_law_194 ?_
  refine s_ld E hX hbl hS hL (show i + 4 < L by omega) rfl dL_law_195 ?_
  refine lv_i2l E.1 E.2.1 dL_law_196 rfl ?_
  refine lv_bipush (v := nI 32) E.1 E.2.1 dL_law_197 rfl ?_
  refine lv_lshl E.1 E.2.1 dL_law_199 rfl ?_
  refine lv_aload_n E.1 E.2.1 dL_law_200 rfl (lv_at hl 2 rfl) ?_
  refine lv_iload E.1 E.2.1 dL_law_201 (lv_at hl 1 rfl) ?_
  refine lv_iconst (v := nI 5) E.1 E.2.1 dL_law_203 rfl ?_
  refine n_iadd E dL_law_204 ?_
  refine s_ld E hX hbl hS hL (show i + 5 < L by omega) rfl dL_law_205 ?_
  refine lv_i2l E.1 E.2.1 dL_law_206 rfl ?_
  refine lv_ldc2 E.1 E.2.1 E.2.2.2.1 (E.2.2.2.2 _ ldL_65) dL_law_207 ?_
  refine lv_land E.1 E.2.1 dL_law_210 ?_
  refine lv_lor E.1 E.2.1 dL_law_211 ?_
  refine l_mi (wx := wX adX caX T n kc ko kv k lo hi bw bb pk) (wr := wR adR caR T n kc ko kv k cd) E (As := [.int (xs (i + 1)), .int (xs (i + 2)), .int (xs (i + 3)), .long (((Int32.toInt64 (xs (i + 4))) <<< ((nI 32).toInt64 &&& 63)) ||| ((Int32.toInt64 (xs (i + 5))) &&& 4294967295))]) (rest := []) (cR_append1 l D adR caR T n kc ko kv k cd (xs (i + 1)) (xs (i + 2)) (xs (i + 3)) (((Int32.toInt64 (xs (i + 4))) <<< ((nI 32).toInt64 &&& 63)) ||| ((Int32.toInt64 (xs (i + 5))) &&& 4294967295)) hd.2.1 hn) kL_72 hd rfl hKR hPX hPR hPO hS rfl rfl rfl rfl ⟨Nat.le_of_ble_eq_true rfl, Nat.le_of_ble_eq_true rfl⟩ rfl hl.1 rfl (Nat.le_of_ble_eq_true rfl) dL_law_212 ⟨by show _ ≤ 1051; omega, by show _ ≤ 9575; omega⟩ (fun z8 u8 H locs hp8 hPX hPR hPO hS => ?_)
  have hPR : va_P D c2 (wR adR caR T n kc ko kv k 1) H := hPR
  refine lv_istore (lv' := [(6, .int z8), (5, .int (nI 1)), (4, .int (nI i)), (0, .ref b), (1, .ref (adX 0)), (2, .ref (adR 0)), (3, .ref ao)]) E.1 E.2.1 dL_law_215 hl (by decide) rfl (fun ls hl => ?_)
  refine lv_aload_n E.1 E.2.1 dL_law_217 rfl (lv_at hl 5 rfl) ?_
  refine cV_i E (As := []) (rest := []) (cR_thrown l D adR caR T n kc ko kv k 1) kL_73 hKR hPR 0 rfl rfl rfl rfl ⟨Nat.le_of_ble_eq_true rfl, Nat.le_of_ble_eq_true rfl⟩ rfl hl.1 rfl (Nat.le_of_ble_eq_true rfl) dL_law_218 ⟨by show _ ≤ 1051; omega, by show _ ≤ 9575; omega⟩ ?_
  refine lv_iload E.1 E.2.1 dL_law_221 (lv_at hl 1 rfl) ?_
  refine n_icmp_eq (tgt := 228) E dL_law_223 rfl (by decide) (by decide) (fun _ => ?_) (fun h => absurd rfl h)
  refine lv_iload E.1 E.2.1 dL_law_228 (lv_at hl 1 rfl) ?_
  refine n_if_ne (tgt := 245) E dL_law_230 rfl (by decide) (fun _ => ?_) (fun h => absurd h (by decide))
  refine lv_goto (tgt := 1105) E.1 E.2.1 dL_law_245 rfl ?_
  exact next _ _ _ ⟨T, n, kc, ko, kv, k, lo, hi, bw, bb, pk, 1, ov, hn128, hIK, hPk, hPX, hPR, hPO, hS⟩ (lv_sub hl [2, 3, 4, 5, 6] rfl)
set_option maxHeartbeats 4000000 in
set_option maxRecDepth 100000 in
theorem op_rows {p : Program} {l : Launch} {e : Env} {s : State} {m : MethodId} {below : List Frame} {meth : Method} {c0 : Code} {b L : Nat} {xs : Nat → Int32} {D : va_G} {adX adR : Nat → Nat} {caX caR : Nat → ClassId} {ao : Nat} {co : ClassId} {sa : Nat → Nat} (C : LC p l s m c0 b L xs D adX caX adR caR ao co sa) (T : Nat → Nat → Int64) (n : Nat) (kc ko : Nat → Nat) (kv : Nat → Int64) (k : Nat) (lo hi : Nat → Int64) (bw bb pk : Nat → Nat) (cd : Nat) (ov : Nat → Int64) (hn128 : n ≤ 128) (hIK : iK kc ko k) (hPk : Pks T n lo hi bw bb) {H : Heap} {locs : List Loc} (hPX : va_P D c2 (wX adX caX T n kc ko kv k lo hi bw bb pk) H) (hPR : va_P D c2 (wR adR caR T n kc ko kv k cd) H) (hPO : va_P D c2 (wO ao co ov) H) (hS : va_S (fun q => s.heap.size ≤ q) s.heap H locs) {cells slots : Nat} (hcl : cells + 1 ≤ 1051 ∧ slots + 6 ≤ 9575) {i : Nat} (hi6 : i + 6 ≤ L) {ls : Array Slot} (hl : lv_has ls 8 (lvB b adX adR ao i)) {Q : State → Prop} (next : NX p l e s m below meth c0 b D adX caX adR caR ao co i cells slots Q)   : W p l e room_1 s m #[Value.ref b] below meth c0 H locs cells slots Q (F0 m 248 ls []) := by
  obtain ⟨E, hL, hX, hbl, hlt, hd, hKX, hKR, hKO, hZ⟩ := C
  have hiB := iB_of hPk
  have hctn := ct_le (ch T kc ko kv k) n
  refine lv_aload_n E.1 E.2.1 dL_law_248 rfl (lv_at hl 2 rfl) ?_
  refine cV_i E (As := []) (rest := []) (cX_rows l D adX caX T n kc ko kv k lo hi bw bb pk) kL_77 hKX hPX 0 rfl rfl rfl rfl ⟨Nat.le_of_ble_eq_true rfl, Nat.le_of_ble_eq_true rfl⟩ rfl hl.1 rfl (Nat.le_of_ble_eq_true rfl) dL_law_249 ⟨by show _ ≤ 1051; omega, by show _ ≤ 9575; omega⟩ ?_
  refine lv_aload_n E.1 E.2.1 dL_law_252 rfl (lv_at hl 3 rfl) ?_
  refine l_mi (wx := wX adX caX T n kc ko kv k lo hi bw bb pk) (wr := wR adR caR T n kc ko kv k cd) E (As := []) (rest := [.int (nI n)]) (cR_rows l D adR caR T n kc ko kv k cd hd.2.1) kL_80 hd rfl hKR hPX hPR hPO hS rfl rfl rfl rfl ⟨Nat.le_of_ble_eq_true rfl, Nat.le_of_ble_eq_true rfl⟩ rfl hl.1 rfl (Nat.le_of_ble_eq_true rfl) dL_law_253 ⟨by show _ ≤ 1051; omega, by show _ ≤ 9575; omega⟩ (fun z8 u8 H locs hp8 hPX hPR hPO hS => ?_)
  have hp8 : z8 = nI n := hp8
  subst hp8
  have hPR : va_P D c2 (wR adR caR T n kc ko kv k 0) H := hPR
  refine lv_icmp_eq (tgt := 1105) E.1 E.2.1 dL_law_256 rfl (fun _ => ?_) (fun h => (h rfl).elim)
  refine W.widen (k := cells + 1) (n := slots + 6) (by omega) (by omega) ?_
  exact next _ _ _ ⟨T, n, kc, ko, kv, k, lo, hi, bw, bb, pk, 0, ov, hn128, hIK, hPk, hPX, hPR, hPO, hS⟩ (lv_sub hl [0, 1, 2, 3, 4] rfl)
set_option maxHeartbeats 4000000 in
set_option maxRecDepth 100000 in
theorem op_cell {p : Program} {l : Launch} {e : Env} {s : State} {m : MethodId} {below : List Frame} {meth : Method} {c0 : Code} {b L : Nat} {xs : Nat → Int32} {D : va_G} {adX adR : Nat → Nat} {caX caR : Nat → ClassId} {ao : Nat} {co : ClassId} {sa : Nat → Nat} (C : LC p l s m c0 b L xs D adX caX adR caR ao co sa) (T : Nat → Nat → Int64) (n : Nat) (kc ko : Nat → Nat) (kv : Nat → Int64) (k : Nat) (lo hi : Nat → Int64) (bw bb pk : Nat → Nat) (cd : Nat) (ov : Nat → Int64) (hn128 : n ≤ 128) (hIK : iK kc ko k) (hPk : Pks T n lo hi bw bb) {H : Heap} {locs : List Loc} (hPX : va_P D c2 (wX adX caX T n kc ko kv k lo hi bw bb pk) H) (hPR : va_P D c2 (wR adR caR T n kc ko kv k cd) H) (hPO : va_P D c2 (wO ao co ov) H) (hS : va_S (fun q => s.heap.size ≤ q) s.heap H locs) {cells slots : Nat} (hcl : cells + 1 ≤ 1051 ∧ slots + 6 ≤ 9575) {i : Nat} (hi6 : i + 6 ≤ L) {ls : Array Slot} (hl : lv_has ls 8 (lvB b adX adR ao i)) {Q : State → Prop} (next : NX p l e s m below meth c0 b D adX caX adR caR ao co i cells slots Q) (r c : Nat) (hr0 : r < n) (hc : c < 4) (e1 : xs (i + 1) = nI r) (e2 : xs (i + 2) = nI c) : W p l e room_1 s m #[Value.ref b] below meth c0 H locs cells slots Q (F0 m 261 ls []) := by
  obtain ⟨E, hL, hX, hbl, hlt, hd, hKX, hKR, hKO, hZ⟩ := C
  have hiB := iB_of hPk
  have hctn := ct_le (ch T kc ko kv k) n
  refine lv_aload_n E.1 E.2.1 dL_law_261 rfl (lv_at hl 2 rfl) ?_
  refine lv_aload_n E.1 E.2.1 dL_law_262 rfl (lv_at hl 1 rfl) ?_
  refine lv_iload E.1 E.2.1 dL_law_263 (lv_at hl 0 rfl) ?_
  refine lv_iconst (v := nI 1) E.1 E.2.1 dL_law_265 rfl ?_
  refine n_iadd E dL_law_266 ?_
  refine s_ld E hX hbl hS hL (show i + 1 < L by omega) e1 dL_law_267 ?_
  refine lv_aload_n E.1 E.2.1 dL_law_268 rfl (lv_at hl 1 rfl) ?_
  refine lv_iload E.1 E.2.1 dL_law_269 (lv_at hl 0 rfl) ?_
  refine lv_iconst (v := nI 2) E.1 E.2.1 dL_law_271 rfl ?_
  refine n_iadd E dL_law_272 ?_
  refine s_ld E hX hbl hS hL (show i + 2 < L by omega) e2 dL_law_273 ?_
  refine lv_aload_n E.1 E.2.1 dL_law_274 rfl (lv_at hl 4 rfl) ?_
  refine l_wg (S := Unit) (w1 := fun _ => wX adX caX T n kc ko kv k lo hi bw bb pk) (wx := wX adX caX T n kc ko kv k lo hi bw bb pk) (wr := wR adR caR T n kc ko kv k cd) E (As := [.ref (adX 0), .int (nI r), .int (nI c), .ref ao]) (rest := []) (wL_cell l D adX caX T n kc ko kv k lo hi bw bb pk ao co ov r c hn128 hr0 hc hd.2.2.2.1) kL_81 hd rfl hKX hKO hPX hPR hPO hS rfl rfl ⟨Nat.le_of_ble_eq_true rfl, Nat.le_of_ble_eq_true rfl⟩ rfl hl.1 rfl (Nat.le_of_ble_eq_true rfl) dL_law_275 ⟨by show _ ≤ 1051; omega, by show _ ≤ 9575; omega⟩ (fun z9 u9 x9 H locs hp9 hPX hPR hPO hS => ?_)
  obtain ⟨rfl, hx9⟩ := hp9
  have hx9 : x9 = T r c := hx9
  subst hx9
  have hPX : va_P D c2 (wX adX caX T n kc ko kv k lo hi bw bb pk) H := hPX
  refine lv_istore (lv' := [(5, .int (nI 0)), (4, .int (nI i)), (0, .ref b), (1, .ref (adX 0)), (2, .ref (adR 0)), (3, .ref ao)]) E.1 E.2.1 dL_law_278 hl (by decide) rfl (fun ls hl => ?_)
  refine lv_aload_n E.1 E.2.1 dL_law_280 rfl (lv_at hl 4 rfl) ?_
  refine lv_aload_n E.1 E.2.1 dL_law_281 rfl (lv_at hl 2 rfl) ?_
  refine lv_iload E.1 E.2.1 dL_law_282 (lv_at hl 1 rfl) ?_
  refine lv_iconst (v := nI 1) E.1 E.2.1 dL_law_284 rfl ?_
  refine n_iadd E dL_law_285 ?_
  refine s_ld E hX hbl hS hL (show i + 1 < L by omega) e1 dL_law_286 ?_
  refine lv_aload_n E.1 E.2.1 dL_law_287 rfl (lv_at hl 2 rfl) ?_
  refine lv_iload E.1 E.2.1 dL_law_288 (lv_at hl 1 rfl) ?_
  refine lv_iconst (v := nI 2) E.1 E.2.1 dL_law_290 rfl ?_
  refine n_iadd E dL_law_291 ?_
  refine s_ld E hX hbl hS hL (show i + 2 < L by omega) e2 dL_law_292 ?_
  refine l_ml (wx := wX adX caX T n kc ko kv k lo hi bw bb pk) (wr := wR adR caR T n kc ko kv k cd) E (As := [.int (nI r), .int (nI c)]) (rest := []) (cR_cell l D adR caR T n kc ko kv k cd r c hd.2.1 hn128 hr0 hc) kL_84 hd rfl hKR hPX hPR hPO hS rfl rfl rfl rfl ⟨Nat.le_of_ble_eq_true rfl, Nat.le_of_ble_eq_true rfl⟩ rfl hl.1 rfl (Nat.le_of_ble_eq_true rfl) dL_law_293 ⟨by show _ ≤ 1051; omega, by show _ ≤ 9575; omega⟩ (fun z8 u8 H locs hp8 hPX hPR hPO hS => ?_)
  have hp8 : z8 = T r c := hp8
  subst hp8
  have hPR : va_P D c2 (wR adR caR T n kc ko kv k 0) H := hPR
  refine lv_lstore (lv' := [(6, .long (T r c)), (5, .int (nI 0)), (4, .int (nI i)), (0, .ref b), (1, .ref (adX 0)), (2, .ref (adR 0)), (3, .ref ao)]) E.1 E.2.1 dL_law_296 hl (by decide) rfl (fun ls hl => ?_)
  refine lv_aload_n E.1 E.2.1 dL_law_298 rfl (lv_at hl 5 rfl) ?_
  refine cV_i E (As := []) (rest := []) (cR_thrown l D adR caR T n kc ko kv k 0) kL_73 hKR hPR 0 rfl rfl rfl rfl ⟨Nat.le_of_ble_eq_true rfl, Nat.le_of_ble_eq_true rfl⟩ rfl hl.1 rfl (Nat.le_of_ble_eq_true rfl) dL_law_299 ⟨by show _ ≤ 1051; omega, by show _ ≤ 9575; omega⟩ ?_
  refine lv_iload E.1 E.2.1 dL_law_302 (lv_at hl 1 rfl) ?_
  refine n_icmp_eq (tgt := 309) E dL_law_304 rfl (by decide) (by decide) (fun _ => ?_) (fun h => absurd rfl h)
  refine lv_iload E.1 E.2.1 dL_law_309 (lv_at hl 1 rfl) ?_
  refine n_if_ne (tgt := 325) E dL_law_311 rfl (by decide) (fun h => absurd h (by decide)) (fun _ => ?_)
  refine lv_aload_n E.1 E.2.1 dL_law_314 rfl (lv_at hl 6 rfl) ?_
  refine lv_iconst (v := nI 0) E.1 E.2.1 dL_law_315 rfl ?_
  refine n_lald E hKO hPO 0 0 rfl rfl (by decide) (by decide) dL_law_316 ?_
  refine lv_lload E.1 E.2.1 dL_law_317 (lv_at hl 0 rfl) ?_
  refine l_if_eq (tgt := 325) E dL_law_319 dL_law_320 rfl (fun _ => ?_) (fun hne => (hne fS_s).elim)
  refine lv_goto (tgt := 1105) E.1 E.2.1 dL_law_325 rfl ?_
  refine W.widen (k := cells + 1) (n := slots + 6) (by omega) (by omega) ?_
  exact next _ _ _ ⟨T, n, kc, ko, kv, k, lo, hi, bw, bb, pk, 0, fS ov 0 (T r c), hn128, hIK, hPk, hPX, hPR, hPO, hS⟩ (lv_sub hl [2, 3, 4, 5, 6] rfl)
set_option maxHeartbeats 4000000 in
set_option maxRecDepth 100000 in
theorem op_cell1 {p : Program} {l : Launch} {e : Env} {s : State} {m : MethodId} {below : List Frame} {meth : Method} {c0 : Code} {b L : Nat} {xs : Nat → Int32} {D : va_G} {adX adR : Nat → Nat} {caX caR : Nat → ClassId} {ao : Nat} {co : ClassId} {sa : Nat → Nat} (C : LC p l s m c0 b L xs D adX caX adR caR ao co sa) (T : Nat → Nat → Int64) (n : Nat) (kc ko : Nat → Nat) (kv : Nat → Int64) (k : Nat) (lo hi : Nat → Int64) (bw bb pk : Nat → Nat) (cd : Nat) (ov : Nat → Int64) (hn128 : n ≤ 128) (hIK : iK kc ko k) (hPk : Pks T n lo hi bw bb) {H : Heap} {locs : List Loc} (hPX : va_P D c2 (wX adX caX T n kc ko kv k lo hi bw bb pk) H) (hPR : va_P D c2 (wR adR caR T n kc ko kv k cd) H) (hPO : va_P D c2 (wO ao co ov) H) (hS : va_S (fun q => s.heap.size ≤ q) s.heap H locs) {cells slots : Nat} (hcl : cells + 1 ≤ 1051 ∧ slots + 6 ≤ 9575) {i : Nat} (hi6 : i + 6 ≤ L) {ls : Array Slot} (hl : lv_has ls 8 (lvB b adX adR ao i)) {Q : State → Prop} (next : NX p l e s m below meth c0 b D adX caX adR caR ao co i cells slots Q) (y x : Int32) (hx : isC x = false) (hx2 : x < 0 ∨ nI 4 ≤ x) (e1 : xs (i + 1) = y) (e2 : xs (i + 2) = x) : W p l e room_1 s m #[Value.ref b] below meth c0 H locs cells slots Q (F0 m 261 ls []) := by
  obtain ⟨E, hL, hX, hbl, hlt, hd, hKX, hKR, hKO, hZ⟩ := C
  have hiB := iB_of hPk
  have hctn := ct_le (ch T kc ko kv k) n
  refine lv_aload_n E.1 E.2.1 dL_law_261 rfl (lv_at hl 2 rfl) ?_
  refine lv_aload_n E.1 E.2.1 dL_law_262 rfl (lv_at hl 1 rfl) ?_
  refine lv_iload E.1 E.2.1 dL_law_263 (lv_at hl 0 rfl) ?_
  refine lv_iconst (v := nI 1) E.1 E.2.1 dL_law_265 rfl ?_
  refine n_iadd E dL_law_266 ?_
  refine s_ld E hX hbl hS hL (show i + 1 < L by omega) e1 dL_law_267 ?_
  refine lv_aload_n E.1 E.2.1 dL_law_268 rfl (lv_at hl 1 rfl) ?_
  refine lv_iload E.1 E.2.1 dL_law_269 (lv_at hl 0 rfl) ?_
  refine lv_iconst (v := nI 2) E.1 E.2.1 dL_law_271 rfl ?_
  refine n_iadd E dL_law_272 ?_
  refine s_ld E hX hbl hS hL (show i + 2 < L by omega) e2 dL_law_273 ?_
  refine lv_aload_n E.1 E.2.1 dL_law_274 rfl (lv_at hl 4 rfl) ?_
  refine l_wb (wx := wX adX caX T n kc ko kv k lo hi bw bb pk) (wr := wR adR caR T n kc ko kv k cd) E (As := [.ref (adX 0), .int y, .int x, .ref ao]) (rest := []) (vL_cell1 l D adX caX T n kc ko kv k lo hi bw bb pk ao co ov s.heap.size sa y x hx2 hd.2.2.2.1 hlt hd.2.2.2.2.2.1) kL_81 hd rfl hKX hKO hZ hPX hPR hPO hS rfl rfl ⟨Nat.le_of_ble_eq_true rfl, Nat.le_of_ble_eq_true rfl⟩ rfl hl.1 rfl (Nat.le_of_ble_eq_true rfl) dL_law_275 ⟨by show _ ≤ 1051; omega, by show _ ≤ 9575; omega⟩ (fun z9 u9 H locs hp9 hPX hPR hPO hS => ?_)
  have hp9 : z9 = nI 1 := hp9
  subst hp9
  have hPX : va_P D c2 (wX adX caX T n kc ko kv k lo hi bw bb pk) H := hPX
  refine lv_istore (lv' := [(5, .int (nI 1)), (4, .int (nI i)), (0, .ref b), (1, .ref (adX 0)), (2, .ref (adR 0)), (3, .ref ao)]) E.1 E.2.1 dL_law_278 hl (by decide) rfl (fun ls hl => ?_)
  refine lv_aload_n E.1 E.2.1 dL_law_280 rfl (lv_at hl 4 rfl) ?_
  refine lv_aload_n E.1 E.2.1 dL_law_281 rfl (lv_at hl 2 rfl) ?_
  refine lv_iload E.1 E.2.1 dL_law_282 (lv_at hl 1 rfl) ?_
  refine lv_iconst (v := nI 1) E.1 E.2.1 dL_law_284 rfl ?_
  refine n_iadd E dL_law_285 ?_
  refine s_ld E hX hbl hS hL (show i + 1 < L by omega) e1 dL_law_286 ?_
  refine lv_aload_n E.1 E.2.1 dL_law_287 rfl (lv_at hl 2 rfl) ?_
  refine lv_iload E.1 E.2.1 dL_law_288 (lv_at hl 1 rfl) ?_
  refine lv_iconst (v := nI 2) E.1 E.2.1 dL_law_290 rfl ?_
  refine n_iadd E dL_law_291 ?_
  refine s_ld E hX hbl hS hL (show i + 2 < L by omega) e2 dL_law_292 ?_
  refine l_ml (wx := wX adX caX T n kc ko kv k lo hi bw bb pk) (wr := wR adR caR T n kc ko kv k cd) E (As := [.int y, .int x]) (rest := []) (cR_cell1 l D adR caR T n kc ko kv k cd y x hd.2.1 hx) kL_84 hd rfl hKR hPX hPR hPO hS rfl rfl rfl rfl ⟨Nat.le_of_ble_eq_true rfl, Nat.le_of_ble_eq_true rfl⟩ rfl hl.1 rfl (Nat.le_of_ble_eq_true rfl) dL_law_293 ⟨by show _ ≤ 1051; omega, by show _ ≤ 9575; omega⟩ (fun z8 u8 H locs hp8 hPX hPR hPO hS => ?_)
  have hPR : va_P D c2 (wR adR caR T n kc ko kv k 1) H := hPR
  refine lv_lstore (lv' := [(6, .long z8), (5, .int (nI 1)), (4, .int (nI i)), (0, .ref b), (1, .ref (adX 0)), (2, .ref (adR 0)), (3, .ref ao)]) E.1 E.2.1 dL_law_296 hl (by decide) rfl (fun ls hl => ?_)
  refine lv_aload_n E.1 E.2.1 dL_law_298 rfl (lv_at hl 5 rfl) ?_
  refine cV_i E (As := []) (rest := []) (cR_thrown l D adR caR T n kc ko kv k 1) kL_73 hKR hPR 0 rfl rfl rfl rfl ⟨Nat.le_of_ble_eq_true rfl, Nat.le_of_ble_eq_true rfl⟩ rfl hl.1 rfl (Nat.le_of_ble_eq_true rfl) dL_law_299 ⟨by show _ ≤ 1051; omega, by show _ ≤ 9575; omega⟩ ?_
  refine lv_iload E.1 E.2.1 dL_law_302 (lv_at hl 1 rfl) ?_
  refine n_icmp_eq (tgt := 309) E dL_law_304 rfl (by decide) (by decide) (fun _ => ?_) (fun h => absurd rfl h)
  refine lv_iload E.1 E.2.1 dL_law_309 (lv_at hl 1 rfl) ?_
  refine n_if_ne (tgt := 325) E dL_law_311 rfl (by decide) (fun _ => ?_) (fun h => absurd h (by decide))
  refine lv_goto (tgt := 1105) E.1 E.2.1 dL_law_325 rfl ?_
  exact next _ _ _ ⟨T, n, kc, ko, kv, k, lo, hi, bw, bb, pk, 1, ov, hn128, hIK, hPk, hPX, hPR, hPO, hS⟩ (lv_sub hl [2, 3, 4, 5, 6] rfl)
set_option maxHeartbeats 4000000 in
set_option maxRecDepth 100000 in
theorem op_cell2 {p : Program} {l : Launch} {e : Env} {s : State} {m : MethodId} {below : List Frame} {meth : Method} {c0 : Code} {b L : Nat} {xs : Nat → Int32} {D : va_G} {adX adR : Nat → Nat} {caX caR : Nat → ClassId} {ao : Nat} {co : ClassId} {sa : Nat → Nat} (C : LC p l s m c0 b L xs D adX caX adR caR ao co sa) (T : Nat → Nat → Int64) (n : Nat) (kc ko : Nat → Nat) (kv : Nat → Int64) (k : Nat) (lo hi : Nat → Int64) (bw bb pk : Nat → Nat) (cd : Nat) (ov : Nat → Int64) (hn128 : n ≤ 128) (hIK : iK kc ko k) (hPk : Pks T n lo hi bw bb) {H : Heap} {locs : List Loc} (hPX : va_P D c2 (wX adX caX T n kc ko kv k lo hi bw bb pk) H) (hPR : va_P D c2 (wR adR caR T n kc ko kv k cd) H) (hPO : va_P D c2 (wO ao co ov) H) (hS : va_S (fun q => s.heap.size ≤ q) s.heap H locs) {cells slots : Nat} (hcl : cells + 1 ≤ 1051 ∧ slots + 6 ≤ 9575) {i : Nat} (hi6 : i + 6 ≤ L) {ls : Array Slot} (hl : lv_has ls 8 (lvB b adX adR ao i)) {Q : State → Prop} (next : NX p l e s m below meth c0 b D adX caX adR caR ao co i cells slots Q) (y : Int32) (c : Nat) (hc : c < 4) (hy : y < 0 ∨ nI n ≤ y) (e1 : xs (i + 1) = y) (e2 : xs (i + 2) = nI c) : W p l e room_1 s m #[Value.ref b] below meth c0 H locs cells slots Q (F0 m 261 ls []) := by
  obtain ⟨E, hL, hX, hbl, hlt, hd, hKX, hKR, hKO, hZ⟩ := C
  have hiB := iB_of hPk
  have hctn := ct_le (ch T kc ko kv k) n
  refine lv_aload_n E.1 E.2.1 dL_law_261 rfl (lv_at hl 2 rfl) ?_
  refine lv_aload_n E.1 E.2.1 dL_law_262 rfl (lv_at hl 1 rfl) ?_
  refine lv_iload E.1 E.2.1 dL_law_263 (lv_at hl 0 rfl) ?_
  refine lv_iconst (v := nI 1) E.1 E.2.1 dL_law_265 rfl ?_
  refine n_iadd E dL_law_266 ?_
  refine s_ld E hX hbl hS hL (show i + 1 < L by omega) e1 dL_law_267 ?_
  refine lv_aload_n E.1 E.2.1 dL_law_268 rfl (lv_at hl 1 rfl) ?_
  refine lv_iload E.1 E.2.1 dL_law_269 (lv_at hl 0 rfl) ?_
  refine lv_iconst (v := nI 2) E.1 E.2.1 dL_law_271 rfl ?_
  refine n_iadd E dL_law_272 ?_
  refine s_ld E hX hbl hS hL (show i + 2 < L by omega) e2 dL_law_273 ?_
  refine lv_aload_n E.1 E.2.1 dL_law_274 rfl (lv_at hl 4 rfl) ?_
  refine l_wb (wx := wX adX caX T n kc ko kv k lo hi bw bb pk) (wr := wR adR caR T n kc ko kv k cd) E (As := [.ref (adX 0), .int y, .int (nI c), .ref ao]) (rest := []) (vL_cell2 l D adX caX T n kc ko kv k lo hi bw bb pk ao co ov s.heap.size sa y c hc hy hd.2.2.2.1 hlt hd.2.2.2.2.2.1) kL_81 hd rfl hKX hKO hZ hPX hPR hPO hS rfl rfl ⟨Nat.le_of_ble_eq_true rfl, Nat.le_of_ble_eq_true rfl⟩ rfl hl.1 rfl (Nat.le_of_ble_eq_true rfl) dL_law_275 ⟨by show _ ≤ 1051; omega, by show _ ≤ 9575; omega⟩ (fun z9 u9 H locs hp9 hPX hPR hPO hS => ?_)
  have hp9 : z9 = nI 2 := hp9
  subst hp9
  have hPX : va_P D c2 (wX adX caX T n kc ko kv k lo hi bw bb pk) H := hPX
  refine lv_istore (lv' := [(5, .int (nI 2)), (4, .int (nI i)), (0, .ref b), (1, .ref (adX 0)), (2, .ref (adR 0)), (3, .ref ao)]) E.1 E.2.1 dL_law_278 hl (by decide) rfl (fun ls hl => ?_)
  refine lv_aload_n E.1 E.2.1 dL_law_280 rfl (lv_at hl 4 rfl) ?_
  refine lv_aload_n E.1 E.2.1 dL_law_281 rfl (lv_at hl 2 rfl) ?_
  refine lv_iload E.1 E.2.1 dL_law_282 (lv_at hl 1 rfl) ?_
  refine lv_iconst (v := nI 1) E.1 E.2.1 dL_law_284 rfl ?_
  refine n_iadd E dL_law_285 ?_
  refine s_ld E hX hbl hS hL (show i + 1 < L by omega) e1 dL_law_286 ?_
  refine lv_aload_n E.1 E.2.1 dL_law_287 rfl (lv_at hl 2 rfl) ?_
  refine lv_iload E.1 E.2.1 dL_law_288 (lv_at hl 1 rfl) ?_
  refine lv_iconst (v := nI 2) E.1 E.2.1 dL_law_290 rfl ?_
  refine n_iadd E dL_law_291 ?_
  refine s_ld E hX hbl hS hL (show i + 2 < L by omega) e2 dL_law_292 ?_
  refine l_ml (wx := wX adX caX T n kc ko kv k lo hi bw bb pk) (wr := wR adR caR T n kc ko kv k cd) E (As := [.int y, .int (nI c)]) (rest := []) (cR_cell2 l D adR caR T n kc ko kv k cd y c hd.2.1 hc hy) kL_84 hd rfl hKR hPX hPR hPO hS rfl rfl rfl rfl ⟨Nat.le_of_ble_eq_true rfl, Nat.le_of_ble_eq_true rfl⟩ rfl hl.1 rfl (Nat.le_of_ble_eq_true rfl) dL_law_293 ⟨by show _ ≤ 1051; omega, by show _ ≤ 9575; omega⟩ (fun z8 u8 H locs hp8 hPX hPR hPO hS => ?_)
  have hPR : va_P D c2 (wR adR caR T n kc ko kv k 2) H := hPR
  refine lv_lstore (lv' := [(6, .long z8), (5, .int (nI 2)), (4, .int (nI i)), (0, .ref b), (1, .ref (adX 0)), (2, .ref (adR 0)), (3, .ref ao)]) E.1 E.2.1 dL_law_296 hl (by decide) rfl (fun ls hl => ?_)
  refine lv_aload_n E.1 E.2.1 dL_law_298 rfl (lv_at hl 5 rfl) ?_
  refine cV_i E (As := []) (rest := []) (cR_thrown l D adR caR T n kc ko kv k 2) kL_73 hKR hPR 0 rfl rfl rfl rfl ⟨Nat.le_of_ble_eq_true rfl, Nat.le_of_ble_eq_true rfl⟩ rfl hl.1 rfl (Nat.le_of_ble_eq_true rfl) dL_law_299 ⟨by show _ ≤ 1051; omega, by show _ ≤ 9575; omega⟩ ?_
  refine lv_iload E.1 E.2.1 dL_law_302 (lv_at hl 1 rfl) ?_
  refine n_icmp_eq (tgt := 309) E dL_law_304 rfl (by decide) (by decide) (fun _ => ?_) (fun h => absurd rfl h)
  refine lv_iload E.1 E.2.1 dL_law_309 (lv_at hl 1 rfl) ?_
  refine n_if_ne (tgt := 325) E dL_law_311 rfl (by decide) (fun _ => ?_) (fun h => absurd h (by decide))
  refine lv_goto (tgt := 1105) E.1 E.2.1 dL_law_325 rfl ?_
  exact next _ _ _ ⟨T, n, kc, ko, kv, k, lo, hi, bw, bb, pk, 2, ov, hn128, hIK, hPk, hPX, hPR, hPO, hS⟩ (lv_sub hl [2, 3, 4, 5, 6] rfl)
set_option maxHeartbeats 4000000 in
set_option maxRecDepth 100000 in
theorem op_where {p : Program} {l : Launch} {e : Env} {s : State} {m : MethodId} {below : List Frame} {meth : Method} {c0 : Code} {b L : Nat} {xs : Nat → Int32} {D : va_G} {adX adR : Nat → Nat} {caX caR : Nat → ClassId} {ao : Nat} {co : ClassId} {sa : Nat → Nat} (C : LC p l s m c0 b L xs D adX caX adR caR ao co sa) (T : Nat → Nat → Int64) (n : Nat) (kc ko : Nat → Nat) (kv : Nat → Int64) (k : Nat) (lo hi : Nat → Int64) (bw bb pk : Nat → Nat) (cd : Nat) (ov : Nat → Int64) (hn128 : n ≤ 128) (hIK : iK kc ko k) (hPk : Pks T n lo hi bw bb) {H : Heap} {locs : List Loc} (hPX : va_P D c2 (wX adX caX T n kc ko kv k lo hi bw bb pk) H) (hPR : va_P D c2 (wR adR caR T n kc ko kv k cd) H) (hPO : va_P D c2 (wO ao co ov) H) (hS : va_S (fun q => s.heap.size ≤ q) s.heap H locs) {cells slots : Nat} (hcl : cells + 1 ≤ 1051 ∧ slots + 6 ≤ 9575) {i : Nat} (hi6 : i + 6 ≤ L) {ls : Array Slot} (hl : lv_has ls 8 (lvB b adX adR ao i)) {Q : State → Prop} (next : NX p l e s m below meth c0 b D adX caX adR caR ao co i cells slots Q) (c o : Nat) (hk : k < 3) (hc : c < 4) (ho : o < 6) (e1 : xs (i + 1) = nI c) (e2 : xs (i + 2) = nI o) : W p l e room_1 s m #[Value.ref b] below meth c0 H locs cells slots Q (F0 m 328 ls []) := by
  obtain ⟨E, hL, hX, hbl, hlt, hd, hKX, hKR, hKO, hZ⟩ := C
  have hiB := iB_of hPk
  have hctn := ct_le (ch T kc ko kv k) n
  refine lv_aload_n E.1 E.2.1 dL_law_328 rfl (lv_at hl 2 rfl) ?_
  refine lv_aload_n E.1 E.2.1 dL_law_329 rfl (lv_at hl 1 rfl) ?_
  refine lv_iload E.1 E.2.1 dL_law_330 (lv_at hl 0 rfl) ?_
  refine lv_iconst (v := nI 1) E.1 E.2.1 dL_law_332 rfl ?_
  refine n_iadd E dL_law_333 ?_
  refine s_ld E hX hbl hS hL (show i + 1 < L by omega) e1 dL_law_334 ?_
  refine lv_aload_n E.1 E.2.1 dL_law_335 rfl (lv_at hl 1 rfl) ?_
  refine lv_iload E.1 E.2.1 dL_law_336 (lv_at hl 0 rfl) ?_
  refine lv_iconst (v := nI 2) E.1 E.2.1 dL_law_338 rfl ?_
  refine n_iadd E dL_law_339 ?_
  refine s_ld E hX hbl hS hL (show i + 2 < L by omega) e2 dL_law_340 ?_
  refine lv_aload_n E.1 E.2.1 dL_law_341 rfl (lv_at hl 1 rfl) ?_
  refine lv_iload E.1 E.2.1 dL_law_342 (lv_at hl 0 rfl) ?_
  refine lv_iconst (v := nI 3) E.1 E.2.1 dL_law_344 rfl ?_
  refine n_iadd E dL_law_345 ?_
  refine s_ld E hX hbl hS hL (show i + 3 < L by omega) rfl dL_law_346 ?_
  refine lv_i2l E.1 E.2.1 dL_law_347 rfl ?_
  refine lv_bipush (v := nI 32) E.1 E.2.1 dL_law_348 rfl ?_
  refine lv_lshl E.1 E.2.1 dL_law_350 rfl ?_
  refine lv_aload_n E.1 E.2.1 dL_law_351 rfl (lv_at hl 1 rfl) ?_
  refine lv_iload E.1 E.2.1 dL_law_352 (lv_at hl 0 rfl) ?_
  refine lv_iconst (v := nI 4) E.1 E.2.1 dL_law_354 rfl ?_
  refine n_iadd E dL_law_355 ?_
  refine s_ld E hX hbl hS hL (show i + 4 < L by omega) rfl dL_law_356 ?_
  refine lv_i2l E.1 E.2.1 dL_law_357 rfl ?_
  refine lv_ldc2 E.1 E.2.1 E.2.2.2.1 (E.2.2.2.2 _ ldL_65) dL_law_358 ?_
  refine lv_land E.1 E.2.1 dL_law_361 ?_
  refine lv_lor E.1 E.2.1 dL_law_362 ?_
  refine lv_aload_n E.1 E.2.1 dL_law_363 rfl (lv_at hl 4 rfl) ?_
  refine l_wg (S := Unit) (w1 := fun _ => wX adX caX T n (fS kc k c) (fS ko k o) (fS kv k (((Int32.toInt64 (xs (i + 3))) <<< ((nI 32).toInt64 &&& 63)) ||| ((Int32.toInt64 (xs (i + 4))) &&& 4294967295))) (k + 1) lo hi bw bb pk) (wx := wX adX caX T n kc ko kv k lo hi bw bb pk) (wr := wR adR caR T n kc ko kv k cd) E (As := [.ref (adX 0), .int (nI c), .int (nI o), .long (((Int32.toInt64 (xs (i + 3))) <<< ((nI 32).toInt64 &&& 63)) ||| ((Int32.toInt64 (xs (i + 4))) &&& 4294967295)), .ref ao]) (rest := []) (wL_where l D adX caX T n kc ko kv k lo hi bw bb pk ao co ov c o (((Int32.toInt64 (xs (i + 3))) <<< ((nI 32).toInt64 &&& 63)) ||| ((Int32.toInt64 (xs (i + 4))) &&& 4294967295)) hd.1 hk hc ho hd.2.2.2.1) kL_85 hd rfl hKX hKO hPX hPR hPO hS rfl rfl ⟨Nat.le_of_ble_eq_true rfl, Nat.le_of_ble_eq_true rfl⟩ rfl hl.1 rfl (Nat.le_of_ble_eq_true rfl) dL_law_364 ⟨by show _ ≤ 1051; omega, by show _ ≤ 9575; omega⟩ (fun z9 u9 x9 H locs hp9 hPX hPR hPO hS => ?_)
  obtain ⟨rfl, zz, hx9, hz9⟩ := hp9
  have hx9 : x9 = Int32.toInt64 zz := hx9
  subst hx9
  have hz9 : zz = nI (k + 1) := hz9
  subst hz9
  have hPX : va_P D c2 (wX adX caX T n (fS kc k c) (fS ko k o) (fS kv k (((Int32.toInt64 (xs (i + 3))) <<< ((nI 32).toInt64 &&& 63)) ||| ((Int32.toInt64 (xs (i + 4))) &&& 4294967295))) (k + 1) lo hi bw bb pk) H := hPX
  refine lv_istore (lv' := [(5, .int (nI 0)), (4, .int (nI i)), (0, .ref b), (1, .ref (adX 0)), (2, .ref (adR 0)), (3, .ref ao)]) E.1 E.2.1 dL_law_367 hl (by decide) rfl (fun ls hl => ?_)
  refine lv_aload_n E.1 E.2.1 dL_law_369 rfl (lv_at hl 4 rfl) ?_
  refine lv_aload_n E.1 E.2.1 dL_law_370 rfl (lv_at hl 2 rfl) ?_
  refine lv_iload E.1 E.2.1 dL_law_371 (lv_at hl 1 rfl) ?_
  refine lv_iconst (v := nI 1) E.1 E.2.1 dL_law_373 rfl ?_
  refine n_iadd E dL_law_374 ?_
  refine s_ld E hX hbl hS hL (show i + 1 < L by omega) e1 dL_law_375 ?_
  refine lv_aload_n E.1 E.2.1 dL_law_376 rfl (lv_at hl 2 rfl) ?_
  refine lv_iload E.1 E.2.1 dL_law_377 (lv_at hl 1 rfl) ?_
  refine lv_iconst (v := nI 2) E.1 E.2.1 dL_law_379 rfl ?_
  refine n_iadd E dL_law_380 ?_
  refine s_ld E hX hbl hS hL (show i + 2 < L by omega) e2 dL_law_381 ?_
  refine lv_aload_n E.1 E.2.1 dL_law_382 rfl (lv_at hl 2 rfl) ?_
  refine lv_iload E.1 E.2.1 dL_law_383 (lv_at hl 1 rfl) ?_
  refine lv_iconst (v := nI 3) E.1 E.2.1 dL_law_385 rfl ?_
  refine n_iadd E dL_law_386 ?_
  refine s_ld E hX hbl hS hL (show i + 3 < L by omega) rfl dL_law_387 ?_
  refine lv_i2l E.1 E.2.1 dL_law_388 rfl ?_
  refine lv_bipush (v := nI 32) E.1 E.2.1 dL_law_389 rfl ?_
  refine lv_lshl E.1 E.2.1 dL_law_391 rfl ?_
  refine lv_aload_n E.1 E.2.1 dL_law_392 rfl (lv_at hl 2 rfl) ?_
  refine lv_iload E.1 E.2.1 dL_law_393 (lv_at hl 1 rfl) ?_
  refine lv_iconst (v := nI 4) E.1 E.2.1 dL_law_395 rfl ?_
  refine n_iadd E dL_law_396 ?_
  refine s_ld E hX hbl hS hL (show i + 4 < L by omega) rfl dL_law_397 ?_
  refine lv_i2l E.1 E.2.1 dL_law_398 rfl ?_
  refine lv_ldc2 E.1 E.2.1 E.2.2.2.1 (E.2.2.2.2 _ ldL_65) dL_law_399 ?_
  refine lv_land E.1 E.2.1 dL_law_402 ?_
  refine lv_lor E.1 E.2.1 dL_law_403 ?_
  refine l_mi (wx := wX adX caX T n (fS kc k c) (fS ko k o) (fS kv k (((Int32.toInt64 (xs (i + 3))) <<< ((nI 32).toInt64 &&& 63)) ||| ((Int32.toInt64 (xs (i + 4))) &&& 4294967295))) (k + 1) lo hi bw bb pk) (wr := wR adR caR T n kc ko kv k cd) E (As := [.int (nI c), .int (nI o), .long (((Int32.toInt64 (xs (i + 3))) <<< ((nI 32).toInt64 &&& 63)) ||| ((Int32.toInt64 (xs (i + 4))) &&& 4294967295))]) (rest := []) (cR_where l D adR caR T n kc ko kv k cd c o (((Int32.toInt64 (xs (i + 3))) <<< ((nI 32).toInt64 &&& 63)) ||| ((Int32.toInt64 (xs (i + 4))) &&& 4294967295)) hd.2.1 hk hc ho) kL_88 hd rfl hKR hPX hPR hPO hS rfl rfl rfl rfl ⟨Nat.le_of_ble_eq_true rfl, Nat.le_of_ble_eq_true rfl⟩ rfl hl.1 rfl (Nat.le_of_ble_eq_true rfl) dL_law_404 ⟨by show _ ≤ 1051; omega, by show _ ≤ 9575; omega⟩ (fun z8 u8 H locs hp8 hPX hPR hPO hS => ?_)
  have hp8 : z8 = nI (k + 1) := hp8
  subst hp8
  have hPR : va_P D c2 (wR adR caR T n (fS kc k c) (fS ko k o) (fS kv k (((Int32.toInt64 (xs (i + 3))) <<< ((nI 32).toInt64 &&& 63)) ||| ((Int32.toInt64 (xs (i + 4))) &&& 4294967295))) (k + 1) 0) H := hPR
  refine lv_istore (lv' := [(6, .int (nI (k + 1))), (5, .int (nI 0)), (4, .int (nI i)), (0, .ref b), (1, .ref (adX 0)), (2, .ref (adR 0)), (3, .ref ao)]) E.1 E.2.1 dL_law_407 hl (by decide) rfl (fun ls hl => ?_)
  refine lv_aload_n E.1 E.2.1 dL_law_409 rfl (lv_at hl 5 rfl) ?_
  refine cV_i E (As := []) (rest := []) (cR_thrown l D adR caR T n (fS kc k c) (fS ko k o) (fS kv k (((Int32.toInt64 (xs (i + 3))) <<< ((nI 32).toInt64 &&& 63)) ||| ((Int32.toInt64 (xs (i + 4))) &&& 4294967295))) (k + 1) 0) kL_73 hKR hPR 0 rfl rfl rfl rfl ⟨Nat.le_of_ble_eq_true rfl, Nat.le_of_ble_eq_true rfl⟩ rfl hl.1 rfl (Nat.le_of_ble_eq_true rfl) dL_law_410 ⟨by show _ ≤ 1051; omega, by show _ ≤ 9575; omega⟩ ?_
  refine lv_iload E.1 E.2.1 dL_law_413 (lv_at hl 1 rfl) ?_
  refine n_icmp_eq (tgt := 420) E dL_law_415 rfl (by decide) (by decide) (fun _ => ?_) (fun h => absurd rfl h)
  refine lv_iload E.1 E.2.1 dL_law_420 (lv_at hl 1 rfl) ?_
  refine n_if_ne (tgt := 437) E dL_law_422 rfl (by decide) (fun h => absurd h (by decide)) (fun _ => ?_)
  refine lv_aload_n E.1 E.2.1 dL_law_425 rfl (lv_at hl 6 rfl) ?_
  refine lv_iconst (v := nI 0) E.1 E.2.1 dL_law_426 rfl ?_
  refine n_lald E hKO hPO 0 0 rfl rfl (by decide) (by decide) dL_law_427 ?_
  refine lv_iload E.1 E.2.1 dL_law_428 (lv_at hl 0 rfl) ?_
  refine lv_i2l E.1 E.2.1 dL_law_430 rfl ?_
  refine l_if_eq (tgt := 437) E dL_law_431 dL_law_432 rfl (fun _ => ?_) (fun hne => (hne fS_s).elim)
  refine lv_goto (tgt := 1105) E.1 E.2.1 dL_law_437 rfl ?_
  refine W.widen (k := cells + 1) (n := slots + 6) (by omega) (by omega) ?_
  exact next _ _ _ ⟨T, n, fS kc k c, fS ko k o, fS kv k (((Int32.toInt64 (xs (i + 3))) <<< ((nI 32).toInt64 &&& 63)) ||| ((Int32.toInt64 (xs (i + 4))) &&& 4294967295)), k + 1, lo, hi, bw, bb, pk, 0, fS ov 0 (Int32.toInt64 (nI (k + 1))), hn128, iK_where hIK hk hc ho, hPk, hPX, hPR, hPO, hS⟩ (lv_sub hl [2, 3, 4, 5, 6] rfl)
set_option maxHeartbeats 4000000 in
set_option maxRecDepth 100000 in
theorem op_where1 {p : Program} {l : Launch} {e : Env} {s : State} {m : MethodId} {below : List Frame} {meth : Method} {c0 : Code} {b L : Nat} {xs : Nat → Int32} {D : va_G} {adX adR : Nat → Nat} {caX caR : Nat → ClassId} {ao : Nat} {co : ClassId} {sa : Nat → Nat} (C : LC p l s m c0 b L xs D adX caX adR caR ao co sa) (T : Nat → Nat → Int64) (n : Nat) (kc ko : Nat → Nat) (kv : Nat → Int64) (k : Nat) (lo hi : Nat → Int64) (bw bb pk : Nat → Nat) (cd : Nat) (ov : Nat → Int64) (hn128 : n ≤ 128) (hIK : iK kc ko k) (hPk : Pks T n lo hi bw bb) {H : Heap} {locs : List Loc} (hPX : va_P D c2 (wX adX caX T n kc ko kv k lo hi bw bb pk) H) (hPR : va_P D c2 (wR adR caR T n kc ko kv k cd) H) (hPO : va_P D c2 (wO ao co ov) H) (hS : va_S (fun q => s.heap.size ≤ q) s.heap H locs) {cells slots : Nat} (hcl : cells + 1 ≤ 1051 ∧ slots + 6 ≤ 9575) {i : Nat} (hi6 : i + 6 ≤ L) {ls : Array Slot} (hl : lv_has ls 8 (lvB b adX adR ao i)) {Q : State → Prop} (next : NX p l e s m below meth c0 b D adX caX adR caR ao co i cells slots Q) (x y : Int32) (hx : isC x = false) (hx2 : x < 0 ∨ nI 4 ≤ x) (e1 : xs (i + 1) = x) (e2 : xs (i + 2) = y) : W p l e room_1 s m #[Value.ref b] below meth c0 H locs cells slots Q (F0 m 328 ls []) := by
  obtain ⟨E, hL, hX, hbl, hlt, hd, hKX, hKR, hKO, hZ⟩ := C
  have hiB := iB_of hPk
  have hctn := ct_le (ch T kc ko kv k) n
  refine lv_aload_n E.1 E.2.1 dL_law_328 rfl (lv_at hl 2 rfl) ?_
  refine lv_aload_n E.1 E.2.1 dL_law_329 rfl (lv_at hl 1 rfl) ?_
  refine lv_iload E.1 E.2.1 dL_law_330 (lv_at hl 0 rfl) ?_
  refine lv_iconst (v := nI 1) E.1 E.2.1 dL_law_332 rfl ?_
  refine n_iadd E dL_law_333 ?_
  refine s_ld E hX hbl hS hL (show i + 1 < L by omega) e1 dL_law_334 ?_
  refine lv_aload_n E.1 E.2.1 dL_law_335 rfl (lv_at hl 1 rfl) ?_
  refine lv_iload E.1 E.2.1 dL_law_336 (lv_at hl 0 rfl) ?_
  refine lv_iconst (v := nI 2) E.1 E.2.1 dL_law_338 rfl ?_
  refine n_iadd E dL_law_339 ?_
  refine s_ld E hX hbl hS hL (show i + 2 < L by omega) e2 dL_law_340 ?_
  refine lv_aload_n E.1 E.2.1 dL_law_341 rfl (lv_at hl 1 rfl) ?_
  refine lv_iload E.1 E.2.1 dL_law_342 (lv_at hl 0 rfl) ?_
  refine lv_iconst (v := nI 3) E.1 E.2.1 dL_law_344 rfl ?_
  refine n_iadd E dL_law_345 ?_
  refine s_ld E hX hbl hS hL (show i + 3 < L by omega) rfl dL_law_346 ?_
  refine lv_i2l E.1 E.2.1 dL_law_347 rfl ?_
  refine lv_bipush (v := nI 32) E.1 E.2.1 dL_law_348 rfl ?_
  refine lv_lshl E.1 E.2.1 dL_law_350 rfl ?_
  refine lv_aload_n E.1 E.2.1 dL_law_351 rfl (lv_at hl 1 rfl) ?_
  refine lv_iload E.1 E.2.1 dL_law_352 (lv_at hl 0 rfl) ?_
  refine lv_iconst (v := nI 4) E.1 E.2.1 dL_law_354 rfl ?_
  refine n_iadd E dL_law_355 ?_
  refine s_ld E hX hbl hS hL (show i + 4 < L by omega) rfl dL_law_356 ?_
  refine lv_i2l E.1 E.2.1 dL_law_357 rfl ?_
  refine lv_ldc2 E.1 E.2.1 E.2.2.2.1 (E.2.2.2.2 _ ldL_65) dL_law_358 ?_
  refine lv_land E.1 E.2.1 dL_law_361 ?_
  refine lv_lor E.1 E.2.1 dL_law_362 ?_
  refine lv_aload_n E.1 E.2.1 dL_law_363 rfl (lv_at hl 4 rfl) ?_
  refine l_wb (wx := wX adX caX T n kc ko kv k lo hi bw bb pk) (wr := wR adR caR T n kc ko kv k cd) E (As := [.ref (adX 0), .int x, .int y, .long (((Int32.toInt64 (xs (i + 3))) <<< ((nI 32).toInt64 &&& 63)) ||| ((Int32.toInt64 (xs (i + 4))) &&& 4294967295)), .ref ao]) (rest := []) (vL_where1 l D adX caX T n kc ko kv k lo hi bw bb pk ao co ov s.heap.size sa x y (((Int32.toInt64 (xs (i + 3))) <<< ((nI 32).toInt64 &&& 63)) ||| ((Int32.toInt64 (xs (i + 4))) &&& 4294967295)) hx2 hd.2.2.2.1 hlt hd.2.2.2.2.2.1) kL_85 hd rfl hKX hKO hZ hPX hPR hPO hS rfl rfl ⟨Nat.le_of_ble_eq_true rfl, Nat.le_of_ble_eq_true rfl⟩ rfl hl.1 rfl (Nat.le_of_ble_eq_true rfl) dL_law_364 ⟨by show _ ≤ 1051; omega, by show _ ≤ 9575; omega⟩ (fun z9 u9 H locs hp9 hPX hPR hPO hS => ?_)
  have hp9 : z9 = nI 1 := hp9
  subst hp9
  have hPX : va_P D c2 (wX adX caX T n kc ko kv k lo hi bw bb pk) H := hPX
  refine lv_istore (lv' := [(5, .int (nI 1)), (4, .int (nI i)), (0, .ref b), (1, .ref (adX 0)), (2, .ref (adR 0)), (3, .ref ao)]) E.1 E.2.1 dL_law_367 hl (by decide) rfl (fun ls hl => ?_)
  refine lv_aload_n E.1 E.2.1 dL_law_369 rfl (lv_at hl 4 rfl) ?_
  refine lv_aload_n E.1 E.2.1 dL_law_370 rfl (lv_at hl 2 rfl) ?_
  refine lv_iload E.1 E.2.1 dL_law_371 (lv_at hl 1 rfl) ?_
  refine lv_iconst (v := nI 1) E.1 E.2.1 dL_law_373 rfl ?_
  refine n_iadd E dL_law_374 ?_
  refine s_ld E hX hbl hS hL (show i + 1 < L by omega) e1 dL_law_375 ?_
  refine lv_aload_n E.1 E.2.1 dL_law_376 rfl (lv_at hl 2 rfl) ?_
  refine lv_iload E.1 E.2.1 dL_law_377 (lv_at hl 1 rfl) ?_
  refine lv_iconst (v := nI 2) E.1 E.2.1 dL_law_379 rfl ?_
  refine n_iadd E dL_law_380 ?_
  refine s_ld E hX hbl hS hL (show i + 2 < L by omega) e2 dL_law_381 ?_
  refine lv_aload_n E.1 E.2.1 dL_law_382 rfl (lv_at hl 2 rfl) ?_
  refine lv_iload E.1 E.2.1 dL_law_383 (lv_at hl 1 rfl) ?_
  refine lv_iconst (v := nI 3) E.1 E.2.1 dL_law_385 rfl ?_
  refine n_iadd E dL_law_386 ?_
  refine s_ld E hX hbl hS hL (show i + 3 < L by omega) rfl dL_law_387 ?_
  refine lv_i2l E.1 E.2.1 dL_law_388 rfl ?_
  refine lv_bipush (v := nI 32) E.1 E.2.1 dL_law_389 rfl ?_
  refine lv_lshl E.1 E.2.1 dL_law_391 rfl ?_
  refine lv_aload_n E.1 E.2.1 dL_law_392 rfl (lv_at hl 2 rfl) ?_
  refine lv_iload E.1 E.2.1 dL_law_393 (lv_at hl 1 rfl) ?_
  refine lv_iconst (v := nI 4) E.1 E.2.1 dL_law_395 rfl ?_
  refine n_iadd E dL_law_396 ?_
  refine s_ld E hX hbl hS hL (show i + 4 < L by omega) rfl dL_law_397 ?_
  refine lv_i2l E.1 E.2.1 dL_law_398 rfl ?_
  refine lv_ldc2 E.1 E.2.1 E.2.2.2.1 (E.2.2.2.2 _ ldL_65) dL_law_399 ?_
  refine lv_land E.1 E.2.1 dL_law_402 ?_
  refine lv_lor E.1 E.2.1 dL_law_403 ?_
  refine l_mi (wx := wX adX caX T n kc ko kv k lo hi bw bb pk) (wr := wR adR caR T n kc ko kv k cd) E (As := [.int x, .int y, .long (((Int32.toInt64 (xs (i + 3))) <<< ((nI 32).toInt64 &&& 63)) ||| ((Int32.toInt64 (xs (i + 4))) &&& 4294967295))]) (rest := []) (cR_where1 l D adR caR T n kc ko kv k cd x y (((Int32.toInt64 (xs (i + 3))) <<< ((nI 32).toInt64 &&& 63)) ||| ((Int32.toInt64 (xs (i + 4))) &&& 4294967295)) hd.2.1 hx) kL_88 hd rfl hKR hPX hPR hPO hS rfl rfl rfl rfl ⟨Nat.le_of_ble_eq_true rfl, Nat.le_of_ble_eq_true rfl⟩ rfl hl.1 rfl (Nat.le_of_ble_eq_true rfl) dL_law_404 ⟨by show _ ≤ 1051; omega, by show _ ≤ 9575; omega⟩ (fun z8 u8 H locs hp8 hPX hPR hPO hS => ?_)
  have hPR : va_P D c2 (wR adR caR T n kc ko kv k 1) H := hPR
  refine lv_istore (lv' := [(6, .int z8), (5, .int (nI 1)), (4, .int (nI i)), (0, .ref b), (1, .ref (adX 0)), (2, .ref (adR 0)), (3, .ref ao)]) E.1 E.2.1 dL_law_407 hl (by decide) rfl (fun ls hl => ?_)
  refine lv_aload_n E.1 E.2.1 dL_law_409 rfl (lv_at hl 5 rfl) ?_
  refine cV_i E (As := []) (rest := []) (cR_thrown l D adR caR T n kc ko kv k 1) kL_73 hKR hPR 0 rfl rfl rfl rfl ⟨Nat.le_of_ble_eq_true rfl, Nat.le_of_ble_eq_true rfl⟩ rfl hl.1 rfl (Nat.le_of_ble_eq_true rfl) dL_law_410 ⟨by show _ ≤ 1051; omega, by show _ ≤ 9575; omega⟩ ?_
  refine lv_iload E.1 E.2.1 dL_law_413 (lv_at hl 1 rfl) ?_
  refine n_icmp_eq (tgt := 420) E dL_law_415 rfl (by decide) (by decide) (fun _ => ?_) (fun h => absurd rfl h)
  refine lv_iload E.1 E.2.1 dL_law_420 (lv_at hl 1 rfl) ?_
  refine n_if_ne (tgt := 437) E dL_law_422 rfl (by decide) (fun _ => ?_) (fun h => absurd h (by decide))
  refine lv_goto (tgt := 1105) E.1 E.2.1 dL_law_437 rfl ?_
  exact next _ _ _ ⟨T, n, kc, ko, kv, k, lo, hi, bw, bb, pk, 1, ov, hn128, hIK, hPk, hPX, hPR, hPO, hS⟩ (lv_sub hl [2, 3, 4, 5, 6] rfl)
set_option maxHeartbeats 4000000 in
set_option maxRecDepth 100000 in
theorem op_where1o {p : Program} {l : Launch} {e : Env} {s : State} {m : MethodId} {below : List Frame} {meth : Method} {c0 : Code} {b L : Nat} {xs : Nat → Int32} {D : va_G} {adX adR : Nat → Nat} {caX caR : Nat → ClassId} {ao : Nat} {co : ClassId} {sa : Nat → Nat} (C : LC p l s m c0 b L xs D adX caX adR caR ao co sa) (T : Nat → Nat → Int64) (n : Nat) (kc ko : Nat → Nat) (kv : Nat → Int64) (k : Nat) (lo hi : Nat → Int64) (bw bb pk : Nat → Nat) (cd : Nat) (ov : Nat → Int64) (hn128 : n ≤ 128) (hIK : iK kc ko k) (hPk : Pks T n lo hi bw bb) {H : Heap} {locs : List Loc} (hPX : va_P D c2 (wX adX caX T n kc ko kv k lo hi bw bb pk) H) (hPR : va_P D c2 (wR adR caR T n kc ko kv k cd) H) (hPO : va_P D c2 (wO ao co ov) H) (hS : va_S (fun q => s.heap.size ≤ q) s.heap H locs) {cells slots : Nat} (hcl : cells + 1 ≤ 1051 ∧ slots + 6 ≤ 9575) {i : Nat} (hi6 : i + 6 ≤ L) {ls : Array Slot} (hl : lv_has ls 8 (lvB b adX adR ao i)) {Q : State → Prop} (next : NX p l e s m below meth c0 b D adX caX adR caR ao co i cells slots Q) (c : Nat) (y : Int32) (hc : c < 4) (hy : y < 0 ∨ nI 5 < y) (e1 : xs (i + 1) = nI c) (e2 : xs (i + 2) = y) : W p l e room_1 s m #[Value.ref b] below meth c0 H locs cells slots Q (F0 m 328 ls []) := by
  obtain ⟨E, hL, hX, hbl, hlt, hd, hKX, hKR, hKO, hZ⟩ := C
  have hiB := iB_of hPk
  have hctn := ct_le (ch T kc ko kv k) n
  refine lv_aload_n E.1 E.2.1 dL_law_328 rfl (lv_at hl 2 rfl) ?_
  refine lv_aload_n E.1 E.2.1 dL_law_329 rfl (lv_at hl 1 rfl) ?_
  refine lv_iload E.1 E.2.1 dL_law_330 (lv_at hl 0 rfl) ?_
  refine lv_iconst (v := nI 1) E.1 E.2.1 dL_law_332 rfl ?_
  refine n_iadd E dL_law_333 ?_
  refine s_ld E hX hbl hS hL (show i + 1 < L by omega) e1 dL_law_334 ?_
  refine lv_aload_n E.1 E.2.1 dL_law_335 rfl (lv_at hl 1 rfl) ?_
  refine lv_iload E.1 E.2.1 dL_law_336 (lv_at hl 0 rfl) ?_
  refine lv_iconst (v := nI 2) E.1 E.2.1 dL_law_338 rfl ?_
  refine n_iadd E dL_law_339 ?_
  refine s_ld E hX hbl hS hL (show i + 2 < L by omega) e2 dL_law_340 ?_
  refine lv_aload_n E.1 E.2.1 dL_law_341 rfl (lv_at hl 1 rfl) ?_
  refine lv_iload E.1 E.2.1 dL_law_342 (lv_at hl 0 rfl) ?_
  refine lv_iconst (v := nI 3) E.1 E.2.1 dL_law_344 rfl ?_
  refine n_iadd E dL_law_345 ?_
  refine s_ld E hX hbl hS hL (show i + 3 < L by omega) rfl dL_law_346 ?_
  refine lv_i2l E.1 E.2.1 dL_law_347 rfl ?_
  refine lv_bipush (v := nI 32) E.1 E.2.1 dL_law_348 rfl ?_
  refine lv_lshl E.1 E.2.1 dL_law_350 rfl ?_
  refine lv_aload_n E.1 E.2.1 dL_law_351 rfl (lv_at hl 1 rfl) ?_
  refine lv_iload E.1 E.2.1 dL_law_352 (lv_at hl 0 rfl) ?_
  refine lv_iconst (v := nI 4) E.1 E.2.1 dL_law_354 rfl ?_
  refine n_iadd E dL_law_355 ?_
  refine s_ld E hX hbl hS hL (show i + 4 < L by omega) rfl dL_law_356 ?_
  refine lv_i2l E.1 E.2.1 dL_law_357 rfl ?_
  refine lv_ldc2 E.1 E.2.1 E.2.2.2.1 (E.2.2.2.2 _ ldL_65) dL_law_358 ?_
  refine lv_land E.1 E.2.1 dL_law_361 ?_
  refine lv_lor E.1 E.2.1 dL_law_362 ?_
  refine lv_aload_n E.1 E.2.1 dL_law_363 rfl (lv_at hl 4 rfl) ?_
  refine l_wb (wx := wX adX caX T n kc ko kv k lo hi bw bb pk) (wr := wR adR caR T n kc ko kv k cd) E (As := [.ref (adX 0), .int (nI c), .int y, .long (((Int32.toInt64 (xs (i + 3))) <<< ((nI 32).toInt64 &&& 63)) ||| ((Int32.toInt64 (xs (i + 4))) &&& 4294967295)), .ref ao]) (rest := []) (vL_where1o l D adX caX T n kc ko kv k lo hi bw bb pk ao co ov s.heap.size sa c y (((Int32.toInt64 (xs (i + 3))) <<< ((nI 32).toInt64 &&& 63)) ||| ((Int32.toInt64 (xs (i + 4))) &&& 4294967295)) hc hy hd.2.2.2.1 hlt hd.2.2.2.2.2.1) kL_85 hd rfl hKX hKO hZ hPX hPR hPO hS rfl rfl ⟨Nat.le_of_ble_eq_true rfl, Nat.le_of_ble_eq_true rfl⟩ rfl hl.1 rfl (Nat.le_of_ble_eq_true rfl) dL_law_364 ⟨by show _ ≤ 1051; omega, by show _ ≤ 9575; omega⟩ (fun z9 u9 H locs hp9 hPX hPR hPO hS => ?_)
  have hp9 : z9 = nI 1 := hp9
  subst hp9
  have hPX : va_P D c2 (wX adX caX T n kc ko kv k lo hi bw bb pk) H := hPX
  refine lv_istore (lv' := [(5, .int (nI 1)), (4, .int (nI i)), (0, .ref b), (1, .ref (adX 0)), (2, .ref (adR 0)), (3, .ref ao)]) E.1 E.2.1 dL_law_367 hl (by decide) rfl (fun ls hl => ?_)
  refine lv_aload_n E.1 E.2.1 dL_law_369 rfl (lv_at hl 4 rfl) ?_
  refine lv_aload_n E.1 E.2.1 dL_law_370 rfl (lv_at hl 2 rfl) ?_
  refine lv_iload E.1 E.2.1 dL_law_371 (lv_at hl 1 rfl) ?_
  refine lv_iconst (v := nI 1) E.1 E.2.1 dL_law_373 rfl ?_
  refine n_iadd E dL_law_374 ?_
  refine s_ld E hX hbl hS hL (show i + 1 < L by omega) e1 dL_law_375 ?_
  refine lv_aload_n E.1 E.2.1 dL_law_376 rfl (lv_at hl 2 rfl) ?_
  refine lv_iload E.1 E.2.1 dL_law_377 (lv_at hl 1 rfl) ?_
  refine lv_iconst (v := nI 2) E.1 E.2.1 dL_law_379 rfl ?_
  refine n_iadd E dL_law_380 ?_
  refine s_ld E hX hbl hS hL (show i + 2 < L by omega) e2 dL_law_381 ?_
  refine lv_aload_n E.1 E.2.1 dL_law_382 rfl (lv_at hl 2 rfl) ?_
  refine lv_iload E.1 E.2.1 dL_law_383 (lv_at hl 1 rfl) ?_
  refine lv_iconst (v := nI 3) E.1 E.2.1 dL_law_385 rfl ?_
  refine n_iadd E dL_law_386 ?_
  refine s_ld E hX hbl hS hL (show i + 3 < L by omega) rfl dL_law_387 ?_
  refine lv_i2l E.1 E.2.1 dL_law_388 rfl ?_
  refine lv_bipush (v := nI 32) E.1 E.2.1 dL_law_389 rfl ?_
  refine lv_lshl E.1 E.2.1 dL_law_391 rfl ?_
  refine lv_aload_n E.1 E.2.1 dL_law_392 rfl (lv_at hl 2 rfl) ?_
  refine lv_iload E.1 E.2.1 dL_law_393 (lv_at hl 1 rfl) ?_
  refine lv_iconst (v := nI 4) E.1 E.2.1 dL_law_395 rfl ?_
  refine n_iadd E dL_law_396 ?_
  refine s_ld E hX hbl hS hL (show i + 4 < L by omega) rfl dL_law_397 ?_
  refine lv_i2l E.1 E.2.1 dL_law_398 rfl ?_
  refine lv_ldc2 E.1 E.2.1 E.2.2.2.1 (E.2.2.2.2 _ ldL_65) dL_law_399 ?_
  refine lv_land E.1 E.2.1 dL_law_402 ?_
  refine lv_lor E.1 E.2.1 dL_law_403 ?_
  refine l_mi (wx := wX adX caX T n kc ko kv k lo hi bw bb pk) (wr := wR adR caR T n kc ko kv k cd) E (As := [.int (nI c), .int y, .long (((Int32.toInt64 (xs (i + 3))) <<< ((nI 32).toInt64 &&& 63)) ||| ((Int32.toInt64 (xs (i + 4))) &&& 4294967295))]) (rest := []) (cR_where1o l D adR caR T n kc ko kv k cd c y (((Int32.toInt64 (xs (i + 3))) <<< ((nI 32).toInt64 &&& 63)) ||| ((Int32.toInt64 (xs (i + 4))) &&& 4294967295)) hd.2.1 hc hy) kL_88 hd rfl hKR hPX hPR hPO hS rfl rfl rfl rfl ⟨Nat.le_of_ble_eq_true rfl, Nat.le_of_ble_eq_true rfl⟩ rfl hl.1 rfl (Nat.le_of_ble_eq_true rfl) dL_law_404 ⟨by show _ ≤ 1051; omega, by show _ ≤ 9575; omega⟩ (fun z8 u8 H locs hp8 hPX hPR hPO hS => ?_)
  have hPR : va_P D c2 (wR adR caR T n kc ko kv k 1) H := hPR
  refine lv_istore (lv' := [(6, .int z8), (5, .int (nI 1)), (4, .int (nI i)), (0, .ref b), (1, .ref (adX 0)), (2, .ref (adR 0)), (3, .ref ao)]) E.1 E.2.1 dL_law_407 hl (by decide) rfl (fun ls hl => ?_)
  refine lv_aload_n E.1 E.2.1 dL_law_409 rfl (lv_at hl 5 rfl) ?_
  refine cV_i E (As := []) (rest := []) (cR_thrown l D adR caR T n kc ko kv k 1) kL_73 hKR hPR 0 rfl rfl rfl rfl ⟨Nat.le_of_ble_eq_true rfl, Nat.le_of_ble_eq_true rfl⟩ rfl hl.1 rfl (Nat.le_of_ble_eq_true rfl) dL_law_410 ⟨by show _ ≤ 1051; omega, by show _ ≤ 9575; omega⟩ ?_
  refine lv_iload E.1 E.2.1 dL_law_413 (lv_at hl 1 rfl) ?_
  refine n_icmp_eq (tgt := 420) E dL_law_415 rfl (by decide) (by decide) (fun _ => ?_) (fun h => absurd rfl h)
  refine lv_iload E.1 E.2.1 dL_law_420 (lv_at hl 1 rfl) ?_
  refine n_if_ne (tgt := 437) E dL_law_422 rfl (by decide) (fun _ => ?_) (fun h => absurd h (by decide))
  refine lv_goto (tgt := 1105) E.1 E.2.1 dL_law_437 rfl ?_
  exact next _ _ _ ⟨T, n, kc, ko, kv, k, lo, hi, bw, bb, pk, 1, ov, hn128, hIK, hPk, hPX, hPR, hPO, hS⟩ (lv_sub hl [2, 3, 4, 5, 6] rfl)
set_option maxHeartbeats 4000000 in
set_option maxRecDepth 100000 in
theorem op_where2 {p : Program} {l : Launch} {e : Env} {s : State} {m : MethodId} {below : List Frame} {meth : Method} {c0 : Code} {b L : Nat} {xs : Nat → Int32} {D : va_G} {adX adR : Nat → Nat} {caX caR : Nat → ClassId} {ao : Nat} {co : ClassId} {sa : Nat → Nat} (C : LC p l s m c0 b L xs D adX caX adR caR ao co sa) (T : Nat → Nat → Int64) (n : Nat) (kc ko : Nat → Nat) (kv : Nat → Int64) (k : Nat) (lo hi : Nat → Int64) (bw bb pk : Nat → Nat) (cd : Nat) (ov : Nat → Int64) (hn128 : n ≤ 128) (hIK : iK kc ko k) (hPk : Pks T n lo hi bw bb) {H : Heap} {locs : List Loc} (hPX : va_P D c2 (wX adX caX T n kc ko kv k lo hi bw bb pk) H) (hPR : va_P D c2 (wR adR caR T n kc ko kv k cd) H) (hPO : va_P D c2 (wO ao co ov) H) (hS : va_S (fun q => s.heap.size ≤ q) s.heap H locs) {cells slots : Nat} (hcl : cells + 1 ≤ 1051 ∧ slots + 6 ≤ 9575) {i : Nat} (hi6 : i + 6 ≤ L) {ls : Array Slot} (hl : lv_has ls 8 (lvB b adX adR ao i)) {Q : State → Prop} (next : NX p l e s m below meth c0 b D adX caX adR caR ao co i cells slots Q) (c o : Nat) (hk : k = 3) (hc : c < 4) (ho : o < 6) (e1 : xs (i + 1) = nI c) (e2 : xs (i + 2) = nI o) : W p l e room_1 s m #[Value.ref b] below meth c0 H locs cells slots Q (F0 m 328 ls []) := by
  obtain ⟨E, hL, hX, hbl, hlt, hd, hKX, hKR, hKO, hZ⟩ := C
  have hiB := iB_of hPk
  have hctn := ct_le (ch T kc ko kv k) n
  refine lv_aload_n E.1 E.2.1 dL_law_328 rfl (lv_at hl 2 rfl) ?_
  refine lv_aload_n E.1 E.2.1 dL_law_329 rfl (lv_at hl 1 rfl) ?_
  refine lv_iload E.1 E.2.1 dL_law_330 (lv_at hl 0 rfl) ?_
  refine lv_iconst (v := nI 1) E.1 E.2.1 dL_law_332 rfl ?_
  refine n_iadd E dL_law_333 ?_
  refine s_ld E hX hbl hS hL (show i + 1 < L by omega) e1 dL_law_334 ?_
  refine lv_aload_n E.1 E.2.1 dL_law_335 rfl (lv_at hl 1 rfl) ?_
  refine lv_iload E.1 E.2.1 dL_law_336 (lv_at hl 0 rfl) ?_
  refine lv_iconst (v := nI 2) E.1 E.2.1 dL_law_338 rfl ?_
  refine n_iadd E dL_law_339 ?_
  refine s_ld E hX hbl hS hL (show i + 2 < L by omega) e2 dL_law_340 ?_
  refine lv_aload_n E.1 E.2.1 dL_law_341 rfl (lv_at hl 1 rfl) ?_
  refine lv_iload E.1 E.2.1 dL_law_342 (lv_at hl 0 rfl) ?_
  refine lv_iconst (v := nI 3) E.1 E.2.1 dL_law_344 rfl ?_
  refine n_iadd E dL_law_345 ?_
  refine s_ld E hX hbl hS hL (show i + 3 < L by omega) rfl dL_law_346 ?_
  refine lv_i2l E.1 E.2.1 dL_law_347 rfl ?_
  refine lv_bipush (v := nI 32) E.1 E.2.1 dL_law_348 rfl ?_
  refine lv_lshl E.1 E.2.1 dL_law_350 rfl ?_
  refine lv_aload_n E.1 E.2.1 dL_law_351 rfl (lv_at hl 1 rfl) ?_
  refine lv_iload E.1 E.2.1 dL_law_352 (lv_at hl 0 rfl) ?_
  refine lv_iconst (v := nI 4) E.1 E.2.1 dL_law_354 rfl ?_
  refine n_iadd E dL_law_355 ?_
  refine s_ld E hX hbl hS hL (show i + 4 < L by omega) rfl dL_law_356 ?_
  refine lv_i2l E.1 E.2.1 dL_law_357 rfl ?_
  refine lv_ldc2 E.1 E.2.1 E.2.2.2.1 (E.2.2.2.2 _ ldL_65) dL_law_358 ?_
  refine lv_land E.1 E.2.1 dL_law_361 ?_
  refine lv_lor E.1 E.2.1 dL_law_362 ?_
  refine lv_aload_n E.1 E.2.1 dL_law_363 rfl (lv_at hl 4 rfl) ?_
  refine l_wb (wx := wX adX caX T n kc ko kv k lo hi bw bb pk) (wr := wR adR caR T n kc ko kv k cd) E (As := [.ref (adX 0), .int (nI c), .int (nI o), .long (((Int32.toInt64 (xs (i + 3))) <<< ((nI 32).toInt64 &&& 63)) ||| ((Int32.toInt64 (xs (i + 4))) &&& 4294967295)), .ref ao]) (rest := []) (vL_where2 l D adX caX T n kc ko kv k lo hi bw bb pk ao co ov s.heap.size sa c o (((Int32.toInt64 (xs (i + 3))) <<< ((nI 32).toInt64 &&& 63)) ||| ((Int32.toInt64 (xs (i + 4))) &&& 4294967295)) hk hc ho hd.2.2.2.1 hlt hd.2.2.2.2.2.1) kL_85 hd rfl hKX hKO hZ hPX hPR hPO hS rfl rfl ⟨Nat.le_of_ble_eq_true rfl, Nat.le_of_ble_eq_true rfl⟩ rfl hl.1 rfl (Nat.le_of_ble_eq_true rfl) dL_law_364 ⟨by show _ ≤ 1051; omega, by show _ ≤ 9575; omega⟩ (fun z9 u9 H locs hp9 hPX hPR hPO hS => ?_)
  have hp9 : z9 = nI 2 := hp9
  subst hp9
  have hPX : va_P D c2 (wX adX caX T n kc ko kv k lo hi bw bb pk) H := hPX
  refine lv_istore (lv' := [(5, .int (nI 2)), (4, .int (nI i)), (0, .ref b), (1, .ref (adX 0)), (2, .ref (adR 0)), (3, .ref ao)]) E.1 E.2.1 dL_law_367 hl (by decide) rfl (fun ls hl => ?_)
  refine lv_aload_n E.1 E.2.1 dL_law_369 rfl (lv_at hl 4 rfl) ?_
  refine lv_aload_n E.1 E.2.1 dL_law_370 rfl (lv_at hl 2 rfl) ?_
  refine lv_iload E.1 E.2.1 dL_law_371 (lv_at hl 1 rfl) ?_
  refine lv_iconst (v := nI 1) E.1 E.2.1 dL_law_373 rfl ?_
  refine n_iadd E dL_law_374 ?_
  refine s_ld E hX hbl hS hL (show i + 1 < L by omega) e1 dL_law_375 ?_
  refine lv_aload_n E.1 E.2.1 dL_law_376 rfl (lv_at hl 2 rfl) ?_
  refine lv_iload E.1 E.2.1 dL_law_377 (lv_at hl 1 rfl) ?_
  refine lv_iconst (v := nI 2) E.1 E.2.1 dL_law_379 rfl ?_
  refine n_iadd E dL_law_380 ?_
  refine s_ld E hX hbl hS hL (show i + 2 < L by omega) e2 dL_law_381 ?_
  refine lv_aload_n E.1 E.2.1 dL_law_382 rfl (lv_at hl 2 rfl) ?_
  refine lv_iload E.1 E.2.1 dL_law_383 (lv_at hl 1 rfl) ?_
  refine lv_iconst (v := nI 3) E.1 E.2.1 dL_law_385 rfl ?_
  refine n_iadd E dL_law_386 ?_
  refine s_ld E hX hbl hS hL (show i + 3 < L by omega) rfl dL_law_387 ?_
  refine lv_i2l E.1 E.2.1 dL_law_388 rfl ?_
  refine lv_bipush (v := nI 32) E.1 E.2.1 dL_law_389 rfl ?_
  refine lv_lshl E.1 E.2.1 dL_law_391 rfl ?_
  refine lv_aload_n E.1 E.2.1 dL_law_392 rfl (lv_at hl 2 rfl) ?_
  refine lv_iload E.1 E.2.1 dL_law_393 (lv_at hl 1 rfl) ?_
  refine lv_iconst (v := nI 4) E.1 E.2.1 dL_law_395 rfl ?_
  refine n_iadd E dL_law_396 ?_
  refine s_ld E hX hbl hS hL (show i + 4 < L by omega) rfl dL_law_397 ?_
  refine lv_i2l E.1 E.2.1 dL_law_398 rfl ?_
  refine lv_ldc2 E.1 E.2.1 E.2.2.2.1 (E.2.2.2.2 _ ldL_65) dL_law_399 ?_
  refine lv_land E.1 E.2.1 dL_law_402 ?_
  refine lv_lor E.1 E.2.1 dL_law_403 ?_
  refine l_mi (wx := wX adX caX T n kc ko kv k lo hi bw bb pk) (wr := wR adR caR T n kc ko kv k cd) E (As := [.int (nI c), .int (nI o), .long (((Int32.toInt64 (xs (i + 3))) <<< ((nI 32).toInt64 &&& 63)) ||| ((Int32.toInt64 (xs (i + 4))) &&& 4294967295))]) (rest := []) (cR_where2 l D adR caR T n kc ko kv k cd c o (((Int32.toInt64 (xs (i + 3))) <<< ((nI 32).toInt64 &&& 63)) ||| ((Int32.toInt64 (xs (i + 4))) &&& 4294967295)) hd.2.1 hk hc ho) kL_88 hd rfl hKR hPX hPR hPO hS rfl rfl rfl rfl ⟨Nat.le_of_ble_eq_true rfl, Nat.le_of_ble_eq_true rfl⟩ rfl hl.1 rfl (Nat.le_of_ble_eq_true rfl) dL_law_404 ⟨by show _ ≤ 1051; omega, by show _ ≤ 9575; omega⟩ (fun z8 u8 H locs hp8 hPX hPR hPO hS => ?_)
  have hPR : va_P D c2 (wR adR caR T n kc ko kv k 2) H := hPR
  refine lv_istore (lv' := [(6, .int z8), (5, .int (nI 2)), (4, .int (nI i)), (0, .ref b), (1, .ref (adX 0)), (2, .ref (adR 0)), (3, .ref ao)]) E.1 E.2.1 dL_law_407 hl (by decide) rfl (fun ls hl => ?_)
  refine lv_aload_n E.1 E.2.1 dL_law_409 rfl (lv_at hl 5 rfl) ?_
  refine cV_i E (As := []) (rest := []) (cR_thrown l D adR caR T n kc ko kv k 2) kL_73 hKR hPR 0 rfl rfl rfl rfl ⟨Nat.le_of_ble_eq_true rfl, Nat.le_of_ble_eq_true rfl⟩ rfl hl.1 rfl (Nat.le_of_ble_eq_true rfl) dL_law_410 ⟨by show _ ≤ 1051; omega, by show _ ≤ 9575; omega⟩ ?_
  refine lv_iload E.1 E.2.1 dL_law_413 (lv_at hl 1 rfl) ?_
  refine n_icmp_eq (tgt := 420) E dL_law_415 rfl (by decide) (by decide) (fun _ => ?_) (fun h => absurd rfl h)
  refine lv_iload E.1 E.2.1 dL_law_420 (lv_at hl 1 rfl) ?_
  refine n_if_ne (tgt := 437) E dL_law_422 rfl (by decide) (fun _ => ?_) (fun h => absurd h (by decide))
  refine lv_goto (tgt := 1105) E.1 E.2.1 dL_law_437 rfl ?_
  exact next _ _ _ ⟨T, n, kc, ko, kv, k, lo, hi, bw, bb, pk, 2, ov, hn128, hIK, hPk, hPX, hPR, hPO, hS⟩ (lv_sub hl [2, 3, 4, 5, 6] rfl)
set_option maxHeartbeats 4000000 in
set_option maxRecDepth 100000 in
theorem op_all {p : Program} {l : Launch} {e : Env} {s : State} {m : MethodId} {below : List Frame} {meth : Method} {c0 : Code} {b L : Nat} {xs : Nat → Int32} {D : va_G} {adX adR : Nat → Nat} {caX caR : Nat → ClassId} {ao : Nat} {co : ClassId} {sa : Nat → Nat} (C : LC p l s m c0 b L xs D adX caX adR caR ao co sa) (T : Nat → Nat → Int64) (n : Nat) (kc ko : Nat → Nat) (kv : Nat → Int64) (k : Nat) (lo hi : Nat → Int64) (bw bb pk : Nat → Nat) (cd : Nat) (ov : Nat → Int64) (hn128 : n ≤ 128) (hIK : iK kc ko k) (hPk : Pks T n lo hi bw bb) {H : Heap} {locs : List Loc} (hPX : va_P D c2 (wX adX caX T n kc ko kv k lo hi bw bb pk) H) (hPR : va_P D c2 (wR adR caR T n kc ko kv k cd) H) (hPO : va_P D c2 (wO ao co ov) H) (hS : va_S (fun q => s.heap.size ≤ q) s.heap H locs) {cells slots : Nat} (hcl : cells + 1 ≤ 1051 ∧ slots + 6 ≤ 9575) {i : Nat} (hi6 : i + 6 ≤ L) {ls : Array Slot} (hl : lv_has ls 8 (lvB b adX adR ao i)) {Q : State → Prop} (next : NX p l e s m below meth c0 b D adX caX adR caR ao co i cells slots Q)   : W p l e room_1 s m #[Value.ref b] below meth c0 H locs cells slots Q (F0 m 440 ls []) := by
  obtain ⟨E, hL, hX, hbl, hlt, hd, hKX, hKR, hKO, hZ⟩ := C
  have hiB := iB_of hPk
  have hctn := ct_le (ch T kc ko kv k) n
  refine lv_aload_n E.1 E.2.1 dL_law_440 rfl (lv_at hl 2 rfl) ?_
  refine l_hw (wx := wX adX caX T n kc ko kv k lo hi bw bb pk) (wr := wR adR caR T n kc ko kv k cd) E (As := []) (rest := []) (cX_all l D adX caX T n kc ko kv k lo hi bw bb pk hd.1) kL_89 hd rfl hKX hPX hPR hPO hS rfl rfl rfl rfl ⟨Nat.le_of_ble_eq_true rfl, Nat.le_of_ble_eq_true rfl⟩ rfl hl.1 rfl (Nat.le_of_ble_eq_true rfl) dL_law_441 ⟨by show _ ≤ 1051; omega, by show _ ≤ 9575; omega⟩ (fun z9 u9 H locs hp9 hPX hPR hPO hS => ?_)
  have hp9 : z9 = nI k := hp9
  subst hp9
  have hPX : va_P D c2 (wX adX caX T n kc ko kv 0 lo hi bw bb pk) H := hPX
  refine lv_aload_n E.1 E.2.1 dL_law_444 rfl (lv_at hl 3 rfl) ?_
  refine l_mi (wx := wX adX caX T n kc ko kv 0 lo hi bw bb pk) (wr := wR adR caR T n kc ko kv k cd) E (As := []) (rest := [.int (nI k)]) (cR_all l D adR caR T n kc ko kv k cd hd.2.1) kL_92 hd rfl hKR hPX hPR hPO hS rfl rfl rfl rfl ⟨Nat.le_of_ble_eq_true rfl, Nat.le_of_ble_eq_true rfl⟩ rfl hl.1 rfl (Nat.le_of_ble_eq_true rfl) dL_law_445 ⟨by show _ ≤ 1051; omega, by show _ ≤ 9575; omega⟩ (fun z8 u8 H locs hp8 hPX hPR hPO hS => ?_)
  have hp8 : z8 = nI k := hp8
  subst hp8
  have hPR : va_P D c2 (wR adR caR T n kc ko kv 0 0) H := hPR
  refine lv_icmp_eq (tgt := 1105) E.1 E.2.1 dL_law_448 rfl (fun _ => ?_) (fun h => (h rfl).elim)
  refine W.widen (k := cells + 1) (n := slots + 6) (by omega) (by omega) ?_
  exact next _ _ _ ⟨T, n, kc, ko, kv, 0, lo, hi, bw, bb, pk, 0, ov, hn128, iK_0 hIK, hPk, hPX, hPR, hPO, hS⟩ (lv_sub hl [0, 1, 2, 3, 4] rfl)
set_option maxHeartbeats 4000000 in
set_option maxRecDepth 100000 in
theorem op_chosen {p : Program} {l : Launch} {e : Env} {s : State} {m : MethodId} {below : List Frame} {meth : Method} {c0 : Code} {b L : Nat} {xs : Nat → Int32} {D : va_G} {adX adR : Nat → Nat} {caX caR : Nat → ClassId} {ao : Nat} {co : ClassId} {sa : Nat → Nat} (C : LC p l s m c0 b L xs D adX caX adR caR ao co sa) (T : Nat → Nat → Int64) (n : Nat) (kc ko : Nat → Nat) (kv : Nat → Int64) (k : Nat) (lo hi : Nat → Int64) (bw bb pk : Nat → Nat) (cd : Nat) (ov : Nat → Int64) (hn128 : n ≤ 128) (hIK : iK kc ko k) (hPk : Pks T n lo hi bw bb) {H : Heap} {locs : List Loc} (hPX : va_P D c2 (wX adX caX T n kc ko kv k lo hi bw bb pk) H) (hPR : va_P D c2 (wR adR caR T n kc ko kv k cd) H) (hPO : va_P D c2 (wO ao co ov) H) (hS : va_S (fun q => s.heap.size ≤ q) s.heap H locs) {cells slots : Nat} (hcl : cells + 1 ≤ 1051 ∧ slots + 6 ≤ 9575) {i : Nat} (hi6 : i + 6 ≤ L) {ls : Array Slot} (hl : lv_has ls 8 (lvB b adX adR ao i)) {Q : State → Prop} (next : NX p l e s m below meth c0 b D adX caX adR caR ao co i cells slots Q)   : W p l e room_1 s m #[Value.ref b] below meth c0 H locs cells slots Q (F0 m 453 ls []) := by
  obtain ⟨E, hL, hX, hbl, hlt, hd, hKX, hKR, hKO, hZ⟩ := C
  have hiB := iB_of hPk
  have hctn := ct_le (ch T kc ko kv k) n
  refine lv_aload_n E.1 E.2.1 dL_law_453 rfl (lv_at hl 2 rfl) ?_
  refine l_hw (wx := wX adX caX T n kc ko kv k lo hi bw bb pk) (wr := wR adR caR T n kc ko kv k cd) E (As := []) (rest := []) (cX_chosen l D adX caX T n kc ko kv k lo hi bw bb pk hIK hd.1 hn128 hiB) kL_93 hd rfl hKX hPX hPR hPO hS rfl rfl rfl rfl ⟨Nat.le_of_ble_eq_true rfl, Nat.le_of_ble_eq_true rfl⟩ rfl hl.1 rfl (Nat.le_of_ble_eq_true rfl) dL_law_454 ⟨by show _ ≤ 1051; omega, by show _ ≤ 9575; omega⟩ (fun z9 u9 H locs hp9 hPX hPR hPO hS => ?_)
  obtain ⟨hz9, hE9⟩ := hp9
  have hz9 : z9 = nI (ct (ch T kc ko kv k) n) := hz9
  subst hz9
  have hPX : va_P D c2 (wX adX caX T n kc ko kv k lo hi bw bb u9) H := hPX
  refine lv_aload_n E.1 E.2.1 dL_law_457 rfl (lv_at hl 3 rfl) ?_
  refine l_mi (wx := wX adX caX T n kc ko kv k lo hi bw bb u9) (wr := wR adR caR T n kc ko kv k cd) E (As := []) (rest := [.int (nI (ct (ch T kc ko kv k) n))]) (cR_chosen l D adR caR T n kc ko kv k cd hd.2.1 hIK hn128) kL_96 hd rfl hKR hPX hPR hPO hS rfl rfl rfl rfl ⟨Nat.le_of_ble_eq_true rfl, Nat.le_of_ble_eq_true rfl⟩ rfl hl.1 rfl (Nat.le_of_ble_eq_true rfl) dL_law_458 ⟨by show _ ≤ 1051; omega, by show _ ≤ 9575; omega⟩ (fun z8 u8 H locs hp8 hPX hPR hPO hS => ?_)
  have hp8 : z8 = nI (ct (ch T kc ko kv k) n) := hp8
  subst hp8
  have hPR : va_P D c2 (wR adR caR T n kc ko kv k 0) H := hPR
  refine lv_icmp_eq (tgt := 1105) E.1 E.2.1 dL_law_461 rfl (fun _ => ?_) (fun h => (h rfl).elim)
  refine W.widen (k := cells + 1) (n := slots + 6) (by omega) (by omega) ?_
  exact next _ _ _ ⟨T, n, kc, ko, kv, k, lo, hi, bw, bb, u9, 0, ov, hn128, hIK, hPk, hPX, hPR, hPO, hS⟩ (lv_sub hl [0, 1, 2, 3, 4] rfl)
set_option maxHeartbeats 4000000 in
set_option maxRecDepth 100000 in
theorem op_row {p : Program} {l : Launch} {e : Env} {s : State} {m : MethodId} {below : List Frame} {meth : Method} {c0 : Code} {b L : Nat} {xs : Nat → Int32} {D : va_G} {adX adR : Nat → Nat} {caX caR : Nat → ClassId} {ao : Nat} {co : ClassId} {sa : Nat → Nat} (C : LC p l s m c0 b L xs D adX caX adR caR ao co sa) (T : Nat → Nat → Int64) (n : Nat) (kc ko : Nat → Nat) (kv : Nat → Int64) (k : Nat) (lo hi : Nat → Int64) (bw bb pk : Nat → Nat) (cd : Nat) (ov : Nat → Int64) (hn128 : n ≤ 128) (hIK : iK kc ko k) (hPk : Pks T n lo hi bw bb) {H : Heap} {locs : List Loc} (hPX : va_P D c2 (wX adX caX T n kc ko kv k lo hi bw bb pk) H) (hPR : va_P D c2 (wR adR caR T n kc ko kv k cd) H) (hPO : va_P D c2 (wO ao co ov) H) (hS : va_S (fun q => s.heap.size ≤ q) s.heap H locs) {cells slots : Nat} (hcl : cells + 1 ≤ 1051 ∧ slots + 6 ≤ 9575) {i : Nat} (hi6 : i + 6 ≤ L) {ls : Array Slot} (hl : lv_has ls 8 (lvB b adX adR ao i)) {Q : State → Prop} (next : NX p l e s m below meth c0 b D adX caX adR caR ao co i cells slots Q) (j : Nat) (hj : j < ct (ch T kc ko kv k) n) (e1 : xs (i + 1) = nI j) : W p l e room_1 s m #[Value.ref b] below meth c0 H locs cells slots Q (F0 m 466 ls []) := by
  obtain ⟨E, hL, hX, hbl, hlt, hd, hKX, hKR, hKO, hZ⟩ := C
  have hiB := iB_of hPk
  have hctn := ct_le (ch T kc ko kv k) n
  refine lv_aload_n E.1 E.2.1 dL_law_466 rfl (lv_at hl 2 rfl) ?_
  refine lv_aload_n E.1 E.2.1 dL_law_467 rfl (lv_at hl 1 rfl) ?_
  refine lv_iload E.1 E.2.1 dL_law_468 (lv_at hl 0 rfl) ?_
  refine lv_iconst (v := nI 1) E.1 E.2.1 dL_law_470 rfl ?_
  refine n_iadd E dL_law_471 ?_
  refine s_ld E hX hbl hS hL (show i + 1 < L by omega) e1 dL_law_472 ?_
  refine lv_aload_n E.1 E.2.1 dL_law_473 rfl (lv_at hl 4 rfl) ?_
  refine l_wg (wx := wX adX caX T n kc ko kv k lo hi bw bb pk) (wr := wR adR caR T n kc ko kv k cd) E (As := [.ref (adX 0), .int (nI j), .ref ao]) (rest := []) (wL_row l D adX caX T n kc ko kv k lo hi bw bb pk ao co ov j hIK hd.1 hn128 hiB hj hd.2.2.2.1) kL_97 hd rfl hKX hKO hPX hPR hPO hS rfl rfl ⟨Nat.le_of_ble_eq_true rfl, Nat.le_of_ble_eq_true rfl⟩ rfl hl.1 rfl (Nat.le_of_ble_eq_true rfl) dL_law_474 ⟨by show _ ≤ 1051; omega, by show _ ≤ 9575; omega⟩ (fun z9 u9 x9 H locs hp9 hPX hPR hPO hS => ?_)
  obtain ⟨rfl, zz, hx9, hz9, hE9⟩ := hp9
  have hx9 : x9 = Int32.toInt64 zz := hx9
  subst hx9
  have hz9 : zz = nI (u9 j) := hz9
  subst hz9
  have hE9 : En u9 (ch T kc ko kv k) n := hE9
  have hPX : va_P D c2 (wX adX caX T n kc ko kv k lo hi bw bb u9) H := hPX
  refine lv_istore (lv' := [(5, .int (nI 0)), (4, .int (nI i)), (0, .ref b), (1, .ref (adX 0)), (2, .ref (adR 0)), (3, .ref ao)]) E.1 E.2.1 dL_law_477 hl (by decide) rfl (fun ls hl => ?_)
  refine lv_aload_n E.1 E.2.1 dL_law_479 rfl (lv_at hl 4 rfl) ?_
  refine lv_aload_n E.1 E.2.1 dL_law_480 rfl (lv_at hl 2 rfl) ?_
  refine lv_iload E.1 E.2.1 dL_law_481 (lv_at hl 1 rfl) ?_
  refine lv_iconst (v := nI 1) E.1 E.2.1 dL_law_483 rfl ?_
  refine n_iadd E dL_law_484 ?_
  refine s_ld E hX hbl hS hL (show i + 1 < L by omega) e1 dL_law_485 ?_
  obtain ⟨hq1, hq2, hq3⟩ := en_inv hE9 j hj
  have hMr := cR_row l D adR caR T n kc ko kv k cd (u9 j) hd.2.1 hIK hn128 hq1 hq2
  rw [hq3] at hMr
  refine l_mi (wx := wX adX caX T n kc ko kv k lo hi bw bb u9) (wr := wR adR caR T n kc ko kv k cd) E (As := [.int (nI j)]) (rest := []) (hMr) kL_100 hd rfl hKR hPX hPR hPO hS rfl rfl rfl rfl ⟨Nat.le_of_ble_eq_true rfl, Nat.le_of_ble_eq_true rfl⟩ rfl hl.1 rfl (Nat.le_of_ble_eq_true rfl) dL_law_486 ⟨by show _ ≤ 1051; omega, by show _ ≤ 9575; omega⟩ (fun z8 u8 H locs hp8 hPX hPR hPO hS => ?_)
  have hp8 : z8 = nI (u9 j) := hp8
  subst hp8
  have hPR : va_P D c2 (wR adR caR T n kc ko kv k 0) H := hPR
  refine lv_istore (lv' := [(6, .int (nI (u9 j))), (5, .int (nI 0)), (4, .int (nI i)), (0, .ref b), (1, .ref (adX 0)), (2, .ref (adR 0)), (3, .ref ao)]) E.1 E.2.1 dL_law_489 hl (by decide) rfl (fun ls hl => ?_)
  refine lv_aload_n E.1 E.2.1 dL_law_491 rfl (lv_at hl 5 rfl) ?_
  refine cV_i E (As := []) (rest := []) (cR_thrown l D adR caR T n kc ko kv k 0) kL_73 hKR hPR 0 rfl rfl rfl rfl ⟨Nat.le_of_ble_eq_true rfl, Nat.le_of_ble_eq_true rfl⟩ rfl hl.1 rfl (Nat.le_of_ble_eq_true rfl) dL_law_492 ⟨by show _ ≤ 1051; omega, by show _ ≤ 9575; omega⟩ ?_
  refine lv_iload E.1 E.2.1 dL_law_495 (lv_at hl 1 rfl) ?_
  refine n_icmp_eq (tgt := 502) E dL_law_497 rfl (by decide) (by decide) (fun _ => ?_) (fun h => absurd rfl h)
  refine lv_iload E.1 E.2.1 dL_law_502 (lv_at hl 1 rfl) ?_
  refine n_if_ne (tgt := 519) E dL_law_504 rfl (by decide) (fun h => absurd h (by decide)) (fun _ => ?_)
  refine lv_aload_n E.1 E.2.1 dL_law_507 rfl (lv_at hl 6 rfl) ?_
  refine lv_iconst (v := nI 0) E.1 E.2.1 dL_law_508 rfl ?_
  refine n_lald E hKO hPO 0 0 rfl rfl (by decide) (by decide) dL_law_509 ?_
  refine lv_iload E.1 E.2.1 dL_law_510 (lv_at hl 0 rfl) ?_
  refine lv_i2l E.1 E.2.1 dL_law_512 rfl ?_
  refine l_if_eq (tgt := 519) E dL_law_513 dL_law_514 rfl (fun _ => ?_) (fun hne => (hne fS_s).elim)
  refine lv_goto (tgt := 1105) E.1 E.2.1 dL_law_519 rfl ?_
  refine W.widen (k := cells + 1) (n := slots + 6) (by omega) (by omega) ?_
  exact next _ _ _ ⟨T, n, kc, ko, kv, k, lo, hi, bw, bb, u9, 0, fS ov 0 (Int32.toInt64 (nI (u9 j))), hn128, hIK, hPk, hPX, hPR, hPO, hS⟩ (lv_sub hl [2, 3, 4, 5, 6] rfl)
set_option maxHeartbeats 4000000 in
set_option maxRecDepth 100000 in
theorem op_row1 {p : Program} {l : Launch} {e : Env} {s : State} {m : MethodId} {below : List Frame} {meth : Method} {c0 : Code} {b L : Nat} {xs : Nat → Int32} {D : va_G} {adX adR : Nat → Nat} {caX caR : Nat → ClassId} {ao : Nat} {co : ClassId} {sa : Nat → Nat} (C : LC p l s m c0 b L xs D adX caX adR caR ao co sa) (T : Nat → Nat → Int64) (n : Nat) (kc ko : Nat → Nat) (kv : Nat → Int64) (k : Nat) (lo hi : Nat → Int64) (bw bb pk : Nat → Nat) (cd : Nat) (ov : Nat → Int64) (hn128 : n ≤ 128) (hIK : iK kc ko k) (hPk : Pks T n lo hi bw bb) {H : Heap} {locs : List Loc} (hPX : va_P D c2 (wX adX caX T n kc ko kv k lo hi bw bb pk) H) (hPR : va_P D c2 (wR adR caR T n kc ko kv k cd) H) (hPO : va_P D c2 (wO ao co ov) H) (hS : va_S (fun q => s.heap.size ≤ q) s.heap H locs) {cells slots : Nat} (hcl : cells + 1 ≤ 1051 ∧ slots + 6 ≤ 9575) {i : Nat} (hi6 : i + 6 ≤ L) {ls : Array Slot} (hl : lv_has ls 8 (lvB b adX adR ao i)) {Q : State → Prop} (next : NX p l e s m below meth c0 b D adX caX adR caR ao co i cells slots Q) (y : Int32) (hy : y < 0 ∨ nI (ct (ch T kc ko kv k) n) ≤ y) (e1 : xs (i + 1) = y) : W p l e room_1 s m #[Value.ref b] below meth c0 H locs cells slots Q (F0 m 466 ls []) := by
  obtain ⟨E, hL, hX, hbl, hlt, hd, hKX, hKR, hKO, hZ⟩ := C
  have hiB := iB_of hPk
  have hctn := ct_le (ch T kc ko kv k) n
  refine lv_aload_n E.1 E.2.1 dL_law_466 rfl (lv_at hl 2 rfl) ?_
  refine lv_aload_n E.1 E.2.1 dL_law_467 rfl (lv_at hl 1 rfl) ?_
  refine lv_iload E.1 E.2.1 dL_law_468 (lv_at hl 0 rfl) ?_
  refine lv_iconst (v := nI 1) E.1 E.2.1 dL_law_470 rfl ?_
  refine n_iadd E dL_law_471 ?_
  refine s_ld E hX hbl hS hL (show i + 1 < L by omega) e1 dL_law_472 ?_
  refine lv_aload_n E.1 E.2.1 dL_law_473 rfl (lv_at hl 4 rfl) ?_
  refine l_wb (wx := wX adX caX T n kc ko kv k lo hi bw bb pk) (wr := wR adR caR T n kc ko kv k cd) E (As := [.ref (adX 0), .int y, .ref ao]) (rest := []) (vL_row1 l D adX caX T n kc ko kv k lo hi bw bb pk ao co ov s.heap.size sa y hIK hd.1 hn128 hiB hy hd.2.2.2.1 hlt hd.2.2.2.2.2.1) kL_97 hd rfl hKX hKO hZ hPX hPR hPO hS rfl rfl ⟨Nat.le_of_ble_eq_true rfl, Nat.le_of_ble_eq_true rfl⟩ rfl hl.1 rfl (Nat.le_of_ble_eq_true rfl) dL_law_474 ⟨by show _ ≤ 1051; omega, by show _ ≤ 9575; omega⟩ (fun z9 u9 H locs hp9 hPX hPR hPO hS => ?_)
  have hp9 : z9 = nI 1 := hp9
  subst hp9
  have hPX : va_P D c2 (wX adX caX T n kc ko kv k lo hi bw bb u9) H := hPX
  refine lv_istore (lv' := [(5, .int (nI 1)), (4, .int (nI i)), (0, .ref b), (1, .ref (adX 0)), (2, .ref (adR 0)), (3, .ref ao)]) E.1 E.2.1 dL_law_477 hl (by decide) rfl (fun ls hl => ?_)
  refine lv_aload_n E.1 E.2.1 dL_law_479 rfl (lv_at hl 4 rfl) ?_
  refine lv_aload_n E.1 E.2.1 dL_law_480 rfl (lv_at hl 2 rfl) ?_
  refine lv_iload E.1 E.2.1 dL_law_481 (lv_at hl 1 rfl) ?_
  refine lv_iconst (v := nI 1) E.1 E.2.1 dL_law_483 rfl ?_
  refine n_iadd E dL_law_484 ?_
  refine s_ld E hX hbl hS hL (show i + 1 < L by omega) e1 dL_law_485 ?_
  refine l_mi (wx := wX adX caX T n kc ko kv k lo hi bw bb u9) (wr := wR adR caR T n kc ko kv k cd) E (As := [.int y]) (rest := []) (cR_row1 l D adR caR T n kc ko kv k cd y hd.2.1 hIK hn128 (fun t ht hP => nI_bad hy (ct_lt ht hP) (by omega))) kL_100 hd rfl hKR hPX hPR hPO hS rfl rfl rfl rfl ⟨Nat.le_of_ble_eq_true rfl, Nat.le_of_ble_eq_true rfl⟩ rfl hl.1 rfl (Nat.le_of_ble_eq_true rfl) dL_law_486 ⟨by show _ ≤ 1051; omega, by show _ ≤ 9575; omega⟩ (fun z8 u8 H locs hp8 hPX hPR hPO hS => ?_)
  have hPR : va_P D c2 (wR adR caR T n kc ko kv k 1) H := hPR
  refine lv_istore (lv' := [(6, .int z8), (5, .int (nI 1)), (4, .int (nI i)), (0, .ref b), (1, .ref (adX 0)), (2, .ref (adR 0)), (3, .ref ao)]) E.1 E.2.1 dL_law_489 hl (by decide) rfl (fun ls hl => ?_)
  refine lv_aload_n E.1 E.2.1 dL_law_491 rfl (lv_at hl 5 rfl) ?_
  refine cV_i E (As := []) (rest := []) (cR_thrown l D adR caR T n kc ko kv k 1) kL_73 hKR hPR 0 rfl rfl rfl rfl ⟨Nat.le_of_ble_eq_true rfl, Nat.le_of_ble_eq_true rfl⟩ rfl hl.1 rfl (Nat.le_of_ble_eq_true rfl) dL_law_492 ⟨by show _ ≤ 1051; omega, by show _ ≤ 9575; omega⟩ ?_
  refine lv_iload E.1 E.2.1 dL_law_495 (lv_at hl 1 rfl) ?_
  refine n_icmp_eq (tgt := 502) E dL_law_497 rfl (by decide) (by decide) (fun _ => ?_) (fun h => absurd rfl h)
  refine lv_iload E.1 E.2.1 dL_law_502 (lv_at hl 1 rfl) ?_
  refine n_if_ne (tgt := 519) E dL_law_504 rfl (by decide) (fun _ => ?_) (fun h => absurd h (by decide))
  refine lv_goto (tgt := 1105) E.1 E.2.1 dL_law_519 rfl ?_
  exact next _ _ _ ⟨T, n, kc, ko, kv, k, lo, hi, bw, bb, u9, 1, ov, hn128, hIK, hPk, hPX, hPR, hPO, hS⟩ (lv_sub hl [2, 3, 4, 5, 6] rfl)
set_option maxHeartbeats 4000000 in
set_option maxRecDepth 100000 in
theorem op_blocks {p : Program} {l : Launch} {e : Env} {s : State} {m : MethodId} {below : List Frame} {meth : Method} {c0 : Code} {b L : Nat} {xs : Nat → Int32} {D : va_G} {adX adR : Nat → Nat} {caX caR : Nat → ClassId} {ao : Nat} {co : ClassId} {sa : Nat → Nat} (C : LC p l s m c0 b L xs D adX caX adR caR ao co sa) (T : Nat → Nat → Int64) (n : Nat) (kc ko : Nat → Nat) (kv : Nat → Int64) (k : Nat) (lo hi : Nat → Int64) (bw bb pk : Nat → Nat) (cd : Nat) (ov : Nat → Int64) (hn128 : n ≤ 128) (hIK : iK kc ko k) (hPk : Pks T n lo hi bw bb) {H : Heap} {locs : List Loc} (hPX : va_P D c2 (wX adX caX T n kc ko kv k lo hi bw bb pk) H) (hPR : va_P D c2 (wR adR caR T n kc ko kv k cd) H) (hPO : va_P D c2 (wO ao co ov) H) (hS : va_S (fun q => s.heap.size ≤ q) s.heap H locs) {cells slots : Nat} (hcl : cells + 1 ≤ 1051 ∧ slots + 6 ≤ 9575) {i : Nat} (hi6 : i + 6 ≤ L) {ls : Array Slot} (hl : lv_has ls 8 (lvB b adX adR ao i)) {Q : State → Prop} (next : NX p l e s m below meth c0 b D adX caX adR caR ao co i cells slots Q)   : W p l e room_1 s m #[Value.ref b] below meth c0 H locs cells slots Q (F0 m 522 ls []) := by
  obtain ⟨E, hL, hX, hbl, hlt, hd, hKX, hKR, hKO, hZ⟩ := C
  have hiB := iB_of hPk
  have hctn := ct_le (ch T kc ko kv k) n
  refine lv_aload_n E.1 E.2.1 dL_law_522 rfl (lv_at hl 2 rfl) ?_
  refine cV_i E (As := []) (rest := []) (cX_blocks l D adX caX T n kc ko kv k lo hi bw bb pk hIK hn128) kL_101 hKX hPX 0 rfl rfl rfl rfl ⟨Nat.le_of_ble_eq_true rfl, Nat.le_of_ble_eq_true rfl⟩ rfl hl.1 rfl (Nat.le_of_ble_eq_true rfl) dL_law_523 ⟨by show _ ≤ 1051; omega, by show _ ≤ 9575; omega⟩ ?_
  refine lv_aload_n E.1 E.2.1 dL_law_526 rfl (lv_at hl 3 rfl) ?_
  refine l_mi (wx := wX adX caX T n kc ko kv k lo hi bw bb pk) (wr := wR adR caR T n kc ko kv k cd) E (As := []) (rest := [.int (nI (ct (fun b => !po n kc ko kv k lo hi b) ((n + 16 - 1) / 16)))]) (cR_blocks l D adR caR T n kc ko kv k cd hd.2.1 hIK hn128) kL_104 hd rfl hKR hPX hPR hPO hS rfl rfl rfl rfl ⟨Nat.le_of_ble_eq_true rfl, Nat.le_of_ble_eq_true rfl⟩ rfl hl.1 rfl (Nat.le_of_ble_eq_true rfl) dL_law_527 ⟨by show _ ≤ 1051; omega, by show _ ≤ 9575; omega⟩ (fun z8 u8 H locs hp8 hPX hPR hPO hS => ?_)
  have hp8 : z8 = nI (ct (rbk T n kc ko kv k) ((n + 15) / 16)) := hp8
  subst hp8
  have hPR : va_P D c2 (wR adR caR T n kc ko kv k 0) H := hPR
  refine lv_icmp_eq (tgt := 1105) E.1 E.2.1 dL_law_530 rfl (fun _ => ?_) (fun h => (h (congrArg nI (blocks_eq hPk hIK.2.1))).elim)
  refine W.widen (k := cells + 1) (n := slots + 6) (by omega) (by omega) ?_
  exact next _ _ _ ⟨T, n, kc, ko, kv, k, lo, hi, bw, bb, pk, 0, ov, hn128, hIK, hPk, hPX, hPR, hPO, hS⟩ (lv_sub hl [0, 1, 2, 3, 4] rfl)
set_option maxHeartbeats 4000000 in
set_option maxRecDepth 100000 in
theorem op_sum {p : Program} {l : Launch} {e : Env} {s : State} {m : MethodId} {below : List Frame} {meth : Method} {c0 : Code} {b L : Nat} {xs : Nat → Int32} {D : va_G} {adX adR : Nat → Nat} {caX caR : Nat → ClassId} {ao : Nat} {co : ClassId} {sa : Nat → Nat} (C : LC p l s m c0 b L xs D adX caX adR caR ao co sa) (T : Nat → Nat → Int64) (n : Nat) (kc ko : Nat → Nat) (kv : Nat → Int64) (k : Nat) (lo hi : Nat → Int64) (bw bb pk : Nat → Nat) (cd : Nat) (ov : Nat → Int64) (hn128 : n ≤ 128) (hIK : iK kc ko k) (hPk : Pks T n lo hi bw bb) {H : Heap} {locs : List Loc} (hPX : va_P D c2 (wX adX caX T n kc ko kv k lo hi bw bb pk) H) (hPR : va_P D c2 (wR adR caR T n kc ko kv k cd) H) (hPO : va_P D c2 (wO ao co ov) H) (hS : va_S (fun q => s.heap.size ≤ q) s.heap H locs) {cells slots : Nat} (hcl : cells + 1 ≤ 1051 ∧ slots + 6 ≤ 9575) {i : Nat} (hi6 : i + 6 ≤ L) {ls : Array Slot} (hl : lv_has ls 8 (lvB b adX adR ao i)) {Q : State → Prop} (next : NX p l e s m below meth c0 b D adX caX adR caR ao co i cells slots Q) (c : Nat) (hc : c < 4) (e1 : xs (i + 1) = nI c) : W p l e room_1 s m #[Value.ref b] below meth c0 H locs cells slots Q (F0 m 535 ls []) := by
  obtain ⟨E, hL, hX, hbl, hlt, hd, hKX, hKR, hKO, hZ⟩ := C
  have hiB := iB_of hPk
  have hctn := ct_le (ch T kc ko kv k) n
  refine lv_aload_n E.1 E.2.1 dL_law_535 rfl (lv_at hl 2 rfl) ?_
  refine lv_aload_n E.1 E.2.1 dL_law_536 rfl (lv_at hl 1 rfl) ?_
  refine lv_iload E.1 E.2.1 dL_law_537 (lv_at hl 0 rfl) ?_
  refine lv_iconst (v := nI 1) E.1 E.2.1 dL_law_539 rfl ?_
  refine n_iadd E dL_law_540 ?_
  refine s_ld E hX hbl hS hL (show i + 1 < L by omega) e1 dL_law_541 ?_
  refine lv_aload_n E.1 E.2.1 dL_law_542 rfl (lv_at hl 4 rfl) ?_
  refine l_wg (wx := wX adX caX T n kc ko kv k lo hi bw bb pk) (wr := wR adR caR T n kc ko kv k cd) E (As := [.ref (adX 0), .int (nI c), .ref ao]) (rest := []) (wL_sum l D adX caX T n kc ko kv k lo hi bw bb pk ao co ov c hIK hd.1 hn128 hiB hc hd.2.2.2.1) kL_105 hd rfl hKX hKO hPX hPR hPO hS rfl rfl ⟨Nat.le_of_ble_eq_true rfl, Nat.le_of_ble_eq_true rfl⟩ rfl hl.1 rfl (Nat.le_of_ble_eq_true rfl) dL_law_543 ⟨by show _ ≤ 1051; omega, by show _ ≤ 9575; omega⟩ (fun z9 u9 x9 H locs hp9 hPX hPR hPO hS => ?_)
  obtain ⟨rfl, hx9, hE9⟩ := hp9
  have hE9 : En u9 (ch T kc ko kv k) n := hE9
  have hx9 : x9 = sm (fun j => T (u9 j) c) (ct (ch T kc ko kv k) n) := hx9
  rw [← sm_tr hE9 (fun t => T t c) (Nat.le_refl n)] at hx9
  subst hx9
  have hPX : va_P D c2 (wX adX caX T n kc ko kv k lo hi bw bb u9) H := hPX
  refine lv_istore (lv' := [(5, .int (nI 0)), (4, .int (nI i)), (0, .ref b), (1, .ref (adX 0)), (2, .ref (adR 0)), (3, .ref ao)]) E.1 E.2.1 dL_law_546 hl (by decide) rfl (fun ls hl => ?_)
  refine lv_aload_n E.1 E.2.1 dL_law_548 rfl (lv_at hl 4 rfl) ?_
  refine lv_aload_n E.1 E.2.1 dL_law_549 rfl (lv_at hl 2 rfl) ?_
  refine lv_iload E.1 E.2.1 dL_law_550 (lv_at hl 1 rfl) ?_
  refine lv_iconst (v := nI 1) E.1 E.2.1 dL_law_552 rfl ?_
  refine n_iadd E dL_law_553 ?_
  refine s_ld E hX hbl hS hL (show i + 1 < L by omega) e1 dL_law_554 ?_
  refine l_ml (wx := wX adX caX T n kc ko kv k lo hi bw bb u9) (wr := wR adR caR T n kc ko kv k cd) E (As := [.int (nI c)]) (rest := []) (cR_sum l D adR caR T n kc ko kv k cd c hd.2.1 hIK hn128 hc) kL_107 hd rfl hKR hPX hPR hPO hS rfl rfl rfl rfl ⟨Nat.le_of_ble_eq_true rfl, Nat.le_of_ble_eq_true rfl⟩ rfl hl.1 rfl (Nat.le_of_ble_eq_true rfl) dL_law_555 ⟨by show _ ≤ 1051; omega, by show _ ≤ 9575; omega⟩ (fun z8 u8 H locs hp8 hPX hPR hPO hS => ?_)
  have hp8 : z8 = sm (fun t => if (ch T kc ko kv k) t then T t c else 0) n := hp8
  subst hp8
  have hPR : va_P D c2 (wR adR caR T n kc ko kv k 0) H := hPR
  refine lv_lstore (lv' := [(6, .long (sm (fun t => if (ch T kc ko kv k) t then T t c else 0) n)), (5, .int (nI 0)), (4, .int (nI i)), (0, .ref b), (1, .ref (adX 0)), (2, .ref (adR 0)), (3, .ref ao)]) E.1 E.2.1 dL_law_558 hl (by decide) rfl (fun ls hl => ?_)
  refine lv_aload_n E.1 E.2.1 dL_law_560 rfl (lv_at hl 5 rfl) ?_
  refine cV_i E (As := []) (rest := []) (cR_thrown l D adR caR T n kc ko kv k 0) kL_73 hKR hPR 0 rfl rfl rfl rfl ⟨Nat.le_of_ble_eq_true rfl, Nat.le_of_ble_eq_true rfl⟩ rfl hl.1 rfl (Nat.le_of_ble_eq_true rfl) dL_law_561 ⟨by show _ ≤ 1051; omega, by show _ ≤ 9575; omega⟩ ?_
  refine lv_iload E.1 E.2.1 dL_law_564 (lv_at hl 1 rfl) ?_
  refine n_icmp_eq (tgt := 571) E dL_law_566 rfl (by decide) (by decide) (fun _ => ?_) (fun h => absurd rfl h)
  refine lv_iload E.1 E.2.1 dL_law_571 (lv_at hl 1 rfl) ?_
  refine n_if_ne (tgt := 587) E dL_law_573 rfl (by decide) (fun h => absurd h (by decide)) (fun _ => ?_)
  refine lv_aload_n E.1 E.2.1 dL_law_576 rfl (lv_at hl 6 rfl) ?_
  refine lv_iconst (v := nI 0) E.1 E.2.1 dL_law_577 rfl ?_
  refine n_lald E hKO hPO 0 0 rfl rfl (by decide) (by decide) dL_law_578 ?_
  refine lv_lload E.1 E.2.1 dL_law_579 (lv_at hl 0 rfl) ?_
  refine l_if_eq (tgt := 587) E dL_law_581 dL_law_582 rfl (fun _ => ?_) (fun hne => (hne fS_s).elim)
  refine lv_goto (tgt := 1105) E.1 E.2.1 dL_law_587 rfl ?_
  refine W.widen (k := cells + 1) (n := slots + 6) (by omega) (by omega) ?_
  exact next _ _ _ ⟨T, n, kc, ko, kv, k, lo, hi, bw, bb, u9, 0, fS ov 0 (sm (fun t => if (ch T kc ko kv k) t then T t c else 0) n), hn128, hIK, hPk, hPX, hPR, hPO, hS⟩ (lv_sub hl [2, 3, 4, 5, 6] rfl)
set_option maxHeartbeats 4000000 in
set_option maxRecDepth 100000 in
theorem op_sum1 {p : Program} {l : Launch} {e : Env} {s : State} {m : MethodId} {below : List Frame} {meth : Method} {c0 : Code} {b L : Nat} {xs : Nat → Int32} {D : va_G} {adX adR : Nat → Nat} {caX caR : Nat → ClassId} {ao : Nat} {co : ClassId} {sa : Nat → Nat} (C : LC p l s m c0 b L xs D adX caX adR caR ao co sa) (T : Nat → Nat → Int64) (n : Nat) (kc ko : Nat → Nat) (kv : Nat → Int64) (k : Nat) (lo hi : Nat → Int64) (bw bb pk : Nat → Nat) (cd : Nat) (ov : Nat → Int64) (hn128 : n ≤ 128) (hIK : iK kc ko k) (hPk : Pks T n lo hi bw bb) {H : Heap} {locs : List Loc} (hPX : va_P D c2 (wX adX caX T n kc ko kv k lo hi bw bb pk) H) (hPR : va_P D c2 (wR adR caR T n kc ko kv k cd) H) (hPO : va_P D c2 (wO ao co ov) H) (hS : va_S (fun q => s.heap.size ≤ q) s.heap H locs) {cells slots : Nat} (hcl : cells + 1 ≤ 1051 ∧ slots + 6 ≤ 9575) {i : Nat} (hi6 : i + 6 ≤ L) {ls : Array Slot} (hl : lv_has ls 8 (lvB b adX adR ao i)) {Q : State → Prop} (next : NX p l e s m below meth c0 b D adX caX adR caR ao co i cells slots Q) (x : Int32) (hx : isC x = false) (hx2 : x < 0 ∨ nI 4 ≤ x) (e1 : xs (i + 1) = x) : W p l e room_1 s m #[Value.ref b] below meth c0 H locs cells slots Q (F0 m 535 ls []) := by
  obtain ⟨E, hL, hX, hbl, hlt, hd, hKX, hKR, hKO, hZ⟩ := C
  have hiB := iB_of hPk
  have hctn := ct_le (ch T kc ko kv k) n
  refine lv_aload_n E.1 E.2.1 dL_law_535 rfl (lv_at hl 2 rfl) ?_
  refine lv_aload_n E.1 E.2.1 dL_law_536 rfl (lv_at hl 1 rfl) ?_
  refine lv_iload E.1 E.2.1 dL_law_537 (lv_at hl 0 rfl) ?_
  refine lv_iconst (v := nI 1) E.1 E.2.1 dL_law_539 rfl ?_
  refine n_iadd E dL_law_540 ?_
  refine s_ld E hX hbl hS hL (show i + 1 < L by omega) e1 dL_law_541 ?_
  refine lv_aload_n E.1 E.2.1 dL_law_542 rfl (lv_at hl 4 rfl) ?_
  refine l_wb (wx := wX adX caX T n kc ko kv k lo hi bw bb pk) (wr := wR adR caR T n kc ko kv k cd) E (As := [.ref (adX 0), .int x, .ref ao]) (rest := []) (vL_sum1 l D adX caX T n kc ko kv k lo hi bw bb pk ao co ov s.heap.size sa x hx2 hd.2.2.2.1 hlt hd.2.2.2.2.2.1) kL_105 hd rfl hKX hKO hZ hPX hPR hPO hS rfl rfl ⟨Nat.le_of_ble_eq_true rfl, Nat.le_of_ble_eq_true rfl⟩ rfl hl.1 rfl (Nat.le_of_ble_eq_true rfl) dL_law_543 ⟨by show _ ≤ 1051; omega, by show _ ≤ 9575; omega⟩ (fun z9 u9 H locs hp9 hPX hPR hPO hS => ?_)
  have hp9 : z9 = nI 1 := hp9
  subst hp9
  have hPX : va_P D c2 (wX adX caX T n kc ko kv k lo hi bw bb pk) H := hPX
  refine lv_istore (lv' := [(5, .int (nI 1)), (4, .int (nI i)), (0, .ref b), (1, .ref (adX 0)), (2, .ref (adR 0)), (3, .ref ao)]) E.1 E.2.1 dL_law_546 hl (by decide) rfl (fun ls hl => ?_)
  refine lv_aload_n E.1 E.2.1 dL_law_548 rfl (lv_at hl 4 rfl) ?_
  refine lv_aload_n E.1 E.2.1 dL_law_549 rfl (lv_at hl 2 rfl) ?_
  refine lv_iload E.1 E.2.1 dL_law_550 (lv_at hl 1 rfl) ?_
  refine lv_iconst (v := nI 1) E.1 E.2.1 dL_law_552 rfl ?_
  refine n_iadd E dL_law_553 ?_
  refine s_ld E hX hbl hS hL (show i + 1 < L by omega) e1 dL_law_554 ?_
  refine l_ml (wx := wX adX caX T n kc ko kv k lo hi bw bb pk) (wr := wR adR caR T n kc ko kv k cd) E (As := [.int x]) (rest := []) (cR_sum1 l D adR caR T n kc ko kv k cd x hd.2.1 hn128 hx) kL_107 hd rfl hKR hPX hPR hPO hS rfl rfl rfl rfl ⟨Nat.le_of_ble_eq_true rfl, Nat.le_of_ble_eq_true rfl⟩ rfl hl.1 rfl (Nat.le_of_ble_eq_true rfl) dL_law_555 ⟨by show _ ≤ 1051; omega, by show _ ≤ 9575; omega⟩ (fun z8 u8 H locs hp8 hPX hPR hPO hS => ?_)
  have hPR : va_P D c2 (wR adR caR T n kc ko kv k 1) H := hPR
  refine lv_lstore (lv' := [(6, .long z8), (5, .int (nI 1)), (4, .int (nI i)), (0, .ref b), (1, .ref (adX 0)), (2, .ref (adR 0)), (3, .ref ao)]) E.1 E.2.1 dL_law_558 hl (by decide) rfl (fun ls hl => ?_)
  refine lv_aload_n E.1 E.2.1 dL_law_560 rfl (lv_at hl 5 rfl) ?_
  refine cV_i E (As := []) (rest := []) (cR_thrown l D adR caR T n kc ko kv k 1) kL_73 hKR hPR 0 rfl rfl rfl rfl ⟨Nat.le_of_ble_eq_true rfl, Nat.le_of_ble_eq_true rfl⟩ rfl hl.1 rfl (Nat.le_of_ble_eq_true rfl) dL_law_561 ⟨by show _ ≤ 1051; omega, by show _ ≤ 9575; omega⟩ ?_
  refine lv_iload E.1 E.2.1 dL_law_564 (lv_at hl 1 rfl) ?_
  refine n_icmp_eq (tgt := 571) E dL_law_566 rfl (by decide) (by decide) (fun _ => ?_) (fun h => absurd rfl h)
  refine lv_iload E.1 E.2.1 dL_law_571 (lv_at hl 1 rfl) ?_
  refine n_if_ne (tgt := 587) E dL_law_573 rfl (by decide) (fun _ => ?_) (fun h => absurd h (by decide))
  refine lv_goto (tgt := 1105) E.1 E.2.1 dL_law_587 rfl ?_
  exact next _ _ _ ⟨T, n, kc, ko, kv, k, lo, hi, bw, bb, pk, 1, ov, hn128, hIK, hPk, hPX, hPR, hPO, hS⟩ (lv_sub hl [2, 3, 4, 5, 6] rfl)
set_option maxHeartbeats 4000000 in
set_option maxRecDepth 100000 in
theorem op_bound_true {p : Program} {l : Launch} {e : Env} {s : State} {m : MethodId} {below : List Frame} {meth : Method} {c0 : Code} {b L : Nat} {xs : Nat → Int32} {D : va_G} {adX adR : Nat → Nat} {caX caR : Nat → ClassId} {ao : Nat} {co : ClassId} {sa : Nat → Nat} (C : LC p l s m c0 b L xs D adX caX adR caR ao co sa) (T : Nat → Nat → Int64) (n : Nat) (kc ko : Nat → Nat) (kv : Nat → Int64) (k : Nat) (lo hi : Nat → Int64) (bw bb pk : Nat → Nat) (cd : Nat) (ov : Nat → Int64) (hn128 : n ≤ 128) (hIK : iK kc ko k) (hPk : Pks T n lo hi bw bb) {H : Heap} {locs : List Loc} (hPX : va_P D c2 (wX adX caX T n kc ko kv k lo hi bw bb pk) H) (hPR : va_P D c2 (wR adR caR T n kc ko kv k cd) H) (hPO : va_P D c2 (wO ao co ov) H) (hS : va_S (fun q => s.heap.size ≤ q) s.heap H locs) {cells slots : Nat} (hcl : cells + 1 ≤ 1051 ∧ slots + 6 ≤ 9575) {i : Nat} (hi6 : i + 6 ≤ L) {ls : Array Slot} (hl : lv_has ls 8 (lvB b adX adR ao i)) {Q : State → Prop} (next : NX p l e s m below meth c0 b D adX caX adR caR ao co i cells slots Q) (c : Nat) (hc : c < 4) (hpos : 0 < ct (ch T kc ko kv k) n) (e1 : xs (i + 1) = nI c) (hz : ¬ xs (i + 2) = 0) : W p l e room_1 s m #[Value.ref b] below meth c0 H locs cells slots Q (F0 m 590 ls []) := by
  obtain ⟨E, hL, hX, hbl, hlt, hd, hKX, hKR, hKO, hZ⟩ := C
  have hiB := iB_of hPk
  have hctn := ct_le (ch T kc ko kv k) n
  refine lv_aload_n E.1 E.2.1 dL_law_590 rfl (lv_at hl 2 rfl) ?_
  refine lv_aload_n E.1 E.2.1 dL_law_591 rfl (lv_at hl 1 rfl) ?_
  refine lv_iload E.1 E.2.1 dL_law_592 (lv_at hl 0 rfl) ?_
  refine lv_iconst (v := nI 1) E.1 E.2.1 dL_law_594 rfl ?_
  refine n_iadd E dL_law_595 ?_
  refine s_ld E hX hbl hS hL (show i + 1 < L by omega) e1 dL_law_596 ?_
  refine lv_aload_n E.1 E.2.1 dL_law_597 rfl (lv_at hl 1 rfl) ?_
  refine lv_iload E.1 E.2.1 dL_law_598 (lv_at hl 0 rfl) ?_
  refine lv_iconst (v := nI 2) E.1 E.2.1 dL_law_600 rfl ?_
  refine n_iadd E dL_law_601 ?_
  refine s_ld E hX hbl hS hL (show i + 2 < L by omega) rfl dL_law_602 ?_
  refine lv_if_eq (tgt := 610) E.1 E.2.1 dL_law_603 rfl (fun h => absurd h hz) (fun _ => ?_)
  refine lv_iconst (v := nI 1) E.1 E.2.1 dL_law_606 rfl ?_
  refine lv_goto (tgt := 611) E.1 E.2.1 dL_law_607 rfl ?_
  refine lv_aload_n E.1 E.2.1 dL_law_611 rfl (lv_at hl 4 rfl) ?_
  refine l_wg (wx := wX adX caX T n kc ko kv k lo hi bw bb pk) (wr := wR adR caR T n kc ko kv k cd) E (As := [.ref (adX 0), .int (nI c), .int (bI true), .ref ao]) (rest := []) (wL_bound l D adX caX T n kc ko kv k lo hi bw bb pk ao co ov c true hIK hd.1 hn128 hiB hc hpos hd.2.2.2.1) kL_108 hd rfl hKX hKO hPX hPR hPO hS rfl rfl ⟨Nat.le_of_ble_eq_true rfl, Nat.le_of_ble_eq_true rfl⟩ rfl hl.1 rfl (Nat.le_of_ble_eq_true rfl) dL_law_612 ⟨by show _ ≤ 1051; omega, by show _ ≤ 9575; omega⟩ (fun z9 u9 x9 H locs hp9 hPX hPR hPO hS => ?_)
  obtain ⟨rfl, hx9, hE9⟩ := hp9
  have hE9 : En u9 (ch T kc ko kv k) n := hE9
  have hx9 : x9 = bnd (fun j => T (u9 j) c) true (ct (ch T kc ko kv k) n - 1) := hx9
  have hx9 := hx9.trans (bound_eq (f := fun t => T t c) (d := true) hE9 hpos)
  subst hx9
  have hPX : va_P D c2 (wX adX caX T n kc ko kv k lo hi bw bb u9) H := hPX
  refine lv_istore (lv' := [(5, .int (nI 0)), (4, .int (nI i)), (0, .ref b), (1, .ref (adX 0)), (2, .ref (adR 0)), (3, .ref ao)]) E.1 E.2.1 dL_law_615 hl (by decide) rfl (fun ls hl => ?_)
  refine lv_aload_n E.1 E.2.1 dL_law_617 rfl (lv_at hl 4 rfl) ?_
  refine lv_aload_n E.1 E.2.1 dL_law_618 rfl (lv_at hl 2 rfl) ?_
  refine lv_iload E.1 E.2.1 dL_law_619 (lv_at hl 1 rfl) ?_
  refine lv_iconst (v := nI 1) E.1 E.2.1 dL_law_621 rfl ?_
  refine n_iadd E dL_law_622 ?_
  refine s_ld E hX hbl hS hL (show i + 1 < L by omega) e1 dL_law_623 ?_
  refine lv_aload_n E.1 E.2.1 dL_law_624 rfl (lv_at hl 2 rfl) ?_
  refine lv_iload E.1 E.2.1 dL_law_625 (lv_at hl 1 rfl) ?_
  refine lv_iconst (v := nI 2) E.1 E.2.1 dL_law_627 rfl ?_
  refine n_iadd E dL_law_628 ?_
  refine s_ld E hX hbl hS hL (show i + 2 < L by omega) rfl dL_law_629 ?_
  refine lv_if_eq (tgt := 637) E.1 E.2.1 dL_law_630 rfl (fun h => absurd h hz) (fun _ => ?_)
  refine lv_iconst (v := nI 1) E.1 E.2.1 dL_law_633 rfl ?_
  refine lv_goto (tgt := 638) E.1 E.2.1 dL_law_634 rfl ?_
  refine l_ml (wx := wX adX caX T n kc ko kv k lo hi bw bb u9) (wr := wR adR caR T n kc ko kv k cd) E (As := [.int (nI c), .int (bI true)]) (rest := []) (cR_bound l D adR caR T n kc ko kv k cd c true hd.2.1 hIK hn128 hc hpos) kL_111 hd rfl hKR hPX hPR hPO hS rfl rfl rfl rfl ⟨Nat.le_of_ble_eq_true rfl, Nat.le_of_ble_eq_true rfl⟩ rfl hl.1 rfl (Nat.le_of_ble_eq_true rfl) dL_law_638 ⟨by show _ ≤ 1051; omega, by show _ ≤ 9575; omega⟩ (fun z8 u8 H locs hp8 hPX hPR hPO hS => ?_)
  have hp8 : z8 = bR (ch T kc ko kv k) (fun t => T t c) true n := hp8
  subst hp8
  have hPR : va_P D c2 (wR adR caR T n kc ko kv k 0) H := hPR
  refine lv_lstore (lv' := [(6, .long (bR (ch T kc ko kv k) (fun t => T t c) true n)), (5, .int (nI 0)), (4, .int (nI i)), (0, .ref b), (1, .ref (adX 0)), (2, .ref (adR 0)), (3, .ref ao)]) E.1 E.2.1 dL_law_641 hl (by decide) rfl (fun ls hl => ?_)
  refine lv_aload_n E.1 E.2.1 dL_law_643 rfl (lv_at hl 5 rfl) ?_
  refine cV_i E (As := []) (rest := []) (cR_thrown l D adR caR T n kc ko kv k 0) kL_73 hKR hPR 0 rfl rfl rfl rfl ⟨Nat.le_of_ble_eq_true rfl, Nat.le_of_ble_eq_true rfl⟩ rfl hl.1 rfl (Nat.le_of_ble_eq_true rfl) dL_law_644 ⟨by show _ ≤ 1051; omega, by show _ ≤ 9575; omega⟩ ?_
  refine lv_iload E.1 E.2.1 dL_law_647 (lv_at hl 1 rfl) ?_
  refine n_icmp_eq (tgt := 654) E dL_law_649 rfl (by decide) (by decide) (fun _ => ?_) (fun h => absurd rfl h)
  refine lv_iload E.1 E.2.1 dL_law_654 (lv_at hl 1 rfl) ?_
  refine n_if_ne (tgt := 670) E dL_law_656 rfl (by decide) (fun h => absurd h (by decide)) (fun _ => ?_)
  refine lv_aload_n E.1 E.2.1 dL_law_659 rfl (lv_at hl 6 rfl) ?_
  refine lv_iconst (v := nI 0) E.1 E.2.1 dL_law_660 rfl ?_
  refine n_lald E hKO hPO 0 0 rfl rfl (by decide) (by decide) dL_law_661 ?_
  refine lv_lload E.1 E.2.1 dL_law_662 (lv_at hl 0 rfl) ?_
  refine l_if_eq (tgt := 670) E dL_law_664 dL_law_665 rfl (fun _ => ?_) (fun hne => (hne fS_s).elim)
  refine lv_goto (tgt := 1105) E.1 E.2.1 dL_law_670 rfl ?_
  refine W.widen (k := cells + 1) (n := slots + 6) (by omega) (by omega) ?_
  exact next _ _ _ ⟨T, n, kc, ko, kv, k, lo, hi, bw, bb, u9, 0, fS ov 0 (bR (ch T kc ko kv k) (fun t => T t c) true n), hn128, hIK, hPk, hPX, hPR, hPO, hS⟩ (lv_sub hl [2, 3, 4, 5, 6] rfl)
set_option maxHeartbeats 4000000 in
set_option maxRecDepth 100000 in
theorem op_bound1_true {p : Program} {l : Launch} {e : Env} {s : State} {m : MethodId} {below : List Frame} {meth : Method} {c0 : Code} {b L : Nat} {xs : Nat → Int32} {D : va_G} {adX adR : Nat → Nat} {caX caR : Nat → ClassId} {ao : Nat} {co : ClassId} {sa : Nat → Nat} (C : LC p l s m c0 b L xs D adX caX adR caR ao co sa) (T : Nat → Nat → Int64) (n : Nat) (kc ko : Nat → Nat) (kv : Nat → Int64) (k : Nat) (lo hi : Nat → Int64) (bw bb pk : Nat → Nat) (cd : Nat) (ov : Nat → Int64) (hn128 : n ≤ 128) (hIK : iK kc ko k) (hPk : Pks T n lo hi bw bb) {H : Heap} {locs : List Loc} (hPX : va_P D c2 (wX adX caX T n kc ko kv k lo hi bw bb pk) H) (hPR : va_P D c2 (wR adR caR T n kc ko kv k cd) H) (hPO : va_P D c2 (wO ao co ov) H) (hS : va_S (fun q => s.heap.size ≤ q) s.heap H locs) {cells slots : Nat} (hcl : cells + 1 ≤ 1051 ∧ slots + 6 ≤ 9575) {i : Nat} (hi6 : i + 6 ≤ L) {ls : Array Slot} (hl : lv_has ls 8 (lvB b adX adR ao i)) {Q : State → Prop} (next : NX p l e s m below meth c0 b D adX caX adR caR ao co i cells slots Q) (x : Int32) (hx : isC x = false) (hx2 : x < 0 ∨ nI 4 ≤ x) (e1 : xs (i + 1) = x) (hz : ¬ xs (i + 2) = 0) : W p l e room_1 s m #[Value.ref b] below meth c0 H locs cells slots Q (F0 m 590 ls []) := by
  obtain ⟨E, hL, hX, hbl, hlt, hd, hKX, hKR, hKO, hZ⟩ := C
  have hiB := iB_of hPk
  have hctn := ct_le (ch T kc ko kv k) n
  refine lv_aload_n E.1 E.2.1 dL_law_590 rfl (lv_at hl 2 rfl) ?_
  refine lv_aload_n E.1 E.2.1 dL_law_591 rfl (lv_at hl 1 rfl) ?_
  refine lv_iload E.1 E.2.1 dL_law_592 (lv_at hl 0 rfl) ?_
  refine lv_iconst (v := nI 1) E.1 E.2.1 dL_law_594 rfl ?_
  refine n_iadd E dL_law_595 ?_
  refine s_ld E hX hbl hS hL (show i + 1 < L by omega) e1 dL_law_596 ?_
  refine lv_aload_n E.1 E.2.1 dL_law_597 rfl (lv_at hl 1 rfl) ?_
  refine lv_iload E.1 E.2.1 dL_law_598 (lv_at hl 0 rfl) ?_
  refine lv_iconst (v := nI 2) E.1 E.2.1 dL_law_600 rfl ?_
  refine n_iadd E dL_law_601 ?_
  refine s_ld E hX hbl hS hL (show i + 2 < L by omega) rfl dL_law_602 ?_
  refine lv_if_eq (tgt := 610) E.1 E.2.1 dL_law_603 rfl (fun h => absurd h hz) (fun _ => ?_)
  refine lv_iconst (v := nI 1) E.1 E.2.1 dL_law_606 rfl ?_
  refine lv_goto (tgt := 611) E.1 E.2.1 dL_law_607 rfl ?_
  refine lv_aload_n E.1 E.2.1 dL_law_611 rfl (lv_at hl 4 rfl) ?_
  refine l_wb (wx := wX adX caX T n kc ko kv k lo hi bw bb pk) (wr := wR adR caR T n kc ko kv k cd) E (As := [.ref (adX 0), .int x, .int (bI true), .ref ao]) (rest := []) (vL_bound1 l D adX caX T n kc ko kv k lo hi bw bb pk ao co ov s.heap.size sa x true hx2 hd.2.2.2.1 hlt hd.2.2.2.2.2.1) kL_108 hd rfl hKX hKO hZ hPX hPR hPO hS rfl rfl ⟨Nat.le_of_ble_eq_true rfl, Nat.le_of_ble_eq_true rfl⟩ rfl hl.1 rfl (Nat.le_of_ble_eq_true rfl) dL_law_612 ⟨by show _ ≤ 1051; omega, by show _ ≤ 9575; omega⟩ (fun z9 u9 H locs hp9 hPX hPR hPO hS => ?_)
  have hp9 : z9 = nI 1 := hp9
  subst hp9
  have hPX : va_P D c2 (wX adX caX T n kc ko kv k lo hi bw bb pk) H := hPX
  refine lv_istore (lv' := [(5, .int (nI 1)), (4, .int (nI i)), (0, .ref b), (1, .ref (adX 0)), (2, .ref (adR 0)), (3, .ref ao)]) E.1 E.2.1 dL_law_615 hl (by decide) rfl (fun ls hl => ?_)
  refine lv_aload_n E.1 E.2.1 dL_law_617 rfl (lv_at hl 4 rfl) ?_
  refine lv_aload_n E.1 E.2.1 dL_law_618 rfl (lv_at hl 2 rfl) ?_
  refine lv_iload E.1 E.2.1 dL_law_619 (lv_at hl 1 rfl) ?_
  refine lv_iconst (v := nI 1) E.1 E.2.1 dL_law_621 rfl ?_
  refine n_iadd E dL_law_622 ?_
  refine s_ld E hX hbl hS hL (show i + 1 < L by omega) e1 dL_law_623 ?_
  refine lv_aload_n E.1 E.2.1 dL_law_624 rfl (lv_at hl 2 rfl) ?_
  refine lv_iload E.1 E.2.1 dL_law_625 (lv_at hl 1 rfl) ?_
  refine lv_iconst (v := nI 2) E.1 E.2.1 dL_law_627 rfl ?_
  refine n_iadd E dL_law_628 ?_
  refine s_ld E hX hbl hS hL (show i + 2 < L by omega) rfl dL_law_629 ?_
  refine lv_if_eq (tgt := 637) E.1 E.2.1 dL_law_630 rfl (fun h => absurd h hz) (fun _ => ?_)
  refine lv_iconst (v := nI 1) E.1 E.2.1 dL_law_633 rfl ?_
  refine lv_goto (tgt := 638) E.1 E.2.1 dL_law_634 rfl ?_
  refine l_ml (wx := wX adX caX T n kc ko kv k lo hi bw bb pk) (wr := wR adR caR T n kc ko kv k cd) E (As := [.int x, .int (bI true)]) (rest := []) (cR_bound1 l D adR caR T n kc ko kv k cd x true hd.2.1 hn128 hx) kL_111 hd rfl hKR hPX hPR hPO hS rfl rfl rfl rfl ⟨Nat.le_of_ble_eq_true rfl, Nat.le_of_ble_eq_true rfl⟩ rfl hl.1 rfl (Nat.le_of_ble_eq_true rfl) dL_law_638 ⟨by show _ ≤ 1051; omega, by show _ ≤ 9575; omega⟩ (fun z8 u8 H locs hp8 hPX hPR hPO hS => ?_)
  have hPR : va_P D c2 (wR adR caR T n kc ko kv k 1) H := hPR
  refine lv_lstore (lv' := [(6, .long z8), (5, .int (nI 1)), (4, .int (nI i)), (0, .ref b), (1, .ref (adX 0)), (2, .ref (adR 0)), (3, .ref ao)]) E.1 E.2.1 dL_law_641 hl (by decide) rfl (fun ls hl => ?_)
  refine lv_aload_n E.1 E.2.1 dL_law_643 rfl (lv_at hl 5 rfl) ?_
  refine cV_i E (As := []) (rest := []) (cR_thrown l D adR caR T n kc ko kv k 1) kL_73 hKR hPR 0 rfl rfl rfl rfl ⟨Nat.le_of_ble_eq_true rfl, Nat.le_of_ble_eq_true rfl⟩ rfl hl.1 rfl (Nat.le_of_ble_eq_true rfl) dL_law_644 ⟨by show _ ≤ 1051; omega, by show _ ≤ 9575; omega⟩ ?_
  refine lv_iload E.1 E.2.1 dL_law_647 (lv_at hl 1 rfl) ?_
  refine n_icmp_eq (tgt := 654) E dL_law_649 rfl (by decide) (by decide) (fun _ => ?_) (fun h => absurd rfl h)
  refine lv_iload E.1 E.2.1 dL_law_654 (lv_at hl 1 rfl) ?_
  refine n_if_ne (tgt := 670) E dL_law_656 rfl (by decide) (fun _ => ?_) (fun h => absurd h (by decide))
  refine lv_goto (tgt := 1105) E.1 E.2.1 dL_law_670 rfl ?_
  exact next _ _ _ ⟨T, n, kc, ko, kv, k, lo, hi, bw, bb, pk, 1, ov, hn128, hIK, hPk, hPX, hPR, hPO, hS⟩ (lv_sub hl [2, 3, 4, 5, 6] rfl)
set_option maxHeartbeats 4000000 in
set_option maxRecDepth 100000 in
theorem op_bound2_true {p : Program} {l : Launch} {e : Env} {s : State} {m : MethodId} {below : List Frame} {meth : Method} {c0 : Code} {b L : Nat} {xs : Nat → Int32} {D : va_G} {adX adR : Nat → Nat} {caX caR : Nat → ClassId} {ao : Nat} {co : ClassId} {sa : Nat → Nat} (C : LC p l s m c0 b L xs D adX caX adR caR ao co sa) (T : Nat → Nat → Int64) (n : Nat) (kc ko : Nat → Nat) (kv : Nat → Int64) (k : Nat) (lo hi : Nat → Int64) (bw bb pk : Nat → Nat) (cd : Nat) (ov : Nat → Int64) (hn128 : n ≤ 128) (hIK : iK kc ko k) (hPk : Pks T n lo hi bw bb) {H : Heap} {locs : List Loc} (hPX : va_P D c2 (wX adX caX T n kc ko kv k lo hi bw bb pk) H) (hPR : va_P D c2 (wR adR caR T n kc ko kv k cd) H) (hPO : va_P D c2 (wO ao co ov) H) (hS : va_S (fun q => s.heap.size ≤ q) s.heap H locs) {cells slots : Nat} (hcl : cells + 1 ≤ 1051 ∧ slots + 6 ≤ 9575) {i : Nat} (hi6 : i + 6 ≤ L) {ls : Array Slot} (hl : lv_has ls 8 (lvB b adX adR ao i)) {Q : State → Prop} (next : NX p l e s m below meth c0 b D adX caX adR caR ao co i cells slots Q) (c : Nat) (hc : c < 4) (hpos : ct (ch T kc ko kv k) n = 0) (e1 : xs (i + 1) = nI c) (hz : ¬ xs (i + 2) = 0) : W p l e room_1 s m #[Value.ref b] below meth c0 H locs cells slots Q (F0 m 590 ls []) := by
  obtain ⟨E, hL, hX, hbl, hlt, hd, hKX, hKR, hKO, hZ⟩ := C
  have hiB := iB_of hPk
  have hctn := ct_le (ch T kc ko kv k) n
  refine lv_aload_n E.1 E.2.1 dL_law_590 rfl (lv_at hl 2 rfl) ?_
  refine lv_aload_n E.1 E.2.1 dL_law_591 rfl (lv_at hl 1 rfl) ?_
  refine lv_iload E.1 E.2.1 dL_law_592 (lv_at hl 0 rfl) ?_
  refine lv_iconst (v := nI 1) E.1 E.2.1 dL_law_594 rfl ?_
  refine n_iadd E dL_law_595 ?_
  refine s_ld E hX hbl hS hL (show i + 1 < L by omega) e1 dL_law_596 ?_
  refine lv_aload_n E.1 E.2.1 dL_law_597 rfl (lv_at hl 1 rfl) ?_
  refine lv_iload E.1 E.2.1 dL_law_598 (lv_at hl 0 rfl) ?_
  refine lv_iconst (v := nI 2) E.1 E.2.1 dL_law_600 rfl ?_
  refine n_iadd E dL_law_601 ?_
  refine s_ld E hX hbl hS hL (show i + 2 < L by omega) rfl dL_law_602 ?_
  refine lv_if_eq (tgt := 610) E.1 E.2.1 dL_law_603 rfl (fun h => absurd h hz) (fun _ => ?_)
  refine lv_iconst (v := nI 1) E.1 E.2.1 dL_law_606 rfl ?_
  refine lv_goto (tgt := 611) E.1 E.2.1 dL_law_607 rfl ?_
  refine lv_aload_n E.1 E.2.1 dL_law_611 rfl (lv_at hl 4 rfl) ?_
  refine l_wb (wx := wX adX caX T n kc ko kv k lo hi bw bb pk) (wr := wR adR caR T n kc ko kv k cd) E (As := [.ref (adX 0), .int (nI c), .int (bI true), .ref ao]) (rest := []) (vL_bound2 l D adX caX T n kc ko kv k lo hi bw bb pk ao co ov s.heap.size sa c true hIK hd.1 hn128 hiB hc hpos hd.2.2.2.1 hlt hd.2.2.2.2.2.1) kL_108 hd rfl hKX hKO hZ hPX hPR hPO hS rfl rfl ⟨Nat.le_of_ble_eq_true rfl, Nat.le_of_ble_eq_true rfl⟩ rfl hl.1 rfl (Nat.le_of_ble_eq_true rfl) dL_law_612 ⟨by show _ ≤ 1051; omega, by show _ ≤ 9575; omega⟩ (fun z9 u9 H locs hp9 hPX hPR hPO hS => ?_)
  have hp9 : z9 = nI 2 := hp9
  subst hp9
  have hPX : va_P D c2 (wX adX caX T n kc ko kv k lo hi bw bb u9) H := hPX
  refine lv_istore (lv' := [(5, .int (nI 2)), (4, .int (nI i)), (0, .ref b), (1, .ref (adX 0)), (2, .ref (adR 0)), (3, .ref ao)]) E.1 E.2.1 dL_law_615 hl (by decide) rfl (fun ls hl => ?_)
  refine lv_aload_n E.1 E.2.1 dL_law_617 rfl (lv_at hl 4 rfl) ?_
  refine lv_aload_n E.1 E.2.1 dL_law_618 rfl (lv_at hl 2 rfl) ?_
  refine lv_iload E.1 E.2.1 dL_law_619 (lv_at hl 1 rfl) ?_
  refine lv_iconst (v := nI 1) E.1 E.2.1 dL_law_621 rfl ?_
  refine n_iadd E dL_law_622 ?_
  refine s_ld E hX hbl hS hL (show i + 1 < L by omega) e1 dL_law_623 ?_
  refine lv_aload_n E.1 E.2.1 dL_law_624 rfl (lv_at hl 2 rfl) ?_
  refine lv_iload E.1 E.2.1 dL_law_625 (lv_at hl 1 rfl) ?_
  refine lv_iconst (v := nI 2) E.1 E.2.1 dL_law_627 rfl ?_
  refine n_iadd E dL_law_628 ?_
  refine s_ld E hX hbl hS hL (show i + 2 < L by omega) rfl dL_law_629 ?_
  refine lv_if_eq (tgt := 637) E.1 E.2.1 dL_law_630 rfl (fun h => absurd h hz) (fun _ => ?_)
  refine lv_iconst (v := nI 1) E.1 E.2.1 dL_law_633 rfl ?_
  refine lv_goto (tgt := 638) E.1 E.2.1 dL_law_634 rfl ?_
  refine l_ml (wx := wX adX caX T n kc ko kv k lo hi bw bb u9) (wr := wR adR caR T n kc ko kv k cd) E (As := [.int (nI c), .int (bI true)]) (rest := []) (cR_bound2 l D adR caR T n kc ko kv k cd c true hd.2.1 hIK hn128 hc hpos) kL_111 hd rfl hKR hPX hPR hPO hS rfl rfl rfl rfl ⟨Nat.le_of_ble_eq_true rfl, Nat.le_of_ble_eq_true rfl⟩ rfl hl.1 rfl (Nat.le_of_ble_eq_true rfl) dL_law_638 ⟨by show _ ≤ 1051; omega, by show _ ≤ 9575; omega⟩ (fun z8 u8 H locs hp8 hPX hPR hPO hS => ?_)
  have hPR : va_P D c2 (wR adR caR T n kc ko kv k 2) H := hPR
  refine lv_lstore (lv' := [(6, .long z8), (5, .int (nI 2)), (4, .int (nI i)), (0, .ref b), (1, .ref (adX 0)), (2, .ref (adR 0)), (3, .ref ao)]) E.1 E.2.1 dL_law_641 hl (by decide) rfl (fun ls hl => ?_)
  refine lv_aload_n E.1 E.2.1 dL_law_643 rfl (lv_at hl 5 rfl) ?_
  refine cV_i E (As := []) (rest := []) (cR_thrown l D adR caR T n kc ko kv k 2) kL_73 hKR hPR 0 rfl rfl rfl rfl ⟨Nat.le_of_ble_eq_true rfl, Nat.le_of_ble_eq_true rfl⟩ rfl hl.1 rfl (Nat.le_of_ble_eq_true rfl) dL_law_644 ⟨by show _ ≤ 1051; omega, by show _ ≤ 9575; omega⟩ ?_
  refine lv_iload E.1 E.2.1 dL_law_647 (lv_at hl 1 rfl) ?_
  refine n_icmp_eq (tgt := 654) E dL_law_649 rfl (by decide) (by decide) (fun _ => ?_) (fun h => absurd rfl h)
  refine lv_iload E.1 E.2.1 dL_law_654 (lv_at hl 1 rfl) ?_
  refine n_if_ne (tgt := 670) E dL_law_656 rfl (by decide) (fun _ => ?_) (fun h => absurd h (by decide))
  refine lv_goto (tgt := 1105) E.1 E.2.1 dL_law_670 rfl ?_
  exact next _ _ _ ⟨T, n, kc, ko, kv, k, lo, hi, bw, bb, u9, 2, ov, hn128, hIK, hPk, hPX, hPR, hPO, hS⟩ (lv_sub hl [2, 3, 4, 5, 6] rfl)
set_option maxHeartbeats 4000000 in
set_option maxRecDepth 100000 in
theorem op_bound_false {p : Program} {l : Launch} {e : Env} {s : State} {m : MethodId} {below : List Frame} {meth : Method} {c0 : Code} {b L : Nat} {xs : Nat → Int32} {D : va_G} {adX adR : Nat → Nat} {caX caR : Nat → ClassId} {ao : Nat} {co : ClassId} {sa : Nat → Nat} (C : LC p l s m c0 b L xs D adX caX adR caR ao co sa) (T : Nat → Nat → Int64) (n : Nat) (kc ko : Nat → Nat) (kv : Nat → Int64) (k : Nat) (lo hi : Nat → Int64) (bw bb pk : Nat → Nat) (cd : Nat) (ov : Nat → Int64) (hn128 : n ≤ 128) (hIK : iK kc ko k) (hPk : Pks T n lo hi bw bb) {H : Heap} {locs : List Loc} (hPX : va_P D c2 (wX adX caX T n kc ko kv k lo hi bw bb pk) H) (hPR : va_P D c2 (wR adR caR T n kc ko kv k cd) H) (hPO : va_P D c2 (wO ao co ov) H) (hS : va_S (fun q => s.heap.size ≤ q) s.heap H locs) {cells slots : Nat} (hcl : cells + 1 ≤ 1051 ∧ slots + 6 ≤ 9575) {i : Nat} (hi6 : i + 6 ≤ L) {ls : Array Slot} (hl : lv_has ls 8 (lvB b adX adR ao i)) {Q : State → Prop} (next : NX p l e s m below meth c0 b D adX caX adR caR ao co i cells slots Q) (c : Nat) (hc : c < 4) (hpos : 0 < ct (ch T kc ko kv k) n) (e1 : xs (i + 1) = nI c) (hz : xs (i + 2) = 0) : W p l e room_1 s m #[Value.ref b] below meth c0 H locs cells slots Q (F0 m 590 ls []) := by
  obtain ⟨E, hL, hX, hbl, hlt, hd, hKX, hKR, hKO, hZ⟩ := C
  have hiB := iB_of hPk
  have hctn := ct_le (ch T kc ko kv k) n
  refine lv_aload_n E.1 E.2.1 dL_law_590 rfl (lv_at hl 2 rfl) ?_
  refine lv_aload_n E.1 E.2.1 dL_law_591 rfl (lv_at hl 1 rfl) ?_
  refine lv_iload E.1 E.2.1 dL_law_592 (lv_at hl 0 rfl) ?_
  refine lv_iconst (v := nI 1) E.1 E.2.1 dL_law_594 rfl ?_
  refine n_iadd E dL_law_595 ?_
  refine s_ld E hX hbl hS hL (show i + 1 < L by omega) e1 dL_law_596 ?_
  refine lv_aload_n E.1 E.2.1 dL_law_597 rfl (lv_at hl 1 rfl) ?_
  refine lv_iload E.1 E.2.1 dL_law_598 (lv_at hl 0 rfl) ?_
  refine lv_iconst (v := nI 2) E.1 E.2.1 dL_law_600 rfl ?_
  refine n_iadd E dL_law_601 ?_
  refine s_ld E hX hbl hS hL (show i + 2 < L by omega) rfl dL_law_602 ?_
  refine lv_if_eq (tgt := 610) E.1 E.2.1 dL_law_603 rfl (fun _ => ?_) (fun h => absurd hz h)
  refine lv_iconst (v := nI 0) E.1 E.2.1 dL_law_610 rfl ?_
  refine lv_aload_n E.1 E.2.1 dL_law_611 rfl (lv_at hl 4 rfl) ?_
  refine l_wg (wx := wX adX caX T n kc ko kv k lo hi bw bb pk) (wr := wR adR caR T n kc ko kv k cd) E (As := [.ref (adX 0), .int (nI c), .int (bI false), .ref ao]) (rest := []) (wL_bound l D adX caX T n kc ko kv k lo hi bw bb pk ao co ov c false hIK hd.1 hn128 hiB hc hpos hd.2.2.2.1) kL_108 hd rfl hKX hKO hPX hPR hPO hS rfl rfl ⟨Nat.le_of_ble_eq_true rfl, Nat.le_of_ble_eq_true rfl⟩ rfl hl.1 rfl (Nat.le_of_ble_eq_true rfl) dL_law_612 ⟨by show _ ≤ 1051; omega, by show _ ≤ 9575; omega⟩ (fun z9 u9 x9 H locs hp9 hPX hPR hPO hS => ?_)
  obtain ⟨rfl, hx9, hE9⟩ := hp9
  have hE9 : En u9 (ch T kc ko kv k) n := hE9
  have hx9 : x9 = bnd (fun j => T (u9 j) c) false (ct (ch T kc ko kv k) n - 1) := hx9
  have hx9 := hx9.trans (bound_eq (f := fun t => T t c) (d := false) hE9 hpos)
  subst hx9
  have hPX : va_P D c2 (wX adX caX T n kc ko kv k lo hi bw bb u9) H := hPX
  refine lv_istore (lv' := [(5, .int (nI 0)), (4, .int (nI i)), (0, .ref b), (1, .ref (adX 0)), (2, .ref (adR 0)), (3, .ref ao)]) E.1 E.2.1 dL_law_615 hl (by decide) rfl (fun ls hl => ?_)
  refine lv_aload_n E.1 E.2.1 dL_law_617 rfl (lv_at hl 4 rfl) ?_
  refine lv_aload_n E.1 E.2.1 dL_law_618 rfl (lv_at hl 2 rfl) ?_
  refine lv_iload E.1 E.2.1 dL_law_619 (lv_at hl 1 rfl) ?_
  refine lv_iconst (v := nI 1) E.1 E.2.1 dL_law_621 rfl ?_
  refine n_iadd E dL_law_622 ?_
  refine s_ld E hX hbl hS hL (show i + 1 < L by omega) e1 dL_law_623 ?_
  refine lv_aload_n E.1 E.2.1 dL_law_624 rfl (lv_at hl 2 rfl) ?_
  refine lv_iload E.1 E.2.1 dL_law_625 (lv_at hl 1 rfl) ?_
  refine lv_iconst (v := nI 2) E.1 E.2.1 dL_law_627 rfl ?_
  refine n_iadd E dL_law_628 ?_
  refine s_ld E hX hbl hS hL (show i + 2 < L by omega) rfl dL_law_629 ?_
  refine lv_if_eq (tgt := 637) E.1 E.2.1 dL_law_630 rfl (fun _ => ?_) (fun h => absurd hz h)
  refine lv_iconst (v := nI 0) E.1 E.2.1 dL_law_637 rfl ?_
  refine l_ml (wx := wX adX caX T n kc ko kv k lo hi bw bb u9) (wr := wR adR caR T n kc ko kv k cd) E (As := [.int (nI c), .int (bI false)]) (rest := []) (cR_bound l D adR caR T n kc ko kv k cd c false hd.2.1 hIK hn128 hc hpos) kL_111 hd rfl hKR hPX hPR hPO hS rfl rfl rfl rfl ⟨Nat.le_of_ble_eq_true rfl, Nat.le_of_ble_eq_true rfl⟩ rfl hl.1 rfl (Nat.le_of_ble_eq_true rfl) dL_law_638 ⟨by show _ ≤ 1051; omega, by show _ ≤ 9575; omega⟩ (fun z8 u8 H locs hp8 hPX hPR hPO hS => ?_)
  have hp8 : z8 = bR (ch T kc ko kv k) (fun t => T t c) false n := hp8
  subst hp8
  have hPR : va_P D c2 (wR adR caR T n kc ko kv k 0) H := hPR
  refine lv_lstore (lv' := [(6, .long (bR (ch T kc ko kv k) (fun t => T t c) false n)), (5, .int (nI 0)), (4, .int (nI i)), (0, .ref b), (1, .ref (adX 0)), (2, .ref (adR 0)), (3, .ref ao)]) E.1 E.2.1 dL_law_641 hl (by decide) rfl (fun ls hl => ?_)
  refine lv_aload_n E.1 E.2.1 dL_law_643 rfl (lv_at hl 5 rfl) ?_
  refine cV_i E (As := []) (rest := []) (cR_thrown l D adR caR T n kc ko kv k 0) kL_73 hKR hPR 0 rfl rfl rfl rfl ⟨Nat.le_of_ble_eq_true rfl, Nat.le_of_ble_eq_true rfl⟩ rfl hl.1 rfl (Nat.le_of_ble_eq_true rfl) dL_law_644 ⟨by show _ ≤ 1051; omega, by show _ ≤ 9575; omega⟩ ?_
  refine lv_iload E.1 E.2.1 dL_law_647 (lv_at hl 1 rfl) ?_
  refine n_icmp_eq (tgt := 654) E dL_law_649 rfl (by decide) (by decide) (fun _ => ?_) (fun h => absurd rfl h)
  refine lv_iload E.1 E.2.1 dL_law_654 (lv_at hl 1 rfl) ?_
  refine n_if_ne (tgt := 670) E dL_law_656 rfl (by decide) (fun h => absurd h (by decide)) (fun _ => ?_)
  refine lv_aload_n E.1 E.2.1 dL_law_659 rfl (lv_at hl 6 rfl) ?_
  refine lv_iconst (v := nI 0) E.1 E.2.1 dL_law_660 rfl ?_
  refine n_lald E hKO hPO 0 0 rfl rfl (by decide) (by decide) dL_law_661 ?_
  refine lv_lload E.1 E.2.1 dL_law_662 (lv_at hl 0 rfl) ?_
  refine l_if_eq (tgt := 670) E dL_law_664 dL_law_665 rfl (fun _ => ?_) (fun hne => (hne fS_s).elim)
  refine lv_goto (tgt := 1105) E.1 E.2.1 dL_law_670 rfl ?_
  refine W.widen (k := cells + 1) (n := slots + 6) (by omega) (by omega) ?_
  exact next _ _ _ ⟨T, n, kc, ko, kv, k, lo, hi, bw, bb, u9, 0, fS ov 0 (bR (ch T kc ko kv k) (fun t => T t c) false n), hn128, hIK, hPk, hPX, hPR, hPO, hS⟩ (lv_sub hl [2, 3, 4, 5, 6] rfl)
set_option maxHeartbeats 4000000 in
set_option maxRecDepth 100000 in
theorem op_bound1_false {p : Program} {l : Launch} {e : Env} {s : State} {m : MethodId} {below : List Frame} {meth : Method} {c0 : Code} {b L : Nat} {xs : Nat → Int32} {D : va_G} {adX adR : Nat → Nat} {caX caR : Nat → ClassId} {ao : Nat} {co : ClassId} {sa : Nat → Nat} (C : LC p l s m c0 b L xs D adX caX adR caR ao co sa) (T : Nat → Nat → Int64) (n : Nat) (kc ko : Nat → Nat) (kv : Nat → Int64) (k : Nat) (lo hi : Nat → Int64) (bw bb pk : Nat → Nat) (cd : Nat) (ov : Nat → Int64) (hn128 : n ≤ 128) (hIK : iK kc ko k) (hPk : Pks T n lo hi bw bb) {H : Heap} {locs : List Loc} (hPX : va_P D c2 (wX adX caX T n kc ko kv k lo hi bw bb pk) H) (hPR : va_P D c2 (wR adR caR T n kc ko kv k cd) H) (hPO : va_P D c2 (wO ao co ov) H) (hS : va_S (fun q => s.heap.size ≤ q) s.heap H locs) {cells slots : Nat} (hcl : cells + 1 ≤ 1051 ∧ slots + 6 ≤ 9575) {i : Nat} (hi6 : i + 6 ≤ L) {ls : Array Slot} (hl : lv_has ls 8 (lvB b adX adR ao i)) {Q : State → Prop} (next : NX p l e s m below meth c0 b D adX caX adR caR ao co i cells slots Q) (x : Int32) (hx : isC x = false) (hx2 : x < 0 ∨ nI 4 ≤ x) (e1 : xs (i + 1) = x) (hz : xs (i + 2) = 0) : W p l e room_1 s m #[Value.ref b] below meth c0 H locs cells slots Q (F0 m 590 ls []) := by
  obtain ⟨E, hL, hX, hbl, hlt, hd, hKX, hKR, hKO, hZ⟩ := C
  have hiB := iB_of hPk
  have hctn := ct_le (ch T kc ko kv k) n
  refine lv_aload_n E.1 E.2.1 dL_law_590 rfl (lv_at hl 2 rfl) ?_
  refine lv_aload_n E.1 E.2.1 dL_law_591 rfl (lv_at hl 1 rfl) ?_
  refine lv_iload E.1 E.2.1 dL_law_592 (lv_at hl 0 rfl) ?_
  refine lv_iconst (v := nI 1) E.1 E.2.1 dL_law_594 rfl ?_
  refine n_iadd E dL_law_595 ?_
  refine s_ld E hX hbl hS hL (show i + 1 < L by omega) e1 dL_law_596 ?_
  refine lv_aload_n E.1 E.2.1 dL_law_597 rfl (lv_at hl 1 rfl) ?_
  refine lv_iload E.1 E.2.1 dL_law_598 (lv_at hl 0 rfl) ?_
  refine lv_iconst (v := nI 2) E.1 E.2.1 dL_law_600 rfl ?_
  refine n_iadd E dL_law_601 ?_
  refine s_ld E hX hbl hS hL (show i + 2 < L by omega) rfl dL_law_602 ?_
  refine lv_if_eq (tgt := 610) E.1 E.2.1 dL_law_603 rfl (fun _ => ?_) (fun h => absurd hz h)
  refine lv_iconst (v := nI 0) E.1 E.2.1 dL_law_610 rfl ?_
  refine lv_aload_n E.1 E.2.1 dL_law_611 rfl (lv_at hl 4 rfl) ?_
  refine l_wb (wx := wX adX caX T n kc ko kv k lo hi bw bb pk) (wr := wR adR caR T n kc ko kv k cd) E (As := [.ref (adX 0), .int x, .int (bI false), .ref ao]) (rest := []) (vL_bound1 l D adX caX T n kc ko kv k lo hi bw bb pk ao co ov s.heap.size sa x false hx2 hd.2.2.2.1 hlt hd.2.2.2.2.2.1) kL_108 hd rfl hKX hKO hZ hPX hPR hPO hS rfl rfl ⟨Nat.le_of_ble_eq_true rfl, Nat.le_of_ble_eq_true rfl⟩ rfl hl.1 rfl (Nat.le_of_ble_eq_true rfl) dL_law_612 ⟨by show _ ≤ 1051; omega, by show _ ≤ 9575; omega⟩ (fun z9 u9 H locs hp9 hPX hPR hPO hS => ?_)
  have hp9 : z9 = nI 1 := hp9
  subst hp9
  have hPX : va_P D c2 (wX adX caX T n kc ko kv k lo hi bw bb pk) H := hPX
  refine lv_istore (lv' := [(5, .int (nI 1)), (4, .int (nI i)), (0, .ref b), (1, .ref (adX 0)), (2, .ref (adR 0)), (3, .ref ao)]) E.1 E.2.1 dL_law_615 hl (by decide) rfl (fun ls hl => ?_)
  refine lv_aload_n E.1 E.2.1 dL_law_617 rfl (lv_at hl 4 rfl) ?_
  refine lv_aload_n E.1 E.2.1 dL_law_618 rfl (lv_at hl 2 rfl) ?_
  refine lv_iload E.1 E.2.1 dL_law_619 (lv_at hl 1 rfl) ?_
  refine lv_iconst (v := nI 1) E.1 E.2.1 dL_law_621 rfl ?_
  refine n_iadd E dL_law_622 ?_
  refine s_ld E hX hbl hS hL (show i + 1 < L by omega) e1 dL_law_623 ?_
  refine lv_aload_n E.1 E.2.1 dL_law_624 rfl (lv_at hl 2 rfl) ?_
  refine lv_iload E.1 E.2.1 dL_law_625 (lv_at hl 1 rfl) ?_
  refine lv_iconst (v := nI 2) E.1 E.2.1 dL_law_627 rfl ?_
  refine n_iadd E dL_law_628 ?_
  refine s_ld E hX hbl hS hL (show i + 2 < L by omega) rfl dL_law_629 ?_
  refine lv_if_eq (tgt := 637) E.1 E.2.1 dL_law_630 rfl (fun _ => ?_) (fun h => absurd hz h)
  refine lv_iconst (v := nI 0) E.1 E.2.1 dL_law_637 rfl ?_
  refine l_ml (wx := wX adX caX T n kc ko kv k lo hi bw bb pk) (wr := wR adR caR T n kc ko kv k cd) E (As := [.int x, .int (bI false)]) (rest := []) (cR_bound1 l D adR caR T n kc ko kv k cd x false hd.2.1 hn128 hx) kL_111 hd rfl hKR hPX hPR hPO hS rfl rfl rfl rfl ⟨Nat.le_of_ble_eq_true rfl, Nat.le_of_ble_eq_true rfl⟩ rfl hl.1 rfl (Nat.le_of_ble_eq_true rfl) dL_law_638 ⟨by show _ ≤ 1051; omega, by show _ ≤ 9575; omega⟩ (fun z8 u8 H locs hp8 hPX hPR hPO hS => ?_)
  have hPR : va_P D c2 (wR adR caR T n kc ko kv k 1) H := hPR
  refine lv_lstore (lv' := [(6, .long z8), (5, .int (nI 1)), (4, .int (nI i)), (0, .ref b), (1, .ref (adX 0)), (2, .ref (adR 0)), (3, .ref ao)]) E.1 E.2.1 dL_law_641 hl (by decide) rfl (fun ls hl => ?_)
  refine lv_aload_n E.1 E.2.1 dL_law_643 rfl (lv_at hl 5 rfl) ?_
  refine cV_i E (As := []) (rest := []) (cR_thrown l D adR caR T n kc ko kv k 1) kL_73 hKR hPR 0 rfl rfl rfl rfl ⟨Nat.le_of_ble_eq_true rfl, Nat.le_of_ble_eq_true rfl⟩ rfl hl.1 rfl (Nat.le_of_ble_eq_true rfl) dL_law_644 ⟨by show _ ≤ 1051; omega, by show _ ≤ 9575; omega⟩ ?_
  refine lv_iload E.1 E.2.1 dL_law_647 (lv_at hl 1 rfl) ?_
  refine n_icmp_eq (tgt := 654) E dL_law_649 rfl (by decide) (by decide) (fun _ => ?_) (fun h => absurd rfl h)
  refine lv_iload E.1 E.2.1 dL_law_654 (lv_at hl 1 rfl) ?_
  refine n_if_ne (tgt := 670) E dL_law_656 rfl (by decide) (fun _ => ?_) (fun h => absurd h (by decide))
  refine lv_goto (tgt := 1105) E.1 E.2.1 dL_law_670 rfl ?_
  exact next _ _ _ ⟨T, n, kc, ko, kv, k, lo, hi, bw, bb, pk, 1, ov, hn128, hIK, hPk, hPX, hPR, hPO, hS⟩ (lv_sub hl [2, 3, 4, 5, 6] rfl)
set_option maxHeartbeats 4000000 in
set_option maxRecDepth 100000 in
theorem op_bound2_false {p : Program} {l : Launch} {e : Env} {s : State} {m : MethodId} {below : List Frame} {meth : Method} {c0 : Code} {b L : Nat} {xs : Nat → Int32} {D : va_G} {adX adR : Nat → Nat} {caX caR : Nat → ClassId} {ao : Nat} {co : ClassId} {sa : Nat → Nat} (C : LC p l s m c0 b L xs D adX caX adR caR ao co sa) (T : Nat → Nat → Int64) (n : Nat) (kc ko : Nat → Nat) (kv : Nat → Int64) (k : Nat) (lo hi : Nat → Int64) (bw bb pk : Nat → Nat) (cd : Nat) (ov : Nat → Int64) (hn128 : n ≤ 128) (hIK : iK kc ko k) (hPk : Pks T n lo hi bw bb) {H : Heap} {locs : List Loc} (hPX : va_P D c2 (wX adX caX T n kc ko kv k lo hi bw bb pk) H) (hPR : va_P D c2 (wR adR caR T n kc ko kv k cd) H) (hPO : va_P D c2 (wO ao co ov) H) (hS : va_S (fun q => s.heap.size ≤ q) s.heap H locs) {cells slots : Nat} (hcl : cells + 1 ≤ 1051 ∧ slots + 6 ≤ 9575) {i : Nat} (hi6 : i + 6 ≤ L) {ls : Array Slot} (hl : lv_has ls 8 (lvB b adX adR ao i)) {Q : State → Prop} (next : NX p l e s m below meth c0 b D adX caX adR caR ao co i cells slots Q) (c : Nat) (hc : c < 4) (hpos : ct (ch T kc ko kv k) n = 0) (e1 : xs (i + 1) = nI c) (hz : xs (i + 2) = 0) : W p l e room_1 s m #[Value.ref b] below meth c0 H locs cells slots Q (F0 m 590 ls []) := by
  obtain ⟨E, hL, hX, hbl, hlt, hd, hKX, hKR, hKO, hZ⟩ := C
  have hiB := iB_of hPk
  have hctn := ct_le (ch T kc ko kv k) n
  refine lv_aload_n E.1 E.2.1 dL_law_590 rfl (lv_at hl 2 rfl) ?_
  refine lv_aload_n E.1 E.2.1 dL_law_591 rfl (lv_at hl 1 rfl) ?_
  refine lv_iload E.1 E.2.1 dL_law_592 (lv_at hl 0 rfl) ?_
  refine lv_iconst (v := nI 1) E.1 E.2.1 dL_law_594 rfl ?_
  refine n_iadd E dL_law_595 ?_
  refine s_ld E hX hbl hS hL (show i + 1 < L by omega) e1 dL_law_596 ?_
  refine lv_aload_n E.1 E.2.1 dL_law_597 rfl (lv_at hl 1 rfl) ?_
  refine lv_iload E.1 E.2.1 dL_law_598 (lv_at hl 0 rfl) ?_
  refine lv_iconst (v := nI 2) E.1 E.2.1 dL_law_600 rfl ?_
  refine n_iadd E dL_law_601 ?_
  refine s_ld E hX hbl hS hL (show i + 2 < L by omega) rfl dL_law_602 ?_
  refine lv_if_eq (tgt := 610) E.1 E.2.1 dL_law_603 rfl (fun _ => ?_) (fun h => absurd hz h)
  refine lv_iconst (v := nI 0) E.1 E.2.1 dL_law_610 rfl ?_
  refine lv_aload_n E.1 E.2.1 dL_law_611 rfl (lv_at hl 4 rfl) ?_
  refine l_wb (wx := wX adX caX T n kc ko kv k lo hi bw bb pk) (wr := wR adR caR T n kc ko kv k cd) E (As := [.ref (adX 0), .int (nI c), .int (bI false), .ref ao]) (rest := []) (vL_bound2 l D adX caX T n kc ko kv k lo hi bw bb pk ao co ov s.heap.size sa c false hIK hd.1 hn128 hiB hc hpos hd.2.2.2.1 hlt hd.2.2.2.2.2.1) kL_108 hd rfl hKX hKO hZ hPX hPR hPO hS rfl rfl ⟨Nat.le_of_ble_eq_true rfl, Nat.le_of_ble_eq_true rfl⟩ rfl hl.1 rfl (Nat.le_of_ble_eq_true rfl) dL_law_612 ⟨by show _ ≤ 1051; omega, by show _ ≤ 9575; omega⟩ (fun z9 u9 H locs hp9 hPX hPR hPO hS => ?_)
  have hp9 : z9 = nI 2 := hp9
  subst hp9
  have hPX : va_P D c2 (wX adX caX T n kc ko kv k lo hi bw bb u9) H := hPX
  refine lv_istore (lv' := [(5, .int (nI 2)), (4, .int (nI i)), (0, .ref b), (1, .ref (adX 0)), (2, .ref (adR 0)), (3, .ref ao)]) E.1 E.2.1 dL_law_615 hl (by decide) rfl (fun ls hl => ?_)
  refine lv_aload_n E.1 E.2.1 dL_law_617 rfl (lv_at hl 4 rfl) ?_
  refine lv_aload_n E.1 E.2.1 dL_law_618 rfl (lv_at hl 2 rfl) ?_
  refine lv_iload E.1 E.2.1 dL_law_619 (lv_at hl 1 rfl) ?_
  refine lv_iconst (v := nI 1) E.1 E.2.1 dL_law_621 rfl ?_
  refine n_iadd E dL_law_622 ?_
  refine s_ld E hX hbl hS hL (show i + 1 < L by omega) e1 dL_law_623 ?_
  refine lv_aload_n E.1 E.2.1 dL_law_624 rfl (lv_at hl 2 rfl) ?_
  refine lv_iload E.1 E.2.1 dL_law_625 (lv_at hl 1 rfl) ?_
  refine lv_iconst (v := nI 2) E.1 E.2.1 dL_law_627 rfl ?_
  refine n_iadd E dL_law_628 ?_
  refine s_ld E hX hbl hS hL (show i + 2 < L by omega) rfl dL_law_629 ?_
  refine lv_if_eq (tgt := 637) E.1 E.2.1 dL_law_630 rfl (fun _ => ?_) (fun h => absurd hz h)
  refine lv_iconst (v := nI 0) E.1 E.2.1 dL_law_637 rfl ?_
  refine l_ml (wx := wX adX caX T n kc ko kv k lo hi bw bb u9) (wr := wR adR caR T n kc ko kv k cd) E (As := [.int (nI c), .int (bI false)]) (rest := []) (cR_bound2 l D adR caR T n kc ko kv k cd c false hd.2.1 hIK hn128 hc hpos) kL_111 hd rfl hKR hPX hPR hPO hS rfl rfl rfl rfl ⟨Nat.le_of_ble_eq_true rfl, Nat.le_of_ble_eq_true rfl⟩ rfl hl.1 rfl (Nat.le_of_ble_eq_true rfl) dL_law_638 ⟨by show _ ≤ 1051; omega, by show _ ≤ 9575; omega⟩ (fun z8 u8 H locs hp8 hPX hPR hPO hS => ?_)
  have hPR : va_P D c2 (wR adR caR T n kc ko kv k 2) H := hPR
  refine lv_lstore (lv' := [(6, .long z8), (5, .int (nI 2)), (4, .int (nI i)), (0, .ref b), (1, .ref (adX 0)), (2, .ref (adR 0)), (3, .ref ao)]) E.1 E.2.1 dL_law_641 hl (by decide) rfl (fun ls hl => ?_)
  refine lv_aload_n E.1 E.2.1 dL_law_643 rfl (lv_at hl 5 rfl) ?_
  refine cV_i E (As := []) (rest := []) (cR_thrown l D adR caR T n kc ko kv k 2) kL_73 hKR hPR 0 rfl rfl rfl rfl ⟨Nat.le_of_ble_eq_true rfl, Nat.le_of_ble_eq_true rfl⟩ rfl hl.1 rfl (Nat.le_of_ble_eq_true rfl) dL_law_644 ⟨by show _ ≤ 1051; omega, by show _ ≤ 9575; omega⟩ ?_
  refine lv_iload E.1 E.2.1 dL_law_647 (lv_at hl 1 rfl) ?_
  refine n_icmp_eq (tgt := 654) E dL_law_649 rfl (by decide) (by decide) (fun _ => ?_) (fun h => absurd rfl h)
  refine lv_iload E.1 E.2.1 dL_law_654 (lv_at hl 1 rfl) ?_
  refine n_if_ne (tgt := 670) E dL_law_656 rfl (by decide) (fun _ => ?_) (fun h => absurd h (by decide))
  refine lv_goto (tgt := 1105) E.1 E.2.1 dL_law_670 rfl ?_
  exact next _ _ _ ⟨T, n, kc, ko, kv, k, lo, hi, bw, bb, u9, 2, ov, hn128, hIK, hPk, hPX, hPR, hPO, hS⟩ (lv_sub hl [2, 3, 4, 5, 6] rfl)
set_option maxHeartbeats 4000000 in
set_option maxRecDepth 100000 in
theorem op_ranked {p : Program} {l : Launch} {e : Env} {s : State} {m : MethodId} {below : List Frame} {meth : Method} {c0 : Code} {b L : Nat} {xs : Nat → Int32} {D : va_G} {adX adR : Nat → Nat} {caX caR : Nat → ClassId} {ao : Nat} {co : ClassId} {sa : Nat → Nat} (C : LC p l s m c0 b L xs D adX caX adR caR ao co sa) (T : Nat → Nat → Int64) (n : Nat) (kc ko : Nat → Nat) (kv : Nat → Int64) (k : Nat) (lo hi : Nat → Int64) (bw bb pk : Nat → Nat) (cd : Nat) (ov : Nat → Int64) (hn128 : n ≤ 128) (hIK : iK kc ko k) (hPk : Pks T n lo hi bw bb) {H : Heap} {locs : List Loc} (hPX : va_P D c2 (wX adX caX T n kc ko kv k lo hi bw bb pk) H) (hPR : va_P D c2 (wR adR caR T n kc ko kv k cd) H) (hPO : va_P D c2 (wO ao co ov) H) (hS : va_S (fun q => s.heap.size ≤ q) s.heap H locs) {cells slots : Nat} (hcl : cells + 1 ≤ 1051 ∧ slots + 6 ≤ 9575) {i : Nat} (hi6 : i + 6 ≤ L) {ls : Array Slot} (hl : lv_has ls 8 (lvB b adX adR ao i)) {Q : State → Prop} (next : NX p l e s m below meth c0 b D adX caX adR caR ao co i cells slots Q) (c j : Nat) (hc : c < 4) (hj : j < ct (ch T kc ko kv k) n) (e1 : xs (i + 1) = nI c) (e2 : xs (i + 2) = nI j) : W p l e room_1 s m #[Value.ref b] below meth c0 H locs cells slots Q (F0 m 673 ls []) := by
  obtain ⟨E, hL, hX, hbl, hlt, hd, hKX, hKR, hKO, hZ⟩ := C
  have hiB := iB_of hPk
  have hctn := ct_le (ch T kc ko kv k) n
  refine lv_aload_n E.1 E.2.1 dL_law_673 rfl (lv_at hl 2 rfl) ?_
  refine lv_aload_n E.1 E.2.1 dL_law_674 rfl (lv_at hl 1 rfl) ?_
  refine lv_iload E.1 E.2.1 dL_law_675 (lv_at hl 0 rfl) ?_
  refine lv_iconst (v := nI 1) E.1 E.2.1 dL_law_677 rfl ?_
  refine n_iadd E dL_law_678 ?_
  refine s_ld E hX hbl hS hL (show i + 1 < L by omega) e1 dL_law_679 ?_
  refine lv_aload_n E.1 E.2.1 dL_law_680 rfl (lv_at hl 1 rfl) ?_
  refine lv_iload E.1 E.2.1 dL_law_681 (lv_at hl 0 rfl) ?_
  refine lv_iconst (v := nI 2) E.1 E.2.1 dL_law_683 rfl ?_
  refine n_iadd E dL_law_684 ?_
  refine s_ld E hX hbl hS hL (show i + 2 < L by omega) e2 dL_law_685 ?_
  refine lv_aload_n E.1 E.2.1 dL_law_686 rfl (lv_at hl 4 rfl) ?_
  refine l_wg (wx := wX adX caX T n kc ko kv k lo hi bw bb pk) (wr := wR adR caR T n kc ko kv k cd) E (As := [.ref (adX 0), .int (nI c), .int (nI j), .ref ao]) (rest := []) (wL_ranked l D adX caX T n kc ko kv k lo hi bw bb pk ao co ov c j hIK hd.1 hn128 hiB hc hj hd.2.2.2.1) kL_112 hd rfl hKX hKO hPX hPR hPO hS rfl rfl ⟨Nat.le_of_ble_eq_true rfl, Nat.le_of_ble_eq_true rfl⟩ rfl hl.1 rfl (Nat.le_of_ble_eq_true rfl) dL_law_687 ⟨by show _ ≤ 1051; omega, by show _ ≤ 9575; omega⟩ (fun z9 u9 x9 H locs hp9 hPX hPR hPO hS => ?_)
  obtain ⟨rfl, zz, hx9, hz9, hSd9, hm9⟩ := hp9
  have hx9 : x9 = Int32.toInt64 zz := hx9
  subst hx9
  have hz9 : zz = nI (u9 j) := hz9
  subst hz9
  have hSd9 : Sd T c true u9 (ct (ch T kc ko kv k) n) := hSd9
  have hm9 : ∃ p, En p (ch T kc ko kv k) n ∧ Pm u9 p (ct (ch T kc ko kv k) n) := hm9
  have hPX : va_P D c2 (wX adX caX T n kc ko kv k lo hi bw bb u9) H := hPX
  refine lv_istore (lv' := [(5, .int (nI 0)), (4, .int (nI i)), (0, .ref b), (1, .ref (adX 0)), (2, .ref (adR 0)), (3, .ref ao)]) E.1 E.2.1 dL_law_690 hl (by decide) rfl (fun ls hl => ?_)
  refine lv_aload_n E.1 E.2.1 dL_law_692 rfl (lv_at hl 4 rfl) ?_
  refine lv_aload_n E.1 E.2.1 dL_law_693 rfl (lv_at hl 2 rfl) ?_
  refine lv_iload E.1 E.2.1 dL_law_694 (lv_at hl 1 rfl) ?_
  refine lv_iconst (v := nI 1) E.1 E.2.1 dL_law_696 rfl ?_
  refine n_iadd E dL_law_697 ?_
  refine s_ld E hX hbl hS hL (show i + 1 < L by omega) e1 dL_law_698 ?_
  refine lv_aload_n E.1 E.2.1 dL_law_699 rfl (lv_at hl 2 rfl) ?_
  refine lv_iload E.1 E.2.1 dL_law_700 (lv_at hl 1 rfl) ?_
  refine lv_iconst (v := nI 2) E.1 E.2.1 dL_law_702 rfl ?_
  refine n_iadd E dL_law_703 ?_
  refine s_ld E hX hbl hS hL (show i + 2 < L by omega) e2 dL_law_704 ?_
  refine l_mi (wx := wX adX caX T n kc ko kv k lo hi bw bb u9) (wr := wR adR caR T n kc ko kv k cd) E (As := [.int (nI c), .int (nI j)]) (rest := []) (cR_ranked l D adR caR T n kc ko kv k cd c j (u9 j) hd.2.1 hIK hn128 hc (by omega) (pm_row hm9 hj).1 (pm_row hm9 hj).2 (rank_of hm9 hSd9 hj) (rank_un hm9 hSd9)) kL_114 hd rfl hKR hPX hPR hPO hS rfl rfl rfl rfl ⟨Nat.le_of_ble_eq_true rfl, Nat.le_of_ble_eq_true rfl⟩ rfl hl.1 rfl (Nat.le_of_ble_eq_true rfl) dL_law_705 ⟨by show _ ≤ 1051; omega, by show _ ≤ 9575; omega⟩ (fun z8 u8 H locs hp8 hPX hPR hPO hS => ?_)
  have hp8 : z8 = nI (u9 j) := hp8
  subst hp8
  have hPR : va_P D c2 (wR adR caR T n kc ko kv k 0) H := hPR
  refine lv_istore (lv' := [(6, .int (nI (u9 j))), (5, .int (nI 0)), (4, .int (nI i)), (0, .ref b), (1, .ref (adX 0)), (2, .ref (adR 0)), (3, .ref ao)]) E.1 E.2.1 dL_law_708 hl (by decide) rfl (fun ls hl => ?_)
  refine lv_aload_n E.1 E.2.1 dL_law_710 rfl (lv_at hl 5 rfl) ?_
  refine cV_i E (As := []) (rest := []) (cR_thrown l D adR caR T n kc ko kv k 0) kL_73 hKR hPR 0 rfl rfl rfl rfl ⟨Nat.le_of_ble_eq_true rfl, Nat.le_of_ble_eq_true rfl⟩ rfl hl.1 rfl (Nat.le_of_ble_eq_true rfl) dL_law_711 ⟨by show _ ≤ 1051; omega, by show _ ≤ 9575; omega⟩ ?_
  refine lv_iload E.1 E.2.1 dL_law_714 (lv_at hl 1 rfl) ?_
  refine n_icmp_eq (tgt := 721) E dL_law_716 rfl (by decide) (by decide) (fun _ => ?_) (fun h => absurd rfl h)
  refine lv_iload E.1 E.2.1 dL_law_721 (lv_at hl 1 rfl) ?_
  refine n_if_ne (tgt := 738) E dL_law_723 rfl (by decide) (fun h => absurd h (by decide)) (fun _ => ?_)
  refine lv_aload_n E.1 E.2.1 dL_law_726 rfl (lv_at hl 6 rfl) ?_
  refine lv_iconst (v := nI 0) E.1 E.2.1 dL_law_727 rfl ?_
  refine n_lald E hKO hPO 0 0 rfl rfl (by decide) (by decide) dL_law_728 ?_
  refine lv_iload E.1 E.2.1 dL_law_729 (lv_at hl 0 rfl) ?_
  refine lv_i2l E.1 E.2.1 dL_law_731 rfl ?_
  refine l_if_eq (tgt := 738) E dL_law_732 dL_law_733 rfl (fun _ => ?_) (fun hne => (hne fS_s).elim)
  refine lv_goto (tgt := 1105) E.1 E.2.1 dL_law_738 rfl ?_
  refine W.widen (k := cells + 1) (n := slots + 6) (by omega) (by omega) ?_
  exact next _ _ _ ⟨T, n, kc, ko, kv, k, lo, hi, bw, bb, u9, 0, fS ov 0 (Int32.toInt64 (nI (u9 j))), hn128, hIK, hPk, hPX, hPR, hPO, hS⟩ (lv_sub hl [2, 3, 4, 5, 6] rfl)
set_option maxHeartbeats 4000000 in
set_option maxRecDepth 100000 in
theorem op_ranked1 {p : Program} {l : Launch} {e : Env} {s : State} {m : MethodId} {below : List Frame} {meth : Method} {c0 : Code} {b L : Nat} {xs : Nat → Int32} {D : va_G} {adX adR : Nat → Nat} {caX caR : Nat → ClassId} {ao : Nat} {co : ClassId} {sa : Nat → Nat} (C : LC p l s m c0 b L xs D adX caX adR caR ao co sa) (T : Nat → Nat → Int64) (n : Nat) (kc ko : Nat → Nat) (kv : Nat → Int64) (k : Nat) (lo hi : Nat → Int64) (bw bb pk : Nat → Nat) (cd : Nat) (ov : Nat → Int64) (hn128 : n ≤ 128) (hIK : iK kc ko k) (hPk : Pks T n lo hi bw bb) {H : Heap} {locs : List Loc} (hPX : va_P D c2 (wX adX caX T n kc ko kv k lo hi bw bb pk) H) (hPR : va_P D c2 (wR adR caR T n kc ko kv k cd) H) (hPO : va_P D c2 (wO ao co ov) H) (hS : va_S (fun q => s.heap.size ≤ q) s.heap H locs) {cells slots : Nat} (hcl : cells + 1 ≤ 1051 ∧ slots + 6 ≤ 9575) {i : Nat} (hi6 : i + 6 ≤ L) {ls : Array Slot} (hl : lv_has ls 8 (lvB b adX adR ao i)) {Q : State → Prop} (next : NX p l e s m below meth c0 b D adX caX adR caR ao co i cells slots Q) (x y : Int32) (hx : isC x = false) (hx2 : x < 0 ∨ nI 4 ≤ x) (e1 : xs (i + 1) = x) (e2 : xs (i + 2) = y) : W p l e room_1 s m #[Value.ref b] below meth c0 H locs cells slots Q (F0 m 673 ls []) := by
  obtain ⟨E, hL, hX, hbl, hlt, hd, hKX, hKR, hKO, hZ⟩ := C
  have hiB := iB_of hPk
  have hctn := ct_le (ch T kc ko kv k) n
  refine lv_aload_n E.1 E.2.1 dL_law_673 rfl (lv_at hl 2 rfl) ?_
  refine lv_aload_n E.1 E.2.1 dL_law_674 rfl (lv_at hl 1 rfl) ?_
  refine lv_iload E.1 E.2.1 dL_law_675 (lv_at hl 0 rfl) ?_
  refine lv_iconst (v := nI 1) E.1 E.2.1 dL_law_677 rfl ?_
  refine n_iadd E dL_law_678 ?_
  refine s_ld E hX hbl hS hL (show i + 1 < L by omega) e1 dL_law_679 ?_
  refine lv_aload_n E.1 E.2.1 dL_law_680 rfl (lv_at hl 1 rfl) ?_
  refine lv_iload E.1 E.2.1 dL_law_681 (lv_at hl 0 rfl) ?_
  refine lv_iconst (v := nI 2) E.1 E.2.1 dL_law_683 rfl ?_
  refine n_iadd E dL_law_684 ?_
  refine s_ld E hX hbl hS hL (show i + 2 < L by omega) e2 dL_law_685 ?_
  refine lv_aload_n E.1 E.2.1 dL_law_686 rfl (lv_at hl 4 rfl) ?_
  refine l_wb (wx := wX adX caX T n kc ko kv k lo hi bw bb pk) (wr := wR adR caR T n kc ko kv k cd) E (As := [.ref (adX 0), .int x, .int y, .ref ao]) (rest := []) (vL_ranked1 l D adX caX T n kc ko kv k lo hi bw bb pk ao co ov s.heap.size sa x y hx2 hd.2.2.2.1 hlt hd.2.2.2.2.2.1) kL_112 hd rfl hKX hKO hZ hPX hPR hPO hS rfl rfl ⟨Nat.le_of_ble_eq_true rfl, Nat.le_of_ble_eq_true rfl⟩ rfl hl.1 rfl (Nat.le_of_ble_eq_true rfl) dL_law_687 ⟨by show _ ≤ 1051; omega, by show _ ≤ 9575; omega⟩ (fun z9 u9 H locs hp9 hPX hPR hPO hS => ?_)
  have hp9 : z9 = nI 1 := hp9
  subst hp9
  have hPX : va_P D c2 (wX adX caX T n kc ko kv k lo hi bw bb pk) H := hPX
  refine lv_istore (lv' := [(5, .int (nI 1)), (4, .int (nI i)), (0, .ref b), (1, .ref (adX 0)), (2, .ref (adR 0)), (3, .ref ao)]) E.1 E.2.1 dL_law_690 hl (by decide) rfl (fun ls hl => ?_)
  refine lv_aload_n E.1 E.2.1 dL_law_692 rfl (lv_at hl 4 rfl) ?_
  refine lv_aload_n E.1 E.2.1 dL_law_693 rfl (lv_at hl 2 rfl) ?_
  refine lv_iload E.1 E.2.1 dL_law_694 (lv_at hl 1 rfl) ?_
  refine lv_iconst (v := nI 1) E.1 E.2.1 dL_law_696 rfl ?_
  refine n_iadd E dL_law_697 ?_
  refine s_ld E hX hbl hS hL (show i + 1 < L by omega) e1 dL_law_698 ?_
  refine lv_aload_n E.1 E.2.1 dL_law_699 rfl (lv_at hl 2 rfl) ?_
  refine lv_iload E.1 E.2.1 dL_law_700 (lv_at hl 1 rfl) ?_
  refine lv_iconst (v := nI 2) E.1 E.2.1 dL_law_702 rfl ?_
  refine n_iadd E dL_law_703 ?_
  refine s_ld E hX hbl hS hL (show i + 2 < L by omega) e2 dL_law_704 ?_
  refine l_mi (wx := wX adX caX T n kc ko kv k lo hi bw bb pk) (wr := wR adR caR T n kc ko kv k cd) E (As := [.int x, .int y]) (rest := []) (cR_ranked1 l D adR caR T n kc ko kv k cd x y hd.2.1 hx) kL_114 hd rfl hKR hPX hPR hPO hS rfl rfl rfl rfl ⟨Nat.le_of_ble_eq_true rfl, Nat.le_of_ble_eq_true rfl⟩ rfl hl.1 rfl (Nat.le_of_ble_eq_true rfl) dL_law_705 ⟨by show _ ≤ 1051; omega, by show _ ≤ 9575; omega⟩ (fun z8 u8 H locs hp8 hPX hPR hPO hS => ?_)
  have hPR : va_P D c2 (wR adR caR T n kc ko kv k 1) H := hPR
  refine lv_istore (lv' := [(6, .int z8), (5, .int (nI 1)), (4, .int (nI i)), (0, .ref b), (1, .ref (adX 0)), (2, .ref (adR 0)), (3, .ref ao)]) E.1 E.2.1 dL_law_708 hl (by decide) rfl (fun ls hl => ?_)
  refine lv_aload_n E.1 E.2.1 dL_law_710 rfl (lv_at hl 5 rfl) ?_
  refine cV_i E (As := []) (rest := []) (cR_thrown l D adR caR T n kc ko kv k 1) kL_73 hKR hPR 0 rfl rfl rfl rfl ⟨Nat.le_of_ble_eq_true rfl, Nat.le_of_ble_eq_true rfl⟩ rfl hl.1 rfl (Nat.le_of_ble_eq_true rfl) dL_law_711 ⟨by show _ ≤ 1051; omega, by show _ ≤ 9575; omega⟩ ?_
  refine lv_iload E.1 E.2.1 dL_law_714 (lv_at hl 1 rfl) ?_
  refine n_icmp_eq (tgt := 721) E dL_law_716 rfl (by decide) (by decide) (fun _ => ?_) (fun h => absurd rfl h)
  refine lv_iload E.1 E.2.1 dL_law_721 (lv_at hl 1 rfl) ?_
  refine n_if_ne (tgt := 738) E dL_law_723 rfl (by decide) (fun _ => ?_) (fun h => absurd h (by decide))
  refine lv_goto (tgt := 1105) E.1 E.2.1 dL_law_738 rfl ?_
  exact next _ _ _ ⟨T, n, kc, ko, kv, k, lo, hi, bw, bb, pk, 1, ov, hn128, hIK, hPk, hPX, hPR, hPO, hS⟩ (lv_sub hl [2, 3, 4, 5, 6] rfl)
set_option maxHeartbeats 4000000 in
set_option maxRecDepth 100000 in
theorem op_ranked2 {p : Program} {l : Launch} {e : Env} {s : State} {m : MethodId} {below : List Frame} {meth : Method} {c0 : Code} {b L : Nat} {xs : Nat → Int32} {D : va_G} {adX adR : Nat → Nat} {caX caR : Nat → ClassId} {ao : Nat} {co : ClassId} {sa : Nat → Nat} (C : LC p l s m c0 b L xs D adX caX adR caR ao co sa) (T : Nat → Nat → Int64) (n : Nat) (kc ko : Nat → Nat) (kv : Nat → Int64) (k : Nat) (lo hi : Nat → Int64) (bw bb pk : Nat → Nat) (cd : Nat) (ov : Nat → Int64) (hn128 : n ≤ 128) (hIK : iK kc ko k) (hPk : Pks T n lo hi bw bb) {H : Heap} {locs : List Loc} (hPX : va_P D c2 (wX adX caX T n kc ko kv k lo hi bw bb pk) H) (hPR : va_P D c2 (wR adR caR T n kc ko kv k cd) H) (hPO : va_P D c2 (wO ao co ov) H) (hS : va_S (fun q => s.heap.size ≤ q) s.heap H locs) {cells slots : Nat} (hcl : cells + 1 ≤ 1051 ∧ slots + 6 ≤ 9575) {i : Nat} (hi6 : i + 6 ≤ L) {ls : Array Slot} (hl : lv_has ls 8 (lvB b adX adR ao i)) {Q : State → Prop} (next : NX p l e s m below meth c0 b D adX caX adR caR ao co i cells slots Q) (c : Nat) (y : Int32) (hc : c < 4) (hy : y < 0 ∨ nI (ct (ch T kc ko kv k) n) ≤ y) (e1 : xs (i + 1) = nI c) (e2 : xs (i + 2) = y) : W p l e room_1 s m #[Value.ref b] below meth c0 H locs cells slots Q (F0 m 673 ls []) := by
  obtain ⟨E, hL, hX, hbl, hlt, hd, hKX, hKR, hKO, hZ⟩ := C
  have hiB := iB_of hPk
  have hctn := ct_le (ch T kc ko kv k) n
  refine lv_aload_n E.1 E.2.1 dL_law_673 rfl (lv_at hl 2 rfl) ?_
  refine lv_aload_n E.1 E.2.1 dL_law_674 rfl (lv_at hl 1 rfl) ?_
  refine lv_iload E.1 E.2.1 dL_law_675 (lv_at hl 0 rfl) ?_
  refine lv_iconst (v := nI 1) E.1 E.2.1 dL_law_677 rfl ?_
  refine n_iadd E dL_law_678 ?_
  refine s_ld E hX hbl hS hL (show i + 1 < L by omega) e1 dL_law_679 ?_
  refine lv_aload_n E.1 E.2.1 dL_law_680 rfl (lv_at hl 1 rfl) ?_
  refine lv_iload E.1 E.2.1 dL_law_681 (lv_at hl 0 rfl) ?_
  refine lv_iconst (v := nI 2) E.1 E.2.1 dL_law_683 rfl ?_
  refine n_iadd E dL_law_684 ?_
  refine s_ld E hX hbl hS hL (show i + 2 < L by omega) e2 dL_law_685 ?_
  refine lv_aload_n E.1 E.2.1 dL_law_686 rfl (lv_at hl 4 rfl) ?_
  refine l_wb (wx := wX adX caX T n kc ko kv k lo hi bw bb pk) (wr := wR adR caR T n kc ko kv k cd) E (As := [.ref (adX 0), .int (nI c), .int y, .ref ao]) (rest := []) (vL_ranked2 l D adX caX T n kc ko kv k lo hi bw bb pk ao co ov s.heap.size sa c y hIK hd.1 hn128 hiB hc hy hd.2.2.2.1 hlt hd.2.2.2.2.2.1) kL_112 hd rfl hKX hKO hZ hPX hPR hPO hS rfl rfl ⟨Nat.le_of_ble_eq_true rfl, Nat.le_of_ble_eq_true rfl⟩ rfl hl.1 rfl (Nat.le_of_ble_eq_true rfl) dL_law_687 ⟨by show _ ≤ 1051; omega, by show _ ≤ 9575; omega⟩ (fun z9 u9 H locs hp9 hPX hPR hPO hS => ?_)
  have hp9 : z9 = nI 2 := hp9
  subst hp9
  have hPX : va_P D c2 (wX adX caX T n kc ko kv k lo hi bw bb u9) H := hPX
  refine lv_istore (lv' := [(5, .int (nI 2)), (4, .int (nI i)), (0, .ref b), (1, .ref (adX 0)), (2, .ref (adR 0)), (3, .ref ao)]) E.1 E.2.1 dL_law_690 hl (by decide) rfl (fun ls hl => ?_)
  refine lv_aload_n E.1 E.2.1 dL_law_692 rfl (lv_at hl 4 rfl) ?_
  refine lv_aload_n E.1 E.2.1 dL_law_693 rfl (lv_at hl 2 rfl) ?_
  refine lv_iload E.1 E.2.1 dL_law_694 (lv_at hl 1 rfl) ?_
  refine lv_iconst (v := nI 1) E.1 E.2.1 dL_law_696 rfl ?_
  refine n_iadd E dL_law_697 ?_
  refine s_ld E hX hbl hS hL (show i + 1 < L by omega) e1 dL_law_698 ?_
  refine lv_aload_n E.1 E.2.1 dL_law_699 rfl (lv_at hl 2 rfl) ?_
  refine lv_iload E.1 E.2.1 dL_law_700 (lv_at hl 1 rfl) ?_
  refine lv_iconst (v := nI 2) E.1 E.2.1 dL_law_702 rfl ?_
  refine n_iadd E dL_law_703 ?_
  refine s_ld E hX hbl hS hL (show i + 2 < L by omega) e2 dL_law_704 ?_
  refine l_mi (wx := wX adX caX T n kc ko kv k lo hi bw bb u9) (wr := wR adR caR T n kc ko kv k cd) E (As := [.int (nI c), .int y]) (rest := []) (cR_ranked2 l D adR caR T n kc ko kv k cd c y hd.2.1 hIK hn128 hc (fun t ht hP => nI_bad hy (rank_lt ht hP) (by omega))) kL_114 hd rfl hKR hPX hPR hPO hS rfl rfl rfl rfl ⟨Nat.le_of_ble_eq_true rfl, Nat.le_of_ble_eq_true rfl⟩ rfl hl.1 rfl (Nat.le_of_ble_eq_true rfl) dL_law_705 ⟨by show _ ≤ 1051; omega, by show _ ≤ 9575; omega⟩ (fun z8 u8 H locs hp8 hPX hPR hPO hS => ?_)
  have hPR : va_P D c2 (wR adR caR T n kc ko kv k 2) H := hPR
  refine lv_istore (lv' := [(6, .int z8), (5, .int (nI 2)), (4, .int (nI i)), (0, .ref b), (1, .ref (adX 0)), (2, .ref (adR 0)), (3, .ref ao)]) E.1 E.2.1 dL_law_708 hl (by decide) rfl (fun ls hl => ?_)
  refine lv_aload_n E.1 E.2.1 dL_law_710 rfl (lv_at hl 5 rfl) ?_
  refine cV_i E (As := []) (rest := []) (cR_thrown l D adR caR T n kc ko kv k 2) kL_73 hKR hPR 0 rfl rfl rfl rfl ⟨Nat.le_of_ble_eq_true rfl, Nat.le_of_ble_eq_true rfl⟩ rfl hl.1 rfl (Nat.le_of_ble_eq_true rfl) dL_law_711 ⟨by show _ ≤ 1051; omega, by show _ ≤ 9575; omega⟩ ?_
  refine lv_iload E.1 E.2.1 dL_law_714 (lv_at hl 1 rfl) ?_
  refine n_icmp_eq (tgt := 721) E dL_law_716 rfl (by decide) (by decide) (fun _ => ?_) (fun h => absurd rfl h)
  refine lv_iload E.1 E.2.1 dL_law_721 (lv_at hl 1 rfl) ?_
  refine n_if_ne (tgt := 738) E dL_law_723 rfl (by decide) (fun _ => ?_) (fun h => absurd h (by decide))
  refine lv_goto (tgt := 1105) E.1 E.2.1 dL_law_738 rfl ?_
  exact next _ _ _ ⟨T, n, kc, ko, kv, k, lo, hi, bw, bb, u9, 2, ov, hn128, hIK, hPk, hPX, hPR, hPO, hS⟩ (lv_sub hl [2, 3, 4, 5, 6] rfl)
set_option maxHeartbeats 4000000 in
set_option maxRecDepth 100000 in
theorem op_groups {p : Program} {l : Launch} {e : Env} {s : State} {m : MethodId} {below : List Frame} {meth : Method} {c0 : Code} {b L : Nat} {xs : Nat → Int32} {D : va_G} {adX adR : Nat → Nat} {caX caR : Nat → ClassId} {ao : Nat} {co : ClassId} {sa : Nat → Nat} (C : LC p l s m c0 b L xs D adX caX adR caR ao co sa) (T : Nat → Nat → Int64) (n : Nat) (kc ko : Nat → Nat) (kv : Nat → Int64) (k : Nat) (lo hi : Nat → Int64) (bw bb pk : Nat → Nat) (cd : Nat) (ov : Nat → Int64) (hn128 : n ≤ 128) (hIK : iK kc ko k) (hPk : Pks T n lo hi bw bb) {H : Heap} {locs : List Loc} (hPX : va_P D c2 (wX adX caX T n kc ko kv k lo hi bw bb pk) H) (hPR : va_P D c2 (wR adR caR T n kc ko kv k cd) H) (hPO : va_P D c2 (wO ao co ov) H) (hS : va_S (fun q => s.heap.size ≤ q) s.heap H locs) {cells slots : Nat} (hcl : cells + 1 ≤ 1051 ∧ slots + 6 ≤ 9575) {i : Nat} (hi6 : i + 6 ≤ L) {ls : Array Slot} (hl : lv_has ls 8 (lvB b adX adR ao i)) {Q : State → Prop} (next : NX p l e s m below meth c0 b D adX caX adR caR ao co i cells slots Q) (c : Nat) (hc : c < 4) (e1 : xs (i + 1) = nI c) : W p l e room_1 s m #[Value.ref b] below meth c0 H locs cells slots Q (F0 m 741 ls []) := by
  obtain ⟨E, hL, hX, hbl, hlt, hd, hKX, hKR, hKO, hZ⟩ := C
  have hiB := iB_of hPk
  have hctn := ct_le (ch T kc ko kv k) n
  refine lv_aload_n E.1 E.2.1 dL_law_741 rfl (lv_at hl 2 rfl) ?_
  refine lv_aload_n E.1 E.2.1 dL_law_742 rfl (lv_at hl 1 rfl) ?_
  refine lv_iload E.1 E.2.1 dL_law_743 (lv_at hl 0 rfl) ?_
  refine lv_iconst (v := nI 1) E.1 E.2.1 dL_law_745 rfl ?_
  refine n_iadd E dL_law_746 ?_
  refine s_ld E hX hbl hS hL (show i + 1 < L by omega) e1 dL_law_747 ?_
  refine lv_aload_n E.1 E.2.1 dL_law_748 rfl (lv_at hl 4 rfl) ?_
  refine l_wg (wx := wX adX caX T n kc ko kv k lo hi bw bb pk) (wr := wR adR caR T n kc ko kv k cd) E (As := [.ref (adX 0), .int (nI c), .ref ao]) (rest := []) (wL_groups l D adX caX T n kc ko kv k lo hi bw bb pk ao co ov c hIK hd.1 hn128 hiB hc hd.2.2.2.1) kL_115 hd rfl hKX hKO hPX hPR hPO hS rfl rfl ⟨Nat.le_of_ble_eq_true rfl, Nat.le_of_ble_eq_true rfl⟩ rfl hl.1 rfl (Nat.le_of_ble_eq_true rfl) dL_law_749 ⟨by show _ ≤ 1051; omega, by show _ ≤ 9575; omega⟩ (fun z9 u9 x9 H locs hp9 hPX hPR hPO hS => ?_)
  obtain ⟨rfl, zz, hx9, hz9, hG9⟩ := hp9
  have hx9 : x9 = Int32.toInt64 zz := hx9
  subst hx9
  have hG9 : Gr (ch T kc ko kv k) T c n u9 := hG9
  have hz9 : zz = nI (ct (sg T c u9) (ct (ch T kc ko kv k) n)) := hz9
  rw [hG9.count] at hz9
  subst hz9
  have hPX : va_P D c2 (wX adX caX T n kc ko kv k lo hi bw bb u9) H := hPX
  refine lv_istore (lv' := [(5, .int (nI 0)), (4, .int (nI i)), (0, .ref b), (1, .ref (adX 0)), (2, .ref (adR 0)), (3, .ref ao)]) E.1 E.2.1 dL_law_752 hl (by decide) rfl (fun ls hl => ?_)
  refine lv_aload_n E.1 E.2.1 dL_law_754 rfl (lv_at hl 4 rfl) ?_
  refine lv_aload_n E.1 E.2.1 dL_law_755 rfl (lv_at hl 2 rfl) ?_
  refine lv_iload E.1 E.2.1 dL_law_756 (lv_at hl 1 rfl) ?_
  refine lv_iconst (v := nI 1) E.1 E.2.1 dL_law_758 rfl ?_
  refine n_iadd E dL_law_759 ?_
  refine s_ld E hX hbl hS hL (show i + 1 < L by omega) e1 dL_law_760 ?_
  refine l_mi (wx := wX adX caX T n kc ko kv k lo hi bw bb u9) (wr := wR adR caR T n kc ko kv k cd) E (As := [.int (nI c)]) (rest := []) (cR_groups l D adR caR T n kc ko kv k cd c hd.2.1 hIK hn128 hc) kL_117 hd rfl hKR hPX hPR hPO hS rfl rfl rfl rfl ⟨Nat.le_of_ble_eq_true rfl, Nat.le_of_ble_eq_true rfl⟩ rfl hl.1 rfl (Nat.le_of_ble_eq_true rfl) dL_law_761 ⟨by show _ ≤ 1051; omega, by show _ ≤ 9575; omega⟩ (fun z8 u8 H locs hp8 hPX hPR hPO hS => ?_)
  have hp8 : z8 = nI (ct (isF (ch T kc ko kv k) T c) n) := hp8
  subst hp8
  have hPR : va_P D c2 (wR adR caR T n kc ko kv k 0) H := hPR
  refine lv_istore (lv' := [(6, .int (nI (ct (isF (ch T kc ko kv k) T c) n))), (5, .int (nI 0)), (4, .int (nI i)), (0, .ref b), (1, .ref (adX 0)), (2, .ref (adR 0)), (3, .ref ao)]) E.1 E.2.1 dL_law_764 hl (by decide) rfl (fun ls hl => ?_)
  refine lv_aload_n E.1 E.2.1 dL_law_766 rfl (lv_at hl 5 rfl) ?_
  refine cV_i E (As := []) (rest := []) (cR_thrown l D adR caR T n kc ko kv k 0) kL_73 hKR hPR 0 rfl rfl rfl rfl ⟨Nat.le_of_ble_eq_true rfl, Nat.le_of_ble_eq_true rfl⟩ rfl hl.1 rfl (Nat.le_of_ble_eq_true rfl) dL_law_767 ⟨by show _ ≤ 1051; omega, by show _ ≤ 9575; omega⟩ ?_
  refine lv_iload E.1 E.2.1 dL_law_770 (lv_at hl 1 rfl) ?_
  refine n_icmp_eq (tgt := 777) E dL_law_772 rfl (by decide) (by decide) (fun _ => ?_) (fun h => absurd rfl h)
  refine lv_iload E.1 E.2.1 dL_law_777 (lv_at hl 1 rfl) ?_
  refine n_if_ne (tgt := 794) E dL_law_779 rfl (by decide) (fun h => absurd h (by decide)) (fun _ => ?_)
  refine lv_aload_n E.1 E.2.1 dL_law_782 rfl (lv_at hl 6 rfl) ?_
  refine lv_iconst (v := nI 0) E.1 E.2.1 dL_law_783 rfl ?_
  refine n_lald E hKO hPO 0 0 rfl rfl (by decide) (by decide) dL_law_784 ?_
  refine lv_iload E.1 E.2.1 dL_law_785 (lv_at hl 0 rfl) ?_
  refine lv_i2l E.1 E.2.1 dL_law_787 rfl ?_
  refine l_if_eq (tgt := 794) E dL_law_788 dL_law_789 rfl (fun _ => ?_) (fun hne => (hne fS_s).elim)
  refine lv_goto (tgt := 1105) E.1 E.2.1 dL_law_794 rfl ?_
  refine W.widen (k := cells + 1) (n := slots + 6) (by omega) (by omega) ?_
  exact next _ _ _ ⟨T, n, kc, ko, kv, k, lo, hi, bw, bb, u9, 0, fS ov 0 (Int32.toInt64 (nI (ct (isF (ch T kc ko kv k) T c) n))), hn128, hIK, hPk, hPX, hPR, hPO, hS⟩ (lv_sub hl [2, 3, 4, 5, 6] rfl)
set_option maxHeartbeats 4000000 in
set_option maxRecDepth 100000 in
theorem op_groups1 {p : Program} {l : Launch} {e : Env} {s : State} {m : MethodId} {below : List Frame} {meth : Method} {c0 : Code} {b L : Nat} {xs : Nat → Int32} {D : va_G} {adX adR : Nat → Nat} {caX caR : Nat → ClassId} {ao : Nat} {co : ClassId} {sa : Nat → Nat} (C : LC p l s m c0 b L xs D adX caX adR caR ao co sa) (T : Nat → Nat → Int64) (n : Nat) (kc ko : Nat → Nat) (kv : Nat → Int64) (k : Nat) (lo hi : Nat → Int64) (bw bb pk : Nat → Nat) (cd : Nat) (ov : Nat → Int64) (hn128 : n ≤ 128) (hIK : iK kc ko k) (hPk : Pks T n lo hi bw bb) {H : Heap} {locs : List Loc} (hPX : va_P D c2 (wX adX caX T n kc ko kv k lo hi bw bb pk) H) (hPR : va_P D c2 (wR adR caR T n kc ko kv k cd) H) (hPO : va_P D c2 (wO ao co ov) H) (hS : va_S (fun q => s.heap.size ≤ q) s.heap H locs) {cells slots : Nat} (hcl : cells + 1 ≤ 1051 ∧ slots + 6 ≤ 9575) {i : Nat} (hi6 : i + 6 ≤ L) {ls : Array Slot} (hl : lv_has ls 8 (lvB b adX adR ao i)) {Q : State → Prop} (next : NX p l e s m below meth c0 b D adX caX adR caR ao co i cells slots Q) (x : Int32) (hx : isC x = false) (hx2 : x < 0 ∨ nI 4 ≤ x) (e1 : xs (i + 1) = x) : W p l e room_1 s m #[Value.ref b] below meth c0 H locs cells slots Q (F0 m 741 ls []) := by
  obtain ⟨E, hL, hX, hbl, hlt, hd, hKX, hKR, hKO, hZ⟩ := C
  have hiB := iB_of hPk
  have hctn := ct_le (ch T kc ko kv k) n
  refine lv_aload_n E.1 E.2.1 dL_law_741 rfl (lv_at hl 2 rfl) ?_
  refine lv_aload_n E.1 E.2.1 dL_law_742 rfl (lv_at hl 1 rfl) ?_
  refine lv_iload E.1 E.2.1 dL_law_743 (lv_at hl 0 rfl) ?_
  refine lv_iconst (v := nI 1) E.1 E.2.1 dL_law_745 rfl ?_
  refine n_iadd E dL_law_746 ?_
  refine s_ld E hX hbl hS hL (show i + 1 < L by omega) e1 dL_law_747 ?_
  refine lv_aload_n E.1 E.2.1 dL_law_748 rfl (lv_at hl 4 rfl) ?_
  refine l_wb (wx := wX adX caX T n kc ko kv k lo hi bw bb pk) (wr := wR adR caR T n kc ko kv k cd) E (As := [.ref (adX 0), .int x, .ref ao]) (rest := []) (vL_groups1 l D adX caX T n kc ko kv k lo hi bw bb pk ao co ov s.heap.size sa x hx2 hd.2.2.2.1 hlt hd.2.2.2.2.2.1) kL_115 hd rfl hKX hKO hZ hPX hPR hPO hS rfl rfl ⟨Nat.le_of_ble_eq_true rfl, Nat.le_of_ble_eq_true rfl⟩ rfl hl.1 rfl (Nat.le_of_ble_eq_true rfl) dL_law_749 ⟨by show _ ≤ 1051; omega, by show _ ≤ 9575; omega⟩ (fun z9 u9 H locs hp9 hPX hPR hPO hS => ?_)
  have hp9 : z9 = nI 1 := hp9
  subst hp9
  have hPX : va_P D c2 (wX adX caX T n kc ko kv k lo hi bw bb pk) H := hPX
  refine lv_istore (lv' := [(5, .int (nI 1)), (4, .int (nI i)), (0, .ref b), (1, .ref (adX 0)), (2, .ref (adR 0)), (3, .ref ao)]) E.1 E.2.1 dL_law_752 hl (by decide) rfl (fun ls hl => ?_)
  refine lv_aload_n E.1 E.2.1 dL_law_754 rfl (lv_at hl 4 rfl) ?_
  refine lv_aload_n E.1 E.2.1 dL_law_755 rfl (lv_at hl 2 rfl) ?_
  refine lv_iload E.1 E.2.1 dL_law_756 (lv_at hl 1 rfl) ?_
  refine lv_iconst (v := nI 1) E.1 E.2.1 dL_law_758 rfl ?_
  refine n_iadd E dL_law_759 ?_
  refine s_ld E hX hbl hS hL (show i + 1 < L by omega) e1 dL_law_760 ?_
  refine l_mi (wx := wX adX caX T n kc ko kv k lo hi bw bb pk) (wr := wR adR caR T n kc ko kv k cd) E (As := [.int x]) (rest := []) (cR_groups1 l D adR caR T n kc ko kv k cd x hd.2.1 hx) kL_117 hd rfl hKR hPX hPR hPO hS rfl rfl rfl rfl ⟨Nat.le_of_ble_eq_true rfl, Nat.le_of_ble_eq_true rfl⟩ rfl hl.1 rfl (Nat.le_of_ble_eq_true rfl) dL_law_761 ⟨by show _ ≤ 1051; omega, by show _ ≤ 9575; omega⟩ (fun z8 u8 H locs hp8 hPX hPR hPO hS => ?_)
  have hPR : va_P D c2 (wR adR caR T n kc ko kv k 1) H := hPR
  refine lv_istore (lv' := [(6, .int z8), (5, .int (nI 1)), (4, .int (nI i)), (0, .ref b), (1, .ref (adX 0)), (2, .ref (adR 0)), (3, .ref ao)]) E.1 E.2.1 dL_law_764 hl (by decide) rfl (fun ls hl => ?_)
  refine lv_aload_n E.1 E.2.1 dL_law_766 rfl (lv_at hl 5 rfl) ?_
  refine cV_i E (As := []) (rest := []) (cR_thrown l D adR caR T n kc ko kv k 1) kL_73 hKR hPR 0 rfl rfl rfl rfl ⟨Nat.le_of_ble_eq_true rfl, Nat.le_of_ble_eq_true rfl⟩ rfl hl.1 rfl (Nat.le_of_ble_eq_true rfl) dL_law_767 ⟨by show _ ≤ 1051; omega, by show _ ≤ 9575; omega⟩ ?_
  refine lv_iload E.1 E.2.1 dL_law_770 (lv_at hl 1 rfl) ?_
  refine n_icmp_eq (tgt := 777) E dL_law_772 rfl (by decide) (by decide) (fun _ => ?_) (fun h => absurd rfl h)
  refine lv_iload E.1 E.2.1 dL_law_777 (lv_at hl 1 rfl) ?_
  refine n_if_ne (tgt := 794) E dL_law_779 rfl (by decide) (fun _ => ?_) (fun h => absurd h (by decide))
  refine lv_goto (tgt := 1105) E.1 E.2.1 dL_law_794 rfl ?_
  exact next _ _ _ ⟨T, n, kc, ko, kv, k, lo, hi, bw, bb, pk, 1, ov, hn128, hIK, hPk, hPX, hPR, hPO, hS⟩ (lv_sub hl [2, 3, 4, 5, 6] rfl)
set_option maxHeartbeats 4000000 in
set_option maxRecDepth 100000 in
theorem op_group {p : Program} {l : Launch} {e : Env} {s : State} {m : MethodId} {below : List Frame} {meth : Method} {c0 : Code} {b L : Nat} {xs : Nat → Int32} {D : va_G} {adX adR : Nat → Nat} {caX caR : Nat → ClassId} {ao : Nat} {co : ClassId} {sa : Nat → Nat} (C : LC p l s m c0 b L xs D adX caX adR caR ao co sa) (T : Nat → Nat → Int64) (n : Nat) (kc ko : Nat → Nat) (kv : Nat → Int64) (k : Nat) (lo hi : Nat → Int64) (bw bb pk : Nat → Nat) (cd : Nat) (ov : Nat → Int64) (hn128 : n ≤ 128) (hIK : iK kc ko k) (hPk : Pks T n lo hi bw bb) {H : Heap} {locs : List Loc} (hPX : va_P D c2 (wX adX caX T n kc ko kv k lo hi bw bb pk) H) (hPR : va_P D c2 (wR adR caR T n kc ko kv k cd) H) (hPO : va_P D c2 (wO ao co ov) H) (hS : va_S (fun q => s.heap.size ≤ q) s.heap H locs) {cells slots : Nat} (hcl : cells + 1 ≤ 1051 ∧ slots + 6 ≤ 9575) {i : Nat} (hi6 : i + 6 ≤ L) {ls : Array Slot} (hl : lv_has ls 8 (lvB b adX adR ao i)) {Q : State → Prop} (next : NX p l e s m below meth c0 b D adX caX adR caR ao co i cells slots Q) (c j w o : Nat) (hc : c < 4) (ho : o < 4) (hw : w < 5) (hj : j < ct (isF (ch T kc ko kv k) T c) n) (e1 : xs (i + 1) = nI c) (e2 : xs (i + 2) = nI j) (e3 : xs (i + 3) = nI w) (e4 : xs (i + 4) = nI o) : W p l e room_1 s m #[Value.ref b] below meth c0 H locs cells slots Q (F0 m 797 ls []) := by
  obtain ⟨E, hL, hX, hbl, hlt, hd, hKX, hKR, hKO, hZ⟩ := C
  have hiB := iB_of hPk
  have hctn := ct_le (ch T kc ko kv k) n
  refine lv_aload_n E.1 E.2.1 dL_law_797 rfl (lv_at hl 2 rfl) ?_
  refine lv_aload_n E.1 E.2.1 dL_law_798 rfl (lv_at hl 1 rfl) ?_
  refine lv_iload E.1 E.2.1 dL_law_799 (lv_at hl 0 rfl) ?_
  refine lv_iconst (v := nI 1) E.1 E.2.1 dL_law_801 rfl ?_
  refine n_iadd E dL_law_802 ?_
  refine s_ld E hX hbl hS hL (show i + 1 < L by omega) e1 dL_law_803 ?_
  refine lv_aload_n E.1 E.2.1 dL_law_804 rfl (lv_at hl 1 rfl) ?_
  refine lv_iload E.1 E.2.1 dL_law_805 (lv_at hl 0 rfl) ?_
  refine lv_iconst (v := nI 2) E.1 E.2.1 dL_law_807 rfl ?_
  refine n_iadd E dL_law_808 ?_
  refine s_ld E hX hbl hS hL (show i + 2 < L by omega) e2 dL_law_809 ?_
  refine lv_aload_n E.1 E.2.1 dL_law_810 rfl (lv_at hl 1 rfl) ?_
  refine lv_iload E.1 E.2.1 dL_law_811 (lv_at hl 0 rfl) ?_
  refine lv_iconst (v := nI 3) E.1 E.2.1 dL_law_813 rfl ?_
  refine n_iadd E dL_law_814 ?_
  refine s_ld E hX hbl hS hL (show i + 3 < L by omega) e3 dL_law_815 ?_
  refine lv_aload_n E.1 E.2.1 dL_law_816 rfl (lv_at hl 1 rfl) ?_
  refine lv_iload E.1 E.2.1 dL_law_817 (lv_at hl 0 rfl) ?_
  refine lv_iconst (v := nI 4) E.1 E.2.1 dL_law_819 rfl ?_
  refine n_iadd E dL_law_820 ?_
  refine s_ld E hX hbl hS hL (show i + 4 < L by omega) e4 dL_law_821 ?_
  refine lv_aload_n E.1 E.2.1 dL_law_822 rfl (lv_at hl 4 rfl) ?_
  refine l_wg (wx := wX adX caX T n kc ko kv k lo hi bw bb pk) (wr := wR adR caR T n kc ko kv k cd) E (As := [.ref (adX 0), .int (nI c), .int (nI j), .int (nI w), .int (nI o), .ref ao]) (rest := []) (wL_group l D adX caX T n kc ko kv k lo hi bw bb pk ao co ov c j w o hIK hd.1 hn128 hiB hc ho hw hj hd.2.2.2.1) kL_118 hd rfl hKX hKO hPX hPR hPO hS rfl rfl ⟨Nat.le_of_ble_eq_true rfl, Nat.le_of_ble_eq_true rfl⟩ rfl hl.1 rfl (Nat.le_of_ble_eq_true rfl) dL_law_823 ⟨by show _ ≤ 1051; omega, by show _ ≤ 9575; omega⟩ (fun z9 u9 x9 H locs hp9 hPX hPR hPO hS => ?_)
  obtain ⟨rfl, hG9, a9, b9, hab, hb9, hg9, hi9, hno9, he9, hx9⟩ := hp9
  have hG9 : Gr (ch T kc ko kv k) T c n u9 := hG9
  have hx9 := hx9.trans (group_eq (w := w) (o := o) hG9 hab hb9 hg9 hno9 he9)
  obtain ⟨hF9, hq9, hc9, hu9⟩ := hG9.un (show a9 < ct (ch T kc ko kv k) n from Nat.lt_of_lt_of_le hab hb9) hg9 hi9
  have hPX : va_P D c2 (wX adX caX T n kc ko kv k lo hi bw bb u9) H := hPX
  refine lv_istore (lv' := [(5, .int (nI 0)), (4, .int (nI i)), (0, .ref b), (1, .ref (adX 0)), (2, .ref (adR 0)), (3, .ref ao)]) E.1 E.2.1 dL_law_826 hl (by decide) rfl (fun ls hl => ?_)
  refine lv_aload_n E.1 E.2.1 dL_law_828 rfl (lv_at hl 4 rfl) ?_
  refine lv_aload_n E.1 E.2.1 dL_law_829 rfl (lv_at hl 2 rfl) ?_
  refine lv_iload E.1 E.2.1 dL_law_830 (lv_at hl 1 rfl) ?_
  refine lv_iconst (v := nI 1) E.1 E.2.1 dL_law_832 rfl ?_
  refine n_iadd E dL_law_833 ?_
  refine s_ld E hX hbl hS hL (show i + 1 < L by omega) e1 dL_law_834 ?_
  refine lv_aload_n E.1 E.2.1 dL_law_835 rfl (lv_at hl 2 rfl) ?_
  refine lv_iload E.1 E.2.1 dL_law_836 (lv_at hl 1 rfl) ?_
  refine lv_iconst (v := nI 2) E.1 E.2.1 dL_law_838 rfl ?_
  refine n_iadd E dL_law_839 ?_
  refine s_ld E hX hbl hS hL (show i + 2 < L by omega) e2 dL_law_840 ?_
  refine lv_aload_n E.1 E.2.1 dL_law_841 rfl (lv_at hl 2 rfl) ?_
  refine lv_iload E.1 E.2.1 dL_law_842 (lv_at hl 1 rfl) ?_
  refine lv_iconst (v := nI 3) E.1 E.2.1 dL_law_844 rfl ?_
  refine n_iadd E dL_law_845 ?_
  refine s_ld E hX hbl hS hL (show i + 3 < L by omega) e3 dL_law_846 ?_
  refine lv_aload_n E.1 E.2.1 dL_law_847 rfl (lv_at hl 2 rfl) ?_
  refine lv_iload E.1 E.2.1 dL_law_848 (lv_at hl 1 rfl) ?_
  refine lv_iconst (v := nI 4) E.1 E.2.1 dL_law_850 rfl ?_
  refine n_iadd E dL_law_851 ?_
  refine s_ld E hX hbl hS hL (show i + 4 < L by omega) e4 dL_law_852 ?_
  refine l_ml (wx := wX adX caX T n kc ko kv k lo hi bw bb u9) (wr := wR adR caR T n kc ko kv k cd) E (As := [.int (nI c), .int (nI j), .int (nI w), .int (nI o)]) (rest := []) (cR_group l D adR caR T n kc ko kv k cd c j w o (u9 a9) hd.2.1 hIK hn128 hc ho hw hj hq9 hF9 hc9 hu9) kL_121 hd rfl hKR hPX hPR hPO hS rfl rfl rfl rfl ⟨Nat.le_of_ble_eq_true rfl, Nat.le_of_ble_eq_true rfl⟩ rfl hl.1 rfl (Nat.le_of_ble_eq_true rfl) dL_law_853 ⟨by show _ ≤ 1051; omega, by show _ ≤ 9575; omega⟩ (fun z8 u8 H locs hp8 hPX hPR hPO hS => ?_)
  have hPR : va_P D c2 (wR adR caR T n kc ko kv k 0) H := hPR
  refine lv_lstore (lv' := [(6, .long z8), (5, .int (nI 0)), (4, .int (nI i)), (0, .ref b), (1, .ref (adX 0)), (2, .ref (adR 0)), (3, .ref ao)]) E.1 E.2.1 dL_law_856 hl (by decide) rfl (fun ls hl => ?_)
  refine lv_aload_n E.1 E.2.1 dL_law_858 rfl (lv_at hl 5 rfl) ?_
  refine cV_i E (As := []) (rest := []) (cR_thrown l D adR caR T n kc ko kv k 0) kL_73 hKR hPR 0 rfl rfl rfl rfl ⟨Nat.le_of_ble_eq_true rfl, Nat.le_of_ble_eq_true rfl⟩ rfl hl.1 rfl (Nat.le_of_ble_eq_true rfl) dL_law_859 ⟨by show _ ≤ 1051; omega, by show _ ≤ 9575; omega⟩ ?_
  refine lv_iload E.1 E.2.1 dL_law_862 (lv_at hl 1 rfl) ?_
  refine n_icmp_eq (tgt := 869) E dL_law_864 rfl (by decide) (by decide) (fun _ => ?_) (fun h => absurd rfl h)
  refine lv_iload E.1 E.2.1 dL_law_869 (lv_at hl 1 rfl) ?_
  refine n_if_ne (tgt := 885) E dL_law_871 rfl (by decide) (fun h => absurd h (by decide)) (fun _ => ?_)
  refine lv_aload_n E.1 E.2.1 dL_law_874 rfl (lv_at hl 6 rfl) ?_
  refine lv_iconst (v := nI 0) E.1 E.2.1 dL_law_875 rfl ?_
  refine n_lald E hKO hPO 0 0 rfl rfl (by decide) (by decide) dL_law_876 ?_
  refine lv_lload E.1 E.2.1 dL_law_877 (lv_at hl 0 rfl) ?_
  refine l_if_eq (tgt := 885) E dL_law_879 dL_law_880 rfl (fun _ => ?_) (fun hne => (hne (fS_s.trans (hx9.trans hp8.symm))).elim)
  refine lv_goto (tgt := 1105) E.1 E.2.1 dL_law_885 rfl ?_
  refine W.widen (k := cells + 1) (n := slots + 6) (by omega) (by omega) ?_
  exact next _ _ _ ⟨T, n, kc, ko, kv, k, lo, hi, bw, bb, u9, 0, fS ov 0 x9, hn128, hIK, hPk, hPX, hPR, hPO, hS⟩ (lv_sub hl [2, 3, 4, 5, 6] rfl)
set_option maxHeartbeats 4000000 in
set_option maxRecDepth 100000 in
theorem op_group1 {p : Program} {l : Launch} {e : Env} {s : State} {m : MethodId} {below : List Frame} {meth : Method} {c0 : Code} {b L : Nat} {xs : Nat → Int32} {D : va_G} {adX adR : Nat → Nat} {caX caR : Nat → ClassId} {ao : Nat} {co : ClassId} {sa : Nat → Nat} (C : LC p l s m c0 b L xs D adX caX adR caR ao co sa) (T : Nat → Nat → Int64) (n : Nat) (kc ko : Nat → Nat) (kv : Nat → Int64) (k : Nat) (lo hi : Nat → Int64) (bw bb pk : Nat → Nat) (cd : Nat) (ov : Nat → Int64) (hn128 : n ≤ 128) (hIK : iK kc ko k) (hPk : Pks T n lo hi bw bb) {H : Heap} {locs : List Loc} (hPX : va_P D c2 (wX adX caX T n kc ko kv k lo hi bw bb pk) H) (hPR : va_P D c2 (wR adR caR T n kc ko kv k cd) H) (hPO : va_P D c2 (wO ao co ov) H) (hS : va_S (fun q => s.heap.size ≤ q) s.heap H locs) {cells slots : Nat} (hcl : cells + 1 ≤ 1051 ∧ slots + 6 ≤ 9575) {i : Nat} (hi6 : i + 6 ≤ L) {ls : Array Slot} (hl : lv_has ls 8 (lvB b adX adR ao i)) {Q : State → Prop} (next : NX p l e s m below meth c0 b D adX caX adR caR ao co i cells slots Q) (x y v u : Int32) (hx : isC x = false) (hx2 : x < 0 ∨ nI 4 ≤ x) (e1 : xs (i + 1) = x) (e2 : xs (i + 2) = y) (e3 : xs (i + 3) = v) (e4 : xs (i + 4) = u) : W p l e room_1 s m #[Value.ref b] below meth c0 H locs cells slots Q (F0 m 797 ls []) := by
  obtain ⟨E, hL, hX, hbl, hlt, hd, hKX, hKR, hKO, hZ⟩ := C
  have hiB := iB_of hPk
  have hctn := ct_le (ch T kc ko kv k) n
  refine lv_aload_n E.1 E.2.1 dL_law_797 rfl (lv_at hl 2 rfl) ?_
  refine lv_aload_n E.1 E.2.1 dL_law_798 rfl (lv_at hl 1 rfl) ?_
  refine lv_iload E.1 E.2.1 dL_law_799 (lv_at hl 0 rfl) ?_
  refine lv_iconst (v := nI 1) E.1 E.2.1 dL_law_801 rfl ?_
  refine n_iadd E dL_law_802 ?_
  refine s_ld E hX hbl hS hL (show i + 1 < L by omega) e1 dL_law_803 ?_
  refine lv_aload_n E.1 E.2.1 dL_law_804 rfl (lv_at hl 1 rfl) ?_
  refine lv_iload E.1 E.2.1 dL_law_805 (lv_at hl 0 rfl) ?_
  refine lv_iconst (v := nI 2) E.1 E.2.1 dL_law_807 rfl ?_
  refine n_iadd E dL_law_808 ?_
  refine s_ld E hX hbl hS hL (show i + 2 < L by omega) e2 dL_law_809 ?_
  refine lv_aload_n E.1 E.2.1 dL_law_810 rfl (lv_at hl 1 rfl) ?_
  refine lv_iload E.1 E.2.1 dL_law_811 (lv_at hl 0 rfl) ?_
  refine lv_iconst (v := nI 3) E.1 E.2.1 dL_law_813 rfl ?_
  refine n_iadd E dL_law_814 ?_
  refine s_ld E hX hbl hS hL (show i + 3 < L by omega) e3 dL_law_815 ?_
  refine lv_aload_n E.1 E.2.1 dL_law_816 rfl (lv_at hl 1 rfl) ?_
  refine lv_iload E.1 E.2.1 dL_law_817 (lv_at hl 0 rfl) ?_
  refine lv_iconst (v := nI 4) E.1 E.2.1 dL_law_819 rfl ?_
  refine n_iadd E dL_law_820 ?_
  refine s_ld E hX hbl hS hL (show i + 4 < L by omega) e4 dL_law_821 ?_
  refine lv_aload_n E.1 E.2.1 dL_law_822 rfl (lv_at hl 4 rfl) ?_
  refine l_wb (wx := wX adX caX T n kc ko kv k lo hi bw bb pk) (wr := wR adR caR T n kc ko kv k cd) E (As := [.ref (adX 0), .int x, .int y, .int v, .int u, .ref ao]) (rest := []) (vL_group1 l D adX caX T n kc ko kv k lo hi bw bb pk ao co ov s.heap.size sa x y v u hx2 hd.2.2.2.1 hlt hd.2.2.2.2.2.1) kL_118 hd rfl hKX hKO hZ hPX hPR hPO hS rfl rfl ⟨Nat.le_of_ble_eq_true rfl, Nat.le_of_ble_eq_true rfl⟩ rfl hl.1 rfl (Nat.le_of_ble_eq_true rfl) dL_law_823 ⟨by show _ ≤ 1051; omega, by show _ ≤ 9575; omega⟩ (fun z9 u9 H locs hp9 hPX hPR hPO hS => ?_)
  have hp9 : z9 = nI 1 := hp9
  subst hp9
  have hPX : va_P D c2 (wX adX caX T n kc ko kv k lo hi bw bb pk) H := hPX
  refine lv_istore (lv' := [(5, .int (nI 1)), (4, .int (nI i)), (0, .ref b), (1, .ref (adX 0)), (2, .ref (adR 0)), (3, .ref ao)]) E.1 E.2.1 dL_law_826 hl (by decide) rfl (fun ls hl => ?_)
  refine lv_aload_n E.1 E.2.1 dL_law_828 rfl (lv_at hl 4 rfl) ?_
  refine lv_aload_n E.1 E.2.1 dL_law_829 rfl (lv_at hl 2 rfl) ?_
  refine lv_iload E.1 E.2.1 dL_law_830 (lv_at hl 1 rfl) ?_
  refine lv_iconst (v := nI 1) E.1 E.2.1 dL_law_832 rfl ?_
  refine n_iadd E dL_law_833 ?_
  refine s_ld E hX hbl hS hL (show i + 1 < L by omega) e1 dL_law_834 ?_
  refine lv_aload_n E.1 E.2.1 dL_law_835 rfl (lv_at hl 2 rfl) ?_
  refine lv_iload E.1 E.2.1 dL_law_836 (lv_at hl 1 rfl) ?_
  refine lv_iconst (v := nI 2) E.1 E.2.1 dL_law_838 rfl ?_
  refine n_iadd E dL_law_839 ?_
  refine s_ld E hX hbl hS hL (show i + 2 < L by omega) e2 dL_law_840 ?_
  refine lv_aload_n E.1 E.2.1 dL_law_841 rfl (lv_at hl 2 rfl) ?_
  refine lv_iload E.1 E.2.1 dL_law_842 (lv_at hl 1 rfl) ?_
  refine lv_iconst (v := nI 3) E.1 E.2.1 dL_law_844 rfl ?_
  refine n_iadd E dL_law_845 ?_
  refine s_ld E hX hbl hS hL (show i + 3 < L by omega) e3 dL_law_846 ?_
  refine lv_aload_n E.1 E.2.1 dL_law_847 rfl (lv_at hl 2 rfl) ?_
  refine lv_iload E.1 E.2.1 dL_law_848 (lv_at hl 1 rfl) ?_
  refine lv_iconst (v := nI 4) E.1 E.2.1 dL_law_850 rfl ?_
  refine n_iadd E dL_law_851 ?_
  refine s_ld E hX hbl hS hL (show i + 4 < L by omega) e4 dL_law_852 ?_
  refine l_ml (wx := wX adX caX T n kc ko kv k lo hi bw bb pk) (wr := wR adR caR T n kc ko kv k cd) E (As := [.int x, .int y, .int v, .int u]) (rest := []) (cR_group1 l D adR caR T n kc ko kv k cd x y v u hd.2.1 hx) kL_121 hd rfl hKR hPX hPR hPO hS rfl rfl rfl rfl ⟨Nat.le_of_ble_eq_true rfl, Nat.le_of_ble_eq_true rfl⟩ rfl hl.1 rfl (Nat.le_of_ble_eq_true rfl) dL_law_853 ⟨by show _ ≤ 1051; omega, by show _ ≤ 9575; omega⟩ (fun z8 u8 H locs hp8 hPX hPR hPO hS => ?_)
  have hPR : va_P D c2 (wR adR caR T n kc ko kv k 1) H := hPR
  refine lv_lstore (lv' := [(6, .long z8), (5, .int (nI 1)), (4, .int (nI i)), (0, .ref b), (1, .ref (adX 0)), (2, .ref (adR 0)), (3, .ref ao)]) E.1 E.2.1 dL_law_856 hl (by decide) rfl (fun ls hl => ?_)
  refine lv_aload_n E.1 E.2.1 dL_law_858 rfl (lv_at hl 5 rfl) ?_
  refine cV_i E (As := []) (rest := []) (cR_thrown l D adR caR T n kc ko kv k 1) kL_73 hKR hPR 0 rfl rfl rfl rfl ⟨Nat.le_of_ble_eq_true rfl, Nat.le_of_ble_eq_true rfl⟩ rfl hl.1 rfl (Nat.le_of_ble_eq_true rfl) dL_law_859 ⟨by show _ ≤ 1051; omega, by show _ ≤ 9575; omega⟩ ?_
  refine lv_iload E.1 E.2.1 dL_law_862 (lv_at hl 1 rfl) ?_
  refine n_icmp_eq (tgt := 869) E dL_law_864 rfl (by decide) (by decide) (fun _ => ?_) (fun h => absurd rfl h)
  refine lv_iload E.1 E.2.1 dL_law_869 (lv_at hl 1 rfl) ?_
  refine n_if_ne (tgt := 885) E dL_law_871 rfl (by decide) (fun _ => ?_) (fun h => absurd h (by decide))
  refine lv_goto (tgt := 1105) E.1 E.2.1 dL_law_885 rfl ?_
  exact next _ _ _ ⟨T, n, kc, ko, kv, k, lo, hi, bw, bb, pk, 1, ov, hn128, hIK, hPk, hPX, hPR, hPO, hS⟩ (lv_sub hl [2, 3, 4, 5, 6] rfl)
set_option maxHeartbeats 4000000 in
set_option maxRecDepth 100000 in
theorem op_group1o {p : Program} {l : Launch} {e : Env} {s : State} {m : MethodId} {below : List Frame} {meth : Method} {c0 : Code} {b L : Nat} {xs : Nat → Int32} {D : va_G} {adX adR : Nat → Nat} {caX caR : Nat → ClassId} {ao : Nat} {co : ClassId} {sa : Nat → Nat} (C : LC p l s m c0 b L xs D adX caX adR caR ao co sa) (T : Nat → Nat → Int64) (n : Nat) (kc ko : Nat → Nat) (kv : Nat → Int64) (k : Nat) (lo hi : Nat → Int64) (bw bb pk : Nat → Nat) (cd : Nat) (ov : Nat → Int64) (hn128 : n ≤ 128) (hIK : iK kc ko k) (hPk : Pks T n lo hi bw bb) {H : Heap} {locs : List Loc} (hPX : va_P D c2 (wX adX caX T n kc ko kv k lo hi bw bb pk) H) (hPR : va_P D c2 (wR adR caR T n kc ko kv k cd) H) (hPO : va_P D c2 (wO ao co ov) H) (hS : va_S (fun q => s.heap.size ≤ q) s.heap H locs) {cells slots : Nat} (hcl : cells + 1 ≤ 1051 ∧ slots + 6 ≤ 9575) {i : Nat} (hi6 : i + 6 ≤ L) {ls : Array Slot} (hl : lv_has ls 8 (lvB b adX adR ao i)) {Q : State → Prop} (next : NX p l e s m below meth c0 b D adX caX adR caR ao co i cells slots Q) (c : Nat) (y v u : Int32) (hc : c < 4) (hu : isC u = false) (hu2 : u < 0 ∨ nI 4 ≤ u) (e1 : xs (i + 1) = nI c) (e2 : xs (i + 2) = y) (e3 : xs (i + 3) = v) (e4 : xs (i + 4) = u) : W p l e room_1 s m #[Value.ref b] below meth c0 H locs cells slots Q (F0 m 797 ls []) := by
  obtain ⟨E, hL, hX, hbl, hlt, hd, hKX, hKR, hKO, hZ⟩ := C
  have hiB := iB_of hPk
  have hctn := ct_le (ch T kc ko kv k) n
  refine lv_aload_n E.1 E.2.1 dL_law_797 rfl (lv_at hl 2 rfl) ?_
  refine lv_aload_n E.1 E.2.1 dL_law_798 rfl (lv_at hl 1 rfl) ?_
  refine lv_iload E.1 E.2.1 dL_law_799 (lv_at hl 0 rfl) ?_
  refine lv_iconst (v := nI 1) E.1 E.2.1 dL_law_801 rfl ?_
  refine n_iadd E dL_law_802 ?_
  refine s_ld E hX hbl hS hL (show i + 1 < L by omega) e1 dL_law_803 ?_
  refine lv_aload_n E.1 E.2.1 dL_law_804 rfl (lv_at hl 1 rfl) ?_
  refine lv_iload E.1 E.2.1 dL_law_805 (lv_at hl 0 rfl) ?_
  refine lv_iconst (v := nI 2) E.1 E.2.1 dL_law_807 rfl ?_
  refine n_iadd E dL_law_808 ?_
  refine s_ld E hX hbl hS hL (show i + 2 < L by omega) e2 dL_law_809 ?_
  refine lv_aload_n E.1 E.2.1 dL_law_810 rfl (lv_at hl 1 rfl) ?_
  refine lv_iload E.1 E.2.1 dL_law_811 (lv_at hl 0 rfl) ?_
  refine lv_iconst (v := nI 3) E.1 E.2.1 dL_law_813 rfl ?_
  refine n_iadd E dL_law_814 ?_
  refine s_ld E hX hbl hS hL (show i + 3 < L by omega) e3 dL_law_815 ?_
  refine lv_aload_n E.1 E.2.1 dL_law_816 rfl (lv_at hl 1 rfl) ?_
  refine lv_iload E.1 E.2.1 dL_law_817 (lv_at hl 0 rfl) ?_
  refine lv_iconst (v := nI 4) E.1 E.2.1 dL_law_819 rfl ?_
  refine n_iadd E dL_law_820 ?_
  refine s_ld E hX hbl hS hL (show i + 4 < L by omega) e4 dL_law_821 ?_
  refine lv_aload_n E.1 E.2.1 dL_law_822 rfl (lv_at hl 4 rfl) ?_
  refine l_wb (wx := wX adX caX T n kc ko kv k lo hi bw bb pk) (wr := wR adR caR T n kc ko kv k cd) E (As := [.ref (adX 0), .int (nI c), .int y, .int v, .int u, .ref ao]) (rest := []) (vL_group1o l D adX caX T n kc ko kv k lo hi bw bb pk ao co ov s.heap.size sa c y v u hc hu2 hd.2.2.2.1 hlt hd.2.2.2.2.2.1) kL_118 hd rfl hKX hKO hZ hPX hPR hPO hS rfl rfl ⟨Nat.le_of_ble_eq_true rfl, Nat.le_of_ble_eq_true rfl⟩ rfl hl.1 rfl (Nat.le_of_ble_eq_true rfl) dL_law_823 ⟨by show _ ≤ 1051; omega, by show _ ≤ 9575; omega⟩ (fun z9 u9 H locs hp9 hPX hPR hPO hS => ?_)
  have hp9 : z9 = nI 1 := hp9
  subst hp9
  have hPX : va_P D c2 (wX adX caX T n kc ko kv k lo hi bw bb pk) H := hPX
  refine lv_istore (lv' := [(5, .int (nI 1)), (4, .int (nI i)), (0, .ref b), (1, .ref (adX 0)), (2, .ref (adR 0)), (3, .ref ao)]) E.1 E.2.1 dL_law_826 hl (by decide) rfl (fun ls hl => ?_)
  refine lv_aload_n E.1 E.2.1 dL_law_828 rfl (lv_at hl 4 rfl) ?_
  refine lv_aload_n E.1 E.2.1 dL_law_829 rfl (lv_at hl 2 rfl) ?_
  refine lv_iload E.1 E.2.1 dL_law_830 (lv_at hl 1 rfl) ?_
  refine lv_iconst (v := nI 1) E.1 E.2.1 dL_law_832 rfl ?_
  refine n_iadd E dL_law_833 ?_
  refine s_ld E hX hbl hS hL (show i + 1 < L by omega) e1 dL_law_834 ?_
  refine lv_aload_n E.1 E.2.1 dL_law_835 rfl (lv_at hl 2 rfl) ?_
  refine lv_iload E.1 E.2.1 dL_law_836 (lv_at hl 1 rfl) ?_
  refine lv_iconst (v := nI 2) E.1 E.2.1 dL_law_838 rfl ?_
  refine n_iadd E dL_law_839 ?_
  refine s_ld E hX hbl hS hL (show i + 2 < L by omega) e2 dL_law_840 ?_
  refine lv_aload_n E.1 E.2.1 dL_law_841 rfl (lv_at hl 2 rfl) ?_
  refine lv_iload E.1 E.2.1 dL_law_842 (lv_at hl 1 rfl) ?_
  refine lv_iconst (v := nI 3) E.1 E.2.1 dL_law_844 rfl ?_
  refine n_iadd E dL_law_845 ?_
  refine s_ld E hX hbl hS hL (show i + 3 < L by omega) e3 dL_law_846 ?_
  refine lv_aload_n E.1 E.2.1 dL_law_847 rfl (lv_at hl 2 rfl) ?_
  refine lv_iload E.1 E.2.1 dL_law_848 (lv_at hl 1 rfl) ?_
  refine lv_iconst (v := nI 4) E.1 E.2.1 dL_law_850 rfl ?_
  refine n_iadd E dL_law_851 ?_
  refine s_ld E hX hbl hS hL (show i + 4 < L by omega) e4 dL_law_852 ?_
  refine l_ml (wx := wX adX caX T n kc ko kv k lo hi bw bb pk) (wr := wR adR caR T n kc ko kv k cd) E (As := [.int (nI c), .int y, .int v, .int u]) (rest := []) (cR_group1o l D adR caR T n kc ko kv k cd c y v u hd.2.1 hc hu) kL_121 hd rfl hKR hPX hPR hPO hS rfl rfl rfl rfl ⟨Nat.le_of_ble_eq_true rfl, Nat.le_of_ble_eq_true rfl⟩ rfl hl.1 rfl (Nat.le_of_ble_eq_true rfl) dL_law_853 ⟨by show _ ≤ 1051; omega, by show _ ≤ 9575; omega⟩ (fun z8 u8 H locs hp8 hPX hPR hPO hS => ?_)
  have hPR : va_P D c2 (wR adR caR T n kc ko kv k 1) H := hPR
  refine lv_lstore (lv' := [(6, .long z8), (5, .int (nI 1)), (4, .int (nI i)), (0, .ref b), (1, .ref (adX 0)), (2, .ref (adR 0)), (3, .ref ao)]) E.1 E.2.1 dL_law_856 hl (by decide) rfl (fun ls hl => ?_)
  refine lv_aload_n E.1 E.2.1 dL_law_858 rfl (lv_at hl 5 rfl) ?_
  refine cV_i E (As := []) (rest := []) (cR_thrown l D adR caR T n kc ko kv k 1) kL_73 hKR hPR 0 rfl rfl rfl rfl ⟨Nat.le_of_ble_eq_true rfl, Nat.le_of_ble_eq_true rfl⟩ rfl hl.1 rfl (Nat.le_of_ble_eq_true rfl) dL_law_859 ⟨by show _ ≤ 1051; omega, by show _ ≤ 9575; omega⟩ ?_
  refine lv_iload E.1 E.2.1 dL_law_862 (lv_at hl 1 rfl) ?_
  refine n_icmp_eq (tgt := 869) E dL_law_864 rfl (by decide) (by decide) (fun _ => ?_) (fun h => absurd rfl h)
  refine lv_iload E.1 E.2.1 dL_law_869 (lv_at hl 1 rfl) ?_
  refine n_if_ne (tgt := 885) E dL_law_871 rfl (by decide) (fun _ => ?_) (fun h => absurd h (by decide))
  refine lv_goto (tgt := 1105) E.1 E.2.1 dL_law_885 rfl ?_
  exact next _ _ _ ⟨T, n, kc, ko, kv, k, lo, hi, bw, bb, pk, 1, ov, hn128, hIK, hPk, hPX, hPR, hPO, hS⟩ (lv_sub hl [2, 3, 4, 5, 6] rfl)
set_option maxHeartbeats 4000000 in
set_option maxRecDepth 100000 in
theorem op_group1w {p : Program} {l : Launch} {e : Env} {s : State} {m : MethodId} {below : List Frame} {meth : Method} {c0 : Code} {b L : Nat} {xs : Nat → Int32} {D : va_G} {adX adR : Nat → Nat} {caX caR : Nat → ClassId} {ao : Nat} {co : ClassId} {sa : Nat → Nat} (C : LC p l s m c0 b L xs D adX caX adR caR ao co sa) (T : Nat → Nat → Int64) (n : Nat) (kc ko : Nat → Nat) (kv : Nat → Int64) (k : Nat) (lo hi : Nat → Int64) (bw bb pk : Nat → Nat) (cd : Nat) (ov : Nat → Int64) (hn128 : n ≤ 128) (hIK : iK kc ko k) (hPk : Pks T n lo hi bw bb) {H : Heap} {locs : List Loc} (hPX : va_P D c2 (wX adX caX T n kc ko kv k lo hi bw bb pk) H) (hPR : va_P D c2 (wR adR caR T n kc ko kv k cd) H) (hPO : va_P D c2 (wO ao co ov) H) (hS : va_S (fun q => s.heap.size ≤ q) s.heap H locs) {cells slots : Nat} (hcl : cells + 1 ≤ 1051 ∧ slots + 6 ≤ 9575) {i : Nat} (hi6 : i + 6 ≤ L) {ls : Array Slot} (hl : lv_has ls 8 (lvB b adX adR ao i)) {Q : State → Prop} (next : NX p l e s m below meth c0 b D adX caX adR caR ao co i cells slots Q) (c o : Nat) (y v : Int32) (hc : c < 4) (ho : o < 4) (hv : v < 0 ∨ nI 4 < v) (e1 : xs (i + 1) = nI c) (e2 : xs (i + 2) = y) (e3 : xs (i + 3) = v) (e4 : xs (i + 4) = nI o) : W p l e room_1 s m #[Value.ref b] below meth c0 H locs cells slots Q (F0 m 797 ls []) := by
  obtain ⟨E, hL, hX, hbl, hlt, hd, hKX, hKR, hKO, hZ⟩ := C
  have hiB := iB_of hPk
  have hctn := ct_le (ch T kc ko kv k) n
  refine lv_aload_n E.1 E.2.1 dL_law_797 rfl (lv_at hl 2 rfl) ?_
  refine lv_aload_n E.1 E.2.1 dL_law_798 rfl (lv_at hl 1 rfl) ?_
  refine lv_iload E.1 E.2.1 dL_law_799 (lv_at hl 0 rfl) ?_
  refine lv_iconst (v := nI 1) E.1 E.2.1 dL_law_801 rfl ?_
  refine n_iadd E dL_law_802 ?_
  refine s_ld E hX hbl hS hL (show i + 1 < L by omega) e1 dL_law_803 ?_
  refine lv_aload_n E.1 E.2.1 dL_law_804 rfl (lv_at hl 1 rfl) ?_
  refine lv_iload E.1 E.2.1 dL_law_805 (lv_at hl 0 rfl) ?_
  refine lv_iconst (v := nI 2) E.1 E.2.1 dL_law_807 rfl ?_
  refine n_iadd E dL_law_808 ?_
  refine s_ld E hX hbl hS hL (show i + 2 < L by omega) e2 dL_law_809 ?_
  refine lv_aload_n E.1 E.2.1 dL_law_810 rfl (lv_at hl 1 rfl) ?_
  refine lv_iload E.1 E.2.1 dL_law_811 (lv_at hl 0 rfl) ?_
  refine lv_iconst (v := nI 3) E.1 E.2.1 dL_law_813 rfl ?_
  refine n_iadd E dL_law_814 ?_
  refine s_ld E hX hbl hS hL (show i + 3 < L by omega) e3 dL_law_815 ?_
  refine lv_aload_n E.1 E.2.1 dL_law_816 rfl (lv_at hl 1 rfl) ?_
  refine lv_iload E.1 E.2.1 dL_law_817 (lv_at hl 0 rfl) ?_
  refine lv_iconst (v := nI 4) E.1 E.2.1 dL_law_819 rfl ?_
  refine n_iadd E dL_law_820 ?_
  refine s_ld E hX hbl hS hL (show i + 4 < L by omega) e4 dL_law_821 ?_
  refine lv_aload_n E.1 E.2.1 dL_law_822 rfl (lv_at hl 4 rfl) ?_
  refine l_wb (wx := wX adX caX T n kc ko kv k lo hi bw bb pk) (wr := wR adR caR T n kc ko kv k cd) E (As := [.ref (adX 0), .int (nI c), .int y, .int v, .int (nI o), .ref ao]) (rest := []) (vL_group1w l D adX caX T n kc ko kv k lo hi bw bb pk ao co ov s.heap.size sa c o y v hc ho hv hd.2.2.2.1 hlt hd.2.2.2.2.2.1) kL_118 hd rfl hKX hKO hZ hPX hPR hPO hS rfl rfl ⟨Nat.le_of_ble_eq_true rfl, Nat.le_of_ble_eq_true rfl⟩ rfl hl.1 rfl (Nat.le_of_ble_eq_true rfl) dL_law_823 ⟨by show _ ≤ 1051; omega, by show _ ≤ 9575; omega⟩ (fun z9 u9 H locs hp9 hPX hPR hPO hS => ?_)
  have hp9 : z9 = nI 1 := hp9
  subst hp9
  have hPX : va_P D c2 (wX adX caX T n kc ko kv k lo hi bw bb pk) H := hPX
  refine lv_istore (lv' := [(5, .int (nI 1)), (4, .int (nI i)), (0, .ref b), (1, .ref (adX 0)), (2, .ref (adR 0)), (3, .ref ao)]) E.1 E.2.1 dL_law_826 hl (by decide) rfl (fun ls hl => ?_)
  refine lv_aload_n E.1 E.2.1 dL_law_828 rfl (lv_at hl 4 rfl) ?_
  refine lv_aload_n E.1 E.2.1 dL_law_829 rfl (lv_at hl 2 rfl) ?_
  refine lv_iload E.1 E.2.1 dL_law_830 (lv_at hl 1 rfl) ?_
  refine lv_iconst (v := nI 1) E.1 E.2.1 dL_law_832 rfl ?_
  refine n_iadd E dL_law_833 ?_
  refine s_ld E hX hbl hS hL (show i + 1 < L by omega) e1 dL_law_834 ?_
  refine lv_aload_n E.1 E.2.1 dL_law_835 rfl (lv_at hl 2 rfl) ?_
  refine lv_iload E.1 E.2.1 dL_law_836 (lv_at hl 1 rfl) ?_
  refine lv_iconst (v := nI 2) E.1 E.2.1 dL_law_838 rfl ?_
  refine n_iadd E dL_law_839 ?_
  refine s_ld E hX hbl hS hL (show i + 2 < L by omega) e2 dL_law_840 ?_
  refine lv_aload_n E.1 E.2.1 dL_law_841 rfl (lv_at hl 2 rfl) ?_
  refine lv_iload E.1 E.2.1 dL_law_842 (lv_at hl 1 rfl) ?_
  refine lv_iconst (v := nI 3) E.1 E.2.1 dL_law_844 rfl ?_
  refine n_iadd E dL_law_845 ?_
  refine s_ld E hX hbl hS hL (show i + 3 < L by omega) e3 dL_law_846 ?_
  refine lv_aload_n E.1 E.2.1 dL_law_847 rfl (lv_at hl 2 rfl) ?_
  refine lv_iload E.1 E.2.1 dL_law_848 (lv_at hl 1 rfl) ?_
  refine lv_iconst (v := nI 4) E.1 E.2.1 dL_law_850 rfl ?_
  refine n_iadd E dL_law_851 ?_
  refine s_ld E hX hbl hS hL (show i + 4 < L by omega) e4 dL_law_852 ?_
  refine l_ml (wx := wX adX caX T n kc ko kv k lo hi bw bb pk) (wr := wR adR caR T n kc ko kv k cd) E (As := [.int (nI c), .int y, .int v, .int (nI o)]) (rest := []) (cR_group1w l D adR caR T n kc ko kv k cd c o y v hd.2.1 hc ho hv) kL_121 hd rfl hKR hPX hPR hPO hS rfl rfl rfl rfl ⟨Nat.le_of_ble_eq_true rfl, Nat.le_of_ble_eq_true rfl⟩ rfl hl.1 rfl (Nat.le_of_ble_eq_true rfl) dL_law_853 ⟨by show _ ≤ 1051; omega, by show _ ≤ 9575; omega⟩ (fun z8 u8 H locs hp8 hPX hPR hPO hS => ?_)
  have hPR : va_P D c2 (wR adR caR T n kc ko kv k 1) H := hPR
  refine lv_lstore (lv' := [(6, .long z8), (5, .int (nI 1)), (4, .int (nI i)), (0, .ref b), (1, .ref (adX 0)), (2, .ref (adR 0)), (3, .ref ao)]) E.1 E.2.1 dL_law_856 hl (by decide) rfl (fun ls hl => ?_)
  refine lv_aload_n E.1 E.2.1 dL_law_858 rfl (lv_at hl 5 rfl) ?_
  refine cV_i E (As := []) (rest := []) (cR_thrown l D adR caR T n kc ko kv k 1) kL_73 hKR hPR 0 rfl rfl rfl rfl ⟨Nat.le_of_ble_eq_true rfl, Nat.le_of_ble_eq_true rfl⟩ rfl hl.1 rfl (Nat.le_of_ble_eq_true rfl) dL_law_859 ⟨by show _ ≤ 1051; omega, by show _ ≤ 9575; omega⟩ ?_
  refine lv_iload E.1 E.2.1 dL_law_862 (lv_at hl 1 rfl) ?_
  refine n_icmp_eq (tgt := 869) E dL_law_864 rfl (by decide) (by decide) (fun _ => ?_) (fun h => absurd rfl h)
  refine lv_iload E.1 E.2.1 dL_law_869 (lv_at hl 1 rfl) ?_
  refine n_if_ne (tgt := 885) E dL_law_871 rfl (by decide) (fun _ => ?_) (fun h => absurd h (by decide))
  refine lv_goto (tgt := 1105) E.1 E.2.1 dL_law_885 rfl ?_
  exact next _ _ _ ⟨T, n, kc, ko, kv, k, lo, hi, bw, bb, pk, 1, ov, hn128, hIK, hPk, hPX, hPR, hPO, hS⟩ (lv_sub hl [2, 3, 4, 5, 6] rfl)
set_option maxHeartbeats 4000000 in
set_option maxRecDepth 100000 in
theorem op_group2 {p : Program} {l : Launch} {e : Env} {s : State} {m : MethodId} {below : List Frame} {meth : Method} {c0 : Code} {b L : Nat} {xs : Nat → Int32} {D : va_G} {adX adR : Nat → Nat} {caX caR : Nat → ClassId} {ao : Nat} {co : ClassId} {sa : Nat → Nat} (C : LC p l s m c0 b L xs D adX caX adR caR ao co sa) (T : Nat → Nat → Int64) (n : Nat) (kc ko : Nat → Nat) (kv : Nat → Int64) (k : Nat) (lo hi : Nat → Int64) (bw bb pk : Nat → Nat) (cd : Nat) (ov : Nat → Int64) (hn128 : n ≤ 128) (hIK : iK kc ko k) (hPk : Pks T n lo hi bw bb) {H : Heap} {locs : List Loc} (hPX : va_P D c2 (wX adX caX T n kc ko kv k lo hi bw bb pk) H) (hPR : va_P D c2 (wR adR caR T n kc ko kv k cd) H) (hPO : va_P D c2 (wO ao co ov) H) (hS : va_S (fun q => s.heap.size ≤ q) s.heap H locs) {cells slots : Nat} (hcl : cells + 1 ≤ 1051 ∧ slots + 6 ≤ 9575) {i : Nat} (hi6 : i + 6 ≤ L) {ls : Array Slot} (hl : lv_has ls 8 (lvB b adX adR ao i)) {Q : State → Prop} (next : NX p l e s m below meth c0 b D adX caX adR caR ao co i cells slots Q) (c o w : Nat) (y : Int32) (hc : c < 4) (ho : o < 4) (hw : w < 5) (hy : y < 0 ∨ nI (ct (isF (ch T kc ko kv k) T c) n) ≤ y) (e1 : xs (i + 1) = nI c) (e2 : xs (i + 2) = y) (e3 : xs (i + 3) = nI w) (e4 : xs (i + 4) = nI o) : W p l e room_1 s m #[Value.ref b] below meth c0 H locs cells slots Q (F0 m 797 ls []) := by
  obtain ⟨E, hL, hX, hbl, hlt, hd, hKX, hKR, hKO, hZ⟩ := C
  have hiB := iB_of hPk
  have hctn := ct_le (ch T kc ko kv k) n
  refine lv_aload_n E.1 E.2.1 dL_law_797 rfl (lv_at hl 2 rfl) ?_
  refine lv_aload_n E.1 E.2.1 dL_law_798 rfl (lv_at hl 1 rfl) ?_
  refine lv_iload E.1 E.2.1 dL_law_799 (lv_at hl 0 rfl) ?_
  refine lv_iconst (v := nI 1) E.1 E.2.1 dL_law_801 rfl ?_
  refine n_iadd E dL_law_802 ?_
  refine s_ld E hX hbl hS hL (show i + 1 < L by omega) e1 dL_law_803 ?_
  refine lv_aload_n E.1 E.2.1 dL_law_804 rfl (lv_at hl 1 rfl) ?_
  refine lv_iload E.1 E.2.1 dL_law_805 (lv_at hl 0 rfl) ?_
  refine lv_iconst (v := nI 2) E.1 E.2.1 dL_law_807 rfl ?_
  refine n_iadd E dL_law_808 ?_
  refine s_ld E hX hbl hS hL (show i + 2 < L by omega) e2 dL_law_809 ?_
  refine lv_aload_n E.1 E.2.1 dL_law_810 rfl (lv_at hl 1 rfl) ?_
  refine lv_iload E.1 E.2.1 dL_law_811 (lv_at hl 0 rfl) ?_
  refine lv_iconst (v := nI 3) E.1 E.2.1 dL_law_813 rfl ?_
  refine n_iadd E dL_law_814 ?_
  refine s_ld E hX hbl hS hL (show i + 3 < L by omega) e3 dL_law_815 ?_
  refine lv_aload_n E.1 E.2.1 dL_law_816 rfl (lv_at hl 1 rfl) ?_
  refine lv_iload E.1 E.2.1 dL_law_817 (lv_at hl 0 rfl) ?_
  refine lv_iconst (v := nI 4) E.1 E.2.1 dL_law_819 rfl ?_
  refine n_iadd E dL_law_820 ?_
  refine s_ld E hX hbl hS hL (show i + 4 < L by omega) e4 dL_law_821 ?_
  refine lv_aload_n E.1 E.2.1 dL_law_822 rfl (lv_at hl 4 rfl) ?_
  refine l_wb (wx := wX adX caX T n kc ko kv k lo hi bw bb pk) (wr := wR adR caR T n kc ko kv k cd) E (As := [.ref (adX 0), .int (nI c), .int y, .int (nI w), .int (nI o), .ref ao]) (rest := []) (vL_group2 l D adX caX T n kc ko kv k lo hi bw bb pk ao co ov s.heap.size sa c o w y hIK hd.1 hn128 hiB hc ho hw hy hd.2.2.2.1 hlt hd.2.2.2.2.2.1) kL_118 hd rfl hKX hKO hZ hPX hPR hPO hS rfl rfl ⟨Nat.le_of_ble_eq_true rfl, Nat.le_of_ble_eq_true rfl⟩ rfl hl.1 rfl (Nat.le_of_ble_eq_true rfl) dL_law_823 ⟨by show _ ≤ 1051; omega, by show _ ≤ 9575; omega⟩ (fun z9 u9 H locs hp9 hPX hPR hPO hS => ?_)
  have hp9 : z9 = nI 2 := hp9
  subst hp9
  have hPX : va_P D c2 (wX adX caX T n kc ko kv k lo hi bw bb u9) H := hPX
  refine lv_istore (lv' := [(5, .int (nI 2)), (4, .int (nI i)), (0, .ref b), (1, .ref (adX 0)), (2, .ref (adR 0)), (3, .ref ao)]) E.1 E.2.1 dL_law_826 hl (by decide) rfl (fun ls hl => ?_)
  refine lv_aload_n E.1 E.2.1 dL_law_828 rfl (lv_at hl 4 rfl) ?_
  refine lv_aload_n E.1 E.2.1 dL_law_829 rfl (lv_at hl 2 rfl) ?_
  refine lv_iload E.1 E.2.1 dL_law_830 (lv_at hl 1 rfl) ?_
  refine lv_iconst (v := nI 1) E.1 E.2.1 dL_law_832 rfl ?_
  refine n_iadd E dL_law_833 ?_
  refine s_ld E hX hbl hS hL (show i + 1 < L by omega) e1 dL_law_834 ?_
  refine lv_aload_n E.1 E.2.1 dL_law_835 rfl (lv_at hl 2 rfl) ?_
  refine lv_iload E.1 E.2.1 dL_law_836 (lv_at hl 1 rfl) ?_
  refine lv_iconst (v := nI 2) E.1 E.2.1 dL_law_838 rfl ?_
  refine n_iadd E dL_law_839 ?_
  refine s_ld E hX hbl hS hL (show i + 2 < L by omega) e2 dL_law_840 ?_
  refine lv_aload_n E.1 E.2.1 dL_law_841 rfl (lv_at hl 2 rfl) ?_
  refine lv_iload E.1 E.2.1 dL_law_842 (lv_at hl 1 rfl) ?_
  refine lv_iconst (v := nI 3) E.1 E.2.1 dL_law_844 rfl ?_
  refine n_iadd E dL_law_845 ?_
  refine s_ld E hX hbl hS hL (show i + 3 < L by omega) e3 dL_law_846 ?_
  refine lv_aload_n E.1 E.2.1 dL_law_847 rfl (lv_at hl 2 rfl) ?_
  refine lv_iload E.1 E.2.1 dL_law_848 (lv_at hl 1 rfl) ?_
  refine lv_iconst (v := nI 4) E.1 E.2.1 dL_law_850 rfl ?_
  refine n_iadd E dL_law_851 ?_
  refine s_ld E hX hbl hS hL (show i + 4 < L by omega) e4 dL_law_852 ?_
  refine l_ml (wx := wX adX caX T n kc ko kv k lo hi bw bb u9) (wr := wR adR caR T n kc ko kv k cd) E (As := [.int (nI c), .int y, .int (nI w), .int (nI o)]) (rest := []) (cR_group2 l D adR caR T n kc ko kv k cd c o w y hd.2.1 hIK hn128 hc ho hw hy) kL_121 hd rfl hKR hPX hPR hPO hS rfl rfl rfl rfl ⟨Nat.le_of_ble_eq_true rfl, Nat.le_of_ble_eq_true rfl⟩ rfl hl.1 rfl (Nat.le_of_ble_eq_true rfl) dL_law_853 ⟨by show _ ≤ 1051; omega, by show _ ≤ 9575; omega⟩ (fun z8 u8 H locs hp8 hPX hPR hPO hS => ?_)
  have hPR : va_P D c2 (wR adR caR T n kc ko kv k 2) H := hPR
  refine lv_lstore (lv' := [(6, .long z8), (5, .int (nI 2)), (4, .int (nI i)), (0, .ref b), (1, .ref (adX 0)), (2, .ref (adR 0)), (3, .ref ao)]) E.1 E.2.1 dL_law_856 hl (by decide) rfl (fun ls hl => ?_)
  refine lv_aload_n E.1 E.2.1 dL_law_858 rfl (lv_at hl 5 rfl) ?_
  refine cV_i E (As := []) (rest := []) (cR_thrown l D adR caR T n kc ko kv k 2) kL_73 hKR hPR 0 rfl rfl rfl rfl ⟨Nat.le_of_ble_eq_true rfl, Nat.le_of_ble_eq_true rfl⟩ rfl hl.1 rfl (Nat.le_of_ble_eq_true rfl) dL_law_859 ⟨by show _ ≤ 1051; omega, by show _ ≤ 9575; omega⟩ ?_
  refine lv_iload E.1 E.2.1 dL_law_862 (lv_at hl 1 rfl) ?_
  refine n_icmp_eq (tgt := 869) E dL_law_864 rfl (by decide) (by decide) (fun _ => ?_) (fun h => absurd rfl h)
  refine lv_iload E.1 E.2.1 dL_law_869 (lv_at hl 1 rfl) ?_
  refine n_if_ne (tgt := 885) E dL_law_871 rfl (by decide) (fun _ => ?_) (fun h => absurd h (by decide))
  refine lv_goto (tgt := 1105) E.1 E.2.1 dL_law_885 rfl ?_
  exact next _ _ _ ⟨T, n, kc, ko, kv, k, lo, hi, bw, bb, u9, 2, ov, hn128, hIK, hPk, hPX, hPR, hPO, hS⟩ (lv_sub hl [2, 3, 4, 5, 6] rfl)
set_option maxHeartbeats 4000000 in
set_option maxRecDepth 100000 in
theorem op_pairs {p : Program} {l : Launch} {e : Env} {s : State} {m : MethodId} {below : List Frame} {meth : Method} {c0 : Code} {b L : Nat} {xs : Nat → Int32} {D : va_G} {adX adR : Nat → Nat} {caX caR : Nat → ClassId} {ao : Nat} {co : ClassId} {sa : Nat → Nat} (C : LC p l s m c0 b L xs D adX caX adR caR ao co sa) (T : Nat → Nat → Int64) (n : Nat) (kc ko : Nat → Nat) (kv : Nat → Int64) (k : Nat) (lo hi : Nat → Int64) (bw bb pk : Nat → Nat) (cd : Nat) (ov : Nat → Int64) (hn128 : n ≤ 128) (hIK : iK kc ko k) (hPk : Pks T n lo hi bw bb) {H : Heap} {locs : List Loc} (hPX : va_P D c2 (wX adX caX T n kc ko kv k lo hi bw bb pk) H) (hPR : va_P D c2 (wR adR caR T n kc ko kv k cd) H) (hPO : va_P D c2 (wO ao co ov) H) (hS : va_S (fun q => s.heap.size ≤ q) s.heap H locs) {cells slots : Nat} (hcl : cells + 1 ≤ 1051 ∧ slots + 6 ≤ 9575) {i : Nat} (hi6 : i + 6 ≤ L) {ls : Array Slot} (hl : lv_has ls 8 (lvB b adX adR ao i)) {Q : State → Prop} (next : NX p l e s m below meth c0 b D adX caX adR caR ao co i cells slots Q) (c o : Nat) (hc : c < 4) (ho : o < 4) (e1 : xs (i + 1) = nI c) (e2 : xs (i + 2) = nI o) : W p l e room_1 s m #[Value.ref b] below meth c0 H locs cells slots Q (F0 m 888 ls []) := by
  obtain ⟨E, hL, hX, hbl, hlt, hd, hKX, hKR, hKO, hZ⟩ := C
  have hiB := iB_of hPk
  have hctn := ct_le (ch T kc ko kv k) n
  refine lv_aload_n E.1 E.2.1 dL_law_888 rfl (lv_at hl 2 rfl) ?_
  refine lv_aload_n E.1 E.2.1 dL_law_889 rfl (lv_at hl 1 rfl) ?_
  refine lv_iload E.1 E.2.1 dL_law_890 (lv_at hl 0 rfl) ?_
  refine lv_iconst (v := nI 1) E.1 E.2.1 dL_law_892 rfl ?_
  refine n_iadd E dL_law_893 ?_
  refine s_ld E hX hbl hS hL (show i + 1 < L by omega) e1 dL_law_894 ?_
  refine lv_aload_n E.1 E.2.1 dL_law_895 rfl (lv_at hl 1 rfl) ?_
  refine lv_iload E.1 E.2.1 dL_law_896 (lv_at hl 0 rfl) ?_
  refine lv_iconst (v := nI 2) E.1 E.2.1 dL_law_898 rfl ?_
  refine n_iadd E dL_law_899 ?_
  refine s_ld E hX hbl hS hL (show i + 2 < L by omega) e2 dL_law_900 ?_
  refine lv_aload_n E.1 E.2.1 dL_law_901 rfl (lv_at hl 4 rfl) ?_
  refine l_wg (wx := wX adX caX T n kc ko kv k lo hi bw bb pk) (wr := wR adR caR T n kc ko kv k cd) E (As := [.ref (adX 0), .int (nI c), .int (nI o), .ref ao]) (rest := []) (wL_pairs l D adX caX T n kc ko kv k lo hi bw bb pk ao co ov c o hIK hd.1 hn128 hiB hc ho hd.2.2.2.1) kL_122 hd rfl hKX hKO hPX hPR hPO hS rfl rfl ⟨Nat.le_of_ble_eq_true rfl, Nat.le_of_ble_eq_true rfl⟩ rfl hl.1 rfl (Nat.le_of_ble_eq_true rfl) dL_law_902 ⟨by show _ ≤ 1051; omega, by show _ ≤ 9575; omega⟩ (fun z9 u9 x9 H locs hp9 hPX hPR hPO hS => ?_)
  obtain ⟨rfl, zz, hx9, hz9, hE9⟩ := hp9
  have hx9 : x9 = Int32.toInt64 zz := hx9
  subst hx9
  have hE9 : En u9 (ch T kc ko kv k) n := hE9
  have hz9 := hz9.trans (congrArg nI (pairs_eq hE9 (fun t u => decide (T u c = T t o)) (Nat.le_refl n)))
  have hz9 : zz = nI (sn (fun t => if (ch T kc ko kv k) t then ct (fun u => (ch T kc ko kv k) u && decide (T u c = T t o)) t else 0) n) := hz9
  subst hz9
  have hPX : va_P D c2 (wX adX caX T n kc ko kv k lo hi bw bb u9) H := hPX
  refine lv_istore (lv' := [(5, .int (nI 0)), (4, .int (nI i)), (0, .ref b), (1, .ref (adX 0)), (2, .ref (adR 0)), (3, .ref ao)]) E.1 E.2.1 dL_law_905 hl (by decide) rfl (fun ls hl => ?_)
  refine lv_aload_n E.1 E.2.1 dL_law_907 rfl (lv_at hl 4 rfl) ?_
  refine lv_aload_n E.1 E.2.1 dL_law_908 rfl (lv_at hl 2 rfl) ?_
  refine lv_iload E.1 E.2.1 dL_law_909 (lv_at hl 1 rfl) ?_
  refine lv_iconst (v := nI 1) E.1 E.2.1 dL_law_911 rfl ?_
  refine n_iadd E dL_law_912 ?_
  refine s_ld E hX hbl hS hL (show i + 1 < L by omega) e1 dL_law_913 ?_
  refine lv_aload_n E.1 E.2.1 dL_law_914 rfl (lv_at hl 2 rfl) ?_
  refine lv_iload E.1 E.2.1 dL_law_915 (lv_at hl 1 rfl) ?_
  refine lv_iconst (v := nI 2) E.1 E.2.1 dL_law_917 rfl ?_
  refine n_iadd E dL_law_918 ?_
  refine s_ld E hX hbl hS hL (show i + 2 < L by omega) e2 dL_law_919 ?_
  refine l_mi (wx := wX adX caX T n kc ko kv k lo hi bw bb u9) (wr := wR adR caR T n kc ko kv k cd) E (As := [.int (nI c), .int (nI o)]) (rest := []) (cR_pairs l D adR caR T n kc ko kv k cd c o hd.2.1 hIK hn128 hc ho) kL_124 hd rfl hKR hPX hPR hPO hS rfl rfl rfl rfl ⟨Nat.le_of_ble_eq_true rfl, Nat.le_of_ble_eq_true rfl⟩ rfl hl.1 rfl (Nat.le_of_ble_eq_true rfl) dL_law_920 ⟨by show _ ≤ 1051; omega, by show _ ≤ 9575; omega⟩ (fun z8 u8 H locs hp8 hPX hPR hPO hS => ?_)
  have hp8 : z8 = nI (sn (fun t => if (ch T kc ko kv k) t then ct (fun u => (ch T kc ko kv k) u && decide (T u c = T t o)) t else 0) n) := hp8
  subst hp8
  have hPR : va_P D c2 (wR adR caR T n kc ko kv k 0) H := hPR
  refine lv_istore (lv' := [(6, .int (nI (sn (fun t => if (ch T kc ko kv k) t then ct (fun u => (ch T kc ko kv k) u && decide (T u c = T t o)) t else 0) n))), (5, .int (nI 0)), (4, .int (nI i)), (0, .ref b), (1, .ref (adX 0)), (2, .ref (adR 0)), (3, .ref ao)]) E.1 E.2.1 dL_law_923 hl (by decide) rfl (fun ls hl => ?_)
  refine lv_aload_n E.1 E.2.1 dL_law_925 rfl (lv_at hl 5 rfl) ?_
  refine cV_i E (As := []) (rest := []) (cR_thrown l D adR caR T n kc ko kv k 0) kL_73 hKR hPR 0 rfl rfl rfl rfl ⟨Nat.le_of_ble_eq_true rfl, Nat.le_of_ble_eq_true rfl⟩ rfl hl.1 rfl (Nat.le_of_ble_eq_true rfl) dL_law_926 ⟨by show _ ≤ 1051; omega, by show _ ≤ 9575; omega⟩ ?_
  refine lv_iload E.1 E.2.1 dL_law_929 (lv_at hl 1 rfl) ?_
  refine n_icmp_eq (tgt := 936) E dL_law_931 rfl (by decide) (by decide) (fun _ => ?_) (fun h => absurd rfl h)
  refine lv_iload E.1 E.2.1 dL_law_936 (lv_at hl 1 rfl) ?_
  refine n_if_ne (tgt := 953) E dL_law_938 rfl (by decide) (fun h => absurd h (by decide)) (fun _ => ?_)
  refine lv_aload_n E.1 E.2.1 dL_law_941 rfl (lv_at hl 6 rfl) ?_
  refine lv_iconst (v := nI 0) E.1 E.2.1 dL_law_942 rfl ?_
  refine n_lald E hKO hPO 0 0 rfl rfl (by decide) (by decide) dL_law_943 ?_
  refine lv_iload E.1 E.2.1 dL_law_944 (lv_at hl 0 rfl) ?_
  refine lv_i2l E.1 E.2.1 dL_law_946 rfl ?_
  refine l_if_eq (tgt := 953) E dL_law_947 dL_law_948 rfl (fun _ => ?_) (fun hne => (hne fS_s).elim)
  refine lv_goto (tgt := 1105) E.1 E.2.1 dL_law_953 rfl ?_
  refine W.widen (k := cells + 1) (n := slots + 6) (by omega) (by omega) ?_
  exact next _ _ _ ⟨T, n, kc, ko, kv, k, lo, hi, bw, bb, u9, 0, fS ov 0 (Int32.toInt64 (nI (sn (fun t => if (ch T kc ko kv k) t then ct (fun u => (ch T kc ko kv k) u && decide (T u c = T t o)) t else 0) n))), hn128, hIK, hPk, hPX, hPR, hPO, hS⟩ (lv_sub hl [2, 3, 4, 5, 6] rfl)
set_option maxHeartbeats 4000000 in
set_option maxRecDepth 100000 in
theorem op_pairs1 {p : Program} {l : Launch} {e : Env} {s : State} {m : MethodId} {below : List Frame} {meth : Method} {c0 : Code} {b L : Nat} {xs : Nat → Int32} {D : va_G} {adX adR : Nat → Nat} {caX caR : Nat → ClassId} {ao : Nat} {co : ClassId} {sa : Nat → Nat} (C : LC p l s m c0 b L xs D adX caX adR caR ao co sa) (T : Nat → Nat → Int64) (n : Nat) (kc ko : Nat → Nat) (kv : Nat → Int64) (k : Nat) (lo hi : Nat → Int64) (bw bb pk : Nat → Nat) (cd : Nat) (ov : Nat → Int64) (hn128 : n ≤ 128) (hIK : iK kc ko k) (hPk : Pks T n lo hi bw bb) {H : Heap} {locs : List Loc} (hPX : va_P D c2 (wX adX caX T n kc ko kv k lo hi bw bb pk) H) (hPR : va_P D c2 (wR adR caR T n kc ko kv k cd) H) (hPO : va_P D c2 (wO ao co ov) H) (hS : va_S (fun q => s.heap.size ≤ q) s.heap H locs) {cells slots : Nat} (hcl : cells + 1 ≤ 1051 ∧ slots + 6 ≤ 9575) {i : Nat} (hi6 : i + 6 ≤ L) {ls : Array Slot} (hl : lv_has ls 8 (lvB b adX adR ao i)) {Q : State → Prop} (next : NX p l e s m below meth c0 b D adX caX adR caR ao co i cells slots Q) (x y : Int32) (hx : isC x = false) (hx2 : x < 0 ∨ nI 4 ≤ x) (e1 : xs (i + 1) = x) (e2 : xs (i + 2) = y) : W p l e room_1 s m #[Value.ref b] below meth c0 H locs cells slots Q (F0 m 888 ls []) := by
  obtain ⟨E, hL, hX, hbl, hlt, hd, hKX, hKR, hKO, hZ⟩ := C
  have hiB := iB_of hPk
  have hctn := ct_le (ch T kc ko kv k) n
  refine lv_aload_n E.1 E.2.1 dL_law_888 rfl (lv_at hl 2 rfl) ?_
  refine lv_aload_n E.1 E.2.1 dL_law_889 rfl (lv_at hl 1 rfl) ?_
  refine lv_iload E.1 E.2.1 dL_law_890 (lv_at hl 0 rfl) ?_
  refine lv_iconst (v := nI 1) E.1 E.2.1 dL_law_892 rfl ?_
  refine n_iadd E dL_law_893 ?_
  refine s_ld E hX hbl hS hL (show i + 1 < L by omega) e1 dL_law_894 ?_
  refine lv_aload_n E.1 E.2.1 dL_law_895 rfl (lv_at hl 1 rfl) ?_
  refine lv_iload E.1 E.2.1 dL_law_896 (lv_at hl 0 rfl) ?_
  refine lv_iconst (v := nI 2) E.1 E.2.1 dL_law_898 rfl ?_
  refine n_iadd E dL_law_899 ?_
  refine s_ld E hX hbl hS hL (show i + 2 < L by omega) e2 dL_law_900 ?_
  refine lv_aload_n E.1 E.2.1 dL_law_901 rfl (lv_at hl 4 rfl) ?_
  refine l_wb (wx := wX adX caX T n kc ko kv k lo hi bw bb pk) (wr := wR adR caR T n kc ko kv k cd) E (As := [.ref (adX 0), .int x, .int y, .ref ao]) (rest := []) (vL_pairs1 l D adX caX T n kc ko kv k lo hi bw bb pk ao co ov s.heap.size sa x y hx2 hd.2.2.2.1 hlt hd.2.2.2.2.2.1) kL_122 hd rfl hKX hKO hZ hPX hPR hPO hS rfl rfl ⟨Nat.le_of_ble_eq_true rfl, Nat.le_of_ble_eq_true rfl⟩ rfl hl.1 rfl (Nat.le_of_ble_eq_true rfl) dL_law_902 ⟨by show _ ≤ 1051; omega, by show _ ≤ 9575; omega⟩ (fun z9 u9 H locs hp9 hPX hPR hPO hS => ?_)
  have hp9 : z9 = nI 1 := hp9
  subst hp9
  have hPX : va_P D c2 (wX adX caX T n kc ko kv k lo hi bw bb pk) H := hPX
  refine lv_istore (lv' := [(5, .int (nI 1)), (4, .int (nI i)), (0, .ref b), (1, .ref (adX 0)), (2, .ref (adR 0)), (3, .ref ao)]) E.1 E.2.1 dL_law_905 hl (by decide) rfl (fun ls hl => ?_)
  refine lv_aload_n E.1 E.2.1 dL_law_907 rfl (lv_at hl 4 rfl) ?_
  refine lv_aload_n E.1 E.2.1 dL_law_908 rfl (lv_at hl 2 rfl) ?_
  refine lv_iload E.1 E.2.1 dL_law_909 (lv_at hl 1 rfl) ?_
  refine lv_iconst (v := nI 1) E.1 E.2.1 dL_law_911 rfl ?_
  refine n_iadd E dL_law_912 ?_
  refine s_ld E hX hbl hS hL (show i + 1 < L by omega) e1 dL_law_913 ?_
  refine lv_aload_n E.1 E.2.1 dL_law_914 rfl (lv_at hl 2 rfl) ?_
  refine lv_iload E.1 E.2.1 dL_law_915 (lv_at hl 1 rfl) ?_
  refine lv_iconst (v := nI 2) E.1 E.2.1 dL_law_917 rfl ?_
  refine n_iadd E dL_law_918 ?_
  refine s_ld E hX hbl hS hL (show i + 2 < L by omega) e2 dL_law_919 ?_
  refine l_mi (wx := wX adX caX T n kc ko kv k lo hi bw bb pk) (wr := wR adR caR T n kc ko kv k cd) E (As := [.int x, .int y]) (rest := []) (cR_pairs1 l D adR caR T n kc ko kv k cd x y hd.2.1 hn128 hx) kL_124 hd rfl hKR hPX hPR hPO hS rfl rfl rfl rfl ⟨Nat.le_of_ble_eq_true rfl, Nat.le_of_ble_eq_true rfl⟩ rfl hl.1 rfl (Nat.le_of_ble_eq_true rfl) dL_law_920 ⟨by show _ ≤ 1051; omega, by show _ ≤ 9575; omega⟩ (fun z8 u8 H locs hp8 hPX hPR hPO hS => ?_)
  have hPR : va_P D c2 (wR adR caR T n kc ko kv k 1) H := hPR
  refine lv_istore (lv' := [(6, .int z8), (5, .int (nI 1)), (4, .int (nI i)), (0, .ref b), (1, .ref (adX 0)), (2, .ref (adR 0)), (3, .ref ao)]) E.1 E.2.1 dL_law_923 hl (by decide) rfl (fun ls hl => ?_)
  refine lv_aload_n E.1 E.2.1 dL_law_925 rfl (lv_at hl 5 rfl) ?_
  refine cV_i E (As := []) (rest := []) (cR_thrown l D adR caR T n kc ko kv k 1) kL_73 hKR hPR 0 rfl rfl rfl rfl ⟨Nat.le_of_ble_eq_true rfl, Nat.le_of_ble_eq_true rfl⟩ rfl hl.1 rfl (Nat.le_of_ble_eq_true rfl) dL_law_926 ⟨by show _ ≤ 1051; omega, by show _ ≤ 9575; omega⟩ ?_
  refine lv_iload E.1 E.2.1 dL_law_929 (lv_at hl 1 rfl) ?_
  refine n_icmp_eq (tgt := 936) E dL_law_931 rfl (by decide) (by decide) (fun _ => ?_) (fun h => absurd rfl h)
  refine lv_iload E.1 E.2.1 dL_law_936 (lv_at hl 1 rfl) ?_
  refine n_if_ne (tgt := 953) E dL_law_938 rfl (by decide) (fun _ => ?_) (fun h => absurd h (by decide))
  refine lv_goto (tgt := 1105) E.1 E.2.1 dL_law_953 rfl ?_
  exact next _ _ _ ⟨T, n, kc, ko, kv, k, lo, hi, bw, bb, pk, 1, ov, hn128, hIK, hPk, hPX, hPR, hPO, hS⟩ (lv_sub hl [2, 3, 4, 5, 6] rfl)
set_option maxHeartbeats 4000000 in
set_option maxRecDepth 100000 in
theorem op_pairs1o {p : Program} {l : Launch} {e : Env} {s : State} {m : MethodId} {below : List Frame} {meth : Method} {c0 : Code} {b L : Nat} {xs : Nat → Int32} {D : va_G} {adX adR : Nat → Nat} {caX caR : Nat → ClassId} {ao : Nat} {co : ClassId} {sa : Nat → Nat} (C : LC p l s m c0 b L xs D adX caX adR caR ao co sa) (T : Nat → Nat → Int64) (n : Nat) (kc ko : Nat → Nat) (kv : Nat → Int64) (k : Nat) (lo hi : Nat → Int64) (bw bb pk : Nat → Nat) (cd : Nat) (ov : Nat → Int64) (hn128 : n ≤ 128) (hIK : iK kc ko k) (hPk : Pks T n lo hi bw bb) {H : Heap} {locs : List Loc} (hPX : va_P D c2 (wX adX caX T n kc ko kv k lo hi bw bb pk) H) (hPR : va_P D c2 (wR adR caR T n kc ko kv k cd) H) (hPO : va_P D c2 (wO ao co ov) H) (hS : va_S (fun q => s.heap.size ≤ q) s.heap H locs) {cells slots : Nat} (hcl : cells + 1 ≤ 1051 ∧ slots + 6 ≤ 9575) {i : Nat} (hi6 : i + 6 ≤ L) {ls : Array Slot} (hl : lv_has ls 8 (lvB b adX adR ao i)) {Q : State → Prop} (next : NX p l e s m below meth c0 b D adX caX adR caR ao co i cells slots Q) (c : Nat) (y : Int32) (hc : c < 4) (hy : isC y = false) (hy2 : y < 0 ∨ nI 4 ≤ y) (e1 : xs (i + 1) = nI c) (e2 : xs (i + 2) = y) : W p l e room_1 s m #[Value.ref b] below meth c0 H locs cells slots Q (F0 m 888 ls []) := by
  obtain ⟨E, hL, hX, hbl, hlt, hd, hKX, hKR, hKO, hZ⟩ := C
  have hiB := iB_of hPk
  have hctn := ct_le (ch T kc ko kv k) n
  refine lv_aload_n E.1 E.2.1 dL_law_888 rfl (lv_at hl 2 rfl) ?_
  refine lv_aload_n E.1 E.2.1 dL_law_889 rfl (lv_at hl 1 rfl) ?_
  refine lv_iload E.1 E.2.1 dL_law_890 (lv_at hl 0 rfl) ?_
  refine lv_iconst (v := nI 1) E.1 E.2.1 dL_law_892 rfl ?_
  refine n_iadd E dL_law_893 ?_
  refine s_ld E hX hbl hS hL (show i + 1 < L by omega) e1 dL_law_894 ?_
  refine lv_aload_n E.1 E.2.1 dL_law_895 rfl (lv_at hl 1 rfl) ?_
  refine lv_iload E.1 E.2.1 dL_law_896 (lv_at hl 0 rfl) ?_
  refine lv_iconst (v := nI 2) E.1 E.2.1 dL_law_898 rfl ?_
  refine n_iadd E dL_law_899 ?_
  refine s_ld E hX hbl hS hL (show i + 2 < L by omega) e2 dL_law_900 ?_
  refine lv_aload_n E.1 E.2.1 dL_law_901 rfl (lv_at hl 4 rfl) ?_
  refine l_wb (wx := wX adX caX T n kc ko kv k lo hi bw bb pk) (wr := wR adR caR T n kc ko kv k cd) E (As := [.ref (adX 0), .int (nI c), .int y, .ref ao]) (rest := []) (vL_pairs1o l D adX caX T n kc ko kv k lo hi bw bb pk ao co ov s.heap.size sa c y hc hy2 hd.2.2.2.1 hlt hd.2.2.2.2.2.1) kL_122 hd rfl hKX hKO hZ hPX hPR hPO hS rfl rfl ⟨Nat.le_of_ble_eq_true rfl, Nat.le_of_ble_eq_true rfl⟩ rfl hl.1 rfl (Nat.le_of_ble_eq_true rfl) dL_law_902 ⟨by show _ ≤ 1051; omega, by show _ ≤ 9575; omega⟩ (fun z9 u9 H locs hp9 hPX hPR hPO hS => ?_)
  have hp9 : z9 = nI 1 := hp9
  subst hp9
  have hPX : va_P D c2 (wX adX caX T n kc ko kv k lo hi bw bb pk) H := hPX
  refine lv_istore (lv' := [(5, .int (nI 1)), (4, .int (nI i)), (0, .ref b), (1, .ref (adX 0)), (2, .ref (adR 0)), (3, .ref ao)]) E.1 E.2.1 dL_law_905 hl (by decide) rfl (fun ls hl => ?_)
  refine lv_aload_n E.1 E.2.1 dL_law_907 rfl (lv_at hl 4 rfl) ?_
  refine lv_aload_n E.1 E.2.1 dL_law_908 rfl (lv_at hl 2 rfl) ?_
  refine lv_iload E.1 E.2.1 dL_law_909 (lv_at hl 1 rfl) ?_
  refine lv_iconst (v := nI 1) E.1 E.2.1 dL_law_911 rfl ?_
  refine n_iadd E dL_law_912 ?_
  refine s_ld E hX hbl hS hL (show i + 1 < L by omega) e1 dL_law_913 ?_
  refine lv_aload_n E.1 E.2.1 dL_law_914 rfl (lv_at hl 2 rfl) ?_
  refine lv_iload E.1 E.2.1 dL_law_915 (lv_at hl 1 rfl) ?_
  refine lv_iconst (v := nI 2) E.1 E.2.1 dL_law_917 rfl ?_
  refine n_iadd E dL_law_918 ?_
  refine s_ld E hX hbl hS hL (show i + 2 < L by omega) e2 dL_law_919 ?_
  refine l_mi (wx := wX adX caX T n kc ko kv k lo hi bw bb pk) (wr := wR adR caR T n kc ko kv k cd) E (As := [.int (nI c), .int y]) (rest := []) (cR_pairs1o l D adR caR T n kc ko kv k cd c y hd.2.1 hn128 hc hy) kL_124 hd rfl hKR hPX hPR hPO hS rfl rfl rfl rfl ⟨Nat.le_of_ble_eq_true rfl, Nat.le_of_ble_eq_true rfl⟩ rfl hl.1 rfl (Nat.le_of_ble_eq_true rfl) dL_law_920 ⟨by show _ ≤ 1051; omega, by show _ ≤ 9575; omega⟩ (fun z8 u8 H locs hp8 hPX hPR hPO hS => ?_)
  have hPR : va_P D c2 (wR adR caR T n kc ko kv k 1) H := hPR
  refine lv_istore (lv' := [(6, .int z8), (5, .int (nI 1)), (4, .int (nI i)), (0, .ref b), (1, .ref (adX 0)), (2, .ref (adR 0)), (3, .ref ao)]) E.1 E.2.1 dL_law_923 hl (by decide) rfl (fun ls hl => ?_)
  refine lv_aload_n E.1 E.2.1 dL_law_925 rfl (lv_at hl 5 rfl) ?_
  refine cV_i E (As := []) (rest := []) (cR_thrown l D adR caR T n kc ko kv k 1) kL_73 hKR hPR 0 rfl rfl rfl rfl ⟨Nat.le_of_ble_eq_true rfl, Nat.le_of_ble_eq_true rfl⟩ rfl hl.1 rfl (Nat.le_of_ble_eq_true rfl) dL_law_926 ⟨by show _ ≤ 1051; omega, by show _ ≤ 9575; omega⟩ ?_
  refine lv_iload E.1 E.2.1 dL_law_929 (lv_at hl 1 rfl) ?_
  refine n_icmp_eq (tgt := 936) E dL_law_931 rfl (by decide) (by decide) (fun _ => ?_) (fun h => absurd rfl h)
  refine lv_iload E.1 E.2.1 dL_law_936 (lv_at hl 1 rfl) ?_
  refine n_if_ne (tgt := 953) E dL_law_938 rfl (by decide) (fun _ => ?_) (fun h => absurd h (by decide))
  refine lv_goto (tgt := 1105) E.1 E.2.1 dL_law_953 rfl ?_
  exact next _ _ _ ⟨T, n, kc, ko, kv, k, lo, hi, bw, bb, pk, 1, ov, hn128, hIK, hPk, hPX, hPR, hPO, hS⟩ (lv_sub hl [2, 3, 4, 5, 6] rfl)
set_option maxHeartbeats 4000000 in
set_option maxRecDepth 100000 in
theorem op_way {p : Program} {l : Launch} {e : Env} {s : State} {m : MethodId} {below : List Frame} {meth : Method} {c0 : Code} {b L : Nat} {xs : Nat → Int32} {D : va_G} {adX adR : Nat → Nat} {caX caR : Nat → ClassId} {ao : Nat} {co : ClassId} {sa : Nat → Nat} (C : LC p l s m c0 b L xs D adX caX adR caR ao co sa) (T : Nat → Nat → Int64) (n : Nat) (kc ko : Nat → Nat) (kv : Nat → Int64) (k : Nat) (lo hi : Nat → Int64) (bw bb pk : Nat → Nat) (cd : Nat) (ov : Nat → Int64) (hn128 : n ≤ 128) (hIK : iK kc ko k) (hPk : Pks T n lo hi bw bb) {H : Heap} {locs : List Loc} (hPX : va_P D c2 (wX adX caX T n kc ko kv k lo hi bw bb pk) H) (hPR : va_P D c2 (wR adR caR T n kc ko kv k cd) H) (hPO : va_P D c2 (wO ao co ov) H) (hS : va_S (fun q => s.heap.size ≤ q) s.heap H locs) {cells slots : Nat} (hcl : cells + 1 ≤ 1051 ∧ slots + 6 ≤ 9575) {i : Nat} (hi6 : i + 6 ≤ L) {ls : Array Slot} (hl : lv_has ls 8 (lvB b adX adR ao i)) {Q : State → Prop} (next : NX p l e s m below meth c0 b D adX caX adR caR ao co i cells slots Q) (d c : Nat) (hd0 : d < n / 16) (hc : c < 4) (e1 : xs (i + 1) = nI d) (e2 : xs (i + 2) = nI c) : W p l e room_1 s m #[Value.ref b] below meth c0 H locs cells slots Q (F0 m 956 ls []) := by
  obtain ⟨E, hL, hX, hbl, hlt, hd, hKX, hKR, hKO, hZ⟩ := C
  have hiB := iB_of hPk
  have hctn := ct_le (ch T kc ko kv k) n
  refine lv_aload_n E.1 E.2.1 dL_law_956 rfl (lv_at hl 2 rfl) ?_
  refine lv_aload_n E.1 E.2.1 dL_law_957 rfl (lv_at hl 1 rfl) ?_
  refine lv_iload E.1 E.2.1 dL_law_958 (lv_at hl 0 rfl) ?_
  refine lv_iconst (v := nI 1) E.1 E.2.1 dL_law_960 rfl ?_
  refine n_iadd E dL_law_961 ?_
  refine s_ld E hX hbl hS hL (show i + 1 < L by omega) e1 dL_law_962 ?_
  refine lv_aload_n E.1 E.2.1 dL_law_963 rfl (lv_at hl 1 rfl) ?_
  refine lv_iload E.1 E.2.1 dL_law_964 (lv_at hl 0 rfl) ?_
  refine lv_iconst (v := nI 2) E.1 E.2.1 dL_law_966 rfl ?_
  refine n_iadd E dL_law_967 ?_
  refine s_ld E hX hbl hS hL (show i + 2 < L by omega) e2 dL_law_968 ?_
  refine lv_aload_n E.1 E.2.1 dL_law_969 rfl (lv_at hl 4 rfl) ?_
  refine l_wg (S := Unit) (w1 := fun _ => wX adX caX T n kc ko kv k lo hi bw bb pk) (wx := wX adX caX T n kc ko kv k lo hi bw bb pk) (wr := wR adR caR T n kc ko kv k cd) E (As := [.ref (adX 0), .int (nI d), .int (nI c), .ref ao]) (rest := []) (wL_way l D adX caX T n kc ko kv k lo hi bw bb pk ao co ov d c hn128 hd0 hc hd.2.2.2.1) kL_125 hd rfl hKX hKO hPX hPR hPO hS rfl rfl ⟨Nat.le_of_ble_eq_true rfl, Nat.le_of_ble_eq_true rfl⟩ rfl hl.1 rfl (Nat.le_of_ble_eq_true rfl) dL_law_970 ⟨by show _ ≤ 1051; omega, by show _ ≤ 9575; omega⟩ (fun z9 u9 x9 H locs hp9 hPX hPR hPO hS => ?_)
  obtain ⟨rfl, hx9⟩ := hp9
  have hx9 : x9 = Int32.toInt64 (nI (bw (d * 4 + c))) := hx9
  rw [(hPk d c hd0 hc).2.2.1, ← (bW_pck (xb T d c) (cb c)).1] at hx9
  subst hx9
  have hPX : va_P D c2 (wX adX caX T n kc ko kv k lo hi bw bb pk) H := hPX
  refine lv_istore (lv' := [(5, .int (nI 0)), (4, .int (nI i)), (0, .ref b), (1, .ref (adX 0)), (2, .ref (adR 0)), (3, .ref ao)]) E.1 E.2.1 dL_law_973 hl (by decide) rfl (fun ls hl => ?_)
  refine lv_aload_n E.1 E.2.1 dL_law_975 rfl (lv_at hl 4 rfl) ?_
  refine lv_aload_n E.1 E.2.1 dL_law_976 rfl (lv_at hl 2 rfl) ?_
  refine lv_iload E.1 E.2.1 dL_law_977 (lv_at hl 1 rfl) ?_
  refine lv_iconst (v := nI 1) E.1 E.2.1 dL_law_979 rfl ?_
  refine n_iadd E dL_law_980 ?_
  refine s_ld E hX hbl hS hL (show i + 1 < L by omega) e1 dL_law_981 ?_
  refine lv_aload_n E.1 E.2.1 dL_law_982 rfl (lv_at hl 2 rfl) ?_
  refine lv_iload E.1 E.2.1 dL_law_983 (lv_at hl 1 rfl) ?_
  refine lv_iconst (v := nI 2) E.1 E.2.1 dL_law_985 rfl ?_
  refine n_iadd E dL_law_986 ?_
  refine s_ld E hX hbl hS hL (show i + 2 < L by omega) e2 dL_law_987 ?_
  refine l_mi (wx := wX adX caX T n kc ko kv k lo hi bw bb pk) (wr := wR adR caR T n kc ko kv k cd) E (As := [.int (nI d), .int (nI c)]) (rest := []) (cR_way l D adR caR T n kc ko kv k cd d c hd.2.1 hn128 hd0 hc) kL_127 hd rfl hKR hPX hPR hPO hS rfl rfl rfl rfl ⟨Nat.le_of_ble_eq_true rfl, Nat.le_of_ble_eq_true rfl⟩ rfl hl.1 rfl (Nat.le_of_ble_eq_true rfl) dL_law_988 ⟨by show _ ≤ 1051; omega, by show _ ≤ 9575; omega⟩ (fun z8 u8 H locs hp8 hPX hPR hPO hS => ?_)
  have hp8 : z8 = nI (bW (xb T d c) (cb c) 3) := hp8
  subst hp8
  have hPR : va_P D c2 (wR adR caR T n kc ko kv k 0) H := hPR
  refine lv_istore (lv' := [(6, .int (nI (bW (xb T d c) (cb c) 3))), (5, .int (nI 0)), (4, .int (nI i)), (0, .ref b), (1, .ref (adX 0)), (2, .ref (adR 0)), (3, .ref ao)]) E.1 E.2.1 dL_law_991 hl (by decide) rfl (fun ls hl => ?_)
  refine lv_aload_n E.1 E.2.1 dL_law_993 rfl (lv_at hl 5 rfl) ?_
  refine cV_i E (As := []) (rest := []) (cR_thrown l D adR caR T n kc ko kv k 0) kL_73 hKR hPR 0 rfl rfl rfl rfl ⟨Nat.le_of_ble_eq_true rfl, Nat.le_of_ble_eq_true rfl⟩ rfl hl.1 rfl (Nat.le_of_ble_eq_true rfl) dL_law_994 ⟨by show _ ≤ 1051; omega, by show _ ≤ 9575; omega⟩ ?_
  refine lv_iload E.1 E.2.1 dL_law_997 (lv_at hl 1 rfl) ?_
  refine n_icmp_eq (tgt := 1004) E dL_law_999 rfl (by decide) (by decide) (fun _ => ?_) (fun h => absurd rfl h)
  refine lv_iload E.1 E.2.1 dL_law_1004 (lv_at hl 1 rfl) ?_
  refine n_if_ne (tgt := 1021) E dL_law_1006 rfl (by decide) (fun h => absurd h (by decide)) (fun _ => ?_)
  refine lv_aload_n E.1 E.2.1 dL_law_1009 rfl (lv_at hl 6 rfl) ?_
  refine lv_iconst (v := nI 0) E.1 E.2.1 dL_law_1010 rfl ?_
  refine n_lald E hKO hPO 0 0 rfl rfl (by decide) (by decide) dL_law_1011 ?_
  refine lv_iload E.1 E.2.1 dL_law_1012 (lv_at hl 0 rfl) ?_
  refine lv_i2l E.1 E.2.1 dL_law_1014 rfl ?_
  refine l_if_eq (tgt := 1021) E dL_law_1015 dL_law_1016 rfl (fun _ => ?_) (fun hne => (hne fS_s).elim)
  refine lv_goto (tgt := 1105) E.1 E.2.1 dL_law_1021 rfl ?_
  refine W.widen (k := cells + 1) (n := slots + 6) (by omega) (by omega) ?_
  exact next _ _ _ ⟨T, n, kc, ko, kv, k, lo, hi, bw, bb, pk, 0, fS ov 0 (Int32.toInt64 (nI (bW (xb T d c) (cb c) 3))), hn128, hIK, hPk, hPX, hPR, hPO, hS⟩ (lv_sub hl [2, 3, 4, 5, 6] rfl)
set_option maxHeartbeats 4000000 in
set_option maxRecDepth 100000 in
theorem op_way1 {p : Program} {l : Launch} {e : Env} {s : State} {m : MethodId} {below : List Frame} {meth : Method} {c0 : Code} {b L : Nat} {xs : Nat → Int32} {D : va_G} {adX adR : Nat → Nat} {caX caR : Nat → ClassId} {ao : Nat} {co : ClassId} {sa : Nat → Nat} (C : LC p l s m c0 b L xs D adX caX adR caR ao co sa) (T : Nat → Nat → Int64) (n : Nat) (kc ko : Nat → Nat) (kv : Nat → Int64) (k : Nat) (lo hi : Nat → Int64) (bw bb pk : Nat → Nat) (cd : Nat) (ov : Nat → Int64) (hn128 : n ≤ 128) (hIK : iK kc ko k) (hPk : Pks T n lo hi bw bb) {H : Heap} {locs : List Loc} (hPX : va_P D c2 (wX adX caX T n kc ko kv k lo hi bw bb pk) H) (hPR : va_P D c2 (wR adR caR T n kc ko kv k cd) H) (hPO : va_P D c2 (wO ao co ov) H) (hS : va_S (fun q => s.heap.size ≤ q) s.heap H locs) {cells slots : Nat} (hcl : cells + 1 ≤ 1051 ∧ slots + 6 ≤ 9575) {i : Nat} (hi6 : i + 6 ≤ L) {ls : Array Slot} (hl : lv_has ls 8 (lvB b adX adR ao i)) {Q : State → Prop} (next : NX p l e s m below meth c0 b D adX caX adR caR ao co i cells slots Q) (y x : Int32) (hx : isC x = false) (hx2 : x < 0 ∨ nI 4 ≤ x) (e1 : xs (i + 1) = y) (e2 : xs (i + 2) = x) : W p l e room_1 s m #[Value.ref b] below meth c0 H locs cells slots Q (F0 m 956 ls []) := by
  obtain ⟨E, hL, hX, hbl, hlt, hd, hKX, hKR, hKO, hZ⟩ := C
  have hiB := iB_of hPk
  have hctn := ct_le (ch T kc ko kv k) n
  refine lv_aload_n E.1 E.2.1 dL_law_956 rfl (lv_at hl 2 rfl) ?_
  refine lv_aload_n E.1 E.2.1 dL_law_957 rfl (lv_at hl 1 rfl) ?_
  refine lv_iload E.1 E.2.1 dL_law_958 (lv_at hl 0 rfl) ?_
  refine lv_iconst (v := nI 1) E.1 E.2.1 dL_law_960 rfl ?_
  refine n_iadd E dL_law_961 ?_
  refine s_ld E hX hbl hS hL (show i + 1 < L by omega) e1 dL_law_962 ?_
  refine lv_aload_n E.1 E.2.1 dL_law_963 rfl (lv_at hl 1 rfl) ?_
  refine lv_iload E.1 E.2.1 dL_law_964 (lv_at hl 0 rfl) ?_
  refine lv_iconst (v := nI 2) E.1 E.2.1 dL_law_966 rfl ?_
  refine n_iadd E dL_law_967 ?_
  refine s_ld E hX hbl hS hL (show i + 2 < L by omega) e2 dL_law_968 ?_
  refine lv_aload_n E.1 E.2.1 dL_law_969 rfl (lv_at hl 4 rfl) ?_
  refine l_wb (wx := wX adX caX T n kc ko kv k lo hi bw bb pk) (wr := wR adR caR T n kc ko kv k cd) E (As := [.ref (adX 0), .int y, .int x, .ref ao]) (rest := []) (vL_way1 l D adX caX T n kc ko kv k lo hi bw bb pk ao co ov s.heap.size sa y x hx2 hd.2.2.2.1 hlt hd.2.2.2.2.2.1) kL_125 hd rfl hKX hKO hZ hPX hPR hPO hS rfl rfl ⟨Nat.le_of_ble_eq_true rfl, Nat.le_of_ble_eq_true rfl⟩ rfl hl.1 rfl (Nat.le_of_ble_eq_true rfl) dL_law_970 ⟨by show _ ≤ 1051; omega, by show _ ≤ 9575; omega⟩ (fun z9 u9 H locs hp9 hPX hPR hPO hS => ?_)
  have hp9 : z9 = nI 1 := hp9
  subst hp9
  have hPX : va_P D c2 (wX adX caX T n kc ko kv k lo hi bw bb pk) H := hPX
  refine lv_istore (lv' := [(5, .int (nI 1)), (4, .int (nI i)), (0, .ref b), (1, .ref (adX 0)), (2, .ref (adR 0)), (3, .ref ao)]) E.1 E.2.1 dL_law_973 hl (by decide) rfl (fun ls hl => ?_)
  refine lv_aload_n E.1 E.2.1 dL_law_975 rfl (lv_at hl 4 rfl) ?_
  refine lv_aload_n E.1 E.2.1 dL_law_976 rfl (lv_at hl 2 rfl) ?_
  refine lv_iload E.1 E.2.1 dL_law_977 (lv_at hl 1 rfl) ?_
  refine lv_iconst (v := nI 1) E.1 E.2.1 dL_law_979 rfl ?_
  refine n_iadd E dL_law_980 ?_
  refine s_ld E hX hbl hS hL (show i + 1 < L by omega) e1 dL_law_981 ?_
  refine lv_aload_n E.1 E.2.1 dL_law_982 rfl (lv_at hl 2 rfl) ?_
  refine lv_iload E.1 E.2.1 dL_law_983 (lv_at hl 1 rfl) ?_
  refine lv_iconst (v := nI 2) E.1 E.2.1 dL_law_985 rfl ?_
  refine n_iadd E dL_law_986 ?_
  refine s_ld E hX hbl hS hL (show i + 2 < L by omega) e2 dL_law_987 ?_
  refine l_mi (wx := wX adX caX T n kc ko kv k lo hi bw bb pk) (wr := wR adR caR T n kc ko kv k cd) E (As := [.int y, .int x]) (rest := []) (cR_way1 l D adR caR T n kc ko kv k cd y x hd.2.1 hx) kL_127 hd rfl hKR hPX hPR hPO hS rfl rfl rfl rfl ⟨Nat.le_of_ble_eq_true rfl, Nat.le_of_ble_eq_true rfl⟩ rfl hl.1 rfl (Nat.le_of_ble_eq_true rfl) dL_law_988 ⟨by show _ ≤ 1051; omega, by show _ ≤ 9575; omega⟩ (fun z8 u8 H locs hp8 hPX hPR hPO hS => ?_)
  have hPR : va_P D c2 (wR adR caR T n kc ko kv k 1) H := hPR
  refine lv_istore (lv' := [(6, .int z8), (5, .int (nI 1)), (4, .int (nI i)), (0, .ref b), (1, .ref (adX 0)), (2, .ref (adR 0)), (3, .ref ao)]) E.1 E.2.1 dL_law_991 hl (by decide) rfl (fun ls hl => ?_)
  refine lv_aload_n E.1 E.2.1 dL_law_993 rfl (lv_at hl 5 rfl) ?_
  refine cV_i E (As := []) (rest := []) (cR_thrown l D adR caR T n kc ko kv k 1) kL_73 hKR hPR 0 rfl rfl rfl rfl ⟨Nat.le_of_ble_eq_true rfl, Nat.le_of_ble_eq_true rfl⟩ rfl hl.1 rfl (Nat.le_of_ble_eq_true rfl) dL_law_994 ⟨by show _ ≤ 1051; omega, by show _ ≤ 9575; omega⟩ ?_
  refine lv_iload E.1 E.2.1 dL_law_997 (lv_at hl 1 rfl) ?_
  refine n_icmp_eq (tgt := 1004) E dL_law_999 rfl (by decide) (by decide) (fun _ => ?_) (fun h => absurd rfl h)
  refine lv_iload E.1 E.2.1 dL_law_1004 (lv_at hl 1 rfl) ?_
  refine n_if_ne (tgt := 1021) E dL_law_1006 rfl (by decide) (fun _ => ?_) (fun h => absurd h (by decide))
  refine lv_goto (tgt := 1105) E.1 E.2.1 dL_law_1021 rfl ?_
  exact next _ _ _ ⟨T, n, kc, ko, kv, k, lo, hi, bw, bb, pk, 1, ov, hn128, hIK, hPk, hPX, hPR, hPO, hS⟩ (lv_sub hl [2, 3, 4, 5, 6] rfl)
set_option maxHeartbeats 4000000 in
set_option maxRecDepth 100000 in
theorem op_way2 {p : Program} {l : Launch} {e : Env} {s : State} {m : MethodId} {below : List Frame} {meth : Method} {c0 : Code} {b L : Nat} {xs : Nat → Int32} {D : va_G} {adX adR : Nat → Nat} {caX caR : Nat → ClassId} {ao : Nat} {co : ClassId} {sa : Nat → Nat} (C : LC p l s m c0 b L xs D adX caX adR caR ao co sa) (T : Nat → Nat → Int64) (n : Nat) (kc ko : Nat → Nat) (kv : Nat → Int64) (k : Nat) (lo hi : Nat → Int64) (bw bb pk : Nat → Nat) (cd : Nat) (ov : Nat → Int64) (hn128 : n ≤ 128) (hIK : iK kc ko k) (hPk : Pks T n lo hi bw bb) {H : Heap} {locs : List Loc} (hPX : va_P D c2 (wX adX caX T n kc ko kv k lo hi bw bb pk) H) (hPR : va_P D c2 (wR adR caR T n kc ko kv k cd) H) (hPO : va_P D c2 (wO ao co ov) H) (hS : va_S (fun q => s.heap.size ≤ q) s.heap H locs) {cells slots : Nat} (hcl : cells + 1 ≤ 1051 ∧ slots + 6 ≤ 9575) {i : Nat} (hi6 : i + 6 ≤ L) {ls : Array Slot} (hl : lv_has ls 8 (lvB b adX adR ao i)) {Q : State → Prop} (next : NX p l e s m below meth c0 b D adX caX adR caR ao co i cells slots Q) (y : Int32) (c : Nat) (hc : c < 4) (hy : y < 0 ∨ nI (n / 16) ≤ y) (e1 : xs (i + 1) = y) (e2 : xs (i + 2) = nI c) : W p l e room_1 s m #[Value.ref b] below meth c0 H locs cells slots Q (F0 m 956 ls []) := by
  obtain ⟨E, hL, hX, hbl, hlt, hd, hKX, hKR, hKO, hZ⟩ := C
  have hiB := iB_of hPk
  have hctn := ct_le (ch T kc ko kv k) n
  refine lv_aload_n E.1 E.2.1 dL_law_956 rfl (lv_at hl 2 rfl) ?_
  refine lv_aload_n E.1 E.2.1 dL_law_957 rfl (lv_at hl 1 rfl) ?_
  refine lv_iload E.1 E.2.1 dL_law_958 (lv_at hl 0 rfl) ?_
  refine lv_iconst (v := nI 1) E.1 E.2.1 dL_law_960 rfl ?_
  refine n_iadd E dL_law_961 ?_
  refine s_ld E hX hbl hS hL (show i + 1 < L by omega) e1 dL_law_962 ?_
  refine lv_aload_n E.1 E.2.1 dL_law_963 rfl (lv_at hl 1 rfl) ?_
  refine lv_iload E.1 E.2.1 dL_law_964 (lv_at hl 0 rfl) ?_
  refine lv_iconst (v := nI 2) E.1 E.2.1 dL_law_966 rfl ?_
  refine n_iadd E dL_law_967 ?_
  refine s_ld E hX hbl hS hL (show i + 2 < L by omega) e2 dL_law_968 ?_
  refine lv_aload_n E.1 E.2.1 dL_law_969 rfl (lv_at hl 4 rfl) ?_
  refine l_wb (wx := wX adX caX T n kc ko kv k lo hi bw bb pk) (wr := wR adR caR T n kc ko kv k cd) E (As := [.ref (adX 0), .int y, .int (nI c), .ref ao]) (rest := []) (vL_way2 l D adX caX T n kc ko kv k lo hi bw bb pk ao co ov s.heap.size sa y c hn128 hc hy hd.2.2.2.1 hlt hd.2.2.2.2.2.1) kL_125 hd rfl hKX hKO hZ hPX hPR hPO hS rfl rfl ⟨Nat.le_of_ble_eq_true rfl, Nat.le_of_ble_eq_true rfl⟩ rfl hl.1 rfl (Nat.le_of_ble_eq_true rfl) dL_law_970 ⟨by show _ ≤ 1051; omega, by show _ ≤ 9575; omega⟩ (fun z9 u9 H locs hp9 hPX hPR hPO hS => ?_)
  have hp9 : z9 = nI 2 := hp9
  subst hp9
  have hPX : va_P D c2 (wX adX caX T n kc ko kv k lo hi bw bb pk) H := hPX
  refine lv_istore (lv' := [(5, .int (nI 2)), (4, .int (nI i)), (0, .ref b), (1, .ref (adX 0)), (2, .ref (adR 0)), (3, .ref ao)]) E.1 E.2.1 dL_law_973 hl (by decide) rfl (fun ls hl => ?_)
  refine lv_aload_n E.1 E.2.1 dL_law_975 rfl (lv_at hl 4 rfl) ?_
  refine lv_aload_n E.1 E.2.1 dL_law_976 rfl (lv_at hl 2 rfl) ?_
  refine lv_iload E.1 E.2.1 dL_law_977 (lv_at hl 1 rfl) ?_
  refine lv_iconst (v := nI 1) E.1 E.2.1 dL_law_979 rfl ?_
  refine n_iadd E dL_law_980 ?_
  refine s_ld E hX hbl hS hL (show i + 1 < L by omega) e1 dL_law_981 ?_
  refine lv_aload_n E.1 E.2.1 dL_law_982 rfl (lv_at hl 2 rfl) ?_
  refine lv_iload E.1 E.2.1 dL_law_983 (lv_at hl 1 rfl) ?_
  refine lv_iconst (v := nI 2) E.1 E.2.1 dL_law_985 rfl ?_
  refine n_iadd E dL_law_986 ?_
  refine s_ld E hX hbl hS hL (show i + 2 < L by omega) e2 dL_law_987 ?_
  refine l_mi (wx := wX adX caX T n kc ko kv k lo hi bw bb pk) (wr := wR adR caR T n kc ko kv k cd) E (As := [.int y, .int (nI c)]) (rest := []) (cR_way2 l D adR caR T n kc ko kv k cd y c hd.2.1 hn128 hc hy) kL_127 hd rfl hKR hPX hPR hPO hS rfl rfl rfl rfl ⟨Nat.le_of_ble_eq_true rfl, Nat.le_of_ble_eq_true rfl⟩ rfl hl.1 rfl (Nat.le_of_ble_eq_true rfl) dL_law_988 ⟨by show _ ≤ 1051; omega, by show _ ≤ 9575; omega⟩ (fun z8 u8 H locs hp8 hPX hPR hPO hS => ?_)
  have hPR : va_P D c2 (wR adR caR T n kc ko kv k 2) H := hPR
  refine lv_istore (lv' := [(6, .int z8), (5, .int (nI 2)), (4, .int (nI i)), (0, .ref b), (1, .ref (adX 0)), (2, .ref (adR 0)), (3, .ref ao)]) E.1 E.2.1 dL_law_991 hl (by decide) rfl (fun ls hl => ?_)
  refine lv_aload_n E.1 E.2.1 dL_law_993 rfl (lv_at hl 5 rfl) ?_
  refine cV_i E (As := []) (rest := []) (cR_thrown l D adR caR T n kc ko kv k 2) kL_73 hKR hPR 0 rfl rfl rfl rfl ⟨Nat.le_of_ble_eq_true rfl, Nat.le_of_ble_eq_true rfl⟩ rfl hl.1 rfl (Nat.le_of_ble_eq_true rfl) dL_law_994 ⟨by show _ ≤ 1051; omega, by show _ ≤ 9575; omega⟩ ?_
  refine lv_iload E.1 E.2.1 dL_law_997 (lv_at hl 1 rfl) ?_
  refine n_icmp_eq (tgt := 1004) E dL_law_999 rfl (by decide) (by decide) (fun _ => ?_) (fun h => absurd rfl h)
  refine lv_iload E.1 E.2.1 dL_law_1004 (lv_at hl 1 rfl) ?_
  refine n_if_ne (tgt := 1021) E dL_law_1006 rfl (by decide) (fun _ => ?_) (fun h => absurd h (by decide))
  refine lv_goto (tgt := 1105) E.1 E.2.1 dL_law_1021 rfl ?_
  exact next _ _ _ ⟨T, n, kc, ko, kv, k, lo, hi, bw, bb, pk, 2, ov, hn128, hIK, hPk, hPX, hPR, hPO, hS⟩ (lv_sub hl [2, 3, 4, 5, 6] rfl)
set_option maxHeartbeats 4000000 in
set_option maxRecDepth 100000 in
theorem op_bits {p : Program} {l : Launch} {e : Env} {s : State} {m : MethodId} {below : List Frame} {meth : Method} {c0 : Code} {b L : Nat} {xs : Nat → Int32} {D : va_G} {adX adR : Nat → Nat} {caX caR : Nat → ClassId} {ao : Nat} {co : ClassId} {sa : Nat → Nat} (C : LC p l s m c0 b L xs D adX caX adR caR ao co sa) (T : Nat → Nat → Int64) (n : Nat) (kc ko : Nat → Nat) (kv : Nat → Int64) (k : Nat) (lo hi : Nat → Int64) (bw bb pk : Nat → Nat) (cd : Nat) (ov : Nat → Int64) (hn128 : n ≤ 128) (hIK : iK kc ko k) (hPk : Pks T n lo hi bw bb) {H : Heap} {locs : List Loc} (hPX : va_P D c2 (wX adX caX T n kc ko kv k lo hi bw bb pk) H) (hPR : va_P D c2 (wR adR caR T n kc ko kv k cd) H) (hPO : va_P D c2 (wO ao co ov) H) (hS : va_S (fun q => s.heap.size ≤ q) s.heap H locs) {cells slots : Nat} (hcl : cells + 1 ≤ 1051 ∧ slots + 6 ≤ 9575) {i : Nat} (hi6 : i + 6 ≤ L) {ls : Array Slot} (hl : lv_has ls 8 (lvB b adX adR ao i)) {Q : State → Prop} (next : NX p l e s m below meth c0 b D adX caX adR caR ao co i cells slots Q) (d c : Nat) (hd0 : d < n / 16) (hc : c < 4) (e1 : xs (i + 1) = nI d) (e2 : xs (i + 2) = nI c) : W p l e room_1 s m #[Value.ref b] below meth c0 H locs cells slots Q (F0 m 1024 ls []) := by
  obtain ⟨E, hL, hX, hbl, hlt, hd, hKX, hKR, hKO, hZ⟩ := C
  have hiB := iB_of hPk
  have hctn := ct_le (ch T kc ko kv k) n
  refine lv_aload_n E.1 E.2.1 dL_law_1024 rfl (lv_at hl 2 rfl) ?_
  refine lv_aload_n E.1 E.2.1 dL_law_1025 rfl (lv_at hl 1 rfl) ?_
  refine lv_iload E.1 E.2.1 dL_law_1026 (lv_at hl 0 rfl) ?_
  refine lv_iconst (v := nI 1) E.1 E.2.1 dL_law_1028 rfl ?_
  refine n_iadd E dL_law_1029 ?_
  refine s_ld E hX hbl hS hL (show i + 1 < L by omega) e1 dL_law_1030 ?_
  refine lv_aload_n E.1 E.2.1 dL_law_1031 rfl (lv_at hl 1 rfl) ?_
  refine lv_iload E.1 E.2.1 dL_law_1032 (lv_at hl 0 rfl) ?_
  refine lv_iconst (v := nI 2) E.1 E.2.1 dL_law_1034 rfl ?_
  refine n_iadd E dL_law_1035 ?_
  refine s_ld E hX hbl hS hL (show i + 2 < L by omega) e2 dL_law_1036 ?_
  refine lv_aload_n E.1 E.2.1 dL_law_1037 rfl (lv_at hl 4 rfl) ?_
  refine l_wg (S := Unit) (w1 := fun _ => wX adX caX T n kc ko kv k lo hi bw bb pk) (wx := wX adX caX T n kc ko kv k lo hi bw bb pk) (wr := wR adR caR T n kc ko kv k cd) E (As := [.ref (adX 0), .int (nI d), .int (nI c), .ref ao]) (rest := []) (wL_bits l D adX caX T n kc ko kv k lo hi bw bb pk ao co ov d c hn128 hd0 hc hd.2.2.2.1) kL_128 hd rfl hKX hKO hPX hPR hPO hS rfl rfl ⟨Nat.le_of_ble_eq_true rfl, Nat.le_of_ble_eq_true rfl⟩ rfl hl.1 rfl (Nat.le_of_ble_eq_true rfl) dL_law_1038 ⟨by show _ ≤ 1051; omega, by show _ ≤ 9575; omega⟩ (fun z9 u9 x9 H locs hp9 hPX hPR hPO hS => ?_)
  obtain ⟨rfl, hx9⟩ := hp9
  have hx9 : x9 = Int32.toInt64 (nI (bb (d * 4 + c))) := hx9
  rw [(hPk d c hd0 hc).2.2.2, ← (bW_pck (xb T d c) (cb c)).2] at hx9
  subst hx9
  have hPX : va_P D c2 (wX adX caX T n kc ko kv k lo hi bw bb pk) H := hPX
  refine lv_istore (lv' := [(5, .int (nI 0)), (4, .int (nI i)), (0, .ref b), (1, .ref (adX 0)), (2, .ref (adR 0)), (3, .ref ao)]) E.1 E.2.1 dL_law_1041 hl (by decide) rfl (fun ls hl => ?_)
  refine lv_aload_n E.1 E.2.1 dL_law_1043 rfl (lv_at hl 4 rfl) ?_
  refine lv_aload_n E.1 E.2.1 dL_law_1044 rfl (lv_at hl 2 rfl) ?_
  refine lv_iload E.1 E.2.1 dL_law_1045 (lv_at hl 1 rfl) ?_
  refine lv_iconst (v := nI 1) E.1 E.2.1 dL_law_1047 rfl ?_
  refine n_iadd E dL_law_1048 ?_
  refine s_ld E hX hbl hS hL (show i + 1 < L by omega) e1 dL_law_1049 ?_
  refine lv_aload_n E.1 E.2.1 dL_law_1050 rfl (lv_at hl 2 rfl) ?_
  refine lv_iload E.1 E.2.1 dL_law_1051 (lv_at hl 1 rfl) ?_
  refine lv_iconst (v := nI 2) E.1 E.2.1 dL_law_1053 rfl ?_
  refine n_iadd E dL_law_1054 ?_
  refine s_ld E hX hbl hS hL (show i + 2 < L by omega) e2 dL_law_1055 ?_
  refine l_mi (wx := wX adX caX T n kc ko kv k lo hi bw bb pk) (wr := wR adR caR T n kc ko kv k cd) E (As := [.int (nI d), .int (nI c)]) (rest := []) (cR_bits l D adR caR T n kc ko kv k cd d c hd.2.1 hn128 hd0 hc) kL_130 hd rfl hKR hPX hPR hPO hS rfl rfl rfl rfl ⟨Nat.le_of_ble_eq_true rfl, Nat.le_of_ble_eq_true rfl⟩ rfl hl.1 rfl (Nat.le_of_ble_eq_true rfl) dL_law_1056 ⟨by show _ ≤ 1051; omega, by show _ ≤ 9575; omega⟩ (fun z8 u8 H locs hp8 hPX hPR hPO hS => ?_)
  have hp8 : z8 = nI (ndz (xb T d c) (cb c) (bW (xb T d c) (cb c) 3)) := hp8
  subst hp8
  have hPR : va_P D c2 (wR adR caR T n kc ko kv k 0) H := hPR
  refine lv_istore (lv' := [(6, .int (nI (ndz (xb T d c) (cb c) (bW (xb T d c) (cb c) 3)))), (5, .int (nI 0)), (4, .int (nI i)), (0, .ref b), (1, .ref (adX 0)), (2, .ref (adR 0)), (3, .ref ao)]) E.1 E.2.1 dL_law_1059 hl (by decide) rfl (fun ls hl => ?_)
  refine lv_aload_n E.1 E.2.1 dL_law_1061 rfl (lv_at hl 5 rfl) ?_
  refine cV_i E (As := []) (rest := []) (cR_thrown l D adR caR T n kc ko kv k 0) kL_73 hKR hPR 0 rfl rfl rfl rfl ⟨Nat.le_of_ble_eq_true rfl, Nat.le_of_ble_eq_true rfl⟩ rfl hl.1 rfl (Nat.le_of_ble_eq_true rfl) dL_law_1062 ⟨by show _ ≤ 1051; omega, by show _ ≤ 9575; omega⟩ ?_
  refine lv_iload E.1 E.2.1 dL_law_1065 (lv_at hl 1 rfl) ?_
  refine n_icmp_eq (tgt := 1072) E dL_law_1067 rfl (by decide) (by decide) (fun _ => ?_) (fun h => absurd rfl h)
  refine lv_iload E.1 E.2.1 dL_law_1072 (lv_at hl 1 rfl) ?_
  refine n_if_ne (tgt := 1089) E dL_law_1074 rfl (by decide) (fun h => absurd h (by decide)) (fun _ => ?_)
  refine lv_aload_n E.1 E.2.1 dL_law_1077 rfl (lv_at hl 6 rfl) ?_
  refine lv_iconst (v := nI 0) E.1 E.2.1 dL_law_1078 rfl ?_
  refine n_lald E hKO hPO 0 0 rfl rfl (by decide) (by decide) dL_law_1079 ?_
  refine lv_iload E.1 E.2.1 dL_law_1080 (lv_at hl 0 rfl) ?_
  refine lv_i2l E.1 E.2.1 dL_law_1082 rfl ?_
  refine l_if_eq (tgt := 1089) E dL_law_1083 dL_law_1084 rfl (fun _ => ?_) (fun hne => (hne fS_s).elim)
  refine lv_goto (tgt := 1105) E.1 E.2.1 dL_law_1089 rfl ?_
  refine W.widen (k := cells + 1) (n := slots + 6) (by omega) (by omega) ?_
  exact next _ _ _ ⟨T, n, kc, ko, kv, k, lo, hi, bw, bb, pk, 0, fS ov 0 (Int32.toInt64 (nI (ndz (xb T d c) (cb c) (bW (xb T d c) (cb c) 3)))), hn128, hIK, hPk, hPX, hPR, hPO, hS⟩ (lv_sub hl [2, 3, 4, 5, 6] rfl)
set_option maxHeartbeats 4000000 in
set_option maxRecDepth 100000 in
theorem op_bits1 {p : Program} {l : Launch} {e : Env} {s : State} {m : MethodId} {below : List Frame} {meth : Method} {c0 : Code} {b L : Nat} {xs : Nat → Int32} {D : va_G} {adX adR : Nat → Nat} {caX caR : Nat → ClassId} {ao : Nat} {co : ClassId} {sa : Nat → Nat} (C : LC p l s m c0 b L xs D adX caX adR caR ao co sa) (T : Nat → Nat → Int64) (n : Nat) (kc ko : Nat → Nat) (kv : Nat → Int64) (k : Nat) (lo hi : Nat → Int64) (bw bb pk : Nat → Nat) (cd : Nat) (ov : Nat → Int64) (hn128 : n ≤ 128) (hIK : iK kc ko k) (hPk : Pks T n lo hi bw bb) {H : Heap} {locs : List Loc} (hPX : va_P D c2 (wX adX caX T n kc ko kv k lo hi bw bb pk) H) (hPR : va_P D c2 (wR adR caR T n kc ko kv k cd) H) (hPO : va_P D c2 (wO ao co ov) H) (hS : va_S (fun q => s.heap.size ≤ q) s.heap H locs) {cells slots : Nat} (hcl : cells + 1 ≤ 1051 ∧ slots + 6 ≤ 9575) {i : Nat} (hi6 : i + 6 ≤ L) {ls : Array Slot} (hl : lv_has ls 8 (lvB b adX adR ao i)) {Q : State → Prop} (next : NX p l e s m below meth c0 b D adX caX adR caR ao co i cells slots Q) (y x : Int32) (hx : isC x = false) (hx2 : x < 0 ∨ nI 4 ≤ x) (e1 : xs (i + 1) = y) (e2 : xs (i + 2) = x) : W p l e room_1 s m #[Value.ref b] below meth c0 H locs cells slots Q (F0 m 1024 ls []) := by
  obtain ⟨E, hL, hX, hbl, hlt, hd, hKX, hKR, hKO, hZ⟩ := C
  have hiB := iB_of hPk
  have hctn := ct_le (ch T kc ko kv k) n
  refine lv_aload_n E.1 E.2.1 dL_law_1024 rfl (lv_at hl 2 rfl) ?_
  refine lv_aload_n E.1 E.2.1 dL_law_1025 rfl (lv_at hl 1 rfl) ?_
  refine lv_iload E.1 E.2.1 dL_law_1026 (lv_at hl 0 rfl) ?_
  refine lv_iconst (v := nI 1) E.1 E.2.1 dL_law_1028 rfl ?_
  refine n_iadd E dL_law_1029 ?_
  refine s_ld E hX hbl hS hL (show i + 1 < L by omega) e1 dL_law_1030 ?_
  refine lv_aload_n E.1 E.2.1 dL_law_1031 rfl (lv_at hl 1 rfl) ?_
  refine lv_iload E.1 E.2.1 dL_law_1032 (lv_at hl 0 rfl) ?_
  refine lv_iconst (v := nI 2) E.1 E.2.1 dL_law_1034 rfl ?_
  refine n_iadd E dL_law_1035 ?_
  refine s_ld E hX hbl hS hL (show i + 2 < L by omega) e2 dL_law_1036 ?_
  refine lv_aload_n E.1 E.2.1 dL_law_1037 rfl (lv_at hl 4 rfl) ?_
  refine l_wb (wx := wX adX caX T n kc ko kv k lo hi bw bb pk) (wr := wR adR caR T n kc ko kv k cd) E (As := [.ref (adX 0), .int y, .int x, .ref ao]) (rest := []) (vL_bits1 l D adX caX T n kc ko kv k lo hi bw bb pk ao co ov s.heap.size sa y x hx2 hd.2.2.2.1 hlt hd.2.2.2.2.2.1) kL_128 hd rfl hKX hKO hZ hPX hPR hPO hS rfl rfl ⟨Nat.le_of_ble_eq_true rfl, Nat.le_of_ble_eq_true rfl⟩ rfl hl.1 rfl (Nat.le_of_ble_eq_true rfl) dL_law_1038 ⟨by show _ ≤ 1051; omega, by show _ ≤ 9575; omega⟩ (fun z9 u9 H locs hp9 hPX hPR hPO hS => ?_)
  have hp9 : z9 = nI 1 := hp9
  subst hp9
  have hPX : va_P D c2 (wX adX caX T n kc ko kv k lo hi bw bb pk) H := hPX
  refine lv_istore (lv' := [(5, .int (nI 1)), (4, .int (nI i)), (0, .ref b), (1, .ref (adX 0)), (2, .ref (adR 0)), (3, .ref ao)]) E.1 E.2.1 dL_law_1041 hl (by decide) rfl (fun ls hl => ?_)
  refine lv_aload_n E.1 E.2.1 dL_law_1043 rfl (lv_at hl 4 rfl) ?_
  refine lv_aload_n E.1 E.2.1 dL_law_1044 rfl (lv_at hl 2 rfl) ?_
  refine lv_iload E.1 E.2.1 dL_law_1045 (lv_at hl 1 rfl) ?_
  refine lv_iconst (v := nI 1) E.1 E.2.1 dL_law_1047 rfl ?_
  refine n_iadd E dL_law_1048 ?_
  refine s_ld E hX hbl hS hL (show i + 1 < L by omega) e1 dL_law_1049 ?_
  refine lv_aload_n E.1 E.2.1 dL_law_1050 rfl (lv_at hl 2 rfl) ?_
  refine lv_iload E.1 E.2.1 dL_law_1051 (lv_at hl 1 rfl) ?_
  refine lv_iconst (v := nI 2) E.1 E.2.1 dL_law_1053 rfl ?_
  refine n_iadd E dL_law_1054 ?_
  refine s_ld E hX hbl hS hL (show i + 2 < L by omega) e2 dL_law_1055 ?_
  refine l_mi (wx := wX adX caX T n kc ko kv k lo hi bw bb pk) (wr := wR adR caR T n kc ko kv k cd) E (As := [.int y, .int x]) (rest := []) (cR_bits1 l D adR caR T n kc ko kv k cd y x hd.2.1 hx) kL_130 hd rfl hKR hPX hPR hPO hS rfl rfl rfl rfl ⟨Nat.le_of_ble_eq_true rfl, Nat.le_of_ble_eq_true rfl⟩ rfl hl.1 rfl (Nat.le_of_ble_eq_true rfl) dL_law_1056 ⟨by show _ ≤ 1051; omega, by show _ ≤ 9575; omega⟩ (fun z8 u8 H locs hp8 hPX hPR hPO hS => ?_)
  have hPR : va_P D c2 (wR adR caR T n kc ko kv k 1) H := hPR
  refine lv_istore (lv' := [(6, .int z8), (5, .int (nI 1)), (4, .int (nI i)), (0, .ref b), (1, .ref (adX 0)), (2, .ref (adR 0)), (3, .ref ao)]) E.1 E.2.1 dL_law_1059 hl (by decide) rfl (fun ls hl => ?_)
  refine lv_aload_n E.1 E.2.1 dL_law_1061 rfl (lv_at hl 5 rfl) ?_
  refine cV_i E (As := []) (rest := []) (cR_thrown l D adR caR T n kc ko kv k 1) kL_73 hKR hPR 0 rfl rfl rfl rfl ⟨Nat.le_of_ble_eq_true rfl, Nat.le_of_ble_eq_true rfl⟩ rfl hl.1 rfl (Nat.le_of_ble_eq_true rfl) dL_law_1062 ⟨by show _ ≤ 1051; omega, by show _ ≤ 9575; omega⟩ ?_
  refine lv_iload E.1 E.2.1 dL_law_1065 (lv_at hl 1 rfl) ?_
  refine n_icmp_eq (tgt := 1072) E dL_law_1067 rfl (by decide) (by decide) (fun _ => ?_) (fun h => absurd rfl h)
  refine lv_iload E.1 E.2.1 dL_law_1072 (lv_at hl 1 rfl) ?_
  refine n_if_ne (tgt := 1089) E dL_law_1074 rfl (by decide) (fun _ => ?_) (fun h => absurd h (by decide))
  refine lv_goto (tgt := 1105) E.1 E.2.1 dL_law_1089 rfl ?_
  exact next _ _ _ ⟨T, n, kc, ko, kv, k, lo, hi, bw, bb, pk, 1, ov, hn128, hIK, hPk, hPX, hPR, hPO, hS⟩ (lv_sub hl [2, 3, 4, 5, 6] rfl)
set_option maxHeartbeats 4000000 in
set_option maxRecDepth 100000 in
theorem op_bits2 {p : Program} {l : Launch} {e : Env} {s : State} {m : MethodId} {below : List Frame} {meth : Method} {c0 : Code} {b L : Nat} {xs : Nat → Int32} {D : va_G} {adX adR : Nat → Nat} {caX caR : Nat → ClassId} {ao : Nat} {co : ClassId} {sa : Nat → Nat} (C : LC p l s m c0 b L xs D adX caX adR caR ao co sa) (T : Nat → Nat → Int64) (n : Nat) (kc ko : Nat → Nat) (kv : Nat → Int64) (k : Nat) (lo hi : Nat → Int64) (bw bb pk : Nat → Nat) (cd : Nat) (ov : Nat → Int64) (hn128 : n ≤ 128) (hIK : iK kc ko k) (hPk : Pks T n lo hi bw bb) {H : Heap} {locs : List Loc} (hPX : va_P D c2 (wX adX caX T n kc ko kv k lo hi bw bb pk) H) (hPR : va_P D c2 (wR adR caR T n kc ko kv k cd) H) (hPO : va_P D c2 (wO ao co ov) H) (hS : va_S (fun q => s.heap.size ≤ q) s.heap H locs) {cells slots : Nat} (hcl : cells + 1 ≤ 1051 ∧ slots + 6 ≤ 9575) {i : Nat} (hi6 : i + 6 ≤ L) {ls : Array Slot} (hl : lv_has ls 8 (lvB b adX adR ao i)) {Q : State → Prop} (next : NX p l e s m below meth c0 b D adX caX adR caR ao co i cells slots Q) (y : Int32) (c : Nat) (hc : c < 4) (hy : y < 0 ∨ nI (n / 16) ≤ y) (e1 : xs (i + 1) = y) (e2 : xs (i + 2) = nI c) : W p l e room_1 s m #[Value.ref b] below meth c0 H locs cells slots Q (F0 m 1024 ls []) := by
  obtain ⟨E, hL, hX, hbl, hlt, hd, hKX, hKR, hKO, hZ⟩ := C
  have hiB := iB_of hPk
  have hctn := ct_le (ch T kc ko kv k) n
  refine lv_aload_n E.1 E.2.1 dL_law_1024 rfl (lv_at hl 2 rfl) ?_
  refine lv_aload_n E.1 E.2.1 dL_law_1025 rfl (lv_at hl 1 rfl) ?_
  refine lv_iload E.1 E.2.1 dL_law_1026 (lv_at hl 0 rfl) ?_
  refine lv_iconst (v := nI 1) E.1 E.2.1 dL_law_1028 rfl ?_
  refine n_iadd E dL_law_1029 ?_
  refine s_ld E hX hbl hS hL (show i + 1 < L by omega) e1 dL_law_1030 ?_
  refine lv_aload_n E.1 E.2.1 dL_law_1031 rfl (lv_at hl 1 rfl) ?_
  refine lv_iload E.1 E.2.1 dL_law_1032 (lv_at hl 0 rfl) ?_
  refine lv_iconst (v := nI 2) E.1 E.2.1 dL_law_1034 rfl ?_
  refine n_iadd E dL_law_1035 ?_
  refine s_ld E hX hbl hS hL (show i + 2 < L by omega) e2 dL_law_1036 ?_
  refine lv_aload_n E.1 E.2.1 dL_law_1037 rfl (lv_at hl 4 rfl) ?_
  refine l_wb (wx := wX adX caX T n kc ko kv k lo hi bw bb pk) (wr := wR adR caR T n kc ko kv k cd) E (As := [.ref (adX 0), .int y, .int (nI c), .ref ao]) (rest := []) (vL_bits2 l D adX caX T n kc ko kv k lo hi bw bb pk ao co ov s.heap.size sa y c hn128 hc hy hd.2.2.2.1 hlt hd.2.2.2.2.2.1) kL_128 hd rfl hKX hKO hZ hPX hPR hPO hS rfl rfl ⟨Nat.le_of_ble_eq_true rfl, Nat.le_of_ble_eq_true rfl⟩ rfl hl.1 rfl (Nat.le_of_ble_eq_true rfl) dL_law_1038 ⟨by show _ ≤ 1051; omega, by show _ ≤ 9575; omega⟩ (fun z9 u9 H locs hp9 hPX hPR hPO hS => ?_)
  have hp9 : z9 = nI 2 := hp9
  subst hp9
  have hPX : va_P D c2 (wX adX caX T n kc ko kv k lo hi bw bb pk) H := hPX
  refine lv_istore (lv' := [(5, .int (nI 2)), (4, .int (nI i)), (0, .ref b), (1, .ref (adX 0)), (2, .ref (adR 0)), (3, .ref ao)]) E.1 E.2.1 dL_law_1041 hl (by decide) rfl (fun ls hl => ?_)
  refine lv_aload_n E.1 E.2.1 dL_law_1043 rfl (lv_at hl 4 rfl) ?_
  refine lv_aload_n E.1 E.2.1 dL_law_1044 rfl (lv_at hl 2 rfl) ?_
  refine lv_iload E.1 E.2.1 dL_law_1045 (lv_at hl 1 rfl) ?_
  refine lv_iconst (v := nI 1) E.1 E.2.1 dL_law_1047 rfl ?_
  refine n_iadd E dL_law_1048 ?_
  refine s_ld E hX hbl hS hL (show i + 1 < L by omega) e1 dL_law_1049 ?_
  refine lv_aload_n E.1 E.2.1 dL_law_1050 rfl (lv_at hl 2 rfl) ?_
  refine lv_iload E.1 E.2.1 dL_law_1051 (lv_at hl 1 rfl) ?_
  refine lv_iconst (v := nI 2) E.1 E.2.1 dL_law_1053 rfl ?_
  refine n_iadd E dL_law_1054 ?_
  refine s_ld E hX hbl hS hL (show i + 2 < L by omega) e2 dL_law_1055 ?_
  refine l_mi (wx := wX adX caX T n kc ko kv k lo hi bw bb pk) (wr := wR adR caR T n kc ko kv k cd) E (As := [.int y, .int (nI c)]) (rest := []) (cR_bits2 l D adR caR T n kc ko kv k cd y c hd.2.1 hn128 hc hy) kL_130 hd rfl hKR hPX hPR hPO hS rfl rfl rfl rfl ⟨Nat.le_of_ble_eq_true rfl, Nat.le_of_ble_eq_true rfl⟩ rfl hl.1 rfl (Nat.le_of_ble_eq_true rfl) dL_law_1056 ⟨by show _ ≤ 1051; omega, by show _ ≤ 9575; omega⟩ (fun z8 u8 H locs hp8 hPX hPR hPO hS => ?_)
  have hPR : va_P D c2 (wR adR caR T n kc ko kv k 2) H := hPR
  refine lv_istore (lv' := [(6, .int z8), (5, .int (nI 2)), (4, .int (nI i)), (0, .ref b), (1, .ref (adX 0)), (2, .ref (adR 0)), (3, .ref ao)]) E.1 E.2.1 dL_law_1059 hl (by decide) rfl (fun ls hl => ?_)
  refine lv_aload_n E.1 E.2.1 dL_law_1061 rfl (lv_at hl 5 rfl) ?_
  refine cV_i E (As := []) (rest := []) (cR_thrown l D adR caR T n kc ko kv k 2) kL_73 hKR hPR 0 rfl rfl rfl rfl ⟨Nat.le_of_ble_eq_true rfl, Nat.le_of_ble_eq_true rfl⟩ rfl hl.1 rfl (Nat.le_of_ble_eq_true rfl) dL_law_1062 ⟨by show _ ≤ 1051; omega, by show _ ≤ 9575; omega⟩ ?_
  refine lv_iload E.1 E.2.1 dL_law_1065 (lv_at hl 1 rfl) ?_
  refine n_icmp_eq (tgt := 1072) E dL_law_1067 rfl (by decide) (by decide) (fun _ => ?_) (fun h => absurd rfl h)
  refine lv_iload E.1 E.2.1 dL_law_1072 (lv_at hl 1 rfl) ?_
  refine n_if_ne (tgt := 1089) E dL_law_1074 rfl (by decide) (fun _ => ?_) (fun h => absurd h (by decide))
  refine lv_goto (tgt := 1105) E.1 E.2.1 dL_law_1089 rfl ?_
  exact next _ _ _ ⟨T, n, kc, ko, kv, k, lo, hi, bw, bb, pk, 2, ov, hn128, hIK, hPk, hPX, hPR, hPO, hS⟩ (lv_sub hl [2, 3, 4, 5, 6] rfl)
set_option maxHeartbeats 4000000 in
set_option maxRecDepth 100000 in
theorem op_purge {p : Program} {l : Launch} {e : Env} {s : State} {m : MethodId} {below : List Frame} {meth : Method} {c0 : Code} {b L : Nat} {xs : Nat → Int32} {D : va_G} {adX adR : Nat → Nat} {caX caR : Nat → ClassId} {ao : Nat} {co : ClassId} {sa : Nat → Nat} (C : LC p l s m c0 b L xs D adX caX adR caR ao co sa) (T : Nat → Nat → Int64) (n : Nat) (kc ko : Nat → Nat) (kv : Nat → Int64) (k : Nat) (lo hi : Nat → Int64) (bw bb pk : Nat → Nat) (cd : Nat) (ov : Nat → Int64) (hn128 : n ≤ 128) (hIK : iK kc ko k) (hPk : Pks T n lo hi bw bb) {H : Heap} {locs : List Loc} (hPX : va_P D c2 (wX adX caX T n kc ko kv k lo hi bw bb pk) H) (hPR : va_P D c2 (wR adR caR T n kc ko kv k cd) H) (hPO : va_P D c2 (wO ao co ov) H) (hS : va_S (fun q => s.heap.size ≤ q) s.heap H locs) {cells slots : Nat} (hcl : cells + 1 ≤ 1051 ∧ slots + 6 ≤ 9575) {i : Nat} (hi6 : i + 6 ≤ L) {ls : Array Slot} (hl : lv_has ls 8 (lvB b adX adR ao i)) {Q : State → Prop} (next : NX p l e s m below meth c0 b D adX caX adR caR ao co i cells slots Q)   : W p l e room_1 s m #[Value.ref b] below meth c0 H locs cells slots Q (F0 m 1092 ls []) := by
  obtain ⟨E, hL, hX, hbl, hlt, hd, hKX, hKR, hKO, hZ⟩ := C
  have hiB := iB_of hPk
  have hctn := ct_le (ch T kc ko kv k) n
  refine lv_aload_n E.1 E.2.1 dL_law_1092 rfl (lv_at hl 2 rfl) ?_
  refine l_hw (wx := wX adX caX T n kc ko kv k lo hi bw bb pk) (wr := wR adR caR T n kc ko kv k cd) E (As := []) (rest := []) (cX_purge l D adX caX T n kc ko kv k lo hi bw bb pk hIK hd.1 hn128 hiB) kL_131 hd rfl hKX hPX hPR hPO hS rfl rfl rfl rfl ⟨Nat.le_of_ble_eq_true rfl, Nat.le_of_ble_eq_true rfl⟩ rfl hl.1 rfl (Nat.le_of_ble_eq_true rfl) dL_law_1093 ⟨by show _ ≤ 1051; omega, by show _ ≤ 9575; omega⟩ (fun z9 u9 H locs hp9 hPX hPR hPO hS => ?_)
  obtain ⟨hz9, hK9⟩ := hp9
  have hz9 : z9 = nI (ct (ch T kc ko kv k) n) := hz9
  subst hz9
  have hPX : va_P D c2 (wX adX caX (pT (ch T kc ko kv k) T n) (n - ct (ch T kc ko kv k) n) kc ko kv k u9.1 u9.2.1 u9.2.2.1 u9.2.2.2.1 u9.2.2.2.2) H := hPX
  refine lv_aload_n E.1 E.2.1 dL_law_1096 rfl (lv_at hl 3 rfl) ?_
  refine l_mi (wx := wX adX caX (pT (ch T kc ko kv k) T n) (n - ct (ch T kc ko kv k) n) kc ko kv k u9.1 u9.2.1 u9.2.2.1 u9.2.2.2.1 u9.2.2.2.2) (wr := wR adR caR T n kc ko kv k cd) E (As := []) (rest := [.int (nI (ct (ch T kc ko kv k) n))]) (cR_purge l D adR caR T n kc ko kv k cd hd.2.1 hIK hn128) kL_134 hd rfl hKR hPX hPR hPO hS rfl rfl rfl rfl ⟨Nat.le_of_ble_eq_true rfl, Nat.le_of_ble_eq_true rfl⟩ rfl hl.1 rfl (Nat.le_of_ble_eq_true rfl) dL_law_1097 ⟨by show _ ≤ 1051; omega, by show _ ≤ 9575; omega⟩ (fun z8 u8 H locs hp8 hPX hPR hPO hS => ?_)
  have hp8 : z8 = nI (ct (ch T kc ko kv k) n) := hp8
  subst hp8
  have hPR : va_P D c2 (wR adR caR (pT (ch T kc ko kv k) T n) (n - ct (ch T kc ko kv k) n) kc ko kv k 0) H := hPR
  refine lv_icmp_eq (tgt := 1105) E.1 E.2.1 dL_law_1100 rfl (fun _ => ?_) (fun h => (h rfl).elim)
  refine W.widen (k := cells + 1) (n := slots + 6) (by omega) (by omega) ?_
  exact next _ _ _ ⟨pT (ch T kc ko kv k) T n, n - ct (ch T kc ko kv k) n, kc, ko, kv, k, u9.1, u9.2.1, u9.2.2.1, u9.2.2.2.1, u9.2.2.2.2, 0, ov, by omega, hIK, hK9, hPX, hPR, hPO, hS⟩ (lv_sub hl [0, 1, 2, 3, 4] rfl)
