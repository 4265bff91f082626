/-! The law's loop. -/
theorem inc6 (j : Nat) : nI (6 * j) + Int32.ofInt 6 = nI (6 * (j + 1)) := by
  rw [show 6 * (j + 1) = 6 * j + 6 by omega]
  show Int32.ofNat (6 * j) + Int32.ofNat 6 = Int32.ofNat (6 * j + 6)
  rw [Int32.ofNat_add]
set_option maxHeartbeats 4000000 in
theorem lw_loop {p : Program} {l : Launch} {e : Env} {s : State} {m : MethodId} {below : List Frame} {meth : Method} {c0 : Code} {b L : Nat} {xs : Nat → Int32} {D : va_G} {adX adR : Nat → Nat} {caX caR : Nat → ClassId} {ao : Nat} {co : ClassId} {sa : Nat → Nat} (C : LC p l s m c0 b L xs D adX caX adR caR ao co sa) {Q : State → Prop}
    (fin : ∀ (H : Heap) (locs : List Loc) (ls : Array Slot) (cells slots : Nat), va_S (fun q => s.heap.size ≤ q) s.heap H locs → cells ≤ 1051 → slots ≤ 9575 → W p l e room_1 s m #[Value.ref b] below meth c0 H locs cells slots Q (F0 m 1111 ls [])) :
    ∀ (d j : Nat), j + d = 512 → ∀ (H : Heap) (locs : List Loc) (ls : Array Slot), LI D adX caX adR caR ao co s H locs → lv_has ls 8 (lvB b adX adR ao (6 * j)) → W p l e room_1 s m #[Value.ref b] below meth c0 H locs (16 + j) (1317 + 6 * j) Q (F0 m 23 ls []) := by
  have E := C.1
  intro d
  induction d with
  | zero =>
    intro j hj H locs ls hI hl
    obtain ⟨T, n, kc, ko, kv, k, lo, hi, bw, bb, pk, cd, ov, hn128, hIK, hPk, hPX, hPR, hPO, hS⟩ := hI
    have hL := C.2.1
    refine lv_iload E.1 E.2.1 dL_law_23 (lv_at hl 0 rfl) ?_
    refine lv_aload_n E.1 E.2.1 dL_law_25 rfl (lv_at hl 1 rfl) ?_
    refine va_slen E.1 E.2.1 C.2.2.1 C.2.2.2.1 (Nat.not_le.mpr C.2.2.2.1) hS dL_law_26 ?_
    refine lv_bipush (v := nI 6) E.1 E.2.1 dL_law_27 rfl ?_
    refine lv_isub E.1 E.2.1 dL_law_29 ?_
    refine lv_icmp_gt (tgt := 1111) E.1 E.2.1 dL_law_30 rfl (fun _ => fin _ _ _ _ _ hS (by omega) (by omega)) (fun h => ?_)
    have := hd_c hL (by omega) h
    omega
  | succ d ih =>
    intro j hj H locs ls hI hl
    obtain ⟨T, n, kc, ko, kv, k, lo, hi, bw, bb, pk, cd, ov, hn128, hIK, hPk, hPX, hPR, hPO, hS⟩ := hI
    have hL := C.2.1
    refine lv_iload E.1 E.2.1 dL_law_23 (lv_at hl 0 rfl) ?_
    refine lv_aload_n E.1 E.2.1 dL_law_25 rfl (lv_at hl 1 rfl) ?_
    refine va_slen E.1 E.2.1 C.2.2.1 C.2.2.2.1 (Nat.not_le.mpr C.2.2.2.1) hS dL_law_26 ?_
    refine lv_bipush (v := nI 6) E.1 E.2.1 dL_law_27 rfl ?_
    refine lv_isub E.1 E.2.1 dL_law_29 ?_
    refine lv_icmp_gt (tgt := 1111) E.1 E.2.1 dL_law_30 rfl (fun _ => fin _ _ _ _ _ hS (by omega) (by omega)) (fun h => ?_)
    have h6 := hd_c hL (by omega) h
    refine on_any C T n kc ko kv k lo hi bw bb pk cd ov hn128 hIK hPk hPX hPR hPO hS (by omega) h6 hl ?_
    intro H1 locs1 ls1 hI1 hl1
    refine lv_iinc (k := 0) (v := nI (6 * (j + 1))) (lv' := lvB b adX adR ao (6 * (j + 1))) E.1 E.2.1 dL_law_1105 hl1 rfl (inc6 _) (by decide) rfl (fun ls2 hl2 => ?_)
    refine lv_goto (tgt := 23) E.1 E.2.1 dL_law_1108 rfl ?_
    exact ih (j + 1) (by omega) H1 locs1 ls2 hI1 hl2
