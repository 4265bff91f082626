/-! Rows for the law's own body: the script, calls of the hall, of the model, of the wrappers, with the three worlds side by side. -/
section LR1
variable {p : Program} {l : Launch} {e : Env} {R : Room} {s : State} {m : MethodId} {args : Array Value} {below : List Frame} {meth : Method} {c : Code} {H : Heap} {locs : List Loc} {cells slots : Nat} {Q : State → Prop}
variable {cc : ByteArray} {pc : Nat} {ls : Array Slot} {st rest : List Value} {nL : Nat} {own : String}
variable {D : va_G} {adX adR : Nat → Nat} {caX caR : Nat → ClassId} {ao : Nat} {co : ClassId} {ov : Nat → Int64}
variable {wx wr : va_W} {sa : Nat → Nat}
/-- what the three worlds are to each other -/
def Dj (adX adR : Nat → Nat) (ao lz : Nat) : Prop := inj adX 10 ∧ inj adR 5 ∧ (∀ q, fA adX 10 q → ¬ fA adR 5 q) ∧ ¬ fA adX 10 ao ∧ ¬ fA adR 5 ao ∧ (∀ q, fA adX 10 q → lz ≤ q) ∧ (∀ q, fA adR 5 q → lz ≤ q) ∧ lz ≤ ao
theorem fO_lz {lz : Nat} (h : Dj adX adR ao lz) : ∀ q, fO adX ao q → lz ≤ q := fun q hq => hq.elim (fun z => h.2.2.2.2.2.1 q z) (fun z => by rw [z]; exact h.2.2.2.2.2.2.2)
/-- a world that lies at adR is not touched by the hall and its answer's cell -/
theorem kpR {lz : Nat} {H1 : Heap} (hd : Dj adX adR ao lz) (hw : wr.map Prod.fst = (List.range 5).map adR) (h : va_P D c2 wr H) (hk : ∀ q : Nat, q < H.size → ¬ fO adX ao q → H1[q]? = H[q]?) : va_P D c2 wr H1 :=
  apart_kept h (fun k q hq hA => by
    obtain ⟨h1, h2⟩ := dW_at hw hq
    rcases hA with hA | hA
    · exact hd.2.2.1 q.1 hA ⟨k, h1, h2⟩
    · exact hd.2.2.2.2.1 ⟨k, h1, by rw [← hA]; exact h2⟩) hk
theorem kpRx {lz : Nat} {H1 : Heap} (hd : Dj adX adR ao lz) (hw : wr.map Prod.fst = (List.range 5).map adR) (h : va_P D c2 wr H) (hk : ∀ q : Nat, q < H.size → ¬ fA adX 10 q → H1[q]? = H[q]?) : va_P D c2 wr H1 :=
  kpR hd hw h (fun q h1 h2 => hk q h1 (fun z => h2 (Or.inl z)))
theorem kpX {lz : Nat} {H1 : Heap} (hd : Dj adX adR ao lz) (hw : wx.map Prod.fst = (List.range 10).map adX) (h : va_P D c2 wx H) (hk : ∀ q : Nat, q < H.size → ¬ fA adR 5 q → H1[q]? = H[q]?) : va_P D c2 wx H1 :=
  apart_kept h (fun k q hq hA => by
    obtain ⟨h1, h2⟩ := dW_at hw hq
    exact hd.2.2.1 q.1 ⟨k, h1, h2⟩ hA) hk
theorem kpO {lz : Nat} {H1 : Heap} (hd : Dj adX adR ao lz) (h : va_P D c2 (wO ao co ov) H) (hk : ∀ q : Nat, q < H.size → ¬ fA adR 5 q → H1[q]? = H[q]?) : va_P D c2 (wO ao co ov) H1 := by
  refine apart_kept h (fun k q hq => ?_) hk
  have h1 := (List.getElem?_eq_some_iff.mp hq).1
  simp at h1
  subst h1
  cases hq
  exact hd.2.2.2.2.1
/-- the script -/
theorem s_ld (E : CallFix p m c cc nL s args tG own) {b L : Nat} {xs : Nat → Int32} (hX : va_X b L xs s s.heap) (hbl : b < s.heap.size) (hS : va_S (fun q => s.heap.size ≤ q) s.heap H locs) (hL : L ≤ 3072) {i : Nat} (hi : i < L) {v : Int32} (hv : xs i = v) (hdg : decode cc pc = .ok (.iaload, 1))
    (kk : W p l e R s m args below meth c H locs cells slots Q (F0 m (pc + 1) ls (.int v :: rest))) : W p l e R s m args below meth c H locs cells slots Q (F0 m pc ls (.int (nI i) :: .ref b :: rest)) :=
  va_sld E.1 E.2.1 hX hbl (Nat.not_le.mpr hbl) hS (vp_in_nI hi (by omega)) hdg (tpi (by rw [nI_clamp (by omega)]; exact hv) kk)
/-- the hall writes, and answers with an int -/
theorem l_hw (E : CallFix p m c cc nL s args tG own) {y : MethodName} {b : ByteArray} {n na idx : Nat} {r : Option FieldType} {rm : Room} {As : List Value} {S : Type} {post : Int32 → S → Prop} {w1 : S → va_W} {a : Nat} (hM : Met l y (wA y b n r) rm (va_Pc (.ref a :: As) (pW D c2 (tX caX) wx)) (qI post D c2 w1 (fA adX 10)) 0 0 (fA adX 10)) (hk : kV own idx y b n r na) (hd : Dj adX adR ao s.heap.size) (hw : wr.map Prod.fst = (List.range 5).map adR) (hKX : va_K D c2 (tX caX) s) (hPX : va_P D c2 wx H) (hPR : va_P D c2 wr H) (hPO : va_P D c2 (wO ao co ov) H) (hS : va_S (fun q => s.heap.size ≤ q) s.heap H locs) {ci N : Nat} {T : u_T} {fs : List Value} (he : wx[0]? = some (a, .inr (ci, fs))) (hc : c2[ci]? = some (y.cls, T, N)) (hrc : rm.cells = 0) (hrs : rm.slots = 0) (hR : rm.frames + 1 ≤ R.frames ∧ 8 + (n + 11) + rm.locals ≤ R.locals) (hn : As.length = na) (hl : ls.size = nL) (hst : st = As.reverse ++ .ref a :: rest) (hW : (rest.map fun v => v.category).sum ≤ 8) (hdg : decode cc pc = .ok (.invokevirtual idx, 3)) (hf : cells ≤ R.cells ∧ slots ≤ R.slots)
    (kk : ∀ (z : Int32) (u : S) (H1 : Heap) (locs1 : List Loc), post z u → va_P D c2 (w1 u) H1 → va_P D c2 wr H1 → va_P D c2 (wO ao co ov) H1 → va_S (fun q => s.heap.size ≤ q) s.heap H1 locs1 → W p l e R s m args below meth c H1 locs1 cells slots Q (F0 m (pc + 3) ls (.int z :: rest))) : W p l e R s m args below meth c H locs cells slots Q (F0 m pc ls st) :=
  cV_wi E hM hk hKX hPX hS (fun q h => hd.2.2.2.2.2.1 q h) 0 he hc hrc hrs hR hn hl hst hW hdg hf (fun z u H1 locs1 hp hP _ hfr hS1 => kk z u H1 locs1 hp hP (kpRx hd hw hPR hfr) (apart_kept hPO (wO_d hd.2.2.2.1) hfr) hS1)
/-- the model writes, and answers with an int; with a long -/
theorem l_mi (E : CallFix p m c cc nL s args tG own) {y : MethodName} {b : ByteArray} {n na idx : Nat} {r : Option FieldType} {rm : Room} {As : List Value} {S : Type} {post : Int32 → S → Prop} {w1 : S → va_W} {a : Nat} (hM : Met l y (wA y b n r) rm (va_Pc (.ref a :: As) (pW D c2 (tR caR) wr)) (qI post D c2 w1 (fA adR 5)) 0 0 (fA adR 5)) (hk : kV own idx y b n r na) (hd : Dj adX adR ao s.heap.size) (hw : wx.map Prod.fst = (List.range 10).map adX) (hKR : va_K D c2 (tR caR) s) (hPX : va_P D c2 wx H) (hPR : va_P D c2 wr H) (hPO : va_P D c2 (wO ao co ov) H) (hS : va_S (fun q => s.heap.size ≤ q) s.heap H locs) {ci N : Nat} {T : u_T} {fs : List Value} (he : wr[0]? = some (a, .inr (ci, fs))) (hc : c2[ci]? = some (y.cls, T, N)) (hrc : rm.cells = 0) (hrs : rm.slots = 0) (hR : rm.frames + 1 ≤ R.frames ∧ 8 + (n + 11) + rm.locals ≤ R.locals) (hn : As.length = na) (hl : ls.size = nL) (hst : st = As.reverse ++ .ref a :: rest) (hW : (rest.map fun v => v.category).sum ≤ 8) (hdg : decode cc pc = .ok (.invokevirtual idx, 3)) (hf : cells ≤ R.cells ∧ slots ≤ R.slots)
    (kk : ∀ (z : Int32) (u : S) (H1 : Heap) (locs1 : List Loc), post z u → va_P D c2 wx H1 → va_P D c2 (w1 u) H1 → va_P D c2 (wO ao co ov) H1 → va_S (fun q => s.heap.size ≤ q) s.heap H1 locs1 → W p l e R s m args below meth c H1 locs1 cells slots Q (F0 m (pc + 3) ls (.int z :: rest))) : W p l e R s m args below meth c H locs cells slots Q (F0 m pc ls st) :=
  cV_wi E hM hk hKR hPR hS (fun q h => hd.2.2.2.2.2.2.1 q h) 0 he hc hrc hrs hR hn hl hst hW hdg hf (fun z u H1 locs1 hp hP _ hfr hS1 => kk z u H1 locs1 hp (kpX hd hw hPX hfr) hP (kpO hd hPO hfr) hS1)
theorem l_ml (E : CallFix p m c cc nL s args tG own) {y : MethodName} {b : ByteArray} {n na idx : Nat} {r : Option FieldType} {rm : Room} {As : List Value} {S : Type} {post : Int64 → S → Prop} {w1 : S → va_W} {a : Nat} (hM : Met l y (wA y b n r) rm (va_Pc (.ref a :: As) (pW D c2 (tR caR) wr)) (qL post D c2 w1 (fA adR 5)) 0 0 (fA adR 5)) (hk : kV own idx y b n r na) (hd : Dj adX adR ao s.heap.size) (hw : wx.map Prod.fst = (List.range 10).map adX) (hKR : va_K D c2 (tR caR) s) (hPX : va_P D c2 wx H) (hPR : va_P D c2 wr H) (hPO : va_P D c2 (wO ao co ov) H) (hS : va_S (fun q => s.heap.size ≤ q) s.heap H locs) {ci N : Nat} {T : u_T} {fs : List Value} (he : wr[0]? = some (a, .inr (ci, fs))) (hc : c2[ci]? = some (y.cls, T, N)) (hrc : rm.cells = 0) (hrs : rm.slots = 0) (hR : rm.frames + 1 ≤ R.frames ∧ 8 + (n + 11) + rm.locals ≤ R.locals) (hn : As.length = na) (hl : ls.size = nL) (hst : st = As.reverse ++ .ref a :: rest) (hW : (rest.map fun v => v.category).sum ≤ 8) (hdg : decode cc pc = .ok (.invokevirtual idx, 3)) (hf : cells ≤ R.cells ∧ slots ≤ R.slots)
    (kk : ∀ (z : Int64) (u : S) (H1 : Heap) (locs1 : List Loc), post z u → va_P D c2 wx H1 → va_P D c2 (w1 u) H1 → va_P D c2 (wO ao co ov) H1 → va_S (fun q => s.heap.size ≤ q) s.heap H1 locs1 → W p l e R s m args below meth c H1 locs1 cells slots Q (F0 m (pc + 3) ls (.long z :: rest))) : W p l e R s m args below meth c H locs cells slots Q (F0 m pc ls st) :=
  cV_wl E hM hk hKR hPR hS (fun q h => hd.2.2.2.2.2.2.1 q h) 0 he hc hrc hrs hR hn hl hst hW hdg hf (fun z u H1 locs1 hp hP _ hfr hS1 => kk z u H1 locs1 hp (kpX hd hw hPX hfr) hP (kpO hd hPO hfr) hS1)
/-- a wrapper, where the hall answers -/
theorem l_wg (E : CallFix p m c cc nL s args tG own) {y : MethodName} {b : ByteArray} {n na idx : Nat} {r : Option FieldType} {hh : List (Nat × Nat × Nat × Nat)} {rm : Room} {As : List Value} {S : Type} {post : Int32 → S × Int64 → Prop} {w1 : S → va_W} (hM : Met l y (wW y b n r hh) rm (va_Pc As (pO D (tX caX) wx ao co ov)) (va_Qi post (fun u t => va_P D c2 (w1 u.1) t.heap ∧ va_P D c2 (wO ao co (fS ov 0 u.2)) t.heap) (fO adX ao)) 0 0 (fO adX ao)) (hk : kW own idx y b n r hh na) (hd : Dj adX adR ao s.heap.size) (hw : wr.map Prod.fst = (List.range 5).map adR) (hKX : va_K D c2 (tX caX) s) (hKO : va_K D c2 (tO co) s) (hPX : va_P D c2 wx H) (hPR : va_P D c2 wr H) (hPO : va_P D c2 (wO ao co ov) H) (hS : va_S (fun q => s.heap.size ≤ q) s.heap H locs) (hrc : rm.cells = 0) (hrs : rm.slots = 0) (hR : rm.frames + 1 ≤ R.frames ∧ 8 + (n + 11) + rm.locals ≤ R.locals) (hn : As.length = na) (hl : ls.size = nL) (hst : st = As.reverse ++ rest) (hW : (rest.map fun v => v.category).sum ≤ 8) (hdg : decode cc pc = .ok (.invokestatic idx, 3)) (hf : cells ≤ R.cells ∧ slots ≤ R.slots)
    (kk : ∀ (z : Int32) (u : S) (x : Int64) (H1 : Heap) (locs1 : List Loc), post z (u, x) → va_P D c2 (w1 u) H1 → va_P D c2 wr H1 → va_P D c2 (wO ao co (fS ov 0 x)) H1 → va_S (fun q => s.heap.size ≤ q) s.heap H1 locs1 → W p l e R s m args below meth c H1 locs1 cells slots Q (F0 m (pc + 3) ls (.int z :: rest))) : W p l e R s m args below meth c H locs cells slots Q (F0 m pc ls st) :=
  va_calli (run_W E hM hk hrc hrs hR (preO hPX hPO hKX hKO As) hn hl hst hW hdg hf) hS (fun q _ h => fO_lz hd q h) (fun q h => fO_lz hd q h) (fun z u t H1 locs1 ht _ hp hB _ hfr hS1 => by
    obtain ⟨u, x⟩ := u
    obtain ⟨h1, h2⟩ := hB
    rw [ht] at h1 h2
    exact kk z u x H1 locs1 hp h1 (kpR hd hw hPR hfr) h2 hS1)
/-- a wrapper, where the hall throws -/
theorem l_wb (E : CallFix p m c cc nL s args tG own) {y : MethodName} {b : ByteArray} {n na idx : Nat} {r : Option FieldType} {hh : List (Nat × Nat × Nat × Nat)} {rm : Room} {As : List Value} {S : Type} {post : Int32 → S → Prop} {w1 : S → va_W} (hM : Met l y (wW y b n r hh) rm (va_Pc As (pOZ D (tX caX) wx ao co ov s.heap.size sa)) (va_Qi post (fun u t => va_P D c2 (w1 u) t.heap ∧ va_P D c2 (wO ao co ov) t.heap) (fO adX ao)) 1 6 (fun q => s.heap.size ≤ q)) (hk : kW own idx y b n r hh na) (hd : Dj adX adR ao s.heap.size) (hw : wr.map Prod.fst = (List.range 5).map adR) (hKX : va_K D c2 (tX caX) s) (hKO : va_K D c2 (tO co) s) (hZ : xE s.heap.size sa s s.heap) (hPX : va_P D c2 wx H) (hPR : va_P D c2 wr H) (hPO : va_P D c2 (wO ao co ov) H) (hS : va_S (fun q => s.heap.size ≤ q) s.heap H locs) (hrc : rm.cells = 1) (hrs : rm.slots = 6) (hR : rm.frames + 1 ≤ R.frames ∧ 8 + (n + 11) + rm.locals ≤ R.locals) (hn : As.length = na) (hl : ls.size = nL) (hst : st = As.reverse ++ rest) (hW : (rest.map fun v => v.category).sum ≤ 8) (hdg : decode cc pc = .ok (.invokestatic idx, 3)) (hf : cells + 1 ≤ R.cells ∧ slots + 6 ≤ R.slots)
    (kk : ∀ (z : Int32) (u : S) (H1 : Heap) (locs1 : List Loc), post z u → va_P D c2 (w1 u) H1 → va_P D c2 wr H1 → va_P D c2 (wO ao co ov) H1 → va_S (fun q => s.heap.size ≤ q) s.heap H1 locs1 → W p l e R s m args below meth c H1 locs1 (cells + 1) (slots + 6) Q (F0 m (pc + 3) ls (.int z :: rest))) : W p l e R s m args below meth c H locs cells slots Q (F0 m pc ls st) :=
  va_calli (run_W E hM hk hrc hrs hR (preOZ hPX hPO hKX hKO (hZ.kept (fun a h1 h2 => hS.2.1 a h1 h2)) As) hn hl hst hW hdg hf) hS (fun q _ h => fO_lz hd q h) (fun q h => h) (fun z u t H1 locs1 ht _ hp hB _ hfr hS1 => by
    obtain ⟨h1, h2⟩ := hB
    rw [ht] at h1 h2
    exact kk z u H1 locs1 hp h1 (kpR hd hw hPR hfr) h2 hS1)
theorem hd_c {L i : Nat} (hL : L ≤ 3072) (hi : i ≤ 3072) (h : ¬ nI L - nI 6 < nI i) : i + 6 ≤ L := by
  rw [Int32.lt_iff_toInt_lt, pk_sub_toInt (by omega) (by omega), nI_toInt (by omega)] at h
  omega
theorem hd_g {L i : Nat} (hL : L ≤ 3072) (hi : i ≤ 3072) (h : nI L - nI 6 < nI i) : L < i + 6 := by
  rw [Int32.lt_iff_toInt_lt, pk_sub_toInt (by omega) (by omega), nI_toInt (by omega)] at h
  omega
end LR1
