def LawC (p : Program) (l : Launch) (R : Room) (s : State) (m : MethodId) (args : Array Value) (c : Code) (D : va_G) (cI cZ cL cD : ClassId) (sa : Nat → Nat) (b L : Nat) (xs : Nat → Int32) : Prop := p.tables.exec = Jvm.exec ∧ c.code = cL_law ∧ c.maxLocals = 8 ∧ s.vm.findClass RL = some m.cls ∧ (∀ w ∈ WA, w.before args s = true) ∧ va_X b L xs s s.heap ∧ b < s.heap.size ∧ KK D cI cZ sa s ∧ va_K D vwCl (tyL cL cD) s ∧ ZZ s.heap s ∧ l.stackTraces = false ∧ L ≤ 2560 ∧ 11 ≤ R.frames ∧ 227 ≤ R.locals
def LawS (s : State) (D : va_G) (cI cZ cL cD : ClassId) (q qm : Nat → Nat) (qo qd b i : Nat) (σ κ0 κ1 : ST) (g : Nat → Int64) (gd : Nat → UInt64) (μ : ST) (H : Heap) (locs : List Loc) (ls : Array Slot) : Prop := va_P D vwCl (wT q qm qo qd cI cZ cL cD σ κ0 κ1 g gd μ) H ∧ va_D (fun a => s.heap.size ≤ a) (wT q qm qo qd cI cZ cL cD σ κ0 κ1 g gd μ) ∧ va_S (fun a => s.heap.size ≤ a) s.heap H locs ∧ lv_has ls 8 [(0, .ref (b)), (1, .ref (q 0)), (2, .ref (qm 0)), (3, .ref (qo)), (4, .ref (qd)), (5, .int (nI (i)))]
set_option maxHeartbeats 4000000 in
set_option maxRecDepth 100000 in
theorem law_add {p : Program} {l : Launch} {e : Env} {R : Room} {s : State} {m : MethodId} {args : Array Value} {below : List Frame} {meth : Method} {c : Code} {H : Heap} {locs : List Loc} {cells slots : Nat} {ls : Array Slot} {Q : State → Prop} {D : va_G} {cI cZ cL cD : ClassId} {sa q qm : Nat → Nat} {qo qd b L i : Nat} {xs : Nat → Int32} {σ κ0 κ1 σ1 κ2 κ3 μ μ1 : ST} {g : Nat → Int64} {gd : Nat → UInt64} (C : LawC p l R s m args c D cI cZ cL cD sa b L xs) (hcs : cells + 1 ≤ R.cells) (hss : slots + 6 ≤ R.slots) (hi : i + 5 ≤ L) (hSt : LawS s D cI cZ cL cD q qm qo qd b i σ κ0 κ1 g gd μ H locs ls) {k : Nat} {fg : (Nat → Int64) → Nat → Int64} {fd : (Nat → UInt64) → Nat → UInt64} {r : Int32} (hC : ClsOK yL_add (codeL yL_add cL_add 6 (some .int) [(0, 12, 15, 13), (0, 12, 19, 15)]) σ κ0 κ1 σ1 κ2 κ3 [.int (xs (i + 1)), .int (xs (i + 2)), .int (xs (i + 3))] (some false) k fg fd) (hRf : RefOK yX4_add (codeW yX4_add cX4_add 4 (some .int)) μ μ1 [.int (xs (i + 1)), .int (xs (i + 2)), .int (xs (i + 3))] (some (.int r))) (h0 : μ1 0 2 = k) (hk : k < 4) (hv : k = 0 → (fg g) (nI 0).toNatClampNeg = r.toInt64) (kk : ∀ (H1 : Heap) (locs1 : List Loc) (ls1 : Array Slot), LawS s D cI cZ cL cD q qm qo qd b i σ1 κ2 κ3 (fg g) (fd gd) μ1 H1 locs1 ls1 → W p l e R s m args below meth c H1 locs1 (cells + 1) (slots + 6) Q (F0 m 1929 ls1 [])) : W p l e R s m args below meth c H locs cells slots Q (F0 m 164 ls []) := by
  obtain ⟨hx, hb, hml, hown, htA, hX, hbl, hKK, hKL, hZ, hst9, hL, hR1, hR2⟩ := C
  obtain ⟨hP, hD, hS, hl⟩ := hSt
  have hbA : ¬ (fun a => s.heap.size ≤ a) b := Nat.not_le.mpr hbl
  refine lv_aload_n hx hb dL_law_164 rfl (lv_at hl 1 rfl) ?_
  refine lv_aload_n hx hb dL_law_165 rfl (lv_at hl 0 rfl) ?_
  refine lv_iload hx hb dL_law_166 (lv_at hl 5 rfl) ?_
  refine n_iconst (k := 1) hx hb dL_law_168 (by decide) ?_
  refine n_iadd hx hb dL_law_169 ?_
  refine n_sld (j := i + 1) hx hb hX hbl hbA hS (by omega) (by omega) dL_law_170 ?_
  refine lv_aload_n hx hb dL_law_171 rfl (lv_at hl 0 rfl) ?_
  refine lv_iload hx hb dL_law_172 (lv_at hl 5 rfl) ?_
  refine n_iconst (k := 2) hx hb dL_law_174 (by decide) ?_
  refine n_iadd hx hb dL_law_175 ?_
  refine n_sld (j := i + 2) hx hb hX hbl hbA hS (by omega) (by omega) dL_law_176 ?_
  refine lv_aload_n hx hb dL_law_177 rfl (lv_at hl 0 rfl) ?_
  refine lv_iload hx hb dL_law_178 (lv_at hl 5 rfl) ?_
  refine n_iconst (k := 3) hx hb dL_law_180 (by decide) ?_
  refine n_iadd hx hb dL_law_181 ?_
  refine n_sld (j := i + 3) hx hb hX hbl hbA hS (by omega) (by omega) dL_law_182 ?_
  refine lv_aload_n hx hb dL_law_183 rfl (lv_at hl 3 rfl) ?_
  refine lwS (n := 5) ⟨hx, hb, hml, hown, htA⟩ htA hC rfl (gdS wd_161 wd_162 wd_0 wd_163) (by decide +kernel) (by decide) hR1 (by omega) hst9 hKK hKL (hZ.of hS) hP hD hS rfl hl.1 rfl (Nat.le_of_ble_eq_true rfl) dL_law_184 hcs hss (fun H locs hP hS => ?_)
  have hP : va_P D vwCl (wT q qm qo qd cI cZ cL cD σ1 κ2 κ3 (fg g) (fd gd) μ) H := hP
  have hD : va_D (fun a => s.heap.size ≤ a) (wT q qm qo qd cI cZ cL cD σ1 κ2 κ3 (fg g) (fd gd) μ) := D_addr hD rfl
  refine lv_istore (lv' := [(6, .int (nI (k))), (0, .ref (b)), (1, .ref (q 0)), (2, .ref (qm 0)), (3, .ref (qo)), (4, .ref (qd)), (5, .int (nI (i)))]) hx hb dL_law_187 hl (by decide) rfl (fun ls hl => ?_)
  refine lv_aload_n hx hb dL_law_189 rfl (lv_at hl 3 rfl) ?_
  refine lv_aload_n hx hb dL_law_190 rfl (lv_at hl 1 rfl) ?_
  refine lv_iload hx hb dL_law_191 (lv_at hl 6 rfl) ?_
  refine n_iconst (k := 1) hx hb dL_law_193 (by decide) ?_
  refine n_iadd hx hb dL_law_194 ?_
  refine n_sld (j := i + 1) hx hb hX hbl hbA hS (by omega) (by omega) dL_law_195 ?_
  refine lv_aload_n hx hb dL_law_196 rfl (lv_at hl 1 rfl) ?_
  refine lv_iload hx hb dL_law_197 (lv_at hl 6 rfl) ?_
  refine n_iconst (k := 2) hx hb dL_law_199 (by decide) ?_
  refine n_iadd hx hb dL_law_200 ?_
  refine n_sld (j := i + 2) hx hb hX hbl hbA hS (by omega) (by omega) dL_law_201 ?_
  refine lv_aload_n hx hb dL_law_202 rfl (lv_at hl 1 rfl) ?_
  refine lv_iload hx hb dL_law_203 (lv_at hl 6 rfl) ?_
  refine n_iconst (k := 3) hx hb dL_law_205 (by decide) ?_
  refine n_iadd hx hb dL_law_206 ?_
  refine n_sld (j := i + 3) hx hb hX hbl hbA hS (by omega) (by omega) dL_law_207 ?_
  refine lwV (rest := []) (n := 3) ⟨hx, hb, hml, hown, htA⟩ htA hRf rfl (gdV wd_728 wd_729 wd_730 wd_5 wd_731) (by decide +kernel) (by decide) hR1 hR2 hKK hP hD hS rfl hl.1 rfl (Nat.le_of_ble_eq_true rfl) dL_law_208 (by omega) (by omega) (fun H locs hP hS => ?_)
  have hP : va_P D vwCl (wT q qm qo qd cI cZ cL cD σ1 κ2 κ3 (fg g) (fd gd) μ1) H := hP
  have hD : va_D (fun a => s.heap.size ≤ a) (wT q qm qo qd cI cZ cL cD σ1 κ2 κ3 (fg g) (fd gd) μ1) := D_addr hD rfl
  refine W.eq (g2 := F0 m 211 ls [.int (r)]) rfl ?_
  refine lv_istore (lv' := [(7, .int (r)), (6, .int (nI (k))), (0, .ref (b)), (1, .ref (q 0)), (2, .ref (qm 0)), (3, .ref (qo)), (4, .ref (qd)), (5, .int (nI (i)))]) hx hb dL_law_211 hl (by decide) rfl (fun ls hl => ?_)
  refine lv_aload_n hx hb dL_law_213 rfl (lv_at hl 4 rfl) ?_
  have hPM : va_P D vwCl (wM qm cI cZ μ1) H := hP.sub [26, 27, 28, 29, 30, 31, 32, 33, 34, 35, 36, 37, 38, 39, 40, 41, 42, 43, 44, 45, 46, 47, 48, 49] rfl
  refine roV1 (v := .int (nI (μ1 0 2))) (As := []) (rest := []) (n := 0) ⟨hx, hb, hml, hown, htA⟩ (r_thrown l D cI cZ sa qm μ1 H hPM) (cwV 0 htA (gdV wd_724 wd_725 wd_726 wd_5 wd_727) rfl rfl rfl (by decide +kernel) ⟨Nat.le_trans (by decide) hR1, Nat.le_trans (by decide) hR2⟩) hKK hPM 0 rfl rfl rfl hl.1 rfl (Nat.le_of_ble_eq_true rfl) dL_law_214 (by omega) (by omega) ?_
  rw [h0]
  refine lv_iload hx hb dL_law_217 (lv_at hl 1 rfl) ?_
  refine n_icmp_eq (x := k) (y := k) (tgt := 224) hx hb dL_law_219 (by decide) (by omega) (by omega) (fun _ => ?_) (fun h => absurd rfl h)
  refine lv_iload hx hb dL_law_224 (lv_at hl 1 rfl) ?_
  refine n_ifne (x := k) (tgt := 241) hx hb dL_law_226 (by decide) (by omega) (fun _ => ?_) (fun h => ?_)
  · refine lv_goto (tgt := 1929) hx hb dL_law_241 (by decide) ?_
    exact kk _ _ _ ⟨hP, hD, hS, lv_sub hl [2, 3, 4, 5, 6, 7] rfl⟩
  refine lv_aload_n hx hb dL_law_229 rfl (lv_at hl 5 rfl) ?_
  refine n_iconst (k := 0) hx hb dL_law_230 (by decide) ?_
  refine va_lald hx hb hKL hP 0 0 rfl rfl (vp_in_nI (n := 0) (N := 1) (by decide) (by decide)) dL_law_231 ?_
  rw [hv h]
  refine lv_iload hx hb dL_law_232 (lv_at hl 0 rfl) ?_
  refine lv_i2l hx hb dL_law_234 rfl ?_
  refine W.lcmp hx hb dL_law_235 ?_
  rw [lg_self]
  refine lv_if_eq (tgt := 241) hx hb dL_law_236 (by decide) (fun _ => ?_) (fun h => absurd rfl h)
  refine lv_goto (tgt := 1929) hx hb dL_law_241 (by decide) ?_
  exact kk _ _ _ ⟨hP, hD, hS, lv_sub hl [2, 3, 4, 5, 6, 7] rfl⟩
set_option maxHeartbeats 4000000 in
set_option maxRecDepth 100000 in
theorem law_move {p : Program} {l : Launch} {e : Env} {R : Room} {s : State} {m : MethodId} {args : Array Value} {below : List Frame} {meth : Method} {c : Code} {H : Heap} {locs : List Loc} {cells slots : Nat} {ls : Array Slot} {Q : State → Prop} {D : va_G} {cI cZ cL cD : ClassId} {sa q qm : Nat → Nat} {qo qd b L i : Nat} {xs : Nat → Int32} {σ κ0 κ1 σ1 κ2 κ3 μ μ1 : ST} {g : Nat → Int64} {gd : Nat → UInt64} (C : LawC p l R s m args c D cI cZ cL cD sa b L xs) (hcs : cells + 1 ≤ R.cells) (hss : slots + 6 ≤ R.slots) (hi : i + 5 ≤ L) (hSt : LawS s D cI cZ cL cD q qm qo qd b i σ κ0 κ1 g gd μ H locs ls) {k : Nat} {fg : (Nat → Int64) → Nat → Int64} {fd : (Nat → UInt64) → Nat → UInt64} {r : Int32} (hC : ClsOK yL_move (codeL yL_move cL_move 5 (some .int) [(0, 10, 13, 21), (0, 10, 17, 13)]) σ κ0 κ1 σ1 κ2 κ3 [.int (xs (i + 1)), .int (xs (i + 2))] (some false) k fg fd) (hRf : RefOK yX4_move (codeW yX4_move cX4_move 4 (some .int)) μ μ1 [.int (xs (i + 1)), .int (xs (i + 2))] (some (.int r))) (h0 : μ1 0 2 = k) (hk : k < 4) (hv : k = 0 → (fg g) (nI 0).toNatClampNeg = r.toInt64) (kk : ∀ (H1 : Heap) (locs1 : List Loc) (ls1 : Array Slot), LawS s D cI cZ cL cD q qm qo qd b i σ1 κ2 κ3 (fg g) (fd gd) μ1 H1 locs1 ls1 → W p l e R s m args below meth c H1 locs1 (cells + 1) (slots + 6) Q (F0 m 1929 ls1 [])) : W p l e R s m args below meth c H locs cells slots Q (F0 m 244 ls []) := by
  obtain ⟨hx, hb, hml, hown, htA, hX, hbl, hKK, hKL, hZ, hst9, hL, hR1, hR2⟩ := C
  obtain ⟨hP, hD, hS, hl⟩ := hSt
  have hbA : ¬ (fun a => s.heap.size ≤ a) b := Nat.not_le.mpr hbl
  refine lv_aload_n hx hb dL_law_244 rfl (lv_at hl 1 rfl) ?_
  refine lv_aload_n hx hb dL_law_245 rfl (lv_at hl 0 rfl) ?_
  refine lv_iload hx hb dL_law_246 (lv_at hl 5 rfl) ?_
  refine n_iconst (k := 1) hx hb dL_law_248 (by decide) ?_
  refine n_iadd hx hb dL_law_249 ?_
  refine n_sld (j := i + 1) hx hb hX hbl hbA hS (by omega) (by omega) dL_law_250 ?_
  refine lv_aload_n hx hb dL_law_251 rfl (lv_at hl 0 rfl) ?_
  refine lv_iload hx hb dL_law_252 (lv_at hl 5 rfl) ?_
  refine n_iconst (k := 2) hx hb dL_law_254 (by decide) ?_
  refine n_iadd hx hb dL_law_255 ?_
  refine n_sld (j := i + 2) hx hb hX hbl hbA hS (by omega) (by omega) dL_law_256 ?_
  refine lv_aload_n hx hb dL_law_257 rfl (lv_at hl 3 rfl) ?_
  refine lwS (n := 4) ⟨hx, hb, hml, hown, htA⟩ htA hC rfl (gdS wd_293 wd_294 wd_0 wd_295) (by decide +kernel) (by decide) hR1 (by omega) hst9 hKK hKL (hZ.of hS) hP hD hS rfl hl.1 rfl (Nat.le_of_ble_eq_true rfl) dL_law_258 hcs hss (fun H locs hP hS => ?_)
  have hP : va_P D vwCl (wT q qm qo qd cI cZ cL cD σ1 κ2 κ3 (fg g) (fd gd) μ) H := hP
  have hD : va_D (fun a => s.heap.size ≤ a) (wT q qm qo qd cI cZ cL cD σ1 κ2 κ3 (fg g) (fd gd) μ) := D_addr hD rfl
  refine lv_istore (lv' := [(6, .int (nI (k))), (0, .ref (b)), (1, .ref (q 0)), (2, .ref (qm 0)), (3, .ref (qo)), (4, .ref (qd)), (5, .int (nI (i)))]) hx hb dL_law_261 hl (by decide) rfl (fun ls hl => ?_)
  refine lv_aload_n hx hb dL_law_263 rfl (lv_at hl 3 rfl) ?_
  refine lv_aload_n hx hb dL_law_264 rfl (lv_at hl 1 rfl) ?_
  refine lv_iload hx hb dL_law_265 (lv_at hl 6 rfl) ?_
  refine n_iconst (k := 1) hx hb dL_law_267 (by decide) ?_
  refine n_iadd hx hb dL_law_268 ?_
  refine n_sld (j := i + 1) hx hb hX hbl hbA hS (by omega) (by omega) dL_law_269 ?_
  refine lv_aload_n hx hb dL_law_270 rfl (lv_at hl 1 rfl) ?_
  refine lv_iload hx hb dL_law_271 (lv_at hl 6 rfl) ?_
  refine n_iconst (k := 2) hx hb dL_law_273 (by decide) ?_
  refine n_iadd hx hb dL_law_274 ?_
  refine n_sld (j := i + 2) hx hb hX hbl hbA hS (by omega) (by omega) dL_law_275 ?_
  refine lwV (rest := []) (n := 2) ⟨hx, hb, hml, hown, htA⟩ htA hRf rfl (gdV wd_743 wd_744 wd_745 wd_5 wd_746) (by decide +kernel) (by decide) hR1 hR2 hKK hP hD hS rfl hl.1 rfl (Nat.le_of_ble_eq_true rfl) dL_law_276 (by omega) (by omega) (fun H locs hP hS => ?_)
  have hP : va_P D vwCl (wT q qm qo qd cI cZ cL cD σ1 κ2 κ3 (fg g) (fd gd) μ1) H := hP
  have hD : va_D (fun a => s.heap.size ≤ a) (wT q qm qo qd cI cZ cL cD σ1 κ2 κ3 (fg g) (fd gd) μ1) := D_addr hD rfl
  refine W.eq (g2 := F0 m 279 ls [.int (r)]) rfl ?_
  refine lv_istore (lv' := [(7, .int (r)), (6, .int (nI (k))), (0, .ref (b)), (1, .ref (q 0)), (2, .ref (qm 0)), (3, .ref (qo)), (4, .ref (qd)), (5, .int (nI (i)))]) hx hb dL_law_279 hl (by decide) rfl (fun ls hl => ?_)
  refine lv_aload_n hx hb dL_law_281 rfl (lv_at hl 4 rfl) ?_
  have hPM : va_P D vwCl (wM qm cI cZ μ1) H := hP.sub [26, 27, 28, 29, 30, 31, 32, 33, 34, 35, 36, 37, 38, 39, 40, 41, 42, 43, 44, 45, 46, 47, 48, 49] rfl
  refine roV1 (v := .int (nI (μ1 0 2))) (As := []) (rest := []) (n := 0) ⟨hx, hb, hml, hown, htA⟩ (r_thrown l D cI cZ sa qm μ1 H hPM) (cwV 0 htA (gdV wd_724 wd_725 wd_726 wd_5 wd_727) rfl rfl rfl (by decide +kernel) ⟨Nat.le_trans (by decide) hR1, Nat.le_trans (by decide) hR2⟩) hKK hPM 0 rfl rfl rfl hl.1 rfl (Nat.le_of_ble_eq_true rfl) dL_law_282 (by omega) (by omega) ?_
  rw [h0]
  refine lv_iload hx hb dL_law_285 (lv_at hl 1 rfl) ?_
  refine n_icmp_eq (x := k) (y := k) (tgt := 292) hx hb dL_law_287 (by decide) (by omega) (by omega) (fun _ => ?_) (fun h => absurd rfl h)
  refine lv_iload hx hb dL_law_292 (lv_at hl 1 rfl) ?_
  refine n_ifne (x := k) (tgt := 309) hx hb dL_law_294 (by decide) (by omega) (fun _ => ?_) (fun h => ?_)
  · refine lv_goto (tgt := 1929) hx hb dL_law_309 (by decide) ?_
    exact kk _ _ _ ⟨hP, hD, hS, lv_sub hl [2, 3, 4, 5, 6, 7] rfl⟩
  refine lv_aload_n hx hb dL_law_297 rfl (lv_at hl 5 rfl) ?_
  refine n_iconst (k := 0) hx hb dL_law_298 (by decide) ?_
  refine va_lald hx hb hKL hP 0 0 rfl rfl (vp_in_nI (n := 0) (N := 1) (by decide) (by decide)) dL_law_299 ?_
  rw [hv h]
  refine lv_iload hx hb dL_law_300 (lv_at hl 0 rfl) ?_
  refine lv_i2l hx hb dL_law_302 rfl ?_
  refine W.lcmp hx hb dL_law_303 ?_
  rw [lg_self]
  refine lv_if_eq (tgt := 309) hx hb dL_law_304 (by decide) (fun _ => ?_) (fun h => absurd rfl h)
  refine lv_goto (tgt := 1929) hx hb dL_law_309 (by decide) ?_
  exact kk _ _ _ ⟨hP, hD, hS, lv_sub hl [2, 3, 4, 5, 6, 7] rfl⟩
set_option maxHeartbeats 4000000 in
set_option maxRecDepth 100000 in
theorem law_flag {p : Program} {l : Launch} {e : Env} {R : Room} {s : State} {m : MethodId} {args : Array Value} {below : List Frame} {meth : Method} {c : Code} {H : Heap} {locs : List Loc} {cells slots : Nat} {ls : Array Slot} {Q : State → Prop} {D : va_G} {cI cZ cL cD : ClassId} {sa q qm : Nat → Nat} {qo qd b L i : Nat} {xs : Nat → Int32} {σ κ0 κ1 σ1 κ2 κ3 μ μ1 : ST} {g : Nat → Int64} {gd : Nat → UInt64} (C : LawC p l R s m args c D cI cZ cL cD sa b L xs) (hcs : cells + 1 ≤ R.cells) (hss : slots + 6 ≤ R.slots) (hi : i + 5 ≤ L) (hSt : LawS s D cI cZ cL cD q qm qo qd b i σ κ0 κ1 g gd μ H locs ls) {k : Nat} {fg : (Nat → Int64) → Nat → Int64} {fd : (Nat → UInt64) → Nat → UInt64} {r : Bool} (hC : ClsOK yL_flag (codeL yL_flag cL_flag 6 (some .int) [(0, 19, 22, 21), (0, 19, 26, 13)]) σ κ0 κ1 σ1 κ2 κ3 [.int (xs (i + 1)), .int (xs (i + 2)), .int (b2i (!decide (xs (i + 3) = 0)))] (some false) k fg fd) (hRf : RefOK yX4_flag (codeW yX4_flag cX4_flag 4 (some .boolean)) μ μ1 [.int (xs (i + 1)), .int (xs (i + 2)), .int (b2i (!decide (xs (i + 3) = 0)))] (some (.int (b2i r)))) (h0 : μ1 0 2 = k) (hk : k < 4) (hv : k = 0 → (fg g) (nI 0).toNatClampNeg = bl r) (kk : ∀ (H1 : Heap) (locs1 : List Loc) (ls1 : Array Slot), LawS s D cI cZ cL cD q qm qo qd b i σ1 κ2 κ3 (fg g) (fd gd) μ1 H1 locs1 ls1 → W p l e R s m args below meth c H1 locs1 (cells + 1) (slots + 6) Q (F0 m 1929 ls1 [])) : W p l e R s m args below meth c H locs cells slots Q (F0 m 312 ls []) := by
  obtain ⟨hx, hb, hml, hown, htA, hX, hbl, hKK, hKL, hZ, hst9, hL, hR1, hR2⟩ := C
  obtain ⟨hP, hD, hS, hl⟩ := hSt
  have hbA : ¬ (fun a => s.heap.size ≤ a) b := Nat.not_le.mpr hbl
  refine lv_aload_n hx hb dL_law_312 rfl (lv_at hl 1 rfl) ?_
  refine lv_aload_n hx hb dL_law_313 rfl (lv_at hl 0 rfl) ?_
  refine lv_iload hx hb dL_law_314 (lv_at hl 5 rfl) ?_
  refine n_iconst (k := 1) hx hb dL_law_316 (by decide) ?_
  refine n_iadd hx hb dL_law_317 ?_
  refine n_sld (j := i + 1) hx hb hX hbl hbA hS (by omega) (by omega) dL_law_318 ?_
  refine lv_aload_n hx hb dL_law_319 rfl (lv_at hl 0 rfl) ?_
  refine lv_iload hx hb dL_law_320 (lv_at hl 5 rfl) ?_
  refine n_iconst (k := 2) hx hb dL_law_322 (by decide) ?_
  refine n_iadd hx hb dL_law_323 ?_
  refine n_sld (j := i + 2) hx hb hX hbl hbA hS (by omega) (by omega) dL_law_324 ?_
  refine lv_aload_n hx hb dL_law_325 rfl (lv_at hl 0 rfl) ?_
  refine lv_iload hx hb dL_law_326 (lv_at hl 5 rfl) ?_
  refine n_iconst (k := 3) hx hb dL_law_328 (by decide) ?_
  refine n_iadd hx hb dL_law_329 ?_
  refine n_sld (j := i + 3) hx hb hX hbl hbA hS (by omega) (by omega) dL_law_330 ?_
  refine ne0 hx hb dL_law_331 dL_law_334 dL_law_335 dL_law_338 ?_
  refine lv_aload_n hx hb dL_law_339 rfl (lv_at hl 3 rfl) ?_
  refine lwS (n := 5) ⟨hx, hb, hml, hown, htA⟩ htA hC rfl (gdS wd_335 wd_336 wd_0 wd_337) (by decide +kernel) (by decide) hR1 (by omega) hst9 hKK hKL (hZ.of hS) hP hD hS rfl hl.1 rfl (Nat.le_of_ble_eq_true rfl) dL_law_340 hcs hss (fun H locs hP hS => ?_)
  have hP : va_P D vwCl (wT q qm qo qd cI cZ cL cD σ1 κ2 κ3 (fg g) (fd gd) μ) H := hP
  have hD : va_D (fun a => s.heap.size ≤ a) (wT q qm qo qd cI cZ cL cD σ1 κ2 κ3 (fg g) (fd gd) μ) := D_addr hD rfl
  refine lv_istore (lv' := [(6, .int (nI (k))), (0, .ref (b)), (1, .ref (q 0)), (2, .ref (qm 0)), (3, .ref (qo)), (4, .ref (qd)), (5, .int (nI (i)))]) hx hb dL_law_343 hl (by decide) rfl (fun ls hl => ?_)
  refine lv_aload_n hx hb dL_law_345 rfl (lv_at hl 3 rfl) ?_
  refine lv_aload_n hx hb dL_law_346 rfl (lv_at hl 1 rfl) ?_
  refine lv_iload hx hb dL_law_347 (lv_at hl 6 rfl) ?_
  refine n_iconst (k := 1) hx hb dL_law_349 (by decide) ?_
  refine n_iadd hx hb dL_law_350 ?_
  refine n_sld (j := i + 1) hx hb hX hbl hbA hS (by omega) (by omega) dL_law_351 ?_
  refine lv_aload_n hx hb dL_law_352 rfl (lv_at hl 1 rfl) ?_
  refine lv_iload hx hb dL_law_353 (lv_at hl 6 rfl) ?_
  refine n_iconst (k := 2) hx hb dL_law_355 (by decide) ?_
  refine n_iadd hx hb dL_law_356 ?_
  refine n_sld (j := i + 2) hx hb hX hbl hbA hS (by omega) (by omega) dL_law_357 ?_
  refine lv_aload_n hx hb dL_law_358 rfl (lv_at hl 1 rfl) ?_
  refine lv_iload hx hb dL_law_359 (lv_at hl 6 rfl) ?_
  refine n_iconst (k := 3) hx hb dL_law_361 (by decide) ?_
  refine n_iadd hx hb dL_law_362 ?_
  refine n_sld (j := i + 3) hx hb hX hbl hbA hS (by omega) (by omega) dL_law_363 ?_
  refine ne0 hx hb dL_law_364 dL_law_367 dL_law_368 dL_law_371 ?_
  refine lwV (rest := []) (n := 3) ⟨hx, hb, hml, hown, htA⟩ htA hRf rfl (gdV wd_751 wd_752 wd_753 wd_5 wd_754) (by decide +kernel) (by decide) hR1 hR2 hKK hP hD hS rfl hl.1 rfl (Nat.le_of_ble_eq_true rfl) dL_law_372 (by omega) (by omega) (fun H locs hP hS => ?_)
  have hP : va_P D vwCl (wT q qm qo qd cI cZ cL cD σ1 κ2 κ3 (fg g) (fd gd) μ1) H := hP
  have hD : va_D (fun a => s.heap.size ≤ a) (wT q qm qo qd cI cZ cL cD σ1 κ2 κ3 (fg g) (fd gd) μ1) := D_addr hD rfl
  refine W.eq (g2 := F0 m 375 ls [.int (b2i (r))]) rfl ?_
  refine lv_istore (lv' := [(7, .int (b2i (r))), (6, .int (nI (k))), (0, .ref (b)), (1, .ref (q 0)), (2, .ref (qm 0)), (3, .ref (qo)), (4, .ref (qd)), (5, .int (nI (i)))]) hx hb dL_law_375 hl (by decide) rfl (fun ls hl => ?_)
  refine lv_aload_n hx hb dL_law_377 rfl (lv_at hl 4 rfl) ?_
  have hPM : va_P D vwCl (wM qm cI cZ μ1) H := hP.sub [26, 27, 28, 29, 30, 31, 32, 33, 34, 35, 36, 37, 38, 39, 40, 41, 42, 43, 44, 45, 46, 47, 48, 49] rfl
  refine roV1 (v := .int (nI (μ1 0 2))) (As := []) (rest := []) (n := 0) ⟨hx, hb, hml, hown, htA⟩ (r_thrown l D cI cZ sa qm μ1 H hPM) (cwV 0 htA (gdV wd_724 wd_725 wd_726 wd_5 wd_727) rfl rfl rfl (by decide +kernel) ⟨Nat.le_trans (by decide) hR1, Nat.le_trans (by decide) hR2⟩) hKK hPM 0 rfl rfl rfl hl.1 rfl (Nat.le_of_ble_eq_true rfl) dL_law_378 (by omega) (by omega) ?_
  rw [h0]
  refine lv_iload hx hb dL_law_381 (lv_at hl 1 rfl) ?_
  refine n_icmp_eq (x := k) (y := k) (tgt := 388) hx hb dL_law_383 (by decide) (by omega) (by omega) (fun _ => ?_) (fun h => absurd rfl h)
  refine lv_iload hx hb dL_law_388 (lv_at hl 1 rfl) ?_
  refine n_ifne (x := k) (tgt := 412) hx hb dL_law_390 (by decide) (by omega) (fun _ => ?_) (fun h => ?_)
  · refine lv_goto (tgt := 1929) hx hb dL_law_412 (by decide) ?_
    exact kk _ _ _ ⟨hP, hD, hS, lv_sub hl [2, 3, 4, 5, 6, 7] rfl⟩
  refine lv_aload_n hx hb dL_law_393 rfl (lv_at hl 5 rfl) ?_
  refine n_iconst (k := 0) hx hb dL_law_394 (by decide) ?_
  refine va_lald hx hb hKL hP 0 0 rfl rfl (vp_in_nI (n := 0) (N := 1) (by decide) (by decide)) dL_law_395 ?_
  rw [hv h]
  refine lv_iload hx hb dL_law_396 (lv_at hl 0 rfl) ?_
  refine bl0 hx hb dL_law_398 dL_law_401 dL_law_402 dL_law_405 ?_
  refine W.lcmp hx hb dL_law_406 ?_
  rw [lg_self]
  refine lv_if_eq (tgt := 412) hx hb dL_law_407 (by decide) (fun _ => ?_) (fun h => absurd rfl h)
  refine lv_goto (tgt := 1929) hx hb dL_law_412 (by decide) ?_
  exact kk _ _ _ ⟨hP, hD, hS, lv_sub hl [2, 3, 4, 5, 6, 7] rfl⟩
set_option maxHeartbeats 4000000 in
set_option maxRecDepth 100000 in
theorem law_flagIf {p : Program} {l : Launch} {e : Env} {R : Room} {s : State} {m : MethodId} {args : Array Value} {below : List Frame} {meth : Method} {c : Code} {H : Heap} {locs : List Loc} {cells slots : Nat} {ls : Array Slot} {Q : State → Prop} {D : va_G} {cI cZ cL cD : ClassId} {sa q qm : Nat → Nat} {qo qd b L i : Nat} {xs : Nat → Int32} {σ κ0 κ1 σ1 κ2 κ3 μ μ1 : ST} {g : Nat → Int64} {gd : Nat → UInt64} (C : LawC p l R s m args c D cI cZ cL cD sa b L xs) (hcs : cells + 1 ≤ R.cells) (hss : slots + 6 ≤ R.slots) (hi : i + 5 ≤ L) (hSt : LawS s D cI cZ cL cD q qm qo qd b i σ κ0 κ1 g gd μ H locs ls) {k : Nat} {fg : (Nat → Int64) → Nat → Int64} {fd : (Nat → UInt64) → Nat → UInt64} {r : Bool} (hC : ClsOK yL_flagIf (codeL yL_flagIf cL_flagIf 7 (some .int) [(0, 21, 24, 21), (0, 21, 28, 13), (0, 21, 32, 15)]) σ κ0 κ1 σ1 κ2 κ3 [.int (xs (i + 1)), .int (xs (i + 2)), .int (b2i (!decide (xs (i + 3) = 0))), .int (xs (i + 4))] (some false) k fg fd) (hRf : RefOK yX4_flagIf (codeW yX4_flagIf cX4_flagIf 6 (some .boolean)) μ μ1 [.int (xs (i + 1)), .int (xs (i + 2)), .int (b2i (!decide (xs (i + 3) = 0))), .int (xs (i + 4))] (some (.int (b2i r)))) (h0 : μ1 0 2 = k) (hk : k < 4) (hv : k = 0 → (fg g) (nI 0).toNatClampNeg = bl r) (kk : ∀ (H1 : Heap) (locs1 : List Loc) (ls1 : Array Slot), LawS s D cI cZ cL cD q qm qo qd b i σ1 κ2 κ3 (fg g) (fd gd) μ1 H1 locs1 ls1 → W p l e R s m args below meth c H1 locs1 (cells + 1) (slots + 6) Q (F0 m 1929 ls1 [])) : W p l e R s m args below meth c H locs cells slots Q (F0 m 415 ls []) := by
  obtain ⟨hx, hb, hml, hown, htA, hX, hbl, hKK, hKL, hZ, hst9, hL, hR1, hR2⟩ := C
  obtain ⟨hP, hD, hS, hl⟩ := hSt
  have hbA : ¬ (fun a => s.heap.size ≤ a) b := Nat.not_le.mpr hbl
  refine lv_aload_n hx hb dL_law_415 rfl (lv_at hl 1 rfl) ?_
  refine lv_aload_n hx hb dL_law_416 rfl (lv_at hl 0 rfl) ?_
  refine lv_iload hx hb dL_law_417 (lv_at hl 5 rfl) ?_
  refine n_iconst (k := 1) hx hb dL_law_419 (by decide) ?_
  refine n_iadd hx hb dL_law_420 ?_
  refine n_sld (j := i + 1) hx hb hX hbl hbA hS (by omega) (by omega) dL_law_421 ?_
  refine lv_aload_n hx hb dL_law_422 rfl (lv_at hl 0 rfl) ?_
  refine lv_iload hx hb dL_law_423 (lv_at hl 5 rfl) ?_
  refine n_iconst (k := 2) hx hb dL_law_425 (by decide) ?_
  refine n_iadd hx hb dL_law_426 ?_
  refine n_sld (j := i + 2) hx hb hX hbl hbA hS (by omega) (by omega) dL_law_427 ?_
  refine lv_aload_n hx hb dL_law_428 rfl (lv_at hl 0 rfl) ?_
  refine lv_iload hx hb dL_law_429 (lv_at hl 5 rfl) ?_
  refine n_iconst (k := 3) hx hb dL_law_431 (by decide) ?_
  refine n_iadd hx hb dL_law_432 ?_
  refine n_sld (j := i + 3) hx hb hX hbl hbA hS (by omega) (by omega) dL_law_433 ?_
  refine ne0 hx hb dL_law_434 dL_law_437 dL_law_438 dL_law_441 ?_
  refine lv_aload_n hx hb dL_law_442 rfl (lv_at hl 0 rfl) ?_
  refine lv_iload hx hb dL_law_443 (lv_at hl 5 rfl) ?_
  refine n_iconst (k := 4) hx hb dL_law_445 (by decide) ?_
  refine n_iadd hx hb dL_law_446 ?_
  refine n_sld (j := i + 4) hx hb hX hbl hbA hS (by omega) (by omega) dL_law_447 ?_
  refine lv_aload_n hx hb dL_law_448 rfl (lv_at hl 3 rfl) ?_
  refine lwS (n := 6) ⟨hx, hb, hml, hown, htA⟩ htA hC rfl (gdS wd_351 wd_352 wd_0 wd_353) (by decide +kernel) (by decide) hR1 (by omega) hst9 hKK hKL (hZ.of hS) hP hD hS rfl hl.1 rfl (Nat.le_of_ble_eq_true rfl) dL_law_449 hcs hss (fun H locs hP hS => ?_)
  have hP : va_P D vwCl (wT q qm qo qd cI cZ cL cD σ1 κ2 κ3 (fg g) (fd gd) μ) H := hP
  have hD : va_D (fun a => s.heap.size ≤ a) (wT q qm qo qd cI cZ cL cD σ1 κ2 κ3 (fg g) (fd gd) μ) := D_addr hD rfl
  refine lv_istore (lv' := [(6, .int (nI (k))), (0, .ref (b)), (1, .ref (q 0)), (2, .ref (qm 0)), (3, .ref (qo)), (4, .ref (qd)), (5, .int (nI (i)))]) hx hb dL_law_452 hl (by decide) rfl (fun ls hl => ?_)
  refine lv_aload_n hx hb dL_law_454 rfl (lv_at hl 3 rfl) ?_
  refine lv_aload_n hx hb dL_law_455 rfl (lv_at hl 1 rfl) ?_
  refine lv_iload hx hb dL_law_456 (lv_at hl 6 rfl) ?_
  refine n_iconst (k := 1) hx hb dL_law_458 (by decide) ?_
  refine n_iadd hx hb dL_law_459 ?_
  refine n_sld (j := i + 1) hx hb hX hbl hbA hS (by omega) (by omega) dL_law_460 ?_
  refine lv_aload_n hx hb dL_law_461 rfl (lv_at hl 1 rfl) ?_
  refine lv_iload hx hb dL_law_462 (lv_at hl 6 rfl) ?_
  refine n_iconst (k := 2) hx hb dL_law_464 (by decide) ?_
  refine n_iadd hx hb dL_law_465 ?_
  refine n_sld (j := i + 2) hx hb hX hbl hbA hS (by omega) (by omega) dL_law_466 ?_
  refine lv_aload_n hx hb dL_law_467 rfl (lv_at hl 1 rfl) ?_
  refine lv_iload hx hb dL_law_468 (lv_at hl 6 rfl) ?_
  refine n_iconst (k := 3) hx hb dL_law_470 (by decide) ?_
  refine n_iadd hx hb dL_law_471 ?_
  refine n_sld (j := i + 3) hx hb hX hbl hbA hS (by omega) (by omega) dL_law_472 ?_
  refine ne0 hx hb dL_law_473 dL_law_476 dL_law_477 dL_law_480 ?_
  refine lv_aload_n hx hb dL_law_481 rfl (lv_at hl 1 rfl) ?_
  refine lv_iload hx hb dL_law_482 (lv_at hl 6 rfl) ?_
  refine n_iconst (k := 4) hx hb dL_law_484 (by decide) ?_
  refine n_iadd hx hb dL_law_485 ?_
  refine n_sld (j := i + 4) hx hb hX hbl hbA hS (by omega) (by omega) dL_law_486 ?_
  refine lwV (rest := []) (n := 4) ⟨hx, hb, hml, hown, htA⟩ htA hRf rfl (gdV wd_762 wd_763 wd_764 wd_5 wd_765) (by decide +kernel) (by decide) hR1 hR2 hKK hP hD hS rfl hl.1 rfl (Nat.le_of_ble_eq_true rfl) dL_law_487 (by omega) (by omega) (fun H locs hP hS => ?_)
  have hP : va_P D vwCl (wT q qm qo qd cI cZ cL cD σ1 κ2 κ3 (fg g) (fd gd) μ1) H := hP
  have hD : va_D (fun a => s.heap.size ≤ a) (wT q qm qo qd cI cZ cL cD σ1 κ2 κ3 (fg g) (fd gd) μ1) := D_addr hD rfl
  refine W.eq (g2 := F0 m 490 ls [.int (b2i (r))]) rfl ?_
  refine lv_istore (lv' := [(7, .int (b2i (r))), (6, .int (nI (k))), (0, .ref (b)), (1, .ref (q 0)), (2, .ref (qm 0)), (3, .ref (qo)), (4, .ref (qd)), (5, .int (nI (i)))]) hx hb dL_law_490 hl (by decide) rfl (fun ls hl => ?_)
  refine lv_aload_n hx hb dL_law_492 rfl (lv_at hl 4 rfl) ?_
  have hPM : va_P D vwCl (wM qm cI cZ μ1) H := hP.sub [26, 27, 28, 29, 30, 31, 32, 33, 34, 35, 36, 37, 38, 39, 40, 41, 42, 43, 44, 45, 46, 47, 48, 49] rfl
  refine roV1 (v := .int (nI (μ1 0 2))) (As := []) (rest := []) (n := 0) ⟨hx, hb, hml, hown, htA⟩ (r_thrown l D cI cZ sa qm μ1 H hPM) (cwV 0 htA (gdV wd_724 wd_725 wd_726 wd_5 wd_727) rfl rfl rfl (by decide +kernel) ⟨Nat.le_trans (by decide) hR1, Nat.le_trans (by decide) hR2⟩) hKK hPM 0 rfl rfl rfl hl.1 rfl (Nat.le_of_ble_eq_true rfl) dL_law_493 (by omega) (by omega) ?_
  rw [h0]
  refine lv_iload hx hb dL_law_496 (lv_at hl 1 rfl) ?_
  refine n_icmp_eq (x := k) (y := k) (tgt := 503) hx hb dL_law_498 (by decide) (by omega) (by omega) (fun _ => ?_) (fun h => absurd rfl h)
  refine lv_iload hx hb dL_law_503 (lv_at hl 1 rfl) ?_
  refine n_ifne (x := k) (tgt := 527) hx hb dL_law_505 (by decide) (by omega) (fun _ => ?_) (fun h => ?_)
  · refine lv_goto (tgt := 1929) hx hb dL_law_527 (by decide) ?_
    exact kk _ _ _ ⟨hP, hD, hS, lv_sub hl [2, 3, 4, 5, 6, 7] rfl⟩
  refine lv_aload_n hx hb dL_law_508 rfl (lv_at hl 5 rfl) ?_
  refine n_iconst (k := 0) hx hb dL_law_509 (by decide) ?_
  refine va_lald hx hb hKL hP 0 0 rfl rfl (vp_in_nI (n := 0) (N := 1) (by decide) (by decide)) dL_law_510 ?_
  rw [hv h]
  refine lv_iload hx hb dL_law_511 (lv_at hl 0 rfl) ?_
  refine bl0 hx hb dL_law_513 dL_law_516 dL_law_517 dL_law_520 ?_
  refine W.lcmp hx hb dL_law_521 ?_
  rw [lg_self]
  refine lv_if_eq (tgt := 527) hx hb dL_law_522 (by decide) (fun _ => ?_) (fun h => absurd rfl h)
  refine lv_goto (tgt := 1929) hx hb dL_law_527 (by decide) ?_
  exact kk _ _ _ ⟨hP, hD, hS, lv_sub hl [2, 3, 4, 5, 6, 7] rfl⟩
set_option maxHeartbeats 4000000 in
set_option maxRecDepth 100000 in
theorem law_destroy {p : Program} {l : Launch} {e : Env} {R : Room} {s : State} {m : MethodId} {args : Array Value} {below : List Frame} {meth : Method} {c : Code} {H : Heap} {locs : List Loc} {cells slots : Nat} {ls : Array Slot} {Q : State → Prop} {D : va_G} {cI cZ cL cD : ClassId} {sa q qm : Nat → Nat} {qo qd b L i : Nat} {xs : Nat → Int32} {σ κ0 κ1 σ1 κ2 κ3 μ μ1 : ST} {g : Nat → Int64} {gd : Nat → UInt64} (C : LawC p l R s m args c D cI cZ cL cD sa b L xs) (hcs : cells + 1 ≤ R.cells) (hss : slots + 6 ≤ R.slots) (hi : i + 5 ≤ L) (hSt : LawS s D cI cZ cL cD q qm qo qd b i σ κ0 κ1 g gd μ H locs ls) {k : Nat} {fg : (Nat → Int64) → Nat → Int64} {fd : (Nat → UInt64) → Nat → UInt64} {r : Int32} (hC : ClsOK yL_destroy (codeL yL_destroy cL_destroy 4 (some .int) [(0, 9, 12, 21)]) σ κ0 κ1 σ1 κ2 κ3 [.int (xs (i + 1))] (some false) k fg fd) (hRf : RefOK yX4_destroy (codeW yX4_destroy cX4_destroy 2 (some .int)) μ μ1 [.int (xs (i + 1))] (some (.int r))) (h0 : μ1 0 2 = k) (hk : k < 4) (hv : k = 0 → (fg g) (nI 0).toNatClampNeg = r.toInt64) (kk : ∀ (H1 : Heap) (locs1 : List Loc) (ls1 : Array Slot), LawS s D cI cZ cL cD q qm qo qd b i σ1 κ2 κ3 (fg g) (fd gd) μ1 H1 locs1 ls1 → W p l e R s m args below meth c H1 locs1 (cells + 1) (slots + 6) Q (F0 m 1929 ls1 [])) : W p l e R s m args below meth c H locs cells slots Q (F0 m 530 ls []) := by
  obtain ⟨hx, hb, hml, hown, htA, hX, hbl, hKK, hKL, hZ, hst9, hL, hR1, hR2⟩ := C
  obtain ⟨hP, hD, hS, hl⟩ := hSt
  have hbA : ¬ (fun a => s.heap.size ≤ a) b := Nat.not_le.mpr hbl
  refine lv_aload_n hx hb dL_law_530 rfl (lv_at hl 1 rfl) ?_
  refine lv_aload_n hx hb dL_law_531 rfl (lv_at hl 0 rfl) ?_
  refine lv_iload hx hb dL_law_532 (lv_at hl 5 rfl) ?_
  refine n_iconst (k := 1) hx hb dL_law_534 (by decide) ?_
  refine n_iadd hx hb dL_law_535 ?_
  refine n_sld (j := i + 1) hx hb hX hbl hbA hS (by omega) (by omega) dL_law_536 ?_
  refine lv_aload_n hx hb dL_law_537 rfl (lv_at hl 3 rfl) ?_
  refine lwS (n := 3) ⟨hx, hb, hml, hown, htA⟩ htA hC rfl (gdS wd_359 wd_360 wd_0 wd_361) (by decide +kernel) (by decide) hR1 (by omega) hst9 hKK hKL (hZ.of hS) hP hD hS rfl hl.1 rfl (Nat.le_of_ble_eq_true rfl) dL_law_538 hcs hss (fun H locs hP hS => ?_)
  have hP : va_P D vwCl (wT q qm qo qd cI cZ cL cD σ1 κ2 κ3 (fg g) (fd gd) μ) H := hP
  have hD : va_D (fun a => s.heap.size ≤ a) (wT q qm qo qd cI cZ cL cD σ1 κ2 κ3 (fg g) (fd gd) μ) := D_addr hD rfl
  refine lv_istore (lv' := [(6, .int (nI (k))), (0, .ref (b)), (1, .ref (q 0)), (2, .ref (qm 0)), (3, .ref (qo)), (4, .ref (qd)), (5, .int (nI (i)))]) hx hb dL_law_541 hl (by decide) rfl (fun ls hl => ?_)
  refine lv_aload_n hx hb dL_law_543 rfl (lv_at hl 3 rfl) ?_
  refine lv_aload_n hx hb dL_law_544 rfl (lv_at hl 1 rfl) ?_
  refine lv_iload hx hb dL_law_545 (lv_at hl 6 rfl) ?_
  refine n_iconst (k := 1) hx hb dL_law_547 (by decide) ?_
  refine n_iadd hx hb dL_law_548 ?_
  refine n_sld (j := i + 1) hx hb hX hbl hbA hS (by omega) (by omega) dL_law_549 ?_
  refine lwV (rest := []) (n := 1) ⟨hx, hb, hml, hown, htA⟩ htA hRf rfl (gdV wd_766 wd_767 wd_768 wd_5 wd_769) (by decide +kernel) (by decide) hR1 hR2 hKK hP hD hS rfl hl.1 rfl (Nat.le_of_ble_eq_true rfl) dL_law_550 (by omega) (by omega) (fun H locs hP hS => ?_)
  have hP : va_P D vwCl (wT q qm qo qd cI cZ cL cD σ1 κ2 κ3 (fg g) (fd gd) μ1) H := hP
  have hD : va_D (fun a => s.heap.size ≤ a) (wT q qm qo qd cI cZ cL cD σ1 κ2 κ3 (fg g) (fd gd) μ1) := D_addr hD rfl
  refine W.eq (g2 := F0 m 553 ls [.int (r)]) rfl ?_
  refine lv_istore (lv' := [(7, .int (r)), (6, .int (nI (k))), (0, .ref (b)), (1, .ref (q 0)), (2, .ref (qm 0)), (3, .ref (qo)), (4, .ref (qd)), (5, .int (nI (i)))]) hx hb dL_law_553 hl (by decide) rfl (fun ls hl => ?_)
  refine lv_aload_n hx hb dL_law_555 rfl (lv_at hl 4 rfl) ?_
  have hPM : va_P D vwCl (wM qm cI cZ μ1) H := hP.sub [26, 27, 28, 29, 30, 31, 32, 33, 34, 35, 36, 37, 38, 39, 40, 41, 42, 43, 44, 45, 46, 47, 48, 49] rfl
  refine roV1 (v := .int (nI (μ1 0 2))) (As := []) (rest := []) (n := 0) ⟨hx, hb, hml, hown, htA⟩ (r_thrown l D cI cZ sa qm μ1 H hPM) (cwV 0 htA (gdV wd_724 wd_725 wd_726 wd_5 wd_727) rfl rfl rfl (by decide +kernel) ⟨Nat.le_trans (by decide) hR1, Nat.le_trans (by decide) hR2⟩) hKK hPM 0 rfl rfl rfl hl.1 rfl (Nat.le_of_ble_eq_true rfl) dL_law_556 (by omega) (by omega) ?_
  rw [h0]
  refine lv_iload hx hb dL_law_559 (lv_at hl 1 rfl) ?_
  refine n_icmp_eq (x := k) (y := k) (tgt := 566) hx hb dL_law_561 (by decide) (by omega) (by omega) (fun _ => ?_) (fun h => absurd rfl h)
  refine lv_iload hx hb dL_law_566 (lv_at hl 1 rfl) ?_
  refine n_ifne (x := k) (tgt := 583) hx hb dL_law_568 (by decide) (by omega) (fun _ => ?_) (fun h => ?_)
  · refine lv_goto (tgt := 1929) hx hb dL_law_583 (by decide) ?_
    exact kk _ _ _ ⟨hP, hD, hS, lv_sub hl [2, 3, 4, 5, 6, 7] rfl⟩
  refine lv_aload_n hx hb dL_law_571 rfl (lv_at hl 5 rfl) ?_
  refine n_iconst (k := 0) hx hb dL_law_572 (by decide) ?_
  refine va_lald hx hb hKL hP 0 0 rfl rfl (vp_in_nI (n := 0) (N := 1) (by decide) (by decide)) dL_law_573 ?_
  rw [hv h]
  refine lv_iload hx hb dL_law_574 (lv_at hl 0 rfl) ?_
  refine lv_i2l hx hb dL_law_576 rfl ?_
  refine W.lcmp hx hb dL_law_577 ?_
  rw [lg_self]
  refine lv_if_eq (tgt := 583) hx hb dL_law_578 (by decide) (fun _ => ?_) (fun h => absurd rfl h)
  refine lv_goto (tgt := 1929) hx hb dL_law_583 (by decide) ?_
  exact kk _ _ _ ⟨hP, hD, hS, lv_sub hl [2, 3, 4, 5, 6, 7] rfl⟩
set_option maxHeartbeats 4000000 in
set_option maxRecDepth 100000 in
theorem law_state {p : Program} {l : Launch} {e : Env} {R : Room} {s : State} {m : MethodId} {args : Array Value} {below : List Frame} {meth : Method} {c : Code} {H : Heap} {locs : List Loc} {cells slots : Nat} {ls : Array Slot} {Q : State → Prop} {D : va_G} {cI cZ cL cD : ClassId} {sa q qm : Nat → Nat} {qo qd b L i : Nat} {xs : Nat → Int32} {σ κ0 κ1 σ1 κ2 κ3 μ μ1 : ST} {g : Nat → Int64} {gd : Nat → UInt64} (C : LawC p l R s m args c D cI cZ cL cD sa b L xs) (hcs : cells + 1 ≤ R.cells) (hss : slots + 6 ≤ R.slots) (hi : i + 5 ≤ L) (hSt : LawS s D cI cZ cL cD q qm qo qd b i σ κ0 κ1 g gd μ H locs ls) {r : Int32} (hC : DirOK yX3_state (codeW yX3_state cX3_state 1 (some .int)) σ κ0 κ1 (.int r)) (hRf : RefOK yX4_state (codeW yX4_state cX4_state 1 (some .int)) μ μ1 [] (some (.int r))) (kk : ∀ (H1 : Heap) (locs1 : List Loc) (ls1 : Array Slot), LawS s D cI cZ cL cD q qm qo qd b i σ κ0 κ1 g gd μ1 H1 locs1 ls1 → W p l e R s m args below meth c H1 locs1 (cells + 1) (slots + 6) Q (F0 m 1929 ls1 [])) : W p l e R s m args below meth c H locs cells slots Q (F0 m 586 ls []) := by
  obtain ⟨hx, hb, hml, hown, htA, hX, hbl, hKK, hKL, hZ, hst9, hL, hR1, hR2⟩ := C
  obtain ⟨hP, hD, hS, hl⟩ := hSt
  have hbA : ¬ (fun a => s.heap.size ≤ a) b := Nat.not_le.mpr hbl
  refine lv_aload_n hx hb dL_law_586 rfl (lv_at hl 1 rfl) ?_
  obtain ⟨rm, r1, r2, r3, r4, hM⟩ := hC
  have hPX : va_P D vwCl (wX q cI cZ σ κ0 κ1) H := hP.sub [2, 3, 4, 5, 6, 7, 8, 9, 10, 11, 12, 13, 14, 15, 16, 17, 18, 19, 20, 21, 22, 23, 24, 25] rfl
  refine roV1 (v := .int r) (As := []) (rest := []) (n := 0) ⟨hx, hb, hml, hown, htA⟩ (hM l D cI cZ sa q H hPX) (cwV 0 htA (gdV wd_136 wd_137 wd_138 wd_1 wd_139) rfl r1 r2 (by decide +kernel) ⟨by omega, by omega⟩) hKK hPX 0 rfl rfl rfl hl.1 rfl (Nat.le_of_ble_eq_true rfl) dL_law_587 (by omega) (by omega) ?_
  refine lv_aload_n hx hb dL_law_590 rfl (lv_at hl 2 rfl) ?_
  refine lwV (rest := [.int (r)]) (n := 0) ⟨hx, hb, hml, hown, htA⟩ htA hRf rfl (gdV wd_770 wd_771 wd_772 wd_5 wd_773) (by decide +kernel) (by decide) hR1 hR2 hKK hP hD hS rfl hl.1 rfl (Nat.le_of_ble_eq_true rfl) dL_law_591 (by omega) (by omega) (fun H locs hP hS => ?_)
  have hP : va_P D vwCl (wT q qm qo qd cI cZ cL cD σ κ0 κ1 g gd μ1) H := hP
  have hD : va_D (fun a => s.heap.size ≤ a) (wT q qm qo qd cI cZ cL cD σ κ0 κ1 g gd μ1) := D_addr hD rfl
  refine W.eq (g2 := F0 m 594 ls [.int (r), .int (r)]) rfl ?_
  refine lv_icmp_eq (tgt := 1929) hx hb dL_law_594 (by decide) (fun _ => ?_) (fun h => absurd rfl h)
  refine W.widen (k := cells + 1) (n := slots + 6) (by omega) (by omega) ?_
  exact kk _ _ _ ⟨hP, hD, hS, lv_sub hl [0, 1, 2, 3, 4, 5] rfl⟩
set_option maxHeartbeats 4000000 in
set_option maxRecDepth 100000 in
theorem law_mails {p : Program} {l : Launch} {e : Env} {R : Room} {s : State} {m : MethodId} {args : Array Value} {below : List Frame} {meth : Method} {c : Code} {H : Heap} {locs : List Loc} {cells slots : Nat} {ls : Array Slot} {Q : State → Prop} {D : va_G} {cI cZ cL cD : ClassId} {sa q qm : Nat → Nat} {qo qd b L i : Nat} {xs : Nat → Int32} {σ κ0 κ1 σ1 κ2 κ3 μ μ1 : ST} {g : Nat → Int64} {gd : Nat → UInt64} (C : LawC p l R s m args c D cI cZ cL cD sa b L xs) (hcs : cells + 1 ≤ R.cells) (hss : slots + 6 ≤ R.slots) (hi : i + 5 ≤ L) (hSt : LawS s D cI cZ cL cD q qm qo qd b i σ κ0 κ1 g gd μ H locs ls) {r : Int32} (hC : DirOK yX3_mails (codeW yX3_mails cX3_mails 1 (some .int)) σ κ0 κ1 (.int r)) (hRf : RefOK yX4_mails (codeW yX4_mails cX4_mails 3 (some .int)) μ μ1 [] (some (.int r))) (kk : ∀ (H1 : Heap) (locs1 : List Loc) (ls1 : Array Slot), LawS s D cI cZ cL cD q qm qo qd b i σ κ0 κ1 g gd μ1 H1 locs1 ls1 → W p l e R s m args below meth c H1 locs1 (cells + 1) (slots + 6) Q (F0 m 1929 ls1 [])) : W p l e R s m args below meth c H locs cells slots Q (F0 m 599 ls []) := by
  obtain ⟨hx, hb, hml, hown, htA, hX, hbl, hKK, hKL, hZ, hst9, hL, hR1, hR2⟩ := C
  obtain ⟨hP, hD, hS, hl⟩ := hSt
  have hbA : ¬ (fun a => s.heap.size ≤ a) b := Nat.not_le.mpr hbl
  refine lv_aload_n hx hb dL_law_599 rfl (lv_at hl 1 rfl) ?_
  obtain ⟨rm, r1, r2, r3, r4, hM⟩ := hC
  have hPX : va_P D vwCl (wX q cI cZ σ κ0 κ1) H := hP.sub [2, 3, 4, 5, 6, 7, 8, 9, 10, 11, 12, 13, 14, 15, 16, 17, 18, 19, 20, 21, 22, 23, 24, 25] rfl
  refine roV1 (v := .int r) (As := []) (rest := []) (n := 0) ⟨hx, hb, hml, hown, htA⟩ (hM l D cI cZ sa q H hPX) (cwV 0 htA (gdV wd_140 wd_141 wd_142 wd_1 wd_143) rfl r1 r2 (by decide +kernel) ⟨by omega, by omega⟩) hKK hPX 0 rfl rfl rfl hl.1 rfl (Nat.le_of_ble_eq_true rfl) dL_law_600 (by omega) (by omega) ?_
  refine lv_aload_n hx hb dL_law_603 rfl (lv_at hl 2 rfl) ?_
  refine lwV (rest := [.int (r)]) (n := 0) ⟨hx, hb, hml, hown, htA⟩ htA hRf rfl (gdV wd_774 wd_775 wd_776 wd_5 wd_777) (by decide +kernel) (by decide) hR1 hR2 hKK hP hD hS rfl hl.1 rfl (Nat.le_of_ble_eq_true rfl) dL_law_604 (by omega) (by omega) (fun H locs hP hS => ?_)
  have hP : va_P D vwCl (wT q qm qo qd cI cZ cL cD σ κ0 κ1 g gd μ1) H := hP
  have hD : va_D (fun a => s.heap.size ≤ a) (wT q qm qo qd cI cZ cL cD σ κ0 κ1 g gd μ1) := D_addr hD rfl
  refine W.eq (g2 := F0 m 607 ls [.int (r), .int (r)]) rfl ?_
  refine lv_icmp_eq (tgt := 1929) hx hb dL_law_607 (by decide) (fun _ => ?_) (fun h => absurd rfl h)
  refine W.widen (k := cells + 1) (n := slots + 6) (by omega) (by omega) ?_
  exact kk _ _ _ ⟨hP, hD, hS, lv_sub hl [0, 1, 2, 3, 4, 5] rfl⟩
set_option maxHeartbeats 4000000 in
set_option maxRecDepth 100000 in
theorem law_keywords {p : Program} {l : Launch} {e : Env} {R : Room} {s : State} {m : MethodId} {args : Array Value} {below : List Frame} {meth : Method} {c : Code} {H : Heap} {locs : List Loc} {cells slots : Nat} {ls : Array Slot} {Q : State → Prop} {D : va_G} {cI cZ cL cD : ClassId} {sa q qm : Nat → Nat} {qo qd b L i : Nat} {xs : Nat → Int32} {σ κ0 κ1 σ1 κ2 κ3 μ μ1 : ST} {g : Nat → Int64} {gd : Nat → UInt64} (C : LawC p l R s m args c D cI cZ cL cD sa b L xs) (hcs : cells + 1 ≤ R.cells) (hss : slots + 6 ≤ R.slots) (hi : i + 5 ≤ L) (hSt : LawS s D cI cZ cL cD q qm qo qd b i σ κ0 κ1 g gd μ H locs ls) {k : Nat} {fg : (Nat → Int64) → Nat → Int64} {fd : (Nat → UInt64) → Nat → UInt64} {r : Int32} (hC : ClsOK yL_keywords (codeL yL_keywords cL_keywords 4 (some .int) [(0, 9, 12, 21)]) σ κ0 κ1 σ1 κ2 κ3 [.int (xs (i + 1))] (some false) k fg fd) (hRf : RefOK yX4_keywords (codeW yX4_keywords cX4_keywords 2 (some .int)) μ μ1 [.int (xs (i + 1))] (some (.int r))) (h0 : μ1 0 2 = k) (hk : k < 4) (hv : k = 0 → (fg g) (nI 0).toNatClampNeg = r.toInt64) (kk : ∀ (H1 : Heap) (locs1 : List Loc) (ls1 : Array Slot), LawS s D cI cZ cL cD q qm qo qd b i σ1 κ2 κ3 (fg g) (fd gd) μ1 H1 locs1 ls1 → W p l e R s m args below meth c H1 locs1 (cells + 1) (slots + 6) Q (F0 m 1929 ls1 [])) : W p l e R s m args below meth c H locs cells slots Q (F0 m 612 ls []) := by
  obtain ⟨hx, hb, hml, hown, htA, hX, hbl, hKK, hKL, hZ, hst9, hL, hR1, hR2⟩ := C
  obtain ⟨hP, hD, hS, hl⟩ := hSt
  have hbA : ¬ (fun a => s.heap.size ≤ a) b := Nat.not_le.mpr hbl
  refine lv_aload_n hx hb dL_law_612 rfl (lv_at hl 1 rfl) ?_
  refine lv_aload_n hx hb dL_law_613 rfl (lv_at hl 0 rfl) ?_
  refine lv_iload hx hb dL_law_614 (lv_at hl 5 rfl) ?_
  refine n_iconst (k := 1) hx hb dL_law_616 (by decide) ?_
  refine n_iadd hx hb dL_law_617 ?_
  refine n_sld (j := i + 1) hx hb hX hbl hbA hS (by omega) (by omega) dL_law_618 ?_
  refine lv_aload_n hx hb dL_law_619 rfl (lv_at hl 3 rfl) ?_
  refine lwS (n := 3) ⟨hx, hb, hml, hown, htA⟩ htA hC rfl (gdS wd_366 wd_367 wd_0 wd_368) (by decide +kernel) (by decide) hR1 (by omega) hst9 hKK hKL (hZ.of hS) hP hD hS rfl hl.1 rfl (Nat.le_of_ble_eq_true rfl) dL_law_620 hcs hss (fun H locs hP hS => ?_)
  have hP : va_P D vwCl (wT q qm qo qd cI cZ cL cD σ1 κ2 κ3 (fg g) (fd gd) μ) H := hP
  have hD : va_D (fun a => s.heap.size ≤ a) (wT q qm qo qd cI cZ cL cD σ1 κ2 κ3 (fg g) (fd gd) μ) := D_addr hD rfl
  refine lv_istore (lv' := [(6, .int (nI (k))), (0, .ref (b)), (1, .ref (q 0)), (2, .ref (qm 0)), (3, .ref (qo)), (4, .ref (qd)), (5, .int (nI (i)))]) hx hb dL_law_623 hl (by decide) rfl (fun ls hl => ?_)
  refine lv_aload_n hx hb dL_law_625 rfl (lv_at hl 3 rfl) ?_
  refine lv_aload_n hx hb dL_law_626 rfl (lv_at hl 1 rfl) ?_
  refine lv_iload hx hb dL_law_627 (lv_at hl 6 rfl) ?_
  refine n_iconst (k := 1) hx hb dL_law_629 (by decide) ?_
  refine n_iadd hx hb dL_law_630 ?_
  refine n_sld (j := i + 1) hx hb hX hbl hbA hS (by omega) (by omega) dL_law_631 ?_
  refine lwV (rest := []) (n := 1) ⟨hx, hb, hml, hown, htA⟩ htA hRf rfl (gdV wd_778 wd_779 wd_780 wd_5 wd_781) (by decide +kernel) (by decide) hR1 hR2 hKK hP hD hS rfl hl.1 rfl (Nat.le_of_ble_eq_true rfl) dL_law_632 (by omega) (by omega) (fun H locs hP hS => ?_)
  have hP : va_P D vwCl (wT q qm qo qd cI cZ cL cD σ1 κ2 κ3 (fg g) (fd gd) μ1) H := hP
  have hD : va_D (fun a => s.heap.size ≤ a) (wT q qm qo qd cI cZ cL cD σ1 κ2 κ3 (fg g) (fd gd) μ1) := D_addr hD rfl
  refine W.eq (g2 := F0 m 635 ls [.int (r)]) rfl ?_
  refine lv_istore (lv' := [(7, .int (r)), (6, .int (nI (k))), (0, .ref (b)), (1, .ref (q 0)), (2, .ref (qm 0)), (3, .ref (qo)), (4, .ref (qd)), (5, .int (nI (i)))]) hx hb dL_law_635 hl (by decide) rfl (fun ls hl => ?_)
  refine lv_aload_n hx hb dL_law_637 rfl (lv_at hl 4 rfl) ?_
  have hPM : va_P D vwCl (wM qm cI cZ μ1) H := hP.sub [26, 27, 28, 29, 30, 31, 32, 33, 34, 35, 36, 37, 38, 39, 40, 41, 42, 43, 44, 45, 46, 47, 48, 49] rfl
  refine roV1 (v := .int (nI (μ1 0 2))) (As := []) (rest := []) (n := 0) ⟨hx, hb, hml, hown, htA⟩ (r_thrown l D cI cZ sa qm μ1 H hPM) (cwV 0 htA (gdV wd_724 wd_725 wd_726 wd_5 wd_727) rfl rfl rfl (by decide +kernel) ⟨Nat.le_trans (by decide) hR1, Nat.le_trans (by decide) hR2⟩) hKK hPM 0 rfl rfl rfl hl.1 rfl (Nat.le_of_ble_eq_true rfl) dL_law_638 (by omega) (by omega) ?_
  rw [h0]
  refine lv_iload hx hb dL_law_641 (lv_at hl 1 rfl) ?_
  refine n_icmp_eq (x := k) (y := k) (tgt := 648) hx hb dL_law_643 (by decide) (by omega) (by omega) (fun _ => ?_) (fun h => absurd rfl h)
  refine lv_iload hx hb dL_law_648 (lv_at hl 1 rfl) ?_
  refine n_ifne (x := k) (tgt := 665) hx hb dL_law_650 (by decide) (by omega) (fun _ => ?_) (fun h => ?_)
  · refine lv_goto (tgt := 1929) hx hb dL_law_665 (by decide) ?_
    exact kk _ _ _ ⟨hP, hD, hS, lv_sub hl [2, 3, 4, 5, 6, 7] rfl⟩
  refine lv_aload_n hx hb dL_law_653 rfl (lv_at hl 5 rfl) ?_
  refine n_iconst (k := 0) hx hb dL_law_654 (by decide) ?_
  refine va_lald hx hb hKL hP 0 0 rfl rfl (vp_in_nI (n := 0) (N := 1) (by decide) (by decide)) dL_law_655 ?_
  rw [hv h]
  refine lv_iload hx hb dL_law_656 (lv_at hl 0 rfl) ?_
  refine lv_i2l hx hb dL_law_658 rfl ?_
  refine W.lcmp hx hb dL_law_659 ?_
  rw [lg_self]
  refine lv_if_eq (tgt := 665) hx hb dL_law_660 (by decide) (fun _ => ?_) (fun h => absurd rfl h)
  refine lv_goto (tgt := 1929) hx hb dL_law_665 (by decide) ?_
  exact kk _ _ _ ⟨hP, hD, hS, lv_sub hl [2, 3, 4, 5, 6, 7] rfl⟩
set_option maxHeartbeats 4000000 in
set_option maxRecDepth 100000 in
theorem law_inThread {p : Program} {l : Launch} {e : Env} {R : Room} {s : State} {m : MethodId} {args : Array Value} {below : List Frame} {meth : Method} {c : Code} {H : Heap} {locs : List Loc} {cells slots : Nat} {ls : Array Slot} {Q : State → Prop} {D : va_G} {cI cZ cL cD : ClassId} {sa q qm : Nat → Nat} {qo qd b L i : Nat} {xs : Nat → Int32} {σ κ0 κ1 σ1 κ2 κ3 μ μ1 : ST} {g : Nat → Int64} {gd : Nat → UInt64} (C : LawC p l R s m args c D cI cZ cL cD sa b L xs) (hcs : cells + 1 ≤ R.cells) (hss : slots + 6 ≤ R.slots) (hi : i + 5 ≤ L) (hSt : LawS s D cI cZ cL cD q qm qo qd b i σ κ0 κ1 g gd μ H locs ls) {k : Nat} {fg : (Nat → Int64) → Nat → Int64} {fd : (Nat → UInt64) → Nat → UInt64} {r : Int32} (hC : ClsOK yL_inThread (codeL yL_inThread cL_inThread 4 (some .int) [(0, 9, 12, 13)]) σ κ0 κ1 σ1 κ2 κ3 [.int (xs (i + 1))] (some false) k fg fd) (hRf : RefOK yX4_inThread (codeW yX4_inThread cX4_inThread 4 (some .int)) μ μ1 [.int (xs (i + 1))] (some (.int r))) (h0 : μ1 0 2 = k) (hk : k < 4) (hv : k = 0 → (fg g) (nI 0).toNatClampNeg = r.toInt64) (kk : ∀ (H1 : Heap) (locs1 : List Loc) (ls1 : Array Slot), LawS s D cI cZ cL cD q qm qo qd b i σ1 κ2 κ3 (fg g) (fd gd) μ1 H1 locs1 ls1 → W p l e R s m args below meth c H1 locs1 (cells + 1) (slots + 6) Q (F0 m 1929 ls1 [])) : W p l e R s m args below meth c H locs cells slots Q (F0 m 668 ls []) := by
  obtain ⟨hx, hb, hml, hown, htA, hX, hbl, hKK, hKL, hZ, hst9, hL, hR1, hR2⟩ := C
  obtain ⟨hP, hD, hS, hl⟩ := hSt
  have hbA : ¬ (fun a => s.heap.size ≤ a) b := Nat.not_le.mpr hbl
  refine lv_aload_n hx hb dL_law_668 rfl (lv_at hl 1 rfl) ?_
  refine lv_aload_n hx hb dL_law_669 rfl (lv_at hl 0 rfl) ?_
  refine lv_iload hx hb dL_law_670 (lv_at hl 5 rfl) ?_
  refine n_iconst (k := 1) hx hb dL_law_672 (by decide) ?_
  refine n_iadd hx hb dL_law_673 ?_
  refine n_sld (j := i + 1) hx hb hX hbl hbA hS (by omega) (by omega) dL_law_674 ?_
  refine lv_aload_n hx hb dL_law_675 rfl (lv_at hl 3 rfl) ?_
  refine lwS (n := 3) ⟨hx, hb, hml, hown, htA⟩ htA hC rfl (gdS wd_373 wd_374 wd_0 wd_375) (by decide +kernel) (by decide) hR1 (by omega) hst9 hKK hKL (hZ.of hS) hP hD hS rfl hl.1 rfl (Nat.le_of_ble_eq_true rfl) dL_law_676 hcs hss (fun H locs hP hS => ?_)
  have hP : va_P D vwCl (wT q qm qo qd cI cZ cL cD σ1 κ2 κ3 (fg g) (fd gd) μ) H := hP
  have hD : va_D (fun a => s.heap.size ≤ a) (wT q qm qo qd cI cZ cL cD σ1 κ2 κ3 (fg g) (fd gd) μ) := D_addr hD rfl
  refine lv_istore (lv' := [(6, .int (nI (k))), (0, .ref (b)), (1, .ref (q 0)), (2, .ref (qm 0)), (3, .ref (qo)), (4, .ref (qd)), (5, .int (nI (i)))]) hx hb dL_law_679 hl (by decide) rfl (fun ls hl => ?_)
  refine lv_aload_n hx hb dL_law_681 rfl (lv_at hl 3 rfl) ?_
  refine lv_aload_n hx hb dL_law_682 rfl (lv_at hl 1 rfl) ?_
  refine lv_iload hx hb dL_law_683 (lv_at hl 6 rfl) ?_
  refine n_iconst (k := 1) hx hb dL_law_685 (by decide) ?_
  refine n_iadd hx hb dL_law_686 ?_
  refine n_sld (j := i + 1) hx hb hX hbl hbA hS (by omega) (by omega) dL_law_687 ?_
  refine lwV (rest := []) (n := 1) ⟨hx, hb, hml, hown, htA⟩ htA hRf rfl (gdV wd_782 wd_783 wd_784 wd_5 wd_785) (by decide +kernel) (by decide) hR1 hR2 hKK hP hD hS rfl hl.1 rfl (Nat.le_of_ble_eq_true rfl) dL_law_688 (by omega) (by omega) (fun H locs hP hS => ?_)
  have hP : va_P D vwCl (wT q qm qo qd cI cZ cL cD σ1 κ2 κ3 (fg g) (fd gd) μ1) H := hP
  have hD : va_D (fun a => s.heap.size ≤ a) (wT q qm qo qd cI cZ cL cD σ1 κ2 κ3 (fg g) (fd gd) μ1) := D_addr hD rfl
  refine W.eq (g2 := F0 m 691 ls [.int (r)]) rfl ?_
  refine lv_istore (lv' := [(7, .int (r)), (6, .int (nI (k))), (0, .ref (b)), (1, .ref (q 0)), (2, .ref (qm 0)), (3, .ref (qo)), (4, .ref (qd)), (5, .int (nI (i)))]) hx hb dL_law_691 hl (by decide) rfl (fun ls hl => ?_)
  refine lv_aload_n hx hb dL_law_693 rfl (lv_at hl 4 rfl) ?_
  have hPM : va_P D vwCl (wM qm cI cZ μ1) H := hP.sub [26, 27, 28, 29, 30, 31, 32, 33, 34, 35, 36, 37, 38, 39, 40, 41, 42, 43, 44, 45, 46, 47, 48, 49] rfl
  refine roV1 (v := .int (nI (μ1 0 2))) (As := []) (rest := []) (n := 0) ⟨hx, hb, hml, hown, htA⟩ (r_thrown l D cI cZ sa qm μ1 H hPM) (cwV 0 htA (gdV wd_724 wd_725 wd_726 wd_5 wd_727) rfl rfl rfl (by decide +kernel) ⟨Nat.le_trans (by decide) hR1, Nat.le_trans (by decide) hR2⟩) hKK hPM 0 rfl rfl rfl hl.1 rfl (Nat.le_of_ble_eq_true rfl) dL_law_694 (by omega) (by omega) ?_
  rw [h0]
  refine lv_iload hx hb dL_law_697 (lv_at hl 1 rfl) ?_
  refine n_icmp_eq (x := k) (y := k) (tgt := 704) hx hb dL_law_699 (by decide) (by omega) (by omega) (fun _ => ?_) (fun h => absurd rfl h)
  refine lv_iload hx hb dL_law_704 (lv_at hl 1 rfl) ?_
  refine n_ifne (x := k) (tgt := 721) hx hb dL_law_706 (by decide) (by omega) (fun _ => ?_) (fun h => ?_)
  · refine lv_goto (tgt := 1929) hx hb dL_law_721 (by decide) ?_
    exact kk _ _ _ ⟨hP, hD, hS, lv_sub hl [2, 3, 4, 5, 6, 7] rfl⟩
  refine lv_aload_n hx hb dL_law_709 rfl (lv_at hl 5 rfl) ?_
  refine n_iconst (k := 0) hx hb dL_law_710 (by decide) ?_
  refine va_lald hx hb hKL hP 0 0 rfl rfl (vp_in_nI (n := 0) (N := 1) (by decide) (by decide)) dL_law_711 ?_
  rw [hv h]
  refine lv_iload hx hb dL_law_712 (lv_at hl 0 rfl) ?_
  refine lv_i2l hx hb dL_law_714 rfl ?_
  refine W.lcmp hx hb dL_law_715 ?_
  rw [lg_self]
  refine lv_if_eq (tgt := 721) hx hb dL_law_716 (by decide) (fun _ => ?_) (fun h => absurd rfl h)
  refine lv_goto (tgt := 1929) hx hb dL_law_721 (by decide) ?_
  exact kk _ _ _ ⟨hP, hD, hS, lv_sub hl [2, 3, 4, 5, 6, 7] rfl⟩
set_option maxHeartbeats 4000000 in
set_option maxRecDepth 100000 in
theorem law_share {p : Program} {l : Launch} {e : Env} {R : Room} {s : State} {m : MethodId} {args : Array Value} {below : List Frame} {meth : Method} {c : Code} {H : Heap} {locs : List Loc} {cells slots : Nat} {ls : Array Slot} {Q : State → Prop} {D : va_G} {cI cZ cL cD : ClassId} {sa q qm : Nat → Nat} {qo qd b L i : Nat} {xs : Nat → Int32} {σ κ0 κ1 σ1 κ2 κ3 μ μ1 : ST} {g : Nat → Int64} {gd : Nat → UInt64} (C : LawC p l R s m args c D cI cZ cL cD sa b L xs) (hcs : cells + 1 ≤ R.cells) (hss : slots + 6 ≤ R.slots) (hi : i + 5 ≤ L) (hSt : LawS s D cI cZ cL cD q qm qo qd b i σ κ0 κ1 g gd μ H locs ls) {k : Nat} {fg : (Nat → Int64) → Nat → Int64} {fd : (Nat → UInt64) → Nat → UInt64} {r : UInt32} (hC : ClsOK yL_share (codeL yL_share cL_share 5 (some .int) [(0, 10, 13, 13)]) σ κ0 κ1 σ1 κ2 κ3 [.int (xs (i + 1)), .int (xs (i + 2))] (some true) k fg fd) (hRf : RefOK yX4_share (codeW yX4_share cX4_share 4 (some .float)) μ μ1 [.int (xs (i + 1)), .int (xs (i + 2))] (some (.float r))) (h0 : μ1 0 2 = k) (hk : k < 4) (hv : k = 0 → (fd gd) (nI 0).toNatClampNeg = FP.f2d r ∧ vf_n64 (FP.f2d r) ∧ Op.cmpValue (FP.dcmp (FP.f2d r) (FP.f2d r)) .l = 0) (kk : ∀ (H1 : Heap) (locs1 : List Loc) (ls1 : Array Slot), LawS s D cI cZ cL cD q qm qo qd b i σ1 κ2 κ3 (fg g) (fd gd) μ1 H1 locs1 ls1 → W p l e R s m args below meth c H1 locs1 (cells + 1) (slots + 6) Q (F0 m 1929 ls1 [])) : W p l e R s m args below meth c H locs cells slots Q (F0 m 724 ls []) := by
  obtain ⟨hx, hb, hml, hown, htA, hX, hbl, hKK, hKL, hZ, hst9, hL, hR1, hR2⟩ := C
  obtain ⟨hP, hD, hS, hl⟩ := hSt
  have hbA : ¬ (fun a => s.heap.size ≤ a) b := Nat.not_le.mpr hbl
  refine lv_aload_n hx hb dL_law_724 rfl (lv_at hl 1 rfl) ?_
  refine lv_aload_n hx hb dL_law_725 rfl (lv_at hl 0 rfl) ?_
  refine lv_iload hx hb dL_law_726 (lv_at hl 5 rfl) ?_
  refine n_iconst (k := 1) hx hb dL_law_728 (by decide) ?_
  refine n_iadd hx hb dL_law_729 ?_
  refine n_sld (j := i + 1) hx hb hX hbl hbA hS (by omega) (by omega) dL_law_730 ?_
  refine lv_aload_n hx hb dL_law_731 rfl (lv_at hl 0 rfl) ?_
  refine lv_iload hx hb dL_law_732 (lv_at hl 5 rfl) ?_
  refine n_iconst (k := 2) hx hb dL_law_734 (by decide) ?_
  refine n_iadd hx hb dL_law_735 ?_
  refine n_sld (j := i + 2) hx hb hX hbl hbA hS (by omega) (by omega) dL_law_736 ?_
  refine lv_aload hx hb dL_law_737 (lv_at hl 4 rfl) ?_
  refine lwS (n := 4) ⟨hx, hb, hml, hown, htA⟩ htA hC rfl (gdS wd_386 wd_387 wd_0 wd_388) (by decide +kernel) (by decide) hR1 (by omega) hst9 hKK hKL (hZ.of hS) hP hD hS rfl hl.1 rfl (Nat.le_of_ble_eq_true rfl) dL_law_739 hcs hss (fun H locs hP hS => ?_)
  have hP : va_P D vwCl (wT q qm qo qd cI cZ cL cD σ1 κ2 κ3 (fg g) (fd gd) μ) H := hP
  have hD : va_D (fun a => s.heap.size ≤ a) (wT q qm qo qd cI cZ cL cD σ1 κ2 κ3 (fg g) (fd gd) μ) := D_addr hD rfl
  refine lv_istore (lv' := [(6, .int (nI (k))), (0, .ref (b)), (1, .ref (q 0)), (2, .ref (qm 0)), (3, .ref (qo)), (4, .ref (qd)), (5, .int (nI (i)))]) hx hb dL_law_742 hl (by decide) rfl (fun ls hl => ?_)
  refine lv_aload_n hx hb dL_law_744 rfl (lv_at hl 3 rfl) ?_
  refine lv_aload_n hx hb dL_law_745 rfl (lv_at hl 1 rfl) ?_
  refine lv_iload hx hb dL_law_746 (lv_at hl 6 rfl) ?_
  refine n_iconst (k := 1) hx hb dL_law_748 (by decide) ?_
  refine n_iadd hx hb dL_law_749 ?_
  refine n_sld (j := i + 1) hx hb hX hbl hbA hS (by omega) (by omega) dL_law_750 ?_
  refine lv_aload_n hx hb dL_law_751 rfl (lv_at hl 1 rfl) ?_
  refine lv_iload hx hb dL_law_752 (lv_at hl 6 rfl) ?_
  refine n_iconst (k := 2) hx hb dL_law_754 (by decide) ?_
  refine n_iadd hx hb dL_law_755 ?_
  refine n_sld (j := i + 2) hx hb hX hbl hbA hS (by omega) (by omega) dL_law_756 ?_
  refine lwV (rest := []) (n := 2) ⟨hx, hb, hml, hown, htA⟩ htA hRf rfl (gdV wd_786 wd_787 wd_788 wd_5 wd_789) (by decide +kernel) (by decide) hR1 hR2 hKK hP hD hS rfl hl.1 rfl (Nat.le_of_ble_eq_true rfl) dL_law_757 (by omega) (by omega) (fun H locs hP hS => ?_)
  have hP : va_P D vwCl (wT q qm qo qd cI cZ cL cD σ1 κ2 κ3 (fg g) (fd gd) μ1) H := hP
  have hD : va_D (fun a => s.heap.size ≤ a) (wT q qm qo qd cI cZ cL cD σ1 κ2 κ3 (fg g) (fd gd) μ1) := D_addr hD rfl
  refine W.eq (g2 := F0 m 760 ls [.float (r)]) rfl ?_
  refine lv_fstore (lv' := [(7, .float (r)), (6, .int (nI (k))), (0, .ref (b)), (1, .ref (q 0)), (2, .ref (qm 0)), (3, .ref (qo)), (4, .ref (qd)), (5, .int (nI (i)))]) hx hb dL_law_760 hl (by decide) rfl (fun ls hl => ?_)
  refine lv_aload_n hx hb dL_law_762 rfl (lv_at hl 4 rfl) ?_
  have hPM : va_P D vwCl (wM qm cI cZ μ1) H := hP.sub [26, 27, 28, 29, 30, 31, 32, 33, 34, 35, 36, 37, 38, 39, 40, 41, 42, 43, 44, 45, 46, 47, 48, 49] rfl
  refine roV1 (v := .int (nI (μ1 0 2))) (As := []) (rest := []) (n := 0) ⟨hx, hb, hml, hown, htA⟩ (r_thrown l D cI cZ sa qm μ1 H hPM) (cwV 0 htA (gdV wd_724 wd_725 wd_726 wd_5 wd_727) rfl rfl rfl (by decide +kernel) ⟨Nat.le_trans (by decide) hR1, Nat.le_trans (by decide) hR2⟩) hKK hPM 0 rfl rfl rfl hl.1 rfl (Nat.le_of_ble_eq_true rfl) dL_law_763 (by omega) (by omega) ?_
  rw [h0]
  refine lv_iload hx hb dL_law_766 (lv_at hl 1 rfl) ?_
  refine n_icmp_eq (x := k) (y := k) (tgt := 773) hx hb dL_law_768 (by decide) (by omega) (by omega) (fun _ => ?_) (fun h => absurd rfl h)
  refine lv_iload hx hb dL_law_773 (lv_at hl 1 rfl) ?_
  refine n_ifne (x := k) (tgt := 811) hx hb dL_law_775 (by decide) (by omega) (fun _ => ?_) (fun h => ?_)
  · refine lv_goto (tgt := 1929) hx hb dL_law_811 (by decide) ?_
    exact kk _ _ _ ⟨hP, hD, hS, lv_sub hl [2, 3, 4, 5, 6, 7] rfl⟩
  obtain ⟨hv1, hv2, hv3⟩ := hv h
  refine lv_aload hx hb dL_law_778 (lv_at hl 6 rfl) ?_
  refine n_iconst (k := 0) hx hb dL_law_780 (by decide) ?_
  refine va_dald hx hb hKL hP 1 1 rfl rfl (vp_in_nI (n := 0) (N := 1) (by decide) (by decide)) dL_law_781 ?_
  rw [hv1]
  refine lv_fload hx hb dL_law_782 (lv_at hl 0 rfl) ?_
  refine lv_f2d hx hb dL_law_784 hv2 ?_
  refine lv_dcmp hx hb dL_law_785 ?_
  rw [hv3]
  refine lv_if_eq (tgt := 811) hx hb dL_law_786 (by decide) (fun _ => ?_) (fun h => absurd rfl h)
  refine lv_goto (tgt := 1929) hx hb dL_law_811 (by decide) ?_
  exact kk _ _ _ ⟨hP, hD, hS, lv_sub hl [2, 3, 4, 5, 6, 7] rfl⟩
set_option maxHeartbeats 4000000 in
set_option maxRecDepth 100000 in
theorem law_canTell {p : Program} {l : Launch} {e : Env} {R : Room} {s : State} {m : MethodId} {args : Array Value} {below : List Frame} {meth : Method} {c : Code} {H : Heap} {locs : List Loc} {cells slots : Nat} {ls : Array Slot} {Q : State → Prop} {D : va_G} {cI cZ cL cD : ClassId} {sa q qm : Nat → Nat} {qo qd b L i : Nat} {xs : Nat → Int32} {σ κ0 κ1 σ1 κ2 κ3 μ μ1 : ST} {g : Nat → Int64} {gd : Nat → UInt64} (C : LawC p l R s m args c D cI cZ cL cD sa b L xs) (hcs : cells + 1 ≤ R.cells) (hss : slots + 6 ≤ R.slots) (hi : i + 5 ≤ L) (hSt : LawS s D cI cZ cL cD q qm qo qd b i σ κ0 κ1 g gd μ H locs ls) {k : Nat} {fg : (Nat → Int64) → Nat → Int64} {fd : (Nat → UInt64) → Nat → UInt64} {r : Bool} (hC : ClsOK yL_canTell (codeL yL_canTell cL_canTell 4 (some .int) [(0, 16, 19, 13)]) σ κ0 κ1 σ1 κ2 κ3 [.int (xs (i + 1))] (some false) k fg fd) (hRf : RefOK yX4_canTell (codeW yX4_canTell cX4_canTell 2 (some .boolean)) μ μ1 [.int (xs (i + 1))] (some (.int (b2i r)))) (h0 : μ1 0 2 = k) (hk : k < 4) (hv : k = 0 → (fg g) (nI 0).toNatClampNeg = bl r) (kk : ∀ (H1 : Heap) (locs1 : List Loc) (ls1 : Array Slot), LawS s D cI cZ cL cD q qm qo qd b i σ1 κ2 κ3 (fg g) (fd gd) μ1 H1 locs1 ls1 → W p l e R s m args below meth c H1 locs1 (cells + 1) (slots + 6) Q (F0 m 1929 ls1 [])) : W p l e R s m args below meth c H locs cells slots Q (F0 m 814 ls []) := by
  obtain ⟨hx, hb, hml, hown, htA, hX, hbl, hKK, hKL, hZ, hst9, hL, hR1, hR2⟩ := C
  obtain ⟨hP, hD, hS, hl⟩ := hSt
  have hbA : ¬ (fun a => s.heap.size ≤ a) b := Nat.not_le.mpr hbl
  refine lv_aload_n hx hb dL_law_814 rfl (lv_at hl 1 rfl) ?_
  refine lv_aload_n hx hb dL_law_815 rfl (lv_at hl 0 rfl) ?_
  refine lv_iload hx hb dL_law_816 (lv_at hl 5 rfl) ?_
  refine n_iconst (k := 1) hx hb dL_law_818 (by decide) ?_
  refine n_iadd hx hb dL_law_819 ?_
  refine n_sld (j := i + 1) hx hb hX hbl hbA hS (by omega) (by omega) dL_law_820 ?_
  refine lv_aload_n hx hb dL_law_821 rfl (lv_at hl 3 rfl) ?_
  refine lwS (n := 3) ⟨hx, hb, hml, hown, htA⟩ htA hC rfl (gdS wd_397 wd_398 wd_0 wd_399) (by decide +kernel) (by decide) hR1 (by omega) hst9 hKK hKL (hZ.of hS) hP hD hS rfl hl.1 rfl (Nat.le_of_ble_eq_true rfl) dL_law_822 hcs hss (fun H locs hP hS => ?_)
  have hP : va_P D vwCl (wT q qm qo qd cI cZ cL cD σ1 κ2 κ3 (fg g) (fd gd) μ) H := hP
  have hD : va_D (fun a => s.heap.size ≤ a) (wT q qm qo qd cI cZ cL cD σ1 κ2 κ3 (fg g) (fd gd) μ) := D_addr hD rfl
  refine lv_istore (lv' := [(6, .int (nI (k))), (0, .ref (b)), (1, .ref (q 0)), (2, .ref (qm 0)), (3, .ref (qo)), (4, .ref (qd)), (5, .int (nI (i)))]) hx hb dL_law_825 hl (by decide) rfl (fun ls hl => ?_)
  refine lv_aload_n hx hb dL_law_827 rfl (lv_at hl 3 rfl) ?_
  refine lv_aload_n hx hb dL_law_828 rfl (lv_at hl 1 rfl) ?_
  refine lv_iload hx hb dL_law_829 (lv_at hl 6 rfl) ?_
  refine n_iconst (k := 1) hx hb dL_law_831 (by decide) ?_
  refine n_iadd hx hb dL_law_832 ?_
  refine n_sld (j := i + 1) hx hb hX hbl hbA hS (by omega) (by omega) dL_law_833 ?_
  refine lwV (rest := []) (n := 1) ⟨hx, hb, hml, hown, htA⟩ htA hRf rfl (gdV wd_798 wd_799 wd_800 wd_5 wd_801) (by decide +kernel) (by decide) hR1 hR2 hKK hP hD hS rfl hl.1 rfl (Nat.le_of_ble_eq_true rfl) dL_law_834 (by omega) (by omega) (fun H locs hP hS => ?_)
  have hP : va_P D vwCl (wT q qm qo qd cI cZ cL cD σ1 κ2 κ3 (fg g) (fd gd) μ1) H := hP
  have hD : va_D (fun a => s.heap.size ≤ a) (wT q qm qo qd cI cZ cL cD σ1 κ2 κ3 (fg g) (fd gd) μ1) := D_addr hD rfl
  refine W.eq (g2 := F0 m 837 ls [.int (b2i (r))]) rfl ?_
  refine lv_istore (lv' := [(7, .int (b2i (r))), (6, .int (nI (k))), (0, .ref (b)), (1, .ref (q 0)), (2, .ref (qm 0)), (3, .ref (qo)), (4, .ref (qd)), (5, .int (nI (i)))]) hx hb dL_law_837 hl (by decide) rfl (fun ls hl => ?_)
  refine lv_aload_n hx hb dL_law_839 rfl (lv_at hl 4 rfl) ?_
  have hPM : va_P D vwCl (wM qm cI cZ μ1) H := hP.sub [26, 27, 28, 29, 30, 31, 32, 33, 34, 35, 36, 37, 38, 39, 40, 41, 42, 43, 44, 45, 46, 47, 48, 49] rfl
  refine roV1 (v := .int (nI (μ1 0 2))) (As := []) (rest := []) (n := 0) ⟨hx, hb, hml, hown, htA⟩ (r_thrown l D cI cZ sa qm μ1 H hPM) (cwV 0 htA (gdV wd_724 wd_725 wd_726 wd_5 wd_727) rfl rfl rfl (by decide +kernel) ⟨Nat.le_trans (by decide) hR1, Nat.le_trans (by decide) hR2⟩) hKK hPM 0 rfl rfl rfl hl.1 rfl (Nat.le_of_ble_eq_true rfl) dL_law_840 (by omega) (by omega) ?_
  rw [h0]
  refine lv_iload hx hb dL_law_843 (lv_at hl 1 rfl) ?_
  refine n_icmp_eq (x := k) (y := k) (tgt := 850) hx hb dL_law_845 (by decide) (by omega) (by omega) (fun _ => ?_) (fun h => absurd rfl h)
  refine lv_iload hx hb dL_law_850 (lv_at hl 1 rfl) ?_
  refine n_ifne (x := k) (tgt := 874) hx hb dL_law_852 (by decide) (by omega) (fun _ => ?_) (fun h => ?_)
  · refine lv_goto (tgt := 1929) hx hb dL_law_874 (by decide) ?_
    exact kk _ _ _ ⟨hP, hD, hS, lv_sub hl [2, 3, 4, 5, 6, 7] rfl⟩
  refine lv_aload_n hx hb dL_law_855 rfl (lv_at hl 5 rfl) ?_
  refine n_iconst (k := 0) hx hb dL_law_856 (by decide) ?_
  refine va_lald hx hb hKL hP 0 0 rfl rfl (vp_in_nI (n := 0) (N := 1) (by decide) (by decide)) dL_law_857 ?_
  rw [hv h]
  refine lv_iload hx hb dL_law_858 (lv_at hl 0 rfl) ?_
  refine bl0 hx hb dL_law_860 dL_law_863 dL_law_864 dL_law_867 ?_
  refine W.lcmp hx hb dL_law_868 ?_
  rw [lg_self]
  refine lv_if_eq (tgt := 874) hx hb dL_law_869 (by decide) (fun _ => ?_) (fun h => absurd rfl h)
  refine lv_goto (tgt := 1929) hx hb dL_law_874 (by decide) ?_
  exact kk _ _ _ ⟨hP, hD, hS, lv_sub hl [2, 3, 4, 5, 6, 7] rfl⟩
set_option maxHeartbeats 4000000 in
set_option maxRecDepth 100000 in
theorem law_changed {p : Program} {l : Launch} {e : Env} {R : Room} {s : State} {m : MethodId} {args : Array Value} {below : List Frame} {meth : Method} {c : Code} {H : Heap} {locs : List Loc} {cells slots : Nat} {ls : Array Slot} {Q : State → Prop} {D : va_G} {cI cZ cL cD : ClassId} {sa q qm : Nat → Nat} {qo qd b L i : Nat} {xs : Nat → Int32} {σ κ0 κ1 σ1 κ2 κ3 μ μ1 : ST} {g : Nat → Int64} {gd : Nat → UInt64} (C : LawC p l R s m args c D cI cZ cL cD sa b L xs) (hcs : cells + 1 ≤ R.cells) (hss : slots + 6 ≤ R.slots) (hi : i + 5 ≤ L) (hSt : LawS s D cI cZ cL cD q qm qo qd b i σ κ0 κ1 g gd μ H locs ls) {k : Nat} {fg : (Nat → Int64) → Nat → Int64} {fd : (Nat → UInt64) → Nat → UInt64} {r : Int32} (hC : ClsOK yL_changed (codeL yL_changed cL_changed 5 (some .int) [(0, 10, 13, 13), (0, 10, 17, 15)]) σ κ0 κ1 σ1 κ2 κ3 [.int (xs (i + 1)), .int (xs (i + 2))] (some false) k fg fd) (hRf : RefOK yX4_changed (codeW yX4_changed cX4_changed 3 (some .int)) μ μ1 [.int (xs (i + 1)), .int (xs (i + 2))] (some (.int r))) (h0 : μ1 0 2 = k) (hk : k < 4) (hv : k = 0 → (fg g) (nI 0).toNatClampNeg = r.toInt64) (kk : ∀ (H1 : Heap) (locs1 : List Loc) (ls1 : Array Slot), LawS s D cI cZ cL cD q qm qo qd b i σ1 κ2 κ3 (fg g) (fd gd) μ1 H1 locs1 ls1 → W p l e R s m args below meth c H1 locs1 (cells + 1) (slots + 6) Q (F0 m 1929 ls1 [])) : W p l e R s m args below meth c H locs cells slots Q (F0 m 877 ls []) := by
  obtain ⟨hx, hb, hml, hown, htA, hX, hbl, hKK, hKL, hZ, hst9, hL, hR1, hR2⟩ := C
  obtain ⟨hP, hD, hS, hl⟩ := hSt
  have hbA : ¬ (fun a => s.heap.size ≤ a) b := Nat.not_le.mpr hbl
  refine lv_aload_n hx hb dL_law_877 rfl (lv_at hl 1 rfl) ?_
  refine lv_aload_n hx hb dL_law_878 rfl (lv_at hl 0 rfl) ?_
  refine lv_iload hx hb dL_law_879 (lv_at hl 5 rfl) ?_
  refine n_iconst (k := 1) hx hb dL_law_881 (by decide) ?_
  refine n_iadd hx hb dL_law_882 ?_
  refine n_sld (j := i + 1) hx hb hX hbl hbA hS (by omega) (by omega) dL_law_883 ?_
  refine lv_aload_n hx hb dL_law_884 rfl (lv_at hl 0 rfl) ?_
  refine lv_iload hx hb dL_law_885 (lv_at hl 5 rfl) ?_
  refine n_iconst (k := 2) hx hb dL_law_887 (by decide) ?_
  refine n_iadd hx hb dL_law_888 ?_
  refine n_sld (j := i + 2) hx hb hX hbl hbA hS (by omega) (by omega) dL_law_889 ?_
  refine lv_aload_n hx hb dL_law_890 rfl (lv_at hl 3 rfl) ?_
  refine lwS (n := 4) ⟨hx, hb, hml, hown, htA⟩ htA hC rfl (gdS wd_413 wd_414 wd_0 wd_415) (by decide +kernel) (by decide) hR1 (by omega) hst9 hKK hKL (hZ.of hS) hP hD hS rfl hl.1 rfl (Nat.le_of_ble_eq_true rfl) dL_law_891 hcs hss (fun H locs hP hS => ?_)
  have hP : va_P D vwCl (wT q qm qo qd cI cZ cL cD σ1 κ2 κ3 (fg g) (fd gd) μ) H := hP
  have hD : va_D (fun a => s.heap.size ≤ a) (wT q qm qo qd cI cZ cL cD σ1 κ2 κ3 (fg g) (fd gd) μ) := D_addr hD rfl
  refine lv_istore (lv' := [(6, .int (nI (k))), (0, .ref (b)), (1, .ref (q 0)), (2, .ref (qm 0)), (3, .ref (qo)), (4, .ref (qd)), (5, .int (nI (i)))]) hx hb dL_law_894 hl (by decide) rfl (fun ls hl => ?_)
  refine lv_aload_n hx hb dL_law_896 rfl (lv_at hl 3 rfl) ?_
  refine lv_aload_n hx hb dL_law_897 rfl (lv_at hl 1 rfl) ?_
  refine lv_iload hx hb dL_law_898 (lv_at hl 6 rfl) ?_
  refine n_iconst (k := 1) hx hb dL_law_900 (by decide) ?_
  refine n_iadd hx hb dL_law_901 ?_
  refine n_sld (j := i + 1) hx hb hX hbl hbA hS (by omega) (by omega) dL_law_902 ?_
  refine lv_aload_n hx hb dL_law_903 rfl (lv_at hl 1 rfl) ?_
  refine lv_iload hx hb dL_law_904 (lv_at hl 6 rfl) ?_
  refine n_iconst (k := 2) hx hb dL_law_906 (by decide) ?_
  refine n_iadd hx hb dL_law_907 ?_
  refine n_sld (j := i + 2) hx hb hX hbl hbA hS (by omega) (by omega) dL_law_908 ?_
  refine lwV (rest := []) (n := 2) ⟨hx, hb, hml, hown, htA⟩ htA hRf rfl (gdV wd_810 wd_811 wd_812 wd_5 wd_813) (by decide +kernel) (by decide) hR1 hR2 hKK hP hD hS rfl hl.1 rfl (Nat.le_of_ble_eq_true rfl) dL_law_909 (by omega) (by omega) (fun H locs hP hS => ?_)
  have hP : va_P D vwCl (wT q qm qo qd cI cZ cL cD σ1 κ2 κ3 (fg g) (fd gd) μ1) H := hP
  have hD : va_D (fun a => s.heap.size ≤ a) (wT q qm qo qd cI cZ cL cD σ1 κ2 κ3 (fg g) (fd gd) μ1) := D_addr hD rfl
  refine W.eq (g2 := F0 m 912 ls [.int (r)]) rfl ?_
  refine lv_istore (lv' := [(7, .int (r)), (6, .int (nI (k))), (0, .ref (b)), (1, .ref (q 0)), (2, .ref (qm 0)), (3, .ref (qo)), (4, .ref (qd)), (5, .int (nI (i)))]) hx hb dL_law_912 hl (by decide) rfl (fun ls hl => ?_)
  refine lv_aload_n hx hb dL_law_914 rfl (lv_at hl 4 rfl) ?_
  have hPM : va_P D vwCl (wM qm cI cZ μ1) H := hP.sub [26, 27, 28, 29, 30, 31, 32, 33, 34, 35, 36, 37, 38, 39, 40, 41, 42, 43, 44, 45, 46, 47, 48, 49] rfl
  refine roV1 (v := .int (nI (μ1 0 2))) (As := []) (rest := []) (n := 0) ⟨hx, hb, hml, hown, htA⟩ (r_thrown l D cI cZ sa qm μ1 H hPM) (cwV 0 htA (gdV wd_724 wd_725 wd_726 wd_5 wd_727) rfl rfl rfl (by decide +kernel) ⟨Nat.le_trans (by decide) hR1, Nat.le_trans (by decide) hR2⟩) hKK hPM 0 rfl rfl rfl hl.1 rfl (Nat.le_of_ble_eq_true rfl) dL_law_915 (by omega) (by omega) ?_
  rw [h0]
  refine lv_iload hx hb dL_law_918 (lv_at hl 1 rfl) ?_
  refine n_icmp_eq (x := k) (y := k) (tgt := 925) hx hb dL_law_920 (by decide) (by omega) (by omega) (fun _ => ?_) (fun h => absurd rfl h)
  refine lv_iload hx hb dL_law_925 (lv_at hl 1 rfl) ?_
  refine n_ifne (x := k) (tgt := 942) hx hb dL_law_927 (by decide) (by omega) (fun _ => ?_) (fun h => ?_)
  · refine lv_goto (tgt := 1929) hx hb dL_law_942 (by decide) ?_
    exact kk _ _ _ ⟨hP, hD, hS, lv_sub hl [2, 3, 4, 5, 6, 7] rfl⟩
  refine lv_aload_n hx hb dL_law_930 rfl (lv_at hl 5 rfl) ?_
  refine n_iconst (k := 0) hx hb dL_law_931 (by decide) ?_
  refine va_lald hx hb hKL hP 0 0 rfl rfl (vp_in_nI (n := 0) (N := 1) (by decide) (by decide)) dL_law_932 ?_
  rw [hv h]
  refine lv_iload hx hb dL_law_933 (lv_at hl 0 rfl) ?_
  refine lv_i2l hx hb dL_law_935 rfl ?_
  refine W.lcmp hx hb dL_law_936 ?_
  rw [lg_self]
  refine lv_if_eq (tgt := 942) hx hb dL_law_937 (by decide) (fun _ => ?_) (fun h => absurd rfl h)
  refine lv_goto (tgt := 1929) hx hb dL_law_942 (by decide) ?_
  exact kk _ _ _ ⟨hP, hD, hS, lv_sub hl [2, 3, 4, 5, 6, 7] rfl⟩
set_option maxHeartbeats 4000000 in
set_option maxRecDepth 100000 in
theorem law_changedAt {p : Program} {l : Launch} {e : Env} {R : Room} {s : State} {m : MethodId} {args : Array Value} {below : List Frame} {meth : Method} {c : Code} {H : Heap} {locs : List Loc} {cells slots : Nat} {ls : Array Slot} {Q : State → Prop} {D : va_G} {cI cZ cL cD : ClassId} {sa q qm : Nat → Nat} {qo qd b L i : Nat} {xs : Nat → Int32} {σ κ0 κ1 σ1 κ2 κ3 μ μ1 : ST} {g : Nat → Int64} {gd : Nat → UInt64} (C : LawC p l R s m args c D cI cZ cL cD sa b L xs) (hcs : cells + 1 ≤ R.cells) (hss : slots + 6 ≤ R.slots) (hi : i + 5 ≤ L) (hSt : LawS s D cI cZ cL cD q qm qo qd b i σ κ0 κ1 g gd μ H locs ls) {k : Nat} {fg : (Nat → Int64) → Nat → Int64} {fd : (Nat → UInt64) → Nat → UInt64} {r : Int32} (hC : ClsOK yL_changedAt (codeL yL_changedAt cL_changedAt 6 (some .int) [(0, 12, 15, 13), (0, 12, 19, 15), (0, 12, 23, 21)]) σ κ0 κ1 σ1 κ2 κ3 [.int (xs (i + 1)), .int (xs (i + 2)), .int (xs (i + 3))] (some false) k fg fd) (hRf : RefOK yX4_changedAt (codeW yX4_changedAt cX4_changedAt 7 (some .int)) μ μ1 [.int (xs (i + 1)), .int (xs (i + 2)), .int (xs (i + 3))] (some (.int r))) (h0 : μ1 0 2 = k) (hk : k < 4) (hv : k = 0 → (fg g) (nI 0).toNatClampNeg = r.toInt64) (kk : ∀ (H1 : Heap) (locs1 : List Loc) (ls1 : Array Slot), LawS s D cI cZ cL cD q qm qo qd b i σ1 κ2 κ3 (fg g) (fd gd) μ1 H1 locs1 ls1 → W p l e R s m args below meth c H1 locs1 (cells + 1) (slots + 6) Q (F0 m 1929 ls1 [])) : W p l e R s m args below meth c H locs cells slots Q (F0 m 945 ls []) := by
  obtain ⟨hx, hb, hml, hown, htA, hX, hbl, hKK, hKL, hZ, hst9, hL, hR1, hR2⟩ := C
  obtain ⟨hP, hD, hS, hl⟩ := hSt
  have hbA : ¬ (fun a => s.heap.size ≤ a) b := Nat.not_le.mpr hbl
  refine lv_aload_n hx hb dL_law_945 rfl (lv_at hl 1 rfl) ?_
  refine lv_aload_n hx hb dL_law_946 rfl (lv_at hl 0 rfl) ?_
  refine lv_iload hx hb dL_law_947 (lv_at hl 5 rfl) ?_
  refine n_iconst (k := 1) hx hb dL_law_949 (by decide) ?_
  refine n_iadd hx hb dL_law_950 ?_
  refine n_sld (j := i + 1) hx hb hX hbl hbA hS (by omega) (by omega) dL_law_951 ?_
  refine lv_aload_n hx hb dL_law_952 rfl (lv_at hl 0 rfl) ?_
  refine lv_iload hx hb dL_law_953 (lv_at hl 5 rfl) ?_
  refine n_iconst (k := 2) hx hb dL_law_955 (by decide) ?_
  refine n_iadd hx hb dL_law_956 ?_
  refine n_sld (j := i + 2) hx hb hX hbl hbA hS (by omega) (by omega) dL_law_957 ?_
  refine lv_aload_n hx hb dL_law_958 rfl (lv_at hl 0 rfl) ?_
  refine lv_iload hx hb dL_law_959 (lv_at hl 5 rfl) ?_
  refine n_iconst (k := 3) hx hb dL_law_961 (by decide) ?_
  refine n_iadd hx hb dL_law_962 ?_
  refine n_sld (j := i + 3) hx hb hX hbl hbA hS (by omega) (by omega) dL_law_963 ?_
  refine lv_aload_n hx hb dL_law_964 rfl (lv_at hl 3 rfl) ?_
  refine lwS (n := 5) ⟨hx, hb, hml, hown, htA⟩ htA hC rfl (gdS wd_454 wd_455 wd_0 wd_456) (by decide +kernel) (by decide) hR1 (by omega) hst9 hKK hKL (hZ.of hS) hP hD hS rfl hl.1 rfl (Nat.le_of_ble_eq_true rfl) dL_law_965 hcs hss (fun H locs hP hS => ?_)
  have hP : va_P D vwCl (wT q qm qo qd cI cZ cL cD σ1 κ2 κ3 (fg g) (fd gd) μ) H := hP
  have hD : va_D (fun a => s.heap.size ≤ a) (wT q qm qo qd cI cZ cL cD σ1 κ2 κ3 (fg g) (fd gd) μ) := D_addr hD rfl
  refine lv_istore (lv' := [(6, .int (nI (k))), (0, .ref (b)), (1, .ref (q 0)), (2, .ref (qm 0)), (3, .ref (qo)), (4, .ref (qd)), (5, .int (nI (i)))]) hx hb dL_law_968 hl (by decide) rfl (fun ls hl => ?_)
  refine lv_aload_n hx hb dL_law_970 rfl (lv_at hl 3 rfl) ?_
  refine lv_aload_n hx hb dL_law_971 rfl (lv_at hl 1 rfl) ?_
  refine lv_iload hx hb dL_law_972 (lv_at hl 6 rfl) ?_
  refine n_iconst (k := 1) hx hb dL_law_974 (by decide) ?_
  refine n_iadd hx hb dL_law_975 ?_
  refine n_sld (j := i + 1) hx hb hX hbl hbA hS (by omega) (by omega) dL_law_976 ?_
  refine lv_aload_n hx hb dL_law_977 rfl (lv_at hl 1 rfl) ?_
  refine lv_iload hx hb dL_law_978 (lv_at hl 6 rfl) ?_
  refine n_iconst (k := 2) hx hb dL_law_980 (by decide) ?_
  refine n_iadd hx hb dL_law_981 ?_
  refine n_sld (j := i + 2) hx hb hX hbl hbA hS (by omega) (by omega) dL_law_982 ?_
  refine lv_aload_n hx hb dL_law_983 rfl (lv_at hl 1 rfl) ?_
  refine lv_iload hx hb dL_law_984 (lv_at hl 6 rfl) ?_
  refine n_iconst (k := 3) hx hb dL_law_986 (by decide) ?_
  refine n_iadd hx hb dL_law_987 ?_
  refine n_sld (j := i + 3) hx hb hX hbl hbA hS (by omega) (by omega) dL_law_988 ?_
  refine lwV (rest := []) (n := 3) ⟨hx, hb, hml, hown, htA⟩ htA hRf rfl (gdV wd_834 wd_835 wd_836 wd_5 wd_837) (by decide +kernel) (by decide) hR1 hR2 hKK hP hD hS rfl hl.1 rfl (Nat.le_of_ble_eq_true rfl) dL_law_989 (by omega) (by omega) (fun H locs hP hS => ?_)
  have hP : va_P D vwCl (wT q qm qo qd cI cZ cL cD σ1 κ2 κ3 (fg g) (fd gd) μ1) H := hP
  have hD : va_D (fun a => s.heap.size ≤ a) (wT q qm qo qd cI cZ cL cD σ1 κ2 κ3 (fg g) (fd gd) μ1) := D_addr hD rfl
  refine W.eq (g2 := F0 m 992 ls [.int (r)]) rfl ?_
  refine lv_istore (lv' := [(7, .int (r)), (6, .int (nI (k))), (0, .ref (b)), (1, .ref (q 0)), (2, .ref (qm 0)), (3, .ref (qo)), (4, .ref (qd)), (5, .int (nI (i)))]) hx hb dL_law_992 hl (by decide) rfl (fun ls hl => ?_)
  refine lv_aload_n hx hb dL_law_994 rfl (lv_at hl 4 rfl) ?_
  have hPM : va_P D vwCl (wM qm cI cZ μ1) H := hP.sub [26, 27, 28, 29, 30, 31, 32, 33, 34, 35, 36, 37, 38, 39, 40, 41, 42, 43, 44, 45, 46, 47, 48, 49] rfl
  refine roV1 (v := .int (nI (μ1 0 2))) (As := []) (rest := []) (n := 0) ⟨hx, hb, hml, hown, htA⟩ (r_thrown l D cI cZ sa qm μ1 H hPM) (cwV 0 htA (gdV wd_724 wd_725 wd_726 wd_5 wd_727) rfl rfl rfl (by decide +kernel) ⟨Nat.le_trans (by decide) hR1, Nat.le_trans (by decide) hR2⟩) hKK hPM 0 rfl rfl rfl hl.1 rfl (Nat.le_of_ble_eq_true rfl) dL_law_995 (by omega) (by omega) ?_
  rw [h0]
  refine lv_iload hx hb dL_law_998 (lv_at hl 1 rfl) ?_
  refine n_icmp_eq (x := k) (y := k) (tgt := 1005) hx hb dL_law_1000 (by decide) (by omega) (by omega) (fun _ => ?_) (fun h => absurd rfl h)
  refine lv_iload hx hb dL_law_1005 (lv_at hl 1 rfl) ?_
  refine n_ifne (x := k) (tgt := 1022) hx hb dL_law_1007 (by decide) (by omega) (fun _ => ?_) (fun h => ?_)
  · refine lv_goto (tgt := 1929) hx hb dL_law_1022 (by decide) ?_
    exact kk _ _ _ ⟨hP, hD, hS, lv_sub hl [2, 3, 4, 5, 6, 7] rfl⟩
  refine lv_aload_n hx hb dL_law_1010 rfl (lv_at hl 5 rfl) ?_
  refine n_iconst (k := 0) hx hb dL_law_1011 (by decide) ?_
  refine va_lald hx hb hKL hP 0 0 rfl rfl (vp_in_nI (n := 0) (N := 1) (by decide) (by decide)) dL_law_1012 ?_
  rw [hv h]
  refine lv_iload hx hb dL_law_1013 (lv_at hl 0 rfl) ?_
  refine lv_i2l hx hb dL_law_1015 rfl ?_
  refine W.lcmp hx hb dL_law_1016 ?_
  rw [lg_self]
  refine lv_if_eq (tgt := 1022) hx hb dL_law_1017 (by decide) (fun _ => ?_) (fun h => absurd rfl h)
  refine lv_goto (tgt := 1929) hx hb dL_law_1022 (by decide) ?_
  exact kk _ _ _ ⟨hP, hD, hS, lv_sub hl [2, 3, 4, 5, 6, 7] rfl⟩
set_option maxHeartbeats 4000000 in
set_option maxRecDepth 100000 in
theorem law_page {p : Program} {l : Launch} {e : Env} {R : Room} {s : State} {m : MethodId} {args : Array Value} {below : List Frame} {meth : Method} {c : Code} {H : Heap} {locs : List Loc} {cells slots : Nat} {ls : Array Slot} {Q : State → Prop} {D : va_G} {cI cZ cL cD : ClassId} {sa q qm : Nat → Nat} {qo qd b L i : Nat} {xs : Nat → Int32} {σ κ0 κ1 σ1 κ2 κ3 μ μ1 : ST} {g : Nat → Int64} {gd : Nat → UInt64} (C : LawC p l R s m args c D cI cZ cL cD sa b L xs) (hcs : cells + 1 ≤ R.cells) (hss : slots + 6 ≤ R.slots) (hi : i + 5 ≤ L) (hSt : LawS s D cI cZ cL cD q qm qo qd b i σ κ0 κ1 g gd μ H locs ls) {k : Nat} {fg : (Nat → Int64) → Nat → Int64} {fd : (Nat → UInt64) → Nat → UInt64} {r : Int32} (hC : ClsOK yL_page (codeL yL_page cL_page 5 (some .int) [(0, 10, 13, 13), (0, 10, 17, 15)]) σ κ0 κ1 σ1 κ2 κ3 [.int (xs (i + 1)), .int (xs (i + 2))] (some false) k fg fd) (hRf : RefOK yX4_page (codeW yX4_page cX4_page 7 (some .int)) μ μ1 [.int (xs (i + 1)), .int (xs (i + 2))] (some (.int r))) (h0 : μ1 0 2 = k) (hk : k < 4) (hv : k = 0 → (fg g) (nI 0).toNatClampNeg = r.toInt64) (kk : ∀ (H1 : Heap) (locs1 : List Loc) (ls1 : Array Slot), LawS s D cI cZ cL cD q qm qo qd b i σ1 κ2 κ3 (fg g) (fd gd) μ1 H1 locs1 ls1 → W p l e R s m args below meth c H1 locs1 (cells + 1) (slots + 6) Q (F0 m 1929 ls1 [])) : W p l e R s m args below meth c H locs cells slots Q (F0 m 1025 ls []) := by
  obtain ⟨hx, hb, hml, hown, htA, hX, hbl, hKK, hKL, hZ, hst9, hL, hR1, hR2⟩ := C
  obtain ⟨hP, hD, hS, hl⟩ := hSt
  have hbA : ¬ (fun a => s.heap.size ≤ a) b := Nat.not_le.mpr hbl
  refine lv_aload_n hx hb dL_law_1025 rfl (lv_at hl 1 rfl) ?_
  refine lv_aload_n hx hb dL_law_1026 rfl (lv_at hl 0 rfl) ?_
  refine lv_iload hx hb dL_law_1027 (lv_at hl 5 rfl) ?_
  refine n_iconst (k := 1) hx hb dL_law_1029 (by decide) ?_
  refine n_iadd hx hb dL_law_1030 ?_
  refine n_sld (j := i + 1) hx hb hX hbl hbA hS (by omega) (by omega) dL_law_1031 ?_
  refine lv_aload_n hx hb dL_law_1032 rfl (lv_at hl 0 rfl) ?_
  refine lv_iload hx hb dL_law_1033 (lv_at hl 5 rfl) ?_
  refine n_iconst (k := 2) hx hb dL_law_1035 (by decide) ?_
  refine n_iadd hx hb dL_law_1036 ?_
  refine n_sld (j := i + 2) hx hb hX hbl hbA hS (by omega) (by omega) dL_law_1037 ?_
  refine lv_aload_n hx hb dL_law_1038 rfl (lv_at hl 3 rfl) ?_
  refine lwS (n := 4) ⟨hx, hb, hml, hown, htA⟩ htA hC rfl (gdS wd_467 wd_468 wd_0 wd_469) (by decide +kernel) (by decide) hR1 (by omega) hst9 hKK hKL (hZ.of hS) hP hD hS rfl hl.1 rfl (Nat.le_of_ble_eq_true rfl) dL_law_1039 hcs hss (fun H locs hP hS => ?_)
  have hP : va_P D vwCl (wT q qm qo qd cI cZ cL cD σ1 κ2 κ3 (fg g) (fd gd) μ) H := hP
  have hD : va_D (fun a => s.heap.size ≤ a) (wT q qm qo qd cI cZ cL cD σ1 κ2 κ3 (fg g) (fd gd) μ) := D_addr hD rfl
  refine lv_istore (lv' := [(6, .int (nI (k))), (0, .ref (b)), (1, .ref (q 0)), (2, .ref (qm 0)), (3, .ref (qo)), (4, .ref (qd)), (5, .int (nI (i)))]) hx hb dL_law_1042 hl (by decide) rfl (fun ls hl => ?_)
  refine lv_aload_n hx hb dL_law_1044 rfl (lv_at hl 3 rfl) ?_
  refine lv_aload_n hx hb dL_law_1045 rfl (lv_at hl 1 rfl) ?_
  refine lv_iload hx hb dL_law_1046 (lv_at hl 6 rfl) ?_
  refine n_iconst (k := 1) hx hb dL_law_1048 (by decide) ?_
  refine n_iadd hx hb dL_law_1049 ?_
  refine n_sld (j := i + 1) hx hb hX hbl hbA hS (by omega) (by omega) dL_law_1050 ?_
  refine lv_aload_n hx hb dL_law_1051 rfl (lv_at hl 1 rfl) ?_
  refine lv_iload hx hb dL_law_1052 (lv_at hl 6 rfl) ?_
  refine n_iconst (k := 2) hx hb dL_law_1054 (by decide) ?_
  refine n_iadd hx hb dL_law_1055 ?_
  refine n_sld (j := i + 2) hx hb hX hbl hbA hS (by omega) (by omega) dL_law_1056 ?_
  refine lwV (rest := []) (n := 2) ⟨hx, hb, hml, hown, htA⟩ htA hRf rfl (gdV wd_838 wd_839 wd_840 wd_5 wd_841) (by decide +kernel) (by decide) hR1 hR2 hKK hP hD hS rfl hl.1 rfl (Nat.le_of_ble_eq_true rfl) dL_law_1057 (by omega) (by omega) (fun H locs hP hS => ?_)
  have hP : va_P D vwCl (wT q qm qo qd cI cZ cL cD σ1 κ2 κ3 (fg g) (fd gd) μ1) H := hP
  have hD : va_D (fun a => s.heap.size ≤ a) (wT q qm qo qd cI cZ cL cD σ1 κ2 κ3 (fg g) (fd gd) μ1) := D_addr hD rfl
  refine W.eq (g2 := F0 m 1060 ls [.int (r)]) rfl ?_
  refine lv_istore (lv' := [(7, .int (r)), (6, .int (nI (k))), (0, .ref (b)), (1, .ref (q 0)), (2, .ref (qm 0)), (3, .ref (qo)), (4, .ref (qd)), (5, .int (nI (i)))]) hx hb dL_law_1060 hl (by decide) rfl (fun ls hl => ?_)
  refine lv_aload_n hx hb dL_law_1062 rfl (lv_at hl 4 rfl) ?_
  have hPM : va_P D vwCl (wM qm cI cZ μ1) H := hP.sub [26, 27, 28, 29, 30, 31, 32, 33, 34, 35, 36, 37, 38, 39, 40, 41, 42, 43, 44, 45, 46, 47, 48, 49] rfl
  refine roV1 (v := .int (nI (μ1 0 2))) (As := []) (rest := []) (n := 0) ⟨hx, hb, hml, hown, htA⟩ (r_thrown l D cI cZ sa qm μ1 H hPM) (cwV 0 htA (gdV wd_724 wd_725 wd_726 wd_5 wd_727) rfl rfl rfl (by decide +kernel) ⟨Nat.le_trans (by decide) hR1, Nat.le_trans (by decide) hR2⟩) hKK hPM 0 rfl rfl rfl hl.1 rfl (Nat.le_of_ble_eq_true rfl) dL_law_1063 (by omega) (by omega) ?_
  rw [h0]
  refine lv_iload hx hb dL_law_1066 (lv_at hl 1 rfl) ?_
  refine n_icmp_eq (x := k) (y := k) (tgt := 1073) hx hb dL_law_1068 (by decide) (by omega) (by omega) (fun _ => ?_) (fun h => absurd rfl h)
  refine lv_iload hx hb dL_law_1073 (lv_at hl 1 rfl) ?_
  refine n_ifne (x := k) (tgt := 1090) hx hb dL_law_1075 (by decide) (by omega) (fun _ => ?_) (fun h => ?_)
  · refine lv_goto (tgt := 1929) hx hb dL_law_1090 (by decide) ?_
    exact kk _ _ _ ⟨hP, hD, hS, lv_sub hl [2, 3, 4, 5, 6, 7] rfl⟩
  refine lv_aload_n hx hb dL_law_1078 rfl (lv_at hl 5 rfl) ?_
  refine n_iconst (k := 0) hx hb dL_law_1079 (by decide) ?_
  refine va_lald hx hb hKL hP 0 0 rfl rfl (vp_in_nI (n := 0) (N := 1) (by decide) (by decide)) dL_law_1080 ?_
  rw [hv h]
  refine lv_iload hx hb dL_law_1081 (lv_at hl 0 rfl) ?_
  refine lv_i2l hx hb dL_law_1083 rfl ?_
  refine W.lcmp hx hb dL_law_1084 ?_
  rw [lg_self]
  refine lv_if_eq (tgt := 1090) hx hb dL_law_1085 (by decide) (fun _ => ?_) (fun h => absurd rfl h)
  refine lv_goto (tgt := 1929) hx hb dL_law_1090 (by decide) ?_
  exact kk _ _ _ ⟨hP, hD, hS, lv_sub hl [2, 3, 4, 5, 6, 7] rfl⟩
set_option maxHeartbeats 4000000 in
set_option maxRecDepth 100000 in
theorem law_found {p : Program} {l : Launch} {e : Env} {R : Room} {s : State} {m : MethodId} {args : Array Value} {below : List Frame} {meth : Method} {c : Code} {H : Heap} {locs : List Loc} {cells slots : Nat} {ls : Array Slot} {Q : State → Prop} {D : va_G} {cI cZ cL cD : ClassId} {sa q qm : Nat → Nat} {qo qd b L i : Nat} {xs : Nat → Int32} {σ κ0 κ1 σ1 κ2 κ3 μ μ1 : ST} {g : Nat → Int64} {gd : Nat → UInt64} (C : LawC p l R s m args c D cI cZ cL cD sa b L xs) (hcs : cells + 1 ≤ R.cells) (hss : slots + 6 ≤ R.slots) (hi : i + 5 ≤ L) (hSt : LawS s D cI cZ cL cD q qm qo qd b i σ κ0 κ1 g gd μ H locs ls) {k : Nat} {fg : (Nat → Int64) → Nat → Int64} {fd : (Nat → UInt64) → Nat → UInt64} {r : Int32} (hC : ClsOK yL_found (codeL yL_found cL_found 5 (some .int) [(0, 10, 13, 13)]) σ κ0 κ1 σ1 κ2 κ3 [.int (xs (i + 1)), .int (xs (i + 2))] (some false) k fg fd) (hRf : RefOK yX4_found (codeW yX4_found cX4_found 3 (some .int)) μ μ1 [.int (xs (i + 1)), .int (xs (i + 2))] (some (.int r))) (h0 : μ1 0 2 = k) (hk : k < 4) (hv : k = 0 → (fg g) (nI 0).toNatClampNeg = r.toInt64) (kk : ∀ (H1 : Heap) (locs1 : List Loc) (ls1 : Array Slot), LawS s D cI cZ cL cD q qm qo qd b i σ1 κ2 κ3 (fg g) (fd gd) μ1 H1 locs1 ls1 → W p l e R s m args below meth c H1 locs1 (cells + 1) (slots + 6) Q (F0 m 1929 ls1 [])) : W p l e R s m args below meth c H locs cells slots Q (F0 m 1093 ls []) := by
  obtain ⟨hx, hb, hml, hown, htA, hX, hbl, hKK, hKL, hZ, hst9, hL, hR1, hR2⟩ := C
  obtain ⟨hP, hD, hS, hl⟩ := hSt
  have hbA : ¬ (fun a => s.heap.size ≤ a) b := Nat.not_le.mpr hbl
  refine lv_aload_n hx hb dL_law_1093 rfl (lv_at hl 1 rfl) ?_
  refine lv_aload_n hx hb dL_law_1094 rfl (lv_at hl 0 rfl) ?_
  refine lv_iload hx hb dL_law_1095 (lv_at hl 5 rfl) ?_
  refine n_iconst (k := 1) hx hb dL_law_1097 (by decide) ?_
  refine n_iadd hx hb dL_law_1098 ?_
  refine n_sld (j := i + 1) hx hb hX hbl hbA hS (by omega) (by omega) dL_law_1099 ?_
  refine lv_aload_n hx hb dL_law_1100 rfl (lv_at hl 0 rfl) ?_
  refine lv_iload hx hb dL_law_1101 (lv_at hl 5 rfl) ?_
  refine n_iconst (k := 2) hx hb dL_law_1103 (by decide) ?_
  refine n_iadd hx hb dL_law_1104 ?_
  refine n_sld (j := i + 2) hx hb hX hbl hbA hS (by omega) (by omega) dL_law_1105 ?_
  refine lv_aload_n hx hb dL_law_1106 rfl (lv_at hl 3 rfl) ?_
  refine lwS (n := 4) ⟨hx, hb, hml, hown, htA⟩ htA hC rfl (gdS wd_481 wd_482 wd_0 wd_483) (by decide +kernel) (by decide) hR1 (by omega) hst9 hKK hKL (hZ.of hS) hP hD hS rfl hl.1 rfl (Nat.le_of_ble_eq_true rfl) dL_law_1107 hcs hss (fun H locs hP hS => ?_)
  have hP : va_P D vwCl (wT q qm qo qd cI cZ cL cD σ1 κ2 κ3 (fg g) (fd gd) μ) H := hP
  have hD : va_D (fun a => s.heap.size ≤ a) (wT q qm qo qd cI cZ cL cD σ1 κ2 κ3 (fg g) (fd gd) μ) := D_addr hD rfl
  refine lv_istore (lv' := [(6, .int (nI (k))), (0, .ref (b)), (1, .ref (q 0)), (2, .ref (qm 0)), (3, .ref (qo)), (4, .ref (qd)), (5, .int (nI (i)))]) hx hb dL_law_1110 hl (by decide) rfl (fun ls hl => ?_)
  refine lv_aload_n hx hb dL_law_1112 rfl (lv_at hl 3 rfl) ?_
  refine lv_aload_n hx hb dL_law_1113 rfl (lv_at hl 1 rfl) ?_
  refine lv_iload hx hb dL_law_1114 (lv_at hl 6 rfl) ?_
  refine n_iconst (k := 1) hx hb dL_law_1116 (by decide) ?_
  refine n_iadd hx hb dL_law_1117 ?_
  refine n_sld (j := i + 1) hx hb hX hbl hbA hS (by omega) (by omega) dL_law_1118 ?_
  refine lv_aload_n hx hb dL_law_1119 rfl (lv_at hl 1 rfl) ?_
  refine lv_iload hx hb dL_law_1120 (lv_at hl 6 rfl) ?_
  refine n_iconst (k := 2) hx hb dL_law_1122 (by decide) ?_
  refine n_iadd hx hb dL_law_1123 ?_
  refine n_sld (j := i + 2) hx hb hX hbl hbA hS (by omega) (by omega) dL_law_1124 ?_
  refine lwV (rest := []) (n := 2) ⟨hx, hb, hml, hown, htA⟩ htA hRf rfl (gdV wd_842 wd_843 wd_844 wd_5 wd_845) (by decide +kernel) (by decide) hR1 hR2 hKK hP hD hS rfl hl.1 rfl (Nat.le_of_ble_eq_true rfl) dL_law_1125 (by omega) (by omega) (fun H locs hP hS => ?_)
  have hP : va_P D vwCl (wT q qm qo qd cI cZ cL cD σ1 κ2 κ3 (fg g) (fd gd) μ1) H := hP
  have hD : va_D (fun a => s.heap.size ≤ a) (wT q qm qo qd cI cZ cL cD σ1 κ2 κ3 (fg g) (fd gd) μ1) := D_addr hD rfl
  refine W.eq (g2 := F0 m 1128 ls [.int (r)]) rfl ?_
  refine lv_istore (lv' := [(7, .int (r)), (6, .int (nI (k))), (0, .ref (b)), (1, .ref (q 0)), (2, .ref (qm 0)), (3, .ref (qo)), (4, .ref (qd)), (5, .int (nI (i)))]) hx hb dL_law_1128 hl (by decide) rfl (fun ls hl => ?_)
  refine lv_aload_n hx hb dL_law_1130 rfl (lv_at hl 4 rfl) ?_
  have hPM : va_P D vwCl (wM qm cI cZ μ1) H := hP.sub [26, 27, 28, 29, 30, 31, 32, 33, 34, 35, 36, 37, 38, 39, 40, 41, 42, 43, 44, 45, 46, 47, 48, 49] rfl
  refine roV1 (v := .int (nI (μ1 0 2))) (As := []) (rest := []) (n := 0) ⟨hx, hb, hml, hown, htA⟩ (r_thrown l D cI cZ sa qm μ1 H hPM) (cwV 0 htA (gdV wd_724 wd_725 wd_726 wd_5 wd_727) rfl rfl rfl (by decide +kernel) ⟨Nat.le_trans (by decide) hR1, Nat.le_trans (by decide) hR2⟩) hKK hPM 0 rfl rfl rfl hl.1 rfl (Nat.le_of_ble_eq_true rfl) dL_law_1131 (by omega) (by omega) ?_
  rw [h0]
  refine lv_iload hx hb dL_law_1134 (lv_at hl 1 rfl) ?_
  refine n_icmp_eq (x := k) (y := k) (tgt := 1141) hx hb dL_law_1136 (by decide) (by omega) (by omega) (fun _ => ?_) (fun h => absurd rfl h)
  refine lv_iload hx hb dL_law_1141 (lv_at hl 1 rfl) ?_
  refine n_ifne (x := k) (tgt := 1158) hx hb dL_law_1143 (by decide) (by omega) (fun _ => ?_) (fun h => ?_)
  · refine lv_goto (tgt := 1929) hx hb dL_law_1158 (by decide) ?_
    exact kk _ _ _ ⟨hP, hD, hS, lv_sub hl [2, 3, 4, 5, 6, 7] rfl⟩
  refine lv_aload_n hx hb dL_law_1146 rfl (lv_at hl 5 rfl) ?_
  refine n_iconst (k := 0) hx hb dL_law_1147 (by decide) ?_
  refine va_lald hx hb hKL hP 0 0 rfl rfl (vp_in_nI (n := 0) (N := 1) (by decide) (by decide)) dL_law_1148 ?_
  rw [hv h]
  refine lv_iload hx hb dL_law_1149 (lv_at hl 0 rfl) ?_
  refine lv_i2l hx hb dL_law_1151 rfl ?_
  refine W.lcmp hx hb dL_law_1152 ?_
  rw [lg_self]
  refine lv_if_eq (tgt := 1158) hx hb dL_law_1153 (by decide) (fun _ => ?_) (fun h => absurd rfl h)
  refine lv_goto (tgt := 1929) hx hb dL_law_1158 (by decide) ?_
  exact kk _ _ _ ⟨hP, hD, hS, lv_sub hl [2, 3, 4, 5, 6, 7] rfl⟩
set_option maxHeartbeats 4000000 in
set_option maxRecDepth 100000 in
theorem law_foundAt {p : Program} {l : Launch} {e : Env} {R : Room} {s : State} {m : MethodId} {args : Array Value} {below : List Frame} {meth : Method} {c : Code} {H : Heap} {locs : List Loc} {cells slots : Nat} {ls : Array Slot} {Q : State → Prop} {D : va_G} {cI cZ cL cD : ClassId} {sa q qm : Nat → Nat} {qo qd b L i : Nat} {xs : Nat → Int32} {σ κ0 κ1 σ1 κ2 κ3 μ μ1 : ST} {g : Nat → Int64} {gd : Nat → UInt64} (C : LawC p l R s m args c D cI cZ cL cD sa b L xs) (hcs : cells + 1 ≤ R.cells) (hss : slots + 6 ≤ R.slots) (hi : i + 5 ≤ L) (hSt : LawS s D cI cZ cL cD q qm qo qd b i σ κ0 κ1 g gd μ H locs ls) {k : Nat} {fg : (Nat → Int64) → Nat → Int64} {fd : (Nat → UInt64) → Nat → UInt64} {r : Int32} (hC : ClsOK yL_foundAt (codeL yL_foundAt cL_foundAt 6 (some .int) [(0, 12, 15, 13), (0, 12, 19, 21)]) σ κ0 κ1 σ1 κ2 κ3 [.int (xs (i + 1)), .int (xs (i + 2)), .int (xs (i + 3))] (some false) k fg fd) (hRf : RefOK yX4_foundAt (codeW yX4_foundAt cX4_foundAt 5 (some .int)) μ μ1 [.int (xs (i + 1)), .int (xs (i + 2)), .int (xs (i + 3))] (some (.int r))) (h0 : μ1 0 2 = k) (hk : k < 4) (hv : k = 0 → (fg g) (nI 0).toNatClampNeg = r.toInt64) (kk : ∀ (H1 : Heap) (locs1 : List Loc) (ls1 : Array Slot), LawS s D cI cZ cL cD q qm qo qd b i σ1 κ2 κ3 (fg g) (fd gd) μ1 H1 locs1 ls1 → W p l e R s m args below meth c H1 locs1 (cells + 1) (slots + 6) Q (F0 m 1929 ls1 [])) : W p l e R s m args below meth c H locs cells slots Q (F0 m 1161 ls []) := by
  obtain ⟨hx, hb, hml, hown, htA, hX, hbl, hKK, hKL, hZ, hst9, hL, hR1, hR2⟩ := C
  obtain ⟨hP, hD, hS, hl⟩ := hSt
  have hbA : ¬ (fun a => s.heap.size ≤ a) b := Nat.not_le.mpr hbl
  refine lv_aload_n hx hb dL_law_1161 rfl (lv_at hl 1 rfl) ?_
  refine lv_aload_n hx hb dL_law_1162 rfl (lv_at hl 0 rfl) ?_
  refine lv_iload hx hb dL_law_1163 (lv_at hl 5 rfl) ?_
  refine n_iconst (k := 1) hx hb dL_law_1165 (by decide) ?_
  refine n_iadd hx hb dL_law_1166 ?_
  refine n_sld (j := i + 1) hx hb hX hbl hbA hS (by omega) (by omega) dL_law_1167 ?_
  refine lv_aload_n hx hb dL_law_1168 rfl (lv_at hl 0 rfl) ?_
  refine lv_iload hx hb dL_law_1169 (lv_at hl 5 rfl) ?_
  refine n_iconst (k := 2) hx hb dL_law_1171 (by decide) ?_
  refine n_iadd hx hb dL_law_1172 ?_
  refine n_sld (j := i + 2) hx hb hX hbl hbA hS (by omega) (by omega) dL_law_1173 ?_
  refine lv_aload_n hx hb dL_law_1174 rfl (lv_at hl 0 rfl) ?_
  refine lv_iload hx hb dL_law_1175 (lv_at hl 5 rfl) ?_
  refine n_iconst (k := 3) hx hb dL_law_1177 (by decide) ?_
  refine n_iadd hx hb dL_law_1178 ?_
  refine n_sld (j := i + 3) hx hb hX hbl hbA hS (by omega) (by omega) dL_law_1179 ?_
  refine lv_aload_n hx hb dL_law_1180 rfl (lv_at hl 3 rfl) ?_
  refine lwS (n := 5) ⟨hx, hb, hml, hown, htA⟩ htA hC rfl (gdS wd_494 wd_495 wd_0 wd_496) (by decide +kernel) (by decide) hR1 (by omega) hst9 hKK hKL (hZ.of hS) hP hD hS rfl hl.1 rfl (Nat.le_of_ble_eq_true rfl) dL_law_1181 hcs hss (fun H locs hP hS => ?_)
  have hP : va_P D vwCl (wT q qm qo qd cI cZ cL cD σ1 κ2 κ3 (fg g) (fd gd) μ) H := hP
  have hD : va_D (fun a => s.heap.size ≤ a) (wT q qm qo qd cI cZ cL cD σ1 κ2 κ3 (fg g) (fd gd) μ) := D_addr hD rfl
  refine lv_istore (lv' := [(6, .int (nI (k))), (0, .ref (b)), (1, .ref (q 0)), (2, .ref (qm 0)), (3, .ref (qo)), (4, .ref (qd)), (5, .int (nI (i)))]) hx hb dL_law_1184 hl (by decide) rfl (fun ls hl => ?_)
  refine lv_aload_n hx hb dL_law_1186 rfl (lv_at hl 3 rfl) ?_
  refine lv_aload_n hx hb dL_law_1187 rfl (lv_at hl 1 rfl) ?_
  refine lv_iload hx hb dL_law_1188 (lv_at hl 6 rfl) ?_
  refine n_iconst (k := 1) hx hb dL_law_1190 (by decide) ?_
  refine n_iadd hx hb dL_law_1191 ?_
  refine n_sld (j := i + 1) hx hb hX hbl hbA hS (by omega) (by omega) dL_law_1192 ?_
  refine lv_aload_n hx hb dL_law_1193 rfl (lv_at hl 1 rfl) ?_
  refine lv_iload hx hb dL_law_1194 (lv_at hl 6 rfl) ?_
  refine n_iconst (k := 2) hx hb dL_law_1196 (by decide) ?_
  refine n_iadd hx hb dL_law_1197 ?_
  refine n_sld (j := i + 2) hx hb hX hbl hbA hS (by omega) (by omega) dL_law_1198 ?_
  refine lv_aload_n hx hb dL_law_1199 rfl (lv_at hl 1 rfl) ?_
  refine lv_iload hx hb dL_law_1200 (lv_at hl 6 rfl) ?_
  refine n_iconst (k := 3) hx hb dL_law_1202 (by decide) ?_
  refine n_iadd hx hb dL_law_1203 ?_
  refine n_sld (j := i + 3) hx hb hX hbl hbA hS (by omega) (by omega) dL_law_1204 ?_
  refine lwV (rest := []) (n := 3) ⟨hx, hb, hml, hown, htA⟩ htA hRf rfl (gdV wd_849 wd_850 wd_851 wd_5 wd_852) (by decide +kernel) (by decide) hR1 hR2 hKK hP hD hS rfl hl.1 rfl (Nat.le_of_ble_eq_true rfl) dL_law_1205 (by omega) (by omega) (fun H locs hP hS => ?_)
  have hP : va_P D vwCl (wT q qm qo qd cI cZ cL cD σ1 κ2 κ3 (fg g) (fd gd) μ1) H := hP
  have hD : va_D (fun a => s.heap.size ≤ a) (wT q qm qo qd cI cZ cL cD σ1 κ2 κ3 (fg g) (fd gd) μ1) := D_addr hD rfl
  refine W.eq (g2 := F0 m 1208 ls [.int (r)]) rfl ?_
  refine lv_istore (lv' := [(7, .int (r)), (6, .int (nI (k))), (0, .ref (b)), (1, .ref (q 0)), (2, .ref (qm 0)), (3, .ref (qo)), (4, .ref (qd)), (5, .int (nI (i)))]) hx hb dL_law_1208 hl (by decide) rfl (fun ls hl => ?_)
  refine lv_aload_n hx hb dL_law_1210 rfl (lv_at hl 4 rfl) ?_
  have hPM : va_P D vwCl (wM qm cI cZ μ1) H := hP.sub [26, 27, 28, 29, 30, 31, 32, 33, 34, 35, 36, 37, 38, 39, 40, 41, 42, 43, 44, 45, 46, 47, 48, 49] rfl
  refine roV1 (v := .int (nI (μ1 0 2))) (As := []) (rest := []) (n := 0) ⟨hx, hb, hml, hown, htA⟩ (r_thrown l D cI cZ sa qm μ1 H hPM) (cwV 0 htA (gdV wd_724 wd_725 wd_726 wd_5 wd_727) rfl rfl rfl (by decide +kernel) ⟨Nat.le_trans (by decide) hR1, Nat.le_trans (by decide) hR2⟩) hKK hPM 0 rfl rfl rfl hl.1 rfl (Nat.le_of_ble_eq_true rfl) dL_law_1211 (by omega) (by omega) ?_
  rw [h0]
  refine lv_iload hx hb dL_law_1214 (lv_at hl 1 rfl) ?_
  refine n_icmp_eq (x := k) (y := k) (tgt := 1221) hx hb dL_law_1216 (by decide) (by omega) (by omega) (fun _ => ?_) (fun h => absurd rfl h)
  refine lv_iload hx hb dL_law_1221 (lv_at hl 1 rfl) ?_
  refine n_ifne (x := k) (tgt := 1238) hx hb dL_law_1223 (by decide) (by omega) (fun _ => ?_) (fun h => ?_)
  · refine lv_goto (tgt := 1929) hx hb dL_law_1238 (by decide) ?_
    exact kk _ _ _ ⟨hP, hD, hS, lv_sub hl [2, 3, 4, 5, 6, 7] rfl⟩
  refine lv_aload_n hx hb dL_law_1226 rfl (lv_at hl 5 rfl) ?_
  refine n_iconst (k := 0) hx hb dL_law_1227 (by decide) ?_
  refine va_lald hx hb hKL hP 0 0 rfl rfl (vp_in_nI (n := 0) (N := 1) (by decide) (by decide)) dL_law_1228 ?_
  rw [hv h]
  refine lv_iload hx hb dL_law_1229 (lv_at hl 0 rfl) ?_
  refine lv_i2l hx hb dL_law_1231 rfl ?_
  refine W.lcmp hx hb dL_law_1232 ?_
  rw [lg_self]
  refine lv_if_eq (tgt := 1238) hx hb dL_law_1233 (by decide) (fun _ => ?_) (fun h => absurd rfl h)
  refine lv_goto (tgt := 1929) hx hb dL_law_1238 (by decide) ?_
  exact kk _ _ _ ⟨hP, hD, hS, lv_sub hl [2, 3, 4, 5, 6, 7] rfl⟩
set_option maxHeartbeats 4000000 in
set_option maxRecDepth 100000 in
theorem law_removed {p : Program} {l : Launch} {e : Env} {R : Room} {s : State} {m : MethodId} {args : Array Value} {below : List Frame} {meth : Method} {c : Code} {H : Heap} {locs : List Loc} {cells slots : Nat} {ls : Array Slot} {Q : State → Prop} {D : va_G} {cI cZ cL cD : ClassId} {sa q qm : Nat → Nat} {qo qd b L i : Nat} {xs : Nat → Int32} {σ κ0 κ1 σ1 κ2 κ3 μ μ1 : ST} {g : Nat → Int64} {gd : Nat → UInt64} (C : LawC p l R s m args c D cI cZ cL cD sa b L xs) (hcs : cells + 1 ≤ R.cells) (hss : slots + 6 ≤ R.slots) (hi : i + 5 ≤ L) (hSt : LawS s D cI cZ cL cD q qm qo qd b i σ κ0 κ1 g gd μ H locs ls) {k : Nat} {fg : (Nat → Int64) → Nat → Int64} {fd : (Nat → UInt64) → Nat → UInt64} {r : Int32} (hC : ClsOK yL_removed (codeL yL_removed cL_removed 6 (some .int) [(0, 12, 15, 13), (0, 12, 19, 15)]) σ κ0 κ1 σ1 κ2 κ3 [.int (xs (i + 1)), .int (xs (i + 2)), .int (xs (i + 3))] (some false) k fg fd) (hRf : RefOK yX4_removed (codeW yX4_removed cX4_removed 6 (some .int)) μ μ1 [.int (xs (i + 1)), .int (xs (i + 2)), .int (xs (i + 3))] (some (.int r))) (h0 : μ1 0 2 = k) (hk : k < 4) (hv : k = 0 → (fg g) (nI 0).toNatClampNeg = r.toInt64) (kk : ∀ (H1 : Heap) (locs1 : List Loc) (ls1 : Array Slot), LawS s D cI cZ cL cD q qm qo qd b i σ1 κ2 κ3 (fg g) (fd gd) μ1 H1 locs1 ls1 → W p l e R s m args below meth c H1 locs1 (cells + 1) (slots + 6) Q (F0 m 1929 ls1 [])) : W p l e R s m args below meth c H locs cells slots Q (F0 m 1241 ls []) := by
  obtain ⟨hx, hb, hml, hown, htA, hX, hbl, hKK, hKL, hZ, hst9, hL, hR1, hR2⟩ := C
  obtain ⟨hP, hD, hS, hl⟩ := hSt
  have hbA : ¬ (fun a => s.heap.size ≤ a) b := Nat.not_le.mpr hbl
  refine lv_aload_n hx hb dL_law_1241 rfl (lv_at hl 1 rfl) ?_
  refine lv_aload_n hx hb dL_law_1242 rfl (lv_at hl 0 rfl) ?_
  refine lv_iload hx hb dL_law_1243 (lv_at hl 5 rfl) ?_
  refine n_iconst (k := 1) hx hb dL_law_1245 (by decide) ?_
  refine n_iadd hx hb dL_law_1246 ?_
  refine n_sld (j := i + 1) hx hb hX hbl hbA hS (by omega) (by omega) dL_law_1247 ?_
  refine lv_aload_n hx hb dL_law_1248 rfl (lv_at hl 0 rfl) ?_
  refine lv_iload hx hb dL_law_1249 (lv_at hl 5 rfl) ?_
  refine n_iconst (k := 2) hx hb dL_law_1251 (by decide) ?_
  refine n_iadd hx hb dL_law_1252 ?_
  refine n_sld (j := i + 2) hx hb hX hbl hbA hS (by omega) (by omega) dL_law_1253 ?_
  refine lv_aload_n hx hb dL_law_1254 rfl (lv_at hl 0 rfl) ?_
  refine lv_iload hx hb dL_law_1255 (lv_at hl 5 rfl) ?_
  refine n_iconst (k := 3) hx hb dL_law_1257 (by decide) ?_
  refine n_iadd hx hb dL_law_1258 ?_
  refine n_sld (j := i + 3) hx hb hX hbl hbA hS (by omega) (by omega) dL_law_1259 ?_
  refine lv_aload_n hx hb dL_law_1260 rfl (lv_at hl 3 rfl) ?_
  refine lwS (n := 5) ⟨hx, hb, hml, hown, htA⟩ htA hC rfl (gdS wd_506 wd_507 wd_0 wd_508) (by decide +kernel) (by decide) hR1 (by omega) hst9 hKK hKL (hZ.of hS) hP hD hS rfl hl.1 rfl (Nat.le_of_ble_eq_true rfl) dL_law_1261 hcs hss (fun H locs hP hS => ?_)
  have hP : va_P D vwCl (wT q qm qo qd cI cZ cL cD σ1 κ2 κ3 (fg g) (fd gd) μ) H := hP
  have hD : va_D (fun a => s.heap.size ≤ a) (wT q qm qo qd cI cZ cL cD σ1 κ2 κ3 (fg g) (fd gd) μ) := D_addr hD rfl
  refine lv_istore (lv' := [(6, .int (nI (k))), (0, .ref (b)), (1, .ref (q 0)), (2, .ref (qm 0)), (3, .ref (qo)), (4, .ref (qd)), (5, .int (nI (i)))]) hx hb dL_law_1264 hl (by decide) rfl (fun ls hl => ?_)
  refine lv_aload_n hx hb dL_law_1266 rfl (lv_at hl 3 rfl) ?_
  refine lv_aload_n hx hb dL_law_1267 rfl (lv_at hl 1 rfl) ?_
  refine lv_iload hx hb dL_law_1268 (lv_at hl 6 rfl) ?_
  refine n_iconst (k := 1) hx hb dL_law_1270 (by decide) ?_
  refine n_iadd hx hb dL_law_1271 ?_
  refine n_sld (j := i + 1) hx hb hX hbl hbA hS (by omega) (by omega) dL_law_1272 ?_
  refine lv_aload_n hx hb dL_law_1273 rfl (lv_at hl 1 rfl) ?_
  refine lv_iload hx hb dL_law_1274 (lv_at hl 6 rfl) ?_
  refine n_iconst (k := 2) hx hb dL_law_1276 (by decide) ?_
  refine n_iadd hx hb dL_law_1277 ?_
  refine n_sld (j := i + 2) hx hb hX hbl hbA hS (by omega) (by omega) dL_law_1278 ?_
  refine lv_aload_n hx hb dL_law_1279 rfl (lv_at hl 1 rfl) ?_
  refine lv_iload hx hb dL_law_1280 (lv_at hl 6 rfl) ?_
  refine n_iconst (k := 3) hx hb dL_law_1282 (by decide) ?_
  refine n_iadd hx hb dL_law_1283 ?_
  refine n_sld (j := i + 3) hx hb hX hbl hbA hS (by omega) (by omega) dL_law_1284 ?_
  refine lwV (rest := []) (n := 3) ⟨hx, hb, hml, hown, htA⟩ htA hRf rfl (gdV wd_857 wd_858 wd_859 wd_5 wd_860) (by decide +kernel) (by decide) hR1 hR2 hKK hP hD hS rfl hl.1 rfl (Nat.le_of_ble_eq_true rfl) dL_law_1285 (by omega) (by omega) (fun H locs hP hS => ?_)
  have hP : va_P D vwCl (wT q qm qo qd cI cZ cL cD σ1 κ2 κ3 (fg g) (fd gd) μ1) H := hP
  have hD : va_D (fun a => s.heap.size ≤ a) (wT q qm qo qd cI cZ cL cD σ1 κ2 κ3 (fg g) (fd gd) μ1) := D_addr hD rfl
  refine W.eq (g2 := F0 m 1288 ls [.int (r)]) rfl ?_
  refine lv_istore (lv' := [(7, .int (r)), (6, .int (nI (k))), (0, .ref (b)), (1, .ref (q 0)), (2, .ref (qm 0)), (3, .ref (qo)), (4, .ref (qd)), (5, .int (nI (i)))]) hx hb dL_law_1288 hl (by decide) rfl (fun ls hl => ?_)
  refine lv_aload_n hx hb dL_law_1290 rfl (lv_at hl 4 rfl) ?_
  have hPM : va_P D vwCl (wM qm cI cZ μ1) H := hP.sub [26, 27, 28, 29, 30, 31, 32, 33, 34, 35, 36, 37, 38, 39, 40, 41, 42, 43, 44, 45, 46, 47, 48, 49] rfl
  refine roV1 (v := .int (nI (μ1 0 2))) (As := []) (rest := []) (n := 0) ⟨hx, hb, hml, hown, htA⟩ (r_thrown l D cI cZ sa qm μ1 H hPM) (cwV 0 htA (gdV wd_724 wd_725 wd_726 wd_5 wd_727) rfl rfl rfl (by decide +kernel) ⟨Nat.le_trans (by decide) hR1, Nat.le_trans (by decide) hR2⟩) hKK hPM 0 rfl rfl rfl hl.1 rfl (Nat.le_of_ble_eq_true rfl) dL_law_1291 (by omega) (by omega) ?_
  rw [h0]
  refine lv_iload hx hb dL_law_1294 (lv_at hl 1 rfl) ?_
  refine n_icmp_eq (x := k) (y := k) (tgt := 1301) hx hb dL_law_1296 (by decide) (by omega) (by omega) (fun _ => ?_) (fun h => absurd rfl h)
  refine lv_iload hx hb dL_law_1301 (lv_at hl 1 rfl) ?_
  refine n_ifne (x := k) (tgt := 1318) hx hb dL_law_1303 (by decide) (by omega) (fun _ => ?_) (fun h => ?_)
  · refine lv_goto (tgt := 1929) hx hb dL_law_1318 (by decide) ?_
    exact kk _ _ _ ⟨hP, hD, hS, lv_sub hl [2, 3, 4, 5, 6, 7] rfl⟩
  refine lv_aload_n hx hb dL_law_1306 rfl (lv_at hl 5 rfl) ?_
  refine n_iconst (k := 0) hx hb dL_law_1307 (by decide) ?_
  refine va_lald hx hb hKL hP 0 0 rfl rfl (vp_in_nI (n := 0) (N := 1) (by decide) (by decide)) dL_law_1308 ?_
  rw [hv h]
  refine lv_iload hx hb dL_law_1309 (lv_at hl 0 rfl) ?_
  refine lv_i2l hx hb dL_law_1311 rfl ?_
  refine W.lcmp hx hb dL_law_1312 ?_
  rw [lg_self]
  refine lv_if_eq (tgt := 1318) hx hb dL_law_1313 (by decide) (fun _ => ?_) (fun h => absurd rfl h)
  refine lv_goto (tgt := 1929) hx hb dL_law_1318 (by decide) ?_
  exact kk _ _ _ ⟨hP, hD, hS, lv_sub hl [2, 3, 4, 5, 6, 7] rfl⟩
set_option maxHeartbeats 4000000 in
set_option maxRecDepth 100000 in
theorem law_added {p : Program} {l : Launch} {e : Env} {R : Room} {s : State} {m : MethodId} {args : Array Value} {below : List Frame} {meth : Method} {c : Code} {H : Heap} {locs : List Loc} {cells slots : Nat} {ls : Array Slot} {Q : State → Prop} {D : va_G} {cI cZ cL cD : ClassId} {sa q qm : Nat → Nat} {qo qd b L i : Nat} {xs : Nat → Int32} {σ κ0 κ1 σ1 κ2 κ3 μ μ1 : ST} {g : Nat → Int64} {gd : Nat → UInt64} (C : LawC p l R s m args c D cI cZ cL cD sa b L xs) (hcs : cells + 1 ≤ R.cells) (hss : slots + 6 ≤ R.slots) (hi : i + 5 ≤ L) (hSt : LawS s D cI cZ cL cD q qm qo qd b i σ κ0 κ1 g gd μ H locs ls) {k : Nat} {fg : (Nat → Int64) → Nat → Int64} {fd : (Nat → UInt64) → Nat → UInt64} {r : Int32} (hC : ClsOK yL_added (codeL yL_added cL_added 6 (some .int) [(0, 12, 15, 13), (0, 12, 19, 15)]) σ κ0 κ1 σ1 κ2 κ3 [.int (xs (i + 1)), .int (xs (i + 2)), .int (xs (i + 3))] (some false) k fg fd) (hRf : RefOK yX4_added (codeW yX4_added cX4_added 6 (some .int)) μ μ1 [.int (xs (i + 1)), .int (xs (i + 2)), .int (xs (i + 3))] (some (.int r))) (h0 : μ1 0 2 = k) (hk : k < 4) (hv : k = 0 → (fg g) (nI 0).toNatClampNeg = r.toInt64) (kk : ∀ (H1 : Heap) (locs1 : List Loc) (ls1 : Array Slot), LawS s D cI cZ cL cD q qm qo qd b i σ1 κ2 κ3 (fg g) (fd gd) μ1 H1 locs1 ls1 → W p l e R s m args below meth c H1 locs1 (cells + 1) (slots + 6) Q (F0 m 1929 ls1 [])) : W p l e R s m args below meth c H locs cells slots Q (F0 m 1321 ls []) := by
  obtain ⟨hx, hb, hml, hown, htA, hX, hbl, hKK, hKL, hZ, hst9, hL, hR1, hR2⟩ := C
  obtain ⟨hP, hD, hS, hl⟩ := hSt
  have hbA : ¬ (fun a => s.heap.size ≤ a) b := Nat.not_le.mpr hbl
  refine lv_aload_n hx hb dL_law_1321 rfl (lv_at hl 1 rfl) ?_
  refine lv_aload_n hx hb dL_law_1322 rfl (lv_at hl 0 rfl) ?_
  refine lv_iload hx hb dL_law_1323 (lv_at hl 5 rfl) ?_
  refine n_iconst (k := 1) hx hb dL_law_1325 (by decide) ?_
  refine n_iadd hx hb dL_law_1326 ?_
  refine n_sld (j := i + 1) hx hb hX hbl hbA hS (by omega) (by omega) dL_law_1327 ?_
  refine lv_aload_n hx hb dL_law_1328 rfl (lv_at hl 0 rfl) ?_
  refine lv_iload hx hb dL_law_1329 (lv_at hl 5 rfl) ?_
  refine n_iconst (k := 2) hx hb dL_law_1331 (by decide) ?_
  refine n_iadd hx hb dL_law_1332 ?_
  refine n_sld (j := i + 2) hx hb hX hbl hbA hS (by omega) (by omega) dL_law_1333 ?_
  refine lv_aload_n hx hb dL_law_1334 rfl (lv_at hl 0 rfl) ?_
  refine lv_iload hx hb dL_law_1335 (lv_at hl 5 rfl) ?_
  refine n_iconst (k := 3) hx hb dL_law_1337 (by decide) ?_
  refine n_iadd hx hb dL_law_1338 ?_
  refine n_sld (j := i + 3) hx hb hX hbl hbA hS (by omega) (by omega) dL_law_1339 ?_
  refine lv_aload_n hx hb dL_law_1340 rfl (lv_at hl 3 rfl) ?_
  refine lwS (n := 5) ⟨hx, hb, hml, hown, htA⟩ htA hC rfl (gdS wd_515 wd_516 wd_0 wd_517) (by decide +kernel) (by decide) hR1 (by omega) hst9 hKK hKL (hZ.of hS) hP hD hS rfl hl.1 rfl (Nat.le_of_ble_eq_true rfl) dL_law_1341 hcs hss (fun H locs hP hS => ?_)
  have hP : va_P D vwCl (wT q qm qo qd cI cZ cL cD σ1 κ2 κ3 (fg g) (fd gd) μ) H := hP
  have hD : va_D (fun a => s.heap.size ≤ a) (wT q qm qo qd cI cZ cL cD σ1 κ2 κ3 (fg g) (fd gd) μ) := D_addr hD rfl
  refine lv_istore (lv' := [(6, .int (nI (k))), (0, .ref (b)), (1, .ref (q 0)), (2, .ref (qm 0)), (3, .ref (qo)), (4, .ref (qd)), (5, .int (nI (i)))]) hx hb dL_law_1344 hl (by decide) rfl (fun ls hl => ?_)
  refine lv_aload_n hx hb dL_law_1346 rfl (lv_at hl 3 rfl) ?_
  refine lv_aload_n hx hb dL_law_1347 rfl (lv_at hl 1 rfl) ?_
  refine lv_iload hx hb dL_law_1348 (lv_at hl 6 rfl) ?_
  refine n_iconst (k := 1) hx hb dL_law_1350 (by decide) ?_
  refine n_iadd hx hb dL_law_1351 ?_
  refine n_sld (j := i + 1) hx hb hX hbl hbA hS (by omega) (by omega) dL_law_1352 ?_
  refine lv_aload_n hx hb dL_law_1353 rfl (lv_at hl 1 rfl) ?_
  refine lv_iload hx hb dL_law_1354 (lv_at hl 6 rfl) ?_
  refine n_iconst (k := 2) hx hb dL_law_1356 (by decide) ?_
  refine n_iadd hx hb dL_law_1357 ?_
  refine n_sld (j := i + 2) hx hb hX hbl hbA hS (by omega) (by omega) dL_law_1358 ?_
  refine lv_aload_n hx hb dL_law_1359 rfl (lv_at hl 1 rfl) ?_
  refine lv_iload hx hb dL_law_1360 (lv_at hl 6 rfl) ?_
  refine n_iconst (k := 3) hx hb dL_law_1362 (by decide) ?_
  refine n_iadd hx hb dL_law_1363 ?_
  refine n_sld (j := i + 3) hx hb hX hbl hbA hS (by omega) (by omega) dL_law_1364 ?_
  refine lwV (rest := []) (n := 3) ⟨hx, hb, hml, hown, htA⟩ htA hRf rfl (gdV wd_865 wd_866 wd_867 wd_5 wd_868) (by decide +kernel) (by decide) hR1 hR2 hKK hP hD hS rfl hl.1 rfl (Nat.le_of_ble_eq_true rfl) dL_law_1365 (by omega) (by omega) (fun H locs hP hS => ?_)
  have hP : va_P D vwCl (wT q qm qo qd cI cZ cL cD σ1 κ2 κ3 (fg g) (fd gd) μ1) H := hP
  have hD : va_D (fun a => s.heap.size ≤ a) (wT q qm qo qd cI cZ cL cD σ1 κ2 κ3 (fg g) (fd gd) μ1) := D_addr hD rfl
  refine W.eq (g2 := F0 m 1368 ls [.int (r)]) rfl ?_
  refine lv_istore (lv' := [(7, .int (r)), (6, .int (nI (k))), (0, .ref (b)), (1, .ref (q 0)), (2, .ref (qm 0)), (3, .ref (qo)), (4, .ref (qd)), (5, .int (nI (i)))]) hx hb dL_law_1368 hl (by decide) rfl (fun ls hl => ?_)
  refine lv_aload_n hx hb dL_law_1370 rfl (lv_at hl 4 rfl) ?_
  have hPM : va_P D vwCl (wM qm cI cZ μ1) H := hP.sub [26, 27, 28, 29, 30, 31, 32, 33, 34, 35, 36, 37, 38, 39, 40, 41, 42, 43, 44, 45, 46, 47, 48, 49] rfl
  refine roV1 (v := .int (nI (μ1 0 2))) (As := []) (rest := []) (n := 0) ⟨hx, hb, hml, hown, htA⟩ (r_thrown l D cI cZ sa qm μ1 H hPM) (cwV 0 htA (gdV wd_724 wd_725 wd_726 wd_5 wd_727) rfl rfl rfl (by decide +kernel) ⟨Nat.le_trans (by decide) hR1, Nat.le_trans (by decide) hR2⟩) hKK hPM 0 rfl rfl rfl hl.1 rfl (Nat.le_of_ble_eq_true rfl) dL_law_1371 (by omega) (by omega) ?_
  rw [h0]
  refine lv_iload hx hb dL_law_1374 (lv_at hl 1 rfl) ?_
  refine n_icmp_eq (x := k) (y := k) (tgt := 1381) hx hb dL_law_1376 (by decide) (by omega) (by omega) (fun _ => ?_) (fun h => absurd rfl h)
  refine lv_iload hx hb dL_law_1381 (lv_at hl 1 rfl) ?_
  refine n_ifne (x := k) (tgt := 1398) hx hb dL_law_1383 (by decide) (by omega) (fun _ => ?_) (fun h => ?_)
  · refine lv_goto (tgt := 1929) hx hb dL_law_1398 (by decide) ?_
    exact kk _ _ _ ⟨hP, hD, hS, lv_sub hl [2, 3, 4, 5, 6, 7] rfl⟩
  refine lv_aload_n hx hb dL_law_1386 rfl (lv_at hl 5 rfl) ?_
  refine n_iconst (k := 0) hx hb dL_law_1387 (by decide) ?_
  refine va_lald hx hb hKL hP 0 0 rfl rfl (vp_in_nI (n := 0) (N := 1) (by decide) (by decide)) dL_law_1388 ?_
  rw [hv h]
  refine lv_iload hx hb dL_law_1389 (lv_at hl 0 rfl) ?_
  refine lv_i2l hx hb dL_law_1391 rfl ?_
  refine W.lcmp hx hb dL_law_1392 ?_
  rw [lg_self]
  refine lv_if_eq (tgt := 1398) hx hb dL_law_1393 (by decide) (fun _ => ?_) (fun h => absurd rfl h)
  refine lv_goto (tgt := 1929) hx hb dL_law_1398 (by decide) ?_
  exact kk _ _ _ ⟨hP, hD, hS, lv_sub hl [2, 3, 4, 5, 6, 7] rfl⟩
set_option maxHeartbeats 4000000 in
set_option maxRecDepth 100000 in
theorem law_watch {p : Program} {l : Launch} {e : Env} {R : Room} {s : State} {m : MethodId} {args : Array Value} {below : List Frame} {meth : Method} {c : Code} {H : Heap} {locs : List Loc} {cells slots : Nat} {ls : Array Slot} {Q : State → Prop} {D : va_G} {cI cZ cL cD : ClassId} {sa q qm : Nat → Nat} {qo qd b L i : Nat} {xs : Nat → Int32} {σ κ0 κ1 σ1 κ2 κ3 μ μ1 : ST} {g : Nat → Int64} {gd : Nat → UInt64} (C : LawC p l R s m args c D cI cZ cL cD sa b L xs) (hcs : cells + 1 ≤ R.cells) (hss : slots + 6 ≤ R.slots) (hi : i + 5 ≤ L) (hSt : LawS s D cI cZ cL cD q qm qo qd b i σ κ0 κ1 g gd μ H locs ls) {k : Nat} {fg : (Nat → Int64) → Nat → Int64} {fd : (Nat → UInt64) → Nat → UInt64}  (hC : ClsOK yL_watch (codeL yL_watch cL_watch 5 (some .int) [(0, 7, 10, 13)]) σ κ0 κ1 σ1 κ2 κ3 [.int (xs (i + 1)), .int (xs (i + 2)), .int (xs (i + 3))] (none) k fg fd) (hRf : RefOK yX4_watch (codeW yX4_watch cX4_watch 4 none) μ μ1 [.int (xs (i + 1)), .int (xs (i + 2)), .int (xs (i + 3))] none) (h0 : μ1 0 2 = k) (hk : k < 4)  (kk : ∀ (H1 : Heap) (locs1 : List Loc) (ls1 : Array Slot), LawS s D cI cZ cL cD q qm qo qd b i σ1 κ2 κ3 (fg g) (fd gd) μ1 H1 locs1 ls1 → W p l e R s m args below meth c H1 locs1 (cells + 1) (slots + 6) Q (F0 m 1929 ls1 [])) : W p l e R s m args below meth c H locs cells slots Q (F0 m 1401 ls []) := by
  obtain ⟨hx, hb, hml, hown, htA, hX, hbl, hKK, hKL, hZ, hst9, hL, hR1, hR2⟩ := C
  obtain ⟨hP, hD, hS, hl⟩ := hSt
  have hbA : ¬ (fun a => s.heap.size ≤ a) b := Nat.not_le.mpr hbl
  refine lv_aload_n hx hb dL_law_1401 rfl (lv_at hl 1 rfl) ?_
  refine lv_aload_n hx hb dL_law_1402 rfl (lv_at hl 0 rfl) ?_
  refine lv_iload hx hb dL_law_1403 (lv_at hl 5 rfl) ?_
  refine n_iconst (k := 1) hx hb dL_law_1405 (by decide) ?_
  refine n_iadd hx hb dL_law_1406 ?_
  refine n_sld (j := i + 1) hx hb hX hbl hbA hS (by omega) (by omega) dL_law_1407 ?_
  refine lv_aload_n hx hb dL_law_1408 rfl (lv_at hl 0 rfl) ?_
  refine lv_iload hx hb dL_law_1409 (lv_at hl 5 rfl) ?_
  refine n_iconst (k := 2) hx hb dL_law_1411 (by decide) ?_
  refine n_iadd hx hb dL_law_1412 ?_
  refine n_sld (j := i + 2) hx hb hX hbl hbA hS (by omega) (by omega) dL_law_1413 ?_
  refine lv_aload_n hx hb dL_law_1414 rfl (lv_at hl 0 rfl) ?_
  refine lv_iload hx hb dL_law_1415 (lv_at hl 5 rfl) ?_
  refine n_iconst (k := 3) hx hb dL_law_1417 (by decide) ?_
  refine n_iadd hx hb dL_law_1418 ?_
  refine n_sld (j := i + 3) hx hb hX hbl hbA hS (by omega) (by omega) dL_law_1419 ?_
  refine lwS (n := 4) ⟨hx, hb, hml, hown, htA⟩ htA hC rfl (gdS wd_522 wd_523 wd_0 wd_524) (by decide +kernel) (by decide) hR1 (by omega) hst9 hKK hKL (hZ.of hS) hP hD hS rfl hl.1 rfl (Nat.le_of_ble_eq_true rfl) dL_law_1420 hcs hss (fun H locs hP hS => ?_)
  have hP : va_P D vwCl (wT q qm qo qd cI cZ cL cD σ1 κ2 κ3 (fg g) (fd gd) μ) H := hP
  have hD : va_D (fun a => s.heap.size ≤ a) (wT q qm qo qd cI cZ cL cD σ1 κ2 κ3 (fg g) (fd gd) μ) := D_addr hD rfl
  refine lv_istore (lv' := [(6, .int (nI (k))), (0, .ref (b)), (1, .ref (q 0)), (2, .ref (qm 0)), (3, .ref (qo)), (4, .ref (qd)), (5, .int (nI (i)))]) hx hb dL_law_1423 hl (by decide) rfl (fun ls hl => ?_)
  refine lv_aload_n hx hb dL_law_1425 rfl (lv_at hl 3 rfl) ?_
  refine lv_aload_n hx hb dL_law_1426 rfl (lv_at hl 1 rfl) ?_
  refine lv_iload hx hb dL_law_1427 (lv_at hl 6 rfl) ?_
  refine n_iconst (k := 1) hx hb dL_law_1429 (by decide) ?_
  refine n_iadd hx hb dL_law_1430 ?_
  refine n_sld (j := i + 1) hx hb hX hbl hbA hS (by omega) (by omega) dL_law_1431 ?_
  refine lv_aload_n hx hb dL_law_1432 rfl (lv_at hl 1 rfl) ?_
  refine lv_iload hx hb dL_law_1433 (lv_at hl 6 rfl) ?_
  refine n_iconst (k := 2) hx hb dL_law_1435 (by decide) ?_
  refine n_iadd hx hb dL_law_1436 ?_
  refine n_sld (j := i + 2) hx hb hX hbl hbA hS (by omega) (by omega) dL_law_1437 ?_
  refine lv_aload_n hx hb dL_law_1438 rfl (lv_at hl 1 rfl) ?_
  refine lv_iload hx hb dL_law_1439 (lv_at hl 6 rfl) ?_
  refine n_iconst (k := 3) hx hb dL_law_1441 (by decide) ?_
  refine n_iadd hx hb dL_law_1442 ?_
  refine n_sld (j := i + 3) hx hb hX hbl hbA hS (by omega) (by omega) dL_law_1443 ?_
  refine lwV (rest := []) (n := 3) ⟨hx, hb, hml, hown, htA⟩ htA hRf rfl (gdV wd_869 wd_870 wd_871 wd_5 wd_872) (by decide +kernel) (by decide) hR1 hR2 hKK hP hD hS rfl hl.1 rfl (Nat.le_of_ble_eq_true rfl) dL_law_1444 (by omega) (by omega) (fun H locs hP hS => ?_)
  have hP : va_P D vwCl (wT q qm qo qd cI cZ cL cD σ1 κ2 κ3 (fg g) (fd gd) μ1) H := hP
  have hD : va_D (fun a => s.heap.size ≤ a) (wT q qm qo qd cI cZ cL cD σ1 κ2 κ3 (fg g) (fd gd) μ1) := D_addr hD rfl
  refine W.eq (g2 := F0 m 1447 ls []) rfl ?_
  refine lv_aload_n hx hb dL_law_1447 rfl (lv_at hl 3 rfl) ?_
  have hPM : va_P D vwCl (wM qm cI cZ μ1) H := hP.sub [26, 27, 28, 29, 30, 31, 32, 33, 34, 35, 36, 37, 38, 39, 40, 41, 42, 43, 44, 45, 46, 47, 48, 49] rfl
  refine roV1 (v := .int (nI (μ1 0 2))) (As := []) (rest := []) (n := 0) ⟨hx, hb, hml, hown, htA⟩ (r_thrown l D cI cZ sa qm μ1 H hPM) (cwV 0 htA (gdV wd_724 wd_725 wd_726 wd_5 wd_727) rfl rfl rfl (by decide +kernel) ⟨Nat.le_trans (by decide) hR1, Nat.le_trans (by decide) hR2⟩) hKK hPM 0 rfl rfl rfl hl.1 rfl (Nat.le_of_ble_eq_true rfl) dL_law_1448 (by omega) (by omega) ?_
  rw [h0]
  refine lv_iload hx hb dL_law_1451 (lv_at hl 0 rfl) ?_
  refine n_icmp_eq (x := k) (y := k) (tgt := 1458) hx hb dL_law_1453 (by decide) (by omega) (by omega) (fun _ => ?_) (fun h => absurd rfl h)
  refine lv_goto (tgt := 1929) hx hb dL_law_1458 (by decide) ?_
  exact kk _ _ _ ⟨hP, hD, hS, lv_sub hl [1, 2, 3, 4, 5, 6] rfl⟩
set_option maxHeartbeats 4000000 in
set_option maxRecDepth 100000 in
theorem law_flagOffline {p : Program} {l : Launch} {e : Env} {R : Room} {s : State} {m : MethodId} {args : Array Value} {below : List Frame} {meth : Method} {c : Code} {H : Heap} {locs : List Loc} {cells slots : Nat} {ls : Array Slot} {Q : State → Prop} {D : va_G} {cI cZ cL cD : ClassId} {sa q qm : Nat → Nat} {qo qd b L i : Nat} {xs : Nat → Int32} {σ κ0 κ1 σ1 κ2 κ3 μ μ1 : ST} {g : Nat → Int64} {gd : Nat → UInt64} (C : LawC p l R s m args c D cI cZ cL cD sa b L xs) (hcs : cells + 1 ≤ R.cells) (hss : slots + 6 ≤ R.slots) (hi : i + 5 ≤ L) (hSt : LawS s D cI cZ cL cD q qm qo qd b i σ κ0 κ1 g gd μ H locs ls) {k : Nat} {fg : (Nat → Int64) → Nat → Int64} {fd : (Nat → UInt64) → Nat → UInt64} {r : Int32} (hC : ClsOK yL_flagOffline (codeL yL_flagOffline cL_flagOffline 7 (some .int) [(0, 14, 17, 13), (0, 14, 21, 15)]) σ κ0 κ1 σ1 κ2 κ3 [.int (xs (i + 1)), .int (xs (i + 2)), .int (xs (i + 3)), .int (b2i (!decide (xs (i + 4) = 0)))] (some false) k fg fd) (hRf : RefOK yX4_flagOffline (codeW yX4_flagOffline cX4_flagOffline 8 (some .int)) μ μ1 [.int (xs (i + 1)), .int (xs (i + 2)), .int (xs (i + 3)), .int (b2i (!decide (xs (i + 4) = 0)))] (some (.int r))) (h0 : μ1 0 2 = k) (hk : k < 4) (hv : k = 0 → (fg g) (nI 0).toNatClampNeg = r.toInt64) (kk : ∀ (H1 : Heap) (locs1 : List Loc) (ls1 : Array Slot), LawS s D cI cZ cL cD q qm qo qd b i σ1 κ2 κ3 (fg g) (fd gd) μ1 H1 locs1 ls1 → W p l e R s m args below meth c H1 locs1 (cells + 1) (slots + 6) Q (F0 m 1929 ls1 [])) : W p l e R s m args below meth c H locs cells slots Q (F0 m 1461 ls []) := by
  obtain ⟨hx, hb, hml, hown, htA, hX, hbl, hKK, hKL, hZ, hst9, hL, hR1, hR2⟩ := C
  obtain ⟨hP, hD, hS, hl⟩ := hSt
  have hbA : ¬ (fun a => s.heap.size ≤ a) b := Nat.not_le.mpr hbl
  refine lv_aload_n hx hb dL_law_1461 rfl (lv_at hl 1 rfl) ?_
  refine lv_aload_n hx hb dL_law_1462 rfl (lv_at hl 0 rfl) ?_
  refine lv_iload hx hb dL_law_1463 (lv_at hl 5 rfl) ?_
  refine n_iconst (k := 1) hx hb dL_law_1465 (by decide) ?_
  refine n_iadd hx hb dL_law_1466 ?_
  refine n_sld (j := i + 1) hx hb hX hbl hbA hS (by omega) (by omega) dL_law_1467 ?_
  refine lv_aload_n hx hb dL_law_1468 rfl (lv_at hl 0 rfl) ?_
  refine lv_iload hx hb dL_law_1469 (lv_at hl 5 rfl) ?_
  refine n_iconst (k := 2) hx hb dL_law_1471 (by decide) ?_
  refine n_iadd hx hb dL_law_1472 ?_
  refine n_sld (j := i + 2) hx hb hX hbl hbA hS (by omega) (by omega) dL_law_1473 ?_
  refine lv_aload_n hx hb dL_law_1474 rfl (lv_at hl 0 rfl) ?_
  refine lv_iload hx hb dL_law_1475 (lv_at hl 5 rfl) ?_
  refine n_iconst (k := 3) hx hb dL_law_1477 (by decide) ?_
  refine n_iadd hx hb dL_law_1478 ?_
  refine n_sld (j := i + 3) hx hb hX hbl hbA hS (by omega) (by omega) dL_law_1479 ?_
  refine lv_aload_n hx hb dL_law_1480 rfl (lv_at hl 0 rfl) ?_
  refine lv_iload hx hb dL_law_1481 (lv_at hl 5 rfl) ?_
  refine n_iconst (k := 4) hx hb dL_law_1483 (by decide) ?_
  refine n_iadd hx hb dL_law_1484 ?_
  refine n_sld (j := i + 4) hx hb hX hbl hbA hS (by omega) (by omega) dL_law_1485 ?_
  refine ne0 hx hb dL_law_1486 dL_law_1489 dL_law_1490 dL_law_1493 ?_
  refine lv_aload_n hx hb dL_law_1494 rfl (lv_at hl 3 rfl) ?_
  refine lwS (n := 6) ⟨hx, hb, hml, hown, htA⟩ htA hC rfl (gdS wd_537 wd_538 wd_0 wd_539) (by decide +kernel) (by decide) hR1 (by omega) hst9 hKK hKL (hZ.of hS) hP hD hS rfl hl.1 rfl (Nat.le_of_ble_eq_true rfl) dL_law_1495 hcs hss (fun H locs hP hS => ?_)
  have hP : va_P D vwCl (wT q qm qo qd cI cZ cL cD σ1 κ2 κ3 (fg g) (fd gd) μ) H := hP
  have hD : va_D (fun a => s.heap.size ≤ a) (wT q qm qo qd cI cZ cL cD σ1 κ2 κ3 (fg g) (fd gd) μ) := D_addr hD rfl
  refine lv_istore (lv' := [(6, .int (nI (k))), (0, .ref (b)), (1, .ref (q 0)), (2, .ref (qm 0)), (3, .ref (qo)), (4, .ref (qd)), (5, .int (nI (i)))]) hx hb dL_law_1498 hl (by decide) rfl (fun ls hl => ?_)
  refine lv_aload_n hx hb dL_law_1500 rfl (lv_at hl 3 rfl) ?_
  refine lv_aload_n hx hb dL_law_1501 rfl (lv_at hl 1 rfl) ?_
  refine lv_iload hx hb dL_law_1502 (lv_at hl 6 rfl) ?_
  refine n_iconst (k := 1) hx hb dL_law_1504 (by decide) ?_
  refine n_iadd hx hb dL_law_1505 ?_
  refine n_sld (j := i + 1) hx hb hX hbl hbA hS (by omega) (by omega) dL_law_1506 ?_
  refine lv_aload_n hx hb dL_law_1507 rfl (lv_at hl 1 rfl) ?_
  refine lv_iload hx hb dL_law_1508 (lv_at hl 6 rfl) ?_
  refine n_iconst (k := 2) hx hb dL_law_1510 (by decide) ?_
  refine n_iadd hx hb dL_law_1511 ?_
  refine n_sld (j := i + 2) hx hb hX hbl hbA hS (by omega) (by omega) dL_law_1512 ?_
  refine lv_aload_n hx hb dL_law_1513 rfl (lv_at hl 1 rfl) ?_
  refine lv_iload hx hb dL_law_1514 (lv_at hl 6 rfl) ?_
  refine n_iconst (k := 3) hx hb dL_law_1516 (by decide) ?_
  refine n_iadd hx hb dL_law_1517 ?_
  refine n_sld (j := i + 3) hx hb hX hbl hbA hS (by omega) (by omega) dL_law_1518 ?_
  refine lv_aload_n hx hb dL_law_1519 rfl (lv_at hl 1 rfl) ?_
  refine lv_iload hx hb dL_law_1520 (lv_at hl 6 rfl) ?_
  refine n_iconst (k := 4) hx hb dL_law_1522 (by decide) ?_
  refine n_iadd hx hb dL_law_1523 ?_
  refine n_sld (j := i + 4) hx hb hX hbl hbA hS (by omega) (by omega) dL_law_1524 ?_
  refine ne0 hx hb dL_law_1525 dL_law_1528 dL_law_1529 dL_law_1532 ?_
  refine lwV (rest := []) (n := 4) ⟨hx, hb, hml, hown, htA⟩ htA hRf rfl (gdV wd_876 wd_877 wd_878 wd_5 wd_879) (by decide +kernel) (by decide) hR1 hR2 hKK hP hD hS rfl hl.1 rfl (Nat.le_of_ble_eq_true rfl) dL_law_1533 (by omega) (by omega) (fun H locs hP hS => ?_)
  have hP : va_P D vwCl (wT q qm qo qd cI cZ cL cD σ1 κ2 κ3 (fg g) (fd gd) μ1) H := hP
  have hD : va_D (fun a => s.heap.size ≤ a) (wT q qm qo qd cI cZ cL cD σ1 κ2 κ3 (fg g) (fd gd) μ1) := D_addr hD rfl
  refine W.eq (g2 := F0 m 1536 ls [.int (r)]) rfl ?_
  refine lv_istore (lv' := [(7, .int (r)), (6, .int (nI (k))), (0, .ref (b)), (1, .ref (q 0)), (2, .ref (qm 0)), (3, .ref (qo)), (4, .ref (qd)), (5, .int (nI (i)))]) hx hb dL_law_1536 hl (by decide) rfl (fun ls hl => ?_)
  refine lv_aload_n hx hb dL_law_1538 rfl (lv_at hl 4 rfl) ?_
  have hPM : va_P D vwCl (wM qm cI cZ μ1) H := hP.sub [26, 27, 28, 29, 30, 31, 32, 33, 34, 35, 36, 37, 38, 39, 40, 41, 42, 43, 44, 45, 46, 47, 48, 49] rfl
  refine roV1 (v := .int (nI (μ1 0 2))) (As := []) (rest := []) (n := 0) ⟨hx, hb, hml, hown, htA⟩ (r_thrown l D cI cZ sa qm μ1 H hPM) (cwV 0 htA (gdV wd_724 wd_725 wd_726 wd_5 wd_727) rfl rfl rfl (by decide +kernel) ⟨Nat.le_trans (by decide) hR1, Nat.le_trans (by decide) hR2⟩) hKK hPM 0 rfl rfl rfl hl.1 rfl (Nat.le_of_ble_eq_true rfl) dL_law_1539 (by omega) (by omega) ?_
  rw [h0]
  refine lv_iload hx hb dL_law_1542 (lv_at hl 1 rfl) ?_
  refine n_icmp_eq (x := k) (y := k) (tgt := 1549) hx hb dL_law_1544 (by decide) (by omega) (by omega) (fun _ => ?_) (fun h => absurd rfl h)
  refine lv_iload hx hb dL_law_1549 (lv_at hl 1 rfl) ?_
  refine n_ifne (x := k) (tgt := 1566) hx hb dL_law_1551 (by decide) (by omega) (fun _ => ?_) (fun h => ?_)
  · refine lv_goto (tgt := 1929) hx hb dL_law_1566 (by decide) ?_
    exact kk _ _ _ ⟨hP, hD, hS, lv_sub hl [2, 3, 4, 5, 6, 7] rfl⟩
  refine lv_aload_n hx hb dL_law_1554 rfl (lv_at hl 5 rfl) ?_
  refine n_iconst (k := 0) hx hb dL_law_1555 (by decide) ?_
  refine va_lald hx hb hKL hP 0 0 rfl rfl (vp_in_nI (n := 0) (N := 1) (by decide) (by decide)) dL_law_1556 ?_
  rw [hv h]
  refine lv_iload hx hb dL_law_1557 (lv_at hl 0 rfl) ?_
  refine lv_i2l hx hb dL_law_1559 rfl ?_
  refine W.lcmp hx hb dL_law_1560 ?_
  rw [lg_self]
  refine lv_if_eq (tgt := 1566) hx hb dL_law_1561 (by decide) (fun _ => ?_) (fun h => absurd rfl h)
  refine lv_goto (tgt := 1929) hx hb dL_law_1566 (by decide) ?_
  exact kk _ _ _ ⟨hP, hD, hS, lv_sub hl [2, 3, 4, 5, 6, 7] rfl⟩
set_option maxHeartbeats 4000000 in
set_option maxRecDepth 100000 in
theorem law_sync {p : Program} {l : Launch} {e : Env} {R : Room} {s : State} {m : MethodId} {args : Array Value} {below : List Frame} {meth : Method} {c : Code} {H : Heap} {locs : List Loc} {cells slots : Nat} {ls : Array Slot} {Q : State → Prop} {D : va_G} {cI cZ cL cD : ClassId} {sa q qm : Nat → Nat} {qo qd b L i : Nat} {xs : Nat → Int32} {σ κ0 κ1 σ1 κ2 κ3 μ μ1 : ST} {g : Nat → Int64} {gd : Nat → UInt64} (C : LawC p l R s m args c D cI cZ cL cD sa b L xs) (hcs : cells + 1 ≤ R.cells) (hss : slots + 6 ≤ R.slots) (hi : i + 5 ≤ L) (hSt : LawS s D cI cZ cL cD q qm qo qd b i σ κ0 κ1 g gd μ H locs ls) {k : Nat} {fg : (Nat → Int64) → Nat → Int64} {fd : (Nat → UInt64) → Nat → UInt64} {r : Int32} (hC : ClsOK yL_sync (codeL yL_sync cL_sync 4 (some .int) [(0, 9, 12, 13)]) σ κ0 κ1 σ1 κ2 κ3 [.int (xs (i + 1))] (some false) k fg fd) (hRf : RefOK yX4_sync (codeW yX4_sync cX4_sync 8 (some .int)) μ μ1 [.int (xs (i + 1))] (some (.int r))) (h0 : μ1 0 2 = k) (hk : k < 4) (hv : k = 0 → (fg g) (nI 0).toNatClampNeg = r.toInt64) (kk : ∀ (H1 : Heap) (locs1 : List Loc) (ls1 : Array Slot), LawS s D cI cZ cL cD q qm qo qd b i σ1 κ2 κ3 (fg g) (fd gd) μ1 H1 locs1 ls1 → W p l e R s m args below meth c H1 locs1 (cells + 1) (slots + 6) Q (F0 m 1929 ls1 [])) : W p l e R s m args below meth c H locs cells slots Q (F0 m 1569 ls []) := by
  obtain ⟨hx, hb, hml, hown, htA, hX, hbl, hKK, hKL, hZ, hst9, hL, hR1, hR2⟩ := C
  obtain ⟨hP, hD, hS, hl⟩ := hSt
  have hbA : ¬ (fun a => s.heap.size ≤ a) b := Nat.not_le.mpr hbl
  refine lv_aload_n hx hb dL_law_1569 rfl (lv_at hl 1 rfl) ?_
  refine lv_aload_n hx hb dL_law_1570 rfl (lv_at hl 0 rfl) ?_
  refine lv_iload hx hb dL_law_1571 (lv_at hl 5 rfl) ?_
  refine n_iconst (k := 1) hx hb dL_law_1573 (by decide) ?_
  refine n_iadd hx hb dL_law_1574 ?_
  refine n_sld (j := i + 1) hx hb hX hbl hbA hS (by omega) (by omega) dL_law_1575 ?_
  refine lv_aload_n hx hb dL_law_1576 rfl (lv_at hl 3 rfl) ?_
  refine lwS (n := 3) ⟨hx, hb, hml, hown, htA⟩ htA hC rfl (gdS wd_564 wd_565 wd_0 wd_566) (by decide +kernel) (by decide) hR1 (by omega) hst9 hKK hKL (hZ.of hS) hP hD hS rfl hl.1 rfl (Nat.le_of_ble_eq_true rfl) dL_law_1577 hcs hss (fun H locs hP hS => ?_)
  have hP : va_P D vwCl (wT q qm qo qd cI cZ cL cD σ1 κ2 κ3 (fg g) (fd gd) μ) H := hP
  have hD : va_D (fun a => s.heap.size ≤ a) (wT q qm qo qd cI cZ cL cD σ1 κ2 κ3 (fg g) (fd gd) μ) := D_addr hD rfl
  refine lv_istore (lv' := [(6, .int (nI (k))), (0, .ref (b)), (1, .ref (q 0)), (2, .ref (qm 0)), (3, .ref (qo)), (4, .ref (qd)), (5, .int (nI (i)))]) hx hb dL_law_1580 hl (by decide) rfl (fun ls hl => ?_)
  refine lv_aload_n hx hb dL_law_1582 rfl (lv_at hl 3 rfl) ?_
  refine lv_aload_n hx hb dL_law_1583 rfl (lv_at hl 1 rfl) ?_
  refine lv_iload hx hb dL_law_1584 (lv_at hl 6 rfl) ?_
  refine n_iconst (k := 1) hx hb dL_law_1586 (by decide) ?_
  refine n_iadd hx hb dL_law_1587 ?_
  refine n_sld (j := i + 1) hx hb hX hbl hbA hS (by omega) (by omega) dL_law_1588 ?_
  refine lwV (rest := []) (n := 1) ⟨hx, hb, hml, hown, htA⟩ htA hRf rfl (gdV wd_884 wd_885 wd_886 wd_5 wd_887) (by decide +kernel) (by decide) hR1 hR2 hKK hP hD hS rfl hl.1 rfl (Nat.le_of_ble_eq_true rfl) dL_law_1589 (by omega) (by omega) (fun H locs hP hS => ?_)
  have hP : va_P D vwCl (wT q qm qo qd cI cZ cL cD σ1 κ2 κ3 (fg g) (fd gd) μ1) H := hP
  have hD : va_D (fun a => s.heap.size ≤ a) (wT q qm qo qd cI cZ cL cD σ1 κ2 κ3 (fg g) (fd gd) μ1) := D_addr hD rfl
  refine W.eq (g2 := F0 m 1592 ls [.int (r)]) rfl ?_
  refine lv_istore (lv' := [(7, .int (r)), (6, .int (nI (k))), (0, .ref (b)), (1, .ref (q 0)), (2, .ref (qm 0)), (3, .ref (qo)), (4, .ref (qd)), (5, .int (nI (i)))]) hx hb dL_law_1592 hl (by decide) rfl (fun ls hl => ?_)
  refine lv_aload_n hx hb dL_law_1594 rfl (lv_at hl 4 rfl) ?_
  have hPM : va_P D vwCl (wM qm cI cZ μ1) H := hP.sub [26, 27, 28, 29, 30, 31, 32, 33, 34, 35, 36, 37, 38, 39, 40, 41, 42, 43, 44, 45, 46, 47, 48, 49] rfl
  refine roV1 (v := .int (nI (μ1 0 2))) (As := []) (rest := []) (n := 0) ⟨hx, hb, hml, hown, htA⟩ (r_thrown l D cI cZ sa qm μ1 H hPM) (cwV 0 htA (gdV wd_724 wd_725 wd_726 wd_5 wd_727) rfl rfl rfl (by decide +kernel) ⟨Nat.le_trans (by decide) hR1, Nat.le_trans (by decide) hR2⟩) hKK hPM 0 rfl rfl rfl hl.1 rfl (Nat.le_of_ble_eq_true rfl) dL_law_1595 (by omega) (by omega) ?_
  rw [h0]
  refine lv_iload hx hb dL_law_1598 (lv_at hl 1 rfl) ?_
  refine n_icmp_eq (x := k) (y := k) (tgt := 1605) hx hb dL_law_1600 (by decide) (by omega) (by omega) (fun _ => ?_) (fun h => absurd rfl h)
  refine lv_iload hx hb dL_law_1605 (lv_at hl 1 rfl) ?_
  refine n_ifne (x := k) (tgt := 1622) hx hb dL_law_1607 (by decide) (by omega) (fun _ => ?_) (fun h => ?_)
  · refine lv_goto (tgt := 1929) hx hb dL_law_1622 (by decide) ?_
    exact kk _ _ _ ⟨hP, hD, hS, lv_sub hl [2, 3, 4, 5, 6, 7] rfl⟩
  refine lv_aload_n hx hb dL_law_1610 rfl (lv_at hl 5 rfl) ?_
  refine n_iconst (k := 0) hx hb dL_law_1611 (by decide) ?_
  refine va_lald hx hb hKL hP 0 0 rfl rfl (vp_in_nI (n := 0) (N := 1) (by decide) (by decide)) dL_law_1612 ?_
  rw [hv h]
  refine lv_iload hx hb dL_law_1613 (lv_at hl 0 rfl) ?_
  refine lv_i2l hx hb dL_law_1615 rfl ?_
  refine W.lcmp hx hb dL_law_1616 ?_
  rw [lg_self]
  refine lv_if_eq (tgt := 1622) hx hb dL_law_1617 (by decide) (fun _ => ?_) (fun h => absurd rfl h)
  refine lv_goto (tgt := 1929) hx hb dL_law_1622 (by decide) ?_
  exact kk _ _ _ ⟨hP, hD, hS, lv_sub hl [2, 3, 4, 5, 6, 7] rfl⟩
set_option maxHeartbeats 4000000 in
set_option maxRecDepth 100000 in
theorem law_stateOf {p : Program} {l : Launch} {e : Env} {R : Room} {s : State} {m : MethodId} {args : Array Value} {below : List Frame} {meth : Method} {c : Code} {H : Heap} {locs : List Loc} {cells slots : Nat} {ls : Array Slot} {Q : State → Prop} {D : va_G} {cI cZ cL cD : ClassId} {sa q qm : Nat → Nat} {qo qd b L i : Nat} {xs : Nat → Int32} {σ κ0 κ1 σ1 κ2 κ3 μ μ1 : ST} {g : Nat → Int64} {gd : Nat → UInt64} (C : LawC p l R s m args c D cI cZ cL cD sa b L xs) (hcs : cells + 1 ≤ R.cells) (hss : slots + 6 ≤ R.slots) (hi : i + 5 ≤ L) (hSt : LawS s D cI cZ cL cD q qm qo qd b i σ κ0 κ1 g gd μ H locs ls) {k : Nat} {fg : (Nat → Int64) → Nat → Int64} {fd : (Nat → UInt64) → Nat → UInt64} {r : Int32} (hC : ClsOK yL_stateOf (codeL yL_stateOf cL_stateOf 4 (some .int) [(0, 9, 12, 13)]) σ κ0 κ1 σ1 κ2 κ3 [.int (xs (i + 1))] (some false) k fg fd) (hRf : RefOK yX4_stateOf (codeW yX4_stateOf cX4_stateOf 2 (some .int)) μ μ1 [.int (xs (i + 1))] (some (.int r))) (h0 : μ1 0 2 = k) (hk : k < 4) (hv : k = 0 → (fg g) (nI 0).toNatClampNeg = r.toInt64) (kk : ∀ (H1 : Heap) (locs1 : List Loc) (ls1 : Array Slot), LawS s D cI cZ cL cD q qm qo qd b i σ1 κ2 κ3 (fg g) (fd gd) μ1 H1 locs1 ls1 → W p l e R s m args below meth c H1 locs1 (cells + 1) (slots + 6) Q (F0 m 1929 ls1 [])) : W p l e R s m args below meth c H locs cells slots Q (F0 m 1625 ls []) := by
  obtain ⟨hx, hb, hml, hown, htA, hX, hbl, hKK, hKL, hZ, hst9, hL, hR1, hR2⟩ := C
  obtain ⟨hP, hD, hS, hl⟩ := hSt
  have hbA : ¬ (fun a => s.heap.size ≤ a) b := Nat.not_le.mpr hbl
  refine lv_aload_n hx hb dL_law_1625 rfl (lv_at hl 1 rfl) ?_
  refine lv_aload_n hx hb dL_law_1626 rfl (lv_at hl 0 rfl) ?_
  refine lv_iload hx hb dL_law_1627 (lv_at hl 5 rfl) ?_
  refine n_iconst (k := 1) hx hb dL_law_1629 (by decide) ?_
  refine n_iadd hx hb dL_law_1630 ?_
  refine n_sld (j := i + 1) hx hb hX hbl hbA hS (by omega) (by omega) dL_law_1631 ?_
  refine lv_aload_n hx hb dL_law_1632 rfl (lv_at hl 3 rfl) ?_
  refine lwS (n := 3) ⟨hx, hb, hml, hown, htA⟩ htA hC rfl (gdS wd_603 wd_604 wd_0 wd_605) (by decide +kernel) (by decide) hR1 (by omega) hst9 hKK hKL (hZ.of hS) hP hD hS rfl hl.1 rfl (Nat.le_of_ble_eq_true rfl) dL_law_1633 hcs hss (fun H locs hP hS => ?_)
  have hP : va_P D vwCl (wT q qm qo qd cI cZ cL cD σ1 κ2 κ3 (fg g) (fd gd) μ) H := hP
  have hD : va_D (fun a => s.heap.size ≤ a) (wT q qm qo qd cI cZ cL cD σ1 κ2 κ3 (fg g) (fd gd) μ) := D_addr hD rfl
  refine lv_istore (lv' := [(6, .int (nI (k))), (0, .ref (b)), (1, .ref (q 0)), (2, .ref (qm 0)), (3, .ref (qo)), (4, .ref (qd)), (5, .int (nI (i)))]) hx hb dL_law_1636 hl (by decide) rfl (fun ls hl => ?_)
  refine lv_aload_n hx hb dL_law_1638 rfl (lv_at hl 3 rfl) ?_
  refine lv_aload_n hx hb dL_law_1639 rfl (lv_at hl 1 rfl) ?_
  refine lv_iload hx hb dL_law_1640 (lv_at hl 6 rfl) ?_
  refine n_iconst (k := 1) hx hb dL_law_1642 (by decide) ?_
  refine n_iadd hx hb dL_law_1643 ?_
  refine n_sld (j := i + 1) hx hb hX hbl hbA hS (by omega) (by omega) dL_law_1644 ?_
  refine lwV (rest := []) (n := 1) ⟨hx, hb, hml, hown, htA⟩ htA hRf rfl (gdV wd_896 wd_897 wd_898 wd_5 wd_899) (by decide +kernel) (by decide) hR1 hR2 hKK hP hD hS rfl hl.1 rfl (Nat.le_of_ble_eq_true rfl) dL_law_1645 (by omega) (by omega) (fun H locs hP hS => ?_)
  have hP : va_P D vwCl (wT q qm qo qd cI cZ cL cD σ1 κ2 κ3 (fg g) (fd gd) μ1) H := hP
  have hD : va_D (fun a => s.heap.size ≤ a) (wT q qm qo qd cI cZ cL cD σ1 κ2 κ3 (fg g) (fd gd) μ1) := D_addr hD rfl
  refine W.eq (g2 := F0 m 1648 ls [.int (r)]) rfl ?_
  refine lv_istore (lv' := [(7, .int (r)), (6, .int (nI (k))), (0, .ref (b)), (1, .ref (q 0)), (2, .ref (qm 0)), (3, .ref (qo)), (4, .ref (qd)), (5, .int (nI (i)))]) hx hb dL_law_1648 hl (by decide) rfl (fun ls hl => ?_)
  refine lv_aload_n hx hb dL_law_1650 rfl (lv_at hl 4 rfl) ?_
  have hPM : va_P D vwCl (wM qm cI cZ μ1) H := hP.sub [26, 27, 28, 29, 30, 31, 32, 33, 34, 35, 36, 37, 38, 39, 40, 41, 42, 43, 44, 45, 46, 47, 48, 49] rfl
  refine roV1 (v := .int (nI (μ1 0 2))) (As := []) (rest := []) (n := 0) ⟨hx, hb, hml, hown, htA⟩ (r_thrown l D cI cZ sa qm μ1 H hPM) (cwV 0 htA (gdV wd_724 wd_725 wd_726 wd_5 wd_727) rfl rfl rfl (by decide +kernel) ⟨Nat.le_trans (by decide) hR1, Nat.le_trans (by decide) hR2⟩) hKK hPM 0 rfl rfl rfl hl.1 rfl (Nat.le_of_ble_eq_true rfl) dL_law_1651 (by omega) (by omega) ?_
  rw [h0]
  refine lv_iload hx hb dL_law_1654 (lv_at hl 1 rfl) ?_
  refine n_icmp_eq (x := k) (y := k) (tgt := 1661) hx hb dL_law_1656 (by decide) (by omega) (by omega) (fun _ => ?_) (fun h => absurd rfl h)
  refine lv_iload hx hb dL_law_1661 (lv_at hl 1 rfl) ?_
  refine n_ifne (x := k) (tgt := 1678) hx hb dL_law_1663 (by decide) (by omega) (fun _ => ?_) (fun h => ?_)
  · refine lv_goto (tgt := 1929) hx hb dL_law_1678 (by decide) ?_
    exact kk _ _ _ ⟨hP, hD, hS, lv_sub hl [2, 3, 4, 5, 6, 7] rfl⟩
  refine lv_aload_n hx hb dL_law_1666 rfl (lv_at hl 5 rfl) ?_
  refine n_iconst (k := 0) hx hb dL_law_1667 (by decide) ?_
  refine va_lald hx hb hKL hP 0 0 rfl rfl (vp_in_nI (n := 0) (N := 1) (by decide) (by decide)) dL_law_1668 ?_
  rw [hv h]
  refine lv_iload hx hb dL_law_1669 (lv_at hl 0 rfl) ?_
  refine lv_i2l hx hb dL_law_1671 rfl ?_
  refine W.lcmp hx hb dL_law_1672 ?_
  rw [lg_self]
  refine lv_if_eq (tgt := 1678) hx hb dL_law_1673 (by decide) (fun _ => ?_) (fun h => absurd rfl h)
  refine lv_goto (tgt := 1929) hx hb dL_law_1678 (by decide) ?_
  exact kk _ _ _ ⟨hP, hD, hS, lv_sub hl [2, 3, 4, 5, 6, 7] rfl⟩
set_option maxHeartbeats 4000000 in
set_option maxRecDepth 100000 in
theorem law_window {p : Program} {l : Launch} {e : Env} {R : Room} {s : State} {m : MethodId} {args : Array Value} {below : List Frame} {meth : Method} {c : Code} {H : Heap} {locs : List Loc} {cells slots : Nat} {ls : Array Slot} {Q : State → Prop} {D : va_G} {cI cZ cL cD : ClassId} {sa q qm : Nat → Nat} {qo qd b L i : Nat} {xs : Nat → Int32} {σ κ0 κ1 σ1 κ2 κ3 μ μ1 : ST} {g : Nat → Int64} {gd : Nat → UInt64} (C : LawC p l R s m args c D cI cZ cL cD sa b L xs) (hcs : cells + 1 ≤ R.cells) (hss : slots + 6 ≤ R.slots) (hi : i + 5 ≤ L) (hSt : LawS s D cI cZ cL cD q qm qo qd b i σ κ0 κ1 g gd μ H locs ls) {k : Nat} {fg : (Nat → Int64) → Nat → Int64} {fd : (Nat → UInt64) → Nat → UInt64} {r : Int32} (hC : ClsOK yL_window (codeL yL_window cL_window 4 (some .int) [(0, 9, 12, 13)]) σ κ0 κ1 σ1 κ2 κ3 [.int (xs (i + 1))] (some false) k fg fd) (hRf : RefOK yX4_window (codeW yX4_window cX4_window 2 (some .int)) μ μ1 [.int (xs (i + 1))] (some (.int r))) (h0 : μ1 0 2 = k) (hk : k < 4) (hv : k = 0 → (fg g) (nI 0).toNatClampNeg = r.toInt64) (kk : ∀ (H1 : Heap) (locs1 : List Loc) (ls1 : Array Slot), LawS s D cI cZ cL cD q qm qo qd b i σ1 κ2 κ3 (fg g) (fd gd) μ1 H1 locs1 ls1 → W p l e R s m args below meth c H1 locs1 (cells + 1) (slots + 6) Q (F0 m 1929 ls1 [])) : W p l e R s m args below meth c H locs cells slots Q (F0 m 1681 ls []) := by
  obtain ⟨hx, hb, hml, hown, htA, hX, hbl, hKK, hKL, hZ, hst9, hL, hR1, hR2⟩ := C
  obtain ⟨hP, hD, hS, hl⟩ := hSt
  have hbA : ¬ (fun a => s.heap.size ≤ a) b := Nat.not_le.mpr hbl
  refine lv_aload_n hx hb dL_law_1681 rfl (lv_at hl 1 rfl) ?_
  refine lv_aload_n hx hb dL_law_1682 rfl (lv_at hl 0 rfl) ?_
  refine lv_iload hx hb dL_law_1683 (lv_at hl 5 rfl) ?_
  refine n_iconst (k := 1) hx hb dL_law_1685 (by decide) ?_
  refine n_iadd hx hb dL_law_1686 ?_
  refine n_sld (j := i + 1) hx hb hX hbl hbA hS (by omega) (by omega) dL_law_1687 ?_
  refine lv_aload_n hx hb dL_law_1688 rfl (lv_at hl 3 rfl) ?_
  refine lwS (n := 3) ⟨hx, hb, hml, hown, htA⟩ htA hC rfl (gdS wd_610 wd_611 wd_0 wd_612) (by decide +kernel) (by decide) hR1 (by omega) hst9 hKK hKL (hZ.of hS) hP hD hS rfl hl.1 rfl (Nat.le_of_ble_eq_true rfl) dL_law_1689 hcs hss (fun H locs hP hS => ?_)
  have hP : va_P D vwCl (wT q qm qo qd cI cZ cL cD σ1 κ2 κ3 (fg g) (fd gd) μ) H := hP
  have hD : va_D (fun a => s.heap.size ≤ a) (wT q qm qo qd cI cZ cL cD σ1 κ2 κ3 (fg g) (fd gd) μ) := D_addr hD rfl
  refine lv_istore (lv' := [(6, .int (nI (k))), (0, .ref (b)), (1, .ref (q 0)), (2, .ref (qm 0)), (3, .ref (qo)), (4, .ref (qd)), (5, .int (nI (i)))]) hx hb dL_law_1692 hl (by decide) rfl (fun ls hl => ?_)
  refine lv_aload_n hx hb dL_law_1694 rfl (lv_at hl 3 rfl) ?_
  refine lv_aload_n hx hb dL_law_1695 rfl (lv_at hl 1 rfl) ?_
  refine lv_iload hx hb dL_law_1696 (lv_at hl 6 rfl) ?_
  refine n_iconst (k := 1) hx hb dL_law_1698 (by decide) ?_
  refine n_iadd hx hb dL_law_1699 ?_
  refine n_sld (j := i + 1) hx hb hX hbl hbA hS (by omega) (by omega) dL_law_1700 ?_
  refine lwV (rest := []) (n := 1) ⟨hx, hb, hml, hown, htA⟩ htA hRf rfl (gdV wd_900 wd_901 wd_902 wd_5 wd_903) (by decide +kernel) (by decide) hR1 hR2 hKK hP hD hS rfl hl.1 rfl (Nat.le_of_ble_eq_true rfl) dL_law_1701 (by omega) (by omega) (fun H locs hP hS => ?_)
  have hP : va_P D vwCl (wT q qm qo qd cI cZ cL cD σ1 κ2 κ3 (fg g) (fd gd) μ1) H := hP
  have hD : va_D (fun a => s.heap.size ≤ a) (wT q qm qo qd cI cZ cL cD σ1 κ2 κ3 (fg g) (fd gd) μ1) := D_addr hD rfl
  refine W.eq (g2 := F0 m 1704 ls [.int (r)]) rfl ?_
  refine lv_istore (lv' := [(7, .int (r)), (6, .int (nI (k))), (0, .ref (b)), (1, .ref (q 0)), (2, .ref (qm 0)), (3, .ref (qo)), (4, .ref (qd)), (5, .int (nI (i)))]) hx hb dL_law_1704 hl (by decide) rfl (fun ls hl => ?_)
  refine lv_aload_n hx hb dL_law_1706 rfl (lv_at hl 4 rfl) ?_
  have hPM : va_P D vwCl (wM qm cI cZ μ1) H := hP.sub [26, 27, 28, 29, 30, 31, 32, 33, 34, 35, 36, 37, 38, 39, 40, 41, 42, 43, 44, 45, 46, 47, 48, 49] rfl
  refine roV1 (v := .int (nI (μ1 0 2))) (As := []) (rest := []) (n := 0) ⟨hx, hb, hml, hown, htA⟩ (r_thrown l D cI cZ sa qm μ1 H hPM) (cwV 0 htA (gdV wd_724 wd_725 wd_726 wd_5 wd_727) rfl rfl rfl (by decide +kernel) ⟨Nat.le_trans (by decide) hR1, Nat.le_trans (by decide) hR2⟩) hKK hPM 0 rfl rfl rfl hl.1 rfl (Nat.le_of_ble_eq_true rfl) dL_law_1707 (by omega) (by omega) ?_
  rw [h0]
  refine lv_iload hx hb dL_law_1710 (lv_at hl 1 rfl) ?_
  refine n_icmp_eq (x := k) (y := k) (tgt := 1717) hx hb dL_law_1712 (by decide) (by omega) (by omega) (fun _ => ?_) (fun h => absurd rfl h)
  refine lv_iload hx hb dL_law_1717 (lv_at hl 1 rfl) ?_
  refine n_ifne (x := k) (tgt := 1734) hx hb dL_law_1719 (by decide) (by omega) (fun _ => ?_) (fun h => ?_)
  · refine lv_goto (tgt := 1929) hx hb dL_law_1734 (by decide) ?_
    exact kk _ _ _ ⟨hP, hD, hS, lv_sub hl [2, 3, 4, 5, 6, 7] rfl⟩
  refine lv_aload_n hx hb dL_law_1722 rfl (lv_at hl 5 rfl) ?_
  refine n_iconst (k := 0) hx hb dL_law_1723 (by decide) ?_
  refine va_lald hx hb hKL hP 0 0 rfl rfl (vp_in_nI (n := 0) (N := 1) (by decide) (by decide)) dL_law_1724 ?_
  rw [hv h]
  refine lv_iload hx hb dL_law_1725 (lv_at hl 0 rfl) ?_
  refine lv_i2l hx hb dL_law_1727 rfl ?_
  refine W.lcmp hx hb dL_law_1728 ?_
  rw [lg_self]
  refine lv_if_eq (tgt := 1734) hx hb dL_law_1729 (by decide) (fun _ => ?_) (fun h => absurd rfl h)
  refine lv_goto (tgt := 1929) hx hb dL_law_1734 (by decide) ?_
  exact kk _ _ _ ⟨hP, hD, hS, lv_sub hl [2, 3, 4, 5, 6, 7] rfl⟩
set_option maxHeartbeats 4000000 in
set_option maxRecDepth 100000 in
theorem law_windowAt {p : Program} {l : Launch} {e : Env} {R : Room} {s : State} {m : MethodId} {args : Array Value} {below : List Frame} {meth : Method} {c : Code} {H : Heap} {locs : List Loc} {cells slots : Nat} {ls : Array Slot} {Q : State → Prop} {D : va_G} {cI cZ cL cD : ClassId} {sa q qm : Nat → Nat} {qo qd b L i : Nat} {xs : Nat → Int32} {σ κ0 κ1 σ1 κ2 κ3 μ μ1 : ST} {g : Nat → Int64} {gd : Nat → UInt64} (C : LawC p l R s m args c D cI cZ cL cD sa b L xs) (hcs : cells + 1 ≤ R.cells) (hss : slots + 6 ≤ R.slots) (hi : i + 5 ≤ L) (hSt : LawS s D cI cZ cL cD q qm qo qd b i σ κ0 κ1 g gd μ H locs ls) {k : Nat} {fg : (Nat → Int64) → Nat → Int64} {fd : (Nat → UInt64) → Nat → UInt64} {r : Int32} (hC : ClsOK yL_windowAt (codeL yL_windowAt cL_windowAt 5 (some .int) [(0, 10, 13, 13), (0, 10, 17, 21)]) σ κ0 κ1 σ1 κ2 κ3 [.int (xs (i + 1)), .int (xs (i + 2))] (some false) k fg fd) (hRf : RefOK yX4_windowAt (codeW yX4_windowAt cX4_windowAt 4 (some .int)) μ μ1 [.int (xs (i + 1)), .int (xs (i + 2))] (some (.int r))) (h0 : μ1 0 2 = k) (hk : k < 4) (hv : k = 0 → (fg g) (nI 0).toNatClampNeg = r.toInt64) (kk : ∀ (H1 : Heap) (locs1 : List Loc) (ls1 : Array Slot), LawS s D cI cZ cL cD q qm qo qd b i σ1 κ2 κ3 (fg g) (fd gd) μ1 H1 locs1 ls1 → W p l e R s m args below meth c H1 locs1 (cells + 1) (slots + 6) Q (F0 m 1929 ls1 [])) : W p l e R s m args below meth c H locs cells slots Q (F0 m 1737 ls []) := by
  obtain ⟨hx, hb, hml, hown, htA, hX, hbl, hKK, hKL, hZ, hst9, hL, hR1, hR2⟩ := C
  obtain ⟨hP, hD, hS, hl⟩ := hSt
  have hbA : ¬ (fun a => s.heap.size ≤ a) b := Nat.not_le.mpr hbl
  refine lv_aload_n hx hb dL_law_1737 rfl (lv_at hl 1 rfl) ?_
  refine lv_aload_n hx hb dL_law_1738 rfl (lv_at hl 0 rfl) ?_
  refine lv_iload hx hb dL_law_1739 (lv_at hl 5 rfl) ?_
  refine n_iconst (k := 1) hx hb dL_law_1741 (by decide) ?_
  refine n_iadd hx hb dL_law_1742 ?_
  refine n_sld (j := i + 1) hx hb hX hbl hbA hS (by omega) (by omega) dL_law_1743 ?_
  refine lv_aload_n hx hb dL_law_1744 rfl (lv_at hl 0 rfl) ?_
  refine lv_iload hx hb dL_law_1745 (lv_at hl 5 rfl) ?_
  refine n_iconst (k := 2) hx hb dL_law_1747 (by decide) ?_
  refine n_iadd hx hb dL_law_1748 ?_
  refine n_sld (j := i + 2) hx hb hX hbl hbA hS (by omega) (by omega) dL_law_1749 ?_
  refine lv_aload_n hx hb dL_law_1750 rfl (lv_at hl 3 rfl) ?_
  refine lwS (n := 4) ⟨hx, hb, hml, hown, htA⟩ htA hC rfl (gdS wd_617 wd_618 wd_0 wd_619) (by decide +kernel) (by decide) hR1 (by omega) hst9 hKK hKL (hZ.of hS) hP hD hS rfl hl.1 rfl (Nat.le_of_ble_eq_true rfl) dL_law_1751 hcs hss (fun H locs hP hS => ?_)
  have hP : va_P D vwCl (wT q qm qo qd cI cZ cL cD σ1 κ2 κ3 (fg g) (fd gd) μ) H := hP
  have hD : va_D (fun a => s.heap.size ≤ a) (wT q qm qo qd cI cZ cL cD σ1 κ2 κ3 (fg g) (fd gd) μ) := D_addr hD rfl
  refine lv_istore (lv' := [(6, .int (nI (k))), (0, .ref (b)), (1, .ref (q 0)), (2, .ref (qm 0)), (3, .ref (qo)), (4, .ref (qd)), (5, .int (nI (i)))]) hx hb dL_law_1754 hl (by decide) rfl (fun ls hl => ?_)
  refine lv_aload_n hx hb dL_law_1756 rfl (lv_at hl 3 rfl) ?_
  refine lv_aload_n hx hb dL_law_1757 rfl (lv_at hl 1 rfl) ?_
  refine lv_iload hx hb dL_law_1758 (lv_at hl 6 rfl) ?_
  refine n_iconst (k := 1) hx hb dL_law_1760 (by decide) ?_
  refine n_iadd hx hb dL_law_1761 ?_
  refine n_sld (j := i + 1) hx hb hX hbl hbA hS (by omega) (by omega) dL_law_1762 ?_
  refine lv_aload_n hx hb dL_law_1763 rfl (lv_at hl 1 rfl) ?_
  refine lv_iload hx hb dL_law_1764 (lv_at hl 6 rfl) ?_
  refine n_iconst (k := 2) hx hb dL_law_1766 (by decide) ?_
  refine n_iadd hx hb dL_law_1767 ?_
  refine n_sld (j := i + 2) hx hb hX hbl hbA hS (by omega) (by omega) dL_law_1768 ?_
  refine lwV (rest := []) (n := 2) ⟨hx, hb, hml, hown, htA⟩ htA hRf rfl (gdV wd_904 wd_905 wd_906 wd_5 wd_907) (by decide +kernel) (by decide) hR1 hR2 hKK hP hD hS rfl hl.1 rfl (Nat.le_of_ble_eq_true rfl) dL_law_1769 (by omega) (by omega) (fun H locs hP hS => ?_)
  have hP : va_P D vwCl (wT q qm qo qd cI cZ cL cD σ1 κ2 κ3 (fg g) (fd gd) μ1) H := hP
  have hD : va_D (fun a => s.heap.size ≤ a) (wT q qm qo qd cI cZ cL cD σ1 κ2 κ3 (fg g) (fd gd) μ1) := D_addr hD rfl
  refine W.eq (g2 := F0 m 1772 ls [.int (r)]) rfl ?_
  refine lv_istore (lv' := [(7, .int (r)), (6, .int (nI (k))), (0, .ref (b)), (1, .ref (q 0)), (2, .ref (qm 0)), (3, .ref (qo)), (4, .ref (qd)), (5, .int (nI (i)))]) hx hb dL_law_1772 hl (by decide) rfl (fun ls hl => ?_)
  refine lv_aload_n hx hb dL_law_1774 rfl (lv_at hl 4 rfl) ?_
  have hPM : va_P D vwCl (wM qm cI cZ μ1) H := hP.sub [26, 27, 28, 29, 30, 31, 32, 33, 34, 35, 36, 37, 38, 39, 40, 41, 42, 43, 44, 45, 46, 47, 48, 49] rfl
  refine roV1 (v := .int (nI (μ1 0 2))) (As := []) (rest := []) (n := 0) ⟨hx, hb, hml, hown, htA⟩ (r_thrown l D cI cZ sa qm μ1 H hPM) (cwV 0 htA (gdV wd_724 wd_725 wd_726 wd_5 wd_727) rfl rfl rfl (by decide +kernel) ⟨Nat.le_trans (by decide) hR1, Nat.le_trans (by decide) hR2⟩) hKK hPM 0 rfl rfl rfl hl.1 rfl (Nat.le_of_ble_eq_true rfl) dL_law_1775 (by omega) (by omega) ?_
  rw [h0]
  refine lv_iload hx hb dL_law_1778 (lv_at hl 1 rfl) ?_
  refine n_icmp_eq (x := k) (y := k) (tgt := 1785) hx hb dL_law_1780 (by decide) (by omega) (by omega) (fun _ => ?_) (fun h => absurd rfl h)
  refine lv_iload hx hb dL_law_1785 (lv_at hl 1 rfl) ?_
  refine n_ifne (x := k) (tgt := 1802) hx hb dL_law_1787 (by decide) (by omega) (fun _ => ?_) (fun h => ?_)
  · refine lv_goto (tgt := 1929) hx hb dL_law_1802 (by decide) ?_
    exact kk _ _ _ ⟨hP, hD, hS, lv_sub hl [2, 3, 4, 5, 6, 7] rfl⟩
  refine lv_aload_n hx hb dL_law_1790 rfl (lv_at hl 5 rfl) ?_
  refine n_iconst (k := 0) hx hb dL_law_1791 (by decide) ?_
  refine va_lald hx hb hKL hP 0 0 rfl rfl (vp_in_nI (n := 0) (N := 1) (by decide) (by decide)) dL_law_1792 ?_
  rw [hv h]
  refine lv_iload hx hb dL_law_1793 (lv_at hl 0 rfl) ?_
  refine lv_i2l hx hb dL_law_1795 rfl ?_
  refine W.lcmp hx hb dL_law_1796 ?_
  rw [lg_self]
  refine lv_if_eq (tgt := 1802) hx hb dL_law_1797 (by decide) (fun _ => ?_) (fun h => absurd rfl h)
  refine lv_goto (tgt := 1929) hx hb dL_law_1802 (by decide) ?_
  exact kk _ _ _ ⟨hP, hD, hS, lv_sub hl [2, 3, 4, 5, 6, 7] rfl⟩
set_option maxHeartbeats 4000000 in
set_option maxRecDepth 100000 in
theorem law_known {p : Program} {l : Launch} {e : Env} {R : Room} {s : State} {m : MethodId} {args : Array Value} {below : List Frame} {meth : Method} {c : Code} {H : Heap} {locs : List Loc} {cells slots : Nat} {ls : Array Slot} {Q : State → Prop} {D : va_G} {cI cZ cL cD : ClassId} {sa q qm : Nat → Nat} {qo qd b L i : Nat} {xs : Nat → Int32} {σ κ0 κ1 σ1 κ2 κ3 μ μ1 : ST} {g : Nat → Int64} {gd : Nat → UInt64} (C : LawC p l R s m args c D cI cZ cL cD sa b L xs) (hcs : cells + 1 ≤ R.cells) (hss : slots + 6 ≤ R.slots) (hi : i + 5 ≤ L) (hSt : LawS s D cI cZ cL cD q qm qo qd b i σ κ0 κ1 g gd μ H locs ls) {k : Nat} {fg : (Nat → Int64) → Nat → Int64} {fd : (Nat → UInt64) → Nat → UInt64} {r : Int32} (hC : ClsOK yL_known (codeL yL_known cL_known 5 (some .int) [(0, 10, 13, 13), (0, 10, 17, 21)]) σ κ0 κ1 σ1 κ2 κ3 [.int (xs (i + 1)), .int (xs (i + 2))] (some false) k fg fd) (hRf : RefOK yX4_known (codeW yX4_known cX4_known 4 (some .int)) μ μ1 [.int (xs (i + 1)), .int (xs (i + 2))] (some (.int r))) (h0 : μ1 0 2 = k) (hk : k < 4) (hv : k = 0 → (fg g) (nI 0).toNatClampNeg = r.toInt64) (kk : ∀ (H1 : Heap) (locs1 : List Loc) (ls1 : Array Slot), LawS s D cI cZ cL cD q qm qo qd b i σ1 κ2 κ3 (fg g) (fd gd) μ1 H1 locs1 ls1 → W p l e R s m args below meth c H1 locs1 (cells + 1) (slots + 6) Q (F0 m 1929 ls1 [])) : W p l e R s m args below meth c H locs cells slots Q (F0 m 1805 ls []) := by
  obtain ⟨hx, hb, hml, hown, htA, hX, hbl, hKK, hKL, hZ, hst9, hL, hR1, hR2⟩ := C
  obtain ⟨hP, hD, hS, hl⟩ := hSt
  have hbA : ¬ (fun a => s.heap.size ≤ a) b := Nat.not_le.mpr hbl
  refine lv_aload_n hx hb dL_law_1805 rfl (lv_at hl 1 rfl) ?_
  refine lv_aload_n hx hb dL_law_1806 rfl (lv_at hl 0 rfl) ?_
  refine lv_iload hx hb dL_law_1807 (lv_at hl 5 rfl) ?_
  refine n_iconst (k := 1) hx hb dL_law_1809 (by decide) ?_
  refine n_iadd hx hb dL_law_1810 ?_
  refine n_sld (j := i + 1) hx hb hX hbl hbA hS (by omega) (by omega) dL_law_1811 ?_
  refine lv_aload_n hx hb dL_law_1812 rfl (lv_at hl 0 rfl) ?_
  refine lv_iload hx hb dL_law_1813 (lv_at hl 5 rfl) ?_
  refine n_iconst (k := 2) hx hb dL_law_1815 (by decide) ?_
  refine n_iadd hx hb dL_law_1816 ?_
  refine n_sld (j := i + 2) hx hb hX hbl hbA hS (by omega) (by omega) dL_law_1817 ?_
  refine lv_aload_n hx hb dL_law_1818 rfl (lv_at hl 3 rfl) ?_
  refine lwS (n := 4) ⟨hx, hb, hml, hown, htA⟩ htA hC rfl (gdS wd_625 wd_626 wd_0 wd_627) (by decide +kernel) (by decide) hR1 (by omega) hst9 hKK hKL (hZ.of hS) hP hD hS rfl hl.1 rfl (Nat.le_of_ble_eq_true rfl) dL_law_1819 hcs hss (fun H locs hP hS => ?_)
  have hP : va_P D vwCl (wT q qm qo qd cI cZ cL cD σ1 κ2 κ3 (fg g) (fd gd) μ) H := hP
  have hD : va_D (fun a => s.heap.size ≤ a) (wT q qm qo qd cI cZ cL cD σ1 κ2 κ3 (fg g) (fd gd) μ) := D_addr hD rfl
  refine lv_istore (lv' := [(6, .int (nI (k))), (0, .ref (b)), (1, .ref (q 0)), (2, .ref (qm 0)), (3, .ref (qo)), (4, .ref (qd)), (5, .int (nI (i)))]) hx hb dL_law_1822 hl (by decide) rfl (fun ls hl => ?_)
  refine lv_aload_n hx hb dL_law_1824 rfl (lv_at hl 3 rfl) ?_
  refine lv_aload_n hx hb dL_law_1825 rfl (lv_at hl 1 rfl) ?_
  refine lv_iload hx hb dL_law_1826 (lv_at hl 6 rfl) ?_
  refine n_iconst (k := 1) hx hb dL_law_1828 (by decide) ?_
  refine n_iadd hx hb dL_law_1829 ?_
  refine n_sld (j := i + 1) hx hb hX hbl hbA hS (by omega) (by omega) dL_law_1830 ?_
  refine lv_aload_n hx hb dL_law_1831 rfl (lv_at hl 1 rfl) ?_
  refine lv_iload hx hb dL_law_1832 (lv_at hl 6 rfl) ?_
  refine n_iconst (k := 2) hx hb dL_law_1834 (by decide) ?_
  refine n_iadd hx hb dL_law_1835 ?_
  refine n_sld (j := i + 2) hx hb hX hbl hbA hS (by omega) (by omega) dL_law_1836 ?_
  refine lwV (rest := []) (n := 2) ⟨hx, hb, hml, hown, htA⟩ htA hRf rfl (gdV wd_908 wd_909 wd_910 wd_5 wd_911) (by decide +kernel) (by decide) hR1 hR2 hKK hP hD hS rfl hl.1 rfl (Nat.le_of_ble_eq_true rfl) dL_law_1837 (by omega) (by omega) (fun H locs hP hS => ?_)
  have hP : va_P D vwCl (wT q qm qo qd cI cZ cL cD σ1 κ2 κ3 (fg g) (fd gd) μ1) H := hP
  have hD : va_D (fun a => s.heap.size ≤ a) (wT q qm qo qd cI cZ cL cD σ1 κ2 κ3 (fg g) (fd gd) μ1) := D_addr hD rfl
  refine W.eq (g2 := F0 m 1840 ls [.int (r)]) rfl ?_
  refine lv_istore (lv' := [(7, .int (r)), (6, .int (nI (k))), (0, .ref (b)), (1, .ref (q 0)), (2, .ref (qm 0)), (3, .ref (qo)), (4, .ref (qd)), (5, .int (nI (i)))]) hx hb dL_law_1840 hl (by decide) rfl (fun ls hl => ?_)
  refine lv_aload_n hx hb dL_law_1842 rfl (lv_at hl 4 rfl) ?_
  have hPM : va_P D vwCl (wM qm cI cZ μ1) H := hP.sub [26, 27, 28, 29, 30, 31, 32, 33, 34, 35, 36, 37, 38, 39, 40, 41, 42, 43, 44, 45, 46, 47, 48, 49] rfl
  refine roV1 (v := .int (nI (μ1 0 2))) (As := []) (rest := []) (n := 0) ⟨hx, hb, hml, hown, htA⟩ (r_thrown l D cI cZ sa qm μ1 H hPM) (cwV 0 htA (gdV wd_724 wd_725 wd_726 wd_5 wd_727) rfl rfl rfl (by decide +kernel) ⟨Nat.le_trans (by decide) hR1, Nat.le_trans (by decide) hR2⟩) hKK hPM 0 rfl rfl rfl hl.1 rfl (Nat.le_of_ble_eq_true rfl) dL_law_1843 (by omega) (by omega) ?_
  rw [h0]
  refine lv_iload hx hb dL_law_1846 (lv_at hl 1 rfl) ?_
  refine n_icmp_eq (x := k) (y := k) (tgt := 1853) hx hb dL_law_1848 (by decide) (by omega) (by omega) (fun _ => ?_) (fun h => absurd rfl h)
  refine lv_iload hx hb dL_law_1853 (lv_at hl 1 rfl) ?_
  refine n_ifne (x := k) (tgt := 1870) hx hb dL_law_1855 (by decide) (by omega) (fun _ => ?_) (fun h => ?_)
  · refine lv_goto (tgt := 1929) hx hb dL_law_1870 (by decide) ?_
    exact kk _ _ _ ⟨hP, hD, hS, lv_sub hl [2, 3, 4, 5, 6, 7] rfl⟩
  refine lv_aload_n hx hb dL_law_1858 rfl (lv_at hl 5 rfl) ?_
  refine n_iconst (k := 0) hx hb dL_law_1859 (by decide) ?_
  refine va_lald hx hb hKL hP 0 0 rfl rfl (vp_in_nI (n := 0) (N := 1) (by decide) (by decide)) dL_law_1860 ?_
  rw [hv h]
  refine lv_iload hx hb dL_law_1861 (lv_at hl 0 rfl) ?_
  refine lv_i2l hx hb dL_law_1863 rfl ?_
  refine W.lcmp hx hb dL_law_1864 ?_
  rw [lg_self]
  refine lv_if_eq (tgt := 1870) hx hb dL_law_1865 (by decide) (fun _ => ?_) (fun h => absurd rfl h)
  refine lv_goto (tgt := 1929) hx hb dL_law_1870 (by decide) ?_
  exact kk _ _ _ ⟨hP, hD, hS, lv_sub hl [2, 3, 4, 5, 6, 7] rfl⟩
set_option maxHeartbeats 4000000 in
set_option maxRecDepth 100000 in
theorem law_freshLoads {p : Program} {l : Launch} {e : Env} {R : Room} {s : State} {m : MethodId} {args : Array Value} {below : List Frame} {meth : Method} {c : Code} {H : Heap} {locs : List Loc} {cells slots : Nat} {ls : Array Slot} {Q : State → Prop} {D : va_G} {cI cZ cL cD : ClassId} {sa q qm : Nat → Nat} {qo qd b L i : Nat} {xs : Nat → Int32} {σ κ0 κ1 σ1 κ2 κ3 μ μ1 : ST} {g : Nat → Int64} {gd : Nat → UInt64} (C : LawC p l R s m args c D cI cZ cL cD sa b L xs) (hcs : cells + 1 ≤ R.cells) (hss : slots + 6 ≤ R.slots) (hi : i + 5 ≤ L) (hSt : LawS s D cI cZ cL cD q qm qo qd b i σ κ0 κ1 g gd μ H locs ls) {k : Nat} {fg : (Nat → Int64) → Nat → Int64} {fd : (Nat → UInt64) → Nat → UInt64} {r : Int32} (hC : ClsOK yL_freshLoads (codeL yL_freshLoads cL_freshLoads 4 (some .int) [(0, 9, 12, 13)]) σ κ0 κ1 σ1 κ2 κ3 [.int (xs (i + 1))] (some false) k fg fd) (hRf : RefOK yX4_freshLoads (codeW yX4_freshLoads cX4_freshLoads 2 (some .int)) μ μ1 [.int (xs (i + 1))] (some (.int r))) (h0 : μ1 0 2 = k) (hk : k < 4) (hv : k = 0 → (fg g) (nI 0).toNatClampNeg = r.toInt64) (kk : ∀ (H1 : Heap) (locs1 : List Loc) (ls1 : Array Slot), LawS s D cI cZ cL cD q qm qo qd b i σ1 κ2 κ3 (fg g) (fd gd) μ1 H1 locs1 ls1 → W p l e R s m args below meth c H1 locs1 (cells + 1) (slots + 6) Q (F0 m 1929 ls1 [])) : W p l e R s m args below meth c H locs cells slots Q (F0 m 1873 ls []) := by
  obtain ⟨hx, hb, hml, hown, htA, hX, hbl, hKK, hKL, hZ, hst9, hL, hR1, hR2⟩ := C
  obtain ⟨hP, hD, hS, hl⟩ := hSt
  have hbA : ¬ (fun a => s.heap.size ≤ a) b := Nat.not_le.mpr hbl
  refine lv_aload_n hx hb dL_law_1873 rfl (lv_at hl 1 rfl) ?_
  refine lv_aload_n hx hb dL_law_1874 rfl (lv_at hl 0 rfl) ?_
  refine lv_iload hx hb dL_law_1875 (lv_at hl 5 rfl) ?_
  refine n_iconst (k := 1) hx hb dL_law_1877 (by decide) ?_
  refine n_iadd hx hb dL_law_1878 ?_
  refine n_sld (j := i + 1) hx hb hX hbl hbA hS (by omega) (by omega) dL_law_1879 ?_
  refine lv_aload_n hx hb dL_law_1880 rfl (lv_at hl 3 rfl) ?_
  refine lwS (n := 3) ⟨hx, hb, hml, hown, htA⟩ htA hC rfl (gdS wd_632 wd_633 wd_0 wd_634) (by decide +kernel) (by decide) hR1 (by omega) hst9 hKK hKL (hZ.of hS) hP hD hS rfl hl.1 rfl (Nat.le_of_ble_eq_true rfl) dL_law_1881 hcs hss (fun H locs hP hS => ?_)
  have hP : va_P D vwCl (wT q qm qo qd cI cZ cL cD σ1 κ2 κ3 (fg g) (fd gd) μ) H := hP
  have hD : va_D (fun a => s.heap.size ≤ a) (wT q qm qo qd cI cZ cL cD σ1 κ2 κ3 (fg g) (fd gd) μ) := D_addr hD rfl
  refine lv_istore (lv' := [(6, .int (nI (k))), (0, .ref (b)), (1, .ref (q 0)), (2, .ref (qm 0)), (3, .ref (qo)), (4, .ref (qd)), (5, .int (nI (i)))]) hx hb dL_law_1884 hl (by decide) rfl (fun ls hl => ?_)
  refine lv_aload_n hx hb dL_law_1886 rfl (lv_at hl 3 rfl) ?_
  refine lv_aload_n hx hb dL_law_1887 rfl (lv_at hl 1 rfl) ?_
  refine lv_iload hx hb dL_law_1888 (lv_at hl 6 rfl) ?_
  refine n_iconst (k := 1) hx hb dL_law_1890 (by decide) ?_
  refine n_iadd hx hb dL_law_1891 ?_
  refine n_sld (j := i + 1) hx hb hX hbl hbA hS (by omega) (by omega) dL_law_1892 ?_
  refine lwV (rest := []) (n := 1) ⟨hx, hb, hml, hown, htA⟩ htA hRf rfl (gdV wd_912 wd_913 wd_914 wd_5 wd_915) (by decide +kernel) (by decide) hR1 hR2 hKK hP hD hS rfl hl.1 rfl (Nat.le_of_ble_eq_true rfl) dL_law_1893 (by omega) (by omega) (fun H locs hP hS => ?_)
  have hP : va_P D vwCl (wT q qm qo qd cI cZ cL cD σ1 κ2 κ3 (fg g) (fd gd) μ1) H := hP
  have hD : va_D (fun a => s.heap.size ≤ a) (wT q qm qo qd cI cZ cL cD σ1 κ2 κ3 (fg g) (fd gd) μ1) := D_addr hD rfl
  refine W.eq (g2 := F0 m 1896 ls [.int (r)]) rfl ?_
  refine lv_istore (lv' := [(7, .int (r)), (6, .int (nI (k))), (0, .ref (b)), (1, .ref (q 0)), (2, .ref (qm 0)), (3, .ref (qo)), (4, .ref (qd)), (5, .int (nI (i)))]) hx hb dL_law_1896 hl (by decide) rfl (fun ls hl => ?_)
  refine lv_aload_n hx hb dL_law_1898 rfl (lv_at hl 4 rfl) ?_
  have hPM : va_P D vwCl (wM qm cI cZ μ1) H := hP.sub [26, 27, 28, 29, 30, 31, 32, 33, 34, 35, 36, 37, 38, 39, 40, 41, 42, 43, 44, 45, 46, 47, 48, 49] rfl
  refine roV1 (v := .int (nI (μ1 0 2))) (As := []) (rest := []) (n := 0) ⟨hx, hb, hml, hown, htA⟩ (r_thrown l D cI cZ sa qm μ1 H hPM) (cwV 0 htA (gdV wd_724 wd_725 wd_726 wd_5 wd_727) rfl rfl rfl (by decide +kernel) ⟨Nat.le_trans (by decide) hR1, Nat.le_trans (by decide) hR2⟩) hKK hPM 0 rfl rfl rfl hl.1 rfl (Nat.le_of_ble_eq_true rfl) dL_law_1899 (by omega) (by omega) ?_
  rw [h0]
  refine lv_iload hx hb dL_law_1902 (lv_at hl 1 rfl) ?_
  refine n_icmp_eq (x := k) (y := k) (tgt := 1909) hx hb dL_law_1904 (by decide) (by omega) (by omega) (fun _ => ?_) (fun h => absurd rfl h)
  refine lv_iload hx hb dL_law_1909 (lv_at hl 1 rfl) ?_
  refine n_ifne (x := k) (tgt := 1926) hx hb dL_law_1911 (by decide) (by omega) (fun _ => ?_) (fun h => ?_)
  · refine lv_goto (tgt := 1929) hx hb dL_law_1926 (by decide) ?_
    exact kk _ _ _ ⟨hP, hD, hS, lv_sub hl [2, 3, 4, 5, 6, 7] rfl⟩
  refine lv_aload_n hx hb dL_law_1914 rfl (lv_at hl 5 rfl) ?_
  refine n_iconst (k := 0) hx hb dL_law_1915 (by decide) ?_
  refine va_lald hx hb hKL hP 0 0 rfl rfl (vp_in_nI (n := 0) (N := 1) (by decide) (by decide)) dL_law_1916 ?_
  rw [hv h]
  refine lv_iload hx hb dL_law_1917 (lv_at hl 0 rfl) ?_
  refine lv_i2l hx hb dL_law_1919 rfl ?_
  refine W.lcmp hx hb dL_law_1920 ?_
  rw [lg_self]
  refine lv_if_eq (tgt := 1926) hx hb dL_law_1921 (by decide) (fun _ => ?_) (fun h => absurd rfl h)
  refine lv_goto (tgt := 1929) hx hb dL_law_1926 (by decide) ?_
  exact kk _ _ _ ⟨hP, hD, hS, lv_sub hl [2, 3, 4, 5, 6, 7] rfl⟩
