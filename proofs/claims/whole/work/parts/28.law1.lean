/-! the law's own methods: each calls the face, and says what was thrown -/
abbrev codeL (y : MethodName) (cc : ByteArray) (n : Nat) (ret : Option FieldType) (hh : List (Nat × Nat × Nat × Nat)) : List Cond := Cond.codeWith y cc n ret hh :: WA
def wL (q : Nat → Nat) (qo qd : Nat) (cI cZ cL cD : ClassId) (σ κ0 κ1 : ST) (g : Nat → Int64) (gd : Nat → UInt64) : va_W := (qo, .inl (cL, 1, .inr (.inl g))) :: (qd, .inl (cD, 1, .inr (.inr (.inr (.inl gd))))) :: wX q cI cZ σ κ0 κ1
abbrev tyL (cL cD : ClassId) : List (ClassId × FieldType) := [(cL, .long), (cD, .double)]
def LwP (D : va_G) (cI cZ cL cD : ClassId) (sa : Nat → Nat) (w : va_W) (av : List Value) : Array Value → State → Prop := va_Pc av (fun U => va_P D vwCl w U.heap ∧ KK D cI cZ sa U ∧ va_K D vwCl (tyL cL cD) U ∧ ZZ U.heap U)
def gu (g : Nat → Int64) (v : Int64) : Nat → Int64 := vp_updL g (nI 0).toNatClampNeg v
def gv (g : Nat → UInt64) (v : UInt64) : Nat → UInt64 := vf_upd g (nI 0).toNatClampNeg v
def bl (b : Bool) : Int64 := cond b 1 0
theorem L_put {A : Nat → Prop} {D : va_G} {cl : List vw_C} {q : Nat → Nat} {qo qd : Nat} {cI cZ cL cD : ClassId} {σ κ0 κ1 σ1 κ2 κ3 : ST} {g : Nat → Int64} {gd : Nat → UInt64} {H H1 : Heap} (hD : va_D A (wL q qo qd cI cZ cL cD σ κ0 κ1 g gd)) (hP : va_P D cl (wL q qo qd cI cZ cL cD σ κ0 κ1 g gd) H) (hk : ∀ a : Nat, a < H.size → ¬ adr (wX q cI cZ σ κ0 κ1) a → H1[a]? = H[a]?) (h1 : va_P D cl (wX q cI cZ σ1 κ2 κ3) H1) : va_P D cl (wL q qo qd cI cZ cL cD σ1 κ2 κ3 g gd) H1 := by
  have hM : va_P D cl [(qo, .inl (cL, 1, .inr (.inl g))), (qd, .inl (cD, 1, .inr (.inr (.inr (.inl gd)))))] H1 := P_keep (hP.sub [0, 1] rfl) hk (D_out hD [0, 1] [2, 3, 4, 5, 6, 7, 8, 9, 10, 11, 12, 13, 14, 15, 16, 17, 18, 19, 20, 21, 22, 23, 24, 25] rfl rfl (by decide))
  exact va_P.app hM h1
set_option maxHeartbeats 4000000 in
set_option maxRecDepth 100000 in
theorem w_add_bad (l : Launch) (D : va_G) (cI cZ cL cD : ClassId) (sa : Nat → Nat) (q : Nat → Nat) (qo qd : Nat) (σ κ0 κ1 : ST) (g : Nat → Int64) (gd : Nat → UInt64) (A : Nat → Prop) (hD : va_D A (wL q qo qd cI cZ cL cD σ κ0 κ1 g gd)) (hst9 : l.stackTraces = false)  (x y9 z : Int32) (hbad : (iw (x) (nI (0)) (nI (9999)) && iw (y9) (nI (1)) (nI (63)) && iw (z) (nI (0)) (nI (9))) = false) : Met l yL_add (codeL yL_add cL_add 6 (some .int) [(0, 12, 15, 13), (0, 12, 19, 15)]) ({ frames := 7, cells := 1, slots := 6, locals := 137 } : Room) (LwP D cI cZ cL cD sa (wL q qo qd cI cZ cL cD σ κ0 κ1 g gd) [.ref (q 0), .int (x), .int (y9), .int (z), .ref (qo)]) (WrQ (some (.int (nI 1))) D (wL q qo qd cI cZ cL cD σ κ0 κ1 g gd) A) 1 6 A := by
  refine va_MetW (cc := cL_add) (maxL := 6) (ret := (some .int)) (hh := [(0, 12, 15, 13), (0, 12, 19, 15)]) (by decide) rfl ?_
  intro p e s m args below meth c s₁ B hml hv
  obtain ⟨rfl, hP, hKK, hKL, hZ⟩ := hv
  have hx := B.exec
  have hb := B.bytes
  have hr := B.returns
  have htA : ∀ w ∈ WA, w.before _ s = true := fun w h => atoms_spec (ws := (codeL yL_add cL_add 6 (some .int) [(0, 12, 15, 13), (0, 12, 19, 15)])) B.pre w (List.mem_cons_of_mem _ h)
  have hown : s.vm.findClass RL = some m.cls := findClass_of_methodNamed B.named
  have hlocks := B.notSynchronized
  have hS : va_S A s.heap s.heap [] := va_S.rf
  have hl := lv_entry ([.ref (q 0), .int (x), .int (y9), .int (z), .ref (qo)]) (n := 6) (Nat.le_of_ble_eq_true rfl)
  rw [lg_entry_eq]
  generalize (lg_sl ([.ref (q 0), .int (x), .int (y9), .int (z), .ref (qo)]) ++ List.replicate (6 - (lg_sl ([.ref (q 0), .int (x), .int (y9), .int (z), .ref (qo)])).length) Slot.unset).toArray = ls at hl ⊢
  have hl : lv_has ls 6 [(0, .ref (q 0)), (1, .int (x)), (2, .int (y9)), (3, .int (z)), (4, .ref (qo))] := hl
  have hPX : va_P D vwCl (wX q cI cZ σ κ0 κ1) s.heap := hP.sub [2, 3, 4, 5, 6, 7, 8, 9, 10, 11, 12, 13, 14, 15, 16, 17, 18, 19, 20, 21, 22, 23, 24, 25] rfl
  have hDX : va_D A (wX q cI cZ σ κ0 κ1) := hD.sub [2, 3, 4, 5, 6, 7, 8, 9, 10, 11, 12, 13, 14, 15, 16, 17, 18, 19, 20, 21, 22, 23, 24, 25] (by decide) rfl
  refine lv_aload hx hb dL_add_0 (lv_at hl 4 rfl) ?_
  refine n_iconst (k := 0) hx hb dL_add_2 (by decide) ?_
  refine lv_aload_n hx hb dL_add_3 rfl (lv_at hl 0 rfl) ?_
  refine lv_iload_n hx hb dL_add_4 rfl (lv_at hl 1 rfl) ?_
  refine lv_iload_n hx hb dL_add_5 rfl (lv_at hl 2 rfl) ?_
  refine lv_iload_n hx hb dL_add_6 rfl (lv_at hl 3 rfl) ?_
  refine thV (As := [.int (x), .int (y9), .int (z)]) (rest := [.int (nI (0)), .ref (qo)]) (n := 3) ⟨hx, hb, hml, hown, htA⟩ (f_add_bad l D cI cZ sa hst9 q σ κ0 κ1 x y9 z s.heap hPX hbad) (cwV 3 htA (gdV wd_166 wd_167 wd_168 wd_1 wd_169) rfl rfl rfl (by decide +kernel) ⟨Nat.le_of_ble_eq_true rfl, Nat.le_of_ble_eq_true rfl⟩) hKK hZ hPX 0 rfl rfl rfl hl.1 rfl (Nat.le_of_ble_eq_true rfl) dL_add_7 (Nat.le_of_ble_eq_true rfl) (Nat.le_of_ble_eq_true rfl) (fun H1 ce q9 hz hk hc hv hcl => ?_)
  refine vx_catch (name := "java/lang/IllegalArgumentException") hown [] ⟨0, 12, 15, 13⟩ [⟨0, 12, 19, 15⟩] ((vx_table (x := yL_add) B (htA _ wd_163)).trans rfl) (fun _ h => nomatch h) (by decide) (by decide) (htA _ wd_164) (va_Nw.use rfl (ex_cA hKK.2)) hc hv hcl ?_
  refine lv_astore (lv' := [(5, .ref (q9)), (0, .ref (q 0)), (1, .int (x)), (2, .int (y9)), (3, .int (z)), (4, .ref (qo))]) hx hb dL_add_15 hl (by decide) rfl (fun ls hl => ?_)
  refine n_iconst (k := 1) hx hb dL_add_17 (by decide) ?_
  exact W.iret hx hb hr (fun t ht _ => ⟨rfl, by rw [ht]; exact P_grow hP hk, ⟨by rw [ht]; exact hz, fun a ha _ => by rw [ht]; exact hk a ha⟩⟩) (fun _ h => nomatch h) dL_add_18 hlocks
set_option maxHeartbeats 4000000 in
set_option maxRecDepth 100000 in
theorem w_add_full (l : Launch) (D : va_G) (cI cZ cL cD : ClassId) (sa : Nat → Nat) (q : Nat → Nat) (qo qd : Nat) (σ κ0 κ1 : ST) (g : Nat → Int64) (gd : Nat → UInt64) (A : Nat → Prop) (hD : va_D A (wL q qo qd cI cZ cL cD σ κ0 κ1 g gd)) (hst9 : l.stackTraces = false)  (t b0 th : Nat) (hB : ∀ k i, σ k i < 1073741824) (ht : t ≤ 9999) (hb1 : 1 ≤ b0) (hb2 : b0 ≤ 63) (hth : th ≤ 9) (hco : 60 ≤ σ 1 0) : Met l yL_add (codeL yL_add cL_add 6 (some .int) [(0, 12, 15, 13), (0, 12, 19, 15)]) ({ frames := 7, cells := 1, slots := 6, locals := 137 } : Room) (LwP D cI cZ cL cD sa (wL q qo qd cI cZ cL cD σ κ0 κ1 g gd) [.ref (q 0), .int (nI (t)), .int (nI (b0)), .int (nI (th)), .ref (qo)]) (WrQ (some (.int (nI 2))) D (wL q qo qd cI cZ cL cD σ κ0 κ1 g gd) A) 1 6 A := by
  refine va_MetW (cc := cL_add) (maxL := 6) (ret := (some .int)) (hh := [(0, 12, 15, 13), (0, 12, 19, 15)]) (by decide) rfl ?_
  intro p e s m args below meth c s₁ B hml hv
  obtain ⟨rfl, hP, hKK, hKL, hZ⟩ := hv
  have hx := B.exec
  have hb := B.bytes
  have hr := B.returns
  have htA : ∀ w ∈ WA, w.before _ s = true := fun w h => atoms_spec (ws := (codeL yL_add cL_add 6 (some .int) [(0, 12, 15, 13), (0, 12, 19, 15)])) B.pre w (List.mem_cons_of_mem _ h)
  have hown : s.vm.findClass RL = some m.cls := findClass_of_methodNamed B.named
  have hlocks := B.notSynchronized
  have hS : va_S A s.heap s.heap [] := va_S.rf
  have hl := lv_entry ([.ref (q 0), .int (nI (t)), .int (nI (b0)), .int (nI (th)), .ref (qo)]) (n := 6) (Nat.le_of_ble_eq_true rfl)
  rw [lg_entry_eq]
  generalize (lg_sl ([.ref (q 0), .int (nI (t)), .int (nI (b0)), .int (nI (th)), .ref (qo)]) ++ List.replicate (6 - (lg_sl ([.ref (q 0), .int (nI (t)), .int (nI (b0)), .int (nI (th)), .ref (qo)])).length) Slot.unset).toArray = ls at hl ⊢
  have hl : lv_has ls 6 [(0, .ref (q 0)), (1, .int (nI (t))), (2, .int (nI (b0))), (3, .int (nI (th))), (4, .ref (qo))] := hl
  have hPX : va_P D vwCl (wX q cI cZ σ κ0 κ1) s.heap := hP.sub [2, 3, 4, 5, 6, 7, 8, 9, 10, 11, 12, 13, 14, 15, 16, 17, 18, 19, 20, 21, 22, 23, 24, 25] rfl
  have hDX : va_D A (wX q cI cZ σ κ0 κ1) := hD.sub [2, 3, 4, 5, 6, 7, 8, 9, 10, 11, 12, 13, 14, 15, 16, 17, 18, 19, 20, 21, 22, 23, 24, 25] (by decide) rfl
  refine lv_aload hx hb dL_add_0 (lv_at hl 4 rfl) ?_
  refine n_iconst (k := 0) hx hb dL_add_2 (by decide) ?_
  refine lv_aload_n hx hb dL_add_3 rfl (lv_at hl 0 rfl) ?_
  refine lv_iload_n hx hb dL_add_4 rfl (lv_at hl 1 rfl) ?_
  refine lv_iload_n hx hb dL_add_5 rfl (lv_at hl 2 rfl) ?_
  refine lv_iload_n hx hb dL_add_6 rfl (lv_at hl 3 rfl) ?_
  refine thV (As := [.int (nI (t)), .int (nI (b0)), .int (nI (th))]) (rest := [.int (nI (0)), .ref (qo)]) (n := 3) ⟨hx, hb, hml, hown, htA⟩ (f_add_full l D cI cZ sa hst9 q σ κ0 κ1 t b0 th s.heap hPX hB ht hb1 hb2 hth hco) (cwV 3 htA (gdV wd_166 wd_167 wd_168 wd_1 wd_169) rfl rfl rfl (by decide +kernel) ⟨Nat.le_of_ble_eq_true rfl, Nat.le_of_ble_eq_true rfl⟩) hKK hZ hPX 0 rfl rfl rfl hl.1 rfl (Nat.le_of_ble_eq_true rfl) dL_add_7 (Nat.le_of_ble_eq_true rfl) (Nat.le_of_ble_eq_true rfl) (fun H1 ce q9 hz hk hc hv hcl => ?_)
  refine vx_catch (name := "java/lang/IllegalStateException") hown [⟨0, 12, 15, 13⟩] ⟨0, 12, 19, 15⟩ [] ((vx_table (x := yL_add) B (htA _ wd_163)).trans rfl) (List.forall_mem_cons.mpr ⟨Or.inr ⟨by decide, "java/lang/IllegalArgumentException", htA _ wd_164, ex_nSA hKK.2⟩, (fun _ h => nomatch h)⟩) (by decide) (by decide) (htA _ wd_165) (va_Nw.use rfl (ex_cS hKK.2)) hc hv hcl ?_
  refine lv_astore (lv' := [(5, .ref (q9)), (0, .ref (q 0)), (1, .int (nI (t))), (2, .int (nI (b0))), (3, .int (nI (th))), (4, .ref (qo))]) hx hb dL_add_19 hl (by decide) rfl (fun ls hl => ?_)
  refine n_iconst (k := 2) hx hb dL_add_21 (by decide) ?_
  exact W.iret hx hb hr (fun t ht _ => ⟨rfl, by rw [ht]; exact P_grow hP hk, ⟨by rw [ht]; exact hz, fun a ha _ => by rw [ht]; exact hk a ha⟩⟩) (fun _ h => nomatch h) dL_add_22 hlocks
set_option maxHeartbeats 4000000 in
set_option maxRecDepth 100000 in
theorem w_add_ok (l : Launch) (D : va_G) (cI cZ cL cD : ClassId) (sa : Nat → Nat) (q : Nat → Nat) (qo qd : Nat) (σ κ0 κ1 : ST) (g : Nat → Int64) (gd : Nat → UInt64) (A : Nat → Prop) (hD : va_D A (wL q qo qd cI cZ cL cD σ κ0 κ1 g gd))  (t b0 th : Nat) (hB : ∀ k i, σ k i < 1073741824) (ht : t ≤ 9999) (hb1 : 1 ≤ b0) (hb2 : b0 ≤ 63) (hth : th ≤ 9) (hco : σ 1 0 < 60) (h60 : ∀ i, σ 6 i < 60) (h40 : σ 4 (σ 1 0) = 0) : Met l yL_add (codeL yL_add cL_add 6 (some .int) [(0, 12, 15, 13), (0, 12, 19, 15)]) ({ frames := 7, cells := 1, slots := 6, locals := 137 } : Room) (LwP D cI cZ cL cD sa (wL q qo qd cI cZ cL cD σ κ0 κ1 g gd) [.ref (q 0), .int (nI (t)), .int (nI (b0)), .int (nI (th)), .ref (qo)]) (WrQ (some (.int (nI 0))) D (wL q qo qd cI cZ cL cD (lc σ t b0 th) κ0 κ1 (gu g ((nI (σ 1 0)).toInt64)) gd) A) 1 6 A := by
  refine va_MetW (cc := cL_add) (maxL := 6) (ret := (some .int)) (hh := [(0, 12, 15, 13), (0, 12, 19, 15)]) (by decide) rfl ?_
  intro p e s m args below meth c s₁ B hml hv
  obtain ⟨rfl, hP, hKK, hKL, hZ⟩ := hv
  have hx := B.exec
  have hb := B.bytes
  have hr := B.returns
  have htA : ∀ w ∈ WA, w.before _ s = true := fun w h => atoms_spec (ws := (codeL yL_add cL_add 6 (some .int) [(0, 12, 15, 13), (0, 12, 19, 15)])) B.pre w (List.mem_cons_of_mem _ h)
  have hown : s.vm.findClass RL = some m.cls := findClass_of_methodNamed B.named
  have hlocks := B.notSynchronized
  have hS : va_S A s.heap s.heap [] := va_S.rf
  have hl := lv_entry ([.ref (q 0), .int (nI (t)), .int (nI (b0)), .int (nI (th)), .ref (qo)]) (n := 6) (Nat.le_of_ble_eq_true rfl)
  rw [lg_entry_eq]
  generalize (lg_sl ([.ref (q 0), .int (nI (t)), .int (nI (b0)), .int (nI (th)), .ref (qo)]) ++ List.replicate (6 - (lg_sl ([.ref (q 0), .int (nI (t)), .int (nI (b0)), .int (nI (th)), .ref (qo)])).length) Slot.unset).toArray = ls at hl ⊢
  have hl : lv_has ls 6 [(0, .ref (q 0)), (1, .int (nI (t))), (2, .int (nI (b0))), (3, .int (nI (th))), (4, .ref (qo))] := hl
  have hPX : va_P D vwCl (wX q cI cZ σ κ0 κ1) s.heap := hP.sub [2, 3, 4, 5, 6, 7, 8, 9, 10, 11, 12, 13, 14, 15, 16, 17, 18, 19, 20, 21, 22, 23, 24, 25] rfl
  have hDX : va_D A (wX q cI cZ σ κ0 κ1) := hD.sub [2, 3, 4, 5, 6, 7, 8, 9, 10, 11, 12, 13, 14, 15, 16, 17, 18, 19, 20, 21, 22, 23, 24, 25] (by decide) rfl
  refine lv_aload hx hb dL_add_0 (lv_at hl 4 rfl) ?_
  refine n_iconst (k := 0) hx hb dL_add_2 (by decide) ?_
  refine lv_aload_n hx hb dL_add_3 rfl (lv_at hl 0 rfl) ?_
  refine lv_iload_n hx hb dL_add_4 rfl (lv_at hl 1 rfl) ?_
  refine lv_iload_n hx hb dL_add_5 rfl (lv_at hl 2 rfl) ?_
  refine lv_iload_n hx hb dL_add_6 rfl (lv_at hl 3 rfl) ?_
  refine wrV1 (v := .int (nI (σ 1 0))) (As := [.int (nI (t)), .int (nI (b0)), .int (nI (th))]) (rest := [.int (nI (0)), .ref (qo)]) (n := 3) ⟨hx, hb, hml, hown, htA⟩ (f_add_ok l D cI cZ sa q σ κ0 κ1 t b0 th (adr (wX q cI cZ σ κ0 κ1)) (D_adr hDX) hB ht hb1 hb2 hth hco h60 h40) (cwV 3 htA (gdV wd_166 wd_167 wd_168 wd_1 wd_169) rfl rfl rfl (by decide +kernel) ⟨Nat.le_of_ble_eq_true rfl, Nat.le_of_ble_eq_true rfl⟩) hKK hPX 0 rfl rfl rfl hl.1 rfl (Nat.le_of_ble_eq_true rfl) dL_add_7 (Nat.zero_le _) (Nat.zero_le _) hS (fun a h => adr_in hDX a h) (fun H1 locs hP1 hz1 hk1 hS => ?_)
  have hP : va_P D vwCl (wL q qo qd cI cZ cL cD (lc σ t b0 th) κ0 κ1 g gd) H1 := L_put hD hP hk1 hP1
  refine lv_i2l hx hb dL_add_10 rfl ?_
  refine va_last hx hb hKL hP (D_addr hD rfl) hS 0 0 rfl rfl (vp_in_nI (n := 0) (N := 1) (by decide) (by decide)) dL_add_11 (fun H locs hP _ hS => ?_)
  have hP : va_P D vwCl (wL q qo qd cI cZ cL cD (lc σ t b0 th) κ0 κ1 (gu g ((nI (σ 1 0)).toInt64)) gd) H := hP
  refine lv_goto (tgt := 23) hx hb dL_add_12 (by decide) ?_
  refine n_iconst (k := 0) hx hb dL_add_23 (by decide) ?_
  refine W.widen (k := 1) (n := 6) (by decide) (by decide) ?_
  exact W.iret hx hb hr (fun t ht _ => ⟨rfl, by rw [ht]; exact hP, hS.F ht⟩) hS.2.2 dL_add_24 hlocks
set_option maxHeartbeats 4000000 in
set_option maxRecDepth 100000 in
theorem w_move_nr (l : Launch) (D : va_G) (cI cZ cL cD : ClassId) (sa : Nat → Nat) (q : Nat → Nat) (qo qd : Nat) (σ κ0 κ1 : ST) (g : Nat → Int64) (gd : Nat → UInt64) (A : Nat → Prop) (hD : va_D A (wL q qo qd cI cZ cL cD σ κ0 κ1 g gd)) (hst9 : l.stackTraces = false)  (x : Int32) (y9 : Int32) (hB : ∀ k i, σ k i < 1073741824) (hx9 : iw (x) (nI (0)) (nI (59)) = false) : Met l yL_move (codeL yL_move cL_move 5 (some .int) [(0, 10, 13, 21), (0, 10, 17, 13)]) ({ frames := 8, cells := 1, slots := 6, locals := 125 } : Room) (LwP D cI cZ cL cD sa (wL q qo qd cI cZ cL cD σ κ0 κ1 g gd) [.ref (q 0), .int (x), .int (y9), .ref (qo)]) (WrQ (some (.int (nI 1))) D (wL q qo qd cI cZ cL cD σ κ0 κ1 g gd) A) 1 6 A := by
  refine va_MetW (cc := cL_move) (maxL := 5) (ret := (some .int)) (hh := [(0, 10, 13, 21), (0, 10, 17, 13)]) (by decide) rfl ?_
  intro p e s m args below meth c s₁ B hml hv
  obtain ⟨rfl, hP, hKK, hKL, hZ⟩ := hv
  have hx := B.exec
  have hb := B.bytes
  have hr := B.returns
  have htA : ∀ w ∈ WA, w.before _ s = true := fun w h => atoms_spec (ws := (codeL yL_move cL_move 5 (some .int) [(0, 10, 13, 21), (0, 10, 17, 13)])) B.pre w (List.mem_cons_of_mem _ h)
  have hown : s.vm.findClass RL = some m.cls := findClass_of_methodNamed B.named
  have hlocks := B.notSynchronized
  have hS : va_S A s.heap s.heap [] := va_S.rf
  have hl := lv_entry ([.ref (q 0), .int (x), .int (y9), .ref (qo)]) (n := 5) (Nat.le_of_ble_eq_true rfl)
  rw [lg_entry_eq]
  generalize (lg_sl ([.ref (q 0), .int (x), .int (y9), .ref (qo)]) ++ List.replicate (5 - (lg_sl ([.ref (q 0), .int (x), .int (y9), .ref (qo)])).length) Slot.unset).toArray = ls at hl ⊢
  have hl : lv_has ls 5 [(0, .ref (q 0)), (1, .int (x)), (2, .int (y9)), (3, .ref (qo))] := hl
  have hPX : va_P D vwCl (wX q cI cZ σ κ0 κ1) s.heap := hP.sub [2, 3, 4, 5, 6, 7, 8, 9, 10, 11, 12, 13, 14, 15, 16, 17, 18, 19, 20, 21, 22, 23, 24, 25] rfl
  have hDX : va_D A (wX q cI cZ σ κ0 κ1) := hD.sub [2, 3, 4, 5, 6, 7, 8, 9, 10, 11, 12, 13, 14, 15, 16, 17, 18, 19, 20, 21, 22, 23, 24, 25] (by decide) rfl
  refine lv_aload_n hx hb dL_move_0 rfl (lv_at hl 3 rfl) ?_
  refine n_iconst (k := 0) hx hb dL_move_1 (by decide) ?_
  refine lv_aload_n hx hb dL_move_2 rfl (lv_at hl 0 rfl) ?_
  refine lv_iload_n hx hb dL_move_3 rfl (lv_at hl 1 rfl) ?_
  refine lv_iload_n hx hb dL_move_4 rfl (lv_at hl 2 rfl) ?_
  refine thV (As := [.int (x), .int (y9)]) (rest := [.int (nI (0)), .ref (qo)]) (n := 2) ⟨hx, hb, hml, hown, htA⟩ (f_move_nr l D cI cZ sa hst9 q σ κ0 κ1 x y9 s.heap hPX hB hx9) (cwV 2 htA (gdV wd_297 wd_298 wd_299 wd_1 wd_300) rfl rfl rfl (by decide +kernel) ⟨Nat.le_of_ble_eq_true rfl, Nat.le_of_ble_eq_true rfl⟩) hKK hZ hPX 0 rfl rfl rfl hl.1 rfl (Nat.le_of_ble_eq_true rfl) dL_move_5 (Nat.le_of_ble_eq_true rfl) (Nat.le_of_ble_eq_true rfl) (fun H1 ce q9 hz hk hc hv hcl => ?_)
  refine vx_catch (name := "java/lang/IndexOutOfBoundsException") hown [] ⟨0, 10, 13, 21⟩ [⟨0, 10, 17, 13⟩] ((vx_table (x := yL_move) B (htA _ wd_295)).trans rfl) (fun _ h => nomatch h) (by decide) (by decide) (htA _ wd_296) (va_Nw.use rfl (ex_cI hKK.2)) hc hv hcl ?_
  refine lv_astore (lv' := [(4, .ref (q9)), (0, .ref (q 0)), (1, .int (x)), (2, .int (y9)), (3, .ref (qo))]) hx hb dL_move_13 hl (by decide) rfl (fun ls hl => ?_)
  refine n_iconst (k := 1) hx hb dL_move_15 (by decide) ?_
  exact W.iret hx hb hr (fun t ht _ => ⟨rfl, by rw [ht]; exact P_grow hP hk, ⟨by rw [ht]; exact hz, fun a ha _ => by rw [ht]; exact hk a ha⟩⟩) (fun _ h => nomatch h) dL_move_16 hlocks
set_option maxHeartbeats 4000000 in
set_option maxRecDepth 100000 in
theorem w_move_nz (l : Launch) (D : va_G) (cI cZ cL cD : ClassId) (sa : Nat → Nat) (q : Nat → Nat) (qo qd : Nat) (σ κ0 κ1 : ST) (g : Nat → Int64) (gd : Nat → UInt64) (A : Nat → Prop) (hD : va_D A (wL q qo qd cI cZ cL cD σ κ0 κ1 g gd)) (hst9 : l.stackTraces = false)  (j : Nat) (y9 : Int32) (hB : ∀ k i, σ k i < 1073741824) (hj : j < 60) (h40 : σ 4 j = 0) : Met l yL_move (codeL yL_move cL_move 5 (some .int) [(0, 10, 13, 21), (0, 10, 17, 13)]) ({ frames := 8, cells := 1, slots := 6, locals := 125 } : Room) (LwP D cI cZ cL cD sa (wL q qo qd cI cZ cL cD σ κ0 κ1 g gd) [.ref (q 0), .int (nI (j)), .int (y9), .ref (qo)]) (WrQ (some (.int (nI 1))) D (wL q qo qd cI cZ cL cD σ κ0 κ1 g gd) A) 1 6 A := by
  refine va_MetW (cc := cL_move) (maxL := 5) (ret := (some .int)) (hh := [(0, 10, 13, 21), (0, 10, 17, 13)]) (by decide) rfl ?_
  intro p e s m args below meth c s₁ B hml hv
  obtain ⟨rfl, hP, hKK, hKL, hZ⟩ := hv
  have hx := B.exec
  have hb := B.bytes
  have hr := B.returns
  have htA : ∀ w ∈ WA, w.before _ s = true := fun w h => atoms_spec (ws := (codeL yL_move cL_move 5 (some .int) [(0, 10, 13, 21), (0, 10, 17, 13)])) B.pre w (List.mem_cons_of_mem _ h)
  have hown : s.vm.findClass RL = some m.cls := findClass_of_methodNamed B.named
  have hlocks := B.notSynchronized
  have hS : va_S A s.heap s.heap [] := va_S.rf
  have hl := lv_entry ([.ref (q 0), .int (nI (j)), .int (y9), .ref (qo)]) (n := 5) (Nat.le_of_ble_eq_true rfl)
  rw [lg_entry_eq]
  generalize (lg_sl ([.ref (q 0), .int (nI (j)), .int (y9), .ref (qo)]) ++ List.replicate (5 - (lg_sl ([.ref (q 0), .int (nI (j)), .int (y9), .ref (qo)])).length) Slot.unset).toArray = ls at hl ⊢
  have hl : lv_has ls 5 [(0, .ref (q 0)), (1, .int (nI (j))), (2, .int (y9)), (3, .ref (qo))] := hl
  have hPX : va_P D vwCl (wX q cI cZ σ κ0 κ1) s.heap := hP.sub [2, 3, 4, 5, 6, 7, 8, 9, 10, 11, 12, 13, 14, 15, 16, 17, 18, 19, 20, 21, 22, 23, 24, 25] rfl
  have hDX : va_D A (wX q cI cZ σ κ0 κ1) := hD.sub [2, 3, 4, 5, 6, 7, 8, 9, 10, 11, 12, 13, 14, 15, 16, 17, 18, 19, 20, 21, 22, 23, 24, 25] (by decide) rfl
  refine lv_aload_n hx hb dL_move_0 rfl (lv_at hl 3 rfl) ?_
  refine n_iconst (k := 0) hx hb dL_move_1 (by decide) ?_
  refine lv_aload_n hx hb dL_move_2 rfl (lv_at hl 0 rfl) ?_
  refine lv_iload_n hx hb dL_move_3 rfl (lv_at hl 1 rfl) ?_
  refine lv_iload_n hx hb dL_move_4 rfl (lv_at hl 2 rfl) ?_
  refine thV (As := [.int (nI (j)), .int (y9)]) (rest := [.int (nI (0)), .ref (qo)]) (n := 2) ⟨hx, hb, hml, hown, htA⟩ (f_move_nz l D cI cZ sa hst9 q σ κ0 κ1 j y9 s.heap hPX hB hj h40) (cwV 2 htA (gdV wd_297 wd_298 wd_299 wd_1 wd_300) rfl rfl rfl (by decide +kernel) ⟨Nat.le_of_ble_eq_true rfl, Nat.le_of_ble_eq_true rfl⟩) hKK hZ hPX 0 rfl rfl rfl hl.1 rfl (Nat.le_of_ble_eq_true rfl) dL_move_5 (Nat.le_of_ble_eq_true rfl) (Nat.le_of_ble_eq_true rfl) (fun H1 ce q9 hz hk hc hv hcl => ?_)
  refine vx_catch (name := "java/lang/IndexOutOfBoundsException") hown [] ⟨0, 10, 13, 21⟩ [⟨0, 10, 17, 13⟩] ((vx_table (x := yL_move) B (htA _ wd_295)).trans rfl) (fun _ h => nomatch h) (by decide) (by decide) (htA _ wd_296) (va_Nw.use rfl (ex_cI hKK.2)) hc hv hcl ?_
  refine lv_astore (lv' := [(4, .ref (q9)), (0, .ref (q 0)), (1, .int (nI (j))), (2, .int (y9)), (3, .ref (qo))]) hx hb dL_move_13 hl (by decide) rfl (fun ls hl => ?_)
  refine n_iconst (k := 1) hx hb dL_move_15 (by decide) ?_
  exact W.iret hx hb hr (fun t ht _ => ⟨rfl, by rw [ht]; exact P_grow hP hk, ⟨by rw [ht]; exact hz, fun a ha _ => by rw [ht]; exact hk a ha⟩⟩) (fun _ h => nomatch h) dL_move_16 hlocks
set_option maxHeartbeats 4000000 in
set_option maxRecDepth 100000 in
theorem w_move_bad (l : Launch) (D : va_G) (cI cZ cL cD : ClassId) (sa : Nat → Nat) (q : Nat → Nat) (qo qd : Nat) (σ κ0 κ1 : ST) (g : Nat → Int64) (gd : Nat → UInt64) (A : Nat → Prop) (hD : va_D A (wL q qo qd cI cZ cL cD σ κ0 κ1 g gd)) (hst9 : l.stackTraces = false)  (j : Nat) (y9 : Int32) (hB : ∀ k i, σ k i < 1073741824) (hj : j < 60) (h40 : σ 4 j ≠ 0) (hbad : iw (y9) (nI (1)) (nI (63)) = false) : Met l yL_move (codeL yL_move cL_move 5 (some .int) [(0, 10, 13, 21), (0, 10, 17, 13)]) ({ frames := 8, cells := 1, slots := 6, locals := 125 } : Room) (LwP D cI cZ cL cD sa (wL q qo qd cI cZ cL cD σ κ0 κ1 g gd) [.ref (q 0), .int (nI (j)), .int (y9), .ref (qo)]) (WrQ (some (.int (nI 2))) D (wL q qo qd cI cZ cL cD σ κ0 κ1 g gd) A) 1 6 A := by
  refine va_MetW (cc := cL_move) (maxL := 5) (ret := (some .int)) (hh := [(0, 10, 13, 21), (0, 10, 17, 13)]) (by decide) rfl ?_
  intro p e s m args below meth c s₁ B hml hv
  obtain ⟨rfl, hP, hKK, hKL, hZ⟩ := hv
  have hx := B.exec
  have hb := B.bytes
  have hr := B.returns
  have htA : ∀ w ∈ WA, w.before _ s = true := fun w h => atoms_spec (ws := (codeL yL_move cL_move 5 (some .int) [(0, 10, 13, 21), (0, 10, 17, 13)])) B.pre w (List.mem_cons_of_mem _ h)
  have hown : s.vm.findClass RL = some m.cls := findClass_of_methodNamed B.named
  have hlocks := B.notSynchronized
  have hS : va_S A s.heap s.heap [] := va_S.rf
  have hl := lv_entry ([.ref (q 0), .int (nI (j)), .int (y9), .ref (qo)]) (n := 5) (Nat.le_of_ble_eq_true rfl)
  rw [lg_entry_eq]
  generalize (lg_sl ([.ref (q 0), .int (nI (j)), .int (y9), .ref (qo)]) ++ List.replicate (5 - (lg_sl ([.ref (q 0), .int (nI (j)), .int (y9), .ref (qo)])).length) Slot.unset).toArray = ls at hl ⊢
  have hl : lv_has ls 5 [(0, .ref (q 0)), (1, .int (nI (j))), (2, .int (y9)), (3, .ref (qo))] := hl
  have hPX : va_P D vwCl (wX q cI cZ σ κ0 κ1) s.heap := hP.sub [2, 3, 4, 5, 6, 7, 8, 9, 10, 11, 12, 13, 14, 15, 16, 17, 18, 19, 20, 21, 22, 23, 24, 25] rfl
  have hDX : va_D A (wX q cI cZ σ κ0 κ1) := hD.sub [2, 3, 4, 5, 6, 7, 8, 9, 10, 11, 12, 13, 14, 15, 16, 17, 18, 19, 20, 21, 22, 23, 24, 25] (by decide) rfl
  refine lv_aload_n hx hb dL_move_0 rfl (lv_at hl 3 rfl) ?_
  refine n_iconst (k := 0) hx hb dL_move_1 (by decide) ?_
  refine lv_aload_n hx hb dL_move_2 rfl (lv_at hl 0 rfl) ?_
  refine lv_iload_n hx hb dL_move_3 rfl (lv_at hl 1 rfl) ?_
  refine lv_iload_n hx hb dL_move_4 rfl (lv_at hl 2 rfl) ?_
  refine thV (As := [.int (nI (j)), .int (y9)]) (rest := [.int (nI (0)), .ref (qo)]) (n := 2) ⟨hx, hb, hml, hown, htA⟩ (f_move_bad l D cI cZ sa hst9 q σ κ0 κ1 j y9 s.heap hPX hB hj h40 hbad) (cwV 2 htA (gdV wd_297 wd_298 wd_299 wd_1 wd_300) rfl rfl rfl (by decide +kernel) ⟨Nat.le_of_ble_eq_true rfl, Nat.le_of_ble_eq_true rfl⟩) hKK hZ hPX 0 rfl rfl rfl hl.1 rfl (Nat.le_of_ble_eq_true rfl) dL_move_5 (Nat.le_of_ble_eq_true rfl) (Nat.le_of_ble_eq_true rfl) (fun H1 ce q9 hz hk hc hv hcl => ?_)
  refine vx_catch (name := "java/lang/IllegalArgumentException") hown [⟨0, 10, 13, 21⟩] ⟨0, 10, 17, 13⟩ [] ((vx_table (x := yL_move) B (htA _ wd_295)).trans rfl) (List.forall_mem_cons.mpr ⟨Or.inr ⟨by decide, "java/lang/IndexOutOfBoundsException", htA _ wd_296, ex_nAI hKK.2⟩, (fun _ h => nomatch h)⟩) (by decide) (by decide) (htA _ wd_164) (va_Nw.use rfl (ex_cA hKK.2)) hc hv hcl ?_
  refine lv_astore (lv' := [(4, .ref (q9)), (0, .ref (q 0)), (1, .int (nI (j))), (2, .int (y9)), (3, .ref (qo))]) hx hb dL_move_17 hl (by decide) rfl (fun ls hl => ?_)
  refine n_iconst (k := 2) hx hb dL_move_19 (by decide) ?_
  exact W.iret hx hb hr (fun t ht _ => ⟨rfl, by rw [ht]; exact P_grow hP hk, ⟨by rw [ht]; exact hz, fun a ha _ => by rw [ht]; exact hk a ha⟩⟩) (fun _ h => nomatch h) dL_move_20 hlocks
set_option maxHeartbeats 4000000 in
set_option maxRecDepth 100000 in
theorem w_move_s (l : Launch) (D : va_G) (cI cZ cL cD : ClassId) (sa : Nat → Nat) (q : Nat → Nat) (qo qd : Nat) (σ κ0 κ1 : ST) (g : Nat → Int64) (gd : Nat → UInt64) (A : Nat → Prop) (hD : va_D A (wL q qo qd cI cZ cL cD σ κ0 κ1 g gd))  (j b0 : Nat) (hB : ∀ k i, σ k i < 1073741824) (hj : j < 60) (h40 : σ 4 j ≠ 0) (hb1 : 1 ≤ b0) (hb2 : b0 ≤ 63) (he : σ 4 j = b0) : Met l yL_move (codeL yL_move cL_move 5 (some .int) [(0, 10, 13, 21), (0, 10, 17, 13)]) ({ frames := 8, cells := 1, slots := 6, locals := 125 } : Room) (LwP D cI cZ cL cD sa (wL q qo qd cI cZ cL cD σ κ0 κ1 g gd) [.ref (q 0), .int (nI (j)), .int (nI (b0)), .ref (qo)]) (WrQ (some (.int (nI 0))) D (wL q qo qd cI cZ cL cD σ κ0 κ1 (gu g ((nI (σ 4 j)).toInt64)) gd) A) 1 6 A := by
  refine va_MetW (cc := cL_move) (maxL := 5) (ret := (some .int)) (hh := [(0, 10, 13, 21), (0, 10, 17, 13)]) (by decide) rfl ?_
  intro p e s m args below meth c s₁ B hml hv
  obtain ⟨rfl, hP, hKK, hKL, hZ⟩ := hv
  have hx := B.exec
  have hb := B.bytes
  have hr := B.returns
  have htA : ∀ w ∈ WA, w.before _ s = true := fun w h => atoms_spec (ws := (codeL yL_move cL_move 5 (some .int) [(0, 10, 13, 21), (0, 10, 17, 13)])) B.pre w (List.mem_cons_of_mem _ h)
  have hown : s.vm.findClass RL = some m.cls := findClass_of_methodNamed B.named
  have hlocks := B.notSynchronized
  have hS : va_S A s.heap s.heap [] := va_S.rf
  have hl := lv_entry ([.ref (q 0), .int (nI (j)), .int (nI (b0)), .ref (qo)]) (n := 5) (Nat.le_of_ble_eq_true rfl)
  rw [lg_entry_eq]
  generalize (lg_sl ([.ref (q 0), .int (nI (j)), .int (nI (b0)), .ref (qo)]) ++ List.replicate (5 - (lg_sl ([.ref (q 0), .int (nI (j)), .int (nI (b0)), .ref (qo)])).length) Slot.unset).toArray = ls at hl ⊢
  have hl : lv_has ls 5 [(0, .ref (q 0)), (1, .int (nI (j))), (2, .int (nI (b0))), (3, .ref (qo))] := hl
  have hPX : va_P D vwCl (wX q cI cZ σ κ0 κ1) s.heap := hP.sub [2, 3, 4, 5, 6, 7, 8, 9, 10, 11, 12, 13, 14, 15, 16, 17, 18, 19, 20, 21, 22, 23, 24, 25] rfl
  have hDX : va_D A (wX q cI cZ σ κ0 κ1) := hD.sub [2, 3, 4, 5, 6, 7, 8, 9, 10, 11, 12, 13, 14, 15, 16, 17, 18, 19, 20, 21, 22, 23, 24, 25] (by decide) rfl
  refine lv_aload_n hx hb dL_move_0 rfl (lv_at hl 3 rfl) ?_
  refine n_iconst (k := 0) hx hb dL_move_1 (by decide) ?_
  refine lv_aload_n hx hb dL_move_2 rfl (lv_at hl 0 rfl) ?_
  refine lv_iload_n hx hb dL_move_3 rfl (lv_at hl 1 rfl) ?_
  refine lv_iload_n hx hb dL_move_4 rfl (lv_at hl 2 rfl) ?_
  refine roV1 (v := .int (nI (σ 4 j))) (As := [.int (nI (j)), .int (nI (b0))]) (rest := [.int (nI (0)), .ref (qo)]) (n := 2) ⟨hx, hb, hml, hown, htA⟩ (f_move_s l D cI cZ sa q σ κ0 κ1 j b0 s.heap hPX hB hj h40 hb1 hb2 he) (cwV 2 htA (gdV wd_297 wd_298 wd_299 wd_1 wd_300) rfl rfl rfl (by decide +kernel) ⟨Nat.le_of_ble_eq_true rfl, Nat.le_of_ble_eq_true rfl⟩) hKK hPX 0 rfl rfl rfl hl.1 rfl (Nat.le_of_ble_eq_true rfl) dL_move_5 (Nat.zero_le _) (Nat.zero_le _) ?_
  refine lv_i2l hx hb dL_move_8 rfl ?_
  refine va_last hx hb hKL hP (D_addr hD rfl) hS 0 0 rfl rfl (vp_in_nI (n := 0) (N := 1) (by decide) (by decide)) dL_move_9 (fun H locs hP _ hS => ?_)
  have hP : va_P D vwCl (wL q qo qd cI cZ cL cD σ κ0 κ1 (gu g ((nI (σ 4 j)).toInt64)) gd) H := hP
  refine lv_goto (tgt := 21) hx hb dL_move_10 (by decide) ?_
  refine n_iconst (k := 0) hx hb dL_move_21 (by decide) ?_
  refine W.widen (k := 1) (n := 6) (by decide) (by decide) ?_
  exact W.iret hx hb hr (fun t ht _ => ⟨rfl, by rw [ht]; exact hP, hS.F ht⟩) hS.2.2 dL_move_22 hlocks
set_option maxHeartbeats 4000000 in
set_option maxRecDepth 100000 in
theorem w_move_d (l : Launch) (D : va_G) (cI cZ cL cD : ClassId) (sa : Nat → Nat) (q : Nat → Nat) (qo qd : Nat) (σ κ0 κ1 : ST) (g : Nat → Int64) (gd : Nat → UInt64) (A : Nat → Prop) (hD : va_D A (wL q qo qd cI cZ cL cD σ κ0 κ1 g gd))  (j b0 : Nat) (hB : ∀ k i, σ k i < 1073741824) (hj : j < 60) (h40 : σ 4 j ≠ 0) (hb1 : 1 ≤ b0) (hb2 : b0 ≤ 63) (he : ¬ σ 4 j = b0) : Met l yL_move (codeL yL_move cL_move 5 (some .int) [(0, 10, 13, 21), (0, 10, 17, 13)]) ({ frames := 8, cells := 1, slots := 6, locals := 125 } : Room) (LwP D cI cZ cL cD sa (wL q qo qd cI cZ cL cD σ κ0 κ1 g gd) [.ref (q 0), .int (nI (j)), .int (nI (b0)), .ref (qo)]) (WrQ (some (.int (nI 0))) D (wL q qo qd cI cZ cL cD (chg σ j b0 (σ 5 j)) κ0 κ1 (gu g ((nI (σ 4 j)).toInt64)) gd) A) 1 6 A := by
  refine va_MetW (cc := cL_move) (maxL := 5) (ret := (some .int)) (hh := [(0, 10, 13, 21), (0, 10, 17, 13)]) (by decide) rfl ?_
  intro p e s m args below meth c s₁ B hml hv
  obtain ⟨rfl, hP, hKK, hKL, hZ⟩ := hv
  have hx := B.exec
  have hb := B.bytes
  have hr := B.returns
  have htA : ∀ w ∈ WA, w.before _ s = true := fun w h => atoms_spec (ws := (codeL yL_move cL_move 5 (some .int) [(0, 10, 13, 21), (0, 10, 17, 13)])) B.pre w (List.mem_cons_of_mem _ h)
  have hown : s.vm.findClass RL = some m.cls := findClass_of_methodNamed B.named
  have hlocks := B.notSynchronized
  have hS : va_S A s.heap s.heap [] := va_S.rf
  have hl := lv_entry ([.ref (q 0), .int (nI (j)), .int (nI (b0)), .ref (qo)]) (n := 5) (Nat.le_of_ble_eq_true rfl)
  rw [lg_entry_eq]
  generalize (lg_sl ([.ref (q 0), .int (nI (j)), .int (nI (b0)), .ref (qo)]) ++ List.replicate (5 - (lg_sl ([.ref (q 0), .int (nI (j)), .int (nI (b0)), .ref (qo)])).length) Slot.unset).toArray = ls at hl ⊢
  have hl : lv_has ls 5 [(0, .ref (q 0)), (1, .int (nI (j))), (2, .int (nI (b0))), (3, .ref (qo))] := hl
  have hPX : va_P D vwCl (wX q cI cZ σ κ0 κ1) s.heap := hP.sub [2, 3, 4, 5, 6, 7, 8, 9, 10, 11, 12, 13, 14, 15, 16, 17, 18, 19, 20, 21, 22, 23, 24, 25] rfl
  have hDX : va_D A (wX q cI cZ σ κ0 κ1) := hD.sub [2, 3, 4, 5, 6, 7, 8, 9, 10, 11, 12, 13, 14, 15, 16, 17, 18, 19, 20, 21, 22, 23, 24, 25] (by decide) rfl
  refine lv_aload_n hx hb dL_move_0 rfl (lv_at hl 3 rfl) ?_
  refine n_iconst (k := 0) hx hb dL_move_1 (by decide) ?_
  refine lv_aload_n hx hb dL_move_2 rfl (lv_at hl 0 rfl) ?_
  refine lv_iload_n hx hb dL_move_3 rfl (lv_at hl 1 rfl) ?_
  refine lv_iload_n hx hb dL_move_4 rfl (lv_at hl 2 rfl) ?_
  refine wrV1 (v := .int (nI (σ 4 j))) (As := [.int (nI (j)), .int (nI (b0))]) (rest := [.int (nI (0)), .ref (qo)]) (n := 2) ⟨hx, hb, hml, hown, htA⟩ (f_move_d l D cI cZ sa q σ κ0 κ1 j b0 (adr (wX q cI cZ σ κ0 κ1)) (D_adr hDX) hB hj h40 hb1 hb2 he) (cwV 2 htA (gdV wd_297 wd_298 wd_299 wd_1 wd_300) rfl rfl rfl (by decide +kernel) ⟨Nat.le_of_ble_eq_true rfl, Nat.le_of_ble_eq_true rfl⟩) hKK hPX 0 rfl rfl rfl hl.1 rfl (Nat.le_of_ble_eq_true rfl) dL_move_5 (Nat.zero_le _) (Nat.zero_le _) hS (fun a h => adr_in hDX a h) (fun H1 locs hP1 hz1 hk1 hS => ?_)
  have hP : va_P D vwCl (wL q qo qd cI cZ cL cD (chg σ j b0 (σ 5 j)) κ0 κ1 g gd) H1 := L_put hD hP hk1 hP1
  refine lv_i2l hx hb dL_move_8 rfl ?_
  refine va_last hx hb hKL hP (D_addr hD rfl) hS 0 0 rfl rfl (vp_in_nI (n := 0) (N := 1) (by decide) (by decide)) dL_move_9 (fun H locs hP _ hS => ?_)
  have hP : va_P D vwCl (wL q qo qd cI cZ cL cD (chg σ j b0 (σ 5 j)) κ0 κ1 (gu g ((nI (σ 4 j)).toInt64)) gd) H := hP
  refine lv_goto (tgt := 21) hx hb dL_move_10 (by decide) ?_
  refine n_iconst (k := 0) hx hb dL_move_21 (by decide) ?_
  refine W.widen (k := 1) (n := 6) (by decide) (by decide) ?_
  exact W.iret hx hb hr (fun t ht _ => ⟨rfl, by rw [ht]; exact hP, hS.F ht⟩) hS.2.2 dL_move_22 hlocks
set_option maxHeartbeats 4000000 in
set_option maxRecDepth 100000 in
theorem w_flag_nr (l : Launch) (D : va_G) (cI cZ cL cD : ClassId) (sa : Nat → Nat) (q : Nat → Nat) (qo qd : Nat) (σ κ0 κ1 : ST) (g : Nat → Int64) (gd : Nat → UInt64) (A : Nat → Prop) (hD : va_D A (wL q qo qd cI cZ cL cD σ κ0 κ1 g gd)) (hst9 : l.stackTraces = false)  (x : Int32) (y9 : Int32) (w0 : Nat) (hB : ∀ k i, σ k i < 1073741824) (hx9 : iw (x) (nI (0)) (nI (59)) = false) : Met l yL_flag (codeL yL_flag cL_flag 6 (some .int) [(0, 19, 22, 21), (0, 19, 26, 13)]) ({ frames := 8, cells := 1, slots := 6, locals := 136 } : Room) (LwP D cI cZ cL cD sa (wL q qo qd cI cZ cL cD σ κ0 κ1 g gd) [.ref (q 0), .int (x), .int (y9), .int (nI (w0)), .ref (qo)]) (WrQ (some (.int (nI 1))) D (wL q qo qd cI cZ cL cD σ κ0 κ1 g gd) A) 1 6 A := by
  refine va_MetW (cc := cL_flag) (maxL := 6) (ret := (some .int)) (hh := [(0, 19, 22, 21), (0, 19, 26, 13)]) (by decide) rfl ?_
  intro p e s m args below meth c s₁ B hml hv
  obtain ⟨rfl, hP, hKK, hKL, hZ⟩ := hv
  have hx := B.exec
  have hb := B.bytes
  have hr := B.returns
  have htA : ∀ w ∈ WA, w.before _ s = true := fun w h => atoms_spec (ws := (codeL yL_flag cL_flag 6 (some .int) [(0, 19, 22, 21), (0, 19, 26, 13)])) B.pre w (List.mem_cons_of_mem _ h)
  have hown : s.vm.findClass RL = some m.cls := findClass_of_methodNamed B.named
  have hlocks := B.notSynchronized
  have hS : va_S A s.heap s.heap [] := va_S.rf
  have hl := lv_entry ([.ref (q 0), .int (x), .int (y9), .int (nI (w0)), .ref (qo)]) (n := 6) (Nat.le_of_ble_eq_true rfl)
  rw [lg_entry_eq]
  generalize (lg_sl ([.ref (q 0), .int (x), .int (y9), .int (nI (w0)), .ref (qo)]) ++ List.replicate (6 - (lg_sl ([.ref (q 0), .int (x), .int (y9), .int (nI (w0)), .ref (qo)])).length) Slot.unset).toArray = ls at hl ⊢
  have hl : lv_has ls 6 [(0, .ref (q 0)), (1, .int (x)), (2, .int (y9)), (3, .int (nI (w0))), (4, .ref (qo))] := hl
  have hPX : va_P D vwCl (wX q cI cZ σ κ0 κ1) s.heap := hP.sub [2, 3, 4, 5, 6, 7, 8, 9, 10, 11, 12, 13, 14, 15, 16, 17, 18, 19, 20, 21, 22, 23, 24, 25] rfl
  have hDX : va_D A (wX q cI cZ σ κ0 κ1) := hD.sub [2, 3, 4, 5, 6, 7, 8, 9, 10, 11, 12, 13, 14, 15, 16, 17, 18, 19, 20, 21, 22, 23, 24, 25] (by decide) rfl
  refine lv_aload hx hb dL_flag_0 (lv_at hl 4 rfl) ?_
  refine n_iconst (k := 0) hx hb dL_flag_2 (by decide) ?_
  refine lv_aload_n hx hb dL_flag_3 rfl (lv_at hl 0 rfl) ?_
  refine lv_iload_n hx hb dL_flag_4 rfl (lv_at hl 1 rfl) ?_
  refine lv_iload_n hx hb dL_flag_5 rfl (lv_at hl 2 rfl) ?_
  refine lv_iload_n hx hb dL_flag_6 rfl (lv_at hl 3 rfl) ?_
  refine thV (As := [.int (x), .int (y9), .int (nI (w0))]) (rest := [.int (nI (0)), .ref (qo)]) (n := 3) ⟨hx, hb, hml, hown, htA⟩ (f_flag_nr l D cI cZ sa hst9 q σ κ0 κ1 x y9 w0 s.heap hPX hB hx9) (cwV 3 htA (gdV wd_338 wd_339 wd_340 wd_1 wd_341) rfl rfl rfl (by decide +kernel) ⟨Nat.le_of_ble_eq_true rfl, Nat.le_of_ble_eq_true rfl⟩) hKK hZ hPX 0 rfl rfl rfl hl.1 rfl (Nat.le_of_ble_eq_true rfl) dL_flag_7 (Nat.le_of_ble_eq_true rfl) (Nat.le_of_ble_eq_true rfl) (fun H1 ce q9 hz hk hc hv hcl => ?_)
  refine vx_catch (name := "java/lang/IndexOutOfBoundsException") hown [] ⟨0, 19, 22, 21⟩ [⟨0, 19, 26, 13⟩] ((vx_table (x := yL_flag) B (htA _ wd_337)).trans rfl) (fun _ h => nomatch h) (by decide) (by decide) (htA _ wd_296) (va_Nw.use rfl (ex_cI hKK.2)) hc hv hcl ?_
  refine lv_astore (lv' := [(5, .ref (q9)), (0, .ref (q 0)), (1, .int (x)), (2, .int (y9)), (3, .int (nI (w0))), (4, .ref (qo))]) hx hb dL_flag_22 hl (by decide) rfl (fun ls hl => ?_)
  refine n_iconst (k := 1) hx hb dL_flag_24 (by decide) ?_
  exact W.iret hx hb hr (fun t ht _ => ⟨rfl, by rw [ht]; exact P_grow hP hk, ⟨by rw [ht]; exact hz, fun a ha _ => by rw [ht]; exact hk a ha⟩⟩) (fun _ h => nomatch h) dL_flag_25 hlocks
set_option maxHeartbeats 4000000 in
set_option maxRecDepth 100000 in
theorem w_flag_nz (l : Launch) (D : va_G) (cI cZ cL cD : ClassId) (sa : Nat → Nat) (q : Nat → Nat) (qo qd : Nat) (σ κ0 κ1 : ST) (g : Nat → Int64) (gd : Nat → UInt64) (A : Nat → Prop) (hD : va_D A (wL q qo qd cI cZ cL cD σ κ0 κ1 g gd)) (hst9 : l.stackTraces = false)  (j : Nat) (y9 : Int32) (w0 : Nat) (hB : ∀ k i, σ k i < 1073741824) (hj : j < 60) (h40 : σ 4 j = 0) : Met l yL_flag (codeL yL_flag cL_flag 6 (some .int) [(0, 19, 22, 21), (0, 19, 26, 13)]) ({ frames := 8, cells := 1, slots := 6, locals := 136 } : Room) (LwP D cI cZ cL cD sa (wL q qo qd cI cZ cL cD σ κ0 κ1 g gd) [.ref (q 0), .int (nI (j)), .int (y9), .int (nI (w0)), .ref (qo)]) (WrQ (some (.int (nI 1))) D (wL q qo qd cI cZ cL cD σ κ0 κ1 g gd) A) 1 6 A := by
  refine va_MetW (cc := cL_flag) (maxL := 6) (ret := (some .int)) (hh := [(0, 19, 22, 21), (0, 19, 26, 13)]) (by decide) rfl ?_
  intro p e s m args below meth c s₁ B hml hv
  obtain ⟨rfl, hP, hKK, hKL, hZ⟩ := hv
  have hx := B.exec
  have hb := B.bytes
  have hr := B.returns
  have htA : ∀ w ∈ WA, w.before _ s = true := fun w h => atoms_spec (ws := (codeL yL_flag cL_flag 6 (some .int) [(0, 19, 22, 21), (0, 19, 26, 13)])) B.pre w (List.mem_cons_of_mem _ h)
  have hown : s.vm.findClass RL = some m.cls := findClass_of_methodNamed B.named
  have hlocks := B.notSynchronized
  have hS : va_S A s.heap s.heap [] := va_S.rf
  have hl := lv_entry ([.ref (q 0), .int (nI (j)), .int (y9), .int (nI (w0)), .ref (qo)]) (n := 6) (Nat.le_of_ble_eq_true rfl)
  rw [lg_entry_eq]
  generalize (lg_sl ([.ref (q 0), .int (nI (j)), .int (y9), .int (nI (w0)), .ref (qo)]) ++ List.replicate (6 - (lg_sl ([.ref (q 0), .int (nI (j)), .int (y9), .int (nI (w0)), .ref (qo)])).length) Slot.unset).toArray = ls at hl ⊢
  have hl : lv_has ls 6 [(0, .ref (q 0)), (1, .int (nI (j))), (2, .int (y9)), (3, .int (nI (w0))), (4, .ref (qo))] := hl
  have hPX : va_P D vwCl (wX q cI cZ σ κ0 κ1) s.heap := hP.sub [2, 3, 4, 5, 6, 7, 8, 9, 10, 11, 12, 13, 14, 15, 16, 17, 18, 19, 20, 21, 22, 23, 24, 25] rfl
  have hDX : va_D A (wX q cI cZ σ κ0 κ1) := hD.sub [2, 3, 4, 5, 6, 7, 8, 9, 10, 11, 12, 13, 14, 15, 16, 17, 18, 19, 20, 21, 22, 23, 24, 25] (by decide) rfl
  refine lv_aload hx hb dL_flag_0 (lv_at hl 4 rfl) ?_
  refine n_iconst (k := 0) hx hb dL_flag_2 (by decide) ?_
  refine lv_aload_n hx hb dL_flag_3 rfl (lv_at hl 0 rfl) ?_
  refine lv_iload_n hx hb dL_flag_4 rfl (lv_at hl 1 rfl) ?_
  refine lv_iload_n hx hb dL_flag_5 rfl (lv_at hl 2 rfl) ?_
  refine lv_iload_n hx hb dL_flag_6 rfl (lv_at hl 3 rfl) ?_
  refine thV (As := [.int (nI (j)), .int (y9), .int (nI (w0))]) (rest := [.int (nI (0)), .ref (qo)]) (n := 3) ⟨hx, hb, hml, hown, htA⟩ (f_flag_nz l D cI cZ sa hst9 q σ κ0 κ1 j y9 w0 s.heap hPX hB hj h40) (cwV 3 htA (gdV wd_338 wd_339 wd_340 wd_1 wd_341) rfl rfl rfl (by decide +kernel) ⟨Nat.le_of_ble_eq_true rfl, Nat.le_of_ble_eq_true rfl⟩) hKK hZ hPX 0 rfl rfl rfl hl.1 rfl (Nat.le_of_ble_eq_true rfl) dL_flag_7 (Nat.le_of_ble_eq_true rfl) (Nat.le_of_ble_eq_true rfl) (fun H1 ce q9 hz hk hc hv hcl => ?_)
  refine vx_catch (name := "java/lang/IndexOutOfBoundsException") hown [] ⟨0, 19, 22, 21⟩ [⟨0, 19, 26, 13⟩] ((vx_table (x := yL_flag) B (htA _ wd_337)).trans rfl) (fun _ h => nomatch h) (by decide) (by decide) (htA _ wd_296) (va_Nw.use rfl (ex_cI hKK.2)) hc hv hcl ?_
  refine lv_astore (lv' := [(5, .ref (q9)), (0, .ref (q 0)), (1, .int (nI (j))), (2, .int (y9)), (3, .int (nI (w0))), (4, .ref (qo))]) hx hb dL_flag_22 hl (by decide) rfl (fun ls hl => ?_)
  refine n_iconst (k := 1) hx hb dL_flag_24 (by decide) ?_
  exact W.iret hx hb hr (fun t ht _ => ⟨rfl, by rw [ht]; exact P_grow hP hk, ⟨by rw [ht]; exact hz, fun a ha _ => by rw [ht]; exact hk a ha⟩⟩) (fun _ h => nomatch h) dL_flag_25 hlocks
set_option maxHeartbeats 4000000 in
set_option maxRecDepth 100000 in
theorem w_flag_bad (l : Launch) (D : va_G) (cI cZ cL cD : ClassId) (sa : Nat → Nat) (q : Nat → Nat) (qo qd : Nat) (σ κ0 κ1 : ST) (g : Nat → Int64) (gd : Nat → UInt64) (A : Nat → Prop) (hD : va_D A (wL q qo qd cI cZ cL cD σ κ0 κ1 g gd)) (hst9 : l.stackTraces = false)  (j : Nat) (y9 : Int32) (w0 : Nat) (hB : ∀ k i, σ k i < 1073741824) (hj : j < 60) (h40 : σ 4 j ≠ 0) (hbad : iw (y9) (nI (0)) (nI (3)) = false) : Met l yL_flag (codeL yL_flag cL_flag 6 (some .int) [(0, 19, 22, 21), (0, 19, 26, 13)]) ({ frames := 8, cells := 1, slots := 6, locals := 136 } : Room) (LwP D cI cZ cL cD sa (wL q qo qd cI cZ cL cD σ κ0 κ1 g gd) [.ref (q 0), .int (nI (j)), .int (y9), .int (nI (w0)), .ref (qo)]) (WrQ (some (.int (nI 2))) D (wL q qo qd cI cZ cL cD σ κ0 κ1 g gd) A) 1 6 A := by
  refine va_MetW (cc := cL_flag) (maxL := 6) (ret := (some .int)) (hh := [(0, 19, 22, 21), (0, 19, 26, 13)]) (by decide) rfl ?_
  intro p e s m args below meth c s₁ B hml hv
  obtain ⟨rfl, hP, hKK, hKL, hZ⟩ := hv
  have hx := B.exec
  have hb := B.bytes
  have hr := B.returns
  have htA : ∀ w ∈ WA, w.before _ s = true := fun w h => atoms_spec (ws := (codeL yL_flag cL_flag 6 (some .int) [(0, 19, 22, 21), (0, 19, 26, 13)])) B.pre w (List.mem_cons_of_mem _ h)
  have hown : s.vm.findClass RL = some m.cls := findClass_of_methodNamed B.named
  have hlocks := B.notSynchronized
  have hS : va_S A s.heap s.heap [] := va_S.rf
  have hl := lv_entry ([.ref (q 0), .int (nI (j)), .int (y9), .int (nI (w0)), .ref (qo)]) (n := 6) (Nat.le_of_ble_eq_true rfl)
  rw [lg_entry_eq]
  generalize (lg_sl ([.ref (q 0), .int (nI (j)), .int (y9), .int (nI (w0)), .ref (qo)]) ++ List.replicate (6 - (lg_sl ([.ref (q 0), .int (nI (j)), .int (y9), .int (nI (w0)), .ref (qo)])).length) Slot.unset).toArray = ls at hl ⊢
  have hl : lv_has ls 6 [(0, .ref (q 0)), (1, .int (nI (j))), (2, .int (y9)), (3, .int (nI (w0))), (4, .ref (qo))] := hl
  have hPX : va_P D vwCl (wX q cI cZ σ κ0 κ1) s.heap := hP.sub [2, 3, 4, 5, 6, 7, 8, 9, 10, 11, 12, 13, 14, 15, 16, 17, 18, 19, 20, 21, 22, 23, 24, 25] rfl
  have hDX : va_D A (wX q cI cZ σ κ0 κ1) := hD.sub [2, 3, 4, 5, 6, 7, 8, 9, 10, 11, 12, 13, 14, 15, 16, 17, 18, 19, 20, 21, 22, 23, 24, 25] (by decide) rfl
  refine lv_aload hx hb dL_flag_0 (lv_at hl 4 rfl) ?_
  refine n_iconst (k := 0) hx hb dL_flag_2 (by decide) ?_
  refine lv_aload_n hx hb dL_flag_3 rfl (lv_at hl 0 rfl) ?_
  refine lv_iload_n hx hb dL_flag_4 rfl (lv_at hl 1 rfl) ?_
  refine lv_iload_n hx hb dL_flag_5 rfl (lv_at hl 2 rfl) ?_
  refine lv_iload_n hx hb dL_flag_6 rfl (lv_at hl 3 rfl) ?_
  refine thV (As := [.int (nI (j)), .int (y9), .int (nI (w0))]) (rest := [.int (nI (0)), .ref (qo)]) (n := 3) ⟨hx, hb, hml, hown, htA⟩ (f_flag_bad l D cI cZ sa hst9 q σ κ0 κ1 j y9 w0 s.heap hPX hB hj h40 hbad) (cwV 3 htA (gdV wd_338 wd_339 wd_340 wd_1 wd_341) rfl rfl rfl (by decide +kernel) ⟨Nat.le_of_ble_eq_true rfl, Nat.le_of_ble_eq_true rfl⟩) hKK hZ hPX 0 rfl rfl rfl hl.1 rfl (Nat.le_of_ble_eq_true rfl) dL_flag_7 (Nat.le_of_ble_eq_true rfl) (Nat.le_of_ble_eq_true rfl) (fun H1 ce q9 hz hk hc hv hcl => ?_)
  refine vx_catch (name := "java/lang/IllegalArgumentException") hown [⟨0, 19, 22, 21⟩] ⟨0, 19, 26, 13⟩ [] ((vx_table (x := yL_flag) B (htA _ wd_337)).trans rfl) (List.forall_mem_cons.mpr ⟨Or.inr ⟨by decide, "java/lang/IndexOutOfBoundsException", htA _ wd_296, ex_nAI hKK.2⟩, (fun _ h => nomatch h)⟩) (by decide) (by decide) (htA _ wd_164) (va_Nw.use rfl (ex_cA hKK.2)) hc hv hcl ?_
  refine lv_astore (lv' := [(5, .ref (q9)), (0, .ref (q 0)), (1, .int (nI (j))), (2, .int (y9)), (3, .int (nI (w0))), (4, .ref (qo))]) hx hb dL_flag_26 hl (by decide) rfl (fun ls hl => ?_)
  refine n_iconst (k := 2) hx hb dL_flag_28 (by decide) ?_
  exact W.iret hx hb hr (fun t ht _ => ⟨rfl, by rw [ht]; exact P_grow hP hk, ⟨by rw [ht]; exact hz, fun a ha _ => by rw [ht]; exact hk a ha⟩⟩) (fun _ h => nomatch h) dL_flag_29 hlocks
set_option maxHeartbeats 4000000 in
set_option maxRecDepth 100000 in
theorem w_flag_ok (l : Launch) (D : va_G) (cI cZ cL cD : ClassId) (sa : Nat → Nat) (q : Nat → Nat) (qo qd : Nat) (σ κ0 κ1 : ST) (g : Nat → Int64) (gd : Nat → UInt64) (A : Nat → Prop) (hD : va_D A (wL q qo qd cI cZ cL cD σ κ0 κ1 g gd))  (j k9 w0 : Nat) (hB : ∀ k i, σ k i < 1073741824) (hj : j < 60) (h40 : σ 4 j ≠ 0) (h15 : ∀ i, σ 5 i < 16) (hk9 : k9 < 4) (hw9 : w0 < 2) : Met l yL_flag (codeL yL_flag cL_flag 6 (some .int) [(0, 19, 22, 21), (0, 19, 26, 13)]) ({ frames := 8, cells := 1, slots := 6, locals := 136 } : Room) (LwP D cI cZ cL cD sa (wL q qo qd cI cZ cL cD σ κ0 κ1 g gd) [.ref (q 0), .int (nI (j)), .int (nI (k9)), .int (nI (w0)), .ref (qo)]) (WrQ (some (.int (nI 0))) D (wL q qo qd cI cZ cL cD (sk σ j k9 w0) κ0 κ1 (gu g (bl (!(decide (σ 5 j = wn (σ 5 j) k9 (nb w0)))))) gd) A) 1 6 A := by
  refine va_MetW (cc := cL_flag) (maxL := 6) (ret := (some .int)) (hh := [(0, 19, 22, 21), (0, 19, 26, 13)]) (by decide) rfl ?_
  intro p e s m args below meth c s₁ B hml hv
  obtain ⟨rfl, hP, hKK, hKL, hZ⟩ := hv
  have hx := B.exec
  have hb := B.bytes
  have hr := B.returns
  have htA : ∀ w ∈ WA, w.before _ s = true := fun w h => atoms_spec (ws := (codeL yL_flag cL_flag 6 (some .int) [(0, 19, 22, 21), (0, 19, 26, 13)])) B.pre w (List.mem_cons_of_mem _ h)
  have hown : s.vm.findClass RL = some m.cls := findClass_of_methodNamed B.named
  have hlocks := B.notSynchronized
  have hS : va_S A s.heap s.heap [] := va_S.rf
  have hl := lv_entry ([.ref (q 0), .int (nI (j)), .int (nI (k9)), .int (nI (w0)), .ref (qo)]) (n := 6) (Nat.le_of_ble_eq_true rfl)
  rw [lg_entry_eq]
  generalize (lg_sl ([.ref (q 0), .int (nI (j)), .int (nI (k9)), .int (nI (w0)), .ref (qo)]) ++ List.replicate (6 - (lg_sl ([.ref (q 0), .int (nI (j)), .int (nI (k9)), .int (nI (w0)), .ref (qo)])).length) Slot.unset).toArray = ls at hl ⊢
  have hl : lv_has ls 6 [(0, .ref (q 0)), (1, .int (nI (j))), (2, .int (nI (k9))), (3, .int (nI (w0))), (4, .ref (qo))] := hl
  have hPX : va_P D vwCl (wX q cI cZ σ κ0 κ1) s.heap := hP.sub [2, 3, 4, 5, 6, 7, 8, 9, 10, 11, 12, 13, 14, 15, 16, 17, 18, 19, 20, 21, 22, 23, 24, 25] rfl
  have hDX : va_D A (wX q cI cZ σ κ0 κ1) := hD.sub [2, 3, 4, 5, 6, 7, 8, 9, 10, 11, 12, 13, 14, 15, 16, 17, 18, 19, 20, 21, 22, 23, 24, 25] (by decide) rfl
  refine lv_aload hx hb dL_flag_0 (lv_at hl 4 rfl) ?_
  refine n_iconst (k := 0) hx hb dL_flag_2 (by decide) ?_
  refine lv_aload_n hx hb dL_flag_3 rfl (lv_at hl 0 rfl) ?_
  refine lv_iload_n hx hb dL_flag_4 rfl (lv_at hl 1 rfl) ?_
  refine lv_iload_n hx hb dL_flag_5 rfl (lv_at hl 2 rfl) ?_
  refine lv_iload_n hx hb dL_flag_6 rfl (lv_at hl 3 rfl) ?_
  refine wrV1 (v := .int (b2i (!(decide (σ 5 j = wn (σ 5 j) k9 (nb w0)))))) (As := [.int (nI (j)), .int (nI (k9)), .int (nI (w0))]) (rest := [.int (nI (0)), .ref (qo)]) (n := 3) ⟨hx, hb, hml, hown, htA⟩ (f_flag_ok l D cI cZ sa q σ κ0 κ1 j k9 w0 (adr (wX q cI cZ σ κ0 κ1)) (D_adr hDX) hB hj h40 h15 hk9 hw9) (cwV 3 htA (gdV wd_338 wd_339 wd_340 wd_1 wd_341) rfl rfl rfl (by decide +kernel) ⟨Nat.le_of_ble_eq_true rfl, Nat.le_of_ble_eq_true rfl⟩) hKK hPX 0 rfl rfl rfl hl.1 rfl (Nat.le_of_ble_eq_true rfl) dL_flag_7 (Nat.zero_le _) (Nat.zero_le _) hS (fun a h => adr_in hDX a h) (fun H1 locs hP1 hz1 hk1 hS => ?_)
  have hP : va_P D vwCl (wL q qo qd cI cZ cL cD (sk σ j k9 w0) κ0 κ1 g gd) H1 := L_put hD hP hk1 hP1
  refine b_ifeq (b := !(decide (σ 5 j = wn (σ 5 j) k9 (nb w0)))) (tgt := 17) hx hb dL_flag_10 (by decide) (fun c9 => ?_) (fun c9 => ?_)
  · refine lv_lconst (v := 0) hx hb dL_flag_17 (by decide) ?_
    rw [show (0 : Int64) = bl (!(decide (σ 5 j = wn (σ 5 j) k9 (nb w0)))) from by rw [c9]; rfl]
    refine va_last hx hb hKL hP (D_addr hD rfl) hS 0 0 rfl rfl (vp_in_nI (n := 0) (N := 1) (by decide) (by decide)) dL_flag_18 (fun H locs hP _ hS => ?_)
    have hP : va_P D vwCl (wL q qo qd cI cZ cL cD (sk σ j k9 w0) κ0 κ1 (gu g (bl (!(decide (σ 5 j = wn (σ 5 j) k9 (nb w0)))))) gd) H := hP
    refine lv_goto (tgt := 30) hx hb dL_flag_19 (by decide) ?_
    refine n_iconst (k := 0) hx hb dL_flag_30 (by decide) ?_
    refine W.widen (k := 1) (n := 6) (by decide) (by decide) ?_
    exact W.iret hx hb hr (fun t ht _ => ⟨rfl, by rw [ht]; exact hP, hS.F ht⟩) hS.2.2 dL_flag_31 hlocks
  · refine lv_lconst (v := 1) hx hb dL_flag_13 (by decide) ?_
    rw [show (1 : Int64) = bl (!(decide (σ 5 j = wn (σ 5 j) k9 (nb w0)))) from by rw [c9]; rfl]
    refine lv_goto (tgt := 18) hx hb dL_flag_14 (by decide) ?_
    refine va_last hx hb hKL hP (D_addr hD rfl) hS 0 0 rfl rfl (vp_in_nI (n := 0) (N := 1) (by decide) (by decide)) dL_flag_18 (fun H locs hP _ hS => ?_)
    have hP : va_P D vwCl (wL q qo qd cI cZ cL cD (sk σ j k9 w0) κ0 κ1 (gu g (bl (!(decide (σ 5 j = wn (σ 5 j) k9 (nb w0)))))) gd) H := hP
    refine lv_goto (tgt := 30) hx hb dL_flag_19 (by decide) ?_
    refine n_iconst (k := 0) hx hb dL_flag_30 (by decide) ?_
    refine W.widen (k := 1) (n := 6) (by decide) (by decide) ?_
    exact W.iret hx hb hr (fun t ht _ => ⟨rfl, by rw [ht]; exact hP, hS.F ht⟩) hS.2.2 dL_flag_31 hlocks
set_option maxHeartbeats 4000000 in
set_option maxRecDepth 100000 in
theorem w_flagIf_nr (l : Launch) (D : va_G) (cI cZ cL cD : ClassId) (sa : Nat → Nat) (q : Nat → Nat) (qo qd : Nat) (σ κ0 κ1 : ST) (g : Nat → Int64) (gd : Nat → UInt64) (A : Nat → Prop) (hD : va_D A (wL q qo qd cI cZ cL cD σ κ0 κ1 g gd)) (hst9 : l.stackTraces = false)  (x : Int32) (y9 : Int32) (w0 : Nat) (z : Int32) (hB : ∀ k i, σ k i < 1073741824) (hx9 : iw (x) (nI (0)) (nI (59)) = false) : Met l yL_flagIf (codeL yL_flagIf cL_flagIf 7 (some .int) [(0, 21, 24, 21), (0, 21, 28, 13), (0, 21, 32, 15)]) ({ frames := 8, cells := 1, slots := 6, locals := 137 } : Room) (LwP D cI cZ cL cD sa (wL q qo qd cI cZ cL cD σ κ0 κ1 g gd) [.ref (q 0), .int (x), .int (y9), .int (nI (w0)), .int (z), .ref (qo)]) (WrQ (some (.int (nI 1))) D (wL q qo qd cI cZ cL cD σ κ0 κ1 g gd) A) 1 6 A := by
  refine va_MetW (cc := cL_flagIf) (maxL := 7) (ret := (some .int)) (hh := [(0, 21, 24, 21), (0, 21, 28, 13), (0, 21, 32, 15)]) (by decide) rfl ?_
  intro p e s m args below meth c s₁ B hml hv
  obtain ⟨rfl, hP, hKK, hKL, hZ⟩ := hv
  have hx := B.exec
  have hb := B.bytes
  have hr := B.returns
  have htA : ∀ w ∈ WA, w.before _ s = true := fun w h => atoms_spec (ws := (codeL yL_flagIf cL_flagIf 7 (some .int) [(0, 21, 24, 21), (0, 21, 28, 13), (0, 21, 32, 15)])) B.pre w (List.mem_cons_of_mem _ h)
  have hown : s.vm.findClass RL = some m.cls := findClass_of_methodNamed B.named
  have hlocks := B.notSynchronized
  have hS : va_S A s.heap s.heap [] := va_S.rf
  have hl := lv_entry ([.ref (q 0), .int (x), .int (y9), .int (nI (w0)), .int (z), .ref (qo)]) (n := 7) (Nat.le_of_ble_eq_true rfl)
  rw [lg_entry_eq]
  generalize (lg_sl ([.ref (q 0), .int (x), .int (y9), .int (nI (w0)), .int (z), .ref (qo)]) ++ List.replicate (7 - (lg_sl ([.ref (q 0), .int (x), .int (y9), .int (nI (w0)), .int (z), .ref (qo)])).length) Slot.unset).toArray = ls at hl ⊢
  have hl : lv_has ls 7 [(0, .ref (q 0)), (1, .int (x)), (2, .int (y9)), (3, .int (nI (w0))), (4, .int (z)), (5, .ref (qo))] := hl
  have hPX : va_P D vwCl (wX q cI cZ σ κ0 κ1) s.heap := hP.sub [2, 3, 4, 5, 6, 7, 8, 9, 10, 11, 12, 13, 14, 15, 16, 17, 18, 19, 20, 21, 22, 23, 24, 25] rfl
  have hDX : va_D A (wX q cI cZ σ κ0 κ1) := hD.sub [2, 3, 4, 5, 6, 7, 8, 9, 10, 11, 12, 13, 14, 15, 16, 17, 18, 19, 20, 21, 22, 23, 24, 25] (by decide) rfl
  refine lv_aload hx hb dL_flagIf_0 (lv_at hl 5 rfl) ?_
  refine n_iconst (k := 0) hx hb dL_flagIf_2 (by decide) ?_
  refine lv_aload_n hx hb dL_flagIf_3 rfl (lv_at hl 0 rfl) ?_
  refine lv_iload_n hx hb dL_flagIf_4 rfl (lv_at hl 1 rfl) ?_
  refine lv_iload_n hx hb dL_flagIf_5 rfl (lv_at hl 2 rfl) ?_
  refine lv_iload_n hx hb dL_flagIf_6 rfl (lv_at hl 3 rfl) ?_
  refine lv_iload hx hb dL_flagIf_7 (lv_at hl 4 rfl) ?_
  refine thV (As := [.int (x), .int (y9), .int (nI (w0)), .int (z)]) (rest := [.int (nI (0)), .ref (qo)]) (n := 4) ⟨hx, hb, hml, hown, htA⟩ (f_flagIf_nr l D cI cZ sa hst9 q σ κ0 κ1 x y9 w0 z s.heap hPX hB hx9) (cwV 4 htA (gdV wd_354 wd_355 wd_356 wd_1 wd_357) rfl rfl rfl (by decide +kernel) ⟨Nat.le_of_ble_eq_true rfl, Nat.le_of_ble_eq_true rfl⟩) hKK hZ hPX 0 rfl rfl rfl hl.1 rfl (Nat.le_of_ble_eq_true rfl) dL_flagIf_9 (Nat.le_of_ble_eq_true rfl) (Nat.le_of_ble_eq_true rfl) (fun H1 ce q9 hz hk hc hv hcl => ?_)
  refine vx_catch (name := "java/lang/IndexOutOfBoundsException") hown [] ⟨0, 21, 24, 21⟩ [⟨0, 21, 28, 13⟩, ⟨0, 21, 32, 15⟩] ((vx_table (x := yL_flagIf) B (htA _ wd_353)).trans rfl) (fun _ h => nomatch h) (by decide) (by decide) (htA _ wd_296) (va_Nw.use rfl (ex_cI hKK.2)) hc hv hcl ?_
  refine lv_astore (lv' := [(6, .ref (q9)), (0, .ref (q 0)), (1, .int (x)), (2, .int (y9)), (3, .int (nI (w0))), (4, .int (z)), (5, .ref (qo))]) hx hb dL_flagIf_24 hl (by decide) rfl (fun ls hl => ?_)
  refine n_iconst (k := 1) hx hb dL_flagIf_26 (by decide) ?_
  exact W.iret hx hb hr (fun t ht _ => ⟨rfl, by rw [ht]; exact P_grow hP hk, ⟨by rw [ht]; exact hz, fun a ha _ => by rw [ht]; exact hk a ha⟩⟩) (fun _ h => nomatch h) dL_flagIf_27 hlocks
set_option maxHeartbeats 4000000 in
set_option maxRecDepth 100000 in
theorem w_flagIf_nz (l : Launch) (D : va_G) (cI cZ cL cD : ClassId) (sa : Nat → Nat) (q : Nat → Nat) (qo qd : Nat) (σ κ0 κ1 : ST) (g : Nat → Int64) (gd : Nat → UInt64) (A : Nat → Prop) (hD : va_D A (wL q qo qd cI cZ cL cD σ κ0 κ1 g gd)) (hst9 : l.stackTraces = false)  (j : Nat) (y9 : Int32) (w0 : Nat) (z : Int32) (hB : ∀ k i, σ k i < 1073741824) (hj : j < 60) (h40 : σ 4 j = 0) : Met l yL_flagIf (codeL yL_flagIf cL_flagIf 7 (some .int) [(0, 21, 24, 21), (0, 21, 28, 13), (0, 21, 32, 15)]) ({ frames := 8, cells := 1, slots := 6, locals := 137 } : Room) (LwP D cI cZ cL cD sa (wL q qo qd cI cZ cL cD σ κ0 κ1 g gd) [.ref (q 0), .int (nI (j)), .int (y9), .int (nI (w0)), .int (z), .ref (qo)]) (WrQ (some (.int (nI 1))) D (wL q qo qd cI cZ cL cD σ κ0 κ1 g gd) A) 1 6 A := by
  refine va_MetW (cc := cL_flagIf) (maxL := 7) (ret := (some .int)) (hh := [(0, 21, 24, 21), (0, 21, 28, 13), (0, 21, 32, 15)]) (by decide) rfl ?_
  intro p e s m args below meth c s₁ B hml hv
  obtain ⟨rfl, hP, hKK, hKL, hZ⟩ := hv
  have hx := B.exec
  have hb := B.bytes
  have hr := B.returns
  have htA : ∀ w ∈ WA, w.before _ s = true := fun w h => atoms_spec (ws := (codeL yL_flagIf cL_flagIf 7 (some .int) [(0, 21, 24, 21), (0, 21, 28, 13), (0, 21, 32, 15)])) B.pre w (List.mem_cons_of_mem _ h)
  have hown : s.vm.findClass RL = some m.cls := findClass_of_methodNamed B.named
  have hlocks := B.notSynchronized
  have hS : va_S A s.heap s.heap [] := va_S.rf
  have hl := lv_entry ([.ref (q 0), .int (nI (j)), .int (y9), .int (nI (w0)), .int (z), .ref (qo)]) (n := 7) (Nat.le_of_ble_eq_true rfl)
  rw [lg_entry_eq]
  generalize (lg_sl ([.ref (q 0), .int (nI (j)), .int (y9), .int (nI (w0)), .int (z), .ref (qo)]) ++ List.replicate (7 - (lg_sl ([.ref (q 0), .int (nI (j)), .int (y9), .int (nI (w0)), .int (z), .ref (qo)])).length) Slot.unset).toArray = ls at hl ⊢
  have hl : lv_has ls 7 [(0, .ref (q 0)), (1, .int (nI (j))), (2, .int (y9)), (3, .int (nI (w0))), (4, .int (z)), (5, .ref (qo))] := hl
  have hPX : va_P D vwCl (wX q cI cZ σ κ0 κ1) s.heap := hP.sub [2, 3, 4, 5, 6, 7, 8, 9, 10, 11, 12, 13, 14, 15, 16, 17, 18, 19, 20, 21, 22, 23, 24, 25] rfl
  have hDX : va_D A (wX q cI cZ σ κ0 κ1) := hD.sub [2, 3, 4, 5, 6, 7, 8, 9, 10, 11, 12, 13, 14, 15, 16, 17, 18, 19, 20, 21, 22, 23, 24, 25] (by decide) rfl
  refine lv_aload hx hb dL_flagIf_0 (lv_at hl 5 rfl) ?_
  refine n_iconst (k := 0) hx hb dL_flagIf_2 (by decide) ?_
  refine lv_aload_n hx hb dL_flagIf_3 rfl (lv_at hl 0 rfl) ?_
  refine lv_iload_n hx hb dL_flagIf_4 rfl (lv_at hl 1 rfl) ?_
  refine lv_iload_n hx hb dL_flagIf_5 rfl (lv_at hl 2 rfl) ?_
  refine lv_iload_n hx hb dL_flagIf_6 rfl (lv_at hl 3 rfl) ?_
  refine lv_iload hx hb dL_flagIf_7 (lv_at hl 4 rfl) ?_
  refine thV (As := [.int (nI (j)), .int (y9), .int (nI (w0)), .int (z)]) (rest := [.int (nI (0)), .ref (qo)]) (n := 4) ⟨hx, hb, hml, hown, htA⟩ (f_flagIf_nz l D cI cZ sa hst9 q σ κ0 κ1 j y9 w0 z s.heap hPX hB hj h40) (cwV 4 htA (gdV wd_354 wd_355 wd_356 wd_1 wd_357) rfl rfl rfl (by decide +kernel) ⟨Nat.le_of_ble_eq_true rfl, Nat.le_of_ble_eq_true rfl⟩) hKK hZ hPX 0 rfl rfl rfl hl.1 rfl (Nat.le_of_ble_eq_true rfl) dL_flagIf_9 (Nat.le_of_ble_eq_true rfl) (Nat.le_of_ble_eq_true rfl) (fun H1 ce q9 hz hk hc hv hcl => ?_)
  refine vx_catch (name := "java/lang/IndexOutOfBoundsException") hown [] ⟨0, 21, 24, 21⟩ [⟨0, 21, 28, 13⟩, ⟨0, 21, 32, 15⟩] ((vx_table (x := yL_flagIf) B (htA _ wd_353)).trans rfl) (fun _ h => nomatch h) (by decide) (by decide) (htA _ wd_296) (va_Nw.use rfl (ex_cI hKK.2)) hc hv hcl ?_
  refine lv_astore (lv' := [(6, .ref (q9)), (0, .ref (q 0)), (1, .int (nI (j))), (2, .int (y9)), (3, .int (nI (w0))), (4, .int (z)), (5, .ref (qo))]) hx hb dL_flagIf_24 hl (by decide) rfl (fun ls hl => ?_)
  refine n_iconst (k := 1) hx hb dL_flagIf_26 (by decide) ?_
  exact W.iret hx hb hr (fun t ht _ => ⟨rfl, by rw [ht]; exact P_grow hP hk, ⟨by rw [ht]; exact hz, fun a ha _ => by rw [ht]; exact hk a ha⟩⟩) (fun _ h => nomatch h) dL_flagIf_27 hlocks
set_option maxHeartbeats 4000000 in
set_option maxRecDepth 100000 in
theorem w_flagIf_bad (l : Launch) (D : va_G) (cI cZ cL cD : ClassId) (sa : Nat → Nat) (q : Nat → Nat) (qo qd : Nat) (σ κ0 κ1 : ST) (g : Nat → Int64) (gd : Nat → UInt64) (A : Nat → Prop) (hD : va_D A (wL q qo qd cI cZ cL cD σ κ0 κ1 g gd)) (hst9 : l.stackTraces = false)  (j : Nat) (y9 : Int32) (w0 : Nat) (z : Int32) (hB : ∀ k i, σ k i < 1073741824) (hj : j < 60) (h40 : σ 4 j ≠ 0) (hbad : iw (y9) (nI (0)) (nI (3)) = false) : Met l yL_flagIf (codeL yL_flagIf cL_flagIf 7 (some .int) [(0, 21, 24, 21), (0, 21, 28, 13), (0, 21, 32, 15)]) ({ frames := 8, cells := 1, slots := 6, locals := 137 } : Room) (LwP D cI cZ cL cD sa (wL q qo qd cI cZ cL cD σ κ0 κ1 g gd) [.ref (q 0), .int (nI (j)), .int (y9), .int (nI (w0)), .int (z), .ref (qo)]) (WrQ (some (.int (nI 2))) D (wL q qo qd cI cZ cL cD σ κ0 κ1 g gd) A) 1 6 A := by
  refine va_MetW (cc := cL_flagIf) (maxL := 7) (ret := (some .int)) (hh := [(0, 21, 24, 21), (0, 21, 28, 13), (0, 21, 32, 15)]) (by decide) rfl ?_
  intro p e s m args below meth c s₁ B hml hv
  obtain ⟨rfl, hP, hKK, hKL, hZ⟩ := hv
  have hx := B.exec
  have hb := B.bytes
  have hr := B.returns
  have htA : ∀ w ∈ WA, w.before _ s = true := fun w h => atoms_spec (ws := (codeL yL_flagIf cL_flagIf 7 (some .int) [(0, 21, 24, 21), (0, 21, 28, 13), (0, 21, 32, 15)])) B.pre w (List.mem_cons_of_mem _ h)
  have hown : s.vm.findClass RL = some m.cls := findClass_of_methodNamed B.named
  have hlocks := B.notSynchronized
  have hS : va_S A s.heap s.heap [] := va_S.rf
  have hl := lv_entry ([.ref (q 0), .int (nI (j)), .int (y9), .int (nI (w0)), .int (z), .ref (qo)]) (n := 7) (Nat.le_of_ble_eq_true rfl)
  rw [lg_entry_eq]
  generalize (lg_sl ([.ref (q 0), .int (nI (j)), .int (y9), .int (nI (w0)), .int (z), .ref (qo)]) ++ List.replicate (7 - (lg_sl ([.ref (q 0), .int (nI (j)), .int (y9), .int (nI (w0)), .int (z), .ref (qo)])).length) Slot.unset).toArray = ls at hl ⊢
  have hl : lv_has ls 7 [(0, .ref (q 0)), (1, .int (nI (j))), (2, .int (y9)), (3, .int (nI (w0))), (4, .int (z)), (5, .ref (qo))] := hl
  have hPX : va_P D vwCl (wX q cI cZ σ κ0 κ1) s.heap := hP.sub [2, 3, 4, 5, 6, 7, 8, 9, 10, 11, 12, 13, 14, 15, 16, 17, 18, 19, 20, 21, 22, 23, 24, 25] rfl
  have hDX : va_D A (wX q cI cZ σ κ0 κ1) := hD.sub [2, 3, 4, 5, 6, 7, 8, 9, 10, 11, 12, 13, 14, 15, 16, 17, 18, 19, 20, 21, 22, 23, 24, 25] (by decide) rfl
  refine lv_aload hx hb dL_flagIf_0 (lv_at hl 5 rfl) ?_
  refine n_iconst (k := 0) hx hb dL_flagIf_2 (by decide) ?_
  refine lv_aload_n hx hb dL_flagIf_3 rfl (lv_at hl 0 rfl) ?_
  refine lv_iload_n hx hb dL_flagIf_4 rfl (lv_at hl 1 rfl) ?_
  refine lv_iload_n hx hb dL_flagIf_5 rfl (lv_at hl 2 rfl) ?_
  refine lv_iload_n hx hb dL_flagIf_6 rfl (lv_at hl 3 rfl) ?_
  refine lv_iload hx hb dL_flagIf_7 (lv_at hl 4 rfl) ?_
  refine thV (As := [.int (nI (j)), .int (y9), .int (nI (w0)), .int (z)]) (rest := [.int (nI (0)), .ref (qo)]) (n := 4) ⟨hx, hb, hml, hown, htA⟩ (f_flagIf_bad l D cI cZ sa hst9 q σ κ0 κ1 j y9 w0 z s.heap hPX hB hj h40 hbad) (cwV 4 htA (gdV wd_354 wd_355 wd_356 wd_1 wd_357) rfl rfl rfl (by decide +kernel) ⟨Nat.le_of_ble_eq_true rfl, Nat.le_of_ble_eq_true rfl⟩) hKK hZ hPX 0 rfl rfl rfl hl.1 rfl (Nat.le_of_ble_eq_true rfl) dL_flagIf_9 (Nat.le_of_ble_eq_true rfl) (Nat.le_of_ble_eq_true rfl) (fun H1 ce q9 hz hk hc hv hcl => ?_)
  refine vx_catch (name := "java/lang/IllegalArgumentException") hown [⟨0, 21, 24, 21⟩] ⟨0, 21, 28, 13⟩ [⟨0, 21, 32, 15⟩] ((vx_table (x := yL_flagIf) B (htA _ wd_353)).trans rfl) (List.forall_mem_cons.mpr ⟨Or.inr ⟨by decide, "java/lang/IndexOutOfBoundsException", htA _ wd_296, ex_nAI hKK.2⟩, (fun _ h => nomatch h)⟩) (by decide) (by decide) (htA _ wd_164) (va_Nw.use rfl (ex_cA hKK.2)) hc hv hcl ?_
  refine lv_astore (lv' := [(6, .ref (q9)), (0, .ref (q 0)), (1, .int (nI (j))), (2, .int (y9)), (3, .int (nI (w0))), (4, .int (z)), (5, .ref (qo))]) hx hb dL_flagIf_28 hl (by decide) rfl (fun ls hl => ?_)
  refine n_iconst (k := 2) hx hb dL_flagIf_30 (by decide) ?_
  exact W.iret hx hb hr (fun t ht _ => ⟨rfl, by rw [ht]; exact P_grow hP hk, ⟨by rw [ht]; exact hz, fun a ha _ => by rw [ht]; exact hk a ha⟩⟩) (fun _ h => nomatch h) dL_flagIf_31 hlocks
set_option maxHeartbeats 4000000 in
set_option maxRecDepth 100000 in
theorem w_flagIf_st (l : Launch) (D : va_G) (cI cZ cL cD : ClassId) (sa : Nat → Nat) (q : Nat → Nat) (qo qd : Nat) (σ κ0 κ1 : ST) (g : Nat → Int64) (gd : Nat → UInt64) (A : Nat → Prop) (hD : va_D A (wL q qo qd cI cZ cL cD σ κ0 κ1 g gd)) (hst9 : l.stackTraces = false)  (j k9 w0 : Nat) (z : Int32) (hB : ∀ k i, σ k i < 1073741824) (hj : j < 60) (h40 : σ 4 j ≠ 0) (hk9 : k9 < 4) (hbad : ¬ z = nI (σ 7 0)) : Met l yL_flagIf (codeL yL_flagIf cL_flagIf 7 (some .int) [(0, 21, 24, 21), (0, 21, 28, 13), (0, 21, 32, 15)]) ({ frames := 8, cells := 1, slots := 6, locals := 137 } : Room) (LwP D cI cZ cL cD sa (wL q qo qd cI cZ cL cD σ κ0 κ1 g gd) [.ref (q 0), .int (nI (j)), .int (nI (k9)), .int (nI (w0)), .int (z), .ref (qo)]) (WrQ (some (.int (nI 3))) D (wL q qo qd cI cZ cL cD σ κ0 κ1 g gd) A) 1 6 A := by
  refine va_MetW (cc := cL_flagIf) (maxL := 7) (ret := (some .int)) (hh := [(0, 21, 24, 21), (0, 21, 28, 13), (0, 21, 32, 15)]) (by decide) rfl ?_
  intro p e s m args below meth c s₁ B hml hv
  obtain ⟨rfl, hP, hKK, hKL, hZ⟩ := hv
  have hx := B.exec
  have hb := B.bytes
  have hr := B.returns
  have htA : ∀ w ∈ WA, w.before _ s = true := fun w h => atoms_spec (ws := (codeL yL_flagIf cL_flagIf 7 (some .int) [(0, 21, 24, 21), (0, 21, 28, 13), (0, 21, 32, 15)])) B.pre w (List.mem_cons_of_mem _ h)
  have hown : s.vm.findClass RL = some m.cls := findClass_of_methodNamed B.named
  have hlocks := B.notSynchronized
  have hS : va_S A s.heap s.heap [] := va_S.rf
  have hl := lv_entry ([.ref (q 0), .int (nI (j)), .int (nI (k9)), .int (nI (w0)), .int (z), .ref (qo)]) (n := 7) (Nat.le_of_ble_eq_true rfl)
  rw [lg_entry_eq]
  generalize (lg_sl ([.ref (q 0), .int (nI (j)), .int (nI (k9)), .int (nI (w0)), .int (z), .ref (qo)]) ++ List.replicate (7 - (lg_sl ([.ref (q 0), .int (nI (j)), .int (nI (k9)), .int (nI (w0)), .int (z), .ref (qo)])).length) Slot.unset).toArray = ls at hl ⊢
  have hl : lv_has ls 7 [(0, .ref (q 0)), (1, .int (nI (j))), (2, .int (nI (k9))), (3, .int (nI (w0))), (4, .int (z)), (5, .ref (qo))] := hl
  have hPX : va_P D vwCl (wX q cI cZ σ κ0 κ1) s.heap := hP.sub [2, 3, 4, 5, 6, 7, 8, 9, 10, 11, 12, 13, 14, 15, 16, 17, 18, 19, 20, 21, 22, 23, 24, 25] rfl
  have hDX : va_D A (wX q cI cZ σ κ0 κ1) := hD.sub [2, 3, 4, 5, 6, 7, 8, 9, 10, 11, 12, 13, 14, 15, 16, 17, 18, 19, 20, 21, 22, 23, 24, 25] (by decide) rfl
  refine lv_aload hx hb dL_flagIf_0 (lv_at hl 5 rfl) ?_
  refine n_iconst (k := 0) hx hb dL_flagIf_2 (by decide) ?_
  refine lv_aload_n hx hb dL_flagIf_3 rfl (lv_at hl 0 rfl) ?_
  refine lv_iload_n hx hb dL_flagIf_4 rfl (lv_at hl 1 rfl) ?_
  refine lv_iload_n hx hb dL_flagIf_5 rfl (lv_at hl 2 rfl) ?_
  refine lv_iload_n hx hb dL_flagIf_6 rfl (lv_at hl 3 rfl) ?_
  refine lv_iload hx hb dL_flagIf_7 (lv_at hl 4 rfl) ?_
  refine thV (As := [.int (nI (j)), .int (nI (k9)), .int (nI (w0)), .int (z)]) (rest := [.int (nI (0)), .ref (qo)]) (n := 4) ⟨hx, hb, hml, hown, htA⟩ (f_flagIf_st l D cI cZ sa hst9 q σ κ0 κ1 j k9 w0 z s.heap hPX hB hj h40 hk9 hbad) (cwV 4 htA (gdV wd_354 wd_355 wd_356 wd_1 wd_357) rfl rfl rfl (by decide +kernel) ⟨Nat.le_of_ble_eq_true rfl, Nat.le_of_ble_eq_true rfl⟩) hKK hZ hPX 0 rfl rfl rfl hl.1 rfl (Nat.le_of_ble_eq_true rfl) dL_flagIf_9 (Nat.le_of_ble_eq_true rfl) (Nat.le_of_ble_eq_true rfl) (fun H1 ce q9 hz hk hc hv hcl => ?_)
  refine vx_catch (name := "java/lang/IllegalStateException") hown [⟨0, 21, 24, 21⟩, ⟨0, 21, 28, 13⟩] ⟨0, 21, 32, 15⟩ [] ((vx_table (x := yL_flagIf) B (htA _ wd_353)).trans rfl) (List.forall_mem_cons.mpr ⟨Or.inr ⟨by decide, "java/lang/IndexOutOfBoundsException", htA _ wd_296, ex_nSI hKK.2⟩, (List.forall_mem_cons.mpr ⟨Or.inr ⟨by decide, "java/lang/IllegalArgumentException", htA _ wd_164, ex_nSA hKK.2⟩, (fun _ h => nomatch h)⟩)⟩) (by decide) (by decide) (htA _ wd_165) (va_Nw.use rfl (ex_cS hKK.2)) hc hv hcl ?_
  refine lv_astore (lv' := [(6, .ref (q9)), (0, .ref (q 0)), (1, .int (nI (j))), (2, .int (nI (k9))), (3, .int (nI (w0))), (4, .int (z)), (5, .ref (qo))]) hx hb dL_flagIf_32 hl (by decide) rfl (fun ls hl => ?_)
  refine n_iconst (k := 3) hx hb dL_flagIf_34 (by decide) ?_
  exact W.iret hx hb hr (fun t ht _ => ⟨rfl, by rw [ht]; exact P_grow hP hk, ⟨by rw [ht]; exact hz, fun a ha _ => by rw [ht]; exact hk a ha⟩⟩) (fun _ h => nomatch h) dL_flagIf_35 hlocks
set_option maxHeartbeats 4000000 in
set_option maxRecDepth 100000 in
theorem w_flagIf_ok (l : Launch) (D : va_G) (cI cZ cL cD : ClassId) (sa : Nat → Nat) (q : Nat → Nat) (qo qd : Nat) (σ κ0 κ1 : ST) (g : Nat → Int64) (gd : Nat → UInt64) (A : Nat → Prop) (hD : va_D A (wL q qo qd cI cZ cL cD σ κ0 κ1 g gd))  (j k9 w0 : Nat) (z : Int32) (hB : ∀ k i, σ k i < 1073741824) (hj : j < 60) (h40 : σ 4 j ≠ 0) (h15 : ∀ i, σ 5 i < 16) (hk9 : k9 < 4) (hw9 : w0 < 2) (hz9 : z = nI (σ 7 0)) : Met l yL_flagIf (codeL yL_flagIf cL_flagIf 7 (some .int) [(0, 21, 24, 21), (0, 21, 28, 13), (0, 21, 32, 15)]) ({ frames := 8, cells := 1, slots := 6, locals := 137 } : Room) (LwP D cI cZ cL cD sa (wL q qo qd cI cZ cL cD σ κ0 κ1 g gd) [.ref (q 0), .int (nI (j)), .int (nI (k9)), .int (nI (w0)), .int (z), .ref (qo)]) (WrQ (some (.int (nI 0))) D (wL q qo qd cI cZ cL cD (sk σ j k9 w0) κ0 κ1 (gu g (bl (!(decide (σ 5 j = wn (σ 5 j) k9 (nb w0)))))) gd) A) 1 6 A := by
  refine va_MetW (cc := cL_flagIf) (maxL := 7) (ret := (some .int)) (hh := [(0, 21, 24, 21), (0, 21, 28, 13), (0, 21, 32, 15)]) (by decide) rfl ?_
  intro p e s m args below meth c s₁ B hml hv
  obtain ⟨rfl, hP, hKK, hKL, hZ⟩ := hv
  have hx := B.exec
  have hb := B.bytes
  have hr := B.returns
  have htA : ∀ w ∈ WA, w.before _ s = true := fun w h => atoms_spec (ws := (codeL yL_flagIf cL_flagIf 7 (some .int) [(0, 21, 24, 21), (0, 21, 28, 13), (0, 21, 32, 15)])) B.pre w (List.mem_cons_of_mem _ h)
  have hown : s.vm.findClass RL = some m.cls := findClass_of_methodNamed B.named
  have hlocks := B.notSynchronized
  have hS : va_S A s.heap s.heap [] := va_S.rf
  have hl := lv_entry ([.ref (q 0), .int (nI (j)), .int (nI (k9)), .int (nI (w0)), .int (z), .ref (qo)]) (n := 7) (Nat.le_of_ble_eq_true rfl)
  rw [lg_entry_eq]
  generalize (lg_sl ([.ref (q 0), .int (nI (j)), .int (nI (k9)), .int (nI (w0)), .int (z), .ref (qo)]) ++ List.replicate (7 - (lg_sl ([.ref (q 0), .int (nI (j)), .int (nI (k9)), .int (nI (w0)), .int (z), .ref (qo)])).length) Slot.unset).toArray = ls at hl ⊢
  have hl : lv_has ls 7 [(0, .ref (q 0)), (1, .int (nI (j))), (2, .int (nI (k9))), (3, .int (nI (w0))), (4, .int (z)), (5, .ref (qo))] := hl
  have hPX : va_P D vwCl (wX q cI cZ σ κ0 κ1) s.heap := hP.sub [2, 3, 4, 5, 6, 7, 8, 9, 10, 11, 12, 13, 14, 15, 16, 17, 18, 19, 20, 21, 22, 23, 24, 25] rfl
  have hDX : va_D A (wX q cI cZ σ κ0 κ1) := hD.sub [2, 3, 4, 5, 6, 7, 8, 9, 10, 11, 12, 13, 14, 15, 16, 17, 18, 19, 20, 21, 22, 23, 24, 25] (by decide) rfl
  refine lv_aload hx hb dL_flagIf_0 (lv_at hl 5 rfl) ?_
  refine n_iconst (k := 0) hx hb dL_flagIf_2 (by decide) ?_
  refine lv_aload_n hx hb dL_flagIf_3 rfl (lv_at hl 0 rfl) ?_
  refine lv_iload_n hx hb dL_flagIf_4 rfl (lv_at hl 1 rfl) ?_
  refine lv_iload_n hx hb dL_flagIf_5 rfl (lv_at hl 2 rfl) ?_
  refine lv_iload_n hx hb dL_flagIf_6 rfl (lv_at hl 3 rfl) ?_
  refine lv_iload hx hb dL_flagIf_7 (lv_at hl 4 rfl) ?_
  refine wrV1 (v := .int (b2i (!(decide (σ 5 j = wn (σ 5 j) k9 (nb w0)))))) (As := [.int (nI (j)), .int (nI (k9)), .int (nI (w0)), .int (z)]) (rest := [.int (nI (0)), .ref (qo)]) (n := 4) ⟨hx, hb, hml, hown, htA⟩ (f_flagIf_ok l D cI cZ sa q σ κ0 κ1 j k9 w0 z (adr (wX q cI cZ σ κ0 κ1)) (D_adr hDX) hB hj h40 h15 hk9 hw9 hz9) (cwV 4 htA (gdV wd_354 wd_355 wd_356 wd_1 wd_357) rfl rfl rfl (by decide +kernel) ⟨Nat.le_of_ble_eq_true rfl, Nat.le_of_ble_eq_true rfl⟩) hKK hPX 0 rfl rfl rfl hl.1 rfl (Nat.le_of_ble_eq_true rfl) dL_flagIf_9 (Nat.zero_le _) (Nat.zero_le _) hS (fun a h => adr_in hDX a h) (fun H1 locs hP1 hz1 hk1 hS => ?_)
  have hP : va_P D vwCl (wL q qo qd cI cZ cL cD (sk σ j k9 w0) κ0 κ1 g gd) H1 := L_put hD hP hk1 hP1
  refine b_ifeq (b := !(decide (σ 5 j = wn (σ 5 j) k9 (nb w0)))) (tgt := 19) hx hb dL_flagIf_12 (by decide) (fun c9 => ?_) (fun c9 => ?_)
  · refine lv_lconst (v := 0) hx hb dL_flagIf_19 (by decide) ?_
    rw [show (0 : Int64) = bl (!(decide (σ 5 j = wn (σ 5 j) k9 (nb w0)))) from by rw [c9]; rfl]
    refine va_last hx hb hKL hP (D_addr hD rfl) hS 0 0 rfl rfl (vp_in_nI (n := 0) (N := 1) (by decide) (by decide)) dL_flagIf_20 (fun H locs hP _ hS => ?_)
    have hP : va_P D vwCl (wL q qo qd cI cZ cL cD (sk σ j k9 w0) κ0 κ1 (gu g (bl (!(decide (σ 5 j = wn (σ 5 j) k9 (nb w0)))))) gd) H := hP
    refine lv_goto (tgt := 36) hx hb dL_flagIf_21 (by decide) ?_
    refine n_iconst (k := 0) hx hb dL_flagIf_36 (by decide) ?_
    refine W.widen (k := 1) (n := 6) (by decide) (by decide) ?_
    exact W.iret hx hb hr (fun t ht _ => ⟨rfl, by rw [ht]; exact hP, hS.F ht⟩) hS.2.2 dL_flagIf_37 hlocks
  · refine lv_lconst (v := 1) hx hb dL_flagIf_15 (by decide) ?_
    rw [show (1 : Int64) = bl (!(decide (σ 5 j = wn (σ 5 j) k9 (nb w0)))) from by rw [c9]; rfl]
    refine lv_goto (tgt := 20) hx hb dL_flagIf_16 (by decide) ?_
    refine va_last hx hb hKL hP (D_addr hD rfl) hS 0 0 rfl rfl (vp_in_nI (n := 0) (N := 1) (by decide) (by decide)) dL_flagIf_20 (fun H locs hP _ hS => ?_)
    have hP : va_P D vwCl (wL q qo qd cI cZ cL cD (sk σ j k9 w0) κ0 κ1 (gu g (bl (!(decide (σ 5 j = wn (σ 5 j) k9 (nb w0)))))) gd) H := hP
    refine lv_goto (tgt := 36) hx hb dL_flagIf_21 (by decide) ?_
    refine n_iconst (k := 0) hx hb dL_flagIf_36 (by decide) ?_
    refine W.widen (k := 1) (n := 6) (by decide) (by decide) ?_
    exact W.iret hx hb hr (fun t ht _ => ⟨rfl, by rw [ht]; exact hP, hS.F ht⟩) hS.2.2 dL_flagIf_37 hlocks
set_option maxHeartbeats 4000000 in
set_option maxRecDepth 100000 in
theorem w_destroy_nr (l : Launch) (D : va_G) (cI cZ cL cD : ClassId) (sa : Nat → Nat) (q : Nat → Nat) (qo qd : Nat) (σ κ0 κ1 : ST) (g : Nat → Int64) (gd : Nat → UInt64) (A : Nat → Prop) (hD : va_D A (wL q qo qd cI cZ cL cD σ κ0 κ1 g gd)) (hst9 : l.stackTraces = false)  (x : Int32) (hB : ∀ k i, σ k i < 1073741824) (hx9 : iw (x) (nI (0)) (nI (59)) = false) : Met l yL_destroy (codeL yL_destroy cL_destroy 4 (some .int) [(0, 9, 12, 21)]) ({ frames := 8, cells := 1, slots := 6, locals := 123 } : Room) (LwP D cI cZ cL cD sa (wL q qo qd cI cZ cL cD σ κ0 κ1 g gd) [.ref (q 0), .int (x), .ref (qo)]) (WrQ (some (.int (nI 1))) D (wL q qo qd cI cZ cL cD σ κ0 κ1 g gd) A) 1 6 A := by
  refine va_MetW (cc := cL_destroy) (maxL := 4) (ret := (some .int)) (hh := [(0, 9, 12, 21)]) (by decide) rfl ?_
  intro p e s m args below meth c s₁ B hml hv
  obtain ⟨rfl, hP, hKK, hKL, hZ⟩ := hv
  have hx := B.exec
  have hb := B.bytes
  have hr := B.returns
  have htA : ∀ w ∈ WA, w.before _ s = true := fun w h => atoms_spec (ws := (codeL yL_destroy cL_destroy 4 (some .int) [(0, 9, 12, 21)])) B.pre w (List.mem_cons_of_mem _ h)
  have hown : s.vm.findClass RL = some m.cls := findClass_of_methodNamed B.named
  have hlocks := B.notSynchronized
  have hS : va_S A s.heap s.heap [] := va_S.rf
  have hl := lv_entry ([.ref (q 0), .int (x), .ref (qo)]) (n := 4) (Nat.le_of_ble_eq_true rfl)
  rw [lg_entry_eq]
  generalize (lg_sl ([.ref (q 0), .int (x), .ref (qo)]) ++ List.replicate (4 - (lg_sl ([.ref (q 0), .int (x), .ref (qo)])).length) Slot.unset).toArray = ls at hl ⊢
  have hl : lv_has ls 4 [(0, .ref (q 0)), (1, .int (x)), (2, .ref (qo))] := hl
  have hPX : va_P D vwCl (wX q cI cZ σ κ0 κ1) s.heap := hP.sub [2, 3, 4, 5, 6, 7, 8, 9, 10, 11, 12, 13, 14, 15, 16, 17, 18, 19, 20, 21, 22, 23, 24, 25] rfl
  have hDX : va_D A (wX q cI cZ σ κ0 κ1) := hD.sub [2, 3, 4, 5, 6, 7, 8, 9, 10, 11, 12, 13, 14, 15, 16, 17, 18, 19, 20, 21, 22, 23, 24, 25] (by decide) rfl
  refine lv_aload_n hx hb dL_destroy_0 rfl (lv_at hl 2 rfl) ?_
  refine n_iconst (k := 0) hx hb dL_destroy_1 (by decide) ?_
  refine lv_aload_n hx hb dL_destroy_2 rfl (lv_at hl 0 rfl) ?_
  refine lv_iload_n hx hb dL_destroy_3 rfl (lv_at hl 1 rfl) ?_
  refine thV (As := [.int (x)]) (rest := [.int (nI (0)), .ref (qo)]) (n := 1) ⟨hx, hb, hml, hown, htA⟩ (f_destroy_nr l D cI cZ sa hst9 q σ κ0 κ1 x s.heap hPX hB hx9) (cwV 1 htA (gdV wd_362 wd_363 wd_364 wd_1 wd_365) rfl rfl rfl (by decide +kernel) ⟨Nat.le_of_ble_eq_true rfl, Nat.le_of_ble_eq_true rfl⟩) hKK hZ hPX 0 rfl rfl rfl hl.1 rfl (Nat.le_of_ble_eq_true rfl) dL_destroy_4 (Nat.le_of_ble_eq_true rfl) (Nat.le_of_ble_eq_true rfl) (fun H1 ce q9 hz hk hc hv hcl => ?_)
  refine vx_catch (name := "java/lang/IndexOutOfBoundsException") hown [] ⟨0, 9, 12, 21⟩ [] ((vx_table (x := yL_destroy) B (htA _ wd_361)).trans rfl) (fun _ h => nomatch h) (by decide) (by decide) (htA _ wd_296) (va_Nw.use rfl (ex_cI hKK.2)) hc hv hcl ?_
  refine lv_astore_n (lv' := [(3, .ref (q9)), (0, .ref (q 0)), (1, .int (x)), (2, .ref (qo))]) hx hb dL_destroy_12 rfl hl (by decide) rfl (fun ls hl => ?_)
  refine n_iconst (k := 1) hx hb dL_destroy_13 (by decide) ?_
  exact W.iret hx hb hr (fun t ht _ => ⟨rfl, by rw [ht]; exact P_grow hP hk, ⟨by rw [ht]; exact hz, fun a ha _ => by rw [ht]; exact hk a ha⟩⟩) (fun _ h => nomatch h) dL_destroy_14 hlocks
set_option maxHeartbeats 4000000 in
set_option maxRecDepth 100000 in
theorem w_destroy_nz (l : Launch) (D : va_G) (cI cZ cL cD : ClassId) (sa : Nat → Nat) (q : Nat → Nat) (qo qd : Nat) (σ κ0 κ1 : ST) (g : Nat → Int64) (gd : Nat → UInt64) (A : Nat → Prop) (hD : va_D A (wL q qo qd cI cZ cL cD σ κ0 κ1 g gd)) (hst9 : l.stackTraces = false)  (j : Nat) (hB : ∀ k i, σ k i < 1073741824) (hj : j < 60) (h40 : σ 4 j = 0) : Met l yL_destroy (codeL yL_destroy cL_destroy 4 (some .int) [(0, 9, 12, 21)]) ({ frames := 8, cells := 1, slots := 6, locals := 123 } : Room) (LwP D cI cZ cL cD sa (wL q qo qd cI cZ cL cD σ κ0 κ1 g gd) [.ref (q 0), .int (nI (j)), .ref (qo)]) (WrQ (some (.int (nI 1))) D (wL q qo qd cI cZ cL cD σ κ0 κ1 g gd) A) 1 6 A := by
  refine va_MetW (cc := cL_destroy) (maxL := 4) (ret := (some .int)) (hh := [(0, 9, 12, 21)]) (by decide) rfl ?_
  intro p e s m args below meth c s₁ B hml hv
  obtain ⟨rfl, hP, hKK, hKL, hZ⟩ := hv
  have hx := B.exec
  have hb := B.bytes
  have hr := B.returns
  have htA : ∀ w ∈ WA, w.before _ s = true := fun w h => atoms_spec (ws := (codeL yL_destroy cL_destroy 4 (some .int) [(0, 9, 12, 21)])) B.pre w (List.mem_cons_of_mem _ h)
  have hown : s.vm.findClass RL = some m.cls := findClass_of_methodNamed B.named
  have hlocks := B.notSynchronized
  have hS : va_S A s.heap s.heap [] := va_S.rf
  have hl := lv_entry ([.ref (q 0), .int (nI (j)), .ref (qo)]) (n := 4) (Nat.le_of_ble_eq_true rfl)
  rw [lg_entry_eq]
  generalize (lg_sl ([.ref (q 0), .int (nI (j)), .ref (qo)]) ++ List.replicate (4 - (lg_sl ([.ref (q 0), .int (nI (j)), .ref (qo)])).length) Slot.unset).toArray = ls at hl ⊢
  have hl : lv_has ls 4 [(0, .ref (q 0)), (1, .int (nI (j))), (2, .ref (qo))] := hl
  have hPX : va_P D vwCl (wX q cI cZ σ κ0 κ1) s.heap := hP.sub [2, 3, 4, 5, 6, 7, 8, 9, 10, 11, 12, 13, 14, 15, 16, 17, 18, 19, 20, 21, 22, 23, 24, 25] rfl
  have hDX : va_D A (wX q cI cZ σ κ0 κ1) := hD.sub [2, 3, 4, 5, 6, 7, 8, 9, 10, 11, 12, 13, 14, 15, 16, 17, 18, 19, 20, 21, 22, 23, 24, 25] (by decide) rfl
  refine lv_aload_n hx hb dL_destroy_0 rfl (lv_at hl 2 rfl) ?_
  refine n_iconst (k := 0) hx hb dL_destroy_1 (by decide) ?_
  refine lv_aload_n hx hb dL_destroy_2 rfl (lv_at hl 0 rfl) ?_
  refine lv_iload_n hx hb dL_destroy_3 rfl (lv_at hl 1 rfl) ?_
  refine thV (As := [.int (nI (j))]) (rest := [.int (nI (0)), .ref (qo)]) (n := 1) ⟨hx, hb, hml, hown, htA⟩ (f_destroy_nz l D cI cZ sa hst9 q σ κ0 κ1 j s.heap hPX hB hj h40) (cwV 1 htA (gdV wd_362 wd_363 wd_364 wd_1 wd_365) rfl rfl rfl (by decide +kernel) ⟨Nat.le_of_ble_eq_true rfl, Nat.le_of_ble_eq_true rfl⟩) hKK hZ hPX 0 rfl rfl rfl hl.1 rfl (Nat.le_of_ble_eq_true rfl) dL_destroy_4 (Nat.le_of_ble_eq_true rfl) (Nat.le_of_ble_eq_true rfl) (fun H1 ce q9 hz hk hc hv hcl => ?_)
  refine vx_catch (name := "java/lang/IndexOutOfBoundsException") hown [] ⟨0, 9, 12, 21⟩ [] ((vx_table (x := yL_destroy) B (htA _ wd_361)).trans rfl) (fun _ h => nomatch h) (by decide) (by decide) (htA _ wd_296) (va_Nw.use rfl (ex_cI hKK.2)) hc hv hcl ?_
  refine lv_astore_n (lv' := [(3, .ref (q9)), (0, .ref (q 0)), (1, .int (nI (j))), (2, .ref (qo))]) hx hb dL_destroy_12 rfl hl (by decide) rfl (fun ls hl => ?_)
  refine n_iconst (k := 1) hx hb dL_destroy_13 (by decide) ?_
  exact W.iret hx hb hr (fun t ht _ => ⟨rfl, by rw [ht]; exact P_grow hP hk, ⟨by rw [ht]; exact hz, fun a ha _ => by rw [ht]; exact hk a ha⟩⟩) (fun _ h => nomatch h) dL_destroy_14 hlocks
set_option maxHeartbeats 4000000 in
set_option maxRecDepth 100000 in
theorem w_destroy_ok (l : Launch) (D : va_G) (cI cZ cL cD : ClassId) (sa : Nat → Nat) (q : Nat → Nat) (qo qd : Nat) (σ κ0 κ1 : ST) (g : Nat → Int64) (gd : Nat → UInt64) (A : Nat → Prop) (hD : va_D A (wL q qo qd cI cZ cL cD σ κ0 κ1 g gd))  (j : Nat) (hB : ∀ k i, σ k i < 1073741824) (hj : j < 60) (h40 : σ 4 j ≠ 0) : Met l yL_destroy (codeL yL_destroy cL_destroy 4 (some .int) [(0, 9, 12, 21)]) ({ frames := 8, cells := 1, slots := 6, locals := 123 } : Room) (LwP D cI cZ cL cD sa (wL q qo qd cI cZ cL cD σ κ0 κ1 g gd) [.ref (q 0), .int (nI (j)), .ref (qo)]) (WrQ (some (.int (nI 0))) D (wL q qo qd cI cZ cL cD (chg σ j 0 (σ 5 j)) κ0 κ1 (gu g ((nI (σ 7 0 + 1)).toInt64)) gd) A) 1 6 A := by
  refine va_MetW (cc := cL_destroy) (maxL := 4) (ret := (some .int)) (hh := [(0, 9, 12, 21)]) (by decide) rfl ?_
  intro p e s m args below meth c s₁ B hml hv
  obtain ⟨rfl, hP, hKK, hKL, hZ⟩ := hv
  have hx := B.exec
  have hb := B.bytes
  have hr := B.returns
  have htA : ∀ w ∈ WA, w.before _ s = true := fun w h => atoms_spec (ws := (codeL yL_destroy cL_destroy 4 (some .int) [(0, 9, 12, 21)])) B.pre w (List.mem_cons_of_mem _ h)
  have hown : s.vm.findClass RL = some m.cls := findClass_of_methodNamed B.named
  have hlocks := B.notSynchronized
  have hS : va_S A s.heap s.heap [] := va_S.rf
  have hl := lv_entry ([.ref (q 0), .int (nI (j)), .ref (qo)]) (n := 4) (Nat.le_of_ble_eq_true rfl)
  rw [lg_entry_eq]
  generalize (lg_sl ([.ref (q 0), .int (nI (j)), .ref (qo)]) ++ List.replicate (4 - (lg_sl ([.ref (q 0), .int (nI (j)), .ref (qo)])).length) Slot.unset).toArray = ls at hl ⊢
  have hl : lv_has ls 4 [(0, .ref (q 0)), (1, .int (nI (j))), (2, .ref (qo))] := hl
  have hPX : va_P D vwCl (wX q cI cZ σ κ0 κ1) s.heap := hP.sub [2, 3, 4, 5, 6, 7, 8, 9, 10, 11, 12, 13, 14, 15, 16, 17, 18, 19, 20, 21, 22, 23, 24, 25] rfl
  have hDX : va_D A (wX q cI cZ σ κ0 κ1) := hD.sub [2, 3, 4, 5, 6, 7, 8, 9, 10, 11, 12, 13, 14, 15, 16, 17, 18, 19, 20, 21, 22, 23, 24, 25] (by decide) rfl
  refine lv_aload_n hx hb dL_destroy_0 rfl (lv_at hl 2 rfl) ?_
  refine n_iconst (k := 0) hx hb dL_destroy_1 (by decide) ?_
  refine lv_aload_n hx hb dL_destroy_2 rfl (lv_at hl 0 rfl) ?_
  refine lv_iload_n hx hb dL_destroy_3 rfl (lv_at hl 1 rfl) ?_
  refine wrV1 (v := .int (nI (σ 7 0 + 1))) (As := [.int (nI (j))]) (rest := [.int (nI (0)), .ref (qo)]) (n := 1) ⟨hx, hb, hml, hown, htA⟩ (f_destroy_ok l D cI cZ sa q σ κ0 κ1 j (adr (wX q cI cZ σ κ0 κ1)) (D_adr hDX) hB hj h40) (cwV 1 htA (gdV wd_362 wd_363 wd_364 wd_1 wd_365) rfl rfl rfl (by decide +kernel) ⟨Nat.le_of_ble_eq_true rfl, Nat.le_of_ble_eq_true rfl⟩) hKK hPX 0 rfl rfl rfl hl.1 rfl (Nat.le_of_ble_eq_true rfl) dL_destroy_4 (Nat.zero_le _) (Nat.zero_le _) hS (fun a h => adr_in hDX a h) (fun H1 locs hP1 hz1 hk1 hS => ?_)
  have hP : va_P D vwCl (wL q qo qd cI cZ cL cD (chg σ j 0 (σ 5 j)) κ0 κ1 g gd) H1 := L_put hD hP hk1 hP1
  refine lv_i2l hx hb dL_destroy_7 rfl ?_
  refine va_last hx hb hKL hP (D_addr hD rfl) hS 0 0 rfl rfl (vp_in_nI (n := 0) (N := 1) (by decide) (by decide)) dL_destroy_8 (fun H locs hP _ hS => ?_)
  have hP : va_P D vwCl (wL q qo qd cI cZ cL cD (chg σ j 0 (σ 5 j)) κ0 κ1 (gu g ((nI (σ 7 0 + 1)).toInt64)) gd) H := hP
  refine lv_goto (tgt := 15) hx hb dL_destroy_9 (by decide) ?_
  refine n_iconst (k := 0) hx hb dL_destroy_15 (by decide) ?_
  refine W.widen (k := 1) (n := 6) (by decide) (by decide) ?_
  exact W.iret hx hb hr (fun t ht _ => ⟨rfl, by rw [ht]; exact hP, hS.F ht⟩) hS.2.2 dL_destroy_16 hlocks
set_option maxHeartbeats 4000000 in
set_option maxRecDepth 100000 in
theorem w_keywords_nr (l : Launch) (D : va_G) (cI cZ cL cD : ClassId) (sa : Nat → Nat) (q : Nat → Nat) (qo qd : Nat) (σ κ0 κ1 : ST) (g : Nat → Int64) (gd : Nat → UInt64) (A : Nat → Prop) (hD : va_D A (wL q qo qd cI cZ cL cD σ κ0 κ1 g gd)) (hst9 : l.stackTraces = false)  (x : Int32) (hB : ∀ k i, σ k i < 1073741824) (hx9 : iw (x) (nI (0)) (nI (59)) = false) : Met l yL_keywords (codeL yL_keywords cL_keywords 4 (some .int) [(0, 9, 12, 21)]) ({ frames := 8, cells := 1, slots := 6, locals := 123 } : Room) (LwP D cI cZ cL cD sa (wL q qo qd cI cZ cL cD σ κ0 κ1 g gd) [.ref (q 0), .int (x), .ref (qo)]) (WrQ (some (.int (nI 1))) D (wL q qo qd cI cZ cL cD σ κ0 κ1 g gd) A) 1 6 A := by
  refine va_MetW (cc := cL_keywords) (maxL := 4) (ret := (some .int)) (hh := [(0, 9, 12, 21)]) (by decide) rfl ?_
  intro p e s m args below meth c s₁ B hml hv
  obtain ⟨rfl, hP, hKK, hKL, hZ⟩ := hv
  have hx := B.exec
  have hb := B.bytes
  have hr := B.returns
  have htA : ∀ w ∈ WA, w.before _ s = true := fun w h => atoms_spec (ws := (codeL yL_keywords cL_keywords 4 (some .int) [(0, 9, 12, 21)])) B.pre w (List.mem_cons_of_mem _ h)
  have hown : s.vm.findClass RL = some m.cls := findClass_of_methodNamed B.named
  have hlocks := B.notSynchronized
  have hS : va_S A s.heap s.heap [] := va_S.rf
  have hl := lv_entry ([.ref (q 0), .int (x), .ref (qo)]) (n := 4) (Nat.le_of_ble_eq_true rfl)
  rw [lg_entry_eq]
  generalize (lg_sl ([.ref (q 0), .int (x), .ref (qo)]) ++ List.replicate (4 - (lg_sl ([.ref (q 0), .int (x), .ref (qo)])).length) Slot.unset).toArray = ls at hl ⊢
  have hl : lv_has ls 4 [(0, .ref (q 0)), (1, .int (x)), (2, .ref (qo))] := hl
  have hPX : va_P D vwCl (wX q cI cZ σ κ0 κ1) s.heap := hP.sub [2, 3, 4, 5, 6, 7, 8, 9, 10, 11, 12, 13, 14, 15, 16, 17, 18, 19, 20, 21, 22, 23, 24, 25] rfl
  have hDX : va_D A (wX q cI cZ σ κ0 κ1) := hD.sub [2, 3, 4, 5, 6, 7, 8, 9, 10, 11, 12, 13, 14, 15, 16, 17, 18, 19, 20, 21, 22, 23, 24, 25] (by decide) rfl
  refine lv_aload_n hx hb dL_keywords_0 rfl (lv_at hl 2 rfl) ?_
  refine n_iconst (k := 0) hx hb dL_keywords_1 (by decide) ?_
  refine lv_aload_n hx hb dL_keywords_2 rfl (lv_at hl 0 rfl) ?_
  refine lv_iload_n hx hb dL_keywords_3 rfl (lv_at hl 1 rfl) ?_
  refine thV (As := [.int (x)]) (rest := [.int (nI (0)), .ref (qo)]) (n := 1) ⟨hx, hb, hml, hown, htA⟩ (f_keywords_nr l D cI cZ sa hst9 q σ κ0 κ1 x s.heap hPX hB hx9) (cwV 1 htA (gdV wd_369 wd_370 wd_371 wd_1 wd_372) rfl rfl rfl (by decide +kernel) ⟨Nat.le_of_ble_eq_true rfl, Nat.le_of_ble_eq_true rfl⟩) hKK hZ hPX 0 rfl rfl rfl hl.1 rfl (Nat.le_of_ble_eq_true rfl) dL_keywords_4 (Nat.le_of_ble_eq_true rfl) (Nat.le_of_ble_eq_true rfl) (fun H1 ce q9 hz hk hc hv hcl => ?_)
  refine vx_catch (name := "java/lang/IndexOutOfBoundsException") hown [] ⟨0, 9, 12, 21⟩ [] ((vx_table (x := yL_keywords) B (htA _ wd_368)).trans rfl) (fun _ h => nomatch h) (by decide) (by decide) (htA _ wd_296) (va_Nw.use rfl (ex_cI hKK.2)) hc hv hcl ?_
  refine lv_astore_n (lv' := [(3, .ref (q9)), (0, .ref (q 0)), (1, .int (x)), (2, .ref (qo))]) hx hb dL_keywords_12 rfl hl (by decide) rfl (fun ls hl => ?_)
  refine n_iconst (k := 1) hx hb dL_keywords_13 (by decide) ?_
  exact W.iret hx hb hr (fun t ht _ => ⟨rfl, by rw [ht]; exact P_grow hP hk, ⟨by rw [ht]; exact hz, fun a ha _ => by rw [ht]; exact hk a ha⟩⟩) (fun _ h => nomatch h) dL_keywords_14 hlocks
set_option maxHeartbeats 4000000 in
set_option maxRecDepth 100000 in
theorem w_keywords_nz (l : Launch) (D : va_G) (cI cZ cL cD : ClassId) (sa : Nat → Nat) (q : Nat → Nat) (qo qd : Nat) (σ κ0 κ1 : ST) (g : Nat → Int64) (gd : Nat → UInt64) (A : Nat → Prop) (hD : va_D A (wL q qo qd cI cZ cL cD σ κ0 κ1 g gd)) (hst9 : l.stackTraces = false)  (j : Nat) (hB : ∀ k i, σ k i < 1073741824) (hj : j < 60) (h40 : σ 4 j = 0) : Met l yL_keywords (codeL yL_keywords cL_keywords 4 (some .int) [(0, 9, 12, 21)]) ({ frames := 8, cells := 1, slots := 6, locals := 123 } : Room) (LwP D cI cZ cL cD sa (wL q qo qd cI cZ cL cD σ κ0 κ1 g gd) [.ref (q 0), .int (nI (j)), .ref (qo)]) (WrQ (some (.int (nI 1))) D (wL q qo qd cI cZ cL cD σ κ0 κ1 g gd) A) 1 6 A := by
  refine va_MetW (cc := cL_keywords) (maxL := 4) (ret := (some .int)) (hh := [(0, 9, 12, 21)]) (by decide) rfl ?_
  intro p e s m args below meth c s₁ B hml hv
  obtain ⟨rfl, hP, hKK, hKL, hZ⟩ := hv
  have hx := B.exec
  have hb := B.bytes
  have hr := B.returns
  have htA : ∀ w ∈ WA, w.before _ s = true := fun w h => atoms_spec (ws := (codeL yL_keywords cL_keywords 4 (some .int) [(0, 9, 12, 21)])) B.pre w (List.mem_cons_of_mem _ h)
  have hown : s.vm.findClass RL = some m.cls := findClass_of_methodNamed B.named
  have hlocks := B.notSynchronized
  have hS : va_S A s.heap s.heap [] := va_S.rf
  have hl := lv_entry ([.ref (q 0), .int (nI (j)), .ref (qo)]) (n := 4) (Nat.le_of_ble_eq_true rfl)
  rw [lg_entry_eq]
  generalize (lg_sl ([.ref (q 0), .int (nI (j)), .ref (qo)]) ++ List.replicate (4 - (lg_sl ([.ref (q 0), .int (nI (j)), .ref (qo)])).length) Slot.unset).toArray = ls at hl ⊢
  have hl : lv_has ls 4 [(0, .ref (q 0)), (1, .int (nI (j))), (2, .ref (qo))] := hl
  have hPX : va_P D vwCl (wX q cI cZ σ κ0 κ1) s.heap := hP.sub [2, 3, 4, 5, 6, 7, 8, 9, 10, 11, 12, 13, 14, 15, 16, 17, 18, 19, 20, 21, 22, 23, 24, 25] rfl
  have hDX : va_D A (wX q cI cZ σ κ0 κ1) := hD.sub [2, 3, 4, 5, 6, 7, 8, 9, 10, 11, 12, 13, 14, 15, 16, 17, 18, 19, 20, 21, 22, 23, 24, 25] (by decide) rfl
  refine lv_aload_n hx hb dL_keywords_0 rfl (lv_at hl 2 rfl) ?_
  refine n_iconst (k := 0) hx hb dL_keywords_1 (by decide) ?_
  refine lv_aload_n hx hb dL_keywords_2 rfl (lv_at hl 0 rfl) ?_
  refine lv_iload_n hx hb dL_keywords_3 rfl (lv_at hl 1 rfl) ?_
  refine thV (As := [.int (nI (j))]) (rest := [.int (nI (0)), .ref (qo)]) (n := 1) ⟨hx, hb, hml, hown, htA⟩ (f_keywords_nz l D cI cZ sa hst9 q σ κ0 κ1 j s.heap hPX hB hj h40) (cwV 1 htA (gdV wd_369 wd_370 wd_371 wd_1 wd_372) rfl rfl rfl (by decide +kernel) ⟨Nat.le_of_ble_eq_true rfl, Nat.le_of_ble_eq_true rfl⟩) hKK hZ hPX 0 rfl rfl rfl hl.1 rfl (Nat.le_of_ble_eq_true rfl) dL_keywords_4 (Nat.le_of_ble_eq_true rfl) (Nat.le_of_ble_eq_true rfl) (fun H1 ce q9 hz hk hc hv hcl => ?_)
  refine vx_catch (name := "java/lang/IndexOutOfBoundsException") hown [] ⟨0, 9, 12, 21⟩ [] ((vx_table (x := yL_keywords) B (htA _ wd_368)).trans rfl) (fun _ h => nomatch h) (by decide) (by decide) (htA _ wd_296) (va_Nw.use rfl (ex_cI hKK.2)) hc hv hcl ?_
  refine lv_astore_n (lv' := [(3, .ref (q9)), (0, .ref (q 0)), (1, .int (nI (j))), (2, .ref (qo))]) hx hb dL_keywords_12 rfl hl (by decide) rfl (fun ls hl => ?_)
  refine n_iconst (k := 1) hx hb dL_keywords_13 (by decide) ?_
  exact W.iret hx hb hr (fun t ht _ => ⟨rfl, by rw [ht]; exact P_grow hP hk, ⟨by rw [ht]; exact hz, fun a ha _ => by rw [ht]; exact hk a ha⟩⟩) (fun _ h => nomatch h) dL_keywords_14 hlocks
set_option maxHeartbeats 4000000 in
set_option maxRecDepth 100000 in
theorem w_keywords_ok (l : Launch) (D : va_G) (cI cZ cL cD : ClassId) (sa : Nat → Nat) (q : Nat → Nat) (qo qd : Nat) (σ κ0 κ1 : ST) (g : Nat → Int64) (gd : Nat → UInt64) (A : Nat → Prop) (hD : va_D A (wL q qo qd cI cZ cL cD σ κ0 κ1 g gd))  (j : Nat) (hB : ∀ k i, σ k i < 1073741824) (hj : j < 60) (h40 : σ 4 j ≠ 0) : Met l yL_keywords (codeL yL_keywords cL_keywords 4 (some .int) [(0, 9, 12, 21)]) ({ frames := 8, cells := 1, slots := 6, locals := 123 } : Room) (LwP D cI cZ cL cD sa (wL q qo qd cI cZ cL cD σ κ0 κ1 g gd) [.ref (q 0), .int (nI (j)), .ref (qo)]) (WrQ (some (.int (nI 0))) D (wL q qo qd cI cZ cL cD σ κ0 κ1 (gu g ((nI (σ 5 j)).toInt64)) gd) A) 1 6 A := by
  refine va_MetW (cc := cL_keywords) (maxL := 4) (ret := (some .int)) (hh := [(0, 9, 12, 21)]) (by decide) rfl ?_
  intro p e s m args below meth c s₁ B hml hv
  obtain ⟨rfl, hP, hKK, hKL, hZ⟩ := hv
  have hx := B.exec
  have hb := B.bytes
  have hr := B.returns
  have htA : ∀ w ∈ WA, w.before _ s = true := fun w h => atoms_spec (ws := (codeL yL_keywords cL_keywords 4 (some .int) [(0, 9, 12, 21)])) B.pre w (List.mem_cons_of_mem _ h)
  have hown : s.vm.findClass RL = some m.cls := findClass_of_methodNamed B.named
  have hlocks := B.notSynchronized
  have hS : va_S A s.heap s.heap [] := va_S.rf
  have hl := lv_entry ([.ref (q 0), .int (nI (j)), .ref (qo)]) (n := 4) (Nat.le_of_ble_eq_true rfl)
  rw [lg_entry_eq]
  generalize (lg_sl ([.ref (q 0), .int (nI (j)), .ref (qo)]) ++ List.replicate (4 - (lg_sl ([.ref (q 0), .int (nI (j)), .ref (qo)])).length) Slot.unset).toArray = ls at hl ⊢
  have hl : lv_has ls 4 [(0, .ref (q 0)), (1, .int (nI (j))), (2, .ref (qo))] := hl
  have hPX : va_P D vwCl (wX q cI cZ σ κ0 κ1) s.heap := hP.sub [2, 3, 4, 5, 6, 7, 8, 9, 10, 11, 12, 13, 14, 15, 16, 17, 18, 19, 20, 21, 22, 23, 24, 25] rfl
  have hDX : va_D A (wX q cI cZ σ κ0 κ1) := hD.sub [2, 3, 4, 5, 6, 7, 8, 9, 10, 11, 12, 13, 14, 15, 16, 17, 18, 19, 20, 21, 22, 23, 24, 25] (by decide) rfl
  refine lv_aload_n hx hb dL_keywords_0 rfl (lv_at hl 2 rfl) ?_
  refine n_iconst (k := 0) hx hb dL_keywords_1 (by decide) ?_
  refine lv_aload_n hx hb dL_keywords_2 rfl (lv_at hl 0 rfl) ?_
  refine lv_iload_n hx hb dL_keywords_3 rfl (lv_at hl 1 rfl) ?_
  refine roV1 (v := .int (nI (σ 5 j))) (As := [.int (nI (j))]) (rest := [.int (nI (0)), .ref (qo)]) (n := 1) ⟨hx, hb, hml, hown, htA⟩ (f_keywords_ok l D cI cZ sa q σ κ0 κ1 j s.heap hPX hB hj h40) (cwV 1 htA (gdV wd_369 wd_370 wd_371 wd_1 wd_372) rfl rfl rfl (by decide +kernel) ⟨Nat.le_of_ble_eq_true rfl, Nat.le_of_ble_eq_true rfl⟩) hKK hPX 0 rfl rfl rfl hl.1 rfl (Nat.le_of_ble_eq_true rfl) dL_keywords_4 (Nat.zero_le _) (Nat.zero_le _) ?_
  refine lv_i2l hx hb dL_keywords_7 rfl ?_
  refine va_last hx hb hKL hP (D_addr hD rfl) hS 0 0 rfl rfl (vp_in_nI (n := 0) (N := 1) (by decide) (by decide)) dL_keywords_8 (fun H locs hP _ hS => ?_)
  have hP : va_P D vwCl (wL q qo qd cI cZ cL cD σ κ0 κ1 (gu g ((nI (σ 5 j)).toInt64)) gd) H := hP
  refine lv_goto (tgt := 15) hx hb dL_keywords_9 (by decide) ?_
  refine n_iconst (k := 0) hx hb dL_keywords_15 (by decide) ?_
  refine W.widen (k := 1) (n := 6) (by decide) (by decide) ?_
  exact W.iret hx hb hr (fun t ht _ => ⟨rfl, by rw [ht]; exact hP, hS.F ht⟩) hS.2.2 dL_keywords_16 hlocks
set_option maxHeartbeats 4000000 in
set_option maxRecDepth 100000 in
theorem w_inThread_bad (l : Launch) (D : va_G) (cI cZ cL cD : ClassId) (sa : Nat → Nat) (q : Nat → Nat) (qo qd : Nat) (σ κ0 κ1 : ST) (g : Nat → Int64) (gd : Nat → UInt64) (A : Nat → Prop) (hD : va_D A (wL q qo qd cI cZ cL cD σ κ0 κ1 g gd)) (hst9 : l.stackTraces = false)  (x : Int32) (hbad : iw (x) (nI (0)) (nI (9)) = false) : Met l yL_inThread (codeL yL_inThread cL_inThread 4 (some .int) [(0, 9, 12, 13)]) ({ frames := 7, cells := 1, slots := 6, locals := 108 } : Room) (LwP D cI cZ cL cD sa (wL q qo qd cI cZ cL cD σ κ0 κ1 g gd) [.ref (q 0), .int (x), .ref (qo)]) (WrQ (some (.int (nI 1))) D (wL q qo qd cI cZ cL cD σ κ0 κ1 g gd) A) 1 6 A := by
  refine va_MetW (cc := cL_inThread) (maxL := 4) (ret := (some .int)) (hh := [(0, 9, 12, 13)]) (by decide) rfl ?_
  intro p e s m args below meth c s₁ B hml hv
  obtain ⟨rfl, hP, hKK, hKL, hZ⟩ := hv
  have hx := B.exec
  have hb := B.bytes
  have hr := B.returns
  have htA : ∀ w ∈ WA, w.before _ s = true := fun w h => atoms_spec (ws := (codeL yL_inThread cL_inThread 4 (some .int) [(0, 9, 12, 13)])) B.pre w (List.mem_cons_of_mem _ h)
  have hown : s.vm.findClass RL = some m.cls := findClass_of_methodNamed B.named
  have hlocks := B.notSynchronized
  have hS : va_S A s.heap s.heap [] := va_S.rf
  have hl := lv_entry ([.ref (q 0), .int (x), .ref (qo)]) (n := 4) (Nat.le_of_ble_eq_true rfl)
  rw [lg_entry_eq]
  generalize (lg_sl ([.ref (q 0), .int (x), .ref (qo)]) ++ List.replicate (4 - (lg_sl ([.ref (q 0), .int (x), .ref (qo)])).length) Slot.unset).toArray = ls at hl ⊢
  have hl : lv_has ls 4 [(0, .ref (q 0)), (1, .int (x)), (2, .ref (qo))] := hl
  have hPX : va_P D vwCl (wX q cI cZ σ κ0 κ1) s.heap := hP.sub [2, 3, 4, 5, 6, 7, 8, 9, 10, 11, 12, 13, 14, 15, 16, 17, 18, 19, 20, 21, 22, 23, 24, 25] rfl
  have hDX : va_D A (wX q cI cZ σ κ0 κ1) := hD.sub [2, 3, 4, 5, 6, 7, 8, 9, 10, 11, 12, 13, 14, 15, 16, 17, 18, 19, 20, 21, 22, 23, 24, 25] (by decide) rfl
  refine lv_aload_n hx hb dL_inThread_0 rfl (lv_at hl 2 rfl) ?_
  refine n_iconst (k := 0) hx hb dL_inThread_1 (by decide) ?_
  refine lv_aload_n hx hb dL_inThread_2 rfl (lv_at hl 0 rfl) ?_
  refine lv_iload_n hx hb dL_inThread_3 rfl (lv_at hl 1 rfl) ?_
  refine thV (As := [.int (x)]) (rest := [.int (nI (0)), .ref (qo)]) (n := 1) ⟨hx, hb, hml, hown, htA⟩ (f_inThread_bad l D cI cZ sa hst9 q σ κ0 κ1 x s.heap hPX hbad) (cwV 1 htA (gdV wd_376 wd_377 wd_378 wd_1 wd_379) rfl rfl rfl (by decide +kernel) ⟨Nat.le_of_ble_eq_true rfl, Nat.le_of_ble_eq_true rfl⟩) hKK hZ hPX 0 rfl rfl rfl hl.1 rfl (Nat.le_of_ble_eq_true rfl) dL_inThread_4 (Nat.le_of_ble_eq_true rfl) (Nat.le_of_ble_eq_true rfl) (fun H1 ce q9 hz hk hc hv hcl => ?_)
  refine vx_catch (name := "java/lang/IllegalArgumentException") hown [] ⟨0, 9, 12, 13⟩ [] ((vx_table (x := yL_inThread) B (htA _ wd_375)).trans rfl) (fun _ h => nomatch h) (by decide) (by decide) (htA _ wd_164) (va_Nw.use rfl (ex_cA hKK.2)) hc hv hcl ?_
  refine lv_astore_n (lv' := [(3, .ref (q9)), (0, .ref (q 0)), (1, .int (x)), (2, .ref (qo))]) hx hb dL_inThread_12 rfl hl (by decide) rfl (fun ls hl => ?_)
  refine n_iconst (k := 1) hx hb dL_inThread_13 (by decide) ?_
  exact W.iret hx hb hr (fun t ht _ => ⟨rfl, by rw [ht]; exact P_grow hP hk, ⟨by rw [ht]; exact hz, fun a ha _ => by rw [ht]; exact hk a ha⟩⟩) (fun _ h => nomatch h) dL_inThread_14 hlocks
set_option maxHeartbeats 4000000 in
set_option maxRecDepth 100000 in
theorem w_inThread_ok (l : Launch) (D : va_G) (cI cZ cL cD : ClassId) (sa : Nat → Nat) (q : Nat → Nat) (qo qd : Nat) (σ κ0 κ1 : ST) (g : Nat → Int64) (gd : Nat → UInt64) (A : Nat → Prop) (hD : va_D A (wL q qo qd cI cZ cL cD σ κ0 κ1 g gd))  (t : Nat) (hB : ∀ k i, σ k i < 1073741824) (ht : t ≤ 9) : Met l yL_inThread (codeL yL_inThread cL_inThread 4 (some .int) [(0, 9, 12, 13)]) ({ frames := 7, cells := 1, slots := 6, locals := 108 } : Room) (LwP D cI cZ cL cD sa (wL q qo qd cI cZ cL cD σ κ0 κ1 g gd) [.ref (q 0), .int (nI (t)), .ref (qo)]) (WrQ (some (.int (nI 0))) D (wL q qo qd cI cZ cL cD σ κ0 κ1 (gu g ((nI (cnt (fun j => inT σ t j) 60)).toInt64)) gd) A) 1 6 A := by
  refine va_MetW (cc := cL_inThread) (maxL := 4) (ret := (some .int)) (hh := [(0, 9, 12, 13)]) (by decide) rfl ?_
  intro p e s m args below meth c s₁ B hml hv
  obtain ⟨rfl, hP, hKK, hKL, hZ⟩ := hv
  have hx := B.exec
  have hb := B.bytes
  have hr := B.returns
  have htA : ∀ w ∈ WA, w.before _ s = true := fun w h => atoms_spec (ws := (codeL yL_inThread cL_inThread 4 (some .int) [(0, 9, 12, 13)])) B.pre w (List.mem_cons_of_mem _ h)
  have hown : s.vm.findClass RL = some m.cls := findClass_of_methodNamed B.named
  have hlocks := B.notSynchronized
  have hS : va_S A s.heap s.heap [] := va_S.rf
  have hl := lv_entry ([.ref (q 0), .int (nI (t)), .ref (qo)]) (n := 4) (Nat.le_of_ble_eq_true rfl)
  rw [lg_entry_eq]
  generalize (lg_sl ([.ref (q 0), .int (nI (t)), .ref (qo)]) ++ List.replicate (4 - (lg_sl ([.ref (q 0), .int (nI (t)), .ref (qo)])).length) Slot.unset).toArray = ls at hl ⊢
  have hl : lv_has ls 4 [(0, .ref (q 0)), (1, .int (nI (t))), (2, .ref (qo))] := hl
  have hPX : va_P D vwCl (wX q cI cZ σ κ0 κ1) s.heap := hP.sub [2, 3, 4, 5, 6, 7, 8, 9, 10, 11, 12, 13, 14, 15, 16, 17, 18, 19, 20, 21, 22, 23, 24, 25] rfl
  have hDX : va_D A (wX q cI cZ σ κ0 κ1) := hD.sub [2, 3, 4, 5, 6, 7, 8, 9, 10, 11, 12, 13, 14, 15, 16, 17, 18, 19, 20, 21, 22, 23, 24, 25] (by decide) rfl
  refine lv_aload_n hx hb dL_inThread_0 rfl (lv_at hl 2 rfl) ?_
  refine n_iconst (k := 0) hx hb dL_inThread_1 (by decide) ?_
  refine lv_aload_n hx hb dL_inThread_2 rfl (lv_at hl 0 rfl) ?_
  refine lv_iload_n hx hb dL_inThread_3 rfl (lv_at hl 1 rfl) ?_
  refine roV1 (v := .int (nI (cnt (fun j => inT σ t j) 60))) (As := [.int (nI (t))]) (rest := [.int (nI (0)), .ref (qo)]) (n := 1) ⟨hx, hb, hml, hown, htA⟩ (f_inThread_ok l D cI cZ sa q σ κ0 κ1 t s.heap hPX hB ht) (cwV 1 htA (gdV wd_376 wd_377 wd_378 wd_1 wd_379) rfl rfl rfl (by decide +kernel) ⟨Nat.le_of_ble_eq_true rfl, Nat.le_of_ble_eq_true rfl⟩) hKK hPX 0 rfl rfl rfl hl.1 rfl (Nat.le_of_ble_eq_true rfl) dL_inThread_4 (Nat.zero_le _) (Nat.zero_le _) ?_
  refine lv_i2l hx hb dL_inThread_7 rfl ?_
  refine va_last hx hb hKL hP (D_addr hD rfl) hS 0 0 rfl rfl (vp_in_nI (n := 0) (N := 1) (by decide) (by decide)) dL_inThread_8 (fun H locs hP _ hS => ?_)
  have hP : va_P D vwCl (wL q qo qd cI cZ cL cD σ κ0 κ1 (gu g ((nI (cnt (fun j => inT σ t j) 60)).toInt64)) gd) H := hP
  refine lv_goto (tgt := 15) hx hb dL_inThread_9 (by decide) ?_
  refine n_iconst (k := 0) hx hb dL_inThread_15 (by decide) ?_
  refine W.widen (k := 1) (n := 6) (by decide) (by decide) ?_
  exact W.iret hx hb hr (fun t ht _ => ⟨rfl, by rw [ht]; exact hP, hS.F ht⟩) hS.2.2 dL_inThread_16 hlocks
set_option maxHeartbeats 4000000 in
set_option maxRecDepth 100000 in
theorem w_share_bad (l : Launch) (D : va_G) (cI cZ cL cD : ClassId) (sa : Nat → Nat) (q : Nat → Nat) (qo qd : Nat) (σ κ0 κ1 : ST) (g : Nat → Int64) (gd : Nat → UInt64) (A : Nat → Prop) (hD : va_D A (wL q qo qd cI cZ cL cD σ κ0 κ1 g gd)) (hst9 : l.stackTraces = false)  (x y9 : Int32) (hbad : (iw (x) (nI (0)) (nI (5)) && iw (y9) (nI (0)) (nI (3))) = false) : Met l yL_share (codeL yL_share cL_share 5 (some .int) [(0, 10, 13, 13)]) ({ frames := 7, cells := 1, slots := 6, locals := 106 } : Room) (LwP D cI cZ cL cD sa (wL q qo qd cI cZ cL cD σ κ0 κ1 g gd) [.ref (q 0), .int (x), .int (y9), .ref (qd)]) (WrQ (some (.int (nI 1))) D (wL q qo qd cI cZ cL cD σ κ0 κ1 g gd) A) 1 6 A := by
  refine va_MetW (cc := cL_share) (maxL := 5) (ret := (some .int)) (hh := [(0, 10, 13, 13)]) (by decide) rfl ?_
  intro p e s m args below meth c s₁ B hml hv
  obtain ⟨rfl, hP, hKK, hKL, hZ⟩ := hv
  have hx := B.exec
  have hb := B.bytes
  have hr := B.returns
  have htA : ∀ w ∈ WA, w.before _ s = true := fun w h => atoms_spec (ws := (codeL yL_share cL_share 5 (some .int) [(0, 10, 13, 13)])) B.pre w (List.mem_cons_of_mem _ h)
  have hown : s.vm.findClass RL = some m.cls := findClass_of_methodNamed B.named
  have hlocks := B.notSynchronized
  have hS : va_S A s.heap s.heap [] := va_S.rf
  have hl := lv_entry ([.ref (q 0), .int (x), .int (y9), .ref (qd)]) (n := 5) (Nat.le_of_ble_eq_true rfl)
  rw [lg_entry_eq]
  generalize (lg_sl ([.ref (q 0), .int (x), .int (y9), .ref (qd)]) ++ List.replicate (5 - (lg_sl ([.ref (q 0), .int (x), .int (y9), .ref (qd)])).length) Slot.unset).toArray = ls at hl ⊢
  have hl : lv_has ls 5 [(0, .ref (q 0)), (1, .int (x)), (2, .int (y9)), (3, .ref (qd))] := hl
  have hPX : va_P D vwCl (wX q cI cZ σ κ0 κ1) s.heap := hP.sub [2, 3, 4, 5, 6, 7, 8, 9, 10, 11, 12, 13, 14, 15, 16, 17, 18, 19, 20, 21, 22, 23, 24, 25] rfl
  have hDX : va_D A (wX q cI cZ σ κ0 κ1) := hD.sub [2, 3, 4, 5, 6, 7, 8, 9, 10, 11, 12, 13, 14, 15, 16, 17, 18, 19, 20, 21, 22, 23, 24, 25] (by decide) rfl
  refine lv_aload_n hx hb dL_share_0 rfl (lv_at hl 3 rfl) ?_
  refine n_iconst (k := 0) hx hb dL_share_1 (by decide) ?_
  refine lv_aload_n hx hb dL_share_2 rfl (lv_at hl 0 rfl) ?_
  refine lv_iload_n hx hb dL_share_3 rfl (lv_at hl 1 rfl) ?_
  refine lv_iload_n hx hb dL_share_4 rfl (lv_at hl 2 rfl) ?_
  refine thV (As := [.int (x), .int (y9)]) (rest := [.int (nI (0)), .ref (qd)]) (n := 2) ⟨hx, hb, hml, hown, htA⟩ (f_share_bad l D cI cZ sa hst9 q σ κ0 κ1 x y9 s.heap hPX hbad) (cwV 2 htA (gdV wd_389 wd_390 wd_391 wd_1 wd_392) rfl rfl rfl (by decide +kernel) ⟨Nat.le_of_ble_eq_true rfl, Nat.le_of_ble_eq_true rfl⟩) hKK hZ hPX 0 rfl rfl rfl hl.1 rfl (Nat.le_of_ble_eq_true rfl) dL_share_5 (Nat.le_of_ble_eq_true rfl) (Nat.le_of_ble_eq_true rfl) (fun H1 ce q9 hz hk hc hv hcl => ?_)
  refine vx_catch (name := "java/lang/IllegalArgumentException") hown [] ⟨0, 10, 13, 13⟩ [] ((vx_table (x := yL_share) B (htA _ wd_388)).trans rfl) (fun _ h => nomatch h) (by decide) (by decide) (htA _ wd_164) (va_Nw.use rfl (ex_cA hKK.2)) hc hv hcl ?_
  refine lv_astore (lv' := [(4, .ref (q9)), (0, .ref (q 0)), (1, .int (x)), (2, .int (y9)), (3, .ref (qd))]) hx hb dL_share_13 hl (by decide) rfl (fun ls hl => ?_)
  refine n_iconst (k := 1) hx hb dL_share_15 (by decide) ?_
  exact W.iret hx hb hr (fun t ht _ => ⟨rfl, by rw [ht]; exact P_grow hP hk, ⟨by rw [ht]; exact hz, fun a ha _ => by rw [ht]; exact hk a ha⟩⟩) (fun _ h => nomatch h) dL_share_16 hlocks
set_option maxHeartbeats 4000000 in
set_option maxRecDepth 100000 in
theorem w_share_0 (l : Launch) (D : va_G) (cI cZ cL cD : ClassId) (sa : Nat → Nat) (q : Nat → Nat) (qo qd : Nat) (σ κ0 κ1 : ST) (g : Nat → Int64) (gd : Nat → UInt64) (A : Nat → Prop) (hD : va_D A (wL q qo qd cI cZ cL cD σ κ0 κ1 g gd))  (b0 k9 : Nat) (hb9 : b0 < 6) (hk9 : k9 < 4) (hz : cnt (bxs σ b0) 60 = 0) : Met l yL_share (codeL yL_share cL_share 5 (some .int) [(0, 10, 13, 13)]) ({ frames := 7, cells := 1, slots := 6, locals := 106 } : Room) (LwP D cI cZ cL cD sa (wL q qo qd cI cZ cL cD σ κ0 κ1 g gd) [.ref (q 0), .int (nI (b0)), .int (nI (k9)), .ref (qd)]) (WrQ (some (.int (nI 0))) D (wL q qo qd cI cZ cL cD σ κ0 κ1 g (gv gd (FP.f2d (FP.fconst0)))) A) 1 6 A := by
  refine va_MetW (cc := cL_share) (maxL := 5) (ret := (some .int)) (hh := [(0, 10, 13, 13)]) (by decide) rfl ?_
  intro p e s m args below meth c s₁ B hml hv
  obtain ⟨rfl, hP, hKK, hKL, hZ⟩ := hv
  have hx := B.exec
  have hb := B.bytes
  have hr := B.returns
  have htA : ∀ w ∈ WA, w.before _ s = true := fun w h => atoms_spec (ws := (codeL yL_share cL_share 5 (some .int) [(0, 10, 13, 13)])) B.pre w (List.mem_cons_of_mem _ h)
  have hown : s.vm.findClass RL = some m.cls := findClass_of_methodNamed B.named
  have hlocks := B.notSynchronized
  have hS : va_S A s.heap s.heap [] := va_S.rf
  have hl := lv_entry ([.ref (q 0), .int (nI (b0)), .int (nI (k9)), .ref (qd)]) (n := 5) (Nat.le_of_ble_eq_true rfl)
  rw [lg_entry_eq]
  generalize (lg_sl ([.ref (q 0), .int (nI (b0)), .int (nI (k9)), .ref (qd)]) ++ List.replicate (5 - (lg_sl ([.ref (q 0), .int (nI (b0)), .int (nI (k9)), .ref (qd)])).length) Slot.unset).toArray = ls at hl ⊢
  have hl : lv_has ls 5 [(0, .ref (q 0)), (1, .int (nI (b0))), (2, .int (nI (k9))), (3, .ref (qd))] := hl
  have hPX : va_P D vwCl (wX q cI cZ σ κ0 κ1) s.heap := hP.sub [2, 3, 4, 5, 6, 7, 8, 9, 10, 11, 12, 13, 14, 15, 16, 17, 18, 19, 20, 21, 22, 23, 24, 25] rfl
  have hDX : va_D A (wX q cI cZ σ κ0 κ1) := hD.sub [2, 3, 4, 5, 6, 7, 8, 9, 10, 11, 12, 13, 14, 15, 16, 17, 18, 19, 20, 21, 22, 23, 24, 25] (by decide) rfl
  refine lv_aload_n hx hb dL_share_0 rfl (lv_at hl 3 rfl) ?_
  refine n_iconst (k := 0) hx hb dL_share_1 (by decide) ?_
  refine lv_aload_n hx hb dL_share_2 rfl (lv_at hl 0 rfl) ?_
  refine lv_iload_n hx hb dL_share_3 rfl (lv_at hl 1 rfl) ?_
  refine lv_iload_n hx hb dL_share_4 rfl (lv_at hl 2 rfl) ?_
  refine roV1 (v := .float (FP.fconst0)) (As := [.int (nI (b0)), .int (nI (k9))]) (rest := [.int (nI (0)), .ref (qd)]) (n := 2) ⟨hx, hb, hml, hown, htA⟩ (f_share_0 l D cI cZ sa q σ κ0 κ1 b0 k9 s.heap hPX hb9 hk9 hz) (cwV 2 htA (gdV wd_389 wd_390 wd_391 wd_1 wd_392) rfl rfl rfl (by decide +kernel) ⟨Nat.le_of_ble_eq_true rfl, Nat.le_of_ble_eq_true rfl⟩) hKK hPX 0 rfl rfl rfl hl.1 rfl (Nat.le_of_ble_eq_true rfl) dL_share_5 (Nat.zero_le _) (Nat.zero_le _) ?_
  refine lv_f2d hx hb dL_share_8 f2d_nn0 ?_
  refine va_dast hx hb hKL hP (D_addr hD rfl) hS 1 1 rfl rfl (vp_in_nI (n := 0) (N := 1) (by decide) (by decide)) dL_share_9 (fun H locs hP _ hS => ?_)
  have hP : va_P D vwCl (wL q qo qd cI cZ cL cD σ κ0 κ1 g (gv gd (FP.f2d (FP.fconst0)))) H := hP
  refine lv_goto (tgt := 17) hx hb dL_share_10 (by decide) ?_
  refine n_iconst (k := 0) hx hb dL_share_17 (by decide) ?_
  refine W.widen (k := 1) (n := 6) (by decide) (by decide) ?_
  exact W.iret hx hb hr (fun t ht _ => ⟨rfl, by rw [ht]; exact hP, hS.F ht⟩) hS.2.2 dL_share_18 hlocks
set_option maxHeartbeats 4000000 in
set_option maxRecDepth 100000 in
theorem w_share_n (l : Launch) (D : va_G) (cI cZ cL cD : ClassId) (sa : Nat → Nat) (q : Nat → Nat) (qo qd : Nat) (σ κ0 κ1 : ST) (g : Nat → Int64) (gd : Nat → UInt64) (A : Nat → Prop) (hD : va_D A (wL q qo qd cI cZ cL cD σ κ0 κ1 g gd))  (b0 k9 : Nat) (hb9 : b0 < 6) (hk9 : k9 < 4) (hne : cnt (bxs σ b0) 60 ≠ 0) : Met l yL_share (codeL yL_share cL_share 5 (some .int) [(0, 10, 13, 13)]) ({ frames := 7, cells := 1, slots := 6, locals := 106 } : Room) (LwP D cI cZ cL cD sa (wL q qo qd cI cZ cL cD σ κ0 κ1 g gd) [.ref (q 0), .int (nI (b0)), .int (nI (k9)), .ref (qd)]) (WrQ (some (.int (nI 0))) D (wL q qo qd cI cZ cL cD σ κ0 κ1 g (gv gd (FP.f2d (FP.fdiv (FP.i2f (nI (cnt (fun j => mt (σ 4 j) (σ 5 j) (2 ^ b0) (2 ^ k9)) 60))) (FP.i2f (nI (cnt (bxs σ b0) 60))))))) A) 1 6 A := by
  refine va_MetW (cc := cL_share) (maxL := 5) (ret := (some .int)) (hh := [(0, 10, 13, 13)]) (by decide) rfl ?_
  intro p e s m args below meth c s₁ B hml hv
  obtain ⟨rfl, hP, hKK, hKL, hZ⟩ := hv
  have hx := B.exec
  have hb := B.bytes
  have hr := B.returns
  have htA : ∀ w ∈ WA, w.before _ s = true := fun w h => atoms_spec (ws := (codeL yL_share cL_share 5 (some .int) [(0, 10, 13, 13)])) B.pre w (List.mem_cons_of_mem _ h)
  have hown : s.vm.findClass RL = some m.cls := findClass_of_methodNamed B.named
  have hlocks := B.notSynchronized
  have hS : va_S A s.heap s.heap [] := va_S.rf
  have hl := lv_entry ([.ref (q 0), .int (nI (b0)), .int (nI (k9)), .ref (qd)]) (n := 5) (Nat.le_of_ble_eq_true rfl)
  rw [lg_entry_eq]
  generalize (lg_sl ([.ref (q 0), .int (nI (b0)), .int (nI (k9)), .ref (qd)]) ++ List.replicate (5 - (lg_sl ([.ref (q 0), .int (nI (b0)), .int (nI (k9)), .ref (qd)])).length) Slot.unset).toArray = ls at hl ⊢
  have hl : lv_has ls 5 [(0, .ref (q 0)), (1, .int (nI (b0))), (2, .int (nI (k9))), (3, .ref (qd))] := hl
  have hPX : va_P D vwCl (wX q cI cZ σ κ0 κ1) s.heap := hP.sub [2, 3, 4, 5, 6, 7, 8, 9, 10, 11, 12, 13, 14, 15, 16, 17, 18, 19, 20, 21, 22, 23, 24, 25] rfl
  have hDX : va_D A (wX q cI cZ σ κ0 κ1) := hD.sub [2, 3, 4, 5, 6, 7, 8, 9, 10, 11, 12, 13, 14, 15, 16, 17, 18, 19, 20, 21, 22, 23, 24, 25] (by decide) rfl
  refine lv_aload_n hx hb dL_share_0 rfl (lv_at hl 3 rfl) ?_
  refine n_iconst (k := 0) hx hb dL_share_1 (by decide) ?_
  refine lv_aload_n hx hb dL_share_2 rfl (lv_at hl 0 rfl) ?_
  refine lv_iload_n hx hb dL_share_3 rfl (lv_at hl 1 rfl) ?_
  refine lv_iload_n hx hb dL_share_4 rfl (lv_at hl 2 rfl) ?_
  refine roV1 (v := .float (FP.fdiv (FP.i2f (nI (cnt (fun j => mt (σ 4 j) (σ 5 j) (2 ^ b0) (2 ^ k9)) 60))) (FP.i2f (nI (cnt (bxs σ b0) 60))))) (As := [.int (nI (b0)), .int (nI (k9))]) (rest := [.int (nI (0)), .ref (qd)]) (n := 2) ⟨hx, hb, hml, hown, htA⟩ (f_share_n l D cI cZ sa q σ κ0 κ1 b0 k9 s.heap hPX hb9 hk9 hne) (cwV 2 htA (gdV wd_389 wd_390 wd_391 wd_1 wd_392) rfl rfl rfl (by decide +kernel) ⟨Nat.le_of_ble_eq_true rfl, Nat.le_of_ble_eq_true rfl⟩) hKK hPX 0 rfl rfl rfl hl.1 rfl (Nat.le_of_ble_eq_true rfl) dL_share_5 (Nat.zero_le _) (Nat.zero_le _) ?_
  refine lv_f2d hx hb dL_share_8 (f2d_nn _ _ (cnt_le _ _) (cnt_le _ _) hne) ?_
  refine va_dast hx hb hKL hP (D_addr hD rfl) hS 1 1 rfl rfl (vp_in_nI (n := 0) (N := 1) (by decide) (by decide)) dL_share_9 (fun H locs hP _ hS => ?_)
  have hP : va_P D vwCl (wL q qo qd cI cZ cL cD σ κ0 κ1 g (gv gd (FP.f2d (FP.fdiv (FP.i2f (nI (cnt (fun j => mt (σ 4 j) (σ 5 j) (2 ^ b0) (2 ^ k9)) 60))) (FP.i2f (nI (cnt (bxs σ b0) 60))))))) H := hP
  refine lv_goto (tgt := 17) hx hb dL_share_10 (by decide) ?_
  refine n_iconst (k := 0) hx hb dL_share_17 (by decide) ?_
  refine W.widen (k := 1) (n := 6) (by decide) (by decide) ?_
  exact W.iret hx hb hr (fun t ht _ => ⟨rfl, by rw [ht]; exact hP, hS.F ht⟩) hS.2.2 dL_share_18 hlocks
set_option maxHeartbeats 4000000 in
set_option maxRecDepth 100000 in
theorem w_canTell_bad (l : Launch) (D : va_G) (cI cZ cL cD : ClassId) (sa : Nat → Nat) (q : Nat → Nat) (qo qd : Nat) (σ κ0 κ1 : ST) (g : Nat → Int64) (gd : Nat → UInt64) (A : Nat → Prop) (hD : va_D A (wL q qo qd cI cZ cL cD σ κ0 κ1 g gd)) (hst9 : l.stackTraces = false)  (x : Int32) (hbad : iw (x) (nI (0)) (nI (σ 7 0)) = false) : Met l yL_canTell (codeL yL_canTell cL_canTell 4 (some .int) [(0, 16, 19, 13)]) ({ frames := 7, cells := 1, slots := 6, locals := 103 } : Room) (LwP D cI cZ cL cD sa (wL q qo qd cI cZ cL cD σ κ0 κ1 g gd) [.ref (q 0), .int (x), .ref (qo)]) (WrQ (some (.int (nI 1))) D (wL q qo qd cI cZ cL cD σ κ0 κ1 g gd) A) 1 6 A := by
  refine va_MetW (cc := cL_canTell) (maxL := 4) (ret := (some .int)) (hh := [(0, 16, 19, 13)]) (by decide) rfl ?_
  intro p e s m args below meth c s₁ B hml hv
  obtain ⟨rfl, hP, hKK, hKL, hZ⟩ := hv
  have hx := B.exec
  have hb := B.bytes
  have hr := B.returns
  have htA : ∀ w ∈ WA, w.before _ s = true := fun w h => atoms_spec (ws := (codeL yL_canTell cL_canTell 4 (some .int) [(0, 16, 19, 13)])) B.pre w (List.mem_cons_of_mem _ h)
  have hown : s.vm.findClass RL = some m.cls := findClass_of_methodNamed B.named
  have hlocks := B.notSynchronized
  have hS : va_S A s.heap s.heap [] := va_S.rf
  have hl := lv_entry ([.ref (q 0), .int (x), .ref (qo)]) (n := 4) (Nat.le_of_ble_eq_true rfl)
  rw [lg_entry_eq]
  generalize (lg_sl ([.ref (q 0), .int (x), .ref (qo)]) ++ List.replicate (4 - (lg_sl ([.ref (q 0), .int (x), .ref (qo)])).length) Slot.unset).toArray = ls at hl ⊢
  have hl : lv_has ls 4 [(0, .ref (q 0)), (1, .int (x)), (2, .ref (qo))] := hl
  have hPX : va_P D vwCl (wX q cI cZ σ κ0 κ1) s.heap := hP.sub [2, 3, 4, 5, 6, 7, 8, 9, 10, 11, 12, 13, 14, 15, 16, 17, 18, 19, 20, 21, 22, 23, 24, 25] rfl
  have hDX : va_D A (wX q cI cZ σ κ0 κ1) := hD.sub [2, 3, 4, 5, 6, 7, 8, 9, 10, 11, 12, 13, 14, 15, 16, 17, 18, 19, 20, 21, 22, 23, 24, 25] (by decide) rfl
  refine lv_aload_n hx hb dL_canTell_0 rfl (lv_at hl 2 rfl) ?_
  refine n_iconst (k := 0) hx hb dL_canTell_1 (by decide) ?_
  refine lv_aload_n hx hb dL_canTell_2 rfl (lv_at hl 0 rfl) ?_
  refine lv_iload_n hx hb dL_canTell_3 rfl (lv_at hl 1 rfl) ?_
  refine thV (As := [.int (x)]) (rest := [.int (nI (0)), .ref (qo)]) (n := 1) ⟨hx, hb, hml, hown, htA⟩ (f_canTell_bad l D cI cZ sa hst9 q σ κ0 κ1 x s.heap hPX hbad) (cwV 1 htA (gdV wd_400 wd_401 wd_402 wd_1 wd_403) rfl rfl rfl (by decide +kernel) ⟨Nat.le_of_ble_eq_true rfl, Nat.le_of_ble_eq_true rfl⟩) hKK hZ hPX 0 rfl rfl rfl hl.1 rfl (Nat.le_of_ble_eq_true rfl) dL_canTell_4 (Nat.le_of_ble_eq_true rfl) (Nat.le_of_ble_eq_true rfl) (fun H1 ce q9 hz hk hc hv hcl => ?_)
  refine vx_catch (name := "java/lang/IllegalArgumentException") hown [] ⟨0, 16, 19, 13⟩ [] ((vx_table (x := yL_canTell) B (htA _ wd_399)).trans rfl) (fun _ h => nomatch h) (by decide) (by decide) (htA _ wd_164) (va_Nw.use rfl (ex_cA hKK.2)) hc hv hcl ?_
  refine lv_astore_n (lv' := [(3, .ref (q9)), (0, .ref (q 0)), (1, .int (x)), (2, .ref (qo))]) hx hb dL_canTell_19 rfl hl (by decide) rfl (fun ls hl => ?_)
  refine n_iconst (k := 1) hx hb dL_canTell_20 (by decide) ?_
  exact W.iret hx hb hr (fun t ht _ => ⟨rfl, by rw [ht]; exact P_grow hP hk, ⟨by rw [ht]; exact hz, fun a ha _ => by rw [ht]; exact hk a ha⟩⟩) (fun _ h => nomatch h) dL_canTell_21 hlocks
set_option maxHeartbeats 4000000 in
set_option maxRecDepth 100000 in
theorem w_canTell_ok (l : Launch) (D : va_G) (cI cZ cL cD : ClassId) (sa : Nat → Nat) (q : Nat → Nat) (qo qd : Nat) (σ κ0 κ1 : ST) (g : Nat → Int64) (gd : Nat → UInt64) (A : Nat → Prop) (hD : va_D A (wL q qo qd cI cZ cL cD σ κ0 κ1 g gd))  (st : Nat) (hB : ∀ k i, σ k i < 1073741824) (hst : st ≤ σ 7 0) : Met l yL_canTell (codeL yL_canTell cL_canTell 4 (some .int) [(0, 16, 19, 13)]) ({ frames := 7, cells := 1, slots := 6, locals := 103 } : Room) (LwP D cI cZ cL cD sa (wL q qo qd cI cZ cL cD σ κ0 κ1 g gd) [.ref (q 0), .int (nI (st)), .ref (qo)]) (WrQ (some (.int (nI 0))) D (wL q qo qd cI cZ cL cD σ κ0 κ1 (gu g (bl (decide (σ 7 0 - st ≤ 40)))) gd) A) 1 6 A := by
  refine va_MetW (cc := cL_canTell) (maxL := 4) (ret := (some .int)) (hh := [(0, 16, 19, 13)]) (by decide) rfl ?_
  intro p e s m args below meth c s₁ B hml hv
  obtain ⟨rfl, hP, hKK, hKL, hZ⟩ := hv
  have hx := B.exec
  have hb := B.bytes
  have hr := B.returns
  have htA : ∀ w ∈ WA, w.before _ s = true := fun w h => atoms_spec (ws := (codeL yL_canTell cL_canTell 4 (some .int) [(0, 16, 19, 13)])) B.pre w (List.mem_cons_of_mem _ h)
  have hown : s.vm.findClass RL = some m.cls := findClass_of_methodNamed B.named
  have hlocks := B.notSynchronized
  have hS : va_S A s.heap s.heap [] := va_S.rf
  have hl := lv_entry ([.ref (q 0), .int (nI (st)), .ref (qo)]) (n := 4) (Nat.le_of_ble_eq_true rfl)
  rw [lg_entry_eq]
  generalize (lg_sl ([.ref (q 0), .int (nI (st)), .ref (qo)]) ++ List.replicate (4 - (lg_sl ([.ref (q 0), .int (nI (st)), .ref (qo)])).length) Slot.unset).toArray = ls at hl ⊢
  have hl : lv_has ls 4 [(0, .ref (q 0)), (1, .int (nI (st))), (2, .ref (qo))] := hl
  have hPX : va_P D vwCl (wX q cI cZ σ κ0 κ1) s.heap := hP.sub [2, 3, 4, 5, 6, 7, 8, 9, 10, 11, 12, 13, 14, 15, 16, 17, 18, 19, 20, 21, 22, 23, 24, 25] rfl
  have hDX : va_D A (wX q cI cZ σ κ0 κ1) := hD.sub [2, 3, 4, 5, 6, 7, 8, 9, 10, 11, 12, 13, 14, 15, 16, 17, 18, 19, 20, 21, 22, 23, 24, 25] (by decide) rfl
  refine lv_aload_n hx hb dL_canTell_0 rfl (lv_at hl 2 rfl) ?_
  refine n_iconst (k := 0) hx hb dL_canTell_1 (by decide) ?_
  refine lv_aload_n hx hb dL_canTell_2 rfl (lv_at hl 0 rfl) ?_
  refine lv_iload_n hx hb dL_canTell_3 rfl (lv_at hl 1 rfl) ?_
  refine roV1 (v := .int (b2i (decide (σ 7 0 - st ≤ 40)))) (As := [.int (nI (st))]) (rest := [.int (nI (0)), .ref (qo)]) (n := 1) ⟨hx, hb, hml, hown, htA⟩ (f_canTell_ok l D cI cZ sa q σ κ0 κ1 st s.heap hPX hB hst) (cwV 1 htA (gdV wd_400 wd_401 wd_402 wd_1 wd_403) rfl rfl rfl (by decide +kernel) ⟨Nat.le_of_ble_eq_true rfl, Nat.le_of_ble_eq_true rfl⟩) hKK hPX 0 rfl rfl rfl hl.1 rfl (Nat.le_of_ble_eq_true rfl) dL_canTell_4 (Nat.zero_le _) (Nat.zero_le _) ?_
  refine b_ifeq (b := decide (σ 7 0 - st ≤ 40)) (tgt := 14) hx hb dL_canTell_7 (by decide) (fun c9 => ?_) (fun c9 => ?_)
  · refine lv_lconst (v := 0) hx hb dL_canTell_14 (by decide) ?_
    rw [show (0 : Int64) = bl (decide (σ 7 0 - st ≤ 40)) from by rw [c9]; rfl]
    refine va_last hx hb hKL hP (D_addr hD rfl) hS 0 0 rfl rfl (vp_in_nI (n := 0) (N := 1) (by decide) (by decide)) dL_canTell_15 (fun H locs hP _ hS => ?_)
    have hP : va_P D vwCl (wL q qo qd cI cZ cL cD σ κ0 κ1 (gu g (bl (decide (σ 7 0 - st ≤ 40)))) gd) H := hP
    refine lv_goto (tgt := 22) hx hb dL_canTell_16 (by decide) ?_
    refine n_iconst (k := 0) hx hb dL_canTell_22 (by decide) ?_
    refine W.widen (k := 1) (n := 6) (by decide) (by decide) ?_
    exact W.iret hx hb hr (fun t ht _ => ⟨rfl, by rw [ht]; exact hP, hS.F ht⟩) hS.2.2 dL_canTell_23 hlocks
  · refine lv_lconst (v := 1) hx hb dL_canTell_10 (by decide) ?_
    rw [show (1 : Int64) = bl (decide (σ 7 0 - st ≤ 40)) from by rw [c9]; rfl]
    refine lv_goto (tgt := 15) hx hb dL_canTell_11 (by decide) ?_
    refine va_last hx hb hKL hP (D_addr hD rfl) hS 0 0 rfl rfl (vp_in_nI (n := 0) (N := 1) (by decide) (by decide)) dL_canTell_15 (fun H locs hP _ hS => ?_)
    have hP : va_P D vwCl (wL q qo qd cI cZ cL cD σ κ0 κ1 (gu g (bl (decide (σ 7 0 - st ≤ 40)))) gd) H := hP
    refine lv_goto (tgt := 22) hx hb dL_canTell_16 (by decide) ?_
    refine n_iconst (k := 0) hx hb dL_canTell_22 (by decide) ?_
    refine W.widen (k := 1) (n := 6) (by decide) (by decide) ?_
    exact W.iret hx hb hr (fun t ht _ => ⟨rfl, by rw [ht]; exact hP, hS.F ht⟩) hS.2.2 dL_canTell_23 hlocks
set_option maxHeartbeats 4000000 in
set_option maxRecDepth 100000 in
theorem w_changed_bad (l : Launch) (D : va_G) (cI cZ cL cD : ClassId) (sa : Nat → Nat) (q : Nat → Nat) (qo qd : Nat) (σ κ0 κ1 : ST) (g : Nat → Int64) (gd : Nat → UInt64) (A : Nat → Prop) (hD : va_D A (wL q qo qd cI cZ cL cD σ κ0 κ1 g gd)) (hst9 : l.stackTraces = false)  (x y9 : Int32) (hbad : (iw (x) (nI (0)) (nI (σ 7 0)) && iw (y9) (nI (0)) (nI (2))) = false) : Met l yL_changed (codeL yL_changed cL_changed 5 (some .int) [(0, 10, 13, 13), (0, 10, 17, 15)]) ({ frames := 8, cells := 1, slots := 6, locals := 144 } : Room) (LwP D cI cZ cL cD sa (wL q qo qd cI cZ cL cD σ κ0 κ1 g gd) [.ref (q 0), .int (x), .int (y9), .ref (qo)]) (WrQ (some (.int (nI 1))) D (wL q qo qd cI cZ cL cD σ κ0 κ1 g gd) A) 1 6 A := by
  refine va_MetW (cc := cL_changed) (maxL := 5) (ret := (some .int)) (hh := [(0, 10, 13, 13), (0, 10, 17, 15)]) (by decide) rfl ?_
  intro p e s m args below meth c s₁ B hml hv
  obtain ⟨rfl, hP, hKK, hKL, hZ⟩ := hv
  have hx := B.exec
  have hb := B.bytes
  have hr := B.returns
  have htA : ∀ w ∈ WA, w.before _ s = true := fun w h => atoms_spec (ws := (codeL yL_changed cL_changed 5 (some .int) [(0, 10, 13, 13), (0, 10, 17, 15)])) B.pre w (List.mem_cons_of_mem _ h)
  have hown : s.vm.findClass RL = some m.cls := findClass_of_methodNamed B.named
  have hlocks := B.notSynchronized
  have hS : va_S A s.heap s.heap [] := va_S.rf
  have hl := lv_entry ([.ref (q 0), .int (x), .int (y9), .ref (qo)]) (n := 5) (Nat.le_of_ble_eq_true rfl)
  rw [lg_entry_eq]
  generalize (lg_sl ([.ref (q 0), .int (x), .int (y9), .ref (qo)]) ++ List.replicate (5 - (lg_sl ([.ref (q 0), .int (x), .int (y9), .ref (qo)])).length) Slot.unset).toArray = ls at hl ⊢
  have hl : lv_has ls 5 [(0, .ref (q 0)), (1, .int (x)), (2, .int (y9)), (3, .ref (qo))] := hl
  have hPX : va_P D vwCl (wX q cI cZ σ κ0 κ1) s.heap := hP.sub [2, 3, 4, 5, 6, 7, 8, 9, 10, 11, 12, 13, 14, 15, 16, 17, 18, 19, 20, 21, 22, 23, 24, 25] rfl
  have hDX : va_D A (wX q cI cZ σ κ0 κ1) := hD.sub [2, 3, 4, 5, 6, 7, 8, 9, 10, 11, 12, 13, 14, 15, 16, 17, 18, 19, 20, 21, 22, 23, 24, 25] (by decide) rfl
  refine lv_aload_n hx hb dL_changed_0 rfl (lv_at hl 3 rfl) ?_
  refine n_iconst (k := 0) hx hb dL_changed_1 (by decide) ?_
  refine lv_aload_n hx hb dL_changed_2 rfl (lv_at hl 0 rfl) ?_
  refine lv_iload_n hx hb dL_changed_3 rfl (lv_at hl 1 rfl) ?_
  refine lv_iload_n hx hb dL_changed_4 rfl (lv_at hl 2 rfl) ?_
  refine thV (As := [.int (x), .int (y9)]) (rest := [.int (nI (0)), .ref (qo)]) (n := 2) ⟨hx, hb, hml, hown, htA⟩ (f_changed_bad l D cI cZ sa hst9 q σ κ0 κ1 x y9 s.heap hPX hbad) (cwV 2 htA (gdV wd_416 wd_417 wd_418 wd_1 wd_419) rfl rfl rfl (by decide +kernel) ⟨Nat.le_of_ble_eq_true rfl, Nat.le_of_ble_eq_true rfl⟩) hKK hZ hPX 0 rfl rfl rfl hl.1 rfl (Nat.le_of_ble_eq_true rfl) dL_changed_5 (Nat.le_of_ble_eq_true rfl) (Nat.le_of_ble_eq_true rfl) (fun H1 ce q9 hz hk hc hv hcl => ?_)
  refine vx_catch (name := "java/lang/IllegalArgumentException") hown [] ⟨0, 10, 13, 13⟩ [⟨0, 10, 17, 15⟩] ((vx_table (x := yL_changed) B (htA _ wd_415)).trans rfl) (fun _ h => nomatch h) (by decide) (by decide) (htA _ wd_164) (va_Nw.use rfl (ex_cA hKK.2)) hc hv hcl ?_
  refine lv_astore (lv' := [(4, .ref (q9)), (0, .ref (q 0)), (1, .int (x)), (2, .int (y9)), (3, .ref (qo))]) hx hb dL_changed_13 hl (by decide) rfl (fun ls hl => ?_)
  refine n_iconst (k := 1) hx hb dL_changed_15 (by decide) ?_
  exact W.iret hx hb hr (fun t ht _ => ⟨rfl, by rw [ht]; exact P_grow hP hk, ⟨by rw [ht]; exact hz, fun a ha _ => by rw [ht]; exact hk a ha⟩⟩) (fun _ h => nomatch h) dL_changed_16 hlocks
set_option maxHeartbeats 4000000 in
set_option maxRecDepth 100000 in
theorem w_changed_no (l : Launch) (D : va_G) (cI cZ cL cD : ClassId) (sa : Nat → Nat) (q : Nat → Nat) (qo qd : Nat) (σ κ0 κ1 : ST) (g : Nat → Int64) (gd : Nat → UInt64) (A : Nat → Prop) (hD : va_D A (wL q qo qd cI cZ cL cD σ κ0 κ1 g gd)) (hst9 : l.stackTraces = false)  (st way : Nat) (hB : ∀ k i, σ k i < 1073741824) (hst : st ≤ σ 7 0) (hw3 : way < 3) (hv9 : decide (σ 7 0 - st ≤ 40) = false) : Met l yL_changed (codeL yL_changed cL_changed 5 (some .int) [(0, 10, 13, 13), (0, 10, 17, 15)]) ({ frames := 8, cells := 1, slots := 6, locals := 144 } : Room) (LwP D cI cZ cL cD sa (wL q qo qd cI cZ cL cD σ κ0 κ1 g gd) [.ref (q 0), .int (nI (st)), .int (nI (way)), .ref (qo)]) (WrQ (some (.int (nI 2))) D (wL q qo qd cI cZ cL cD σ κ0 κ1 g gd) A) 1 6 A := by
  refine va_MetW (cc := cL_changed) (maxL := 5) (ret := (some .int)) (hh := [(0, 10, 13, 13), (0, 10, 17, 15)]) (by decide) rfl ?_
  intro p e s m args below meth c s₁ B hml hv
  obtain ⟨rfl, hP, hKK, hKL, hZ⟩ := hv
  have hx := B.exec
  have hb := B.bytes
  have hr := B.returns
  have htA : ∀ w ∈ WA, w.before _ s = true := fun w h => atoms_spec (ws := (codeL yL_changed cL_changed 5 (some .int) [(0, 10, 13, 13), (0, 10, 17, 15)])) B.pre w (List.mem_cons_of_mem _ h)
  have hown : s.vm.findClass RL = some m.cls := findClass_of_methodNamed B.named
  have hlocks := B.notSynchronized
  have hS : va_S A s.heap s.heap [] := va_S.rf
  have hl := lv_entry ([.ref (q 0), .int (nI (st)), .int (nI (way)), .ref (qo)]) (n := 5) (Nat.le_of_ble_eq_true rfl)
  rw [lg_entry_eq]
  generalize (lg_sl ([.ref (q 0), .int (nI (st)), .int (nI (way)), .ref (qo)]) ++ List.replicate (5 - (lg_sl ([.ref (q 0), .int (nI (st)), .int (nI (way)), .ref (qo)])).length) Slot.unset).toArray = ls at hl ⊢
  have hl : lv_has ls 5 [(0, .ref (q 0)), (1, .int (nI (st))), (2, .int (nI (way))), (3, .ref (qo))] := hl
  have hPX : va_P D vwCl (wX q cI cZ σ κ0 κ1) s.heap := hP.sub [2, 3, 4, 5, 6, 7, 8, 9, 10, 11, 12, 13, 14, 15, 16, 17, 18, 19, 20, 21, 22, 23, 24, 25] rfl
  have hDX : va_D A (wX q cI cZ σ κ0 κ1) := hD.sub [2, 3, 4, 5, 6, 7, 8, 9, 10, 11, 12, 13, 14, 15, 16, 17, 18, 19, 20, 21, 22, 23, 24, 25] (by decide) rfl
  refine lv_aload_n hx hb dL_changed_0 rfl (lv_at hl 3 rfl) ?_
  refine n_iconst (k := 0) hx hb dL_changed_1 (by decide) ?_
  refine lv_aload_n hx hb dL_changed_2 rfl (lv_at hl 0 rfl) ?_
  refine lv_iload_n hx hb dL_changed_3 rfl (lv_at hl 1 rfl) ?_
  refine lv_iload_n hx hb dL_changed_4 rfl (lv_at hl 2 rfl) ?_
  refine thV (As := [.int (nI (st)), .int (nI (way))]) (rest := [.int (nI (0)), .ref (qo)]) (n := 2) ⟨hx, hb, hml, hown, htA⟩ (f_changed_no l D cI cZ sa hst9 q σ κ0 κ1 st way s.heap hPX hB hst hw3 hv9) (cwV 2 htA (gdV wd_416 wd_417 wd_418 wd_1 wd_419) rfl rfl rfl (by decide +kernel) ⟨Nat.le_of_ble_eq_true rfl, Nat.le_of_ble_eq_true rfl⟩) hKK hZ hPX 0 rfl rfl rfl hl.1 rfl (Nat.le_of_ble_eq_true rfl) dL_changed_5 (Nat.le_of_ble_eq_true rfl) (Nat.le_of_ble_eq_true rfl) (fun H1 ce q9 hz hk hc hv hcl => ?_)
  refine vx_catch (name := "java/lang/IllegalStateException") hown [⟨0, 10, 13, 13⟩] ⟨0, 10, 17, 15⟩ [] ((vx_table (x := yL_changed) B (htA _ wd_415)).trans rfl) (List.forall_mem_cons.mpr ⟨Or.inr ⟨by decide, "java/lang/IllegalArgumentException", htA _ wd_164, ex_nSA hKK.2⟩, (fun _ h => nomatch h)⟩) (by decide) (by decide) (htA _ wd_165) (va_Nw.use rfl (ex_cS hKK.2)) hc hv hcl ?_
  refine lv_astore (lv' := [(4, .ref (q9)), (0, .ref (q 0)), (1, .int (nI (st))), (2, .int (nI (way))), (3, .ref (qo))]) hx hb dL_changed_17 hl (by decide) rfl (fun ls hl => ?_)
  refine n_iconst (k := 2) hx hb dL_changed_19 (by decide) ?_
  exact W.iret hx hb hr (fun t ht _ => ⟨rfl, by rw [ht]; exact P_grow hP hk, ⟨by rw [ht]; exact hz, fun a ha _ => by rw [ht]; exact hk a ha⟩⟩) (fun _ h => nomatch h) dL_changed_20 hlocks
set_option maxHeartbeats 4000000 in
set_option maxRecDepth 100000 in
theorem w_changed_ok (l : Launch) (D : va_G) (cI cZ cL cD : ClassId) (sa : Nat → Nat) (q : Nat → Nat) (qo qd : Nat) (σ κ0 κ1 : ST) (g : Nat → Int64) (gd : Nat → UInt64) (A : Nat → Prop) (hD : va_D A (wL q qo qd cI cZ cL cD σ κ0 κ1 g gd))  (st way : Nat) (hB : ∀ k i, σ k i < 1073741824) (hst : st ≤ σ 7 0) (hw3 : way < 3) (hv9 : decide (σ 7 0 - st ≤ 40) = true) : Met l yL_changed (codeL yL_changed cL_changed 5 (some .int) [(0, 10, 13, 13), (0, 10, 17, 15)]) ({ frames := 8, cells := 1, slots := 6, locals := 144 } : Room) (LwP D cI cZ cL cD sa (wL q qo qd cI cZ cL cD σ κ0 κ1 g gd) [.ref (q 0), .int (nI (st)), .int (nI (way)), .ref (qo)]) (WrQ (some (.int (nI 0))) D (wL q qo qd cI cZ cL cD σ κ0 κ1 (gu g ((bitc (chs σ st way)).toInt64)) gd) A) 1 6 A := by
  refine va_MetW (cc := cL_changed) (maxL := 5) (ret := (some .int)) (hh := [(0, 10, 13, 13), (0, 10, 17, 15)]) (by decide) rfl ?_
  intro p e s m args below meth c s₁ B hml hv
  obtain ⟨rfl, hP, hKK, hKL, hZ⟩ := hv
  have hx := B.exec
  have hb := B.bytes
  have hr := B.returns
  have htA : ∀ w ∈ WA, w.before _ s = true := fun w h => atoms_spec (ws := (codeL yL_changed cL_changed 5 (some .int) [(0, 10, 13, 13), (0, 10, 17, 15)])) B.pre w (List.mem_cons_of_mem _ h)
  have hown : s.vm.findClass RL = some m.cls := findClass_of_methodNamed B.named
  have hlocks := B.notSynchronized
  have hS : va_S A s.heap s.heap [] := va_S.rf
  have hl := lv_entry ([.ref (q 0), .int (nI (st)), .int (nI (way)), .ref (qo)]) (n := 5) (Nat.le_of_ble_eq_true rfl)
  rw [lg_entry_eq]
  generalize (lg_sl ([.ref (q 0), .int (nI (st)), .int (nI (way)), .ref (qo)]) ++ List.replicate (5 - (lg_sl ([.ref (q 0), .int (nI (st)), .int (nI (way)), .ref (qo)])).length) Slot.unset).toArray = ls at hl ⊢
  have hl : lv_has ls 5 [(0, .ref (q 0)), (1, .int (nI (st))), (2, .int (nI (way))), (3, .ref (qo))] := hl
  have hPX : va_P D vwCl (wX q cI cZ σ κ0 κ1) s.heap := hP.sub [2, 3, 4, 5, 6, 7, 8, 9, 10, 11, 12, 13, 14, 15, 16, 17, 18, 19, 20, 21, 22, 23, 24, 25] rfl
  have hDX : va_D A (wX q cI cZ σ κ0 κ1) := hD.sub [2, 3, 4, 5, 6, 7, 8, 9, 10, 11, 12, 13, 14, 15, 16, 17, 18, 19, 20, 21, 22, 23, 24, 25] (by decide) rfl
  refine lv_aload_n hx hb dL_changed_0 rfl (lv_at hl 3 rfl) ?_
  refine n_iconst (k := 0) hx hb dL_changed_1 (by decide) ?_
  refine lv_aload_n hx hb dL_changed_2 rfl (lv_at hl 0 rfl) ?_
  refine lv_iload_n hx hb dL_changed_3 rfl (lv_at hl 1 rfl) ?_
  refine lv_iload_n hx hb dL_changed_4 rfl (lv_at hl 2 rfl) ?_
  refine roV1 (v := .int (bitc (chs σ st way))) (As := [.int (nI (st)), .int (nI (way))]) (rest := [.int (nI (0)), .ref (qo)]) (n := 2) ⟨hx, hb, hml, hown, htA⟩ (f_changed_ok l D cI cZ sa q σ κ0 κ1 st way s.heap hPX hB hst hw3 hv9) (cwV 2 htA (gdV wd_416 wd_417 wd_418 wd_1 wd_419) rfl rfl rfl (by decide +kernel) ⟨Nat.le_of_ble_eq_true rfl, Nat.le_of_ble_eq_true rfl⟩) hKK hPX 0 rfl rfl rfl hl.1 rfl (Nat.le_of_ble_eq_true rfl) dL_changed_5 (Nat.zero_le _) (Nat.zero_le _) ?_
  refine lv_i2l hx hb dL_changed_8 rfl ?_
  refine va_last hx hb hKL hP (D_addr hD rfl) hS 0 0 rfl rfl (vp_in_nI (n := 0) (N := 1) (by decide) (by decide)) dL_changed_9 (fun H locs hP _ hS => ?_)
  have hP : va_P D vwCl (wL q qo qd cI cZ cL cD σ κ0 κ1 (gu g ((bitc (chs σ st way)).toInt64)) gd) H := hP
  refine lv_goto (tgt := 21) hx hb dL_changed_10 (by decide) ?_
  refine n_iconst (k := 0) hx hb dL_changed_21 (by decide) ?_
  refine W.widen (k := 1) (n := 6) (by decide) (by decide) ?_
  exact W.iret hx hb hr (fun t ht _ => ⟨rfl, by rw [ht]; exact hP, hS.F ht⟩) hS.2.2 dL_changed_22 hlocks
set_option maxHeartbeats 4000000 in
set_option maxRecDepth 100000 in
theorem w_changedAt_bad (l : Launch) (D : va_G) (cI cZ cL cD : ClassId) (sa : Nat → Nat) (q : Nat → Nat) (qo qd : Nat) (σ κ0 κ1 : ST) (g : Nat → Int64) (gd : Nat → UInt64) (A : Nat → Prop) (hD : va_D A (wL q qo qd cI cZ cL cD σ κ0 κ1 g gd)) (hst9 : l.stackTraces = false)  (x y9 ix : Int32) (hbad : (iw (x) (nI (0)) (nI (σ 7 0)) && iw (y9) (nI (0)) (nI (2))) = false) : Met l yL_changedAt (codeL yL_changedAt cL_changedAt 6 (some .int) [(0, 12, 15, 13), (0, 12, 19, 15), (0, 12, 23, 21)]) ({ frames := 8, cells := 1, slots := 6, locals := 146 } : Room) (LwP D cI cZ cL cD sa (wL q qo qd cI cZ cL cD σ κ0 κ1 g gd) [.ref (q 0), .int (x), .int (y9), .int (ix), .ref (qo)]) (WrQ (some (.int (nI 1))) D (wL q qo qd cI cZ cL cD σ κ0 κ1 g gd) A) 1 6 A := by
  refine va_MetW (cc := cL_changedAt) (maxL := 6) (ret := (some .int)) (hh := [(0, 12, 15, 13), (0, 12, 19, 15), (0, 12, 23, 21)]) (by decide) rfl ?_
  intro p e s m args below meth c s₁ B hml hv
  obtain ⟨rfl, hP, hKK, hKL, hZ⟩ := hv
  have hx := B.exec
  have hb := B.bytes
  have hr := B.returns
  have htA : ∀ w ∈ WA, w.before _ s = true := fun w h => atoms_spec (ws := (codeL yL_changedAt cL_changedAt 6 (some .int) [(0, 12, 15, 13), (0, 12, 19, 15), (0, 12, 23, 21)])) B.pre w (List.mem_cons_of_mem _ h)
  have hown : s.vm.findClass RL = some m.cls := findClass_of_methodNamed B.named
  have hlocks := B.notSynchronized
  have hS : va_S A s.heap s.heap [] := va_S.rf
  have hl := lv_entry ([.ref (q 0), .int (x), .int (y9), .int (ix), .ref (qo)]) (n := 6) (Nat.le_of_ble_eq_true rfl)
  rw [lg_entry_eq]
  generalize (lg_sl ([.ref (q 0), .int (x), .int (y9), .int (ix), .ref (qo)]) ++ List.replicate (6 - (lg_sl ([.ref (q 0), .int (x), .int (y9), .int (ix), .ref (qo)])).length) Slot.unset).toArray = ls at hl ⊢
  have hl : lv_has ls 6 [(0, .ref (q 0)), (1, .int (x)), (2, .int (y9)), (3, .int (ix)), (4, .ref (qo))] := hl
  have hPX : va_P D vwCl (wX q cI cZ σ κ0 κ1) s.heap := hP.sub [2, 3, 4, 5, 6, 7, 8, 9, 10, 11, 12, 13, 14, 15, 16, 17, 18, 19, 20, 21, 22, 23, 24, 25] rfl
  have hDX : va_D A (wX q cI cZ σ κ0 κ1) := hD.sub [2, 3, 4, 5, 6, 7, 8, 9, 10, 11, 12, 13, 14, 15, 16, 17, 18, 19, 20, 21, 22, 23, 24, 25] (by decide) rfl
  refine lv_aload hx hb dL_changedAt_0 (lv_at hl 4 rfl) ?_
  refine n_iconst (k := 0) hx hb dL_changedAt_2 (by decide) ?_
  refine lv_aload_n hx hb dL_changedAt_3 rfl (lv_at hl 0 rfl) ?_
  refine lv_iload_n hx hb dL_changedAt_4 rfl (lv_at hl 1 rfl) ?_
  refine lv_iload_n hx hb dL_changedAt_5 rfl (lv_at hl 2 rfl) ?_
  refine lv_iload_n hx hb dL_changedAt_6 rfl (lv_at hl 3 rfl) ?_
  refine thV (As := [.int (x), .int (y9), .int (ix)]) (rest := [.int (nI (0)), .ref (qo)]) (n := 3) ⟨hx, hb, hml, hown, htA⟩ (f_changedAt_bad l D cI cZ sa hst9 q σ κ0 κ1 x y9 ix s.heap hPX hbad) (cwV 3 htA (gdV wd_457 wd_458 wd_459 wd_1 wd_460) rfl rfl rfl (by decide +kernel) ⟨Nat.le_of_ble_eq_true rfl, Nat.le_of_ble_eq_true rfl⟩) hKK hZ hPX 0 rfl rfl rfl hl.1 rfl (Nat.le_of_ble_eq_true rfl) dL_changedAt_7 (Nat.le_of_ble_eq_true rfl) (Nat.le_of_ble_eq_true rfl) (fun H1 ce q9 hz hk hc hv hcl => ?_)
  refine vx_catch (name := "java/lang/IllegalArgumentException") hown [] ⟨0, 12, 15, 13⟩ [⟨0, 12, 19, 15⟩, ⟨0, 12, 23, 21⟩] ((vx_table (x := yL_changedAt) B (htA _ wd_456)).trans rfl) (fun _ h => nomatch h) (by decide) (by decide) (htA _ wd_164) (va_Nw.use rfl (ex_cA hKK.2)) hc hv hcl ?_
  refine lv_astore (lv' := [(5, .ref (q9)), (0, .ref (q 0)), (1, .int (x)), (2, .int (y9)), (3, .int (ix)), (4, .ref (qo))]) hx hb dL_changedAt_15 hl (by decide) rfl (fun ls hl => ?_)
  refine n_iconst (k := 1) hx hb dL_changedAt_17 (by decide) ?_
  exact W.iret hx hb hr (fun t ht _ => ⟨rfl, by rw [ht]; exact P_grow hP hk, ⟨by rw [ht]; exact hz, fun a ha _ => by rw [ht]; exact hk a ha⟩⟩) (fun _ h => nomatch h) dL_changedAt_18 hlocks
set_option maxHeartbeats 4000000 in
set_option maxRecDepth 100000 in
theorem w_changedAt_no (l : Launch) (D : va_G) (cI cZ cL cD : ClassId) (sa : Nat → Nat) (q : Nat → Nat) (qo qd : Nat) (σ κ0 κ1 : ST) (g : Nat → Int64) (gd : Nat → UInt64) (A : Nat → Prop) (hD : va_D A (wL q qo qd cI cZ cL cD σ κ0 κ1 g gd)) (hst9 : l.stackTraces = false)  (st way : Nat) (ix : Int32) (hB : ∀ k i, σ k i < 1073741824) (hst : st ≤ σ 7 0) (hw3 : way < 3) (hv9 : decide (σ 7 0 - st ≤ 40) = false) : Met l yL_changedAt (codeL yL_changedAt cL_changedAt 6 (some .int) [(0, 12, 15, 13), (0, 12, 19, 15), (0, 12, 23, 21)]) ({ frames := 8, cells := 1, slots := 6, locals := 146 } : Room) (LwP D cI cZ cL cD sa (wL q qo qd cI cZ cL cD σ κ0 κ1 g gd) [.ref (q 0), .int (nI (st)), .int (nI (way)), .int (ix), .ref (qo)]) (WrQ (some (.int (nI 2))) D (wL q qo qd cI cZ cL cD σ κ0 κ1 g gd) A) 1 6 A := by
  refine va_MetW (cc := cL_changedAt) (maxL := 6) (ret := (some .int)) (hh := [(0, 12, 15, 13), (0, 12, 19, 15), (0, 12, 23, 21)]) (by decide) rfl ?_
  intro p e s m args below meth c s₁ B hml hv
  obtain ⟨rfl, hP, hKK, hKL, hZ⟩ := hv
  have hx := B.exec
  have hb := B.bytes
  have hr := B.returns
  have htA : ∀ w ∈ WA, w.before _ s = true := fun w h => atoms_spec (ws := (codeL yL_changedAt cL_changedAt 6 (some .int) [(0, 12, 15, 13), (0, 12, 19, 15), (0, 12, 23, 21)])) B.pre w (List.mem_cons_of_mem _ h)
  have hown : s.vm.findClass RL = some m.cls := findClass_of_methodNamed B.named
  have hlocks := B.notSynchronized
  have hS : va_S A s.heap s.heap [] := va_S.rf
  have hl := lv_entry ([.ref (q 0), .int (nI (st)), .int (nI (way)), .int (ix), .ref (qo)]) (n := 6) (Nat.le_of_ble_eq_true rfl)
  rw [lg_entry_eq]
  generalize (lg_sl ([.ref (q 0), .int (nI (st)), .int (nI (way)), .int (ix), .ref (qo)]) ++ List.replicate (6 - (lg_sl ([.ref (q 0), .int (nI (st)), .int (nI (way)), .int (ix), .ref (qo)])).length) Slot.unset).toArray = ls at hl ⊢
  have hl : lv_has ls 6 [(0, .ref (q 0)), (1, .int (nI (st))), (2, .int (nI (way))), (3, .int (ix)), (4, .ref (qo))] := hl
  have hPX : va_P D vwCl (wX q cI cZ σ κ0 κ1) s.heap := hP.sub [2, 3, 4, 5, 6, 7, 8, 9, 10, 11, 12, 13, 14, 15, 16, 17, 18, 19, 20, 21, 22, 23, 24, 25] rfl
  have hDX : va_D A (wX q cI cZ σ κ0 κ1) := hD.sub [2, 3, 4, 5, 6, 7, 8, 9, 10, 11, 12, 13, 14, 15, 16, 17, 18, 19, 20, 21, 22, 23, 24, 25] (by decide) rfl
  refine lv_aload hx hb dL_changedAt_0 (lv_at hl 4 rfl) ?_
  refine n_iconst (k := 0) hx hb dL_changedAt_2 (by decide) ?_
  refine lv_aload_n hx hb dL_changedAt_3 rfl (lv_at hl 0 rfl) ?_
  refine lv_iload_n hx hb dL_changedAt_4 rfl (lv_at hl 1 rfl) ?_
  refine lv_iload_n hx hb dL_changedAt_5 rfl (lv_at hl 2 rfl) ?_
  refine lv_iload_n hx hb dL_changedAt_6 rfl (lv_at hl 3 rfl) ?_
  refine thV (As := [.int (nI (st)), .int (nI (way)), .int (ix)]) (rest := [.int (nI (0)), .ref (qo)]) (n := 3) ⟨hx, hb, hml, hown, htA⟩ (f_changedAt_no l D cI cZ sa hst9 q σ κ0 κ1 st way ix s.heap hPX hB hst hw3 hv9) (cwV 3 htA (gdV wd_457 wd_458 wd_459 wd_1 wd_460) rfl rfl rfl (by decide +kernel) ⟨Nat.le_of_ble_eq_true rfl, Nat.le_of_ble_eq_true rfl⟩) hKK hZ hPX 0 rfl rfl rfl hl.1 rfl (Nat.le_of_ble_eq_true rfl) dL_changedAt_7 (Nat.le_of_ble_eq_true rfl) (Nat.le_of_ble_eq_true rfl) (fun H1 ce q9 hz hk hc hv hcl => ?_)
  refine vx_catch (name := "java/lang/IllegalStateException") hown [⟨0, 12, 15, 13⟩] ⟨0, 12, 19, 15⟩ [⟨0, 12, 23, 21⟩] ((vx_table (x := yL_changedAt) B (htA _ wd_456)).trans rfl) (List.forall_mem_cons.mpr ⟨Or.inr ⟨by decide, "java/lang/IllegalArgumentException", htA _ wd_164, ex_nSA hKK.2⟩, (fun _ h => nomatch h)⟩) (by decide) (by decide) (htA _ wd_165) (va_Nw.use rfl (ex_cS hKK.2)) hc hv hcl ?_
  refine lv_astore (lv' := [(5, .ref (q9)), (0, .ref (q 0)), (1, .int (nI (st))), (2, .int (nI (way))), (3, .int (ix)), (4, .ref (qo))]) hx hb dL_changedAt_19 hl (by decide) rfl (fun ls hl => ?_)
  refine n_iconst (k := 2) hx hb dL_changedAt_21 (by decide) ?_
  exact W.iret hx hb hr (fun t ht _ => ⟨rfl, by rw [ht]; exact P_grow hP hk, ⟨by rw [ht]; exact hz, fun a ha _ => by rw [ht]; exact hk a ha⟩⟩) (fun _ h => nomatch h) dL_changedAt_22 hlocks
set_option maxHeartbeats 4000000 in
set_option maxRecDepth 100000 in
theorem w_changedAt_ix (l : Launch) (D : va_G) (cI cZ cL cD : ClassId) (sa : Nat → Nat) (q : Nat → Nat) (qo qd : Nat) (σ κ0 κ1 : ST) (g : Nat → Int64) (gd : Nat → UInt64) (A : Nat → Prop) (hD : va_D A (wL q qo qd cI cZ cL cD σ κ0 κ1 g gd)) (hst9 : l.stackTraces = false)  (st way : Nat) (ix : Int32) (hB : ∀ k i, σ k i < 1073741824) (hst : st ≤ σ 7 0) (hw3 : way < 3) (hv9 : decide (σ 7 0 - st ≤ 40) = true) (hz : low (chs σ st way) ix 60 0 0 = 0) : Met l yL_changedAt (codeL yL_changedAt cL_changedAt 6 (some .int) [(0, 12, 15, 13), (0, 12, 19, 15), (0, 12, 23, 21)]) ({ frames := 8, cells := 1, slots := 6, locals := 146 } : Room) (LwP D cI cZ cL cD sa (wL q qo qd cI cZ cL cD σ κ0 κ1 g gd) [.ref (q 0), .int (nI (st)), .int (nI (way)), .int (ix), .ref (qo)]) (WrQ (some (.int (nI 3))) D (wL q qo qd cI cZ cL cD σ κ0 κ1 g gd) A) 1 6 A := by
  refine va_MetW (cc := cL_changedAt) (maxL := 6) (ret := (some .int)) (hh := [(0, 12, 15, 13), (0, 12, 19, 15), (0, 12, 23, 21)]) (by decide) rfl ?_
  intro p e s m args below meth c s₁ B hml hv
  obtain ⟨rfl, hP, hKK, hKL, hZ⟩ := hv
  have hx := B.exec
  have hb := B.bytes
  have hr := B.returns
  have htA : ∀ w ∈ WA, w.before _ s = true := fun w h => atoms_spec (ws := (codeL yL_changedAt cL_changedAt 6 (some .int) [(0, 12, 15, 13), (0, 12, 19, 15), (0, 12, 23, 21)])) B.pre w (List.mem_cons_of_mem _ h)
  have hown : s.vm.findClass RL = some m.cls := findClass_of_methodNamed B.named
  have hlocks := B.notSynchronized
  have hS : va_S A s.heap s.heap [] := va_S.rf
  have hl := lv_entry ([.ref (q 0), .int (nI (st)), .int (nI (way)), .int (ix), .ref (qo)]) (n := 6) (Nat.le_of_ble_eq_true rfl)
  rw [lg_entry_eq]
  generalize (lg_sl ([.ref (q 0), .int (nI (st)), .int (nI (way)), .int (ix), .ref (qo)]) ++ List.replicate (6 - (lg_sl ([.ref (q 0), .int (nI (st)), .int (nI (way)), .int (ix), .ref (qo)])).length) Slot.unset).toArray = ls at hl ⊢
  have hl : lv_has ls 6 [(0, .ref (q 0)), (1, .int (nI (st))), (2, .int (nI (way))), (3, .int (ix)), (4, .ref (qo))] := hl
  have hPX : va_P D vwCl (wX q cI cZ σ κ0 κ1) s.heap := hP.sub [2, 3, 4, 5, 6, 7, 8, 9, 10, 11, 12, 13, 14, 15, 16, 17, 18, 19, 20, 21, 22, 23, 24, 25] rfl
  have hDX : va_D A (wX q cI cZ σ κ0 κ1) := hD.sub [2, 3, 4, 5, 6, 7, 8, 9, 10, 11, 12, 13, 14, 15, 16, 17, 18, 19, 20, 21, 22, 23, 24, 25] (by decide) rfl
  refine lv_aload hx hb dL_changedAt_0 (lv_at hl 4 rfl) ?_
  refine n_iconst (k := 0) hx hb dL_changedAt_2 (by decide) ?_
  refine lv_aload_n hx hb dL_changedAt_3 rfl (lv_at hl 0 rfl) ?_
  refine lv_iload_n hx hb dL_changedAt_4 rfl (lv_at hl 1 rfl) ?_
  refine lv_iload_n hx hb dL_changedAt_5 rfl (lv_at hl 2 rfl) ?_
  refine lv_iload_n hx hb dL_changedAt_6 rfl (lv_at hl 3 rfl) ?_
  refine thV (As := [.int (nI (st)), .int (nI (way)), .int (ix)]) (rest := [.int (nI (0)), .ref (qo)]) (n := 3) ⟨hx, hb, hml, hown, htA⟩ (f_changedAt_ix l D cI cZ sa hst9 q σ κ0 κ1 st way ix s.heap hPX hB hst hw3 hv9 hz) (cwV 3 htA (gdV wd_457 wd_458 wd_459 wd_1 wd_460) rfl rfl rfl (by decide +kernel) ⟨Nat.le_of_ble_eq_true rfl, Nat.le_of_ble_eq_true rfl⟩) hKK hZ hPX 0 rfl rfl rfl hl.1 rfl (Nat.le_of_ble_eq_true rfl) dL_changedAt_7 (Nat.le_of_ble_eq_true rfl) (Nat.le_of_ble_eq_true rfl) (fun H1 ce q9 hz hk hc hv hcl => ?_)
  refine vx_catch (name := "java/lang/IndexOutOfBoundsException") hown [⟨0, 12, 15, 13⟩, ⟨0, 12, 19, 15⟩] ⟨0, 12, 23, 21⟩ [] ((vx_table (x := yL_changedAt) B (htA _ wd_456)).trans rfl) (List.forall_mem_cons.mpr ⟨Or.inr ⟨by decide, "java/lang/IllegalArgumentException", htA _ wd_164, ex_nIA hKK.2⟩, (List.forall_mem_cons.mpr ⟨Or.inr ⟨by decide, "java/lang/IllegalStateException", htA _ wd_165, ex_nIS hKK.2⟩, (fun _ h => nomatch h)⟩)⟩) (by decide) (by decide) (htA _ wd_296) (va_Nw.use rfl (ex_cI hKK.2)) hc hv hcl ?_
  refine lv_astore (lv' := [(5, .ref (q9)), (0, .ref (q 0)), (1, .int (nI (st))), (2, .int (nI (way))), (3, .int (ix)), (4, .ref (qo))]) hx hb dL_changedAt_23 hl (by decide) rfl (fun ls hl => ?_)
  refine n_iconst (k := 3) hx hb dL_changedAt_25 (by decide) ?_
  exact W.iret hx hb hr (fun t ht _ => ⟨rfl, by rw [ht]; exact P_grow hP hk, ⟨by rw [ht]; exact hz, fun a ha _ => by rw [ht]; exact hk a ha⟩⟩) (fun _ h => nomatch h) dL_changedAt_26 hlocks
set_option maxHeartbeats 4000000 in
set_option maxRecDepth 100000 in
theorem w_changedAt_ok (l : Launch) (D : va_G) (cI cZ cL cD : ClassId) (sa : Nat → Nat) (q : Nat → Nat) (qo qd : Nat) (σ κ0 κ1 : ST) (g : Nat → Int64) (gd : Nat → UInt64) (A : Nat → Prop) (hD : va_D A (wL q qo qd cI cZ cL cD σ κ0 κ1 g gd))  (st way : Nat) (ix : Int32) (hB : ∀ k i, σ k i < 1073741824) (hst : st ≤ σ 7 0) (hw3 : way < 3) (hv9 : decide (σ 7 0 - st ≤ 40) = true) (hz : low (chs σ st way) ix 60 0 0 ≠ 0) : Met l yL_changedAt (codeL yL_changedAt cL_changedAt 6 (some .int) [(0, 12, 15, 13), (0, 12, 19, 15), (0, 12, 23, 21)]) ({ frames := 8, cells := 1, slots := 6, locals := 146 } : Room) (LwP D cI cZ cL cD sa (wL q qo qd cI cZ cL cD σ κ0 κ1 g gd) [.ref (q 0), .int (nI (st)), .int (nI (way)), .int (ix), .ref (qo)]) (WrQ (some (.int (nI 0))) D (wL q qo qd cI cZ cL cD σ κ0 κ1 (gu g ((oi (low (chs σ st way) ix 60 0 0)).toInt64)) gd) A) 1 6 A := by
  refine va_MetW (cc := cL_changedAt) (maxL := 6) (ret := (some .int)) (hh := [(0, 12, 15, 13), (0, 12, 19, 15), (0, 12, 23, 21)]) (by decide) rfl ?_
  intro p e s m args below meth c s₁ B hml hv
  obtain ⟨rfl, hP, hKK, hKL, hZ⟩ := hv
  have hx := B.exec
  have hb := B.bytes
  have hr := B.returns
  have htA : ∀ w ∈ WA, w.before _ s = true := fun w h => atoms_spec (ws := (codeL yL_changedAt cL_changedAt 6 (some .int) [(0, 12, 15, 13), (0, 12, 19, 15), (0, 12, 23, 21)])) B.pre w (List.mem_cons_of_mem _ h)
  have hown : s.vm.findClass RL = some m.cls := findClass_of_methodNamed B.named
  have hlocks := B.notSynchronized
  have hS : va_S A s.heap s.heap [] := va_S.rf
  have hl := lv_entry ([.ref (q 0), .int (nI (st)), .int (nI (way)), .int (ix), .ref (qo)]) (n := 6) (Nat.le_of_ble_eq_true rfl)
  rw [lg_entry_eq]
  generalize (lg_sl ([.ref (q 0), .int (nI (st)), .int (nI (way)), .int (ix), .ref (qo)]) ++ List.replicate (6 - (lg_sl ([.ref (q 0), .int (nI (st)), .int (nI (way)), .int (ix), .ref (qo)])).length) Slot.unset).toArray = ls at hl ⊢
  have hl : lv_has ls 6 [(0, .ref (q 0)), (1, .int (nI (st))), (2, .int (nI (way))), (3, .int (ix)), (4, .ref (qo))] := hl
  have hPX : va_P D vwCl (wX q cI cZ σ κ0 κ1) s.heap := hP.sub [2, 3, 4, 5, 6, 7, 8, 9, 10, 11, 12, 13, 14, 15, 16, 17, 18, 19, 20, 21, 22, 23, 24, 25] rfl
  have hDX : va_D A (wX q cI cZ σ κ0 κ1) := hD.sub [2, 3, 4, 5, 6, 7, 8, 9, 10, 11, 12, 13, 14, 15, 16, 17, 18, 19, 20, 21, 22, 23, 24, 25] (by decide) rfl
  refine lv_aload hx hb dL_changedAt_0 (lv_at hl 4 rfl) ?_
  refine n_iconst (k := 0) hx hb dL_changedAt_2 (by decide) ?_
  refine lv_aload_n hx hb dL_changedAt_3 rfl (lv_at hl 0 rfl) ?_
  refine lv_iload_n hx hb dL_changedAt_4 rfl (lv_at hl 1 rfl) ?_
  refine lv_iload_n hx hb dL_changedAt_5 rfl (lv_at hl 2 rfl) ?_
  refine lv_iload_n hx hb dL_changedAt_6 rfl (lv_at hl 3 rfl) ?_
  refine roV1 (v := .int (oi (low (chs σ st way) ix 60 0 0))) (As := [.int (nI (st)), .int (nI (way)), .int (ix)]) (rest := [.int (nI (0)), .ref (qo)]) (n := 3) ⟨hx, hb, hml, hown, htA⟩ (f_changedAt_ok l D cI cZ sa q σ κ0 κ1 st way ix s.heap hPX hB hst hw3 hv9 hz) (cwV 3 htA (gdV wd_457 wd_458 wd_459 wd_1 wd_460) rfl rfl rfl (by decide +kernel) ⟨Nat.le_of_ble_eq_true rfl, Nat.le_of_ble_eq_true rfl⟩) hKK hPX 0 rfl rfl rfl hl.1 rfl (Nat.le_of_ble_eq_true rfl) dL_changedAt_7 (Nat.zero_le _) (Nat.zero_le _) ?_
  refine lv_i2l hx hb dL_changedAt_10 rfl ?_
  refine va_last hx hb hKL hP (D_addr hD rfl) hS 0 0 rfl rfl (vp_in_nI (n := 0) (N := 1) (by decide) (by decide)) dL_changedAt_11 (fun H locs hP _ hS => ?_)
  have hP : va_P D vwCl (wL q qo qd cI cZ cL cD σ κ0 κ1 (gu g ((oi (low (chs σ st way) ix 60 0 0)).toInt64)) gd) H := hP
  refine lv_goto (tgt := 27) hx hb dL_changedAt_12 (by decide) ?_
  refine n_iconst (k := 0) hx hb dL_changedAt_27 (by decide) ?_
  refine W.widen (k := 1) (n := 6) (by decide) (by decide) ?_
  exact W.iret hx hb hr (fun t ht _ => ⟨rfl, by rw [ht]; exact hP, hS.F ht⟩) hS.2.2 dL_changedAt_28 hlocks
set_option maxHeartbeats 4000000 in
set_option maxRecDepth 100000 in
theorem w_page_bad (l : Launch) (D : va_G) (cI cZ cL cD : ClassId) (sa : Nat → Nat) (q : Nat → Nat) (qo qd : Nat) (σ κ0 κ1 : ST) (g : Nat → Int64) (gd : Nat → UInt64) (A : Nat → Prop) (hD : va_D A (wL q qo qd cI cZ cL cD σ κ0 κ1 g gd)) (hst9 : l.stackTraces = false)  (x y9 : Int32) (hbad : (iw (x) (nI (0)) (nI (σ 7 0)) && iw (y9) (nI (1)) (nI (20))) = false) : Met l yL_page (codeL yL_page cL_page 5 (some .int) [(0, 10, 13, 13), (0, 10, 17, 15)]) ({ frames := 8, cells := 1, slots := 6, locals := 125 } : Room) (LwP D cI cZ cL cD sa (wL q qo qd cI cZ cL cD σ κ0 κ1 g gd) [.ref (q 0), .int (x), .int (y9), .ref (qo)]) (WrQ (some (.int (nI 1))) D (wL q qo qd cI cZ cL cD σ κ0 κ1 g gd) A) 1 6 A := by
  refine va_MetW (cc := cL_page) (maxL := 5) (ret := (some .int)) (hh := [(0, 10, 13, 13), (0, 10, 17, 15)]) (by decide) rfl ?_
  intro p e s m args below meth c s₁ B hml hv
  obtain ⟨rfl, hP, hKK, hKL, hZ⟩ := hv
  have hx := B.exec
  have hb := B.bytes
  have hr := B.returns
  have htA : ∀ w ∈ WA, w.before _ s = true := fun w h => atoms_spec (ws := (codeL yL_page cL_page 5 (some .int) [(0, 10, 13, 13), (0, 10, 17, 15)])) B.pre w (List.mem_cons_of_mem _ h)
  have hown : s.vm.findClass RL = some m.cls := findClass_of_methodNamed B.named
  have hlocks := B.notSynchronized
  have hS : va_S A s.heap s.heap [] := va_S.rf
  have hl := lv_entry ([.ref (q 0), .int (x), .int (y9), .ref (qo)]) (n := 5) (Nat.le_of_ble_eq_true rfl)
  rw [lg_entry_eq]
  generalize (lg_sl ([.ref (q 0), .int (x), .int (y9), .ref (qo)]) ++ List.replicate (5 - (lg_sl ([.ref (q 0), .int (x), .int (y9), .ref (qo)])).length) Slot.unset).toArray = ls at hl ⊢
  have hl : lv_has ls 5 [(0, .ref (q 0)), (1, .int (x)), (2, .int (y9)), (3, .ref (qo))] := hl
  have hPX : va_P D vwCl (wX q cI cZ σ κ0 κ1) s.heap := hP.sub [2, 3, 4, 5, 6, 7, 8, 9, 10, 11, 12, 13, 14, 15, 16, 17, 18, 19, 20, 21, 22, 23, 24, 25] rfl
  have hDX : va_D A (wX q cI cZ σ κ0 κ1) := hD.sub [2, 3, 4, 5, 6, 7, 8, 9, 10, 11, 12, 13, 14, 15, 16, 17, 18, 19, 20, 21, 22, 23, 24, 25] (by decide) rfl
  refine lv_aload_n hx hb dL_page_0 rfl (lv_at hl 3 rfl) ?_
  refine n_iconst (k := 0) hx hb dL_page_1 (by decide) ?_
  refine lv_aload_n hx hb dL_page_2 rfl (lv_at hl 0 rfl) ?_
  refine lv_iload_n hx hb dL_page_3 rfl (lv_at hl 1 rfl) ?_
  refine lv_iload_n hx hb dL_page_4 rfl (lv_at hl 2 rfl) ?_
  refine thV (As := [.int (x), .int (y9)]) (rest := [.int (nI (0)), .ref (qo)]) (n := 2) ⟨hx, hb, hml, hown, htA⟩ (f_page_bad l D cI cZ sa hst9 q σ κ0 κ1 x y9 s.heap hPX hbad) (cwV 2 htA (gdV wd_470 wd_471 wd_472 wd_1 wd_473) rfl rfl rfl (by decide +kernel) ⟨Nat.le_of_ble_eq_true rfl, Nat.le_of_ble_eq_true rfl⟩) hKK hZ hPX 0 rfl rfl rfl hl.1 rfl (Nat.le_of_ble_eq_true rfl) dL_page_5 (Nat.le_of_ble_eq_true rfl) (Nat.le_of_ble_eq_true rfl) (fun H1 ce q9 hz hk hc hv hcl => ?_)
  refine vx_catch (name := "java/lang/IllegalArgumentException") hown [] ⟨0, 10, 13, 13⟩ [⟨0, 10, 17, 15⟩] ((vx_table (x := yL_page) B (htA _ wd_469)).trans rfl) (fun _ h => nomatch h) (by decide) (by decide) (htA _ wd_164) (va_Nw.use rfl (ex_cA hKK.2)) hc hv hcl ?_
  refine lv_astore (lv' := [(4, .ref (q9)), (0, .ref (q 0)), (1, .int (x)), (2, .int (y9)), (3, .ref (qo))]) hx hb dL_page_13 hl (by decide) rfl (fun ls hl => ?_)
  refine n_iconst (k := 1) hx hb dL_page_15 (by decide) ?_
  exact W.iret hx hb hr (fun t ht _ => ⟨rfl, by rw [ht]; exact P_grow hP hk, ⟨by rw [ht]; exact hz, fun a ha _ => by rw [ht]; exact hk a ha⟩⟩) (fun _ h => nomatch h) dL_page_16 hlocks
set_option maxHeartbeats 4000000 in
set_option maxRecDepth 100000 in
theorem w_page_no (l : Launch) (D : va_G) (cI cZ cL cD : ClassId) (sa : Nat → Nat) (q : Nat → Nat) (qo qd : Nat) (σ κ0 κ1 : ST) (g : Nat → Int64) (gd : Nat → UInt64) (A : Nat → Prop) (hD : va_D A (wL q qo qd cI cZ cL cD σ κ0 κ1 g gd)) (hst9 : l.stackTraces = false)  (st pl : Nat) (hB : ∀ k i, σ k i < 1073741824) (hst : st ≤ σ 7 0) (hp1 : 1 ≤ pl) (hp2 : pl ≤ 20) (hv9 : decide (σ 7 0 - st ≤ 40) = false) : Met l yL_page (codeL yL_page cL_page 5 (some .int) [(0, 10, 13, 13), (0, 10, 17, 15)]) ({ frames := 8, cells := 1, slots := 6, locals := 125 } : Room) (LwP D cI cZ cL cD sa (wL q qo qd cI cZ cL cD σ κ0 κ1 g gd) [.ref (q 0), .int (nI (st)), .int (nI (pl)), .ref (qo)]) (WrQ (some (.int (nI 2))) D (wL q qo qd cI cZ cL cD σ κ0 κ1 g gd) A) 1 6 A := by
  refine va_MetW (cc := cL_page) (maxL := 5) (ret := (some .int)) (hh := [(0, 10, 13, 13), (0, 10, 17, 15)]) (by decide) rfl ?_
  intro p e s m args below meth c s₁ B hml hv
  obtain ⟨rfl, hP, hKK, hKL, hZ⟩ := hv
  have hx := B.exec
  have hb := B.bytes
  have hr := B.returns
  have htA : ∀ w ∈ WA, w.before _ s = true := fun w h => atoms_spec (ws := (codeL yL_page cL_page 5 (some .int) [(0, 10, 13, 13), (0, 10, 17, 15)])) B.pre w (List.mem_cons_of_mem _ h)
  have hown : s.vm.findClass RL = some m.cls := findClass_of_methodNamed B.named
  have hlocks := B.notSynchronized
  have hS : va_S A s.heap s.heap [] := va_S.rf
  have hl := lv_entry ([.ref (q 0), .int (nI (st)), .int (nI (pl)), .ref (qo)]) (n := 5) (Nat.le_of_ble_eq_true rfl)
  rw [lg_entry_eq]
  generalize (lg_sl ([.ref (q 0), .int (nI (st)), .int (nI (pl)), .ref (qo)]) ++ List.replicate (5 - (lg_sl ([.ref (q 0), .int (nI (st)), .int (nI (pl)), .ref (qo)])).length) Slot.unset).toArray = ls at hl ⊢
  have hl : lv_has ls 5 [(0, .ref (q 0)), (1, .int (nI (st))), (2, .int (nI (pl))), (3, .ref (qo))] := hl
  have hPX : va_P D vwCl (wX q cI cZ σ κ0 κ1) s.heap := hP.sub [2, 3, 4, 5, 6, 7, 8, 9, 10, 11, 12, 13, 14, 15, 16, 17, 18, 19, 20, 21, 22, 23, 24, 25] rfl
  have hDX : va_D A (wX q cI cZ σ κ0 κ1) := hD.sub [2, 3, 4, 5, 6, 7, 8, 9, 10, 11, 12, 13, 14, 15, 16, 17, 18, 19, 20, 21, 22, 23, 24, 25] (by decide) rfl
  refine lv_aload_n hx hb dL_page_0 rfl (lv_at hl 3 rfl) ?_
  refine n_iconst (k := 0) hx hb dL_page_1 (by decide) ?_
  refine lv_aload_n hx hb dL_page_2 rfl (lv_at hl 0 rfl) ?_
  refine lv_iload_n hx hb dL_page_3 rfl (lv_at hl 1 rfl) ?_
  refine lv_iload_n hx hb dL_page_4 rfl (lv_at hl 2 rfl) ?_
  refine thV (As := [.int (nI (st)), .int (nI (pl))]) (rest := [.int (nI (0)), .ref (qo)]) (n := 2) ⟨hx, hb, hml, hown, htA⟩ (f_page_no l D cI cZ sa hst9 q σ κ0 κ1 st pl s.heap hPX hB hst hp1 hp2 hv9) (cwV 2 htA (gdV wd_470 wd_471 wd_472 wd_1 wd_473) rfl rfl rfl (by decide +kernel) ⟨Nat.le_of_ble_eq_true rfl, Nat.le_of_ble_eq_true rfl⟩) hKK hZ hPX 0 rfl rfl rfl hl.1 rfl (Nat.le_of_ble_eq_true rfl) dL_page_5 (Nat.le_of_ble_eq_true rfl) (Nat.le_of_ble_eq_true rfl) (fun H1 ce q9 hz hk hc hv hcl => ?_)
  refine vx_catch (name := "java/lang/IllegalStateException") hown [⟨0, 10, 13, 13⟩] ⟨0, 10, 17, 15⟩ [] ((vx_table (x := yL_page) B (htA _ wd_469)).trans rfl) (List.forall_mem_cons.mpr ⟨Or.inr ⟨by decide, "java/lang/IllegalArgumentException", htA _ wd_164, ex_nSA hKK.2⟩, (fun _ h => nomatch h)⟩) (by decide) (by decide) (htA _ wd_165) (va_Nw.use rfl (ex_cS hKK.2)) hc hv hcl ?_
  refine lv_astore (lv' := [(4, .ref (q9)), (0, .ref (q 0)), (1, .int (nI (st))), (2, .int (nI (pl))), (3, .ref (qo))]) hx hb dL_page_17 hl (by decide) rfl (fun ls hl => ?_)
  refine n_iconst (k := 2) hx hb dL_page_19 (by decide) ?_
  exact W.iret hx hb hr (fun t ht _ => ⟨rfl, by rw [ht]; exact P_grow hP hk, ⟨by rw [ht]; exact hz, fun a ha _ => by rw [ht]; exact hk a ha⟩⟩) (fun _ h => nomatch h) dL_page_20 hlocks
set_option maxHeartbeats 4000000 in
set_option maxRecDepth 100000 in
theorem w_page_ok (l : Launch) (D : va_G) (cI cZ cL cD : ClassId) (sa : Nat → Nat) (q : Nat → Nat) (qo qd : Nat) (σ κ0 κ1 : ST) (g : Nat → Int64) (gd : Nat → UInt64) (A : Nat → Prop) (hD : va_D A (wL q qo qd cI cZ cL cD σ κ0 κ1 g gd))  (st pl : Nat) (hB : ∀ k i, σ k i < 1073741824) (hst : st ≤ σ 7 0) (hp1 : 1 ≤ pl) (hp2 : pl ≤ 20) (hv9 : decide (σ 7 0 - st ≤ 40) = true) : Met l yL_page (codeL yL_page cL_page 5 (some .int) [(0, 10, 13, 13), (0, 10, 17, 15)]) ({ frames := 8, cells := 1, slots := 6, locals := 125 } : Room) (LwP D cI cZ cL cD sa (wL q qo qd cI cZ cL cD σ κ0 κ1 g gd) [.ref (q 0), .int (nI (st)), .int (nI (pl)), .ref (qo)]) (WrQ (some (.int (nI 0))) D (wL q qo qd cI cZ cL cD σ κ0 κ1 (gu g ((nI (pge σ st pl (min (σ 7 0 - st) 40) 0)).toInt64)) gd) A) 1 6 A := by
  refine va_MetW (cc := cL_page) (maxL := 5) (ret := (some .int)) (hh := [(0, 10, 13, 13), (0, 10, 17, 15)]) (by decide) rfl ?_
  intro p e s m args below meth c s₁ B hml hv
  obtain ⟨rfl, hP, hKK, hKL, hZ⟩ := hv
  have hx := B.exec
  have hb := B.bytes
  have hr := B.returns
  have htA : ∀ w ∈ WA, w.before _ s = true := fun w h => atoms_spec (ws := (codeL yL_page cL_page 5 (some .int) [(0, 10, 13, 13), (0, 10, 17, 15)])) B.pre w (List.mem_cons_of_mem _ h)
  have hown : s.vm.findClass RL = some m.cls := findClass_of_methodNamed B.named
  have hlocks := B.notSynchronized
  have hS : va_S A s.heap s.heap [] := va_S.rf
  have hl := lv_entry ([.ref (q 0), .int (nI (st)), .int (nI (pl)), .ref (qo)]) (n := 5) (Nat.le_of_ble_eq_true rfl)
  rw [lg_entry_eq]
  generalize (lg_sl ([.ref (q 0), .int (nI (st)), .int (nI (pl)), .ref (qo)]) ++ List.replicate (5 - (lg_sl ([.ref (q 0), .int (nI (st)), .int (nI (pl)), .ref (qo)])).length) Slot.unset).toArray = ls at hl ⊢
  have hl : lv_has ls 5 [(0, .ref (q 0)), (1, .int (nI (st))), (2, .int (nI (pl))), (3, .ref (qo))] := hl
  have hPX : va_P D vwCl (wX q cI cZ σ κ0 κ1) s.heap := hP.sub [2, 3, 4, 5, 6, 7, 8, 9, 10, 11, 12, 13, 14, 15, 16, 17, 18, 19, 20, 21, 22, 23, 24, 25] rfl
  have hDX : va_D A (wX q cI cZ σ κ0 κ1) := hD.sub [2, 3, 4, 5, 6, 7, 8, 9, 10, 11, 12, 13, 14, 15, 16, 17, 18, 19, 20, 21, 22, 23, 24, 25] (by decide) rfl
  refine lv_aload_n hx hb dL_page_0 rfl (lv_at hl 3 rfl) ?_
  refine n_iconst (k := 0) hx hb dL_page_1 (by decide) ?_
  refine lv_aload_n hx hb dL_page_2 rfl (lv_at hl 0 rfl) ?_
  refine lv_iload_n hx hb dL_page_3 rfl (lv_at hl 1 rfl) ?_
  refine lv_iload_n hx hb dL_page_4 rfl (lv_at hl 2 rfl) ?_
  refine roV1 (v := .int (nI (pge σ st pl (min (σ 7 0 - st) 40) 0))) (As := [.int (nI (st)), .int (nI (pl))]) (rest := [.int (nI (0)), .ref (qo)]) (n := 2) ⟨hx, hb, hml, hown, htA⟩ (f_page_ok l D cI cZ sa q σ κ0 κ1 st pl s.heap hPX hB hst hp1 hp2 hv9) (cwV 2 htA (gdV wd_470 wd_471 wd_472 wd_1 wd_473) rfl rfl rfl (by decide +kernel) ⟨Nat.le_of_ble_eq_true rfl, Nat.le_of_ble_eq_true rfl⟩) hKK hPX 0 rfl rfl rfl hl.1 rfl (Nat.le_of_ble_eq_true rfl) dL_page_5 (Nat.zero_le _) (Nat.zero_le _) ?_
  refine lv_i2l hx hb dL_page_8 rfl ?_
  refine va_last hx hb hKL hP (D_addr hD rfl) hS 0 0 rfl rfl (vp_in_nI (n := 0) (N := 1) (by decide) (by decide)) dL_page_9 (fun H locs hP _ hS => ?_)
  have hP : va_P D vwCl (wL q qo qd cI cZ cL cD σ κ0 κ1 (gu g ((nI (pge σ st pl (min (σ 7 0 - st) 40) 0)).toInt64)) gd) H := hP
  refine lv_goto (tgt := 21) hx hb dL_page_10 (by decide) ?_
  refine n_iconst (k := 0) hx hb dL_page_21 (by decide) ?_
  refine W.widen (k := 1) (n := 6) (by decide) (by decide) ?_
  exact W.iret hx hb hr (fun t ht _ => ⟨rfl, by rw [ht]; exact hP, hS.F ht⟩) hS.2.2 dL_page_22 hlocks
set_option maxHeartbeats 4000000 in
set_option maxRecDepth 100000 in
theorem w_found_bad (l : Launch) (D : va_G) (cI cZ cL cD : ClassId) (sa : Nat → Nat) (q : Nat → Nat) (qo qd : Nat) (σ κ0 κ1 : ST) (g : Nat → Int64) (gd : Nat → UInt64) (A : Nat → Prop) (hD : va_D A (wL q qo qd cI cZ cL cD σ κ0 κ1 g gd)) (hst9 : l.stackTraces = false)  (x y9 : Int32) (hbad : (iw (x) (nI (0)) (nI (5)) && iq (y9)) = false) : Met l yL_found (codeL yL_found cL_found 5 (some .int) [(0, 10, 13, 13)]) ({ frames := 7, cells := 1, slots := 6, locals := 104 } : Room) (LwP D cI cZ cL cD sa (wL q qo qd cI cZ cL cD σ κ0 κ1 g gd) [.ref (q 0), .int (x), .int (y9), .ref (qo)]) (WrQ (some (.int (nI 1))) D (wL q qo qd cI cZ cL cD σ κ0 κ1 g gd) A) 1 6 A := by
  refine va_MetW (cc := cL_found) (maxL := 5) (ret := (some .int)) (hh := [(0, 10, 13, 13)]) (by decide) rfl ?_
  intro p e s m args below meth c s₁ B hml hv
  obtain ⟨rfl, hP, hKK, hKL, hZ⟩ := hv
  have hx := B.exec
  have hb := B.bytes
  have hr := B.returns
  have htA : ∀ w ∈ WA, w.before _ s = true := fun w h => atoms_spec (ws := (codeL yL_found cL_found 5 (some .int) [(0, 10, 13, 13)])) B.pre w (List.mem_cons_of_mem _ h)
  have hown : s.vm.findClass RL = some m.cls := findClass_of_methodNamed B.named
  have hlocks := B.notSynchronized
  have hS : va_S A s.heap s.heap [] := va_S.rf
  have hl := lv_entry ([.ref (q 0), .int (x), .int (y9), .ref (qo)]) (n := 5) (Nat.le_of_ble_eq_true rfl)
  rw [lg_entry_eq]
  generalize (lg_sl ([.ref (q 0), .int (x), .int (y9), .ref (qo)]) ++ List.replicate (5 - (lg_sl ([.ref (q 0), .int (x), .int (y9), .ref (qo)])).length) Slot.unset).toArray = ls at hl ⊢
  have hl : lv_has ls 5 [(0, .ref (q 0)), (1, .int (x)), (2, .int (y9)), (3, .ref (qo))] := hl
  have hPX : va_P D vwCl (wX q cI cZ σ κ0 κ1) s.heap := hP.sub [2, 3, 4, 5, 6, 7, 8, 9, 10, 11, 12, 13, 14, 15, 16, 17, 18, 19, 20, 21, 22, 23, 24, 25] rfl
  have hDX : va_D A (wX q cI cZ σ κ0 κ1) := hD.sub [2, 3, 4, 5, 6, 7, 8, 9, 10, 11, 12, 13, 14, 15, 16, 17, 18, 19, 20, 21, 22, 23, 24, 25] (by decide) rfl
  refine lv_aload_n hx hb dL_found_0 rfl (lv_at hl 3 rfl) ?_
  refine n_iconst (k := 0) hx hb dL_found_1 (by decide) ?_
  refine lv_aload_n hx hb dL_found_2 rfl (lv_at hl 0 rfl) ?_
  refine lv_iload_n hx hb dL_found_3 rfl (lv_at hl 1 rfl) ?_
  refine lv_iload_n hx hb dL_found_4 rfl (lv_at hl 2 rfl) ?_
  refine thV (As := [.int (x), .int (y9)]) (rest := [.int (nI (0)), .ref (qo)]) (n := 2) ⟨hx, hb, hml, hown, htA⟩ (f_found_bad l D cI cZ sa hst9 q σ κ0 κ1 x y9 s.heap hPX hbad) (cwV 2 htA (gdV wd_484 wd_485 wd_486 wd_1 wd_487) rfl rfl rfl (by decide +kernel) ⟨Nat.le_of_ble_eq_true rfl, Nat.le_of_ble_eq_true rfl⟩) hKK hZ hPX 0 rfl rfl rfl hl.1 rfl (Nat.le_of_ble_eq_true rfl) dL_found_5 (Nat.le_of_ble_eq_true rfl) (Nat.le_of_ble_eq_true rfl) (fun H1 ce q9 hz hk hc hv hcl => ?_)
  refine vx_catch (name := "java/lang/IllegalArgumentException") hown [] ⟨0, 10, 13, 13⟩ [] ((vx_table (x := yL_found) B (htA _ wd_483)).trans rfl) (fun _ h => nomatch h) (by decide) (by decide) (htA _ wd_164) (va_Nw.use rfl (ex_cA hKK.2)) hc hv hcl ?_
  refine lv_astore (lv' := [(4, .ref (q9)), (0, .ref (q 0)), (1, .int (x)), (2, .int (y9)), (3, .ref (qo))]) hx hb dL_found_13 hl (by decide) rfl (fun ls hl => ?_)
  refine n_iconst (k := 1) hx hb dL_found_15 (by decide) ?_
  exact W.iret hx hb hr (fun t ht _ => ⟨rfl, by rw [ht]; exact P_grow hP hk, ⟨by rw [ht]; exact hz, fun a ha _ => by rw [ht]; exact hk a ha⟩⟩) (fun _ h => nomatch h) dL_found_16 hlocks
set_option maxHeartbeats 4000000 in
set_option maxRecDepth 100000 in
theorem w_found_ok (l : Launch) (D : va_G) (cI cZ cL cD : ClassId) (sa : Nat → Nat) (q : Nat → Nat) (qo qd : Nat) (σ κ0 κ1 : ST) (g : Nat → Int64) (gd : Nat → UInt64) (A : Nat → Prop) (hD : va_D A (wL q qo qd cI cZ cL cD σ κ0 κ1 g gd))  (b0 k9 : Nat) (hb9 : b0 < 6) (hk9 : k9 ≤ 4) : Met l yL_found (codeL yL_found cL_found 5 (some .int) [(0, 10, 13, 13)]) ({ frames := 7, cells := 1, slots := 6, locals := 104 } : Room) (LwP D cI cZ cL cD sa (wL q qo qd cI cZ cL cD σ κ0 κ1 g gd) [.ref (q 0), .int (nI (b0)), .int (oi (k9)), .ref (qo)]) (WrQ (some (.int (nI 0))) D (wL q qo qd cI cZ cL cD σ κ0 κ1 (gu g ((nI (cnt (fun j => mt (σ 4 j) (σ 5 j) (2 ^ b0) (askq k9)) 60)).toInt64)) gd) A) 1 6 A := by
  refine va_MetW (cc := cL_found) (maxL := 5) (ret := (some .int)) (hh := [(0, 10, 13, 13)]) (by decide) rfl ?_
  intro p e s m args below meth c s₁ B hml hv
  obtain ⟨rfl, hP, hKK, hKL, hZ⟩ := hv
  have hx := B.exec
  have hb := B.bytes
  have hr := B.returns
  have htA : ∀ w ∈ WA, w.before _ s = true := fun w h => atoms_spec (ws := (codeL yL_found cL_found 5 (some .int) [(0, 10, 13, 13)])) B.pre w (List.mem_cons_of_mem _ h)
  have hown : s.vm.findClass RL = some m.cls := findClass_of_methodNamed B.named
  have hlocks := B.notSynchronized
  have hS : va_S A s.heap s.heap [] := va_S.rf
  have hl := lv_entry ([.ref (q 0), .int (nI (b0)), .int (oi (k9)), .ref (qo)]) (n := 5) (Nat.le_of_ble_eq_true rfl)
  rw [lg_entry_eq]
  generalize (lg_sl ([.ref (q 0), .int (nI (b0)), .int (oi (k9)), .ref (qo)]) ++ List.replicate (5 - (lg_sl ([.ref (q 0), .int (nI (b0)), .int (oi (k9)), .ref (qo)])).length) Slot.unset).toArray = ls at hl ⊢
  have hl : lv_has ls 5 [(0, .ref (q 0)), (1, .int (nI (b0))), (2, .int (oi (k9))), (3, .ref (qo))] := hl
  have hPX : va_P D vwCl (wX q cI cZ σ κ0 κ1) s.heap := hP.sub [2, 3, 4, 5, 6, 7, 8, 9, 10, 11, 12, 13, 14, 15, 16, 17, 18, 19, 20, 21, 22, 23, 24, 25] rfl
  have hDX : va_D A (wX q cI cZ σ κ0 κ1) := hD.sub [2, 3, 4, 5, 6, 7, 8, 9, 10, 11, 12, 13, 14, 15, 16, 17, 18, 19, 20, 21, 22, 23, 24, 25] (by decide) rfl
  refine lv_aload_n hx hb dL_found_0 rfl (lv_at hl 3 rfl) ?_
  refine n_iconst (k := 0) hx hb dL_found_1 (by decide) ?_
  refine lv_aload_n hx hb dL_found_2 rfl (lv_at hl 0 rfl) ?_
  refine lv_iload_n hx hb dL_found_3 rfl (lv_at hl 1 rfl) ?_
  refine lv_iload_n hx hb dL_found_4 rfl (lv_at hl 2 rfl) ?_
  refine roV1 (v := .int (nI (cnt (fun j => mt (σ 4 j) (σ 5 j) (2 ^ b0) (askq k9)) 60))) (As := [.int (nI (b0)), .int (oi (k9))]) (rest := [.int (nI (0)), .ref (qo)]) (n := 2) ⟨hx, hb, hml, hown, htA⟩ (f_found_ok l D cI cZ sa q σ κ0 κ1 b0 k9 s.heap hPX hb9 hk9) (cwV 2 htA (gdV wd_484 wd_485 wd_486 wd_1 wd_487) rfl rfl rfl (by decide +kernel) ⟨Nat.le_of_ble_eq_true rfl, Nat.le_of_ble_eq_true rfl⟩) hKK hPX 0 rfl rfl rfl hl.1 rfl (Nat.le_of_ble_eq_true rfl) dL_found_5 (Nat.zero_le _) (Nat.zero_le _) ?_
  refine lv_i2l hx hb dL_found_8 rfl ?_
  refine va_last hx hb hKL hP (D_addr hD rfl) hS 0 0 rfl rfl (vp_in_nI (n := 0) (N := 1) (by decide) (by decide)) dL_found_9 (fun H locs hP _ hS => ?_)
  have hP : va_P D vwCl (wL q qo qd cI cZ cL cD σ κ0 κ1 (gu g ((nI (cnt (fun j => mt (σ 4 j) (σ 5 j) (2 ^ b0) (askq k9)) 60)).toInt64)) gd) H := hP
  refine lv_goto (tgt := 17) hx hb dL_found_10 (by decide) ?_
  refine n_iconst (k := 0) hx hb dL_found_17 (by decide) ?_
  refine W.widen (k := 1) (n := 6) (by decide) (by decide) ?_
  exact W.iret hx hb hr (fun t ht _ => ⟨rfl, by rw [ht]; exact hP, hS.F ht⟩) hS.2.2 dL_found_18 hlocks
set_option maxHeartbeats 4000000 in
set_option maxRecDepth 100000 in
theorem w_foundAt_bad (l : Launch) (D : va_G) (cI cZ cL cD : ClassId) (sa : Nat → Nat) (q : Nat → Nat) (qo qd : Nat) (σ κ0 κ1 : ST) (g : Nat → Int64) (gd : Nat → UInt64) (A : Nat → Prop) (hD : va_D A (wL q qo qd cI cZ cL cD σ κ0 κ1 g gd)) (hst9 : l.stackTraces = false)  (x y9 ix : Int32) (hbad : (iw (x) (nI (0)) (nI (5)) && iq (y9)) = false) : Met l yL_foundAt (codeL yL_foundAt cL_foundAt 6 (some .int) [(0, 12, 15, 13), (0, 12, 19, 21)]) ({ frames := 8, cells := 1, slots := 6, locals := 126 } : Room) (LwP D cI cZ cL cD sa (wL q qo qd cI cZ cL cD σ κ0 κ1 g gd) [.ref (q 0), .int (x), .int (y9), .int (ix), .ref (qo)]) (WrQ (some (.int (nI 1))) D (wL q qo qd cI cZ cL cD σ κ0 κ1 g gd) A) 1 6 A := by
  refine va_MetW (cc := cL_foundAt) (maxL := 6) (ret := (some .int)) (hh := [(0, 12, 15, 13), (0, 12, 19, 21)]) (by decide) rfl ?_
  intro p e s m args below meth c s₁ B hml hv
  obtain ⟨rfl, hP, hKK, hKL, hZ⟩ := hv
  have hx := B.exec
  have hb := B.bytes
  have hr := B.returns
  have htA : ∀ w ∈ WA, w.before _ s = true := fun w h => atoms_spec (ws := (codeL yL_foundAt cL_foundAt 6 (some .int) [(0, 12, 15, 13), (0, 12, 19, 21)])) B.pre w (List.mem_cons_of_mem _ h)
  have hown : s.vm.findClass RL = some m.cls := findClass_of_methodNamed B.named
  have hlocks := B.notSynchronized
  have hS : va_S A s.heap s.heap [] := va_S.rf
  have hl := lv_entry ([.ref (q 0), .int (x), .int (y9), .int (ix), .ref (qo)]) (n := 6) (Nat.le_of_ble_eq_true rfl)
  rw [lg_entry_eq]
  generalize (lg_sl ([.ref (q 0), .int (x), .int (y9), .int (ix), .ref (qo)]) ++ List.replicate (6 - (lg_sl ([.ref (q 0), .int (x), .int (y9), .int (ix), .ref (qo)])).length) Slot.unset).toArray = ls at hl ⊢
  have hl : lv_has ls 6 [(0, .ref (q 0)), (1, .int (x)), (2, .int (y9)), (3, .int (ix)), (4, .ref (qo))] := hl
  have hPX : va_P D vwCl (wX q cI cZ σ κ0 κ1) s.heap := hP.sub [2, 3, 4, 5, 6, 7, 8, 9, 10, 11, 12, 13, 14, 15, 16, 17, 18, 19, 20, 21, 22, 23, 24, 25] rfl
  have hDX : va_D A (wX q cI cZ σ κ0 κ1) := hD.sub [2, 3, 4, 5, 6, 7, 8, 9, 10, 11, 12, 13, 14, 15, 16, 17, 18, 19, 20, 21, 22, 23, 24, 25] (by decide) rfl
  refine lv_aload hx hb dL_foundAt_0 (lv_at hl 4 rfl) ?_
  refine n_iconst (k := 0) hx hb dL_foundAt_2 (by decide) ?_
  refine lv_aload_n hx hb dL_foundAt_3 rfl (lv_at hl 0 rfl) ?_
  refine lv_iload_n hx hb dL_foundAt_4 rfl (lv_at hl 1 rfl) ?_
  refine lv_iload_n hx hb dL_foundAt_5 rfl (lv_at hl 2 rfl) ?_
  refine lv_iload_n hx hb dL_foundAt_6 rfl (lv_at hl 3 rfl) ?_
  refine thV (As := [.int (x), .int (y9), .int (ix)]) (rest := [.int (nI (0)), .ref (qo)]) (n := 3) ⟨hx, hb, hml, hown, htA⟩ (f_foundAt_bad l D cI cZ sa hst9 q σ κ0 κ1 x y9 ix s.heap hPX hbad) (cwV 3 htA (gdV wd_497 wd_498 wd_499 wd_1 wd_500) rfl rfl rfl (by decide +kernel) ⟨Nat.le_of_ble_eq_true rfl, Nat.le_of_ble_eq_true rfl⟩) hKK hZ hPX 0 rfl rfl rfl hl.1 rfl (Nat.le_of_ble_eq_true rfl) dL_foundAt_7 (Nat.le_of_ble_eq_true rfl) (Nat.le_of_ble_eq_true rfl) (fun H1 ce q9 hz hk hc hv hcl => ?_)
  refine vx_catch (name := "java/lang/IllegalArgumentException") hown [] ⟨0, 12, 15, 13⟩ [⟨0, 12, 19, 21⟩] ((vx_table (x := yL_foundAt) B (htA _ wd_496)).trans rfl) (fun _ h => nomatch h) (by decide) (by decide) (htA _ wd_164) (va_Nw.use rfl (ex_cA hKK.2)) hc hv hcl ?_
  refine lv_astore (lv' := [(5, .ref (q9)), (0, .ref (q 0)), (1, .int (x)), (2, .int (y9)), (3, .int (ix)), (4, .ref (qo))]) hx hb dL_foundAt_15 hl (by decide) rfl (fun ls hl => ?_)
  refine n_iconst (k := 1) hx hb dL_foundAt_17 (by decide) ?_
  exact W.iret hx hb hr (fun t ht _ => ⟨rfl, by rw [ht]; exact P_grow hP hk, ⟨by rw [ht]; exact hz, fun a ha _ => by rw [ht]; exact hk a ha⟩⟩) (fun _ h => nomatch h) dL_foundAt_18 hlocks
set_option maxHeartbeats 4000000 in
set_option maxRecDepth 100000 in
theorem w_foundAt_ix (l : Launch) (D : va_G) (cI cZ cL cD : ClassId) (sa : Nat → Nat) (q : Nat → Nat) (qo qd : Nat) (σ κ0 κ1 : ST) (g : Nat → Int64) (gd : Nat → UInt64) (A : Nat → Prop) (hD : va_D A (wL q qo qd cI cZ cL cD σ κ0 κ1 g gd)) (hst9 : l.stackTraces = false)  (b0 k9 : Nat) (ix : Int32) (hB : ∀ k i, σ k i < 1073741824) (hb9 : b0 < 6) (hk9 : k9 ≤ 4) (hco : σ 1 0 ≤ 60) (hz : lat σ (ms (fun j => mt (σ 4 j) (σ 5 j) (2 ^ b0) (askq k9)) 60) ix (σ 1 0) 0 0 = 0) : Met l yL_foundAt (codeL yL_foundAt cL_foundAt 6 (some .int) [(0, 12, 15, 13), (0, 12, 19, 21)]) ({ frames := 8, cells := 1, slots := 6, locals := 126 } : Room) (LwP D cI cZ cL cD sa (wL q qo qd cI cZ cL cD σ κ0 κ1 g gd) [.ref (q 0), .int (nI (b0)), .int (oi (k9)), .int (ix), .ref (qo)]) (WrQ (some (.int (nI 2))) D (wL q qo qd cI cZ cL cD σ κ0 κ1 g gd) A) 1 6 A := by
  refine va_MetW (cc := cL_foundAt) (maxL := 6) (ret := (some .int)) (hh := [(0, 12, 15, 13), (0, 12, 19, 21)]) (by decide) rfl ?_
  intro p e s m args below meth c s₁ B hml hv
  obtain ⟨rfl, hP, hKK, hKL, hZ⟩ := hv
  have hx := B.exec
  have hb := B.bytes
  have hr := B.returns
  have htA : ∀ w ∈ WA, w.before _ s = true := fun w h => atoms_spec (ws := (codeL yL_foundAt cL_foundAt 6 (some .int) [(0, 12, 15, 13), (0, 12, 19, 21)])) B.pre w (List.mem_cons_of_mem _ h)
  have hown : s.vm.findClass RL = some m.cls := findClass_of_methodNamed B.named
  have hlocks := B.notSynchronized
  have hS : va_S A s.heap s.heap [] := va_S.rf
  have hl := lv_entry ([.ref (q 0), .int (nI (b0)), .int (oi (k9)), .int (ix), .ref (qo)]) (n := 6) (Nat.le_of_ble_eq_true rfl)
  rw [lg_entry_eq]
  generalize (lg_sl ([.ref (q 0), .int (nI (b0)), .int (oi (k9)), .int (ix), .ref (qo)]) ++ List.replicate (6 - (lg_sl ([.ref (q 0), .int (nI (b0)), .int (oi (k9)), .int (ix), .ref (qo)])).length) Slot.unset).toArray = ls at hl ⊢
  have hl : lv_has ls 6 [(0, .ref (q 0)), (1, .int (nI (b0))), (2, .int (oi (k9))), (3, .int (ix)), (4, .ref (qo))] := hl
  have hPX : va_P D vwCl (wX q cI cZ σ κ0 κ1) s.heap := hP.sub [2, 3, 4, 5, 6, 7, 8, 9, 10, 11, 12, 13, 14, 15, 16, 17, 18, 19, 20, 21, 22, 23, 24, 25] rfl
  have hDX : va_D A (wX q cI cZ σ κ0 κ1) := hD.sub [2, 3, 4, 5, 6, 7, 8, 9, 10, 11, 12, 13, 14, 15, 16, 17, 18, 19, 20, 21, 22, 23, 24, 25] (by decide) rfl
  refine lv_aload hx hb dL_foundAt_0 (lv_at hl 4 rfl) ?_
  refine n_iconst (k := 0) hx hb dL_foundAt_2 (by decide) ?_
  refine lv_aload_n hx hb dL_foundAt_3 rfl (lv_at hl 0 rfl) ?_
  refine lv_iload_n hx hb dL_foundAt_4 rfl (lv_at hl 1 rfl) ?_
  refine lv_iload_n hx hb dL_foundAt_5 rfl (lv_at hl 2 rfl) ?_
  refine lv_iload_n hx hb dL_foundAt_6 rfl (lv_at hl 3 rfl) ?_
  refine thV (As := [.int (nI (b0)), .int (oi (k9)), .int (ix)]) (rest := [.int (nI (0)), .ref (qo)]) (n := 3) ⟨hx, hb, hml, hown, htA⟩ (f_foundAt_ix l D cI cZ sa hst9 q σ κ0 κ1 b0 k9 ix s.heap hPX hB hb9 hk9 hco hz) (cwV 3 htA (gdV wd_497 wd_498 wd_499 wd_1 wd_500) rfl rfl rfl (by decide +kernel) ⟨Nat.le_of_ble_eq_true rfl, Nat.le_of_ble_eq_true rfl⟩) hKK hZ hPX 0 rfl rfl rfl hl.1 rfl (Nat.le_of_ble_eq_true rfl) dL_foundAt_7 (Nat.le_of_ble_eq_true rfl) (Nat.le_of_ble_eq_true rfl) (fun H1 ce q9 hz hk hc hv hcl => ?_)
  refine vx_catch (name := "java/lang/IndexOutOfBoundsException") hown [⟨0, 12, 15, 13⟩] ⟨0, 12, 19, 21⟩ [] ((vx_table (x := yL_foundAt) B (htA _ wd_496)).trans rfl) (List.forall_mem_cons.mpr ⟨Or.inr ⟨by decide, "java/lang/IllegalArgumentException", htA _ wd_164, ex_nIA hKK.2⟩, (fun _ h => nomatch h)⟩) (by decide) (by decide) (htA _ wd_296) (va_Nw.use rfl (ex_cI hKK.2)) hc hv hcl ?_
  refine lv_astore (lv' := [(5, .ref (q9)), (0, .ref (q 0)), (1, .int (nI (b0))), (2, .int (oi (k9))), (3, .int (ix)), (4, .ref (qo))]) hx hb dL_foundAt_19 hl (by decide) rfl (fun ls hl => ?_)
  refine n_iconst (k := 2) hx hb dL_foundAt_21 (by decide) ?_
  exact W.iret hx hb hr (fun t ht _ => ⟨rfl, by rw [ht]; exact P_grow hP hk, ⟨by rw [ht]; exact hz, fun a ha _ => by rw [ht]; exact hk a ha⟩⟩) (fun _ h => nomatch h) dL_foundAt_22 hlocks
set_option maxHeartbeats 4000000 in
set_option maxRecDepth 100000 in
theorem w_foundAt_ok (l : Launch) (D : va_G) (cI cZ cL cD : ClassId) (sa : Nat → Nat) (q : Nat → Nat) (qo qd : Nat) (σ κ0 κ1 : ST) (g : Nat → Int64) (gd : Nat → UInt64) (A : Nat → Prop) (hD : va_D A (wL q qo qd cI cZ cL cD σ κ0 κ1 g gd))  (b0 k9 : Nat) (ix : Int32) (hB : ∀ k i, σ k i < 1073741824) (hb9 : b0 < 6) (hk9 : k9 ≤ 4) (hco : σ 1 0 ≤ 60) (hz : lat σ (ms (fun j => mt (σ 4 j) (σ 5 j) (2 ^ b0) (askq k9)) 60) ix (σ 1 0) 0 0 ≠ 0) : Met l yL_foundAt (codeL yL_foundAt cL_foundAt 6 (some .int) [(0, 12, 15, 13), (0, 12, 19, 21)]) ({ frames := 8, cells := 1, slots := 6, locals := 126 } : Room) (LwP D cI cZ cL cD sa (wL q qo qd cI cZ cL cD σ κ0 κ1 g gd) [.ref (q 0), .int (nI (b0)), .int (oi (k9)), .int (ix), .ref (qo)]) (WrQ (some (.int (nI 0))) D (wL q qo qd cI cZ cL cD σ κ0 κ1 (gu g ((oi (lat σ (ms (fun j => mt (σ 4 j) (σ 5 j) (2 ^ b0) (askq k9)) 60) ix (σ 1 0) 0 0)).toInt64)) gd) A) 1 6 A := by
  refine va_MetW (cc := cL_foundAt) (maxL := 6) (ret := (some .int)) (hh := [(0, 12, 15, 13), (0, 12, 19, 21)]) (by decide) rfl ?_
  intro p e s m args below meth c s₁ B hml hv
  obtain ⟨rfl, hP, hKK, hKL, hZ⟩ := hv
  have hx := B.exec
  have hb := B.bytes
  have hr := B.returns
  have htA : ∀ w ∈ WA, w.before _ s = true := fun w h => atoms_spec (ws := (codeL yL_foundAt cL_foundAt 6 (some .int) [(0, 12, 15, 13), (0, 12, 19, 21)])) B.pre w (List.mem_cons_of_mem _ h)
  have hown : s.vm.findClass RL = some m.cls := findClass_of_methodNamed B.named
  have hlocks := B.notSynchronized
  have hS : va_S A s.heap s.heap [] := va_S.rf
  have hl := lv_entry ([.ref (q 0), .int (nI (b0)), .int (oi (k9)), .int (ix), .ref (qo)]) (n := 6) (Nat.le_of_ble_eq_true rfl)
  rw [lg_entry_eq]
  generalize (lg_sl ([.ref (q 0), .int (nI (b0)), .int (oi (k9)), .int (ix), .ref (qo)]) ++ List.replicate (6 - (lg_sl ([.ref (q 0), .int (nI (b0)), .int (oi (k9)), .int (ix), .ref (qo)])).length) Slot.unset).toArray = ls at hl ⊢
  have hl : lv_has ls 6 [(0, .ref (q 0)), (1, .int (nI (b0))), (2, .int (oi (k9))), (3, .int (ix)), (4, .ref (qo))] := hl
  have hPX : va_P D vwCl (wX q cI cZ σ κ0 κ1) s.heap := hP.sub [2, 3, 4, 5, 6, 7, 8, 9, 10, 11, 12, 13, 14, 15, 16, 17, 18, 19, 20, 21, 22, 23, 24, 25] rfl
  have hDX : va_D A (wX q cI cZ σ κ0 κ1) := hD.sub [2, 3, 4, 5, 6, 7, 8, 9, 10, 11, 12, 13, 14, 15, 16, 17, 18, 19, 20, 21, 22, 23, 24, 25] (by decide) rfl
  refine lv_aload hx hb dL_foundAt_0 (lv_at hl 4 rfl) ?_
  refine n_iconst (k := 0) hx hb dL_foundAt_2 (by decide) ?_
  refine lv_aload_n hx hb dL_foundAt_3 rfl (lv_at hl 0 rfl) ?_
  refine lv_iload_n hx hb dL_foundAt_4 rfl (lv_at hl 1 rfl) ?_
  refine lv_iload_n hx hb dL_foundAt_5 rfl (lv_at hl 2 rfl) ?_
  refine lv_iload_n hx hb dL_foundAt_6 rfl (lv_at hl 3 rfl) ?_
  refine roV1 (v := .int (oi (lat σ (ms (fun j => mt (σ 4 j) (σ 5 j) (2 ^ b0) (askq k9)) 60) ix (σ 1 0) 0 0))) (As := [.int (nI (b0)), .int (oi (k9)), .int (ix)]) (rest := [.int (nI (0)), .ref (qo)]) (n := 3) ⟨hx, hb, hml, hown, htA⟩ (f_foundAt_ok l D cI cZ sa q σ κ0 κ1 b0 k9 ix s.heap hPX hB hb9 hk9 hco hz) (cwV 3 htA (gdV wd_497 wd_498 wd_499 wd_1 wd_500) rfl rfl rfl (by decide +kernel) ⟨Nat.le_of_ble_eq_true rfl, Nat.le_of_ble_eq_true rfl⟩) hKK hPX 0 rfl rfl rfl hl.1 rfl (Nat.le_of_ble_eq_true rfl) dL_foundAt_7 (Nat.zero_le _) (Nat.zero_le _) ?_
  refine lv_i2l hx hb dL_foundAt_10 rfl ?_
  refine va_last hx hb hKL hP (D_addr hD rfl) hS 0 0 rfl rfl (vp_in_nI (n := 0) (N := 1) (by decide) (by decide)) dL_foundAt_11 (fun H locs hP _ hS => ?_)
  have hP : va_P D vwCl (wL q qo qd cI cZ cL cD σ κ0 κ1 (gu g ((oi (lat σ (ms (fun j => mt (σ 4 j) (σ 5 j) (2 ^ b0) (askq k9)) 60) ix (σ 1 0) 0 0)).toInt64)) gd) H := hP
  refine lv_goto (tgt := 23) hx hb dL_foundAt_12 (by decide) ?_
  refine n_iconst (k := 0) hx hb dL_foundAt_23 (by decide) ?_
  refine W.widen (k := 1) (n := 6) (by decide) (by decide) ?_
  exact W.iret hx hb hr (fun t ht _ => ⟨rfl, by rw [ht]; exact hP, hS.F ht⟩) hS.2.2 dL_foundAt_24 hlocks
set_option maxHeartbeats 4000000 in
set_option maxRecDepth 100000 in
theorem w_removed_bad (l : Launch) (D : va_G) (cI cZ cL cD : ClassId) (sa : Nat → Nat) (q : Nat → Nat) (qo qd : Nat) (σ κ0 κ1 : ST) (g : Nat → Int64) (gd : Nat → UInt64) (A : Nat → Prop) (hD : va_D A (wL q qo qd cI cZ cL cD σ κ0 κ1 g gd)) (hst9 : l.stackTraces = false)  (x y9 z : Int32) (hbad : (iw (x) (nI (0)) (nI (σ 7 0)) && iw (y9) (nI (0)) (nI (5)) && iq (z)) = false) : Met l yL_removed (codeL yL_removed cL_removed 6 (some .int) [(0, 12, 15, 13), (0, 12, 19, 15)]) ({ frames := 8, cells := 1, slots := 6, locals := 128 } : Room) (LwP D cI cZ cL cD sa (wL q qo qd cI cZ cL cD σ κ0 κ1 g gd) [.ref (q 0), .int (x), .int (y9), .int (z), .ref (qo)]) (WrQ (some (.int (nI 1))) D (wL q qo qd cI cZ cL cD σ κ0 κ1 g gd) A) 1 6 A := by
  refine va_MetW (cc := cL_removed) (maxL := 6) (ret := (some .int)) (hh := [(0, 12, 15, 13), (0, 12, 19, 15)]) (by decide) rfl ?_
  intro p e s m args below meth c s₁ B hml hv
  obtain ⟨rfl, hP, hKK, hKL, hZ⟩ := hv
  have hx := B.exec
  have hb := B.bytes
  have hr := B.returns
  have htA : ∀ w ∈ WA, w.before _ s = true := fun w h => atoms_spec (ws := (codeL yL_removed cL_removed 6 (some .int) [(0, 12, 15, 13), (0, 12, 19, 15)])) B.pre w (List.mem_cons_of_mem _ h)
  have hown : s.vm.findClass RL = some m.cls := findClass_of_methodNamed B.named
  have hlocks := B.notSynchronized
  have hS : va_S A s.heap s.heap [] := va_S.rf
  have hl := lv_entry ([.ref (q 0), .int (x), .int (y9), .int (z), .ref (qo)]) (n := 6) (Nat.le_of_ble_eq_true rfl)
  rw [lg_entry_eq]
  generalize (lg_sl ([.ref (q 0), .int (x), .int (y9), .int (z), .ref (qo)]) ++ List.replicate (6 - (lg_sl ([.ref (q 0), .int (x), .int (y9), .int (z), .ref (qo)])).length) Slot.unset).toArray = ls at hl ⊢
  have hl : lv_has ls 6 [(0, .ref (q 0)), (1, .int (x)), (2, .int (y9)), (3, .int (z)), (4, .ref (qo))] := hl
  have hPX : va_P D vwCl (wX q cI cZ σ κ0 κ1) s.heap := hP.sub [2, 3, 4, 5, 6, 7, 8, 9, 10, 11, 12, 13, 14, 15, 16, 17, 18, 19, 20, 21, 22, 23, 24, 25] rfl
  have hDX : va_D A (wX q cI cZ σ κ0 κ1) := hD.sub [2, 3, 4, 5, 6, 7, 8, 9, 10, 11, 12, 13, 14, 15, 16, 17, 18, 19, 20, 21, 22, 23, 24, 25] (by decide) rfl
  refine lv_aload hx hb dL_removed_0 (lv_at hl 4 rfl) ?_
  refine n_iconst (k := 0) hx hb dL_removed_2 (by decide) ?_
  refine lv_aload_n hx hb dL_removed_3 rfl (lv_at hl 0 rfl) ?_
  refine lv_iload_n hx hb dL_removed_4 rfl (lv_at hl 1 rfl) ?_
  refine lv_iload_n hx hb dL_removed_5 rfl (lv_at hl 2 rfl) ?_
  refine lv_iload_n hx hb dL_removed_6 rfl (lv_at hl 3 rfl) ?_
  refine thV (As := [.int (x), .int (y9), .int (z)]) (rest := [.int (nI (0)), .ref (qo)]) (n := 3) ⟨hx, hb, hml, hown, htA⟩ (f_removed_bad l D cI cZ sa hst9 q σ κ0 κ1 x y9 z s.heap hPX hbad) (cwV 3 htA (gdV wd_509 wd_510 wd_511 wd_1 wd_512) rfl rfl rfl (by decide +kernel) ⟨Nat.le_of_ble_eq_true rfl, Nat.le_of_ble_eq_true rfl⟩) hKK hZ hPX 0 rfl rfl rfl hl.1 rfl (Nat.le_of_ble_eq_true rfl) dL_removed_7 (Nat.le_of_ble_eq_true rfl) (Nat.le_of_ble_eq_true rfl) (fun H1 ce q9 hz hk hc hv hcl => ?_)
  refine vx_catch (name := "java/lang/IllegalArgumentException") hown [] ⟨0, 12, 15, 13⟩ [⟨0, 12, 19, 15⟩] ((vx_table (x := yL_removed) B (htA _ wd_508)).trans rfl) (fun _ h => nomatch h) (by decide) (by decide) (htA _ wd_164) (va_Nw.use rfl (ex_cA hKK.2)) hc hv hcl ?_
  refine lv_astore (lv' := [(5, .ref (q9)), (0, .ref (q 0)), (1, .int (x)), (2, .int (y9)), (3, .int (z)), (4, .ref (qo))]) hx hb dL_removed_15 hl (by decide) rfl (fun ls hl => ?_)
  refine n_iconst (k := 1) hx hb dL_removed_17 (by decide) ?_
  exact W.iret hx hb hr (fun t ht _ => ⟨rfl, by rw [ht]; exact P_grow hP hk, ⟨by rw [ht]; exact hz, fun a ha _ => by rw [ht]; exact hk a ha⟩⟩) (fun _ h => nomatch h) dL_removed_18 hlocks
set_option maxHeartbeats 4000000 in
set_option maxRecDepth 100000 in
theorem w_removed_no (l : Launch) (D : va_G) (cI cZ cL cD : ClassId) (sa : Nat → Nat) (q : Nat → Nat) (qo qd : Nat) (σ κ0 κ1 : ST) (g : Nat → Int64) (gd : Nat → UInt64) (A : Nat → Prop) (hD : va_D A (wL q qo qd cI cZ cL cD σ κ0 κ1 g gd)) (hst9 : l.stackTraces = false)  (st b0 k9 : Nat) (hB : ∀ k i, σ k i < 1073741824) (hst : st ≤ σ 7 0) (hb9 : b0 < 6) (hk9 : k9 ≤ 4) (hv9 : decide (σ 7 0 - st ≤ 40) = false) : Met l yL_removed (codeL yL_removed cL_removed 6 (some .int) [(0, 12, 15, 13), (0, 12, 19, 15)]) ({ frames := 8, cells := 1, slots := 6, locals := 128 } : Room) (LwP D cI cZ cL cD sa (wL q qo qd cI cZ cL cD σ κ0 κ1 g gd) [.ref (q 0), .int (nI (st)), .int (nI (b0)), .int (oi (k9)), .ref (qo)]) (WrQ (some (.int (nI 2))) D (wL q qo qd cI cZ cL cD σ κ0 κ1 g gd) A) 1 6 A := by
  refine va_MetW (cc := cL_removed) (maxL := 6) (ret := (some .int)) (hh := [(0, 12, 15, 13), (0, 12, 19, 15)]) (by decide) rfl ?_
  intro p e s m args below meth c s₁ B hml hv
  obtain ⟨rfl, hP, hKK, hKL, hZ⟩ := hv
  have hx := B.exec
  have hb := B.bytes
  have hr := B.returns
  have htA : ∀ w ∈ WA, w.before _ s = true := fun w h => atoms_spec (ws := (codeL yL_removed cL_removed 6 (some .int) [(0, 12, 15, 13), (0, 12, 19, 15)])) B.pre w (List.mem_cons_of_mem _ h)
  have hown : s.vm.findClass RL = some m.cls := findClass_of_methodNamed B.named
  have hlocks := B.notSynchronized
  have hS : va_S A s.heap s.heap [] := va_S.rf
  have hl := lv_entry ([.ref (q 0), .int (nI (st)), .int (nI (b0)), .int (oi (k9)), .ref (qo)]) (n := 6) (Nat.le_of_ble_eq_true rfl)
  rw [lg_entry_eq]
  generalize (lg_sl ([.ref (q 0), .int (nI (st)), .int (nI (b0)), .int (oi (k9)), .ref (qo)]) ++ List.replicate (6 - (lg_sl ([.ref (q 0), .int (nI (st)), .int (nI (b0)), .int (oi (k9)), .ref (qo)])).length) Slot.unset).toArray = ls at hl ⊢
  have hl : lv_has ls 6 [(0, .ref (q 0)), (1, .int (nI (st))), (2, .int (nI (b0))), (3, .int (oi (k9))), (4, .ref (qo))] := hl
  have hPX : va_P D vwCl (wX q cI cZ σ κ0 κ1) s.heap := hP.sub [2, 3, 4, 5, 6, 7, 8, 9, 10, 11, 12, 13, 14, 15, 16, 17, 18, 19, 20, 21, 22, 23, 24, 25] rfl
  have hDX : va_D A (wX q cI cZ σ κ0 κ1) := hD.sub [2, 3, 4, 5, 6, 7, 8, 9, 10, 11, 12, 13, 14, 15, 16, 17, 18, 19, 20, 21, 22, 23, 24, 25] (by decide) rfl
  refine lv_aload hx hb dL_removed_0 (lv_at hl 4 rfl) ?_
  refine n_iconst (k := 0) hx hb dL_removed_2 (by decide) ?_
  refine lv_aload_n hx hb dL_removed_3 rfl (lv_at hl 0 rfl) ?_
  refine lv_iload_n hx hb dL_removed_4 rfl (lv_at hl 1 rfl) ?_
  refine lv_iload_n hx hb dL_removed_5 rfl (lv_at hl 2 rfl) ?_
  refine lv_iload_n hx hb dL_removed_6 rfl (lv_at hl 3 rfl) ?_
  refine thV (As := [.int (nI (st)), .int (nI (b0)), .int (oi (k9))]) (rest := [.int (nI (0)), .ref (qo)]) (n := 3) ⟨hx, hb, hml, hown, htA⟩ (f_removed_no l D cI cZ sa hst9 q σ κ0 κ1 st b0 k9 s.heap hPX hB hst hb9 hk9 hv9) (cwV 3 htA (gdV wd_509 wd_510 wd_511 wd_1 wd_512) rfl rfl rfl (by decide +kernel) ⟨Nat.le_of_ble_eq_true rfl, Nat.le_of_ble_eq_true rfl⟩) hKK hZ hPX 0 rfl rfl rfl hl.1 rfl (Nat.le_of_ble_eq_true rfl) dL_removed_7 (Nat.le_of_ble_eq_true rfl) (Nat.le_of_ble_eq_true rfl) (fun H1 ce q9 hz hk hc hv hcl => ?_)
  refine vx_catch (name := "java/lang/IllegalStateException") hown [⟨0, 12, 15, 13⟩] ⟨0, 12, 19, 15⟩ [] ((vx_table (x := yL_removed) B (htA _ wd_508)).trans rfl) (List.forall_mem_cons.mpr ⟨Or.inr ⟨by decide, "java/lang/IllegalArgumentException", htA _ wd_164, ex_nSA hKK.2⟩, (fun _ h => nomatch h)⟩) (by decide) (by decide) (htA _ wd_165) (va_Nw.use rfl (ex_cS hKK.2)) hc hv hcl ?_
  refine lv_astore (lv' := [(5, .ref (q9)), (0, .ref (q 0)), (1, .int (nI (st))), (2, .int (nI (b0))), (3, .int (oi (k9))), (4, .ref (qo))]) hx hb dL_removed_19 hl (by decide) rfl (fun ls hl => ?_)
  refine n_iconst (k := 2) hx hb dL_removed_21 (by decide) ?_
  exact W.iret hx hb hr (fun t ht _ => ⟨rfl, by rw [ht]; exact P_grow hP hk, ⟨by rw [ht]; exact hz, fun a ha _ => by rw [ht]; exact hk a ha⟩⟩) (fun _ h => nomatch h) dL_removed_22 hlocks
set_option maxHeartbeats 4000000 in
set_option maxRecDepth 100000 in
theorem w_removed_ok (l : Launch) (D : va_G) (cI cZ cL cD : ClassId) (sa : Nat → Nat) (q : Nat → Nat) (qo qd : Nat) (σ κ0 κ1 : ST) (g : Nat → Int64) (gd : Nat → UInt64) (A : Nat → Prop) (hD : va_D A (wL q qo qd cI cZ cL cD σ κ0 κ1 g gd))  (st b0 k9 : Nat) (hB : ∀ k i, σ k i < 1073741824) (hst : st ≤ σ 7 0) (hb9 : b0 < 6) (hk9 : k9 ≤ 4) (hv9 : decide (σ 7 0 - st ≤ 40) = true) : Met l yL_removed (codeL yL_removed cL_removed 6 (some .int) [(0, 12, 15, 13), (0, 12, 19, 15)]) ({ frames := 8, cells := 1, slots := 6, locals := 128 } : Room) (LwP D cI cZ cL cD sa (wL q qo qd cI cZ cL cD σ κ0 κ1 g gd) [.ref (q 0), .int (nI (st)), .int (nI (b0)), .int (oi (k9)), .ref (qo)]) (WrQ (some (.int (nI 0))) D (wL q qo qd cI cZ cL cD σ κ0 κ1 (gu g ((bitc (rmv σ st (2 ^ b0) (askq k9))).toInt64)) gd) A) 1 6 A := by
  refine va_MetW (cc := cL_removed) (maxL := 6) (ret := (some .int)) (hh := [(0, 12, 15, 13), (0, 12, 19, 15)]) (by decide) rfl ?_
  intro p e s m args below meth c s₁ B hml hv
  obtain ⟨rfl, hP, hKK, hKL, hZ⟩ := hv
  have hx := B.exec
  have hb := B.bytes
  have hr := B.returns
  have htA : ∀ w ∈ WA, w.before _ s = true := fun w h => atoms_spec (ws := (codeL yL_removed cL_removed 6 (some .int) [(0, 12, 15, 13), (0, 12, 19, 15)])) B.pre w (List.mem_cons_of_mem _ h)
  have hown : s.vm.findClass RL = some m.cls := findClass_of_methodNamed B.named
  have hlocks := B.notSynchronized
  have hS : va_S A s.heap s.heap [] := va_S.rf
  have hl := lv_entry ([.ref (q 0), .int (nI (st)), .int (nI (b0)), .int (oi (k9)), .ref (qo)]) (n := 6) (Nat.le_of_ble_eq_true rfl)
  rw [lg_entry_eq]
  generalize (lg_sl ([.ref (q 0), .int (nI (st)), .int (nI (b0)), .int (oi (k9)), .ref (qo)]) ++ List.replicate (6 - (lg_sl ([.ref (q 0), .int (nI (st)), .int (nI (b0)), .int (oi (k9)), .ref (qo)])).length) Slot.unset).toArray = ls at hl ⊢
  have hl : lv_has ls 6 [(0, .ref (q 0)), (1, .int (nI (st))), (2, .int (nI (b0))), (3, .int (oi (k9))), (4, .ref (qo))] := hl
  have hPX : va_P D vwCl (wX q cI cZ σ κ0 κ1) s.heap := hP.sub [2, 3, 4, 5, 6, 7, 8, 9, 10, 11, 12, 13, 14, 15, 16, 17, 18, 19, 20, 21, 22, 23, 24, 25] rfl
  have hDX : va_D A (wX q cI cZ σ κ0 κ1) := hD.sub [2, 3, 4, 5, 6, 7, 8, 9, 10, 11, 12, 13, 14, 15, 16, 17, 18, 19, 20, 21, 22, 23, 24, 25] (by decide) rfl
  refine lv_aload hx hb dL_removed_0 (lv_at hl 4 rfl) ?_
  refine n_iconst (k := 0) hx hb dL_removed_2 (by decide) ?_
  refine lv_aload_n hx hb dL_removed_3 rfl (lv_at hl 0 rfl) ?_
  refine lv_iload_n hx hb dL_removed_4 rfl (lv_at hl 1 rfl) ?_
  refine lv_iload_n hx hb dL_removed_5 rfl (lv_at hl 2 rfl) ?_
  refine lv_iload_n hx hb dL_removed_6 rfl (lv_at hl 3 rfl) ?_
  refine roV1 (v := .int (bitc (rmv σ st (2 ^ b0) (askq k9)))) (As := [.int (nI (st)), .int (nI (b0)), .int (oi (k9))]) (rest := [.int (nI (0)), .ref (qo)]) (n := 3) ⟨hx, hb, hml, hown, htA⟩ (f_removed_ok l D cI cZ sa q σ κ0 κ1 st b0 k9 s.heap hPX hB hst hb9 hk9 hv9) (cwV 3 htA (gdV wd_509 wd_510 wd_511 wd_1 wd_512) rfl rfl rfl (by decide +kernel) ⟨Nat.le_of_ble_eq_true rfl, Nat.le_of_ble_eq_true rfl⟩) hKK hPX 0 rfl rfl rfl hl.1 rfl (Nat.le_of_ble_eq_true rfl) dL_removed_7 (Nat.zero_le _) (Nat.zero_le _) ?_
  refine lv_i2l hx hb dL_removed_10 rfl ?_
  refine va_last hx hb hKL hP (D_addr hD rfl) hS 0 0 rfl rfl (vp_in_nI (n := 0) (N := 1) (by decide) (by decide)) dL_removed_11 (fun H locs hP _ hS => ?_)
  have hP : va_P D vwCl (wL q qo qd cI cZ cL cD σ κ0 κ1 (gu g ((bitc (rmv σ st (2 ^ b0) (askq k9))).toInt64)) gd) H := hP
  refine lv_goto (tgt := 23) hx hb dL_removed_12 (by decide) ?_
  refine n_iconst (k := 0) hx hb dL_removed_23 (by decide) ?_
  refine W.widen (k := 1) (n := 6) (by decide) (by decide) ?_
  exact W.iret hx hb hr (fun t ht _ => ⟨rfl, by rw [ht]; exact hP, hS.F ht⟩) hS.2.2 dL_removed_24 hlocks
set_option maxHeartbeats 4000000 in
set_option maxRecDepth 100000 in
theorem w_added_bad (l : Launch) (D : va_G) (cI cZ cL cD : ClassId) (sa : Nat → Nat) (q : Nat → Nat) (qo qd : Nat) (σ κ0 κ1 : ST) (g : Nat → Int64) (gd : Nat → UInt64) (A : Nat → Prop) (hD : va_D A (wL q qo qd cI cZ cL cD σ κ0 κ1 g gd)) (hst9 : l.stackTraces = false)  (x y9 z : Int32) (hbad : (iw (x) (nI (0)) (nI (σ 7 0)) && iw (y9) (nI (0)) (nI (5)) && iq (z)) = false) : Met l yL_added (codeL yL_added cL_added 6 (some .int) [(0, 12, 15, 13), (0, 12, 19, 15)]) ({ frames := 8, cells := 1, slots := 6, locals := 128 } : Room) (LwP D cI cZ cL cD sa (wL q qo qd cI cZ cL cD σ κ0 κ1 g gd) [.ref (q 0), .int (x), .int (y9), .int (z), .ref (qo)]) (WrQ (some (.int (nI 1))) D (wL q qo qd cI cZ cL cD σ κ0 κ1 g gd) A) 1 6 A := by
  refine va_MetW (cc := cL_added) (maxL := 6) (ret := (some .int)) (hh := [(0, 12, 15, 13), (0, 12, 19, 15)]) (by decide) rfl ?_
  intro p e s m args below meth c s₁ B hml hv
  obtain ⟨rfl, hP, hKK, hKL, hZ⟩ := hv
  have hx := B.exec
  have hb := B.bytes
  have hr := B.returns
  have htA : ∀ w ∈ WA, w.before _ s = true := fun w h => atoms_spec (ws := (codeL yL_added cL_added 6 (some .int) [(0, 12, 15, 13), (0, 12, 19, 15)])) B.pre w (List.mem_cons_of_mem _ h)
  have hown : s.vm.findClass RL = some m.cls := findClass_of_methodNamed B.named
  have hlocks := B.notSynchronized
  have hS : va_S A s.heap s.heap [] := va_S.rf
  have hl := lv_entry ([.ref (q 0), .int (x), .int (y9), .int (z), .ref (qo)]) (n := 6) (Nat.le_of_ble_eq_true rfl)
  rw [lg_entry_eq]
  generalize (lg_sl ([.ref (q 0), .int (x), .int (y9), .int (z), .ref (qo)]) ++ List.replicate (6 - (lg_sl ([.ref (q 0), .int (x), .int (y9), .int (z), .ref (qo)])).length) Slot.unset).toArray = ls at hl ⊢
  have hl : lv_has ls 6 [(0, .ref (q 0)), (1, .int (x)), (2, .int (y9)), (3, .int (z)), (4, .ref (qo))] := hl
  have hPX : va_P D vwCl (wX q cI cZ σ κ0 κ1) s.heap := hP.sub [2, 3, 4, 5, 6, 7, 8, 9, 10, 11, 12, 13, 14, 15, 16, 17, 18, 19, 20, 21, 22, 23, 24, 25] rfl
  have hDX : va_D A (wX q cI cZ σ κ0 κ1) := hD.sub [2, 3, 4, 5, 6, 7, 8, 9, 10, 11, 12, 13, 14, 15, 16, 17, 18, 19, 20, 21, 22, 23, 24, 25] (by decide) rfl
  refine lv_aload hx hb dL_added_0 (lv_at hl 4 rfl) ?_
  refine n_iconst (k := 0) hx hb dL_added_2 (by decide) ?_
  refine lv_aload_n hx hb dL_added_3 rfl (lv_at hl 0 rfl) ?_
  refine lv_iload_n hx hb dL_added_4 rfl (lv_at hl 1 rfl) ?_
  refine lv_iload_n hx hb dL_added_5 rfl (lv_at hl 2 rfl) ?_
  refine lv_iload_n hx hb dL_added_6 rfl (lv_at hl 3 rfl) ?_
  refine thV (As := [.int (x), .int (y9), .int (z)]) (rest := [.int (nI (0)), .ref (qo)]) (n := 3) ⟨hx, hb, hml, hown, htA⟩ (f_added_bad l D cI cZ sa hst9 q σ κ0 κ1 x y9 z s.heap hPX hbad) (cwV 3 htA (gdV wd_518 wd_519 wd_520 wd_1 wd_521) rfl rfl rfl (by decide +kernel) ⟨Nat.le_of_ble_eq_true rfl, Nat.le_of_ble_eq_true rfl⟩) hKK hZ hPX 0 rfl rfl rfl hl.1 rfl (Nat.le_of_ble_eq_true rfl) dL_added_7 (Nat.le_of_ble_eq_true rfl) (Nat.le_of_ble_eq_true rfl) (fun H1 ce q9 hz hk hc hv hcl => ?_)
  refine vx_catch (name := "java/lang/IllegalArgumentException") hown [] ⟨0, 12, 15, 13⟩ [⟨0, 12, 19, 15⟩] ((vx_table (x := yL_added) B (htA _ wd_517)).trans rfl) (fun _ h => nomatch h) (by decide) (by decide) (htA _ wd_164) (va_Nw.use rfl (ex_cA hKK.2)) hc hv hcl ?_
  refine lv_astore (lv' := [(5, .ref (q9)), (0, .ref (q 0)), (1, .int (x)), (2, .int (y9)), (3, .int (z)), (4, .ref (qo))]) hx hb dL_added_15 hl (by decide) rfl (fun ls hl => ?_)
  refine n_iconst (k := 1) hx hb dL_added_17 (by decide) ?_
  exact W.iret hx hb hr (fun t ht _ => ⟨rfl, by rw [ht]; exact P_grow hP hk, ⟨by rw [ht]; exact hz, fun a ha _ => by rw [ht]; exact hk a ha⟩⟩) (fun _ h => nomatch h) dL_added_18 hlocks
set_option maxHeartbeats 4000000 in
set_option maxRecDepth 100000 in
theorem w_added_no (l : Launch) (D : va_G) (cI cZ cL cD : ClassId) (sa : Nat → Nat) (q : Nat → Nat) (qo qd : Nat) (σ κ0 κ1 : ST) (g : Nat → Int64) (gd : Nat → UInt64) (A : Nat → Prop) (hD : va_D A (wL q qo qd cI cZ cL cD σ κ0 κ1 g gd)) (hst9 : l.stackTraces = false)  (st b0 k9 : Nat) (hB : ∀ k i, σ k i < 1073741824) (hst : st ≤ σ 7 0) (hb9 : b0 < 6) (hk9 : k9 ≤ 4) (hv9 : decide (σ 7 0 - st ≤ 40) = false) : Met l yL_added (codeL yL_added cL_added 6 (some .int) [(0, 12, 15, 13), (0, 12, 19, 15)]) ({ frames := 8, cells := 1, slots := 6, locals := 128 } : Room) (LwP D cI cZ cL cD sa (wL q qo qd cI cZ cL cD σ κ0 κ1 g gd) [.ref (q 0), .int (nI (st)), .int (nI (b0)), .int (oi (k9)), .ref (qo)]) (WrQ (some (.int (nI 2))) D (wL q qo qd cI cZ cL cD σ κ0 κ1 g gd) A) 1 6 A := by
  refine va_MetW (cc := cL_added) (maxL := 6) (ret := (some .int)) (hh := [(0, 12, 15, 13), (0, 12, 19, 15)]) (by decide) rfl ?_
  intro p e s m args below meth c s₁ B hml hv
  obtain ⟨rfl, hP, hKK, hKL, hZ⟩ := hv
  have hx := B.exec
  have hb := B.bytes
  have hr := B.returns
  have htA : ∀ w ∈ WA, w.before _ s = true := fun w h => atoms_spec (ws := (codeL yL_added cL_added 6 (some .int) [(0, 12, 15, 13), (0, 12, 19, 15)])) B.pre w (List.mem_cons_of_mem _ h)
  have hown : s.vm.findClass RL = some m.cls := findClass_of_methodNamed B.named
  have hlocks := B.notSynchronized
  have hS : va_S A s.heap s.heap [] := va_S.rf
  have hl := lv_entry ([.ref (q 0), .int (nI (st)), .int (nI (b0)), .int (oi (k9)), .ref (qo)]) (n := 6) (Nat.le_of_ble_eq_true rfl)
  rw [lg_entry_eq]
  generalize (lg_sl ([.ref (q 0), .int (nI (st)), .int (nI (b0)), .int (oi (k9)), .ref (qo)]) ++ List.replicate (6 - (lg_sl ([.ref (q 0), .int (nI (st)), .int (nI (b0)), .int (oi (k9)), .ref (qo)])).length) Slot.unset).toArray = ls at hl ⊢
  have hl : lv_has ls 6 [(0, .ref (q 0)), (1, .int (nI (st))), (2, .int (nI (b0))), (3, .int (oi (k9))), (4, .ref (qo))] := hl
  have hPX : va_P D vwCl (wX q cI cZ σ κ0 κ1) s.heap := hP.sub [2, 3, 4, 5, 6, 7, 8, 9, 10, 11, 12, 13, 14, 15, 16, 17, 18, 19, 20, 21, 22, 23, 24, 25] rfl
  have hDX : va_D A (wX q cI cZ σ κ0 κ1) := hD.sub [2, 3, 4, 5, 6, 7, 8, 9, 10, 11, 12, 13, 14, 15, 16, 17, 18, 19, 20, 21, 22, 23, 24, 25] (by decide) rfl
  refine lv_aload hx hb dL_added_0 (lv_at hl 4 rfl) ?_
  refine n_iconst (k := 0) hx hb dL_added_2 (by decide) ?_
  refine lv_aload_n hx hb dL_added_3 rfl (lv_at hl 0 rfl) ?_
  refine lv_iload_n hx hb dL_added_4 rfl (lv_at hl 1 rfl) ?_
  refine lv_iload_n hx hb dL_added_5 rfl (lv_at hl 2 rfl) ?_
  refine lv_iload_n hx hb dL_added_6 rfl (lv_at hl 3 rfl) ?_
  refine thV (As := [.int (nI (st)), .int (nI (b0)), .int (oi (k9))]) (rest := [.int (nI (0)), .ref (qo)]) (n := 3) ⟨hx, hb, hml, hown, htA⟩ (f_added_no l D cI cZ sa hst9 q σ κ0 κ1 st b0 k9 s.heap hPX hB hst hb9 hk9 hv9) (cwV 3 htA (gdV wd_518 wd_519 wd_520 wd_1 wd_521) rfl rfl rfl (by decide +kernel) ⟨Nat.le_of_ble_eq_true rfl, Nat.le_of_ble_eq_true rfl⟩) hKK hZ hPX 0 rfl rfl rfl hl.1 rfl (Nat.le_of_ble_eq_true rfl) dL_added_7 (Nat.le_of_ble_eq_true rfl) (Nat.le_of_ble_eq_true rfl) (fun H1 ce q9 hz hk hc hv hcl => ?_)
  refine vx_catch (name := "java/lang/IllegalStateException") hown [⟨0, 12, 15, 13⟩] ⟨0, 12, 19, 15⟩ [] ((vx_table (x := yL_added) B (htA _ wd_517)).trans rfl) (List.forall_mem_cons.mpr ⟨Or.inr ⟨by decide, "java/lang/IllegalArgumentException", htA _ wd_164, ex_nSA hKK.2⟩, (fun _ h => nomatch h)⟩) (by decide) (by decide) (htA _ wd_165) (va_Nw.use rfl (ex_cS hKK.2)) hc hv hcl ?_
  refine lv_astore (lv' := [(5, .ref (q9)), (0, .ref (q 0)), (1, .int (nI (st))), (2, .int (nI (b0))), (3, .int (oi (k9))), (4, .ref (qo))]) hx hb dL_added_19 hl (by decide) rfl (fun ls hl => ?_)
  refine n_iconst (k := 2) hx hb dL_added_21 (by decide) ?_
  exact W.iret hx hb hr (fun t ht _ => ⟨rfl, by rw [ht]; exact P_grow hP hk, ⟨by rw [ht]; exact hz, fun a ha _ => by rw [ht]; exact hk a ha⟩⟩) (fun _ h => nomatch h) dL_added_22 hlocks
set_option maxHeartbeats 4000000 in
set_option maxRecDepth 100000 in
theorem w_added_ok (l : Launch) (D : va_G) (cI cZ cL cD : ClassId) (sa : Nat → Nat) (q : Nat → Nat) (qo qd : Nat) (σ κ0 κ1 : ST) (g : Nat → Int64) (gd : Nat → UInt64) (A : Nat → Prop) (hD : va_D A (wL q qo qd cI cZ cL cD σ κ0 κ1 g gd))  (st b0 k9 : Nat) (hB : ∀ k i, σ k i < 1073741824) (hst : st ≤ σ 7 0) (hb9 : b0 < 6) (hk9 : k9 ≤ 4) (hv9 : decide (σ 7 0 - st ≤ 40) = true) : Met l yL_added (codeL yL_added cL_added 6 (some .int) [(0, 12, 15, 13), (0, 12, 19, 15)]) ({ frames := 8, cells := 1, slots := 6, locals := 128 } : Room) (LwP D cI cZ cL cD sa (wL q qo qd cI cZ cL cD σ κ0 κ1 g gd) [.ref (q 0), .int (nI (st)), .int (nI (b0)), .int (oi (k9)), .ref (qo)]) (WrQ (some (.int (nI 0))) D (wL q qo qd cI cZ cL cD σ κ0 κ1 (gu g ((bitc (add_ σ st (2 ^ b0) (askq k9))).toInt64)) gd) A) 1 6 A := by
  refine va_MetW (cc := cL_added) (maxL := 6) (ret := (some .int)) (hh := [(0, 12, 15, 13), (0, 12, 19, 15)]) (by decide) rfl ?_
  intro p e s m args below meth c s₁ B hml hv
  obtain ⟨rfl, hP, hKK, hKL, hZ⟩ := hv
  have hx := B.exec
  have hb := B.bytes
  have hr := B.returns
  have htA : ∀ w ∈ WA, w.before _ s = true := fun w h => atoms_spec (ws := (codeL yL_added cL_added 6 (some .int) [(0, 12, 15, 13), (0, 12, 19, 15)])) B.pre w (List.mem_cons_of_mem _ h)
  have hown : s.vm.findClass RL = some m.cls := findClass_of_methodNamed B.named
  have hlocks := B.notSynchronized
  have hS : va_S A s.heap s.heap [] := va_S.rf
  have hl := lv_entry ([.ref (q 0), .int (nI (st)), .int (nI (b0)), .int (oi (k9)), .ref (qo)]) (n := 6) (Nat.le_of_ble_eq_true rfl)
  rw [lg_entry_eq]
  generalize (lg_sl ([.ref (q 0), .int (nI (st)), .int (nI (b0)), .int (oi (k9)), .ref (qo)]) ++ List.replicate (6 - (lg_sl ([.ref (q 0), .int (nI (st)), .int (nI (b0)), .int (oi (k9)), .ref (qo)])).length) Slot.unset).toArray = ls at hl ⊢
  have hl : lv_has ls 6 [(0, .ref (q 0)), (1, .int (nI (st))), (2, .int (nI (b0))), (3, .int (oi (k9))), (4, .ref (qo))] := hl
  have hPX : va_P D vwCl (wX q cI cZ σ κ0 κ1) s.heap := hP.sub [2, 3, 4, 5, 6, 7, 8, 9, 10, 11, 12, 13, 14, 15, 16, 17, 18, 19, 20, 21, 22, 23, 24, 25] rfl
  have hDX : va_D A (wX q cI cZ σ κ0 κ1) := hD.sub [2, 3, 4, 5, 6, 7, 8, 9, 10, 11, 12, 13, 14, 15, 16, 17, 18, 19, 20, 21, 22, 23, 24, 25] (by decide) rfl
  refine lv_aload hx hb dL_added_0 (lv_at hl 4 rfl) ?_
  refine n_iconst (k := 0) hx hb dL_added_2 (by decide) ?_
  refine lv_aload_n hx hb dL_added_3 rfl (lv_at hl 0 rfl) ?_
  refine lv_iload_n hx hb dL_added_4 rfl (lv_at hl 1 rfl) ?_
  refine lv_iload_n hx hb dL_added_5 rfl (lv_at hl 2 rfl) ?_
  refine lv_iload_n hx hb dL_added_6 rfl (lv_at hl 3 rfl) ?_
  refine roV1 (v := .int (bitc (add_ σ st (2 ^ b0) (askq k9)))) (As := [.int (nI (st)), .int (nI (b0)), .int (oi (k9))]) (rest := [.int (nI (0)), .ref (qo)]) (n := 3) ⟨hx, hb, hml, hown, htA⟩ (f_added_ok l D cI cZ sa q σ κ0 κ1 st b0 k9 s.heap hPX hB hst hb9 hk9 hv9) (cwV 3 htA (gdV wd_518 wd_519 wd_520 wd_1 wd_521) rfl rfl rfl (by decide +kernel) ⟨Nat.le_of_ble_eq_true rfl, Nat.le_of_ble_eq_true rfl⟩) hKK hPX 0 rfl rfl rfl hl.1 rfl (Nat.le_of_ble_eq_true rfl) dL_added_7 (Nat.zero_le _) (Nat.zero_le _) ?_
  refine lv_i2l hx hb dL_added_10 rfl ?_
  refine va_last hx hb hKL hP (D_addr hD rfl) hS 0 0 rfl rfl (vp_in_nI (n := 0) (N := 1) (by decide) (by decide)) dL_added_11 (fun H locs hP _ hS => ?_)
  have hP : va_P D vwCl (wL q qo qd cI cZ cL cD σ κ0 κ1 (gu g ((bitc (add_ σ st (2 ^ b0) (askq k9))).toInt64)) gd) H := hP
  refine lv_goto (tgt := 23) hx hb dL_added_12 (by decide) ?_
  refine n_iconst (k := 0) hx hb dL_added_23 (by decide) ?_
  refine W.widen (k := 1) (n := 6) (by decide) (by decide) ?_
  exact W.iret hx hb hr (fun t ht _ => ⟨rfl, by rw [ht]; exact hP, hS.F ht⟩) hS.2.2 dL_added_24 hlocks
set_option maxHeartbeats 4000000 in
set_option maxRecDepth 100000 in
theorem w_watch_bad (l : Launch) (D : va_G) (cI cZ cL cD : ClassId) (sa : Nat → Nat) (q : Nat → Nat) (qo qd : Nat) (σ κ0 κ1 : ST) (g : Nat → Int64) (gd : Nat → UInt64) (A : Nat → Prop) (hD : va_D A (wL q qo qd cI cZ cL cD σ κ0 κ1 g gd)) (hst9 : l.stackTraces = false)  (x y9 z : Int32) (hbad : (iw (x) (nI (0)) (nI (1)) && iw (y9) (nI (0)) (nI (5)) && iw (z) (nI (1)) (nI (10))) = false) : Met l yL_watch (codeL yL_watch cL_watch 5 (some .int) [(0, 7, 10, 13)]) ({ frames := 7, cells := 1, slots := 6, locals := 106 } : Room) (LwP D cI cZ cL cD sa (wL q qo qd cI cZ cL cD σ κ0 κ1 g gd) [.ref (q 0), .int (x), .int (y9), .int (z)]) (WrQ (some (.int (nI 1))) D (wL q qo qd cI cZ cL cD σ κ0 κ1 g gd) A) 1 6 A := by
  refine va_MetW (cc := cL_watch) (maxL := 5) (ret := (some .int)) (hh := [(0, 7, 10, 13)]) (by decide) rfl ?_
  intro p e s m args below meth c s₁ B hml hv
  obtain ⟨rfl, hP, hKK, hKL, hZ⟩ := hv
  have hx := B.exec
  have hb := B.bytes
  have hr := B.returns
  have htA : ∀ w ∈ WA, w.before _ s = true := fun w h => atoms_spec (ws := (codeL yL_watch cL_watch 5 (some .int) [(0, 7, 10, 13)])) B.pre w (List.mem_cons_of_mem _ h)
  have hown : s.vm.findClass RL = some m.cls := findClass_of_methodNamed B.named
  have hlocks := B.notSynchronized
  have hS : va_S A s.heap s.heap [] := va_S.rf
  have hl := lv_entry ([.ref (q 0), .int (x), .int (y9), .int (z)]) (n := 5) (Nat.le_of_ble_eq_true rfl)
  rw [lg_entry_eq]
  generalize (lg_sl ([.ref (q 0), .int (x), .int (y9), .int (z)]) ++ List.replicate (5 - (lg_sl ([.ref (q 0), .int (x), .int (y9), .int (z)])).length) Slot.unset).toArray = ls at hl ⊢
  have hl : lv_has ls 5 [(0, .ref (q 0)), (1, .int (x)), (2, .int (y9)), (3, .int (z))] := hl
  have hPX : va_P D vwCl (wX q cI cZ σ κ0 κ1) s.heap := hP.sub [2, 3, 4, 5, 6, 7, 8, 9, 10, 11, 12, 13, 14, 15, 16, 17, 18, 19, 20, 21, 22, 23, 24, 25] rfl
  have hDX : va_D A (wX q cI cZ σ κ0 κ1) := hD.sub [2, 3, 4, 5, 6, 7, 8, 9, 10, 11, 12, 13, 14, 15, 16, 17, 18, 19, 20, 21, 22, 23, 24, 25] (by decide) rfl
  refine lv_aload_n hx hb dL_watch_0 rfl (lv_at hl 0 rfl) ?_
  refine lv_iload_n hx hb dL_watch_1 rfl (lv_at hl 1 rfl) ?_
  refine lv_iload_n hx hb dL_watch_2 rfl (lv_at hl 2 rfl) ?_
  refine lv_iload_n hx hb dL_watch_3 rfl (lv_at hl 3 rfl) ?_
  refine thV (As := [.int (x), .int (y9), .int (z)]) (rest := []) (n := 3) ⟨hx, hb, hml, hown, htA⟩ (f_watch_bad l D cI cZ sa hst9 q σ κ0 κ1 x y9 z s.heap hPX hbad) (cwV 3 htA (gdV wd_525 wd_526 wd_527 wd_1 wd_528) rfl rfl rfl (by decide +kernel) ⟨Nat.le_of_ble_eq_true rfl, Nat.le_of_ble_eq_true rfl⟩) hKK hZ hPX 0 rfl rfl rfl hl.1 rfl (Nat.le_of_ble_eq_true rfl) dL_watch_4 (Nat.le_of_ble_eq_true rfl) (Nat.le_of_ble_eq_true rfl) (fun H1 ce q9 hz hk hc hv hcl => ?_)
  refine vx_catch (name := "java/lang/IllegalArgumentException") hown [] ⟨0, 7, 10, 13⟩ [] ((vx_table (x := yL_watch) B (htA _ wd_524)).trans rfl) (fun _ h => nomatch h) (by decide) (by decide) (htA _ wd_164) (va_Nw.use rfl (ex_cA hKK.2)) hc hv hcl ?_
  refine lv_astore (lv' := [(4, .ref (q9)), (0, .ref (q 0)), (1, .int (x)), (2, .int (y9)), (3, .int (z))]) hx hb dL_watch_10 hl (by decide) rfl (fun ls hl => ?_)
  refine n_iconst (k := 1) hx hb dL_watch_12 (by decide) ?_
  exact W.iret hx hb hr (fun t ht _ => ⟨rfl, by rw [ht]; exact P_grow hP hk, ⟨by rw [ht]; exact hz, fun a ha _ => by rw [ht]; exact hk a ha⟩⟩) (fun _ h => nomatch h) dL_watch_13 hlocks
set_option maxHeartbeats 4000000 in
set_option maxRecDepth 100000 in
theorem w_watch_0 (l : Launch) (D : va_G) (cI cZ cL cD : ClassId) (sa : Nat → Nat) (q : Nat → Nat) (qo qd : Nat) (σ κ0 κ1 : ST) (g : Nat → Int64) (gd : Nat → UInt64) (A : Nat → Prop) (hD : va_D A (wL q qo qd cI cZ cL cD σ κ0 κ1 g gd))  (b0 wd : Nat) (hb9 : b0 < 6) (hw1 : 1 ≤ wd) (hw2 : wd ≤ 10) : Met l yL_watch (codeL yL_watch cL_watch 5 (some .int) [(0, 7, 10, 13)]) ({ frames := 7, cells := 1, slots := 6, locals := 106 } : Room) (LwP D cI cZ cL cD sa (wL q qo qd cI cZ cL cD σ κ0 κ1 g gd) [.ref (q 0), .int (nI (0)), .int (nI (b0)), .int (nI (wd))]) (WrQ (some (.int (nI 0))) D (wL q qo qd cI cZ cL cD σ (sv (sv κ0 0 0 b0) 0 1 wd) κ1 g gd) A) 1 6 A := by
  refine va_MetW (cc := cL_watch) (maxL := 5) (ret := (some .int)) (hh := [(0, 7, 10, 13)]) (by decide) rfl ?_
  intro p e s m args below meth c s₁ B hml hv
  obtain ⟨rfl, hP, hKK, hKL, hZ⟩ := hv
  have hx := B.exec
  have hb := B.bytes
  have hr := B.returns
  have htA : ∀ w ∈ WA, w.before _ s = true := fun w h => atoms_spec (ws := (codeL yL_watch cL_watch 5 (some .int) [(0, 7, 10, 13)])) B.pre w (List.mem_cons_of_mem _ h)
  have hown : s.vm.findClass RL = some m.cls := findClass_of_methodNamed B.named
  have hlocks := B.notSynchronized
  have hS : va_S A s.heap s.heap [] := va_S.rf
  have hl := lv_entry ([.ref (q 0), .int (nI (0)), .int (nI (b0)), .int (nI (wd))]) (n := 5) (Nat.le_of_ble_eq_true rfl)
  rw [lg_entry_eq]
  generalize (lg_sl ([.ref (q 0), .int (nI (0)), .int (nI (b0)), .int (nI (wd))]) ++ List.replicate (5 - (lg_sl ([.ref (q 0), .int (nI (0)), .int (nI (b0)), .int (nI (wd))])).length) Slot.unset).toArray = ls at hl ⊢
  have hl : lv_has ls 5 [(0, .ref (q 0)), (1, .int (nI (0))), (2, .int (nI (b0))), (3, .int (nI (wd)))] := hl
  have hPX : va_P D vwCl (wX q cI cZ σ κ0 κ1) s.heap := hP.sub [2, 3, 4, 5, 6, 7, 8, 9, 10, 11, 12, 13, 14, 15, 16, 17, 18, 19, 20, 21, 22, 23, 24, 25] rfl
  have hDX : va_D A (wX q cI cZ σ κ0 κ1) := hD.sub [2, 3, 4, 5, 6, 7, 8, 9, 10, 11, 12, 13, 14, 15, 16, 17, 18, 19, 20, 21, 22, 23, 24, 25] (by decide) rfl
  refine lv_aload_n hx hb dL_watch_0 rfl (lv_at hl 0 rfl) ?_
  refine lv_iload_n hx hb dL_watch_1 rfl (lv_at hl 1 rfl) ?_
  refine lv_iload_n hx hb dL_watch_2 rfl (lv_at hl 2 rfl) ?_
  refine lv_iload_n hx hb dL_watch_3 rfl (lv_at hl 3 rfl) ?_
  refine wrV0 (As := [.int (nI (0)), .int (nI (b0)), .int (nI (wd))]) (rest := []) (n := 3) ⟨hx, hb, hml, hown, htA⟩ (f_watch_0 l D cI cZ sa q σ κ0 κ1 b0 wd (adr (wX q cI cZ σ κ0 κ1)) (D_adr hDX) hb9 hw1 hw2) (cwV 3 htA (gdV wd_525 wd_526 wd_527 wd_1 wd_528) rfl rfl rfl (by decide +kernel) ⟨Nat.le_of_ble_eq_true rfl, Nat.le_of_ble_eq_true rfl⟩) hKK hPX 0 rfl rfl rfl hl.1 rfl (Nat.le_of_ble_eq_true rfl) dL_watch_4 (Nat.zero_le _) (Nat.zero_le _) hS (fun a h => adr_in hDX a h) (fun H1 locs hP1 hz1 hk1 hS => ?_)
  have hP : va_P D vwCl (wL q qo qd cI cZ cL cD σ (sv (sv κ0 0 0 b0) 0 1 wd) κ1 g gd) H1 := L_put hD hP hk1 hP1
  refine lv_goto (tgt := 14) hx hb dL_watch_7 (by decide) ?_
  refine n_iconst (k := 0) hx hb dL_watch_14 (by decide) ?_
  refine W.widen (k := 1) (n := 6) (by decide) (by decide) ?_
  exact W.iret hx hb hr (fun t ht _ => ⟨rfl, by rw [ht]; exact hP, hS.F ht⟩) hS.2.2 dL_watch_15 hlocks
set_option maxHeartbeats 4000000 in
set_option maxRecDepth 100000 in
theorem w_watch_1 (l : Launch) (D : va_G) (cI cZ cL cD : ClassId) (sa : Nat → Nat) (q : Nat → Nat) (qo qd : Nat) (σ κ0 κ1 : ST) (g : Nat → Int64) (gd : Nat → UInt64) (A : Nat → Prop) (hD : va_D A (wL q qo qd cI cZ cL cD σ κ0 κ1 g gd))  (b0 wd : Nat) (hb9 : b0 < 6) (hw1 : 1 ≤ wd) (hw2 : wd ≤ 10) : Met l yL_watch (codeL yL_watch cL_watch 5 (some .int) [(0, 7, 10, 13)]) ({ frames := 7, cells := 1, slots := 6, locals := 106 } : Room) (LwP D cI cZ cL cD sa (wL q qo qd cI cZ cL cD σ κ0 κ1 g gd) [.ref (q 0), .int (nI (1)), .int (nI (b0)), .int (nI (wd))]) (WrQ (some (.int (nI 0))) D (wL q qo qd cI cZ cL cD σ κ0 (sv (sv κ1 0 0 b0) 0 1 wd) g gd) A) 1 6 A := by
  refine va_MetW (cc := cL_watch) (maxL := 5) (ret := (some .int)) (hh := [(0, 7, 10, 13)]) (by decide) rfl ?_
  intro p e s m args below meth c s₁ B hml hv
  obtain ⟨rfl, hP, hKK, hKL, hZ⟩ := hv
  have hx := B.exec
  have hb := B.bytes
  have hr := B.returns
  have htA : ∀ w ∈ WA, w.before _ s = true := fun w h => atoms_spec (ws := (codeL yL_watch cL_watch 5 (some .int) [(0, 7, 10, 13)])) B.pre w (List.mem_cons_of_mem _ h)
  have hown : s.vm.findClass RL = some m.cls := findClass_of_methodNamed B.named
  have hlocks := B.notSynchronized
  have hS : va_S A s.heap s.heap [] := va_S.rf
  have hl := lv_entry ([.ref (q 0), .int (nI (1)), .int (nI (b0)), .int (nI (wd))]) (n := 5) (Nat.le_of_ble_eq_true rfl)
  rw [lg_entry_eq]
  generalize (lg_sl ([.ref (q 0), .int (nI (1)), .int (nI (b0)), .int (nI (wd))]) ++ List.replicate (5 - (lg_sl ([.ref (q 0), .int (nI (1)), .int (nI (b0)), .int (nI (wd))])).length) Slot.unset).toArray = ls at hl ⊢
  have hl : lv_has ls 5 [(0, .ref (q 0)), (1, .int (nI (1))), (2, .int (nI (b0))), (3, .int (nI (wd)))] := hl
  have hPX : va_P D vwCl (wX q cI cZ σ κ0 κ1) s.heap := hP.sub [2, 3, 4, 5, 6, 7, 8, 9, 10, 11, 12, 13, 14, 15, 16, 17, 18, 19, 20, 21, 22, 23, 24, 25] rfl
  have hDX : va_D A (wX q cI cZ σ κ0 κ1) := hD.sub [2, 3, 4, 5, 6, 7, 8, 9, 10, 11, 12, 13, 14, 15, 16, 17, 18, 19, 20, 21, 22, 23, 24, 25] (by decide) rfl
  refine lv_aload_n hx hb dL_watch_0 rfl (lv_at hl 0 rfl) ?_
  refine lv_iload_n hx hb dL_watch_1 rfl (lv_at hl 1 rfl) ?_
  refine lv_iload_n hx hb dL_watch_2 rfl (lv_at hl 2 rfl) ?_
  refine lv_iload_n hx hb dL_watch_3 rfl (lv_at hl 3 rfl) ?_
  refine wrV0 (As := [.int (nI (1)), .int (nI (b0)), .int (nI (wd))]) (rest := []) (n := 3) ⟨hx, hb, hml, hown, htA⟩ (f_watch_1 l D cI cZ sa q σ κ0 κ1 b0 wd (adr (wX q cI cZ σ κ0 κ1)) (D_adr hDX) hb9 hw1 hw2) (cwV 3 htA (gdV wd_525 wd_526 wd_527 wd_1 wd_528) rfl rfl rfl (by decide +kernel) ⟨Nat.le_of_ble_eq_true rfl, Nat.le_of_ble_eq_true rfl⟩) hKK hPX 0 rfl rfl rfl hl.1 rfl (Nat.le_of_ble_eq_true rfl) dL_watch_4 (Nat.zero_le _) (Nat.zero_le _) hS (fun a h => adr_in hDX a h) (fun H1 locs hP1 hz1 hk1 hS => ?_)
  have hP : va_P D vwCl (wL q qo qd cI cZ cL cD σ κ0 (sv (sv κ1 0 0 b0) 0 1 wd) g gd) H1 := L_put hD hP hk1 hP1
  refine lv_goto (tgt := 14) hx hb dL_watch_7 (by decide) ?_
  refine n_iconst (k := 0) hx hb dL_watch_14 (by decide) ?_
  refine W.widen (k := 1) (n := 6) (by decide) (by decide) ?_
  exact W.iret hx hb hr (fun t ht _ => ⟨rfl, by rw [ht]; exact hP, hS.F ht⟩) hS.2.2 dL_watch_15 hlocks
set_option maxHeartbeats 4000000 in
set_option maxRecDepth 100000 in
theorem w_flagOffline_bad (l : Launch) (D : va_G) (cI cZ cL cD : ClassId) (sa : Nat → Nat) (q : Nat → Nat) (qo qd : Nat) (σ κ0 κ1 : ST) (g : Nat → Int64) (gd : Nat → UInt64) (A : Nat → Prop) (hD : va_D A (wL q qo qd cI cZ cL cD σ κ0 κ1 g gd)) (hst9 : l.stackTraces = false)  (x y9 z : Int32) (w0 : Nat) (hbad : (iw (x) (nI (0)) (nI (1)) && iw (z) (nI (0)) (nI (3))) = false) : Met l yL_flagOffline (codeL yL_flagOffline cL_flagOffline 7 (some .int) [(0, 14, 17, 13), (0, 14, 21, 15)]) ({ frames := 7, cells := 1, slots := 6, locals := 108 } : Room) (LwP D cI cZ cL cD sa (wL q qo qd cI cZ cL cD σ κ0 κ1 g gd) [.ref (q 0), .int (x), .int (y9), .int (z), .int (nI (w0)), .ref (qo)]) (WrQ (some (.int (nI 1))) D (wL q qo qd cI cZ cL cD σ κ0 κ1 g gd) A) 1 6 A := by
  refine va_MetW (cc := cL_flagOffline) (maxL := 7) (ret := (some .int)) (hh := [(0, 14, 17, 13), (0, 14, 21, 15)]) (by decide) rfl ?_
  intro p e s m args below meth c s₁ B hml hv
  obtain ⟨rfl, hP, hKK, hKL, hZ⟩ := hv
  have hx := B.exec
  have hb := B.bytes
  have hr := B.returns
  have htA : ∀ w ∈ WA, w.before _ s = true := fun w h => atoms_spec (ws := (codeL yL_flagOffline cL_flagOffline 7 (some .int) [(0, 14, 17, 13), (0, 14, 21, 15)])) B.pre w (List.mem_cons_of_mem _ h)
  have hown : s.vm.findClass RL = some m.cls := findClass_of_methodNamed B.named
  have hlocks := B.notSynchronized
  have hS : va_S A s.heap s.heap [] := va_S.rf
  have hl := lv_entry ([.ref (q 0), .int (x), .int (y9), .int (z), .int (nI (w0)), .ref (qo)]) (n := 7) (Nat.le_of_ble_eq_true rfl)
  rw [lg_entry_eq]
  generalize (lg_sl ([.ref (q 0), .int (x), .int (y9), .int (z), .int (nI (w0)), .ref (qo)]) ++ List.replicate (7 - (lg_sl ([.ref (q 0), .int (x), .int (y9), .int (z), .int (nI (w0)), .ref (qo)])).length) Slot.unset).toArray = ls at hl ⊢
  have hl : lv_has ls 7 [(0, .ref (q 0)), (1, .int (x)), (2, .int (y9)), (3, .int (z)), (4, .int (nI (w0))), (5, .ref (qo))] := hl
  have hPX : va_P D vwCl (wX q cI cZ σ κ0 κ1) s.heap := hP.sub [2, 3, 4, 5, 6, 7, 8, 9, 10, 11, 12, 13, 14, 15, 16, 17, 18, 19, 20, 21, 22, 23, 24, 25] rfl
  have hDX : va_D A (wX q cI cZ σ κ0 κ1) := hD.sub [2, 3, 4, 5, 6, 7, 8, 9, 10, 11, 12, 13, 14, 15, 16, 17, 18, 19, 20, 21, 22, 23, 24, 25] (by decide) rfl
  refine lv_aload hx hb dL_flagOffline_0 (lv_at hl 5 rfl) ?_
  refine n_iconst (k := 0) hx hb dL_flagOffline_2 (by decide) ?_
  refine lv_aload_n hx hb dL_flagOffline_3 rfl (lv_at hl 0 rfl) ?_
  refine lv_iload_n hx hb dL_flagOffline_4 rfl (lv_at hl 1 rfl) ?_
  refine lv_iload_n hx hb dL_flagOffline_5 rfl (lv_at hl 2 rfl) ?_
  refine lv_iload_n hx hb dL_flagOffline_6 rfl (lv_at hl 3 rfl) ?_
  refine lv_iload hx hb dL_flagOffline_7 (lv_at hl 4 rfl) ?_
  refine thV (As := [.int (x), .int (y9), .int (z), .int (nI (w0))]) (rest := [.int (nI (0)), .ref (qo)]) (n := 4) ⟨hx, hb, hml, hown, htA⟩ (f_flagOffline_bad l D cI cZ sa hst9 q σ κ0 κ1 x y9 z w0 s.heap hPX hbad) (cwV 4 htA (gdV wd_540 wd_541 wd_542 wd_1 wd_543) rfl rfl rfl (by decide +kernel) ⟨Nat.le_of_ble_eq_true rfl, Nat.le_of_ble_eq_true rfl⟩) hKK hZ hPX 0 rfl rfl rfl hl.1 rfl (Nat.le_of_ble_eq_true rfl) dL_flagOffline_9 (Nat.le_of_ble_eq_true rfl) (Nat.le_of_ble_eq_true rfl) (fun H1 ce q9 hz hk hc hv hcl => ?_)
  refine vx_catch (name := "java/lang/IllegalArgumentException") hown [] ⟨0, 14, 17, 13⟩ [⟨0, 14, 21, 15⟩] ((vx_table (x := yL_flagOffline) B (htA _ wd_539)).trans rfl) (fun _ h => nomatch h) (by decide) (by decide) (htA _ wd_164) (va_Nw.use rfl (ex_cA hKK.2)) hc hv hcl ?_
  refine lv_astore (lv' := [(6, .ref (q9)), (0, .ref (q 0)), (1, .int (x)), (2, .int (y9)), (3, .int (z)), (4, .int (nI (w0))), (5, .ref (qo))]) hx hb dL_flagOffline_17 hl (by decide) rfl (fun ls hl => ?_)
  refine n_iconst (k := 1) hx hb dL_flagOffline_19 (by decide) ?_
  exact W.iret hx hb hr (fun t ht _ => ⟨rfl, by rw [ht]; exact P_grow hP hk, ⟨by rw [ht]; exact hz, fun a ha _ => by rw [ht]; exact hk a ha⟩⟩) (fun _ h => nomatch h) dL_flagOffline_20 hlocks
set_option maxHeartbeats 4000000 in
set_option maxRecDepth 100000 in
theorem w_flagOffline_no0 (l : Launch) (D : va_G) (cI cZ cL cD : ClassId) (sa : Nat → Nat) (q : Nat → Nat) (qo qd : Nat) (σ κ0 κ1 : ST) (g : Nat → Int64) (gd : Nat → UInt64) (A : Nat → Prop) (hD : va_D A (wL q qo qd cI cZ cL cD σ κ0 κ1 g gd)) (hst9 : l.stackTraces = false)  (x : Int32) (k9 w0 : Nat) (hk9 : k9 < 4) (h10 : κ0 0 4 ≤ 10) (hz : plo κ0 (x) (κ0 0 4) 0 = 0) : Met l yL_flagOffline (codeL yL_flagOffline cL_flagOffline 7 (some .int) [(0, 14, 17, 13), (0, 14, 21, 15)]) ({ frames := 7, cells := 1, slots := 6, locals := 108 } : Room) (LwP D cI cZ cL cD sa (wL q qo qd cI cZ cL cD σ κ0 κ1 g gd) [.ref (q 0), .int (nI (0)), .int (x), .int (nI (k9)), .int (nI (w0)), .ref (qo)]) (WrQ (some (.int (nI 1))) D (wL q qo qd cI cZ cL cD σ κ0 κ1 g gd) A) 1 6 A := by
  refine va_MetW (cc := cL_flagOffline) (maxL := 7) (ret := (some .int)) (hh := [(0, 14, 17, 13), (0, 14, 21, 15)]) (by decide) rfl ?_
  intro p e s m args below meth c s₁ B hml hv
  obtain ⟨rfl, hP, hKK, hKL, hZ⟩ := hv
  have hx := B.exec
  have hb := B.bytes
  have hr := B.returns
  have htA : ∀ w ∈ WA, w.before _ s = true := fun w h => atoms_spec (ws := (codeL yL_flagOffline cL_flagOffline 7 (some .int) [(0, 14, 17, 13), (0, 14, 21, 15)])) B.pre w (List.mem_cons_of_mem _ h)
  have hown : s.vm.findClass RL = some m.cls := findClass_of_methodNamed B.named
  have hlocks := B.notSynchronized
  have hS : va_S A s.heap s.heap [] := va_S.rf
  have hl := lv_entry ([.ref (q 0), .int (nI (0)), .int (x), .int (nI (k9)), .int (nI (w0)), .ref (qo)]) (n := 7) (Nat.le_of_ble_eq_true rfl)
  rw [lg_entry_eq]
  generalize (lg_sl ([.ref (q 0), .int (nI (0)), .int (x), .int (nI (k9)), .int (nI (w0)), .ref (qo)]) ++ List.replicate (7 - (lg_sl ([.ref (q 0), .int (nI (0)), .int (x), .int (nI (k9)), .int (nI (w0)), .ref (qo)])).length) Slot.unset).toArray = ls at hl ⊢
  have hl : lv_has ls 7 [(0, .ref (q 0)), (1, .int (nI (0))), (2, .int (x)), (3, .int (nI (k9))), (4, .int (nI (w0))), (5, .ref (qo))] := hl
  have hPX : va_P D vwCl (wX q cI cZ σ κ0 κ1) s.heap := hP.sub [2, 3, 4, 5, 6, 7, 8, 9, 10, 11, 12, 13, 14, 15, 16, 17, 18, 19, 20, 21, 22, 23, 24, 25] rfl
  have hDX : va_D A (wX q cI cZ σ κ0 κ1) := hD.sub [2, 3, 4, 5, 6, 7, 8, 9, 10, 11, 12, 13, 14, 15, 16, 17, 18, 19, 20, 21, 22, 23, 24, 25] (by decide) rfl
  refine lv_aload hx hb dL_flagOffline_0 (lv_at hl 5 rfl) ?_
  refine n_iconst (k := 0) hx hb dL_flagOffline_2 (by decide) ?_
  refine lv_aload_n hx hb dL_flagOffline_3 rfl (lv_at hl 0 rfl) ?_
  refine lv_iload_n hx hb dL_flagOffline_4 rfl (lv_at hl 1 rfl) ?_
  refine lv_iload_n hx hb dL_flagOffline_5 rfl (lv_at hl 2 rfl) ?_
  refine lv_iload_n hx hb dL_flagOffline_6 rfl (lv_at hl 3 rfl) ?_
  refine lv_iload hx hb dL_flagOffline_7 (lv_at hl 4 rfl) ?_
  refine thV (As := [.int (nI (0)), .int (x), .int (nI (k9)), .int (nI (w0))]) (rest := [.int (nI (0)), .ref (qo)]) (n := 4) ⟨hx, hb, hml, hown, htA⟩ (f_flagOffline_no0 l D cI cZ sa hst9 q σ κ0 κ1 x k9 w0 s.heap hPX hk9 h10 hz) (cwV 4 htA (gdV wd_540 wd_541 wd_542 wd_1 wd_543) rfl rfl rfl (by decide +kernel) ⟨Nat.le_of_ble_eq_true rfl, Nat.le_of_ble_eq_true rfl⟩) hKK hZ hPX 0 rfl rfl rfl hl.1 rfl (Nat.le_of_ble_eq_true rfl) dL_flagOffline_9 (Nat.le_of_ble_eq_true rfl) (Nat.le_of_ble_eq_true rfl) (fun H1 ce q9 hz hk hc hv hcl => ?_)
  refine vx_catch (name := "java/lang/IllegalArgumentException") hown [] ⟨0, 14, 17, 13⟩ [⟨0, 14, 21, 15⟩] ((vx_table (x := yL_flagOffline) B (htA _ wd_539)).trans rfl) (fun _ h => nomatch h) (by decide) (by decide) (htA _ wd_164) (va_Nw.use rfl (ex_cA hKK.2)) hc hv hcl ?_
  refine lv_astore (lv' := [(6, .ref (q9)), (0, .ref (q 0)), (1, .int (nI (0))), (2, .int (x)), (3, .int (nI (k9))), (4, .int (nI (w0))), (5, .ref (qo))]) hx hb dL_flagOffline_17 hl (by decide) rfl (fun ls hl => ?_)
  refine n_iconst (k := 1) hx hb dL_flagOffline_19 (by decide) ?_
  exact W.iret hx hb hr (fun t ht _ => ⟨rfl, by rw [ht]; exact P_grow hP hk, ⟨by rw [ht]; exact hz, fun a ha _ => by rw [ht]; exact hk a ha⟩⟩) (fun _ h => nomatch h) dL_flagOffline_20 hlocks
set_option maxHeartbeats 4000000 in
set_option maxRecDepth 100000 in
theorem w_flagOffline_full0 (l : Launch) (D : va_G) (cI cZ cL cD : ClassId) (sa : Nat → Nat) (q : Nat → Nat) (qo qd : Nat) (σ κ0 κ1 : ST) (g : Nat → Int64) (gd : Nat → UInt64) (A : Nat → Prop) (hD : va_D A (wL q qo qd cI cZ cL cD σ κ0 κ1 g gd)) (hst9 : l.stackTraces = false)  (x : Int32) (k9 w0 : Nat) (hk9 : k9 < 4) (h10 : κ0 0 4 ≤ 10) (hz : plo κ0 (x) (κ0 0 4) 0 ≠ 0) (hfl : 10 ≤ κ0 0 5) (hfl2 : κ0 0 5 < 1073741824) : Met l yL_flagOffline (codeL yL_flagOffline cL_flagOffline 7 (some .int) [(0, 14, 17, 13), (0, 14, 21, 15)]) ({ frames := 7, cells := 1, slots := 6, locals := 108 } : Room) (LwP D cI cZ cL cD sa (wL q qo qd cI cZ cL cD σ κ0 κ1 g gd) [.ref (q 0), .int (nI (0)), .int (x), .int (nI (k9)), .int (nI (w0)), .ref (qo)]) (WrQ (some (.int (nI 2))) D (wL q qo qd cI cZ cL cD σ κ0 κ1 g gd) A) 1 6 A := by
  refine va_MetW (cc := cL_flagOffline) (maxL := 7) (ret := (some .int)) (hh := [(0, 14, 17, 13), (0, 14, 21, 15)]) (by decide) rfl ?_
  intro p e s m args below meth c s₁ B hml hv
  obtain ⟨rfl, hP, hKK, hKL, hZ⟩ := hv
  have hx := B.exec
  have hb := B.bytes
  have hr := B.returns
  have htA : ∀ w ∈ WA, w.before _ s = true := fun w h => atoms_spec (ws := (codeL yL_flagOffline cL_flagOffline 7 (some .int) [(0, 14, 17, 13), (0, 14, 21, 15)])) B.pre w (List.mem_cons_of_mem _ h)
  have hown : s.vm.findClass RL = some m.cls := findClass_of_methodNamed B.named
  have hlocks := B.notSynchronized
  have hS : va_S A s.heap s.heap [] := va_S.rf
  have hl := lv_entry ([.ref (q 0), .int (nI (0)), .int (x), .int (nI (k9)), .int (nI (w0)), .ref (qo)]) (n := 7) (Nat.le_of_ble_eq_true rfl)
  rw [lg_entry_eq]
  generalize (lg_sl ([.ref (q 0), .int (nI (0)), .int (x), .int (nI (k9)), .int (nI (w0)), .ref (qo)]) ++ List.replicate (7 - (lg_sl ([.ref (q 0), .int (nI (0)), .int (x), .int (nI (k9)), .int (nI (w0)), .ref (qo)])).length) Slot.unset).toArray = ls at hl ⊢
  have hl : lv_has ls 7 [(0, .ref (q 0)), (1, .int (nI (0))), (2, .int (x)), (3, .int (nI (k9))), (4, .int (nI (w0))), (5, .ref (qo))] := hl
  have hPX : va_P D vwCl (wX q cI cZ σ κ0 κ1) s.heap := hP.sub [2, 3, 4, 5, 6, 7, 8, 9, 10, 11, 12, 13, 14, 15, 16, 17, 18, 19, 20, 21, 22, 23, 24, 25] rfl
  have hDX : va_D A (wX q cI cZ σ κ0 κ1) := hD.sub [2, 3, 4, 5, 6, 7, 8, 9, 10, 11, 12, 13, 14, 15, 16, 17, 18, 19, 20, 21, 22, 23, 24, 25] (by decide) rfl
  refine lv_aload hx hb dL_flagOffline_0 (lv_at hl 5 rfl) ?_
  refine n_iconst (k := 0) hx hb dL_flagOffline_2 (by decide) ?_
  refine lv_aload_n hx hb dL_flagOffline_3 rfl (lv_at hl 0 rfl) ?_
  refine lv_iload_n hx hb dL_flagOffline_4 rfl (lv_at hl 1 rfl) ?_
  refine lv_iload_n hx hb dL_flagOffline_5 rfl (lv_at hl 2 rfl) ?_
  refine lv_iload_n hx hb dL_flagOffline_6 rfl (lv_at hl 3 rfl) ?_
  refine lv_iload hx hb dL_flagOffline_7 (lv_at hl 4 rfl) ?_
  refine thV (As := [.int (nI (0)), .int (x), .int (nI (k9)), .int (nI (w0))]) (rest := [.int (nI (0)), .ref (qo)]) (n := 4) ⟨hx, hb, hml, hown, htA⟩ (f_flagOffline_full0 l D cI cZ sa hst9 q σ κ0 κ1 x k9 w0 s.heap hPX hk9 h10 hz hfl hfl2) (cwV 4 htA (gdV wd_540 wd_541 wd_542 wd_1 wd_543) rfl rfl rfl (by decide +kernel) ⟨Nat.le_of_ble_eq_true rfl, Nat.le_of_ble_eq_true rfl⟩) hKK hZ hPX 0 rfl rfl rfl hl.1 rfl (Nat.le_of_ble_eq_true rfl) dL_flagOffline_9 (Nat.le_of_ble_eq_true rfl) (Nat.le_of_ble_eq_true rfl) (fun H1 ce q9 hz hk hc hv hcl => ?_)
  refine vx_catch (name := "java/lang/IllegalStateException") hown [⟨0, 14, 17, 13⟩] ⟨0, 14, 21, 15⟩ [] ((vx_table (x := yL_flagOffline) B (htA _ wd_539)).trans rfl) (List.forall_mem_cons.mpr ⟨Or.inr ⟨by decide, "java/lang/IllegalArgumentException", htA _ wd_164, ex_nSA hKK.2⟩, (fun _ h => nomatch h)⟩) (by decide) (by decide) (htA _ wd_165) (va_Nw.use rfl (ex_cS hKK.2)) hc hv hcl ?_
  refine lv_astore (lv' := [(6, .ref (q9)), (0, .ref (q 0)), (1, .int (nI (0))), (2, .int (x)), (3, .int (nI (k9))), (4, .int (nI (w0))), (5, .ref (qo))]) hx hb dL_flagOffline_21 hl (by decide) rfl (fun ls hl => ?_)
  refine n_iconst (k := 2) hx hb dL_flagOffline_23 (by decide) ?_
  exact W.iret hx hb hr (fun t ht _ => ⟨rfl, by rw [ht]; exact P_grow hP hk, ⟨by rw [ht]; exact hz, fun a ha _ => by rw [ht]; exact hk a ha⟩⟩) (fun _ h => nomatch h) dL_flagOffline_24 hlocks
set_option maxHeartbeats 4000000 in
set_option maxRecDepth 100000 in
theorem w_flagOffline_ok0 (l : Launch) (D : va_G) (cI cZ cL cD : ClassId) (sa : Nat → Nat) (q : Nat → Nat) (qo qd : Nat) (σ κ0 κ1 : ST) (g : Nat → Int64) (gd : Nat → UInt64) (A : Nat → Prop) (hD : va_D A (wL q qo qd cI cZ cL cD σ κ0 κ1 g gd))  (x : Int32) (k9 w0 : Nat) (hk9 : k9 < 4) (h10 : κ0 0 4 ≤ 10) (hz : plo κ0 (x) (κ0 0 4) 0 ≠ 0) (hfl : κ0 0 5 < 10) (hC : CI κ0) (hw9 : w0 < 2) : Met l yL_flagOffline (codeL yL_flagOffline cL_flagOffline 7 (some .int) [(0, 14, 17, 13), (0, 14, 21, 15)]) ({ frames := 7, cells := 1, slots := 6, locals := 108 } : Room) (LwP D cI cZ cL cD sa (wL q qo qd cI cZ cL cD σ κ0 κ1 g gd) [.ref (q 0), .int (nI (0)), .int (x), .int (nI (k9)), .int (nI (w0)), .ref (qo)]) (WrQ (some (.int (nI 0))) D (wL q qo qd cI cZ cL cD σ (nte κ0 (plo κ0 (x) (κ0 0 4) 0 - 1) k9 w0) κ1 (gu g ((nI (κ0 0 5 + 1)).toInt64)) gd) A) 1 6 A := by
  refine va_MetW (cc := cL_flagOffline) (maxL := 7) (ret := (some .int)) (hh := [(0, 14, 17, 13), (0, 14, 21, 15)]) (by decide) rfl ?_
  intro p e s m args below meth c s₁ B hml hv
  obtain ⟨rfl, hP, hKK, hKL, hZ⟩ := hv
  have hx := B.exec
  have hb := B.bytes
  have hr := B.returns
  have htA : ∀ w ∈ WA, w.before _ s = true := fun w h => atoms_spec (ws := (codeL yL_flagOffline cL_flagOffline 7 (some .int) [(0, 14, 17, 13), (0, 14, 21, 15)])) B.pre w (List.mem_cons_of_mem _ h)
  have hown : s.vm.findClass RL = some m.cls := findClass_of_methodNamed B.named
  have hlocks := B.notSynchronized
  have hS : va_S A s.heap s.heap [] := va_S.rf
  have hl := lv_entry ([.ref (q 0), .int (nI (0)), .int (x), .int (nI (k9)), .int (nI (w0)), .ref (qo)]) (n := 7) (Nat.le_of_ble_eq_true rfl)
  rw [lg_entry_eq]
  generalize (lg_sl ([.ref (q 0), .int (nI (0)), .int (x), .int (nI (k9)), .int (nI (w0)), .ref (qo)]) ++ List.replicate (7 - (lg_sl ([.ref (q 0), .int (nI (0)), .int (x), .int (nI (k9)), .int (nI (w0)), .ref (qo)])).length) Slot.unset).toArray = ls at hl ⊢
  have hl : lv_has ls 7 [(0, .ref (q 0)), (1, .int (nI (0))), (2, .int (x)), (3, .int (nI (k9))), (4, .int (nI (w0))), (5, .ref (qo))] := hl
  have hPX : va_P D vwCl (wX q cI cZ σ κ0 κ1) s.heap := hP.sub [2, 3, 4, 5, 6, 7, 8, 9, 10, 11, 12, 13, 14, 15, 16, 17, 18, 19, 20, 21, 22, 23, 24, 25] rfl
  have hDX : va_D A (wX q cI cZ σ κ0 κ1) := hD.sub [2, 3, 4, 5, 6, 7, 8, 9, 10, 11, 12, 13, 14, 15, 16, 17, 18, 19, 20, 21, 22, 23, 24, 25] (by decide) rfl
  refine lv_aload hx hb dL_flagOffline_0 (lv_at hl 5 rfl) ?_
  refine n_iconst (k := 0) hx hb dL_flagOffline_2 (by decide) ?_
  refine lv_aload_n hx hb dL_flagOffline_3 rfl (lv_at hl 0 rfl) ?_
  refine lv_iload_n hx hb dL_flagOffline_4 rfl (lv_at hl 1 rfl) ?_
  refine lv_iload_n hx hb dL_flagOffline_5 rfl (lv_at hl 2 rfl) ?_
  refine lv_iload_n hx hb dL_flagOffline_6 rfl (lv_at hl 3 rfl) ?_
  refine lv_iload hx hb dL_flagOffline_7 (lv_at hl 4 rfl) ?_
  refine wrV1 (v := .int (nI (κ0 0 5 + 1))) (As := [.int (nI (0)), .int (x), .int (nI (k9)), .int (nI (w0))]) (rest := [.int (nI (0)), .ref (qo)]) (n := 4) ⟨hx, hb, hml, hown, htA⟩ (f_flagOffline_ok0 l D cI cZ sa q σ κ0 κ1 x k9 w0 (adr (wX q cI cZ σ κ0 κ1)) (D_adr hDX) hk9 h10 hz hfl hC hw9) (cwV 4 htA (gdV wd_540 wd_541 wd_542 wd_1 wd_543) rfl rfl rfl (by decide +kernel) ⟨Nat.le_of_ble_eq_true rfl, Nat.le_of_ble_eq_true rfl⟩) hKK hPX 0 rfl rfl rfl hl.1 rfl (Nat.le_of_ble_eq_true rfl) dL_flagOffline_9 (Nat.zero_le _) (Nat.zero_le _) hS (fun a h => adr_in hDX a h) (fun H1 locs hP1 hz1 hk1 hS => ?_)
  have hP : va_P D vwCl (wL q qo qd cI cZ cL cD σ (nte κ0 (plo κ0 (x) (κ0 0 4) 0 - 1) k9 w0) κ1 g gd) H1 := L_put hD hP hk1 hP1
  refine lv_i2l hx hb dL_flagOffline_12 rfl ?_
  refine va_last hx hb hKL hP (D_addr hD rfl) hS 0 0 rfl rfl (vp_in_nI (n := 0) (N := 1) (by decide) (by decide)) dL_flagOffline_13 (fun H locs hP _ hS => ?_)
  have hP : va_P D vwCl (wL q qo qd cI cZ cL cD σ (nte κ0 (plo κ0 (x) (κ0 0 4) 0 - 1) k9 w0) κ1 (gu g ((nI (κ0 0 5 + 1)).toInt64)) gd) H := hP
  refine lv_goto (tgt := 25) hx hb dL_flagOffline_14 (by decide) ?_
  refine n_iconst (k := 0) hx hb dL_flagOffline_25 (by decide) ?_
  refine W.widen (k := 1) (n := 6) (by decide) (by decide) ?_
  exact W.iret hx hb hr (fun t ht _ => ⟨rfl, by rw [ht]; exact hP, hS.F ht⟩) hS.2.2 dL_flagOffline_26 hlocks
set_option maxHeartbeats 4000000 in
set_option maxRecDepth 100000 in
theorem w_flagOffline_no1 (l : Launch) (D : va_G) (cI cZ cL cD : ClassId) (sa : Nat → Nat) (q : Nat → Nat) (qo qd : Nat) (σ κ0 κ1 : ST) (g : Nat → Int64) (gd : Nat → UInt64) (A : Nat → Prop) (hD : va_D A (wL q qo qd cI cZ cL cD σ κ0 κ1 g gd)) (hst9 : l.stackTraces = false)  (x : Int32) (k9 w0 : Nat) (hk9 : k9 < 4) (h10 : κ1 0 4 ≤ 10) (hz : plo κ1 (x) (κ1 0 4) 0 = 0) : Met l yL_flagOffline (codeL yL_flagOffline cL_flagOffline 7 (some .int) [(0, 14, 17, 13), (0, 14, 21, 15)]) ({ frames := 7, cells := 1, slots := 6, locals := 108 } : Room) (LwP D cI cZ cL cD sa (wL q qo qd cI cZ cL cD σ κ0 κ1 g gd) [.ref (q 0), .int (nI (1)), .int (x), .int (nI (k9)), .int (nI (w0)), .ref (qo)]) (WrQ (some (.int (nI 1))) D (wL q qo qd cI cZ cL cD σ κ0 κ1 g gd) A) 1 6 A := by
  refine va_MetW (cc := cL_flagOffline) (maxL := 7) (ret := (some .int)) (hh := [(0, 14, 17, 13), (0, 14, 21, 15)]) (by decide) rfl ?_
  intro p e s m args below meth c s₁ B hml hv
  obtain ⟨rfl, hP, hKK, hKL, hZ⟩ := hv
  have hx := B.exec
  have hb := B.bytes
  have hr := B.returns
  have htA : ∀ w ∈ WA, w.before _ s = true := fun w h => atoms_spec (ws := (codeL yL_flagOffline cL_flagOffline 7 (some .int) [(0, 14, 17, 13), (0, 14, 21, 15)])) B.pre w (List.mem_cons_of_mem _ h)
  have hown : s.vm.findClass RL = some m.cls := findClass_of_methodNamed B.named
  have hlocks := B.notSynchronized
  have hS : va_S A s.heap s.heap [] := va_S.rf
  have hl := lv_entry ([.ref (q 0), .int (nI (1)), .int (x), .int (nI (k9)), .int (nI (w0)), .ref (qo)]) (n := 7) (Nat.le_of_ble_eq_true rfl)
  rw [lg_entry_eq]
  generalize (lg_sl ([.ref (q 0), .int (nI (1)), .int (x), .int (nI (k9)), .int (nI (w0)), .ref (qo)]) ++ List.replicate (7 - (lg_sl ([.ref (q 0), .int (nI (1)), .int (x), .int (nI (k9)), .int (nI (w0)), .ref (qo)])).length) Slot.unset).toArray = ls at hl ⊢
  have hl : lv_has ls 7 [(0, .ref (q 0)), (1, .int (nI (1))), (2, .int (x)), (3, .int (nI (k9))), (4, .int (nI (w0))), (5, .ref (qo))] := hl
  have hPX : va_P D vwCl (wX q cI cZ σ κ0 κ1) s.heap := hP.sub [2, 3, 4, 5, 6, 7, 8, 9, 10, 11, 12, 13, 14, 15, 16, 17, 18, 19, 20, 21, 22, 23, 24, 25] rfl
  have hDX : va_D A (wX q cI cZ σ κ0 κ1) := hD.sub [2, 3, 4, 5, 6, 7, 8, 9, 10, 11, 12, 13, 14, 15, 16, 17, 18, 19, 20, 21, 22, 23, 24, 25] (by decide) rfl
  refine lv_aload hx hb dL_flagOffline_0 (lv_at hl 5 rfl) ?_
  refine n_iconst (k := 0) hx hb dL_flagOffline_2 (by decide) ?_
  refine lv_aload_n hx hb dL_flagOffline_3 rfl (lv_at hl 0 rfl) ?_
  refine lv_iload_n hx hb dL_flagOffline_4 rfl (lv_at hl 1 rfl) ?_
  refine lv_iload_n hx hb dL_flagOffline_5 rfl (lv_at hl 2 rfl) ?_
  refine lv_iload_n hx hb dL_flagOffline_6 rfl (lv_at hl 3 rfl) ?_
  refine lv_iload hx hb dL_flagOffline_7 (lv_at hl 4 rfl) ?_
  refine thV (As := [.int (nI (1)), .int (x), .int (nI (k9)), .int (nI (w0))]) (rest := [.int (nI (0)), .ref (qo)]) (n := 4) ⟨hx, hb, hml, hown, htA⟩ (f_flagOffline_no1 l D cI cZ sa hst9 q σ κ0 κ1 x k9 w0 s.heap hPX hk9 h10 hz) (cwV 4 htA (gdV wd_540 wd_541 wd_542 wd_1 wd_543) rfl rfl rfl (by decide +kernel) ⟨Nat.le_of_ble_eq_true rfl, Nat.le_of_ble_eq_true rfl⟩) hKK hZ hPX 0 rfl rfl rfl hl.1 rfl (Nat.le_of_ble_eq_true rfl) dL_flagOffline_9 (Nat.le_of_ble_eq_true rfl) (Nat.le_of_ble_eq_true rfl) (fun H1 ce q9 hz hk hc hv hcl => ?_)
  refine vx_catch (name := "java/lang/IllegalArgumentException") hown [] ⟨0, 14, 17, 13⟩ [⟨0, 14, 21, 15⟩] ((vx_table (x := yL_flagOffline) B (htA _ wd_539)).trans rfl) (fun _ h => nomatch h) (by decide) (by decide) (htA _ wd_164) (va_Nw.use rfl (ex_cA hKK.2)) hc hv hcl ?_
  refine lv_astore (lv' := [(6, .ref (q9)), (0, .ref (q 0)), (1, .int (nI (1))), (2, .int (x)), (3, .int (nI (k9))), (4, .int (nI (w0))), (5, .ref (qo))]) hx hb dL_flagOffline_17 hl (by decide) rfl (fun ls hl => ?_)
  refine n_iconst (k := 1) hx hb dL_flagOffline_19 (by decide) ?_
  exact W.iret hx hb hr (fun t ht _ => ⟨rfl, by rw [ht]; exact P_grow hP hk, ⟨by rw [ht]; exact hz, fun a ha _ => by rw [ht]; exact hk a ha⟩⟩) (fun _ h => nomatch h) dL_flagOffline_20 hlocks
set_option maxHeartbeats 4000000 in
set_option maxRecDepth 100000 in
theorem w_flagOffline_full1 (l : Launch) (D : va_G) (cI cZ cL cD : ClassId) (sa : Nat → Nat) (q : Nat → Nat) (qo qd : Nat) (σ κ0 κ1 : ST) (g : Nat → Int64) (gd : Nat → UInt64) (A : Nat → Prop) (hD : va_D A (wL q qo qd cI cZ cL cD σ κ0 κ1 g gd)) (hst9 : l.stackTraces = false)  (x : Int32) (k9 w0 : Nat) (hk9 : k9 < 4) (h10 : κ1 0 4 ≤ 10) (hz : plo κ1 (x) (κ1 0 4) 0 ≠ 0) (hfl : 10 ≤ κ1 0 5) (hfl2 : κ1 0 5 < 1073741824) : Met l yL_flagOffline (codeL yL_flagOffline cL_flagOffline 7 (some .int) [(0, 14, 17, 13), (0, 14, 21, 15)]) ({ frames := 7, cells := 1, slots := 6, locals := 108 } : Room) (LwP D cI cZ cL cD sa (wL q qo qd cI cZ cL cD σ κ0 κ1 g gd) [.ref (q 0), .int (nI (1)), .int (x), .int (nI (k9)), .int (nI (w0)), .ref (qo)]) (WrQ (some (.int (nI 2))) D (wL q qo qd cI cZ cL cD σ κ0 κ1 g gd) A) 1 6 A := by
  refine va_MetW (cc := cL_flagOffline) (maxL := 7) (ret := (some .int)) (hh := [(0, 14, 17, 13), (0, 14, 21, 15)]) (by decide) rfl ?_
  intro p e s m args below meth c s₁ B hml hv
  obtain ⟨rfl, hP, hKK, hKL, hZ⟩ := hv
  have hx := B.exec
  have hb := B.bytes
  have hr := B.returns
  have htA : ∀ w ∈ WA, w.before _ s = true := fun w h => atoms_spec (ws := (codeL yL_flagOffline cL_flagOffline 7 (some .int) [(0, 14, 17, 13), (0, 14, 21, 15)])) B.pre w (List.mem_cons_of_mem _ h)
  have hown : s.vm.findClass RL = some m.cls := findClass_of_methodNamed B.named
  have hlocks := B.notSynchronized
  have hS : va_S A s.heap s.heap [] := va_S.rf
  have hl := lv_entry ([.ref (q 0), .int (nI (1)), .int (x), .int (nI (k9)), .int (nI (w0)), .ref (qo)]) (n := 7) (Nat.le_of_ble_eq_true rfl)
  rw [lg_entry_eq]
  generalize (lg_sl ([.ref (q 0), .int (nI (1)), .int (x), .int (nI (k9)), .int (nI (w0)), .ref (qo)]) ++ List.replicate (7 - (lg_sl ([.ref (q 0), .int (nI (1)), .int (x), .int (nI (k9)), .int (nI (w0)), .ref (qo)])).length) Slot.unset).toArray = ls at hl ⊢
  have hl : lv_has ls 7 [(0, .ref (q 0)), (1, .int (nI (1))), (2, .int (x)), (3, .int (nI (k9))), (4, .int (nI (w0))), (5, .ref (qo))] := hl
  have hPX : va_P D vwCl (wX q cI cZ σ κ0 κ1) s.heap := hP.sub [2, 3, 4, 5, 6, 7, 8, 9, 10, 11, 12, 13, 14, 15, 16, 17, 18, 19, 20, 21, 22, 23, 24, 25] rfl
  have hDX : va_D A (wX q cI cZ σ κ0 κ1) := hD.sub [2, 3, 4, 5, 6, 7, 8, 9, 10, 11, 12, 13, 14, 15, 16, 17, 18, 19, 20, 21, 22, 23, 24, 25] (by decide) rfl
  refine lv_aload hx hb dL_flagOffline_0 (lv_at hl 5 rfl) ?_
  refine n_iconst (k := 0) hx hb dL_flagOffline_2 (by decide) ?_
  refine lv_aload_n hx hb dL_flagOffline_3 rfl (lv_at hl 0 rfl) ?_
  refine lv_iload_n hx hb dL_flagOffline_4 rfl (lv_at hl 1 rfl) ?_
  refine lv_iload_n hx hb dL_flagOffline_5 rfl (lv_at hl 2 rfl) ?_
  refine lv_iload_n hx hb dL_flagOffline_6 rfl (lv_at hl 3 rfl) ?_
  refine lv_iload hx hb dL_flagOffline_7 (lv_at hl 4 rfl) ?_
  refine thV (As := [.int (nI (1)), .int (x), .int (nI (k9)), .int (nI (w0))]) (rest := [.int (nI (0)), .ref (qo)]) (n := 4) ⟨hx, hb, hml, hown, htA⟩ (f_flagOffline_full1 l D cI cZ sa hst9 q σ κ0 κ1 x k9 w0 s.heap hPX hk9 h10 hz hfl hfl2) (cwV 4 htA (gdV wd_540 wd_541 wd_542 wd_1 wd_543) rfl rfl rfl (by decide +kernel) ⟨Nat.le_of_ble_eq_true rfl, Nat.le_of_ble_eq_true rfl⟩) hKK hZ hPX 0 rfl rfl rfl hl.1 rfl (Nat.le_of_ble_eq_true rfl) dL_flagOffline_9 (Nat.le_of_ble_eq_true rfl) (Nat.le_of_ble_eq_true rfl) (fun H1 ce q9 hz hk hc hv hcl => ?_)
  refine vx_catch (name := "java/lang/IllegalStateException") hown [⟨0, 14, 17, 13⟩] ⟨0, 14, 21, 15⟩ [] ((vx_table (x := yL_flagOffline) B (htA _ wd_539)).trans rfl) (List.forall_mem_cons.mpr ⟨Or.inr ⟨by decide, "java/lang/IllegalArgumentException", htA _ wd_164, ex_nSA hKK.2⟩, (fun _ h => nomatch h)⟩) (by decide) (by decide) (htA _ wd_165) (va_Nw.use rfl (ex_cS hKK.2)) hc hv hcl ?_
  refine lv_astore (lv' := [(6, .ref (q9)), (0, .ref (q 0)), (1, .int (nI (1))), (2, .int (x)), (3, .int (nI (k9))), (4, .int (nI (w0))), (5, .ref (qo))]) hx hb dL_flagOffline_21 hl (by decide) rfl (fun ls hl => ?_)
  refine n_iconst (k := 2) hx hb dL_flagOffline_23 (by decide) ?_
  exact W.iret hx hb hr (fun t ht _ => ⟨rfl, by rw [ht]; exact P_grow hP hk, ⟨by rw [ht]; exact hz, fun a ha _ => by rw [ht]; exact hk a ha⟩⟩) (fun _ h => nomatch h) dL_flagOffline_24 hlocks
set_option maxHeartbeats 4000000 in
set_option maxRecDepth 100000 in
theorem w_flagOffline_ok1 (l : Launch) (D : va_G) (cI cZ cL cD : ClassId) (sa : Nat → Nat) (q : Nat → Nat) (qo qd : Nat) (σ κ0 κ1 : ST) (g : Nat → Int64) (gd : Nat → UInt64) (A : Nat → Prop) (hD : va_D A (wL q qo qd cI cZ cL cD σ κ0 κ1 g gd))  (x : Int32) (k9 w0 : Nat) (hk9 : k9 < 4) (h10 : κ1 0 4 ≤ 10) (hz : plo κ1 (x) (κ1 0 4) 0 ≠ 0) (hfl : κ1 0 5 < 10) (hC : CI κ1) (hw9 : w0 < 2) : Met l yL_flagOffline (codeL yL_flagOffline cL_flagOffline 7 (some .int) [(0, 14, 17, 13), (0, 14, 21, 15)]) ({ frames := 7, cells := 1, slots := 6, locals := 108 } : Room) (LwP D cI cZ cL cD sa (wL q qo qd cI cZ cL cD σ κ0 κ1 g gd) [.ref (q 0), .int (nI (1)), .int (x), .int (nI (k9)), .int (nI (w0)), .ref (qo)]) (WrQ (some (.int (nI 0))) D (wL q qo qd cI cZ cL cD σ κ0 (nte κ1 (plo κ1 (x) (κ1 0 4) 0 - 1) k9 w0) (gu g ((nI (κ1 0 5 + 1)).toInt64)) gd) A) 1 6 A := by
  refine va_MetW (cc := cL_flagOffline) (maxL := 7) (ret := (some .int)) (hh := [(0, 14, 17, 13), (0, 14, 21, 15)]) (by decide) rfl ?_
  intro p e s m args below meth c s₁ B hml hv
  obtain ⟨rfl, hP, hKK, hKL, hZ⟩ := hv
  have hx := B.exec
  have hb := B.bytes
  have hr := B.returns
  have htA : ∀ w ∈ WA, w.before _ s = true := fun w h => atoms_spec (ws := (codeL yL_flagOffline cL_flagOffline 7 (some .int) [(0, 14, 17, 13), (0, 14, 21, 15)])) B.pre w (List.mem_cons_of_mem _ h)
  have hown : s.vm.findClass RL = some m.cls := findClass_of_methodNamed B.named
  have hlocks := B.notSynchronized
  have hS : va_S A s.heap s.heap [] := va_S.rf
  have hl := lv_entry ([.ref (q 0), .int (nI (1)), .int (x), .int (nI (k9)), .int (nI (w0)), .ref (qo)]) (n := 7) (Nat.le_of_ble_eq_true rfl)
  rw [lg_entry_eq]
  generalize (lg_sl ([.ref (q 0), .int (nI (1)), .int (x), .int (nI (k9)), .int (nI (w0)), .ref (qo)]) ++ List.replicate (7 - (lg_sl ([.ref (q 0), .int (nI (1)), .int (x), .int (nI (k9)), .int (nI (w0)), .ref (qo)])).length) Slot.unset).toArray = ls at hl ⊢
  have hl : lv_has ls 7 [(0, .ref (q 0)), (1, .int (nI (1))), (2, .int (x)), (3, .int (nI (k9))), (4, .int (nI (w0))), (5, .ref (qo))] := hl
  have hPX : va_P D vwCl (wX q cI cZ σ κ0 κ1) s.heap := hP.sub [2, 3, 4, 5, 6, 7, 8, 9, 10, 11, 12, 13, 14, 15, 16, 17, 18, 19, 20, 21, 22, 23, 24, 25] rfl
  have hDX : va_D A (wX q cI cZ σ κ0 κ1) := hD.sub [2, 3, 4, 5, 6, 7, 8, 9, 10, 11, 12, 13, 14, 15, 16, 17, 18, 19, 20, 21, 22, 23, 24, 25] (by decide) rfl
  refine lv_aload hx hb dL_flagOffline_0 (lv_at hl 5 rfl) ?_
  refine n_iconst (k := 0) hx hb dL_flagOffline_2 (by decide) ?_
  refine lv_aload_n hx hb dL_flagOffline_3 rfl (lv_at hl 0 rfl) ?_
  refine lv_iload_n hx hb dL_flagOffline_4 rfl (lv_at hl 1 rfl) ?_
  refine lv_iload_n hx hb dL_flagOffline_5 rfl (lv_at hl 2 rfl) ?_
  refine lv_iload_n hx hb dL_flagOffline_6 rfl (lv_at hl 3 rfl) ?_
  refine lv_iload hx hb dL_flagOffline_7 (lv_at hl 4 rfl) ?_
  refine wrV1 (v := .int (nI (κ1 0 5 + 1))) (As := [.int (nI (1)), .int (x), .int (nI (k9)), .int (nI (w0))]) (rest := [.int (nI (0)), .ref (qo)]) (n := 4) ⟨hx, hb, hml, hown, htA⟩ (f_flagOffline_ok1 l D cI cZ sa q σ κ0 κ1 x k9 w0 (adr (wX q cI cZ σ κ0 κ1)) (D_adr hDX) hk9 h10 hz hfl hC hw9) (cwV 4 htA (gdV wd_540 wd_541 wd_542 wd_1 wd_543) rfl rfl rfl (by decide +kernel) ⟨Nat.le_of_ble_eq_true rfl, Nat.le_of_ble_eq_true rfl⟩) hKK hPX 0 rfl rfl rfl hl.1 rfl (Nat.le_of_ble_eq_true rfl) dL_flagOffline_9 (Nat.zero_le _) (Nat.zero_le _) hS (fun a h => adr_in hDX a h) (fun H1 locs hP1 hz1 hk1 hS => ?_)
  have hP : va_P D vwCl (wL q qo qd cI cZ cL cD σ κ0 (nte κ1 (plo κ1 (x) (κ1 0 4) 0 - 1) k9 w0) g gd) H1 := L_put hD hP hk1 hP1
  refine lv_i2l hx hb dL_flagOffline_12 rfl ?_
  refine va_last hx hb hKL hP (D_addr hD rfl) hS 0 0 rfl rfl (vp_in_nI (n := 0) (N := 1) (by decide) (by decide)) dL_flagOffline_13 (fun H locs hP _ hS => ?_)
  have hP : va_P D vwCl (wL q qo qd cI cZ cL cD σ κ0 (nte κ1 (plo κ1 (x) (κ1 0 4) 0 - 1) k9 w0) (gu g ((nI (κ1 0 5 + 1)).toInt64)) gd) H := hP
  refine lv_goto (tgt := 25) hx hb dL_flagOffline_14 (by decide) ?_
  refine n_iconst (k := 0) hx hb dL_flagOffline_25 (by decide) ?_
  refine W.widen (k := 1) (n := 6) (by decide) (by decide) ?_
  exact W.iret hx hb hr (fun t ht _ => ⟨rfl, by rw [ht]; exact hP, hS.F ht⟩) hS.2.2 dL_flagOffline_26 hlocks
set_option maxHeartbeats 4000000 in
set_option maxRecDepth 100000 in
theorem w_sync_bad (l : Launch) (D : va_G) (cI cZ cL cD : ClassId) (sa : Nat → Nat) (q : Nat → Nat) (qo qd : Nat) (σ κ0 κ1 : ST) (g : Nat → Int64) (gd : Nat → UInt64) (A : Nat → Prop) (hD : va_D A (wL q qo qd cI cZ cL cD σ κ0 κ1 g gd)) (hst9 : l.stackTraces = false)  (x : Int32) (hbad : iw (x) (nI (0)) (nI (1)) = false) : Met l yL_sync (codeL yL_sync cL_sync 4 (some .int) [(0, 9, 12, 13)]) ({ frames := 8, cells := 1, slots := 6, locals := 158 } : Room) (LwP D cI cZ cL cD sa (wL q qo qd cI cZ cL cD σ κ0 κ1 g gd) [.ref (q 0), .int (x), .ref (qo)]) (WrQ (some (.int (nI 1))) D (wL q qo qd cI cZ cL cD σ κ0 κ1 g gd) A) 1 6 A := by
  refine va_MetW (cc := cL_sync) (maxL := 4) (ret := (some .int)) (hh := [(0, 9, 12, 13)]) (by decide) rfl ?_
  intro p e s m args below meth c s₁ B hml hv
  obtain ⟨rfl, hP, hKK, hKL, hZ⟩ := hv
  have hx := B.exec
  have hb := B.bytes
  have hr := B.returns
  have htA : ∀ w ∈ WA, w.before _ s = true := fun w h => atoms_spec (ws := (codeL yL_sync cL_sync 4 (some .int) [(0, 9, 12, 13)])) B.pre w (List.mem_cons_of_mem _ h)
  have hown : s.vm.findClass RL = some m.cls := findClass_of_methodNamed B.named
  have hlocks := B.notSynchronized
  have hS : va_S A s.heap s.heap [] := va_S.rf
  have hl := lv_entry ([.ref (q 0), .int (x), .ref (qo)]) (n := 4) (Nat.le_of_ble_eq_true rfl)
  rw [lg_entry_eq]
  generalize (lg_sl ([.ref (q 0), .int (x), .ref (qo)]) ++ List.replicate (4 - (lg_sl ([.ref (q 0), .int (x), .ref (qo)])).length) Slot.unset).toArray = ls at hl ⊢
  have hl : lv_has ls 4 [(0, .ref (q 0)), (1, .int (x)), (2, .ref (qo))] := hl
  have hPX : va_P D vwCl (wX q cI cZ σ κ0 κ1) s.heap := hP.sub [2, 3, 4, 5, 6, 7, 8, 9, 10, 11, 12, 13, 14, 15, 16, 17, 18, 19, 20, 21, 22, 23, 24, 25] rfl
  have hDX : va_D A (wX q cI cZ σ κ0 κ1) := hD.sub [2, 3, 4, 5, 6, 7, 8, 9, 10, 11, 12, 13, 14, 15, 16, 17, 18, 19, 20, 21, 22, 23, 24, 25] (by decide) rfl
  refine lv_aload_n hx hb dL_sync_0 rfl (lv_at hl 2 rfl) ?_
  refine n_iconst (k := 0) hx hb dL_sync_1 (by decide) ?_
  refine lv_aload_n hx hb dL_sync_2 rfl (lv_at hl 0 rfl) ?_
  refine lv_iload_n hx hb dL_sync_3 rfl (lv_at hl 1 rfl) ?_
  refine thV (As := [.int (x)]) (rest := [.int (nI (0)), .ref (qo)]) (n := 1) ⟨hx, hb, hml, hown, htA⟩ (f_sync_bad l D cI cZ sa hst9 q σ κ0 κ1 x s.heap hPX hbad) (cwV 1 htA (gdV wd_567 wd_568 wd_569 wd_1 wd_570) rfl rfl rfl (by decide +kernel) ⟨Nat.le_of_ble_eq_true rfl, Nat.le_of_ble_eq_true rfl⟩) hKK hZ hPX 0 rfl rfl rfl hl.1 rfl (Nat.le_of_ble_eq_true rfl) dL_sync_4 (Nat.le_of_ble_eq_true rfl) (Nat.le_of_ble_eq_true rfl) (fun H1 ce q9 hz hk hc hv hcl => ?_)
  refine vx_catch (name := "java/lang/IllegalArgumentException") hown [] ⟨0, 9, 12, 13⟩ [] ((vx_table (x := yL_sync) B (htA _ wd_566)).trans rfl) (fun _ h => nomatch h) (by decide) (by decide) (htA _ wd_164) (va_Nw.use rfl (ex_cA hKK.2)) hc hv hcl ?_
  refine lv_astore_n (lv' := [(3, .ref (q9)), (0, .ref (q 0)), (1, .int (x)), (2, .ref (qo))]) hx hb dL_sync_12 rfl hl (by decide) rfl (fun ls hl => ?_)
  refine n_iconst (k := 1) hx hb dL_sync_13 (by decide) ?_
  exact W.iret hx hb hr (fun t ht _ => ⟨rfl, by rw [ht]; exact P_grow hP hk, ⟨by rw [ht]; exact hz, fun a ha _ => by rw [ht]; exact hk a ha⟩⟩) (fun _ h => nomatch h) dL_sync_14 hlocks
set_option maxHeartbeats 4000000 in
set_option maxRecDepth 100000 in
theorem w_sync_y0 (l : Launch) (D : va_G) (cI cZ cL cD : ClassId) (sa : Nat → Nat) (q : Nat → Nat) (qo qd : Nat) (σ κ0 κ1 : ST) (g : Nat → Int64) (gd : Nat → UInt64) (A : Nat → Prop) (hD : va_D A (wL q qo qd cI cZ cL cD σ κ0 κ1 g gd))   (hB : ∀ k i, σ k i < 1000000000) (hv9 : decide (σ 7 0 - κ0 0 2 ≤ 40) = true) (hsy : κ0 0 2 ≤ σ 7 0) (hCa : CI κ0) (hfl : κ0 0 5 ≤ 10) (hCb : CI (syB σ κ0)) (h15 : ∀ i, σ 5 i < 16) (hfb : (syB σ κ0) 0 5 ≤ 10) (hBs : ∀ k i, (syS σ κ0) k i < 1073741824) (hCc : CI (syC σ κ0)) (hco : (syS σ κ0) 1 0 ≤ 60) (hb6 : (syC σ κ0) 0 0 < 6) (hwd : (syC σ κ0) 0 1 ≤ 10) (hlat : ∀ i, i < wsz (syS σ κ0) (syC σ κ0) → 0 < lat (syS σ κ0) (ms (bxs (syS σ κ0) ((syC σ κ0) 0 0)) 60) (nI i) ((syS σ κ0) 1 0) 0 0 ∧ wml (syS σ κ0) ((syC σ κ0) 0 0) i < 60) : Met l yL_sync (codeL yL_sync cL_sync 4 (some .int) [(0, 9, 12, 13)]) ({ frames := 8, cells := 1, slots := 6, locals := 158 } : Room) (LwP D cI cZ cL cD sa (wL q qo qd cI cZ cL cD σ κ0 κ1 g gd) [.ref (q 0), .int (nI (0)), .ref (qo)]) (WrQ (some (.int (nI 0))) D (wL q qo qd cI cZ cL cD (syS σ κ0) (syD σ κ0) κ1 (gu g ((nI (κ0 0 5 - (syB σ κ0) 0 5)).toInt64)) gd) A) 1 6 A := by
  refine va_MetW (cc := cL_sync) (maxL := 4) (ret := (some .int)) (hh := [(0, 9, 12, 13)]) (by decide) rfl ?_
  intro p e s m args below meth c s₁ B hml hv
  obtain ⟨rfl, hP, hKK, hKL, hZ⟩ := hv
  have hx := B.exec
  have hb := B.bytes
  have hr := B.returns
  have htA : ∀ w ∈ WA, w.before _ s = true := fun w h => atoms_spec (ws := (codeL yL_sync cL_sync 4 (some .int) [(0, 9, 12, 13)])) B.pre w (List.mem_cons_of_mem _ h)
  have hown : s.vm.findClass RL = some m.cls := findClass_of_methodNamed B.named
  have hlocks := B.notSynchronized
  have hS : va_S A s.heap s.heap [] := va_S.rf
  have hl := lv_entry ([.ref (q 0), .int (nI (0)), .ref (qo)]) (n := 4) (Nat.le_of_ble_eq_true rfl)
  rw [lg_entry_eq]
  generalize (lg_sl ([.ref (q 0), .int (nI (0)), .ref (qo)]) ++ List.replicate (4 - (lg_sl ([.ref (q 0), .int (nI (0)), .ref (qo)])).length) Slot.unset).toArray = ls at hl ⊢
  have hl : lv_has ls 4 [(0, .ref (q 0)), (1, .int (nI (0))), (2, .ref (qo))] := hl
  have hPX : va_P D vwCl (wX q cI cZ σ κ0 κ1) s.heap := hP.sub [2, 3, 4, 5, 6, 7, 8, 9, 10, 11, 12, 13, 14, 15, 16, 17, 18, 19, 20, 21, 22, 23, 24, 25] rfl
  have hDX : va_D A (wX q cI cZ σ κ0 κ1) := hD.sub [2, 3, 4, 5, 6, 7, 8, 9, 10, 11, 12, 13, 14, 15, 16, 17, 18, 19, 20, 21, 22, 23, 24, 25] (by decide) rfl
  refine lv_aload_n hx hb dL_sync_0 rfl (lv_at hl 2 rfl) ?_
  refine n_iconst (k := 0) hx hb dL_sync_1 (by decide) ?_
  refine lv_aload_n hx hb dL_sync_2 rfl (lv_at hl 0 rfl) ?_
  refine lv_iload_n hx hb dL_sync_3 rfl (lv_at hl 1 rfl) ?_
  refine wrV1 (v := .int (nI (κ0 0 5 - (syB σ κ0) 0 5))) (As := [.int (nI (0))]) (rest := [.int (nI (0)), .ref (qo)]) (n := 1) ⟨hx, hb, hml, hown, htA⟩ (f_sync_y0 l D cI cZ sa q σ κ0 κ1  (adr (wX q cI cZ σ κ0 κ1)) (D_adr hDX) hB hv9 hsy hCa hfl hCb h15 hfb hBs hCc hco hb6 hwd hlat) (cwV 1 htA (gdV wd_567 wd_568 wd_569 wd_1 wd_570) rfl rfl rfl (by decide +kernel) ⟨Nat.le_of_ble_eq_true rfl, Nat.le_of_ble_eq_true rfl⟩) hKK hPX 0 rfl rfl rfl hl.1 rfl (Nat.le_of_ble_eq_true rfl) dL_sync_4 (Nat.zero_le _) (Nat.zero_le _) hS (fun a h => adr_in hDX a h) (fun H1 locs hP1 hz1 hk1 hS => ?_)
  have hP : va_P D vwCl (wL q qo qd cI cZ cL cD (syS σ κ0) (syD σ κ0) κ1 g gd) H1 := L_put hD hP hk1 hP1
  refine lv_i2l hx hb dL_sync_7 rfl ?_
  refine va_last hx hb hKL hP (D_addr hD rfl) hS 0 0 rfl rfl (vp_in_nI (n := 0) (N := 1) (by decide) (by decide)) dL_sync_8 (fun H locs hP _ hS => ?_)
  have hP : va_P D vwCl (wL q qo qd cI cZ cL cD (syS σ κ0) (syD σ κ0) κ1 (gu g ((nI (κ0 0 5 - (syB σ κ0) 0 5)).toInt64)) gd) H := hP
  refine lv_goto (tgt := 15) hx hb dL_sync_9 (by decide) ?_
  refine n_iconst (k := 0) hx hb dL_sync_15 (by decide) ?_
  refine W.widen (k := 1) (n := 6) (by decide) (by decide) ?_
  exact W.iret hx hb hr (fun t ht _ => ⟨rfl, by rw [ht]; exact hP, hS.F ht⟩) hS.2.2 dL_sync_16 hlocks
set_option maxHeartbeats 4000000 in
set_option maxRecDepth 100000 in
theorem w_sync_n0 (l : Launch) (D : va_G) (cI cZ cL cD : ClassId) (sa : Nat → Nat) (q : Nat → Nat) (qo qd : Nat) (σ κ0 κ1 : ST) (g : Nat → Int64) (gd : Nat → UInt64) (A : Nat → Prop) (hD : va_D A (wL q qo qd cI cZ cL cD σ κ0 κ1 g gd))   (hB : ∀ k i, σ k i < 1000000000) (hv9 : decide (σ 7 0 - κ0 0 2 ≤ 40) = false) (hsy : κ0 0 2 ≤ σ 7 0) (hCa : CI (sv κ0 0 3 (κ0 0 3 + 1))) (hfl : κ0 0 5 ≤ 10) (hCb : CI (syB σ (sv κ0 0 3 (κ0 0 3 + 1)))) (h15 : ∀ i, σ 5 i < 16) (hfb : (syB σ (sv κ0 0 3 (κ0 0 3 + 1))) 0 5 ≤ 10) (hBs : ∀ k i, (syS σ (sv κ0 0 3 (κ0 0 3 + 1))) k i < 1073741824) (hCc : CI (syC σ (sv κ0 0 3 (κ0 0 3 + 1)))) (hco : (syS σ (sv κ0 0 3 (κ0 0 3 + 1))) 1 0 ≤ 60) (hb6 : (syC σ (sv κ0 0 3 (κ0 0 3 + 1))) 0 0 < 6) (hwd : (syC σ (sv κ0 0 3 (κ0 0 3 + 1))) 0 1 ≤ 10) (hlat : ∀ i, i < wsz (syS σ (sv κ0 0 3 (κ0 0 3 + 1))) (syC σ (sv κ0 0 3 (κ0 0 3 + 1))) → 0 < lat (syS σ (sv κ0 0 3 (κ0 0 3 + 1))) (ms (bxs (syS σ (sv κ0 0 3 (κ0 0 3 + 1))) ((syC σ (sv κ0 0 3 (κ0 0 3 + 1))) 0 0)) 60) (nI i) ((syS σ (sv κ0 0 3 (κ0 0 3 + 1))) 1 0) 0 0 ∧ wml (syS σ (sv κ0 0 3 (κ0 0 3 + 1))) ((syC σ (sv κ0 0 3 (κ0 0 3 + 1))) 0 0) i < 60) : Met l yL_sync (codeL yL_sync cL_sync 4 (some .int) [(0, 9, 12, 13)]) ({ frames := 8, cells := 1, slots := 6, locals := 158 } : Room) (LwP D cI cZ cL cD sa (wL q qo qd cI cZ cL cD σ κ0 κ1 g gd) [.ref (q 0), .int (nI (0)), .ref (qo)]) (WrQ (some (.int (nI 0))) D (wL q qo qd cI cZ cL cD (syS σ (sv κ0 0 3 (κ0 0 3 + 1))) (syD σ (sv κ0 0 3 (κ0 0 3 + 1))) κ1 (gu g ((nI (κ0 0 5 - (syB σ (sv κ0 0 3 (κ0 0 3 + 1))) 0 5)).toInt64)) gd) A) 1 6 A := by
  refine va_MetW (cc := cL_sync) (maxL := 4) (ret := (some .int)) (hh := [(0, 9, 12, 13)]) (by decide) rfl ?_
  intro p e s m args below meth c s₁ B hml hv
  obtain ⟨rfl, hP, hKK, hKL, hZ⟩ := hv
  have hx := B.exec
  have hb := B.bytes
  have hr := B.returns
  have htA : ∀ w ∈ WA, w.before _ s = true := fun w h => atoms_spec (ws := (codeL yL_sync cL_sync 4 (some .int) [(0, 9, 12, 13)])) B.pre w (List.mem_cons_of_mem _ h)
  have hown : s.vm.findClass RL = some m.cls := findClass_of_methodNamed B.named
  have hlocks := B.notSynchronized
  have hS : va_S A s.heap s.heap [] := va_S.rf
  have hl := lv_entry ([.ref (q 0), .int (nI (0)), .ref (qo)]) (n := 4) (Nat.le_of_ble_eq_true rfl)
  rw [lg_entry_eq]
  generalize (lg_sl ([.ref (q 0), .int (nI (0)), .ref (qo)]) ++ List.replicate (4 - (lg_sl ([.ref (q 0), .int (nI (0)), .ref (qo)])).length) Slot.unset).toArray = ls at hl ⊢
  have hl : lv_has ls 4 [(0, .ref (q 0)), (1, .int (nI (0))), (2, .ref (qo))] := hl
  have hPX : va_P D vwCl (wX q cI cZ σ κ0 κ1) s.heap := hP.sub [2, 3, 4, 5, 6, 7, 8, 9, 10, 11, 12, 13, 14, 15, 16, 17, 18, 19, 20, 21, 22, 23, 24, 25] rfl
  have hDX : va_D A (wX q cI cZ σ κ0 κ1) := hD.sub [2, 3, 4, 5, 6, 7, 8, 9, 10, 11, 12, 13, 14, 15, 16, 17, 18, 19, 20, 21, 22, 23, 24, 25] (by decide) rfl
  refine lv_aload_n hx hb dL_sync_0 rfl (lv_at hl 2 rfl) ?_
  refine n_iconst (k := 0) hx hb dL_sync_1 (by decide) ?_
  refine lv_aload_n hx hb dL_sync_2 rfl (lv_at hl 0 rfl) ?_
  refine lv_iload_n hx hb dL_sync_3 rfl (lv_at hl 1 rfl) ?_
  refine wrV1 (v := .int (nI (κ0 0 5 - (syB σ (sv κ0 0 3 (κ0 0 3 + 1))) 0 5))) (As := [.int (nI (0))]) (rest := [.int (nI (0)), .ref (qo)]) (n := 1) ⟨hx, hb, hml, hown, htA⟩ (f_sync_n0 l D cI cZ sa q σ κ0 κ1  (adr (wX q cI cZ σ κ0 κ1)) (D_adr hDX) hB hv9 hsy hCa hfl hCb h15 hfb hBs hCc hco hb6 hwd hlat) (cwV 1 htA (gdV wd_567 wd_568 wd_569 wd_1 wd_570) rfl rfl rfl (by decide +kernel) ⟨Nat.le_of_ble_eq_true rfl, Nat.le_of_ble_eq_true rfl⟩) hKK hPX 0 rfl rfl rfl hl.1 rfl (Nat.le_of_ble_eq_true rfl) dL_sync_4 (Nat.zero_le _) (Nat.zero_le _) hS (fun a h => adr_in hDX a h) (fun H1 locs hP1 hz1 hk1 hS => ?_)
  have hP : va_P D vwCl (wL q qo qd cI cZ cL cD (syS σ (sv κ0 0 3 (κ0 0 3 + 1))) (syD σ (sv κ0 0 3 (κ0 0 3 + 1))) κ1 g gd) H1 := L_put hD hP hk1 hP1
  refine lv_i2l hx hb dL_sync_7 rfl ?_
  refine va_last hx hb hKL hP (D_addr hD rfl) hS 0 0 rfl rfl (vp_in_nI (n := 0) (N := 1) (by decide) (by decide)) dL_sync_8 (fun H locs hP _ hS => ?_)
  have hP : va_P D vwCl (wL q qo qd cI cZ cL cD (syS σ (sv κ0 0 3 (κ0 0 3 + 1))) (syD σ (sv κ0 0 3 (κ0 0 3 + 1))) κ1 (gu g ((nI (κ0 0 5 - (syB σ (sv κ0 0 3 (κ0 0 3 + 1))) 0 5)).toInt64)) gd) H := hP
  refine lv_goto (tgt := 15) hx hb dL_sync_9 (by decide) ?_
  refine n_iconst (k := 0) hx hb dL_sync_15 (by decide) ?_
  refine W.widen (k := 1) (n := 6) (by decide) (by decide) ?_
  exact W.iret hx hb hr (fun t ht _ => ⟨rfl, by rw [ht]; exact hP, hS.F ht⟩) hS.2.2 dL_sync_16 hlocks
set_option maxHeartbeats 4000000 in
set_option maxRecDepth 100000 in
theorem w_sync_y1 (l : Launch) (D : va_G) (cI cZ cL cD : ClassId) (sa : Nat → Nat) (q : Nat → Nat) (qo qd : Nat) (σ κ0 κ1 : ST) (g : Nat → Int64) (gd : Nat → UInt64) (A : Nat → Prop) (hD : va_D A (wL q qo qd cI cZ cL cD σ κ0 κ1 g gd))   (hB : ∀ k i, σ k i < 1000000000) (hv9 : decide (σ 7 0 - κ1 0 2 ≤ 40) = true) (hsy : κ1 0 2 ≤ σ 7 0) (hCa : CI κ1) (hfl : κ1 0 5 ≤ 10) (hCb : CI (syB σ κ1)) (h15 : ∀ i, σ 5 i < 16) (hfb : (syB σ κ1) 0 5 ≤ 10) (hBs : ∀ k i, (syS σ κ1) k i < 1073741824) (hCc : CI (syC σ κ1)) (hco : (syS σ κ1) 1 0 ≤ 60) (hb6 : (syC σ κ1) 0 0 < 6) (hwd : (syC σ κ1) 0 1 ≤ 10) (hlat : ∀ i, i < wsz (syS σ κ1) (syC σ κ1) → 0 < lat (syS σ κ1) (ms (bxs (syS σ κ1) ((syC σ κ1) 0 0)) 60) (nI i) ((syS σ κ1) 1 0) 0 0 ∧ wml (syS σ κ1) ((syC σ κ1) 0 0) i < 60) : Met l yL_sync (codeL yL_sync cL_sync 4 (some .int) [(0, 9, 12, 13)]) ({ frames := 8, cells := 1, slots := 6, locals := 158 } : Room) (LwP D cI cZ cL cD sa (wL q qo qd cI cZ cL cD σ κ0 κ1 g gd) [.ref (q 0), .int (nI (1)), .ref (qo)]) (WrQ (some (.int (nI 0))) D (wL q qo qd cI cZ cL cD (syS σ κ1) κ0 (syD σ κ1) (gu g ((nI (κ1 0 5 - (syB σ κ1) 0 5)).toInt64)) gd) A) 1 6 A := by
  refine va_MetW (cc := cL_sync) (maxL := 4) (ret := (some .int)) (hh := [(0, 9, 12, 13)]) (by decide) rfl ?_
  intro p e s m args below meth c s₁ B hml hv
  obtain ⟨rfl, hP, hKK, hKL, hZ⟩ := hv
  have hx := B.exec
  have hb := B.bytes
  have hr := B.returns
  have htA : ∀ w ∈ WA, w.before _ s = true := fun w h => atoms_spec (ws := (codeL yL_sync cL_sync 4 (some .int) [(0, 9, 12, 13)])) B.pre w (List.mem_cons_of_mem _ h)
  have hown : s.vm.findClass RL = some m.cls := findClass_of_methodNamed B.named
  have hlocks := B.notSynchronized
  have hS : va_S A s.heap s.heap [] := va_S.rf
  have hl := lv_entry ([.ref (q 0), .int (nI (1)), .ref (qo)]) (n := 4) (Nat.le_of_ble_eq_true rfl)
  rw [lg_entry_eq]
  generalize (lg_sl ([.ref (q 0), .int (nI (1)), .ref (qo)]) ++ List.replicate (4 - (lg_sl ([.ref (q 0), .int (nI (1)), .ref (qo)])).length) Slot.unset).toArray = ls at hl ⊢
  have hl : lv_has ls 4 [(0, .ref (q 0)), (1, .int (nI (1))), (2, .ref (qo))] := hl
  have hPX : va_P D vwCl (wX q cI cZ σ κ0 κ1) s.heap := hP.sub [2, 3, 4, 5, 6, 7, 8, 9, 10, 11, 12, 13, 14, 15, 16, 17, 18, 19, 20, 21, 22, 23, 24, 25] rfl
  have hDX : va_D A (wX q cI cZ σ κ0 κ1) := hD.sub [2, 3, 4, 5, 6, 7, 8, 9, 10, 11, 12, 13, 14, 15, 16, 17, 18, 19, 20, 21, 22, 23, 24, 25] (by decide) rfl
  refine lv_aload_n hx hb dL_sync_0 rfl (lv_at hl 2 rfl) ?_
  refine n_iconst (k := 0) hx hb dL_sync_1 (by decide) ?_
  refine lv_aload_n hx hb dL_sync_2 rfl (lv_at hl 0 rfl) ?_
  refine lv_iload_n hx hb dL_sync_3 rfl (lv_at hl 1 rfl) ?_
  refine wrV1 (v := .int (nI (κ1 0 5 - (syB σ κ1) 0 5))) (As := [.int (nI (1))]) (rest := [.int (nI (0)), .ref (qo)]) (n := 1) ⟨hx, hb, hml, hown, htA⟩ (f_sync_y1 l D cI cZ sa q σ κ0 κ1  (adr (wX q cI cZ σ κ0 κ1)) (D_adr hDX) hB hv9 hsy hCa hfl hCb h15 hfb hBs hCc hco hb6 hwd hlat) (cwV 1 htA (gdV wd_567 wd_568 wd_569 wd_1 wd_570) rfl rfl rfl (by decide +kernel) ⟨Nat.le_of_ble_eq_true rfl, Nat.le_of_ble_eq_true rfl⟩) hKK hPX 0 rfl rfl rfl hl.1 rfl (Nat.le_of_ble_eq_true rfl) dL_sync_4 (Nat.zero_le _) (Nat.zero_le _) hS (fun a h => adr_in hDX a h) (fun H1 locs hP1 hz1 hk1 hS => ?_)
  have hP : va_P D vwCl (wL q qo qd cI cZ cL cD (syS σ κ1) κ0 (syD σ κ1) g gd) H1 := L_put hD hP hk1 hP1
  refine lv_i2l hx hb dL_sync_7 rfl ?_
  refine va_last hx hb hKL hP (D_addr hD rfl) hS 0 0 rfl rfl (vp_in_nI (n := 0) (N := 1) (by decide) (by decide)) dL_sync_8 (fun H locs hP _ hS => ?_)
  have hP : va_P D vwCl (wL q qo qd cI cZ cL cD (syS σ κ1) κ0 (syD σ κ1) (gu g ((nI (κ1 0 5 - (syB σ κ1) 0 5)).toInt64)) gd) H := hP
  refine lv_goto (tgt := 15) hx hb dL_sync_9 (by decide) ?_
  refine n_iconst (k := 0) hx hb dL_sync_15 (by decide) ?_
  refine W.widen (k := 1) (n := 6) (by decide) (by decide) ?_
  exact W.iret hx hb hr (fun t ht _ => ⟨rfl, by rw [ht]; exact hP, hS.F ht⟩) hS.2.2 dL_sync_16 hlocks
set_option maxHeartbeats 4000000 in
set_option maxRecDepth 100000 in
theorem w_sync_n1 (l : Launch) (D : va_G) (cI cZ cL cD : ClassId) (sa : Nat → Nat) (q : Nat → Nat) (qo qd : Nat) (σ κ0 κ1 : ST) (g : Nat → Int64) (gd : Nat → UInt64) (A : Nat → Prop) (hD : va_D A (wL q qo qd cI cZ cL cD σ κ0 κ1 g gd))   (hB : ∀ k i, σ k i < 1000000000) (hv9 : decide (σ 7 0 - κ1 0 2 ≤ 40) = false) (hsy : κ1 0 2 ≤ σ 7 0) (hCa : CI (sv κ1 0 3 (κ1 0 3 + 1))) (hfl : κ1 0 5 ≤ 10) (hCb : CI (syB σ (sv κ1 0 3 (κ1 0 3 + 1)))) (h15 : ∀ i, σ 5 i < 16) (hfb : (syB σ (sv κ1 0 3 (κ1 0 3 + 1))) 0 5 ≤ 10) (hBs : ∀ k i, (syS σ (sv κ1 0 3 (κ1 0 3 + 1))) k i < 1073741824) (hCc : CI (syC σ (sv κ1 0 3 (κ1 0 3 + 1)))) (hco : (syS σ (sv κ1 0 3 (κ1 0 3 + 1))) 1 0 ≤ 60) (hb6 : (syC σ (sv κ1 0 3 (κ1 0 3 + 1))) 0 0 < 6) (hwd : (syC σ (sv κ1 0 3 (κ1 0 3 + 1))) 0 1 ≤ 10) (hlat : ∀ i, i < wsz (syS σ (sv κ1 0 3 (κ1 0 3 + 1))) (syC σ (sv κ1 0 3 (κ1 0 3 + 1))) → 0 < lat (syS σ (sv κ1 0 3 (κ1 0 3 + 1))) (ms (bxs (syS σ (sv κ1 0 3 (κ1 0 3 + 1))) ((syC σ (sv κ1 0 3 (κ1 0 3 + 1))) 0 0)) 60) (nI i) ((syS σ (sv κ1 0 3 (κ1 0 3 + 1))) 1 0) 0 0 ∧ wml (syS σ (sv κ1 0 3 (κ1 0 3 + 1))) ((syC σ (sv κ1 0 3 (κ1 0 3 + 1))) 0 0) i < 60) : Met l yL_sync (codeL yL_sync cL_sync 4 (some .int) [(0, 9, 12, 13)]) ({ frames := 8, cells := 1, slots := 6, locals := 158 } : Room) (LwP D cI cZ cL cD sa (wL q qo qd cI cZ cL cD σ κ0 κ1 g gd) [.ref (q 0), .int (nI (1)), .ref (qo)]) (WrQ (some (.int (nI 0))) D (wL q qo qd cI cZ cL cD (syS σ (sv κ1 0 3 (κ1 0 3 + 1))) κ0 (syD σ (sv κ1 0 3 (κ1 0 3 + 1))) (gu g ((nI (κ1 0 5 - (syB σ (sv κ1 0 3 (κ1 0 3 + 1))) 0 5)).toInt64)) gd) A) 1 6 A := by
  refine va_MetW (cc := cL_sync) (maxL := 4) (ret := (some .int)) (hh := [(0, 9, 12, 13)]) (by decide) rfl ?_
  intro p e s m args below meth c s₁ B hml hv
  obtain ⟨rfl, hP, hKK, hKL, hZ⟩ := hv
  have hx := B.exec
  have hb := B.bytes
  have hr := B.returns
  have htA : ∀ w ∈ WA, w.before _ s = true := fun w h => atoms_spec (ws := (codeL yL_sync cL_sync 4 (some .int) [(0, 9, 12, 13)])) B.pre w (List.mem_cons_of_mem _ h)
  have hown : s.vm.findClass RL = some m.cls := findClass_of_methodNamed B.named
  have hlocks := B.notSynchronized
  have hS : va_S A s.heap s.heap [] := va_S.rf
  have hl := lv_entry ([.ref (q 0), .int (nI (1)), .ref (qo)]) (n := 4) (Nat.le_of_ble_eq_true rfl)
  rw [lg_entry_eq]
  generalize (lg_sl ([.ref (q 0), .int (nI (1)), .ref (qo)]) ++ List.replicate (4 - (lg_sl ([.ref (q 0), .int (nI (1)), .ref (qo)])).length) Slot.unset).toArray = ls at hl ⊢
  have hl : lv_has ls 4 [(0, .ref (q 0)), (1, .int (nI (1))), (2, .ref (qo))] := hl
  have hPX : va_P D vwCl (wX q cI cZ σ κ0 κ1) s.heap := hP.sub [2, 3, 4, 5, 6, 7, 8, 9, 10, 11, 12, 13, 14, 15, 16, 17, 18, 19, 20, 21, 22, 23, 24, 25] rfl
  have hDX : va_D A (wX q cI cZ σ κ0 κ1) := hD.sub [2, 3, 4, 5, 6, 7, 8, 9, 10, 11, 12, 13, 14, 15, 16, 17, 18, 19, 20, 21, 22, 23, 24, 25] (by decide) rfl
  refine lv_aload_n hx hb dL_sync_0 rfl (lv_at hl 2 rfl) ?_
  refine n_iconst (k := 0) hx hb dL_sync_1 (by decide) ?_
  refine lv_aload_n hx hb dL_sync_2 rfl (lv_at hl 0 rfl) ?_
  refine lv_iload_n hx hb dL_sync_3 rfl (lv_at hl 1 rfl) ?_
  refine wrV1 (v := .int (nI (κ1 0 5 - (syB σ (sv κ1 0 3 (κ1 0 3 + 1))) 0 5))) (As := [.int (nI (1))]) (rest := [.int (nI (0)), .ref (qo)]) (n := 1) ⟨hx, hb, hml, hown, htA⟩ (f_sync_n1 l D cI cZ sa q σ κ0 κ1  (adr (wX q cI cZ σ κ0 κ1)) (D_adr hDX) hB hv9 hsy hCa hfl hCb h15 hfb hBs hCc hco hb6 hwd hlat) (cwV 1 htA (gdV wd_567 wd_568 wd_569 wd_1 wd_570) rfl rfl rfl (by decide +kernel) ⟨Nat.le_of_ble_eq_true rfl, Nat.le_of_ble_eq_true rfl⟩) hKK hPX 0 rfl rfl rfl hl.1 rfl (Nat.le_of_ble_eq_true rfl) dL_sync_4 (Nat.zero_le _) (Nat.zero_le _) hS (fun a h => adr_in hDX a h) (fun H1 locs hP1 hz1 hk1 hS => ?_)
  have hP : va_P D vwCl (wL q qo qd cI cZ cL cD (syS σ (sv κ1 0 3 (κ1 0 3 + 1))) κ0 (syD σ (sv κ1 0 3 (κ1 0 3 + 1))) g gd) H1 := L_put hD hP hk1 hP1
  refine lv_i2l hx hb dL_sync_7 rfl ?_
  refine va_last hx hb hKL hP (D_addr hD rfl) hS 0 0 rfl rfl (vp_in_nI (n := 0) (N := 1) (by decide) (by decide)) dL_sync_8 (fun H locs hP _ hS => ?_)
  have hP : va_P D vwCl (wL q qo qd cI cZ cL cD (syS σ (sv κ1 0 3 (κ1 0 3 + 1))) κ0 (syD σ (sv κ1 0 3 (κ1 0 3 + 1))) (gu g ((nI (κ1 0 5 - (syB σ (sv κ1 0 3 (κ1 0 3 + 1))) 0 5)).toInt64)) gd) H := hP
  refine lv_goto (tgt := 15) hx hb dL_sync_9 (by decide) ?_
  refine n_iconst (k := 0) hx hb dL_sync_15 (by decide) ?_
  refine W.widen (k := 1) (n := 6) (by decide) (by decide) ?_
  exact W.iret hx hb hr (fun t ht _ => ⟨rfl, by rw [ht]; exact hP, hS.F ht⟩) hS.2.2 dL_sync_16 hlocks
set_option maxHeartbeats 4000000 in
set_option maxRecDepth 100000 in
theorem w_stateOf_bad (l : Launch) (D : va_G) (cI cZ cL cD : ClassId) (sa : Nat → Nat) (q : Nat → Nat) (qo qd : Nat) (σ κ0 κ1 : ST) (g : Nat → Int64) (gd : Nat → UInt64) (A : Nat → Prop) (hD : va_D A (wL q qo qd cI cZ cL cD σ κ0 κ1 g gd)) (hst9 : l.stackTraces = false)  (x : Int32) (hbad : iw (x) (nI (0)) (nI (1)) = false) : Met l yL_stateOf (codeL yL_stateOf cL_stateOf 4 (some .int) [(0, 9, 12, 13)]) ({ frames := 8, cells := 1, slots := 6, locals := 123 } : Room) (LwP D cI cZ cL cD sa (wL q qo qd cI cZ cL cD σ κ0 κ1 g gd) [.ref (q 0), .int (x), .ref (qo)]) (WrQ (some (.int (nI 1))) D (wL q qo qd cI cZ cL cD σ κ0 κ1 g gd) A) 1 6 A := by
  refine va_MetW (cc := cL_stateOf) (maxL := 4) (ret := (some .int)) (hh := [(0, 9, 12, 13)]) (by decide) rfl ?_
  intro p e s m args below meth c s₁ B hml hv
  obtain ⟨rfl, hP, hKK, hKL, hZ⟩ := hv
  have hx := B.exec
  have hb := B.bytes
  have hr := B.returns
  have htA : ∀ w ∈ WA, w.before _ s = true := fun w h => atoms_spec (ws := (codeL yL_stateOf cL_stateOf 4 (some .int) [(0, 9, 12, 13)])) B.pre w (List.mem_cons_of_mem _ h)
  have hown : s.vm.findClass RL = some m.cls := findClass_of_methodNamed B.named
  have hlocks := B.notSynchronized
  have hS : va_S A s.heap s.heap [] := va_S.rf
  have hl := lv_entry ([.ref (q 0), .int (x), .ref (qo)]) (n := 4) (Nat.le_of_ble_eq_true rfl)
  rw [lg_entry_eq]
  generalize (lg_sl ([.ref (q 0), .int (x), .ref (qo)]) ++ List.replicate (4 - (lg_sl ([.ref (q 0), .int (x), .ref (qo)])).length) Slot.unset).toArray = ls at hl ⊢
  have hl : lv_has ls 4 [(0, .ref (q 0)), (1, .int (x)), (2, .ref (qo))] := hl
  have hPX : va_P D vwCl (wX q cI cZ σ κ0 κ1) s.heap := hP.sub [2, 3, 4, 5, 6, 7, 8, 9, 10, 11, 12, 13, 14, 15, 16, 17, 18, 19, 20, 21, 22, 23, 24, 25] rfl
  have hDX : va_D A (wX q cI cZ σ κ0 κ1) := hD.sub [2, 3, 4, 5, 6, 7, 8, 9, 10, 11, 12, 13, 14, 15, 16, 17, 18, 19, 20, 21, 22, 23, 24, 25] (by decide) rfl
  refine lv_aload_n hx hb dL_stateOf_0 rfl (lv_at hl 2 rfl) ?_
  refine n_iconst (k := 0) hx hb dL_stateOf_1 (by decide) ?_
  refine lv_aload_n hx hb dL_stateOf_2 rfl (lv_at hl 0 rfl) ?_
  refine lv_iload_n hx hb dL_stateOf_3 rfl (lv_at hl 1 rfl) ?_
  refine thV (As := [.int (x)]) (rest := [.int (nI (0)), .ref (qo)]) (n := 1) ⟨hx, hb, hml, hown, htA⟩ (f_stateOf_bad l D cI cZ sa hst9 q σ κ0 κ1 x s.heap hPX hbad) (cwV 1 htA (gdV wd_606 wd_607 wd_608 wd_1 wd_609) rfl rfl rfl (by decide +kernel) ⟨Nat.le_of_ble_eq_true rfl, Nat.le_of_ble_eq_true rfl⟩) hKK hZ hPX 0 rfl rfl rfl hl.1 rfl (Nat.le_of_ble_eq_true rfl) dL_stateOf_4 (Nat.le_of_ble_eq_true rfl) (Nat.le_of_ble_eq_true rfl) (fun H1 ce q9 hz hk hc hv hcl => ?_)
  refine vx_catch (name := "java/lang/IllegalArgumentException") hown [] ⟨0, 9, 12, 13⟩ [] ((vx_table (x := yL_stateOf) B (htA _ wd_605)).trans rfl) (fun _ h => nomatch h) (by decide) (by decide) (htA _ wd_164) (va_Nw.use rfl (ex_cA hKK.2)) hc hv hcl ?_
  refine lv_astore_n (lv' := [(3, .ref (q9)), (0, .ref (q 0)), (1, .int (x)), (2, .ref (qo))]) hx hb dL_stateOf_12 rfl hl (by decide) rfl (fun ls hl => ?_)
  refine n_iconst (k := 1) hx hb dL_stateOf_13 (by decide) ?_
  exact W.iret hx hb hr (fun t ht _ => ⟨rfl, by rw [ht]; exact P_grow hP hk, ⟨by rw [ht]; exact hz, fun a ha _ => by rw [ht]; exact hk a ha⟩⟩) (fun _ h => nomatch h) dL_stateOf_14 hlocks
set_option maxHeartbeats 4000000 in
set_option maxRecDepth 100000 in
theorem w_stateOf_0 (l : Launch) (D : va_G) (cI cZ cL cD : ClassId) (sa : Nat → Nat) (q : Nat → Nat) (qo qd : Nat) (σ κ0 κ1 : ST) (g : Nat → Int64) (gd : Nat → UInt64) (A : Nat → Prop) (hD : va_D A (wL q qo qd cI cZ cL cD σ κ0 κ1 g gd))    : Met l yL_stateOf (codeL yL_stateOf cL_stateOf 4 (some .int) [(0, 9, 12, 13)]) ({ frames := 8, cells := 1, slots := 6, locals := 123 } : Room) (LwP D cI cZ cL cD sa (wL q qo qd cI cZ cL cD σ κ0 κ1 g gd) [.ref (q 0), .int (nI (0)), .ref (qo)]) (WrQ (some (.int (nI 0))) D (wL q qo qd cI cZ cL cD σ κ0 κ1 (gu g ((nI (κ0 0 2)).toInt64)) gd) A) 1 6 A := by
  refine va_MetW (cc := cL_stateOf) (maxL := 4) (ret := (some .int)) (hh := [(0, 9, 12, 13)]) (by decide) rfl ?_
  intro p e s m args below meth c s₁ B hml hv
  obtain ⟨rfl, hP, hKK, hKL, hZ⟩ := hv
  have hx := B.exec
  have hb := B.bytes
  have hr := B.returns
  have htA : ∀ w ∈ WA, w.before _ s = true := fun w h => atoms_spec (ws := (codeL yL_stateOf cL_stateOf 4 (some .int) [(0, 9, 12, 13)])) B.pre w (List.mem_cons_of_mem _ h)
  have hown : s.vm.findClass RL = some m.cls := findClass_of_methodNamed B.named
  have hlocks := B.notSynchronized
  have hS : va_S A s.heap s.heap [] := va_S.rf
  have hl := lv_entry ([.ref (q 0), .int (nI (0)), .ref (qo)]) (n := 4) (Nat.le_of_ble_eq_true rfl)
  rw [lg_entry_eq]
  generalize (lg_sl ([.ref (q 0), .int (nI (0)), .ref (qo)]) ++ List.replicate (4 - (lg_sl ([.ref (q 0), .int (nI (0)), .ref (qo)])).length) Slot.unset).toArray = ls at hl ⊢
  have hl : lv_has ls 4 [(0, .ref (q 0)), (1, .int (nI (0))), (2, .ref (qo))] := hl
  have hPX : va_P D vwCl (wX q cI cZ σ κ0 κ1) s.heap := hP.sub [2, 3, 4, 5, 6, 7, 8, 9, 10, 11, 12, 13, 14, 15, 16, 17, 18, 19, 20, 21, 22, 23, 24, 25] rfl
  have hDX : va_D A (wX q cI cZ σ κ0 κ1) := hD.sub [2, 3, 4, 5, 6, 7, 8, 9, 10, 11, 12, 13, 14, 15, 16, 17, 18, 19, 20, 21, 22, 23, 24, 25] (by decide) rfl
  refine lv_aload_n hx hb dL_stateOf_0 rfl (lv_at hl 2 rfl) ?_
  refine n_iconst (k := 0) hx hb dL_stateOf_1 (by decide) ?_
  refine lv_aload_n hx hb dL_stateOf_2 rfl (lv_at hl 0 rfl) ?_
  refine lv_iload_n hx hb dL_stateOf_3 rfl (lv_at hl 1 rfl) ?_
  refine roV1 (v := .int (nI (κ0 0 2))) (As := [.int (nI (0))]) (rest := [.int (nI (0)), .ref (qo)]) (n := 1) ⟨hx, hb, hml, hown, htA⟩ (f_stateOf_0 l D cI cZ sa q σ κ0 κ1  s.heap hPX ) (cwV 1 htA (gdV wd_606 wd_607 wd_608 wd_1 wd_609) rfl rfl rfl (by decide +kernel) ⟨Nat.le_of_ble_eq_true rfl, Nat.le_of_ble_eq_true rfl⟩) hKK hPX 0 rfl rfl rfl hl.1 rfl (Nat.le_of_ble_eq_true rfl) dL_stateOf_4 (Nat.zero_le _) (Nat.zero_le _) ?_
  refine lv_i2l hx hb dL_stateOf_7 rfl ?_
  refine va_last hx hb hKL hP (D_addr hD rfl) hS 0 0 rfl rfl (vp_in_nI (n := 0) (N := 1) (by decide) (by decide)) dL_stateOf_8 (fun H locs hP _ hS => ?_)
  have hP : va_P D vwCl (wL q qo qd cI cZ cL cD σ κ0 κ1 (gu g ((nI (κ0 0 2)).toInt64)) gd) H := hP
  refine lv_goto (tgt := 15) hx hb dL_stateOf_9 (by decide) ?_
  refine n_iconst (k := 0) hx hb dL_stateOf_15 (by decide) ?_
  refine W.widen (k := 1) (n := 6) (by decide) (by decide) ?_
  exact W.iret hx hb hr (fun t ht _ => ⟨rfl, by rw [ht]; exact hP, hS.F ht⟩) hS.2.2 dL_stateOf_16 hlocks
set_option maxHeartbeats 4000000 in
set_option maxRecDepth 100000 in
theorem w_stateOf_1 (l : Launch) (D : va_G) (cI cZ cL cD : ClassId) (sa : Nat → Nat) (q : Nat → Nat) (qo qd : Nat) (σ κ0 κ1 : ST) (g : Nat → Int64) (gd : Nat → UInt64) (A : Nat → Prop) (hD : va_D A (wL q qo qd cI cZ cL cD σ κ0 κ1 g gd))    : Met l yL_stateOf (codeL yL_stateOf cL_stateOf 4 (some .int) [(0, 9, 12, 13)]) ({ frames := 8, cells := 1, slots := 6, locals := 123 } : Room) (LwP D cI cZ cL cD sa (wL q qo qd cI cZ cL cD σ κ0 κ1 g gd) [.ref (q 0), .int (nI (1)), .ref (qo)]) (WrQ (some (.int (nI 0))) D (wL q qo qd cI cZ cL cD σ κ0 κ1 (gu g ((nI (κ1 0 2)).toInt64)) gd) A) 1 6 A := by
  refine va_MetW (cc := cL_stateOf) (maxL := 4) (ret := (some .int)) (hh := [(0, 9, 12, 13)]) (by decide) rfl ?_
  intro p e s m args below meth c s₁ B hml hv
  obtain ⟨rfl, hP, hKK, hKL, hZ⟩ := hv
  have hx := B.exec
  have hb := B.bytes
  have hr := B.returns
  have htA : ∀ w ∈ WA, w.before _ s = true := fun w h => atoms_spec (ws := (codeL yL_stateOf cL_stateOf 4 (some .int) [(0, 9, 12, 13)])) B.pre w (List.mem_cons_of_mem _ h)
  have hown : s.vm.findClass RL = some m.cls := findClass_of_methodNamed B.named
  have hlocks := B.notSynchronized
  have hS : va_S A s.heap s.heap [] := va_S.rf
  have hl := lv_entry ([.ref (q 0), .int (nI (1)), .ref (qo)]) (n := 4) (Nat.le_of_ble_eq_true rfl)
  rw [lg_entry_eq]
  generalize (lg_sl ([.ref (q 0), .int (nI (1)), .ref (qo)]) ++ List.replicate (4 - (lg_sl ([.ref (q 0), .int (nI (1)), .ref (qo)])).length) Slot.unset).toArray = ls at hl ⊢
  have hl : lv_has ls 4 [(0, .ref (q 0)), (1, .int (nI (1))), (2, .ref (qo))] := hl
  have hPX : va_P D vwCl (wX q cI cZ σ κ0 κ1) s.heap := hP.sub [2, 3, 4, 5, 6, 7, 8, 9, 10, 11, 12, 13, 14, 15, 16, 17, 18, 19, 20, 21, 22, 23, 24, 25] rfl
  have hDX : va_D A (wX q cI cZ σ κ0 κ1) := hD.sub [2, 3, 4, 5, 6, 7, 8, 9, 10, 11, 12, 13, 14, 15, 16, 17, 18, 19, 20, 21, 22, 23, 24, 25] (by decide) rfl
  refine lv_aload_n hx hb dL_stateOf_0 rfl (lv_at hl 2 rfl) ?_
  refine n_iconst (k := 0) hx hb dL_stateOf_1 (by decide) ?_
  refine lv_aload_n hx hb dL_stateOf_2 rfl (lv_at hl 0 rfl) ?_
  refine lv_iload_n hx hb dL_stateOf_3 rfl (lv_at hl 1 rfl) ?_
  refine roV1 (v := .int (nI (κ1 0 2))) (As := [.int (nI (1))]) (rest := [.int (nI (0)), .ref (qo)]) (n := 1) ⟨hx, hb, hml, hown, htA⟩ (f_stateOf_1 l D cI cZ sa q σ κ0 κ1  s.heap hPX ) (cwV 1 htA (gdV wd_606 wd_607 wd_608 wd_1 wd_609) rfl rfl rfl (by decide +kernel) ⟨Nat.le_of_ble_eq_true rfl, Nat.le_of_ble_eq_true rfl⟩) hKK hPX 0 rfl rfl rfl hl.1 rfl (Nat.le_of_ble_eq_true rfl) dL_stateOf_4 (Nat.zero_le _) (Nat.zero_le _) ?_
  refine lv_i2l hx hb dL_stateOf_7 rfl ?_
  refine va_last hx hb hKL hP (D_addr hD rfl) hS 0 0 rfl rfl (vp_in_nI (n := 0) (N := 1) (by decide) (by decide)) dL_stateOf_8 (fun H locs hP _ hS => ?_)
  have hP : va_P D vwCl (wL q qo qd cI cZ cL cD σ κ0 κ1 (gu g ((nI (κ1 0 2)).toInt64)) gd) H := hP
  refine lv_goto (tgt := 15) hx hb dL_stateOf_9 (by decide) ?_
  refine n_iconst (k := 0) hx hb dL_stateOf_15 (by decide) ?_
  refine W.widen (k := 1) (n := 6) (by decide) (by decide) ?_
  exact W.iret hx hb hr (fun t ht _ => ⟨rfl, by rw [ht]; exact hP, hS.F ht⟩) hS.2.2 dL_stateOf_16 hlocks
set_option maxHeartbeats 4000000 in
set_option maxRecDepth 100000 in
theorem w_window_bad (l : Launch) (D : va_G) (cI cZ cL cD : ClassId) (sa : Nat → Nat) (q : Nat → Nat) (qo qd : Nat) (σ κ0 κ1 : ST) (g : Nat → Int64) (gd : Nat → UInt64) (A : Nat → Prop) (hD : va_D A (wL q qo qd cI cZ cL cD σ κ0 κ1 g gd)) (hst9 : l.stackTraces = false)  (x : Int32) (hbad : iw (x) (nI (0)) (nI (1)) = false) : Met l yL_window (codeL yL_window cL_window 4 (some .int) [(0, 9, 12, 13)]) ({ frames := 8, cells := 1, slots := 6, locals := 123 } : Room) (LwP D cI cZ cL cD sa (wL q qo qd cI cZ cL cD σ κ0 κ1 g gd) [.ref (q 0), .int (x), .ref (qo)]) (WrQ (some (.int (nI 1))) D (wL q qo qd cI cZ cL cD σ κ0 κ1 g gd) A) 1 6 A := by
  refine va_MetW (cc := cL_window) (maxL := 4) (ret := (some .int)) (hh := [(0, 9, 12, 13)]) (by decide) rfl ?_
  intro p e s m args below meth c s₁ B hml hv
  obtain ⟨rfl, hP, hKK, hKL, hZ⟩ := hv
  have hx := B.exec
  have hb := B.bytes
  have hr := B.returns
  have htA : ∀ w ∈ WA, w.before _ s = true := fun w h => atoms_spec (ws := (codeL yL_window cL_window 4 (some .int) [(0, 9, 12, 13)])) B.pre w (List.mem_cons_of_mem _ h)
  have hown : s.vm.findClass RL = some m.cls := findClass_of_methodNamed B.named
  have hlocks := B.notSynchronized
  have hS : va_S A s.heap s.heap [] := va_S.rf
  have hl := lv_entry ([.ref (q 0), .int (x), .ref (qo)]) (n := 4) (Nat.le_of_ble_eq_true rfl)
  rw [lg_entry_eq]
  generalize (lg_sl ([.ref (q 0), .int (x), .ref (qo)]) ++ List.replicate (4 - (lg_sl ([.ref (q 0), .int (x), .ref (qo)])).length) Slot.unset).toArray = ls at hl ⊢
  have hl : lv_has ls 4 [(0, .ref (q 0)), (1, .int (x)), (2, .ref (qo))] := hl
  have hPX : va_P D vwCl (wX q cI cZ σ κ0 κ1) s.heap := hP.sub [2, 3, 4, 5, 6, 7, 8, 9, 10, 11, 12, 13, 14, 15, 16, 17, 18, 19, 20, 21, 22, 23, 24, 25] rfl
  have hDX : va_D A (wX q cI cZ σ κ0 κ1) := hD.sub [2, 3, 4, 5, 6, 7, 8, 9, 10, 11, 12, 13, 14, 15, 16, 17, 18, 19, 20, 21, 22, 23, 24, 25] (by decide) rfl
  refine lv_aload_n hx hb dL_window_0 rfl (lv_at hl 2 rfl) ?_
  refine n_iconst (k := 0) hx hb dL_window_1 (by decide) ?_
  refine lv_aload_n hx hb dL_window_2 rfl (lv_at hl 0 rfl) ?_
  refine lv_iload_n hx hb dL_window_3 rfl (lv_at hl 1 rfl) ?_
  refine thV (As := [.int (x)]) (rest := [.int (nI (0)), .ref (qo)]) (n := 1) ⟨hx, hb, hml, hown, htA⟩ (f_window_bad l D cI cZ sa hst9 q σ κ0 κ1 x s.heap hPX hbad) (cwV 1 htA (gdV wd_613 wd_614 wd_615 wd_1 wd_616) rfl rfl rfl (by decide +kernel) ⟨Nat.le_of_ble_eq_true rfl, Nat.le_of_ble_eq_true rfl⟩) hKK hZ hPX 0 rfl rfl rfl hl.1 rfl (Nat.le_of_ble_eq_true rfl) dL_window_4 (Nat.le_of_ble_eq_true rfl) (Nat.le_of_ble_eq_true rfl) (fun H1 ce q9 hz hk hc hv hcl => ?_)
  refine vx_catch (name := "java/lang/IllegalArgumentException") hown [] ⟨0, 9, 12, 13⟩ [] ((vx_table (x := yL_window) B (htA _ wd_612)).trans rfl) (fun _ h => nomatch h) (by decide) (by decide) (htA _ wd_164) (va_Nw.use rfl (ex_cA hKK.2)) hc hv hcl ?_
  refine lv_astore_n (lv' := [(3, .ref (q9)), (0, .ref (q 0)), (1, .int (x)), (2, .ref (qo))]) hx hb dL_window_12 rfl hl (by decide) rfl (fun ls hl => ?_)
  refine n_iconst (k := 1) hx hb dL_window_13 (by decide) ?_
  exact W.iret hx hb hr (fun t ht _ => ⟨rfl, by rw [ht]; exact P_grow hP hk, ⟨by rw [ht]; exact hz, fun a ha _ => by rw [ht]; exact hk a ha⟩⟩) (fun _ h => nomatch h) dL_window_14 hlocks
set_option maxHeartbeats 4000000 in
set_option maxRecDepth 100000 in
theorem w_window_0 (l : Launch) (D : va_G) (cI cZ cL cD : ClassId) (sa : Nat → Nat) (q : Nat → Nat) (qo qd : Nat) (σ κ0 κ1 : ST) (g : Nat → Int64) (gd : Nat → UInt64) (A : Nat → Prop) (hD : va_D A (wL q qo qd cI cZ cL cD σ κ0 κ1 g gd))    : Met l yL_window (codeL yL_window cL_window 4 (some .int) [(0, 9, 12, 13)]) ({ frames := 8, cells := 1, slots := 6, locals := 123 } : Room) (LwP D cI cZ cL cD sa (wL q qo qd cI cZ cL cD σ κ0 κ1 g gd) [.ref (q 0), .int (nI (0)), .ref (qo)]) (WrQ (some (.int (nI 0))) D (wL q qo qd cI cZ cL cD σ κ0 κ1 (gu g ((nI (κ0 0 4)).toInt64)) gd) A) 1 6 A := by
  refine va_MetW (cc := cL_window) (maxL := 4) (ret := (some .int)) (hh := [(0, 9, 12, 13)]) (by decide) rfl ?_
  intro p e s m args below meth c s₁ B hml hv
  obtain ⟨rfl, hP, hKK, hKL, hZ⟩ := hv
  have hx := B.exec
  have hb := B.bytes
  have hr := B.returns
  have htA : ∀ w ∈ WA, w.before _ s = true := fun w h => atoms_spec (ws := (codeL yL_window cL_window 4 (some .int) [(0, 9, 12, 13)])) B.pre w (List.mem_cons_of_mem _ h)
  have hown : s.vm.findClass RL = some m.cls := findClass_of_methodNamed B.named
  have hlocks := B.notSynchronized
  have hS : va_S A s.heap s.heap [] := va_S.rf
  have hl := lv_entry ([.ref (q 0), .int (nI (0)), .ref (qo)]) (n := 4) (Nat.le_of_ble_eq_true rfl)
  rw [lg_entry_eq]
  generalize (lg_sl ([.ref (q 0), .int (nI (0)), .ref (qo)]) ++ List.replicate (4 - (lg_sl ([.ref (q 0), .int (nI (0)), .ref (qo)])).length) Slot.unset).toArray = ls at hl ⊢
  have hl : lv_has ls 4 [(0, .ref (q 0)), (1, .int (nI (0))), (2, .ref (qo))] := hl
  have hPX : va_P D vwCl (wX q cI cZ σ κ0 κ1) s.heap := hP.sub [2, 3, 4, 5, 6, 7, 8, 9, 10, 11, 12, 13, 14, 15, 16, 17, 18, 19, 20, 21, 22, 23, 24, 25] rfl
  have hDX : va_D A (wX q cI cZ σ κ0 κ1) := hD.sub [2, 3, 4, 5, 6, 7, 8, 9, 10, 11, 12, 13, 14, 15, 16, 17, 18, 19, 20, 21, 22, 23, 24, 25] (by decide) rfl
  refine lv_aload_n hx hb dL_window_0 rfl (lv_at hl 2 rfl) ?_
  refine n_iconst (k := 0) hx hb dL_window_1 (by decide) ?_
  refine lv_aload_n hx hb dL_window_2 rfl (lv_at hl 0 rfl) ?_
  refine lv_iload_n hx hb dL_window_3 rfl (lv_at hl 1 rfl) ?_
  refine roV1 (v := .int (nI (κ0 0 4))) (As := [.int (nI (0))]) (rest := [.int (nI (0)), .ref (qo)]) (n := 1) ⟨hx, hb, hml, hown, htA⟩ (f_window_0 l D cI cZ sa q σ κ0 κ1  s.heap hPX ) (cwV 1 htA (gdV wd_613 wd_614 wd_615 wd_1 wd_616) rfl rfl rfl (by decide +kernel) ⟨Nat.le_of_ble_eq_true rfl, Nat.le_of_ble_eq_true rfl⟩) hKK hPX 0 rfl rfl rfl hl.1 rfl (Nat.le_of_ble_eq_true rfl) dL_window_4 (Nat.zero_le _) (Nat.zero_le _) ?_
  refine lv_i2l hx hb dL_window_7 rfl ?_
  refine va_last hx hb hKL hP (D_addr hD rfl) hS 0 0 rfl rfl (vp_in_nI (n := 0) (N := 1) (by decide) (by decide)) dL_window_8 (fun H locs hP _ hS => ?_)
  have hP : va_P D vwCl (wL q qo qd cI cZ cL cD σ κ0 κ1 (gu g ((nI (κ0 0 4)).toInt64)) gd) H := hP
  refine lv_goto (tgt := 15) hx hb dL_window_9 (by decide) ?_
  refine n_iconst (k := 0) hx hb dL_window_15 (by decide) ?_
  refine W.widen (k := 1) (n := 6) (by decide) (by decide) ?_
  exact W.iret hx hb hr (fun t ht _ => ⟨rfl, by rw [ht]; exact hP, hS.F ht⟩) hS.2.2 dL_window_16 hlocks
set_option maxHeartbeats 4000000 in
set_option maxRecDepth 100000 in
theorem w_window_1 (l : Launch) (D : va_G) (cI cZ cL cD : ClassId) (sa : Nat → Nat) (q : Nat → Nat) (qo qd : Nat) (σ κ0 κ1 : ST) (g : Nat → Int64) (gd : Nat → UInt64) (A : Nat → Prop) (hD : va_D A (wL q qo qd cI cZ cL cD σ κ0 κ1 g gd))    : Met l yL_window (codeL yL_window cL_window 4 (some .int) [(0, 9, 12, 13)]) ({ frames := 8, cells := 1, slots := 6, locals := 123 } : Room) (LwP D cI cZ cL cD sa (wL q qo qd cI cZ cL cD σ κ0 κ1 g gd) [.ref (q 0), .int (nI (1)), .ref (qo)]) (WrQ (some (.int (nI 0))) D (wL q qo qd cI cZ cL cD σ κ0 κ1 (gu g ((nI (κ1 0 4)).toInt64)) gd) A) 1 6 A := by
  refine va_MetW (cc := cL_window) (maxL := 4) (ret := (some .int)) (hh := [(0, 9, 12, 13)]) (by decide) rfl ?_
  intro p e s m args below meth c s₁ B hml hv
  obtain ⟨rfl, hP, hKK, hKL, hZ⟩ := hv
  have hx := B.exec
  have hb := B.bytes
  have hr := B.returns
  have htA : ∀ w ∈ WA, w.before _ s = true := fun w h => atoms_spec (ws := (codeL yL_window cL_window 4 (some .int) [(0, 9, 12, 13)])) B.pre w (List.mem_cons_of_mem _ h)
  have hown : s.vm.findClass RL = some m.cls := findClass_of_methodNamed B.named
  have hlocks := B.notSynchronized
  have hS : va_S A s.heap s.heap [] := va_S.rf
  have hl := lv_entry ([.ref (q 0), .int (nI (1)), .ref (qo)]) (n := 4) (Nat.le_of_ble_eq_true rfl)
  rw [lg_entry_eq]
  generalize (lg_sl ([.ref (q 0), .int (nI (1)), .ref (qo)]) ++ List.replicate (4 - (lg_sl ([.ref (q 0), .int (nI (1)), .ref (qo)])).length) Slot.unset).toArray = ls at hl ⊢
  have hl : lv_has ls 4 [(0, .ref (q 0)), (1, .int (nI (1))), (2, .ref (qo))] := hl
  have hPX : va_P D vwCl (wX q cI cZ σ κ0 κ1) s.heap := hP.sub [2, 3, 4, 5, 6, 7, 8, 9, 10, 11, 12, 13, 14, 15, 16, 17, 18, 19, 20, 21, 22, 23, 24, 25] rfl
  have hDX : va_D A (wX q cI cZ σ κ0 κ1) := hD.sub [2, 3, 4, 5, 6, 7, 8, 9, 10, 11, 12, 13, 14, 15, 16, 17, 18, 19, 20, 21, 22, 23, 24, 25] (by decide) rfl
  refine lv_aload_n hx hb dL_window_0 rfl (lv_at hl 2 rfl) ?_
  refine n_iconst (k := 0) hx hb dL_window_1 (by decide) ?_
  refine lv_aload_n hx hb dL_window_2 rfl (lv_at hl 0 rfl) ?_
  refine lv_iload_n hx hb dL_window_3 rfl (lv_at hl 1 rfl) ?_
  refine roV1 (v := .int (nI (κ1 0 4))) (As := [.int (nI (1))]) (rest := [.int (nI (0)), .ref (qo)]) (n := 1) ⟨hx, hb, hml, hown, htA⟩ (f_window_1 l D cI cZ sa q σ κ0 κ1  s.heap hPX ) (cwV 1 htA (gdV wd_613 wd_614 wd_615 wd_1 wd_616) rfl rfl rfl (by decide +kernel) ⟨Nat.le_of_ble_eq_true rfl, Nat.le_of_ble_eq_true rfl⟩) hKK hPX 0 rfl rfl rfl hl.1 rfl (Nat.le_of_ble_eq_true rfl) dL_window_4 (Nat.zero_le _) (Nat.zero_le _) ?_
  refine lv_i2l hx hb dL_window_7 rfl ?_
  refine va_last hx hb hKL hP (D_addr hD rfl) hS 0 0 rfl rfl (vp_in_nI (n := 0) (N := 1) (by decide) (by decide)) dL_window_8 (fun H locs hP _ hS => ?_)
  have hP : va_P D vwCl (wL q qo qd cI cZ cL cD σ κ0 κ1 (gu g ((nI (κ1 0 4)).toInt64)) gd) H := hP
  refine lv_goto (tgt := 15) hx hb dL_window_9 (by decide) ?_
  refine n_iconst (k := 0) hx hb dL_window_15 (by decide) ?_
  refine W.widen (k := 1) (n := 6) (by decide) (by decide) ?_
  exact W.iret hx hb hr (fun t ht _ => ⟨rfl, by rw [ht]; exact hP, hS.F ht⟩) hS.2.2 dL_window_16 hlocks
set_option maxHeartbeats 4000000 in
set_option maxRecDepth 100000 in
theorem w_windowAt_bad (l : Launch) (D : va_G) (cI cZ cL cD : ClassId) (sa : Nat → Nat) (q : Nat → Nat) (qo qd : Nat) (σ κ0 κ1 : ST) (g : Nat → Int64) (gd : Nat → UInt64) (A : Nat → Prop) (hD : va_D A (wL q qo qd cI cZ cL cD σ κ0 κ1 g gd)) (hst9 : l.stackTraces = false)  (x ix : Int32) (hbad : iw (x) (nI (0)) (nI (1)) = false) : Met l yL_windowAt (codeL yL_windowAt cL_windowAt 5 (some .int) [(0, 10, 13, 13), (0, 10, 17, 21)]) ({ frames := 8, cells := 1, slots := 6, locals := 125 } : Room) (LwP D cI cZ cL cD sa (wL q qo qd cI cZ cL cD σ κ0 κ1 g gd) [.ref (q 0), .int (x), .int (ix), .ref (qo)]) (WrQ (some (.int (nI 1))) D (wL q qo qd cI cZ cL cD σ κ0 κ1 g gd) A) 1 6 A := by
  refine va_MetW (cc := cL_windowAt) (maxL := 5) (ret := (some .int)) (hh := [(0, 10, 13, 13), (0, 10, 17, 21)]) (by decide) rfl ?_
  intro p e s m args below meth c s₁ B hml hv
  obtain ⟨rfl, hP, hKK, hKL, hZ⟩ := hv
  have hx := B.exec
  have hb := B.bytes
  have hr := B.returns
  have htA : ∀ w ∈ WA, w.before _ s = true := fun w h => atoms_spec (ws := (codeL yL_windowAt cL_windowAt 5 (some .int) [(0, 10, 13, 13), (0, 10, 17, 21)])) B.pre w (List.mem_cons_of_mem _ h)
  have hown : s.vm.findClass RL = some m.cls := findClass_of_methodNamed B.named
  have hlocks := B.notSynchronized
  have hS : va_S A s.heap s.heap [] := va_S.rf
  have hl := lv_entry ([.ref (q 0), .int (x), .int (ix), .ref (qo)]) (n := 5) (Nat.le_of_ble_eq_true rfl)
  rw [lg_entry_eq]
  generalize (lg_sl ([.ref (q 0), .int (x), .int (ix), .ref (qo)]) ++ List.replicate (5 - (lg_sl ([.ref (q 0), .int (x), .int (ix), .ref (qo)])).length) Slot.unset).toArray = ls at hl ⊢
  have hl : lv_has ls 5 [(0, .ref (q 0)), (1, .int (x)), (2, .int (ix)), (3, .ref (qo))] := hl
  have hPX : va_P D vwCl (wX q cI cZ σ κ0 κ1) s.heap := hP.sub [2, 3, 4, 5, 6, 7, 8, 9, 10, 11, 12, 13, 14, 15, 16, 17, 18, 19, 20, 21, 22, 23, 24, 25] rfl
  have hDX : va_D A (wX q cI cZ σ κ0 κ1) := hD.sub [2, 3, 4, 5, 6, 7, 8, 9, 10, 11, 12, 13, 14, 15, 16, 17, 18, 19, 20, 21, 22, 23, 24, 25] (by decide) rfl
  refine lv_aload_n hx hb dL_windowAt_0 rfl (lv_at hl 3 rfl) ?_
  refine n_iconst (k := 0) hx hb dL_windowAt_1 (by decide) ?_
  refine lv_aload_n hx hb dL_windowAt_2 rfl (lv_at hl 0 rfl) ?_
  refine lv_iload_n hx hb dL_windowAt_3 rfl (lv_at hl 1 rfl) ?_
  refine lv_iload_n hx hb dL_windowAt_4 rfl (lv_at hl 2 rfl) ?_
  refine thV (As := [.int (x), .int (ix)]) (rest := [.int (nI (0)), .ref (qo)]) (n := 2) ⟨hx, hb, hml, hown, htA⟩ (f_windowAt_bad l D cI cZ sa hst9 q σ κ0 κ1 x ix s.heap hPX hbad) (cwV 2 htA (gdV wd_620 wd_621 wd_622 wd_1 wd_623) rfl rfl rfl (by decide +kernel) ⟨Nat.le_of_ble_eq_true rfl, Nat.le_of_ble_eq_true rfl⟩) hKK hZ hPX 0 rfl rfl rfl hl.1 rfl (Nat.le_of_ble_eq_true rfl) dL_windowAt_5 (Nat.le_of_ble_eq_true rfl) (Nat.le_of_ble_eq_true rfl) (fun H1 ce q9 hz hk hc hv hcl => ?_)
  refine vx_catch (name := "java/lang/IllegalArgumentException") hown [] ⟨0, 10, 13, 13⟩ [⟨0, 10, 17, 21⟩] ((vx_table (x := yL_windowAt) B (htA _ wd_619)).trans rfl) (fun _ h => nomatch h) (by decide) (by decide) (htA _ wd_164) (va_Nw.use rfl (ex_cA hKK.2)) hc hv hcl ?_
  refine lv_astore (lv' := [(4, .ref (q9)), (0, .ref (q 0)), (1, .int (x)), (2, .int (ix)), (3, .ref (qo))]) hx hb dL_windowAt_13 hl (by decide) rfl (fun ls hl => ?_)
  refine n_iconst (k := 1) hx hb dL_windowAt_15 (by decide) ?_
  exact W.iret hx hb hr (fun t ht _ => ⟨rfl, by rw [ht]; exact P_grow hP hk, ⟨by rw [ht]; exact hz, fun a ha _ => by rw [ht]; exact hk a ha⟩⟩) (fun _ h => nomatch h) dL_windowAt_16 hlocks
set_option maxHeartbeats 4000000 in
set_option maxRecDepth 100000 in
theorem w_windowAt_no0 (l : Launch) (D : va_G) (cI cZ cL cD : ClassId) (sa : Nat → Nat) (q : Nat → Nat) (qo qd : Nat) (σ κ0 κ1 : ST) (g : Nat → Int64) (gd : Nat → UInt64) (A : Nat → Prop) (hD : va_D A (wL q qo qd cI cZ cL cD σ κ0 κ1 g gd)) (hst9 : l.stackTraces = false)  (ix : Int32) (hz : hpl κ0 (ix) = false) : Met l yL_windowAt (codeL yL_windowAt cL_windowAt 5 (some .int) [(0, 10, 13, 13), (0, 10, 17, 21)]) ({ frames := 8, cells := 1, slots := 6, locals := 125 } : Room) (LwP D cI cZ cL cD sa (wL q qo qd cI cZ cL cD σ κ0 κ1 g gd) [.ref (q 0), .int (nI (0)), .int (ix), .ref (qo)]) (WrQ (some (.int (nI 2))) D (wL q qo qd cI cZ cL cD σ κ0 κ1 g gd) A) 1 6 A := by
  refine va_MetW (cc := cL_windowAt) (maxL := 5) (ret := (some .int)) (hh := [(0, 10, 13, 13), (0, 10, 17, 21)]) (by decide) rfl ?_
  intro p e s m args below meth c s₁ B hml hv
  obtain ⟨rfl, hP, hKK, hKL, hZ⟩ := hv
  have hx := B.exec
  have hb := B.bytes
  have hr := B.returns
  have htA : ∀ w ∈ WA, w.before _ s = true := fun w h => atoms_spec (ws := (codeL yL_windowAt cL_windowAt 5 (some .int) [(0, 10, 13, 13), (0, 10, 17, 21)])) B.pre w (List.mem_cons_of_mem _ h)
  have hown : s.vm.findClass RL = some m.cls := findClass_of_methodNamed B.named
  have hlocks := B.notSynchronized
  have hS : va_S A s.heap s.heap [] := va_S.rf
  have hl := lv_entry ([.ref (q 0), .int (nI (0)), .int (ix), .ref (qo)]) (n := 5) (Nat.le_of_ble_eq_true rfl)
  rw [lg_entry_eq]
  generalize (lg_sl ([.ref (q 0), .int (nI (0)), .int (ix), .ref (qo)]) ++ List.replicate (5 - (lg_sl ([.ref (q 0), .int (nI (0)), .int (ix), .ref (qo)])).length) Slot.unset).toArray = ls at hl ⊢
  have hl : lv_has ls 5 [(0, .ref (q 0)), (1, .int (nI (0))), (2, .int (ix)), (3, .ref (qo))] := hl
  have hPX : va_P D vwCl (wX q cI cZ σ κ0 κ1) s.heap := hP.sub [2, 3, 4, 5, 6, 7, 8, 9, 10, 11, 12, 13, 14, 15, 16, 17, 18, 19, 20, 21, 22, 23, 24, 25] rfl
  have hDX : va_D A (wX q cI cZ σ κ0 κ1) := hD.sub [2, 3, 4, 5, 6, 7, 8, 9, 10, 11, 12, 13, 14, 15, 16, 17, 18, 19, 20, 21, 22, 23, 24, 25] (by decide) rfl
  refine lv_aload_n hx hb dL_windowAt_0 rfl (lv_at hl 3 rfl) ?_
  refine n_iconst (k := 0) hx hb dL_windowAt_1 (by decide) ?_
  refine lv_aload_n hx hb dL_windowAt_2 rfl (lv_at hl 0 rfl) ?_
  refine lv_iload_n hx hb dL_windowAt_3 rfl (lv_at hl 1 rfl) ?_
  refine lv_iload_n hx hb dL_windowAt_4 rfl (lv_at hl 2 rfl) ?_
  refine thV (As := [.int (nI (0)), .int (ix)]) (rest := [.int (nI (0)), .ref (qo)]) (n := 2) ⟨hx, hb, hml, hown, htA⟩ (f_windowAt_no0 l D cI cZ sa hst9 q σ κ0 κ1 ix s.heap hPX hz) (cwV 2 htA (gdV wd_620 wd_621 wd_622 wd_1 wd_623) rfl rfl rfl (by decide +kernel) ⟨Nat.le_of_ble_eq_true rfl, Nat.le_of_ble_eq_true rfl⟩) hKK hZ hPX 0 rfl rfl rfl hl.1 rfl (Nat.le_of_ble_eq_true rfl) dL_windowAt_5 (Nat.le_of_ble_eq_true rfl) (Nat.le_of_ble_eq_true rfl) (fun H1 ce q9 hz hk hc hv hcl => ?_)
  refine vx_catch (name := "java/lang/IndexOutOfBoundsException") hown [⟨0, 10, 13, 13⟩] ⟨0, 10, 17, 21⟩ [] ((vx_table (x := yL_windowAt) B (htA _ wd_619)).trans rfl) (List.forall_mem_cons.mpr ⟨Or.inr ⟨by decide, "java/lang/IllegalArgumentException", htA _ wd_164, ex_nIA hKK.2⟩, (fun _ h => nomatch h)⟩) (by decide) (by decide) (htA _ wd_296) (va_Nw.use rfl (ex_cI hKK.2)) hc hv hcl ?_
  refine lv_astore (lv' := [(4, .ref (q9)), (0, .ref (q 0)), (1, .int (nI (0))), (2, .int (ix)), (3, .ref (qo))]) hx hb dL_windowAt_17 hl (by decide) rfl (fun ls hl => ?_)
  refine n_iconst (k := 2) hx hb dL_windowAt_19 (by decide) ?_
  exact W.iret hx hb hr (fun t ht _ => ⟨rfl, by rw [ht]; exact P_grow hP hk, ⟨by rw [ht]; exact hz, fun a ha _ => by rw [ht]; exact hk a ha⟩⟩) (fun _ h => nomatch h) dL_windowAt_20 hlocks
set_option maxHeartbeats 4000000 in
set_option maxRecDepth 100000 in
theorem w_windowAt_ok0 (l : Launch) (D : va_G) (cI cZ cL cD : ClassId) (sa : Nat → Nat) (q : Nat → Nat) (qo qd : Nat) (σ κ0 κ1 : ST) (g : Nat → Int64) (gd : Nat → UInt64) (A : Nat → Prop) (hD : va_D A (wL q qo qd cI cZ cL cD σ κ0 κ1 g gd))  (j : Nat) (hj : j < κ0 0 4) (h10 : κ0 0 4 ≤ 10) : Met l yL_windowAt (codeL yL_windowAt cL_windowAt 5 (some .int) [(0, 10, 13, 13), (0, 10, 17, 21)]) ({ frames := 8, cells := 1, slots := 6, locals := 125 } : Room) (LwP D cI cZ cL cD sa (wL q qo qd cI cZ cL cD σ κ0 κ1 g gd) [.ref (q 0), .int (nI (0)), .int (nI (j)), .ref (qo)]) (WrQ (some (.int (nI 0))) D (wL q qo qd cI cZ cL cD σ κ0 κ1 (gu g ((nI (κ0 1 j)).toInt64)) gd) A) 1 6 A := by
  refine va_MetW (cc := cL_windowAt) (maxL := 5) (ret := (some .int)) (hh := [(0, 10, 13, 13), (0, 10, 17, 21)]) (by decide) rfl ?_
  intro p e s m args below meth c s₁ B hml hv
  obtain ⟨rfl, hP, hKK, hKL, hZ⟩ := hv
  have hx := B.exec
  have hb := B.bytes
  have hr := B.returns
  have htA : ∀ w ∈ WA, w.before _ s = true := fun w h => atoms_spec (ws := (codeL yL_windowAt cL_windowAt 5 (some .int) [(0, 10, 13, 13), (0, 10, 17, 21)])) B.pre w (List.mem_cons_of_mem _ h)
  have hown : s.vm.findClass RL = some m.cls := findClass_of_methodNamed B.named
  have hlocks := B.notSynchronized
  have hS : va_S A s.heap s.heap [] := va_S.rf
  have hl := lv_entry ([.ref (q 0), .int (nI (0)), .int (nI (j)), .ref (qo)]) (n := 5) (Nat.le_of_ble_eq_true rfl)
  rw [lg_entry_eq]
  generalize (lg_sl ([.ref (q 0), .int (nI (0)), .int (nI (j)), .ref (qo)]) ++ List.replicate (5 - (lg_sl ([.ref (q 0), .int (nI (0)), .int (nI (j)), .ref (qo)])).length) Slot.unset).toArray = ls at hl ⊢
  have hl : lv_has ls 5 [(0, .ref (q 0)), (1, .int (nI (0))), (2, .int (nI (j))), (3, .ref (qo))] := hl
  have hPX : va_P D vwCl (wX q cI cZ σ κ0 κ1) s.heap := hP.sub [2, 3, 4, 5, 6, 7, 8, 9, 10, 11, 12, 13, 14, 15, 16, 17, 18, 19, 20, 21, 22, 23, 24, 25] rfl
  have hDX : va_D A (wX q cI cZ σ κ0 κ1) := hD.sub [2, 3, 4, 5, 6, 7, 8, 9, 10, 11, 12, 13, 14, 15, 16, 17, 18, 19, 20, 21, 22, 23, 24, 25] (by decide) rfl
  refine lv_aload_n hx hb dL_windowAt_0 rfl (lv_at hl 3 rfl) ?_
  refine n_iconst (k := 0) hx hb dL_windowAt_1 (by decide) ?_
  refine lv_aload_n hx hb dL_windowAt_2 rfl (lv_at hl 0 rfl) ?_
  refine lv_iload_n hx hb dL_windowAt_3 rfl (lv_at hl 1 rfl) ?_
  refine lv_iload_n hx hb dL_windowAt_4 rfl (lv_at hl 2 rfl) ?_
  refine roV1 (v := .int (nI (κ0 1 j))) (As := [.int (nI (0)), .int (nI (j))]) (rest := [.int (nI (0)), .ref (qo)]) (n := 2) ⟨hx, hb, hml, hown, htA⟩ (f_windowAt_ok0 l D cI cZ sa q σ κ0 κ1 j s.heap hPX hj h10) (cwV 2 htA (gdV wd_620 wd_621 wd_622 wd_1 wd_623) rfl rfl rfl (by decide +kernel) ⟨Nat.le_of_ble_eq_true rfl, Nat.le_of_ble_eq_true rfl⟩) hKK hPX 0 rfl rfl rfl hl.1 rfl (Nat.le_of_ble_eq_true rfl) dL_windowAt_5 (Nat.zero_le _) (Nat.zero_le _) ?_
  refine lv_i2l hx hb dL_windowAt_8 rfl ?_
  refine va_last hx hb hKL hP (D_addr hD rfl) hS 0 0 rfl rfl (vp_in_nI (n := 0) (N := 1) (by decide) (by decide)) dL_windowAt_9 (fun H locs hP _ hS => ?_)
  have hP : va_P D vwCl (wL q qo qd cI cZ cL cD σ κ0 κ1 (gu g ((nI (κ0 1 j)).toInt64)) gd) H := hP
  refine lv_goto (tgt := 21) hx hb dL_windowAt_10 (by decide) ?_
  refine n_iconst (k := 0) hx hb dL_windowAt_21 (by decide) ?_
  refine W.widen (k := 1) (n := 6) (by decide) (by decide) ?_
  exact W.iret hx hb hr (fun t ht _ => ⟨rfl, by rw [ht]; exact hP, hS.F ht⟩) hS.2.2 dL_windowAt_22 hlocks
set_option maxHeartbeats 4000000 in
set_option maxRecDepth 100000 in
theorem w_windowAt_no1 (l : Launch) (D : va_G) (cI cZ cL cD : ClassId) (sa : Nat → Nat) (q : Nat → Nat) (qo qd : Nat) (σ κ0 κ1 : ST) (g : Nat → Int64) (gd : Nat → UInt64) (A : Nat → Prop) (hD : va_D A (wL q qo qd cI cZ cL cD σ κ0 κ1 g gd)) (hst9 : l.stackTraces = false)  (ix : Int32) (hz : hpl κ1 (ix) = false) : Met l yL_windowAt (codeL yL_windowAt cL_windowAt 5 (some .int) [(0, 10, 13, 13), (0, 10, 17, 21)]) ({ frames := 8, cells := 1, slots := 6, locals := 125 } : Room) (LwP D cI cZ cL cD sa (wL q qo qd cI cZ cL cD σ κ0 κ1 g gd) [.ref (q 0), .int (nI (1)), .int (ix), .ref (qo)]) (WrQ (some (.int (nI 2))) D (wL q qo qd cI cZ cL cD σ κ0 κ1 g gd) A) 1 6 A := by
  refine va_MetW (cc := cL_windowAt) (maxL := 5) (ret := (some .int)) (hh := [(0, 10, 13, 13), (0, 10, 17, 21)]) (by decide) rfl ?_
  intro p e s m args below meth c s₁ B hml hv
  obtain ⟨rfl, hP, hKK, hKL, hZ⟩ := hv
  have hx := B.exec
  have hb := B.bytes
  have hr := B.returns
  have htA : ∀ w ∈ WA, w.before _ s = true := fun w h => atoms_spec (ws := (codeL yL_windowAt cL_windowAt 5 (some .int) [(0, 10, 13, 13), (0, 10, 17, 21)])) B.pre w (List.mem_cons_of_mem _ h)
  have hown : s.vm.findClass RL = some m.cls := findClass_of_methodNamed B.named
  have hlocks := B.notSynchronized
  have hS : va_S A s.heap s.heap [] := va_S.rf
  have hl := lv_entry ([.ref (q 0), .int (nI (1)), .int (ix), .ref (qo)]) (n := 5) (Nat.le_of_ble_eq_true rfl)
  rw [lg_entry_eq]
  generalize (lg_sl ([.ref (q 0), .int (nI (1)), .int (ix), .ref (qo)]) ++ List.replicate (5 - (lg_sl ([.ref (q 0), .int (nI (1)), .int (ix), .ref (qo)])).length) Slot.unset).toArray = ls at hl ⊢
  have hl : lv_has ls 5 [(0, .ref (q 0)), (1, .int (nI (1))), (2, .int (ix)), (3, .ref (qo))] := hl
  have hPX : va_P D vwCl (wX q cI cZ σ κ0 κ1) s.heap := hP.sub [2, 3, 4, 5, 6, 7, 8, 9, 10, 11, 12, 13, 14, 15, 16, 17, 18, 19, 20, 21, 22, 23, 24, 25] rfl
  have hDX : va_D A (wX q cI cZ σ κ0 κ1) := hD.sub [2, 3, 4, 5, 6, 7, 8, 9, 10, 11, 12, 13, 14, 15, 16, 17, 18, 19, 20, 21, 22, 23, 24, 25] (by decide) rfl
  refine lv_aload_n hx hb dL_windowAt_0 rfl (lv_at hl 3 rfl) ?_
  refine n_iconst (k := 0) hx hb dL_windowAt_1 (by decide) ?_
  refine lv_aload_n hx hb dL_windowAt_2 rfl (lv_at hl 0 rfl) ?_
  refine lv_iload_n hx hb dL_windowAt_3 rfl (lv_at hl 1 rfl) ?_
  refine lv_iload_n hx hb dL_windowAt_4 rfl (lv_at hl 2 rfl) ?_
  refine thV (As := [.int (nI (1)), .int (ix)]) (rest := [.int (nI (0)), .ref (qo)]) (n := 2) ⟨hx, hb, hml, hown, htA⟩ (f_windowAt_no1 l D cI cZ sa hst9 q σ κ0 κ1 ix s.heap hPX hz) (cwV 2 htA (gdV wd_620 wd_621 wd_622 wd_1 wd_623) rfl rfl rfl (by decide +kernel) ⟨Nat.le_of_ble_eq_true rfl, Nat.le_of_ble_eq_true rfl⟩) hKK hZ hPX 0 rfl rfl rfl hl.1 rfl (Nat.le_of_ble_eq_true rfl) dL_windowAt_5 (Nat.le_of_ble_eq_true rfl) (Nat.le_of_ble_eq_true rfl) (fun H1 ce q9 hz hk hc hv hcl => ?_)
  refine vx_catch (name := "java/lang/IndexOutOfBoundsException") hown [⟨0, 10, 13, 13⟩] ⟨0, 10, 17, 21⟩ [] ((vx_table (x := yL_windowAt) B (htA _ wd_619)).trans rfl) (List.forall_mem_cons.mpr ⟨Or.inr ⟨by decide, "java/lang/IllegalArgumentException", htA _ wd_164, ex_nIA hKK.2⟩, (fun _ h => nomatch h)⟩) (by decide) (by decide) (htA _ wd_296) (va_Nw.use rfl (ex_cI hKK.2)) hc hv hcl ?_
  refine lv_astore (lv' := [(4, .ref (q9)), (0, .ref (q 0)), (1, .int (nI (1))), (2, .int (ix)), (3, .ref (qo))]) hx hb dL_windowAt_17 hl (by decide) rfl (fun ls hl => ?_)
  refine n_iconst (k := 2) hx hb dL_windowAt_19 (by decide) ?_
  exact W.iret hx hb hr (fun t ht _ => ⟨rfl, by rw [ht]; exact P_grow hP hk, ⟨by rw [ht]; exact hz, fun a ha _ => by rw [ht]; exact hk a ha⟩⟩) (fun _ h => nomatch h) dL_windowAt_20 hlocks
set_option maxHeartbeats 4000000 in
set_option maxRecDepth 100000 in
theorem w_windowAt_ok1 (l : Launch) (D : va_G) (cI cZ cL cD : ClassId) (sa : Nat → Nat) (q : Nat → Nat) (qo qd : Nat) (σ κ0 κ1 : ST) (g : Nat → Int64) (gd : Nat → UInt64) (A : Nat → Prop) (hD : va_D A (wL q qo qd cI cZ cL cD σ κ0 κ1 g gd))  (j : Nat) (hj : j < κ1 0 4) (h10 : κ1 0 4 ≤ 10) : Met l yL_windowAt (codeL yL_windowAt cL_windowAt 5 (some .int) [(0, 10, 13, 13), (0, 10, 17, 21)]) ({ frames := 8, cells := 1, slots := 6, locals := 125 } : Room) (LwP D cI cZ cL cD sa (wL q qo qd cI cZ cL cD σ κ0 κ1 g gd) [.ref (q 0), .int (nI (1)), .int (nI (j)), .ref (qo)]) (WrQ (some (.int (nI 0))) D (wL q qo qd cI cZ cL cD σ κ0 κ1 (gu g ((nI (κ1 1 j)).toInt64)) gd) A) 1 6 A := by
  refine va_MetW (cc := cL_windowAt) (maxL := 5) (ret := (some .int)) (hh := [(0, 10, 13, 13), (0, 10, 17, 21)]) (by decide) rfl ?_
  intro p e s m args below meth c s₁ B hml hv
  obtain ⟨rfl, hP, hKK, hKL, hZ⟩ := hv
  have hx := B.exec
  have hb := B.bytes
  have hr := B.returns
  have htA : ∀ w ∈ WA, w.before _ s = true := fun w h => atoms_spec (ws := (codeL yL_windowAt cL_windowAt 5 (some .int) [(0, 10, 13, 13), (0, 10, 17, 21)])) B.pre w (List.mem_cons_of_mem _ h)
  have hown : s.vm.findClass RL = some m.cls := findClass_of_methodNamed B.named
  have hlocks := B.notSynchronized
  have hS : va_S A s.heap s.heap [] := va_S.rf
  have hl := lv_entry ([.ref (q 0), .int (nI (1)), .int (nI (j)), .ref (qo)]) (n := 5) (Nat.le_of_ble_eq_true rfl)
  rw [lg_entry_eq]
  generalize (lg_sl ([.ref (q 0), .int (nI (1)), .int (nI (j)), .ref (qo)]) ++ List.replicate (5 - (lg_sl ([.ref (q 0), .int (nI (1)), .int (nI (j)), .ref (qo)])).length) Slot.unset).toArray = ls at hl ⊢
  have hl : lv_has ls 5 [(0, .ref (q 0)), (1, .int (nI (1))), (2, .int (nI (j))), (3, .ref (qo))] := hl
  have hPX : va_P D vwCl (wX q cI cZ σ κ0 κ1) s.heap := hP.sub [2, 3, 4, 5, 6, 7, 8, 9, 10, 11, 12, 13, 14, 15, 16, 17, 18, 19, 20, 21, 22, 23, 24, 25] rfl
  have hDX : va_D A (wX q cI cZ σ κ0 κ1) := hD.sub [2, 3, 4, 5, 6, 7, 8, 9, 10, 11, 12, 13, 14, 15, 16, 17, 18, 19, 20, 21, 22, 23, 24, 25] (by decide) rfl
  refine lv_aload_n hx hb dL_windowAt_0 rfl (lv_at hl 3 rfl) ?_
  refine n_iconst (k := 0) hx hb dL_windowAt_1 (by decide) ?_
  refine lv_aload_n hx hb dL_windowAt_2 rfl (lv_at hl 0 rfl) ?_
  refine lv_iload_n hx hb dL_windowAt_3 rfl (lv_at hl 1 rfl) ?_
  refine lv_iload_n hx hb dL_windowAt_4 rfl (lv_at hl 2 rfl) ?_
  refine roV1 (v := .int (nI (κ1 1 j))) (As := [.int (nI (1)), .int (nI (j))]) (rest := [.int (nI (0)), .ref (qo)]) (n := 2) ⟨hx, hb, hml, hown, htA⟩ (f_windowAt_ok1 l D cI cZ sa q σ κ0 κ1 j s.heap hPX hj h10) (cwV 2 htA (gdV wd_620 wd_621 wd_622 wd_1 wd_623) rfl rfl rfl (by decide +kernel) ⟨Nat.le_of_ble_eq_true rfl, Nat.le_of_ble_eq_true rfl⟩) hKK hPX 0 rfl rfl rfl hl.1 rfl (Nat.le_of_ble_eq_true rfl) dL_windowAt_5 (Nat.zero_le _) (Nat.zero_le _) ?_
  refine lv_i2l hx hb dL_windowAt_8 rfl ?_
  refine va_last hx hb hKL hP (D_addr hD rfl) hS 0 0 rfl rfl (vp_in_nI (n := 0) (N := 1) (by decide) (by decide)) dL_windowAt_9 (fun H locs hP _ hS => ?_)
  have hP : va_P D vwCl (wL q qo qd cI cZ cL cD σ κ0 κ1 (gu g ((nI (κ1 1 j)).toInt64)) gd) H := hP
  refine lv_goto (tgt := 21) hx hb dL_windowAt_10 (by decide) ?_
  refine n_iconst (k := 0) hx hb dL_windowAt_21 (by decide) ?_
  refine W.widen (k := 1) (n := 6) (by decide) (by decide) ?_
  exact W.iret hx hb hr (fun t ht _ => ⟨rfl, by rw [ht]; exact hP, hS.F ht⟩) hS.2.2 dL_windowAt_22 hlocks
set_option maxHeartbeats 4000000 in
set_option maxRecDepth 100000 in
theorem w_known_bad (l : Launch) (D : va_G) (cI cZ cL cD : ClassId) (sa : Nat → Nat) (q : Nat → Nat) (qo qd : Nat) (σ κ0 κ1 : ST) (g : Nat → Int64) (gd : Nat → UInt64) (A : Nat → Prop) (hD : va_D A (wL q qo qd cI cZ cL cD σ κ0 κ1 g gd)) (hst9 : l.stackTraces = false)  (x ix : Int32) (hbad : iw (x) (nI (0)) (nI (1)) = false) : Met l yL_known (codeL yL_known cL_known 5 (some .int) [(0, 10, 13, 13), (0, 10, 17, 21)]) ({ frames := 8, cells := 1, slots := 6, locals := 125 } : Room) (LwP D cI cZ cL cD sa (wL q qo qd cI cZ cL cD σ κ0 κ1 g gd) [.ref (q 0), .int (x), .int (ix), .ref (qo)]) (WrQ (some (.int (nI 1))) D (wL q qo qd cI cZ cL cD σ κ0 κ1 g gd) A) 1 6 A := by
  refine va_MetW (cc := cL_known) (maxL := 5) (ret := (some .int)) (hh := [(0, 10, 13, 13), (0, 10, 17, 21)]) (by decide) rfl ?_
  intro p e s m args below meth c s₁ B hml hv
  obtain ⟨rfl, hP, hKK, hKL, hZ⟩ := hv
  have hx := B.exec
  have hb := B.bytes
  have hr := B.returns
  have htA : ∀ w ∈ WA, w.before _ s = true := fun w h => atoms_spec (ws := (codeL yL_known cL_known 5 (some .int) [(0, 10, 13, 13), (0, 10, 17, 21)])) B.pre w (List.mem_cons_of_mem _ h)
  have hown : s.vm.findClass RL = some m.cls := findClass_of_methodNamed B.named
  have hlocks := B.notSynchronized
  have hS : va_S A s.heap s.heap [] := va_S.rf
  have hl := lv_entry ([.ref (q 0), .int (x), .int (ix), .ref (qo)]) (n := 5) (Nat.le_of_ble_eq_true rfl)
  rw [lg_entry_eq]
  generalize (lg_sl ([.ref (q 0), .int (x), .int (ix), .ref (qo)]) ++ List.replicate (5 - (lg_sl ([.ref (q 0), .int (x), .int (ix), .ref (qo)])).length) Slot.unset).toArray = ls at hl ⊢
  have hl : lv_has ls 5 [(0, .ref (q 0)), (1, .int (x)), (2, .int (ix)), (3, .ref (qo))] := hl
  have hPX : va_P D vwCl (wX q cI cZ σ κ0 κ1) s.heap := hP.sub [2, 3, 4, 5, 6, 7, 8, 9, 10, 11, 12, 13, 14, 15, 16, 17, 18, 19, 20, 21, 22, 23, 24, 25] rfl
  have hDX : va_D A (wX q cI cZ σ κ0 κ1) := hD.sub [2, 3, 4, 5, 6, 7, 8, 9, 10, 11, 12, 13, 14, 15, 16, 17, 18, 19, 20, 21, 22, 23, 24, 25] (by decide) rfl
  refine lv_aload_n hx hb dL_known_0 rfl (lv_at hl 3 rfl) ?_
  refine n_iconst (k := 0) hx hb dL_known_1 (by decide) ?_
  refine lv_aload_n hx hb dL_known_2 rfl (lv_at hl 0 rfl) ?_
  refine lv_iload_n hx hb dL_known_3 rfl (lv_at hl 1 rfl) ?_
  refine lv_iload_n hx hb dL_known_4 rfl (lv_at hl 2 rfl) ?_
  refine thV (As := [.int (x), .int (ix)]) (rest := [.int (nI (0)), .ref (qo)]) (n := 2) ⟨hx, hb, hml, hown, htA⟩ (f_known_bad l D cI cZ sa hst9 q σ κ0 κ1 x ix s.heap hPX hbad) (cwV 2 htA (gdV wd_628 wd_629 wd_630 wd_1 wd_631) rfl rfl rfl (by decide +kernel) ⟨Nat.le_of_ble_eq_true rfl, Nat.le_of_ble_eq_true rfl⟩) hKK hZ hPX 0 rfl rfl rfl hl.1 rfl (Nat.le_of_ble_eq_true rfl) dL_known_5 (Nat.le_of_ble_eq_true rfl) (Nat.le_of_ble_eq_true rfl) (fun H1 ce q9 hz hk hc hv hcl => ?_)
  refine vx_catch (name := "java/lang/IllegalArgumentException") hown [] ⟨0, 10, 13, 13⟩ [⟨0, 10, 17, 21⟩] ((vx_table (x := yL_known) B (htA _ wd_627)).trans rfl) (fun _ h => nomatch h) (by decide) (by decide) (htA _ wd_164) (va_Nw.use rfl (ex_cA hKK.2)) hc hv hcl ?_
  refine lv_astore (lv' := [(4, .ref (q9)), (0, .ref (q 0)), (1, .int (x)), (2, .int (ix)), (3, .ref (qo))]) hx hb dL_known_13 hl (by decide) rfl (fun ls hl => ?_)
  refine n_iconst (k := 1) hx hb dL_known_15 (by decide) ?_
  exact W.iret hx hb hr (fun t ht _ => ⟨rfl, by rw [ht]; exact P_grow hP hk, ⟨by rw [ht]; exact hz, fun a ha _ => by rw [ht]; exact hk a ha⟩⟩) (fun _ h => nomatch h) dL_known_16 hlocks
set_option maxHeartbeats 4000000 in
set_option maxRecDepth 100000 in
theorem w_known_no0 (l : Launch) (D : va_G) (cI cZ cL cD : ClassId) (sa : Nat → Nat) (q : Nat → Nat) (qo qd : Nat) (σ κ0 κ1 : ST) (g : Nat → Int64) (gd : Nat → UInt64) (A : Nat → Prop) (hD : va_D A (wL q qo qd cI cZ cL cD σ κ0 κ1 g gd)) (hst9 : l.stackTraces = false)  (ix : Int32) (hz : hpl κ0 (ix) = false) : Met l yL_known (codeL yL_known cL_known 5 (some .int) [(0, 10, 13, 13), (0, 10, 17, 21)]) ({ frames := 8, cells := 1, slots := 6, locals := 125 } : Room) (LwP D cI cZ cL cD sa (wL q qo qd cI cZ cL cD σ κ0 κ1 g gd) [.ref (q 0), .int (nI (0)), .int (ix), .ref (qo)]) (WrQ (some (.int (nI 2))) D (wL q qo qd cI cZ cL cD σ κ0 κ1 g gd) A) 1 6 A := by
  refine va_MetW (cc := cL_known) (maxL := 5) (ret := (some .int)) (hh := [(0, 10, 13, 13), (0, 10, 17, 21)]) (by decide) rfl ?_
  intro p e s m args below meth c s₁ B hml hv
  obtain ⟨rfl, hP, hKK, hKL, hZ⟩ := hv
  have hx := B.exec
  have hb := B.bytes
  have hr := B.returns
  have htA : ∀ w ∈ WA, w.before _ s = true := fun w h => atoms_spec (ws := (codeL yL_known cL_known 5 (some .int) [(0, 10, 13, 13), (0, 10, 17, 21)])) B.pre w (List.mem_cons_of_mem _ h)
  have hown : s.vm.findClass RL = some m.cls := findClass_of_methodNamed B.named
  have hlocks := B.notSynchronized
  have hS : va_S A s.heap s.heap [] := va_S.rf
  have hl := lv_entry ([.ref (q 0), .int (nI (0)), .int (ix), .ref (qo)]) (n := 5) (Nat.le_of_ble_eq_true rfl)
  rw [lg_entry_eq]
  generalize (lg_sl ([.ref (q 0), .int (nI (0)), .int (ix), .ref (qo)]) ++ List.replicate (5 - (lg_sl ([.ref (q 0), .int (nI (0)), .int (ix), .ref (qo)])).length) Slot.unset).toArray = ls at hl ⊢
  have hl : lv_has ls 5 [(0, .ref (q 0)), (1, .int (nI (0))), (2, .int (ix)), (3, .ref (qo))] := hl
  have hPX : va_P D vwCl (wX q cI cZ σ κ0 κ1) s.heap := hP.sub [2, 3, 4, 5, 6, 7, 8, 9, 10, 11, 12, 13, 14, 15, 16, 17, 18, 19, 20, 21, 22, 23, 24, 25] rfl
  have hDX : va_D A (wX q cI cZ σ κ0 κ1) := hD.sub [2, 3, 4, 5, 6, 7, 8, 9, 10, 11, 12, 13, 14, 15, 16, 17, 18, 19, 20, 21, 22, 23, 24, 25] (by decide) rfl
  refine lv_aload_n hx hb dL_known_0 rfl (lv_at hl 3 rfl) ?_
  refine n_iconst (k := 0) hx hb dL_known_1 (by decide) ?_
  refine lv_aload_n hx hb dL_known_2 rfl (lv_at hl 0 rfl) ?_
  refine lv_iload_n hx hb dL_known_3 rfl (lv_at hl 1 rfl) ?_
  refine lv_iload_n hx hb dL_known_4 rfl (lv_at hl 2 rfl) ?_
  refine thV (As := [.int (nI (0)), .int (ix)]) (rest := [.int (nI (0)), .ref (qo)]) (n := 2) ⟨hx, hb, hml, hown, htA⟩ (f_known_no0 l D cI cZ sa hst9 q σ κ0 κ1 ix s.heap hPX hz) (cwV 2 htA (gdV wd_628 wd_629 wd_630 wd_1 wd_631) rfl rfl rfl (by decide +kernel) ⟨Nat.le_of_ble_eq_true rfl, Nat.le_of_ble_eq_true rfl⟩) hKK hZ hPX 0 rfl rfl rfl hl.1 rfl (Nat.le_of_ble_eq_true rfl) dL_known_5 (Nat.le_of_ble_eq_true rfl) (Nat.le_of_ble_eq_true rfl) (fun H1 ce q9 hz hk hc hv hcl => ?_)
  refine vx_catch (name := "java/lang/IndexOutOfBoundsException") hown [⟨0, 10, 13, 13⟩] ⟨0, 10, 17, 21⟩ [] ((vx_table (x := yL_known) B (htA _ wd_627)).trans rfl) (List.forall_mem_cons.mpr ⟨Or.inr ⟨by decide, "java/lang/IllegalArgumentException", htA _ wd_164, ex_nIA hKK.2⟩, (fun _ h => nomatch h)⟩) (by decide) (by decide) (htA _ wd_296) (va_Nw.use rfl (ex_cI hKK.2)) hc hv hcl ?_
  refine lv_astore (lv' := [(4, .ref (q9)), (0, .ref (q 0)), (1, .int (nI (0))), (2, .int (ix)), (3, .ref (qo))]) hx hb dL_known_17 hl (by decide) rfl (fun ls hl => ?_)
  refine n_iconst (k := 2) hx hb dL_known_19 (by decide) ?_
  exact W.iret hx hb hr (fun t ht _ => ⟨rfl, by rw [ht]; exact P_grow hP hk, ⟨by rw [ht]; exact hz, fun a ha _ => by rw [ht]; exact hk a ha⟩⟩) (fun _ h => nomatch h) dL_known_20 hlocks
set_option maxHeartbeats 4000000 in
set_option maxRecDepth 100000 in
theorem w_known_ok0 (l : Launch) (D : va_G) (cI cZ cL cD : ClassId) (sa : Nat → Nat) (q : Nat → Nat) (qo qd : Nat) (σ κ0 κ1 : ST) (g : Nat → Int64) (gd : Nat → UInt64) (A : Nat → Prop) (hD : va_D A (wL q qo qd cI cZ cL cD σ κ0 κ1 g gd))  (j : Nat) (hj : j < κ0 0 4) (h10 : κ0 0 4 ≤ 10) : Met l yL_known (codeL yL_known cL_known 5 (some .int) [(0, 10, 13, 13), (0, 10, 17, 21)]) ({ frames := 8, cells := 1, slots := 6, locals := 125 } : Room) (LwP D cI cZ cL cD sa (wL q qo qd cI cZ cL cD σ κ0 κ1 g gd) [.ref (q 0), .int (nI (0)), .int (nI (j)), .ref (qo)]) (WrQ (some (.int (nI 0))) D (wL q qo qd cI cZ cL cD σ κ0 κ1 (gu g ((nI (κ0 2 j)).toInt64)) gd) A) 1 6 A := by
  refine va_MetW (cc := cL_known) (maxL := 5) (ret := (some .int)) (hh := [(0, 10, 13, 13), (0, 10, 17, 21)]) (by decide) rfl ?_
  intro p e s m args below meth c s₁ B hml hv
  obtain ⟨rfl, hP, hKK, hKL, hZ⟩ := hv
  have hx := B.exec
  have hb := B.bytes
  have hr := B.returns
  have htA : ∀ w ∈ WA, w.before _ s = true := fun w h => atoms_spec (ws := (codeL yL_known cL_known 5 (some .int) [(0, 10, 13, 13), (0, 10, 17, 21)])) B.pre w (List.mem_cons_of_mem _ h)
  have hown : s.vm.findClass RL = some m.cls := findClass_of_methodNamed B.named
  have hlocks := B.notSynchronized
  have hS : va_S A s.heap s.heap [] := va_S.rf
  have hl := lv_entry ([.ref (q 0), .int (nI (0)), .int (nI (j)), .ref (qo)]) (n := 5) (Nat.le_of_ble_eq_true rfl)
  rw [lg_entry_eq]
  generalize (lg_sl ([.ref (q 0), .int (nI (0)), .int (nI (j)), .ref (qo)]) ++ List.replicate (5 - (lg_sl ([.ref (q 0), .int (nI (0)), .int (nI (j)), .ref (qo)])).length) Slot.unset).toArray = ls at hl ⊢
  have hl : lv_has ls 5 [(0, .ref (q 0)), (1, .int (nI (0))), (2, .int (nI (j))), (3, .ref (qo))] := hl
  have hPX : va_P D vwCl (wX q cI cZ σ κ0 κ1) s.heap := hP.sub [2, 3, 4, 5, 6, 7, 8, 9, 10, 11, 12, 13, 14, 15, 16, 17, 18, 19, 20, 21, 22, 23, 24, 25] rfl
  have hDX : va_D A (wX q cI cZ σ κ0 κ1) := hD.sub [2, 3, 4, 5, 6, 7, 8, 9, 10, 11, 12, 13, 14, 15, 16, 17, 18, 19, 20, 21, 22, 23, 24, 25] (by decide) rfl
  refine lv_aload_n hx hb dL_known_0 rfl (lv_at hl 3 rfl) ?_
  refine n_iconst (k := 0) hx hb dL_known_1 (by decide) ?_
  refine lv_aload_n hx hb dL_known_2 rfl (lv_at hl 0 rfl) ?_
  refine lv_iload_n hx hb dL_known_3 rfl (lv_at hl 1 rfl) ?_
  refine lv_iload_n hx hb dL_known_4 rfl (lv_at hl 2 rfl) ?_
  refine roV1 (v := .int (nI (κ0 2 j))) (As := [.int (nI (0)), .int (nI (j))]) (rest := [.int (nI (0)), .ref (qo)]) (n := 2) ⟨hx, hb, hml, hown, htA⟩ (f_known_ok0 l D cI cZ sa q σ κ0 κ1 j s.heap hPX hj h10) (cwV 2 htA (gdV wd_628 wd_629 wd_630 wd_1 wd_631) rfl rfl rfl (by decide +kernel) ⟨Nat.le_of_ble_eq_true rfl, Nat.le_of_ble_eq_true rfl⟩) hKK hPX 0 rfl rfl rfl hl.1 rfl (Nat.le_of_ble_eq_true rfl) dL_known_5 (Nat.zero_le _) (Nat.zero_le _) ?_
  refine lv_i2l hx hb dL_known_8 rfl ?_
  refine va_last hx hb hKL hP (D_addr hD rfl) hS 0 0 rfl rfl (vp_in_nI (n := 0) (N := 1) (by decide) (by decide)) dL_known_9 (fun H locs hP _ hS => ?_)
  have hP : va_P D vwCl (wL q qo qd cI cZ cL cD σ κ0 κ1 (gu g ((nI (κ0 2 j)).toInt64)) gd) H := hP
  refine lv_goto (tgt := 21) hx hb dL_known_10 (by decide) ?_
  refine n_iconst (k := 0) hx hb dL_known_21 (by decide) ?_
  refine W.widen (k := 1) (n := 6) (by decide) (by decide) ?_
  exact W.iret hx hb hr (fun t ht _ => ⟨rfl, by rw [ht]; exact hP, hS.F ht⟩) hS.2.2 dL_known_22 hlocks
set_option maxHeartbeats 4000000 in
set_option maxRecDepth 100000 in
theorem w_known_no1 (l : Launch) (D : va_G) (cI cZ cL cD : ClassId) (sa : Nat → Nat) (q : Nat → Nat) (qo qd : Nat) (σ κ0 κ1 : ST) (g : Nat → Int64) (gd : Nat → UInt64) (A : Nat → Prop) (hD : va_D A (wL q qo qd cI cZ cL cD σ κ0 κ1 g gd)) (hst9 : l.stackTraces = false)  (ix : Int32) (hz : hpl κ1 (ix) = false) : Met l yL_known (codeL yL_known cL_known 5 (some .int) [(0, 10, 13, 13), (0, 10, 17, 21)]) ({ frames := 8, cells := 1, slots := 6, locals := 125 } : Room) (LwP D cI cZ cL cD sa (wL q qo qd cI cZ cL cD σ κ0 κ1 g gd) [.ref (q 0), .int (nI (1)), .int (ix), .ref (qo)]) (WrQ (some (.int (nI 2))) D (wL q qo qd cI cZ cL cD σ κ0 κ1 g gd) A) 1 6 A := by
  refine va_MetW (cc := cL_known) (maxL := 5) (ret := (some .int)) (hh := [(0, 10, 13, 13), (0, 10, 17, 21)]) (by decide) rfl ?_
  intro p e s m args below meth c s₁ B hml hv
  obtain ⟨rfl, hP, hKK, hKL, hZ⟩ := hv
  have hx := B.exec
  have hb := B.bytes
  have hr := B.returns
  have htA : ∀ w ∈ WA, w.before _ s = true := fun w h => atoms_spec (ws := (codeL yL_known cL_known 5 (some .int) [(0, 10, 13, 13), (0, 10, 17, 21)])) B.pre w (List.mem_cons_of_mem _ h)
  have hown : s.vm.findClass RL = some m.cls := findClass_of_methodNamed B.named
  have hlocks := B.notSynchronized
  have hS : va_S A s.heap s.heap [] := va_S.rf
  have hl := lv_entry ([.ref (q 0), .int (nI (1)), .int (ix), .ref (qo)]) (n := 5) (Nat.le_of_ble_eq_true rfl)
  rw [lg_entry_eq]
  generalize (lg_sl ([.ref (q 0), .int (nI (1)), .int (ix), .ref (qo)]) ++ List.replicate (5 - (lg_sl ([.ref (q 0), .int (nI (1)), .int (ix), .ref (qo)])).length) Slot.unset).toArray = ls at hl ⊢
  have hl : lv_has ls 5 [(0, .ref (q 0)), (1, .int (nI (1))), (2, .int (ix)), (3, .ref (qo))] := hl
  have hPX : va_P D vwCl (wX q cI cZ σ κ0 κ1) s.heap := hP.sub [2, 3, 4, 5, 6, 7, 8, 9, 10, 11, 12, 13, 14, 15, 16, 17, 18, 19, 20, 21, 22, 23, 24, 25] rfl
  have hDX : va_D A (wX q cI cZ σ κ0 κ1) := hD.sub [2, 3, 4, 5, 6, 7, 8, 9, 10, 11, 12, 13, 14, 15, 16, 17, 18, 19, 20, 21, 22, 23, 24, 25] (by decide) rfl
  refine lv_aload_n hx hb dL_known_0 rfl (lv_at hl 3 rfl) ?_
  refine n_iconst (k := 0) hx hb dL_known_1 (by decide) ?_
  refine lv_aload_n hx hb dL_known_2 rfl (lv_at hl 0 rfl) ?_
  refine lv_iload_n hx hb dL_known_3 rfl (lv_at hl 1 rfl) ?_
  refine lv_iload_n hx hb dL_known_4 rfl (lv_at hl 2 rfl) ?_
  refine thV (As := [.int (nI (1)), .int (ix)]) (rest := [.int (nI (0)), .ref (qo)]) (n := 2) ⟨hx, hb, hml, hown, htA⟩ (f_known_no1 l D cI cZ sa hst9 q σ κ0 κ1 ix s.heap hPX hz) (cwV 2 htA (gdV wd_628 wd_629 wd_630 wd_1 wd_631) rfl rfl rfl (by decide +kernel) ⟨Nat.le_of_ble_eq_true rfl, Nat.le_of_ble_eq_true rfl⟩) hKK hZ hPX 0 rfl rfl rfl hl.1 rfl (Nat.le_of_ble_eq_true rfl) dL_known_5 (Nat.le_of_ble_eq_true rfl) (Nat.le_of_ble_eq_true rfl) (fun H1 ce q9 hz hk hc hv hcl => ?_)
  refine vx_catch (name := "java/lang/IndexOutOfBoundsException") hown [⟨0, 10, 13, 13⟩] ⟨0, 10, 17, 21⟩ [] ((vx_table (x := yL_known) B (htA _ wd_627)).trans rfl) (List.forall_mem_cons.mpr ⟨Or.inr ⟨by decide, "java/lang/IllegalArgumentException", htA _ wd_164, ex_nIA hKK.2⟩, (fun _ h => nomatch h)⟩) (by decide) (by decide) (htA _ wd_296) (va_Nw.use rfl (ex_cI hKK.2)) hc hv hcl ?_
  refine lv_astore (lv' := [(4, .ref (q9)), (0, .ref (q 0)), (1, .int (nI (1))), (2, .int (ix)), (3, .ref (qo))]) hx hb dL_known_17 hl (by decide) rfl (fun ls hl => ?_)
  refine n_iconst (k := 2) hx hb dL_known_19 (by decide) ?_
  exact W.iret hx hb hr (fun t ht _ => ⟨rfl, by rw [ht]; exact P_grow hP hk, ⟨by rw [ht]; exact hz, fun a ha _ => by rw [ht]; exact hk a ha⟩⟩) (fun _ h => nomatch h) dL_known_20 hlocks
set_option maxHeartbeats 4000000 in
set_option maxRecDepth 100000 in
theorem w_known_ok1 (l : Launch) (D : va_G) (cI cZ cL cD : ClassId) (sa : Nat → Nat) (q : Nat → Nat) (qo qd : Nat) (σ κ0 κ1 : ST) (g : Nat → Int64) (gd : Nat → UInt64) (A : Nat → Prop) (hD : va_D A (wL q qo qd cI cZ cL cD σ κ0 κ1 g gd))  (j : Nat) (hj : j < κ1 0 4) (h10 : κ1 0 4 ≤ 10) : Met l yL_known (codeL yL_known cL_known 5 (some .int) [(0, 10, 13, 13), (0, 10, 17, 21)]) ({ frames := 8, cells := 1, slots := 6, locals := 125 } : Room) (LwP D cI cZ cL cD sa (wL q qo qd cI cZ cL cD σ κ0 κ1 g gd) [.ref (q 0), .int (nI (1)), .int (nI (j)), .ref (qo)]) (WrQ (some (.int (nI 0))) D (wL q qo qd cI cZ cL cD σ κ0 κ1 (gu g ((nI (κ1 2 j)).toInt64)) gd) A) 1 6 A := by
  refine va_MetW (cc := cL_known) (maxL := 5) (ret := (some .int)) (hh := [(0, 10, 13, 13), (0, 10, 17, 21)]) (by decide) rfl ?_
  intro p e s m args below meth c s₁ B hml hv
  obtain ⟨rfl, hP, hKK, hKL, hZ⟩ := hv
  have hx := B.exec
  have hb := B.bytes
  have hr := B.returns
  have htA : ∀ w ∈ WA, w.before _ s = true := fun w h => atoms_spec (ws := (codeL yL_known cL_known 5 (some .int) [(0, 10, 13, 13), (0, 10, 17, 21)])) B.pre w (List.mem_cons_of_mem _ h)
  have hown : s.vm.findClass RL = some m.cls := findClass_of_methodNamed B.named
  have hlocks := B.notSynchronized
  have hS : va_S A s.heap s.heap [] := va_S.rf
  have hl := lv_entry ([.ref (q 0), .int (nI (1)), .int (nI (j)), .ref (qo)]) (n := 5) (Nat.le_of_ble_eq_true rfl)
  rw [lg_entry_eq]
  generalize (lg_sl ([.ref (q 0), .int (nI (1)), .int (nI (j)), .ref (qo)]) ++ List.replicate (5 - (lg_sl ([.ref (q 0), .int (nI (1)), .int (nI (j)), .ref (qo)])).length) Slot.unset).toArray = ls at hl ⊢
  have hl : lv_has ls 5 [(0, .ref (q 0)), (1, .int (nI (1))), (2, .int (nI (j))), (3, .ref (qo))] := hl
  have hPX : va_P D vwCl (wX q cI cZ σ κ0 κ1) s.heap := hP.sub [2, 3, 4, 5, 6, 7, 8, 9, 10, 11, 12, 13, 14, 15, 16, 17, 18, 19, 20, 21, 22, 23, 24, 25] rfl
  have hDX : va_D A (wX q cI cZ σ κ0 κ1) := hD.sub [2, 3, 4, 5, 6, 7, 8, 9, 10, 11, 12, 13, 14, 15, 16, 17, 18, 19, 20, 21, 22, 23, 24, 25] (by decide) rfl
  refine lv_aload_n hx hb dL_known_0 rfl (lv_at hl 3 rfl) ?_
  refine n_iconst (k := 0) hx hb dL_known_1 (by decide) ?_
  refine lv_aload_n hx hb dL_known_2 rfl (lv_at hl 0 rfl) ?_
  refine lv_iload_n hx hb dL_known_3 rfl (lv_at hl 1 rfl) ?_
  refine lv_iload_n hx hb dL_known_4 rfl (lv_at hl 2 rfl) ?_
  refine roV1 (v := .int (nI (κ1 2 j))) (As := [.int (nI (1)), .int (nI (j))]) (rest := [.int (nI (0)), .ref (qo)]) (n := 2) ⟨hx, hb, hml, hown, htA⟩ (f_known_ok1 l D cI cZ sa q σ κ0 κ1 j s.heap hPX hj h10) (cwV 2 htA (gdV wd_628 wd_629 wd_630 wd_1 wd_631) rfl rfl rfl (by decide +kernel) ⟨Nat.le_of_ble_eq_true rfl, Nat.le_of_ble_eq_true rfl⟩) hKK hPX 0 rfl rfl rfl hl.1 rfl (Nat.le_of_ble_eq_true rfl) dL_known_5 (Nat.zero_le _) (Nat.zero_le _) ?_
  refine lv_i2l hx hb dL_known_8 rfl ?_
  refine va_last hx hb hKL hP (D_addr hD rfl) hS 0 0 rfl rfl (vp_in_nI (n := 0) (N := 1) (by decide) (by decide)) dL_known_9 (fun H locs hP _ hS => ?_)
  have hP : va_P D vwCl (wL q qo qd cI cZ cL cD σ κ0 κ1 (gu g ((nI (κ1 2 j)).toInt64)) gd) H := hP
  refine lv_goto (tgt := 21) hx hb dL_known_10 (by decide) ?_
  refine n_iconst (k := 0) hx hb dL_known_21 (by decide) ?_
  refine W.widen (k := 1) (n := 6) (by decide) (by decide) ?_
  exact W.iret hx hb hr (fun t ht _ => ⟨rfl, by rw [ht]; exact hP, hS.F ht⟩) hS.2.2 dL_known_22 hlocks
set_option maxHeartbeats 4000000 in
set_option maxRecDepth 100000 in
theorem w_freshLoads_bad (l : Launch) (D : va_G) (cI cZ cL cD : ClassId) (sa : Nat → Nat) (q : Nat → Nat) (qo qd : Nat) (σ κ0 κ1 : ST) (g : Nat → Int64) (gd : Nat → UInt64) (A : Nat → Prop) (hD : va_D A (wL q qo qd cI cZ cL cD σ κ0 κ1 g gd)) (hst9 : l.stackTraces = false)  (x : Int32) (hbad : iw (x) (nI (0)) (nI (1)) = false) : Met l yL_freshLoads (codeL yL_freshLoads cL_freshLoads 4 (some .int) [(0, 9, 12, 13)]) ({ frames := 8, cells := 1, slots := 6, locals := 123 } : Room) (LwP D cI cZ cL cD sa (wL q qo qd cI cZ cL cD σ κ0 κ1 g gd) [.ref (q 0), .int (x), .ref (qo)]) (WrQ (some (.int (nI 1))) D (wL q qo qd cI cZ cL cD σ κ0 κ1 g gd) A) 1 6 A := by
  refine va_MetW (cc := cL_freshLoads) (maxL := 4) (ret := (some .int)) (hh := [(0, 9, 12, 13)]) (by decide) rfl ?_
  intro p e s m args below meth c s₁ B hml hv
  obtain ⟨rfl, hP, hKK, hKL, hZ⟩ := hv
  have hx := B.exec
  have hb := B.bytes
  have hr := B.returns
  have htA : ∀ w ∈ WA, w.before _ s = true := fun w h => atoms_spec (ws := (codeL yL_freshLoads cL_freshLoads 4 (some .int) [(0, 9, 12, 13)])) B.pre w (List.mem_cons_of_mem _ h)
  have hown : s.vm.findClass RL = some m.cls := findClass_of_methodNamed B.named
  have hlocks := B.notSynchronized
  have hS : va_S A s.heap s.heap [] := va_S.rf
  have hl := lv_entry ([.ref (q 0), .int (x), .ref (qo)]) (n := 4) (Nat.le_of_ble_eq_true rfl)
  rw [lg_entry_eq]
  generalize (lg_sl ([.ref (q 0), .int (x), .ref (qo)]) ++ List.replicate (4 - (lg_sl ([.ref (q 0), .int (x), .ref (qo)])).length) Slot.unset).toArray = ls at hl ⊢
  have hl : lv_has ls 4 [(0, .ref (q 0)), (1, .int (x)), (2, .ref (qo))] := hl
  have hPX : va_P D vwCl (wX q cI cZ σ κ0 κ1) s.heap := hP.sub [2, 3, 4, 5, 6, 7, 8, 9, 10, 11, 12, 13, 14, 15, 16, 17, 18, 19, 20, 21, 22, 23, 24, 25] rfl
  have hDX : va_D A (wX q cI cZ σ κ0 κ1) := hD.sub [2, 3, 4, 5, 6, 7, 8, 9, 10, 11, 12, 13, 14, 15, 16, 17, 18, 19, 20, 21, 22, 23, 24, 25] (by decide) rfl
  refine lv_aload_n hx hb dL_freshLoads_0 rfl (lv_at hl 2 rfl) ?_
  refine n_iconst (k := 0) hx hb dL_freshLoads_1 (by decide) ?_
  refine lv_aload_n hx hb dL_freshLoads_2 rfl (lv_at hl 0 rfl) ?_
  refine lv_iload_n hx hb dL_freshLoads_3 rfl (lv_at hl 1 rfl) ?_
  refine thV (As := [.int (x)]) (rest := [.int (nI (0)), .ref (qo)]) (n := 1) ⟨hx, hb, hml, hown, htA⟩ (f_freshLoads_bad l D cI cZ sa hst9 q σ κ0 κ1 x s.heap hPX hbad) (cwV 1 htA (gdV wd_635 wd_636 wd_637 wd_1 wd_638) rfl rfl rfl (by decide +kernel) ⟨Nat.le_of_ble_eq_true rfl, Nat.le_of_ble_eq_true rfl⟩) hKK hZ hPX 0 rfl rfl rfl hl.1 rfl (Nat.le_of_ble_eq_true rfl) dL_freshLoads_4 (Nat.le_of_ble_eq_true rfl) (Nat.le_of_ble_eq_true rfl) (fun H1 ce q9 hz hk hc hv hcl => ?_)
  refine vx_catch (name := "java/lang/IllegalArgumentException") hown [] ⟨0, 9, 12, 13⟩ [] ((vx_table (x := yL_freshLoads) B (htA _ wd_634)).trans rfl) (fun _ h => nomatch h) (by decide) (by decide) (htA _ wd_164) (va_Nw.use rfl (ex_cA hKK.2)) hc hv hcl ?_
  refine lv_astore_n (lv' := [(3, .ref (q9)), (0, .ref (q 0)), (1, .int (x)), (2, .ref (qo))]) hx hb dL_freshLoads_12 rfl hl (by decide) rfl (fun ls hl => ?_)
  refine n_iconst (k := 1) hx hb dL_freshLoads_13 (by decide) ?_
  exact W.iret hx hb hr (fun t ht _ => ⟨rfl, by rw [ht]; exact P_grow hP hk, ⟨by rw [ht]; exact hz, fun a ha _ => by rw [ht]; exact hk a ha⟩⟩) (fun _ h => nomatch h) dL_freshLoads_14 hlocks
set_option maxHeartbeats 4000000 in
set_option maxRecDepth 100000 in
theorem w_freshLoads_0 (l : Launch) (D : va_G) (cI cZ cL cD : ClassId) (sa : Nat → Nat) (q : Nat → Nat) (qo qd : Nat) (σ κ0 κ1 : ST) (g : Nat → Int64) (gd : Nat → UInt64) (A : Nat → Prop) (hD : va_D A (wL q qo qd cI cZ cL cD σ κ0 κ1 g gd))    : Met l yL_freshLoads (codeL yL_freshLoads cL_freshLoads 4 (some .int) [(0, 9, 12, 13)]) ({ frames := 8, cells := 1, slots := 6, locals := 123 } : Room) (LwP D cI cZ cL cD sa (wL q qo qd cI cZ cL cD σ κ0 κ1 g gd) [.ref (q 0), .int (nI (0)), .ref (qo)]) (WrQ (some (.int (nI 0))) D (wL q qo qd cI cZ cL cD σ κ0 κ1 (gu g ((nI (κ0 0 3)).toInt64)) gd) A) 1 6 A := by
  refine va_MetW (cc := cL_freshLoads) (maxL := 4) (ret := (some .int)) (hh := [(0, 9, 12, 13)]) (by decide) rfl ?_
  intro p e s m args below meth c s₁ B hml hv
  obtain ⟨rfl, hP, hKK, hKL, hZ⟩ := hv
  have hx := B.exec
  have hb := B.bytes
  have hr := B.returns
  have htA : ∀ w ∈ WA, w.before _ s = true := fun w h => atoms_spec (ws := (codeL yL_freshLoads cL_freshLoads 4 (some .int) [(0, 9, 12, 13)])) B.pre w (List.mem_cons_of_mem _ h)
  have hown : s.vm.findClass RL = some m.cls := findClass_of_methodNamed B.named
  have hlocks := B.notSynchronized
  have hS : va_S A s.heap s.heap [] := va_S.rf
  have hl := lv_entry ([.ref (q 0), .int (nI (0)), .ref (qo)]) (n := 4) (Nat.le_of_ble_eq_true rfl)
  rw [lg_entry_eq]
  generalize (lg_sl ([.ref (q 0), .int (nI (0)), .ref (qo)]) ++ List.replicate (4 - (lg_sl ([.ref (q 0), .int (nI (0)), .ref (qo)])).length) Slot.unset).toArray = ls at hl ⊢
  have hl : lv_has ls 4 [(0, .ref (q 0)), (1, .int (nI (0))), (2, .ref (qo))] := hl
  have hPX : va_P D vwCl (wX q cI cZ σ κ0 κ1) s.heap := hP.sub [2, 3, 4, 5, 6, 7, 8, 9, 10, 11, 12, 13, 14, 15, 16, 17, 18, 19, 20, 21, 22, 23, 24, 25] rfl
  have hDX : va_D A (wX q cI cZ σ κ0 κ1) := hD.sub [2, 3, 4, 5, 6, 7, 8, 9, 10, 11, 12, 13, 14, 15, 16, 17, 18, 19, 20, 21, 22, 23, 24, 25] (by decide) rfl
  refine lv_aload_n hx hb dL_freshLoads_0 rfl (lv_at hl 2 rfl) ?_
  refine n_iconst (k := 0) hx hb dL_freshLoads_1 (by decide) ?_
  refine lv_aload_n hx hb dL_freshLoads_2 rfl (lv_at hl 0 rfl) ?_
  refine lv_iload_n hx hb dL_freshLoads_3 rfl (lv_at hl 1 rfl) ?_
  refine roV1 (v := .int (nI (κ0 0 3))) (As := [.int (nI (0))]) (rest := [.int (nI (0)), .ref (qo)]) (n := 1) ⟨hx, hb, hml, hown, htA⟩ (f_freshLoads_0 l D cI cZ sa q σ κ0 κ1  s.heap hPX ) (cwV 1 htA (gdV wd_635 wd_636 wd_637 wd_1 wd_638) rfl rfl rfl (by decide +kernel) ⟨Nat.le_of_ble_eq_true rfl, Nat.le_of_ble_eq_true rfl⟩) hKK hPX 0 rfl rfl rfl hl.1 rfl (Nat.le_of_ble_eq_true rfl) dL_freshLoads_4 (Nat.zero_le _) (Nat.zero_le _) ?_
  refine lv_i2l hx hb dL_freshLoads_7 rfl ?_
  refine va_last hx hb hKL hP (D_addr hD rfl) hS 0 0 rfl rfl (vp_in_nI (n := 0) (N := 1) (by decide) (by decide)) dL_freshLoads_8 (fun H locs hP _ hS => ?_)
  have hP : va_P D vwCl (wL q qo qd cI cZ cL cD σ κ0 κ1 (gu g ((nI (κ0 0 3)).toInt64)) gd) H := hP
  refine lv_goto (tgt := 15) hx hb dL_freshLoads_9 (by decide) ?_
  refine n_iconst (k := 0) hx hb dL_freshLoads_15 (by decide) ?_
  refine W.widen (k := 1) (n := 6) (by decide) (by decide) ?_
  exact W.iret hx hb hr (fun t ht _ => ⟨rfl, by rw [ht]; exact hP, hS.F ht⟩) hS.2.2 dL_freshLoads_16 hlocks
set_option maxHeartbeats 4000000 in
set_option maxRecDepth 100000 in
theorem w_freshLoads_1 (l : Launch) (D : va_G) (cI cZ cL cD : ClassId) (sa : Nat → Nat) (q : Nat → Nat) (qo qd : Nat) (σ κ0 κ1 : ST) (g : Nat → Int64) (gd : Nat → UInt64) (A : Nat → Prop) (hD : va_D A (wL q qo qd cI cZ cL cD σ κ0 κ1 g gd))    : Met l yL_freshLoads (codeL yL_freshLoads cL_freshLoads 4 (some .int) [(0, 9, 12, 13)]) ({ frames := 8, cells := 1, slots := 6, locals := 123 } : Room) (LwP D cI cZ cL cD sa (wL q qo qd cI cZ cL cD σ κ0 κ1 g gd) [.ref (q 0), .int (nI (1)), .ref (qo)]) (WrQ (some (.int (nI 0))) D (wL q qo qd cI cZ cL cD σ κ0 κ1 (gu g ((nI (κ1 0 3)).toInt64)) gd) A) 1 6 A := by
  refine va_MetW (cc := cL_freshLoads) (maxL := 4) (ret := (some .int)) (hh := [(0, 9, 12, 13)]) (by decide) rfl ?_
  intro p e s m args below meth c s₁ B hml hv
  obtain ⟨rfl, hP, hKK, hKL, hZ⟩ := hv
  have hx := B.exec
  have hb := B.bytes
  have hr := B.returns
  have htA : ∀ w ∈ WA, w.before _ s = true := fun w h => atoms_spec (ws := (codeL yL_freshLoads cL_freshLoads 4 (some .int) [(0, 9, 12, 13)])) B.pre w (List.mem_cons_of_mem _ h)
  have hown : s.vm.findClass RL = some m.cls := findClass_of_methodNamed B.named
  have hlocks := B.notSynchronized
  have hS : va_S A s.heap s.heap [] := va_S.rf
  have hl := lv_entry ([.ref (q 0), .int (nI (1)), .ref (qo)]) (n := 4) (Nat.le_of_ble_eq_true rfl)
  rw [lg_entry_eq]
  generalize (lg_sl ([.ref (q 0), .int (nI (1)), .ref (qo)]) ++ List.replicate (4 - (lg_sl ([.ref (q 0), .int (nI (1)), .ref (qo)])).length) Slot.unset).toArray = ls at hl ⊢
  have hl : lv_has ls 4 [(0, .ref (q 0)), (1, .int (nI (1))), (2, .ref (qo))] := hl
  have hPX : va_P D vwCl (wX q cI cZ σ κ0 κ1) s.heap := hP.sub [2, 3, 4, 5, 6, 7, 8, 9, 10, 11, 12, 13, 14, 15, 16, 17, 18, 19, 20, 21, 22, 23, 24, 25] rfl
  have hDX : va_D A (wX q cI cZ σ κ0 κ1) := hD.sub [2, 3, 4, 5, 6, 7, 8, 9, 10, 11, 12, 13, 14, 15, 16, 17, 18, 19, 20, 21, 22, 23, 24, 25] (by decide) rfl
  refine lv_aload_n hx hb dL_freshLoads_0 rfl (lv_at hl 2 rfl) ?_
  refine n_iconst (k := 0) hx hb dL_freshLoads_1 (by decide) ?_
  refine lv_aload_n hx hb dL_freshLoads_2 rfl (lv_at hl 0 rfl) ?_
  refine lv_iload_n hx hb dL_freshLoads_3 rfl (lv_at hl 1 rfl) ?_
  refine roV1 (v := .int (nI (κ1 0 3))) (As := [.int (nI (1))]) (rest := [.int (nI (0)), .ref (qo)]) (n := 1) ⟨hx, hb, hml, hown, htA⟩ (f_freshLoads_1 l D cI cZ sa q σ κ0 κ1  s.heap hPX ) (cwV 1 htA (gdV wd_635 wd_636 wd_637 wd_1 wd_638) rfl rfl rfl (by decide +kernel) ⟨Nat.le_of_ble_eq_true rfl, Nat.le_of_ble_eq_true rfl⟩) hKK hPX 0 rfl rfl rfl hl.1 rfl (Nat.le_of_ble_eq_true rfl) dL_freshLoads_4 (Nat.zero_le _) (Nat.zero_le _) ?_
  refine lv_i2l hx hb dL_freshLoads_7 rfl ?_
  refine va_last hx hb hKL hP (D_addr hD rfl) hS 0 0 rfl rfl (vp_in_nI (n := 0) (N := 1) (by decide) (by decide)) dL_freshLoads_8 (fun H locs hP _ hS => ?_)
  have hP : va_P D vwCl (wL q qo qd cI cZ cL cD σ κ0 κ1 (gu g ((nI (κ1 0 3)).toInt64)) gd) H := hP
  refine lv_goto (tgt := 15) hx hb dL_freshLoads_9 (by decide) ?_
  refine n_iconst (k := 0) hx hb dL_freshLoads_15 (by decide) ?_
  refine W.widen (k := 1) (n := 6) (by decide) (by decide) ?_
  exact W.iret hx hb hr (fun t ht _ => ⟨rfl, by rw [ht]; exact hP, hS.F ht⟩) hS.2.2 dL_freshLoads_16 hlocks
