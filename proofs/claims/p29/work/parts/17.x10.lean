theorem X_DSS {A : Nat → Prop} {q : Nat → Nat} {cI cZ : ClassId} {σ κ0 κ1 : ST} (h : va_D A (wX q cI cZ σ κ0 κ1)) : va_D A (wSS q cI σ) := h.sub [1, 2, 3, 4, 5, 6, 7, 8, 9, 10, 11] (by decide) rfl
theorem X_DC0 {A : Nat → Prop} {q : Nat → Nat} {cI cZ : ClassId} {σ κ0 κ1 : ST} (h : va_D A (wX q cI cZ σ κ0 κ1)) : va_D A (wCS q (fun i => q (12 + i)) cI cZ σ κ0) := h.sub [12, 13, 14, 15, 16, 17, 1, 2, 3, 4, 5, 6, 7, 8, 9, 10, 11] (by decide) rfl
theorem X_DC1 {A : Nat → Prop} {q : Nat → Nat} {cI cZ : ClassId} {σ κ0 κ1 : ST} (h : va_D A (wX q cI cZ σ κ0 κ1)) : va_D A (wCS q (fun i => q (18 + i)) cI cZ σ κ1) := h.sub [18, 19, 20, 21, 22, 23, 1, 2, 3, 4, 5, 6, 7, 8, 9, 10, 11] (by decide) rfl
theorem X_putS {A : Nat → Prop} {D : va_G} {cl : List vw_C} {q : Nat → Nat} {cI cZ : ClassId} {σ κ0 κ1 σ0 κ00 κ10 σ1 : ST} {H H1 : Heap} (hD : va_D A (wX q cI cZ σ0 κ00 κ10)) (hP : va_P D cl (wX q cI cZ σ κ0 κ1) H) (hk : ∀ a : Nat, a < H.size → ¬ adr (wSS q cI σ) a → H1[a]? = H[a]?) (h1 : va_P D cl (wSS q cI σ1) H1) : va_P D cl (wX q cI cZ σ1 κ0 κ1) H1 := by
  have hD2 : va_D A (wX q cI cZ σ κ0 κ1) := D_addr hD rfl
  have hM : va_P D cl [(q 0, .inr (3, [.ref (q 1), .ref (q 12), .ref (q 18)]))] H1 := P_keep (hP.sub [0] rfl) hk (D_out hD2 [0] [1, 2, 3, 4, 5, 6, 7, 8, 9, 10, 11] rfl rfl (by decide))
  have hC : va_P D cl (wCl (fun i => q (12 + i)) cI cZ κ0 ++ wCl (fun i => q (18 + i)) cI cZ κ1) H1 := P_keep (hP.sub [12, 13, 14, 15, 16, 17, 18, 19, 20, 21, 22, 23] rfl) hk (D_out hD2 [12, 13, 14, 15, 16, 17, 18, 19, 20, 21, 22, 23] [1, 2, 3, 4, 5, 6, 7, 8, 9, 10, 11] rfl rfl (by decide))
  exact va_P.app hM (va_P.app h1 hC)
theorem X_put0 {A : Nat → Prop} {D : va_G} {cl : List vw_C} {q : Nat → Nat} {cI cZ : ClassId} {σ κ0 κ1 σ0 κ00 κ10 σ1 κ2 : ST} {H H1 : Heap} (hD : va_D A (wX q cI cZ σ0 κ00 κ10)) (hP : va_P D cl (wX q cI cZ σ κ0 κ1) H) (hk : ∀ a : Nat, a < H.size → ¬ adr (wCS q (fun i => q (12 + i)) cI cZ σ κ0) a → H1[a]? = H[a]?) (h1 : va_P D cl (wCS q (fun i => q (12 + i)) cI cZ σ1 κ2) H1) : va_P D cl (wX q cI cZ σ1 κ2 κ1) H1 := by
  have hD2 : va_D A (wX q cI cZ σ κ0 κ1) := D_addr hD rfl
  have hM : va_P D cl [(q 0, .inr (3, [.ref (q 1), .ref (q 12), .ref (q 18)]))] H1 := P_keep (hP.sub [0] rfl) hk (D_out hD2 [0] [12, 13, 14, 15, 16, 17, 1, 2, 3, 4, 5, 6, 7, 8, 9, 10, 11] rfl rfl (by decide))
  have hC : va_P D cl (wCl (fun i => q (18 + i)) cI cZ κ1) H1 := P_keep (hP.sub [18, 19, 20, 21, 22, 23] rfl) hk (D_out hD2 [18, 19, 20, 21, 22, 23] [12, 13, 14, 15, 16, 17, 1, 2, 3, 4, 5, 6, 7, 8, 9, 10, 11] rfl rfl (by decide))
  exact va_P.app hM (va_P.app (CS_SS h1) (va_P.app (h1.sub [0, 1, 2, 3, 4, 5] rfl) hC))
theorem X_put1 {A : Nat → Prop} {D : va_G} {cl : List vw_C} {q : Nat → Nat} {cI cZ : ClassId} {σ κ0 κ1 σ0 κ00 κ10 σ1 κ2 : ST} {H H1 : Heap} (hD : va_D A (wX q cI cZ σ0 κ00 κ10)) (hP : va_P D cl (wX q cI cZ σ κ0 κ1) H) (hk : ∀ a : Nat, a < H.size → ¬ adr (wCS q (fun i => q (18 + i)) cI cZ σ κ1) a → H1[a]? = H[a]?) (h1 : va_P D cl (wCS q (fun i => q (18 + i)) cI cZ σ1 κ2) H1) : va_P D cl (wX q cI cZ σ1 κ0 κ2) H1 := by
  have hD2 : va_D A (wX q cI cZ σ κ0 κ1) := D_addr hD rfl
  have hM : va_P D cl [(q 0, .inr (3, [.ref (q 1), .ref (q 12), .ref (q 18)]))] H1 := P_keep (hP.sub [0] rfl) hk (D_out hD2 [0] [18, 19, 20, 21, 22, 23, 1, 2, 3, 4, 5, 6, 7, 8, 9, 10, 11] rfl rfl (by decide))
  have hC : va_P D cl (wCl (fun i => q (12 + i)) cI cZ κ0) H1 := P_keep (hP.sub [12, 13, 14, 15, 16, 17] rfl) hk (D_out hD2 [12, 13, 14, 15, 16, 17] [18, 19, 20, 21, 22, 23, 1, 2, 3, 4, 5, 6, 7, 8, 9, 10, 11] rfl rfl (by decide))
  exact va_P.app hM (va_P.app (CS_SS h1) (va_P.app hC (h1.sub [0, 1, 2, 3, 4, 5] rfl)))
theorem nthere {σ : ST} {j : Nat} (h : σ 4 j = 0) : (!decide (σ 4 j = 0)) = false := by rw [decide_eq_true h]; rfl
theorem there {σ : ST} {j : Nat} (h : σ 4 j ≠ 0) : (!decide (σ 4 j = 0)) = true := by rw [decide_eq_false h]; rfl
set_option maxHeartbeats 4000000 in
set_option maxRecDepth 100000 in
theorem f_add_ok (l : Launch) (D : va_G) (cI cZ : ClassId) (sa : Nat → Nat) (q : Nat → Nat) (σ κ0 κ1 : ST) (t b0 th : Nat) (A : Nat → Prop) (hD : va_D A (wX q cI cZ σ κ0 κ1)) (hB : ∀ k i, σ k i < 1073741824) (ht : t ≤ 9999) (hb1 : 1 ≤ b0) (hb2 : b0 ≤ 63) (hth : th ≤ 9) (hco : σ 1 0 < 60) (h60 : ∀ i, σ 6 i < 60) (h40 : σ 4 (σ 1 0) = 0) : Met l yX3_add (codeW yX3_add cX3_add 4 (some .int)) ({ frames := 5, cells := 0, slots := 0, locals := 114 } : Room) (WrP D cI cZ sa (wX q cI cZ σ κ0 κ1) [.ref (q 0), .int (nI (t)), .int (nI (b0)), .int (nI (th))]) (WrQ (some (.int (nI (σ 1 0)))) D (wX q cI cZ (lc σ t b0 th) κ0 κ1) A) 0 0 A := by
  refine Met.ofW (cc := cX3_add) (maxL := 4) (ret := (some .int)) (by decide) rfl ?_
  intro p e s m args below meth c s₁ B hml hv
  obtain ⟨rfl, hH, hKK⟩ := hv
  have hx := B.exec
  have hb := B.bytes
  have hr := B.returns
  have htA : ∀ w ∈ WA, w.before _ s = true := fun w h => atoms_spec (ws := (codeW yX3_add cX3_add 4 (some .int))) B.pre w (List.mem_cons_of_mem _ h)
  have hown : s.vm.findClass RX3 = some m.cls := findClass_of_methodNamed B.named
  have hlocks := B.notSynchronized
  have hP := hH
  have hS : va_S A s.heap s.heap [] := va_S.rf
  have hl := lv_entry ([.ref (q 0), .int (nI (t)), .int (nI (b0)), .int (nI (th))]) (n := 4) (Nat.le_of_ble_eq_true rfl)
  rw [lg_entry_eq]
  generalize (lg_sl ([.ref (q 0), .int (nI (t)), .int (nI (b0)), .int (nI (th))]) ++ List.replicate (4 - (lg_sl ([.ref (q 0), .int (nI (t)), .int (nI (b0)), .int (nI (th))])).length) Slot.unset).toArray = ls at hl ⊢
  have hl : lv_has ls 4 [(0, .ref (q 0)), (1, .int (nI (t))), (2, .int (nI (b0))), (3, .int (nI (th)))] := hl
  refine lv_iload_n hx hb dX3_add_0 rfl (lv_at hl 1 rfl) ?_
  refine n_iconst (k := 0) hx hb dX3_add_1 (by decide) ?_
  refine lv_sipush (v := nI 9999) hx hb dX3_add_2 (by decide) ?_
  refine roS1 (v := .int (b2i (iw (nI (t)) (nI (0)) (nI (9999))))) (As := [.int (nI (t)), .int (nI (0)), .int (nI (9999))]) (rest := []) (n := 3) ⟨hx, hb, hml, hown, htA⟩ (c_isWithin l D cI cZ sa (nI (t)) (nI (0)) (nI (9999)) s.heap ) (va_cwS 3 htA (gdS wd_139 wd_140 wd_1 wd_141) rfl rfl rfl (by decide +kernel) ⟨Nat.le_of_ble_eq_true rfl, Nat.le_of_ble_eq_true rfl⟩) hKK rfl hl.1 rfl (Nat.le_of_ble_eq_true rfl) dX3_add_5 (Nat.zero_le _) (Nat.zero_le _) ?_
  refine b_ifeq (b := iw (nI (t)) (nI (0)) (nI (9999))) (tgt := 25) hx hb dX3_add_8 (by decide) (fun c_1 => ?_) (fun c_1 => ?_)
  · exact absurd (c_1.symm.trans (iw_n (Nat.zero_le _) ht (by decide))) (by decide)
  refine lv_iload_n hx hb dX3_add_11 rfl (lv_at hl 2 rfl) ?_
  refine roS1 (v := .int (b2i (iw (nI (b0)) (nI (1)) (nI (63))))) (As := [.int (nI (b0))]) (rest := []) (n := 1) ⟨hx, hb, hml, hown, htA⟩ (c_isBoxSet l D cI cZ sa (nI (b0)) s.heap ) (va_cwS 1 htA (gdS wd_142 wd_143 wd_1 wd_144) rfl rfl rfl (by decide +kernel) ⟨Nat.le_of_ble_eq_true rfl, Nat.le_of_ble_eq_true rfl⟩) hKK rfl hl.1 rfl (Nat.le_of_ble_eq_true rfl) dX3_add_12 (Nat.zero_le _) (Nat.zero_le _) ?_
  refine b_ifeq (b := iw (nI (b0)) (nI (1)) (nI (63))) (tgt := 25) hx hb dX3_add_15 (by decide) (fun c_2 => ?_) (fun c_2 => ?_)
  · exact absurd (c_2.symm.trans (iw_n hb1 hb2 (by decide))) (by decide)
  refine lv_iload_n hx hb dX3_add_18 rfl (lv_at hl 3 rfl) ?_
  refine roS1 (v := .int (b2i (iw (nI (th)) (nI (0)) (nI (9))))) (As := [.int (nI (th))]) (rest := []) (n := 1) ⟨hx, hb, hml, hown, htA⟩ (c_isThread l D cI cZ sa (nI (th)) s.heap ) (va_cwS 1 htA (gdS wd_145 wd_146 wd_1 wd_147) rfl rfl rfl (by decide +kernel) ⟨Nat.le_of_ble_eq_true rfl, Nat.le_of_ble_eq_true rfl⟩) hKK rfl hl.1 rfl (Nat.le_of_ble_eq_true rfl) dX3_add_19 (Nat.zero_le _) (Nat.zero_le _) ?_
  refine b_ifne (b := iw (nI (th)) (nI (0)) (nI (9))) (tgt := 35) hx hb dX3_add_22 (by decide) (fun c_3 => ?_) (fun c_3 => ?_)
  rotate_left
  · exact absurd (c_3.symm.trans (iw_n (Nat.zero_le _) hth (by decide))) (by decide)
  refine lv_aload_n hx hb dX3_add_35 rfl (lv_at hl 0 rfl) ?_
  refine va_get (D := D) (ci := 3) (v := .ref (q 1)) (C := RX3) (T := TX3) (N := 3) hx hb htA uwX3 hown hKK.1 hP 0 rfl rfl 0 (by decide) (htA _ wd_125) (fun _ h9 => h9) rfl dX3_add_36 ?_
  refine va_getN (D := D) (ci := 2) (v := .int (nI (σ 1 0))) (C := RX2) (T := TX2) (N := 7) hx hb htA uwX2 hown hKK.1 hP 1 rfl rfl 6 (by decide) (va_Nw.use rfl (ex_RX3_44 hKK.2)) (fun _ h9 => h9) rfl dX3_add_39 ?_
  refine lv_bipush (v := nI 60) hx hb dX3_add_42 (by decide) ?_
  refine n_icmp_lt (x := σ 1 0) (y := 60) (tgt := 57) hx hb dX3_add_44 (by decide) (Nat.lt_trans (hB 1 0) (by decide)) (by decide) (fun c_4 => ?_) (fun c_4 => ?_)
  rotate_left
  · exfalso; omega
  refine lv_aload_n hx hb dX3_add_57 rfl (lv_at hl 0 rfl) ?_
  refine va_get (D := D) (ci := 3) (v := .ref (q 1)) (C := RX3) (T := TX3) (N := 3) hx hb htA uwX3 hown hKK.1 hP 0 rfl rfl 0 (by decide) (htA _ wd_125) (fun _ h9 => h9) rfl dX3_add_58 ?_
  refine lv_iload_n hx hb dX3_add_61 rfl (lv_at hl 1 rfl) ?_
  refine lv_iload_n hx hb dX3_add_62 rfl (lv_at hl 2 rfl) ?_
  refine lv_iload_n hx hb dX3_add_63 rfl (lv_at hl 3 rfl) ?_
  refine wrV1 (v := .int (nI (σ 1 0))) (As := [.int (nI (t)), .int (nI (b0)), .int (nI (th))]) (rest := []) (n := 3) ⟨hx, hb, hml, hown, htA⟩ (c_letCome l D cI cZ sa q σ t b0 th (adr (wSS q cI σ)) (D_adr (X_DSS (cZ := cZ) (σ := σ) (κ0 := κ0) (κ1 := κ1) (D_addr hD rfl))) hB hco h60 (by omega) (by omega) (by omega) h40) (cwV 3 htA (gdV wd_232 wd_233 wd_234 wd_2 wd_235) rfl rfl rfl (by decide +kernel) ⟨Nat.le_of_ble_eq_true rfl, Nat.le_of_ble_eq_true rfl⟩) hKK (X_SS hP) 0 rfl rfl rfl hl.1 rfl (Nat.le_of_ble_eq_true rfl) dX3_add_64 (Nat.zero_le _) (Nat.zero_le _) hS (fun a h => adr_in (X_DSS (cZ := cZ) (σ := σ) (κ0 := κ0) (κ1 := κ1) (D_addr hD rfl)) a h) (fun H1 locs hP1 hz1 hk1 hS => ?_)
  have hP : va_P D vwCl (wX q cI cZ (lc σ t b0 th) κ0 κ1) H1 := X_putS hD hP hk1 hP1
  generalize H1 = H at hP hS ⊢
  exact wr_i hx hb hr hlocks (rfl) hP hS dX3_add_67
set_option maxHeartbeats 4000000 in
set_option maxRecDepth 100000 in
theorem f_move_s (l : Launch) (D : va_G) (cI cZ : ClassId) (sa : Nat → Nat) (q : Nat → Nat) (σ κ0 κ1 : ST) (j b0 : Nat) (H : Heap) (hP : va_P D vwCl (wX q cI cZ σ κ0 κ1) H) (hB : ∀ k i, σ k i < 1073741824) (hj : j < 60) (h40 : σ 4 j ≠ 0) (hb1 : 1 ≤ b0) (hb2 : b0 ≤ 63) (he : σ 4 j = b0) : Met l yX3_move (codeW yX3_move cX3_move 4 (some .int)) ({ frames := 4, cells := 0, slots := 0, locals := 90 } : Room) (RoP D cI cZ sa H [.ref (q 0), .int (nI (j)), .int (nI (b0))]) (RoQ (some (.int (nI (σ 4 j)))) H) 0 0 RoF := by
  refine Met.ofW (cc := cX3_move) (maxL := 4) (ret := (some .int)) (by decide) rfl ?_
  intro p e s m args below meth c s₁ B hml hv
  obtain ⟨rfl, hH, hKK⟩ := hv
  subst hH
  have hx := B.exec
  have hb := B.bytes
  have hr := B.returns
  have htA : ∀ w ∈ WA, w.before _ s = true := fun w h => atoms_spec (ws := (codeW yX3_move cX3_move 4 (some .int))) B.pre w (List.mem_cons_of_mem _ h)
  have hown : s.vm.findClass RX3 = some m.cls := findClass_of_methodNamed B.named
  have hlocks := B.notSynchronized
  have hl := lv_entry ([.ref (q 0), .int (nI (j)), .int (nI (b0))]) (n := 4) (Nat.le_of_ble_eq_true rfl)
  rw [lg_entry_eq]
  generalize (lg_sl ([.ref (q 0), .int (nI (j)), .int (nI (b0))]) ++ List.replicate (4 - (lg_sl ([.ref (q 0), .int (nI (j)), .int (nI (b0))])).length) Slot.unset).toArray = ls at hl ⊢
  have hl : lv_has ls 4 [(0, .ref (q 0)), (1, .int (nI (j))), (2, .int (nI (b0)))] := hl
  refine lv_aload_n hx hb dX3_move_0 rfl (lv_at hl 0 rfl) ?_
  refine va_get (D := D) (ci := 3) (v := .ref (q 1)) (C := RX3) (T := TX3) (N := 3) hx hb htA uwX3 hown hKK.1 hP 0 rfl rfl 0 (by decide) (htA _ wd_125) (fun _ h9 => h9) rfl dX3_move_1 ?_
  refine lv_iload_n hx hb dX3_move_4 rfl (lv_at hl 1 rfl) ?_
  refine roV1 (v := .int (b2i (!decide (σ 4 j = 0)))) (As := [.int (nI (j))]) (rest := []) (n := 1) ⟨hx, hb, hml, hown, htA⟩ (c_isThere_t l D cI cZ sa q σ j s.heap (X_SS hP) (by omega) hB) (cwV 1 htA (gdV wd_266 wd_267 wd_268 wd_2 wd_269) rfl rfl rfl (by decide +kernel) ⟨Nat.le_of_ble_eq_true rfl, Nat.le_of_ble_eq_true rfl⟩) hKK hP 1 rfl rfl rfl hl.1 rfl (Nat.le_of_ble_eq_true rfl) dX3_move_5 (Nat.zero_le _) (Nat.zero_le _) ?_
  refine roS0 (As := [.int (b2i (!decide (σ 4 j = 0)))]) (rest := []) (n := 1) ⟨hx, hb, hml, hown, htA⟩ (c_reqMail_t l D cI cZ sa (!decide (σ 4 j = 0)) s.heap (there h40)) (va_cwS 1 htA (gdS wd_274 wd_275 wd_1 wd_276) rfl rfl rfl (by decide +kernel) ⟨Nat.le_of_ble_eq_true rfl, Nat.le_of_ble_eq_true rfl⟩) hKK rfl hl.1 rfl (Nat.le_of_ble_eq_true rfl) dX3_move_8 (Nat.zero_le _) (Nat.zero_le _) ?_
  refine lv_iload_n hx hb dX3_move_11 rfl (lv_at hl 2 rfl) ?_
  refine roS1 (v := .int (b2i (iw (nI (b0)) (nI (1)) (nI (63))))) (As := [.int (nI (b0))]) (rest := []) (n := 1) ⟨hx, hb, hml, hown, htA⟩ (c_isBoxSet l D cI cZ sa (nI (b0)) s.heap ) (va_cwS 1 htA (gdS wd_142 wd_143 wd_1 wd_144) rfl rfl rfl (by decide +kernel) ⟨Nat.le_of_ble_eq_true rfl, Nat.le_of_ble_eq_true rfl⟩) hKK rfl hl.1 rfl (Nat.le_of_ble_eq_true rfl) dX3_move_12 (Nat.zero_le _) (Nat.zero_le _) ?_
  refine b_ifne (b := iw (nI (b0)) (nI (1)) (nI (63))) (tgt := 28) hx hb dX3_move_15 (by decide) (fun c_1 => ?_) (fun c_1 => ?_)
  rotate_left
  · exact absurd (c_1.symm.trans (iw_n hb1 hb2 (by decide))) (by decide)
  refine lv_aload_n hx hb dX3_move_28 rfl (lv_at hl 0 rfl) ?_
  refine va_get (D := D) (ci := 3) (v := .ref (q 1)) (C := RX3) (T := TX3) (N := 3) hx hb htA uwX3 hown hKK.1 hP 0 rfl rfl 0 (by decide) (htA _ wd_125) (fun _ h9 => h9) rfl dX3_move_29 ?_
  refine lv_iload_n hx hb dX3_move_32 rfl (lv_at hl 1 rfl) ?_
  refine roV1 (v := .int (nI (σ 4 j))) (As := [.int (nI (j))]) (rest := []) (n := 1) ⟨hx, hb, hml, hown, htA⟩ (c_boxesOf_t l D cI cZ sa q σ j s.heap (X_SS hP) (by omega)) (cwV 1 htA (gdV wd_294 wd_271 wd_272 wd_2 wd_273) rfl rfl rfl (by decide +kernel) ⟨Nat.le_of_ble_eq_true rfl, Nat.le_of_ble_eq_true rfl⟩) hKK hP 1 rfl rfl rfl hl.1 rfl (Nat.le_of_ble_eq_true rfl) dX3_move_33 (Nat.zero_le _) (Nat.zero_le _) ?_
  refine lv_istore_n (lv' := [(3, .int (nI (σ 4 j))), (0, .ref (q 0)), (1, .int (nI (j))), (2, .int (nI (b0)))]) hx hb dX3_move_36 rfl hl (by decide) rfl (fun ls hl => ?_)
  refine lv_aload_n hx hb dX3_move_37 rfl (lv_at hl 1 rfl) ?_
  refine va_get (D := D) (ci := 3) (v := .ref (q 1)) (C := RX3) (T := TX3) (N := 3) hx hb htA uwX3 hown hKK.1 hP 0 rfl rfl 0 (by decide) (htA _ wd_125) (fun _ h9 => h9) rfl dX3_move_38 ?_
  refine lv_iload_n hx hb dX3_move_41 rfl (lv_at hl 2 rfl) ?_
  refine lv_iload_n hx hb dX3_move_42 rfl (lv_at hl 3 rfl) ?_
  refine lv_aload_n hx hb dX3_move_43 rfl (lv_at hl 1 rfl) ?_
  refine va_get (D := D) (ci := 3) (v := .ref (q 1)) (C := RX3) (T := TX3) (N := 3) hx hb htA uwX3 hown hKK.1 hP 0 rfl rfl 0 (by decide) (htA _ wd_125) (fun _ h9 => h9) rfl dX3_move_44 ?_
  refine lv_iload_n hx hb dX3_move_47 rfl (lv_at hl 2 rfl) ?_
  refine roV1 (v := .int (nI (σ 5 j))) (As := [.int (nI (j))]) (rest := [.int (nI (b0)), .int (nI (j)), .ref (q 1)]) (n := 1) ⟨hx, hb, hml, hown, htA⟩ (c_keywordsOf_t l D cI cZ sa q σ j s.heap (X_SS hP) (by omega)) (cwV 1 htA (gdV wd_295 wd_296 wd_297 wd_2 wd_298) rfl rfl rfl (by decide +kernel) ⟨Nat.le_of_ble_eq_true rfl, Nat.le_of_ble_eq_true rfl⟩) hKK hP 1 rfl rfl rfl hl.1 rfl (Nat.le_of_ble_eq_true rfl) dX3_move_48 (Nat.zero_le _) (Nat.zero_le _) ?_
  refine roV1 (v := .int (b2i (false))) (As := [.int (nI (j)), .int (nI (b0)), .int (nI (σ 5 j))]) (rest := []) (n := 3) ⟨hx, hb, hml, hown, htA⟩ (c_change_s l D cI cZ sa q σ j b0 (σ 5 j) s.heap (X_SS hP) hj hB he rfl (by omega) (Nat.lt_trans (hB 5 j) (by decide))) (cwV 3 htA (gdV wd_299 wd_249 wd_250 wd_2 wd_251) rfl rfl rfl (by decide +kernel) ⟨Nat.le_of_ble_eq_true rfl, Nat.le_of_ble_eq_true rfl⟩) hKK hP 1 rfl rfl rfl hl.1 rfl (Nat.le_of_ble_eq_true rfl) dX3_move_51 (Nat.zero_le _) (Nat.zero_le _) ?_
  refine lv_pop hx hb dX3_move_54 rfl ?_
  refine lv_iload_n hx hb dX3_move_55 rfl (lv_at hl 0 rfl) ?_
  exact ro_i hx hb hr hlocks (rfl) dX3_move_56
set_option maxHeartbeats 4000000 in
set_option maxRecDepth 100000 in
theorem f_move_d (l : Launch) (D : va_G) (cI cZ : ClassId) (sa : Nat → Nat) (q : Nat → Nat) (σ κ0 κ1 : ST) (j b0 : Nat) (A : Nat → Prop) (hD : va_D A (wX q cI cZ σ κ0 κ1)) (hB : ∀ k i, σ k i < 1073741824) (hj : j < 60) (h40 : σ 4 j ≠ 0) (hb1 : 1 ≤ b0) (hb2 : b0 ≤ 63) (he : ¬ σ 4 j = b0) : Met l yX3_move (codeW yX3_move cX3_move 4 (some .int)) ({ frames := 4, cells := 0, slots := 0, locals := 90 } : Room) (WrP D cI cZ sa (wX q cI cZ σ κ0 κ1) [.ref (q 0), .int (nI (j)), .int (nI (b0))]) (WrQ (some (.int (nI (σ 4 j)))) D (wX q cI cZ (chg σ j b0 (σ 5 j)) κ0 κ1) A) 0 0 A := by
  refine Met.ofW (cc := cX3_move) (maxL := 4) (ret := (some .int)) (by decide) rfl ?_
  intro p e s m args below meth c s₁ B hml hv
  obtain ⟨rfl, hH, hKK⟩ := hv
  have hx := B.exec
  have hb := B.bytes
  have hr := B.returns
  have htA : ∀ w ∈ WA, w.before _ s = true := fun w h => atoms_spec (ws := (codeW yX3_move cX3_move 4 (some .int))) B.pre w (List.mem_cons_of_mem _ h)
  have hown : s.vm.findClass RX3 = some m.cls := findClass_of_methodNamed B.named
  have hlocks := B.notSynchronized
  have hP := hH
  have hS : va_S A s.heap s.heap [] := va_S.rf
  have hl := lv_entry ([.ref (q 0), .int (nI (j)), .int (nI (b0))]) (n := 4) (Nat.le_of_ble_eq_true rfl)
  rw [lg_entry_eq]
  generalize (lg_sl ([.ref (q 0), .int (nI (j)), .int (nI (b0))]) ++ List.replicate (4 - (lg_sl ([.ref (q 0), .int (nI (j)), .int (nI (b0))])).length) Slot.unset).toArray = ls at hl ⊢
  have hl : lv_has ls 4 [(0, .ref (q 0)), (1, .int (nI (j))), (2, .int (nI (b0)))] := hl
  refine lv_aload_n hx hb dX3_move_0 rfl (lv_at hl 0 rfl) ?_
  refine va_get (D := D) (ci := 3) (v := .ref (q 1)) (C := RX3) (T := TX3) (N := 3) hx hb htA uwX3 hown hKK.1 hP 0 rfl rfl 0 (by decide) (htA _ wd_125) (fun _ h9 => h9) rfl dX3_move_1 ?_
  refine lv_iload_n hx hb dX3_move_4 rfl (lv_at hl 1 rfl) ?_
  refine roV1 (v := .int (b2i (!decide (σ 4 j = 0)))) (As := [.int (nI (j))]) (rest := []) (n := 1) ⟨hx, hb, hml, hown, htA⟩ (c_isThere_t l D cI cZ sa q σ j s.heap (X_SS hP) (by omega) hB) (cwV 1 htA (gdV wd_266 wd_267 wd_268 wd_2 wd_269) rfl rfl rfl (by decide +kernel) ⟨Nat.le_of_ble_eq_true rfl, Nat.le_of_ble_eq_true rfl⟩) hKK hP 1 rfl rfl rfl hl.1 rfl (Nat.le_of_ble_eq_true rfl) dX3_move_5 (Nat.zero_le _) (Nat.zero_le _) ?_
  refine roS0 (As := [.int (b2i (!decide (σ 4 j = 0)))]) (rest := []) (n := 1) ⟨hx, hb, hml, hown, htA⟩ (c_reqMail_t l D cI cZ sa (!decide (σ 4 j = 0)) s.heap (there h40)) (va_cwS 1 htA (gdS wd_274 wd_275 wd_1 wd_276) rfl rfl rfl (by decide +kernel) ⟨Nat.le_of_ble_eq_true rfl, Nat.le_of_ble_eq_true rfl⟩) hKK rfl hl.1 rfl (Nat.le_of_ble_eq_true rfl) dX3_move_8 (Nat.zero_le _) (Nat.zero_le _) ?_
  refine lv_iload_n hx hb dX3_move_11 rfl (lv_at hl 2 rfl) ?_
  refine roS1 (v := .int (b2i (iw (nI (b0)) (nI (1)) (nI (63))))) (As := [.int (nI (b0))]) (rest := []) (n := 1) ⟨hx, hb, hml, hown, htA⟩ (c_isBoxSet l D cI cZ sa (nI (b0)) s.heap ) (va_cwS 1 htA (gdS wd_142 wd_143 wd_1 wd_144) rfl rfl rfl (by decide +kernel) ⟨Nat.le_of_ble_eq_true rfl, Nat.le_of_ble_eq_true rfl⟩) hKK rfl hl.1 rfl (Nat.le_of_ble_eq_true rfl) dX3_move_12 (Nat.zero_le _) (Nat.zero_le _) ?_
  refine b_ifne (b := iw (nI (b0)) (nI (1)) (nI (63))) (tgt := 28) hx hb dX3_move_15 (by decide) (fun c_1 => ?_) (fun c_1 => ?_)
  rotate_left
  · exact absurd (c_1.symm.trans (iw_n hb1 hb2 (by decide))) (by decide)
  refine lv_aload_n hx hb dX3_move_28 rfl (lv_at hl 0 rfl) ?_
  refine va_get (D := D) (ci := 3) (v := .ref (q 1)) (C := RX3) (T := TX3) (N := 3) hx hb htA uwX3 hown hKK.1 hP 0 rfl rfl 0 (by decide) (htA _ wd_125) (fun _ h9 => h9) rfl dX3_move_29 ?_
  refine lv_iload_n hx hb dX3_move_32 rfl (lv_at hl 1 rfl) ?_
  refine roV1 (v := .int (nI (σ 4 j))) (As := [.int (nI (j))]) (rest := []) (n := 1) ⟨hx, hb, hml, hown, htA⟩ (c_boxesOf_t l D cI cZ sa q σ j s.heap (X_SS hP) (by omega)) (cwV 1 htA (gdV wd_294 wd_271 wd_272 wd_2 wd_273) rfl rfl rfl (by decide +kernel) ⟨Nat.le_of_ble_eq_true rfl, Nat.le_of_ble_eq_true rfl⟩) hKK hP 1 rfl rfl rfl hl.1 rfl (Nat.le_of_ble_eq_true rfl) dX3_move_33 (Nat.zero_le _) (Nat.zero_le _) ?_
  refine lv_istore_n (lv' := [(3, .int (nI (σ 4 j))), (0, .ref (q 0)), (1, .int (nI (j))), (2, .int (nI (b0)))]) hx hb dX3_move_36 rfl hl (by decide) rfl (fun ls hl => ?_)
  refine lv_aload_n hx hb dX3_move_37 rfl (lv_at hl 1 rfl) ?_
  refine va_get (D := D) (ci := 3) (v := .ref (q 1)) (C := RX3) (T := TX3) (N := 3) hx hb htA uwX3 hown hKK.1 hP 0 rfl rfl 0 (by decide) (htA _ wd_125) (fun _ h9 => h9) rfl dX3_move_38 ?_
  refine lv_iload_n hx hb dX3_move_41 rfl (lv_at hl 2 rfl) ?_
  refine lv_iload_n hx hb dX3_move_42 rfl (lv_at hl 3 rfl) ?_
  refine lv_aload_n hx hb dX3_move_43 rfl (lv_at hl 1 rfl) ?_
  refine va_get (D := D) (ci := 3) (v := .ref (q 1)) (C := RX3) (T := TX3) (N := 3) hx hb htA uwX3 hown hKK.1 hP 0 rfl rfl 0 (by decide) (htA _ wd_125) (fun _ h9 => h9) rfl dX3_move_44 ?_
  refine lv_iload_n hx hb dX3_move_47 rfl (lv_at hl 2 rfl) ?_
  refine roV1 (v := .int (nI (σ 5 j))) (As := [.int (nI (j))]) (rest := [.int (nI (b0)), .int (nI (j)), .ref (q 1)]) (n := 1) ⟨hx, hb, hml, hown, htA⟩ (c_keywordsOf_t l D cI cZ sa q σ j s.heap (X_SS hP) (by omega)) (cwV 1 htA (gdV wd_295 wd_296 wd_297 wd_2 wd_298) rfl rfl rfl (by decide +kernel) ⟨Nat.le_of_ble_eq_true rfl, Nat.le_of_ble_eq_true rfl⟩) hKK hP 1 rfl rfl rfl hl.1 rfl (Nat.le_of_ble_eq_true rfl) dX3_move_48 (Nat.zero_le _) (Nat.zero_le _) ?_
  refine wrV1 (v := .int (b2i (true))) (As := [.int (nI (j)), .int (nI (b0)), .int (nI (σ 5 j))]) (rest := []) (n := 3) ⟨hx, hb, hml, hown, htA⟩ (c_change_d l D cI cZ sa q σ j b0 (σ 5 j) (adr (wSS q cI σ)) (D_adr (X_DSS (cZ := cZ) (σ := σ) (κ0 := κ0) (κ1 := κ1) (D_addr hD rfl))) hj hB (fun h => he h.1) (by omega) (Nat.lt_trans (hB 5 j) (by decide))) (cwV 3 htA (gdV wd_299 wd_249 wd_250 wd_2 wd_251) rfl rfl rfl (by decide +kernel) ⟨Nat.le_of_ble_eq_true rfl, Nat.le_of_ble_eq_true rfl⟩) hKK (X_SS hP) 0 rfl rfl rfl hl.1 rfl (Nat.le_of_ble_eq_true rfl) dX3_move_51 (Nat.zero_le _) (Nat.zero_le _) hS (fun a h => adr_in (X_DSS (cZ := cZ) (σ := σ) (κ0 := κ0) (κ1 := κ1) (D_addr hD rfl)) a h) (fun H1 locs hP1 hz1 hk1 hS => ?_)
  have hP : va_P D vwCl (wX q cI cZ (chg σ j b0 (σ 5 j)) κ0 κ1) H1 := X_putS hD hP hk1 hP1
  generalize H1 = H at hP hS ⊢
  refine lv_pop hx hb dX3_move_54 rfl ?_
  refine lv_iload_n hx hb dX3_move_55 rfl (lv_at hl 0 rfl) ?_
  exact wr_i hx hb hr hlocks (rfl) hP hS dX3_move_56
set_option maxHeartbeats 4000000 in
set_option maxRecDepth 100000 in
theorem f_flag_ok (l : Launch) (D : va_G) (cI cZ : ClassId) (sa : Nat → Nat) (q : Nat → Nat) (σ κ0 κ1 : ST) (j k9 w0 : Nat) (A : Nat → Prop) (hD : va_D A (wX q cI cZ σ κ0 κ1)) (hB : ∀ k i, σ k i < 1073741824) (hj : j < 60) (h40 : σ 4 j ≠ 0) (h15 : ∀ i, σ 5 i < 16) (hk9 : k9 < 4) (hw9 : w0 < 2) : Met l yX3_flag (codeW yX3_flag cX3_flag 4 (some .boolean)) ({ frames := 5, cells := 0, slots := 0, locals := 113 } : Room) (WrP D cI cZ sa (wX q cI cZ σ κ0 κ1) [.ref (q 0), .int (nI (j)), .int (nI (k9)), .int (nI (w0))]) (WrQ (some (.int (b2i (!(decide (σ 5 j = wn (σ 5 j) k9 (nb w0))))))) D (wX q cI cZ (sk σ j k9 w0) κ0 κ1) A) 0 0 A := by
  refine Met.ofW (cc := cX3_flag) (maxL := 4) (ret := (some .boolean)) (by decide) rfl ?_
  intro p e s m args below meth c s₁ B hml hv
  obtain ⟨rfl, hH, hKK⟩ := hv
  have hx := B.exec
  have hb := B.bytes
  have hr := B.returns
  have htA : ∀ w ∈ WA, w.before _ s = true := fun w h => atoms_spec (ws := (codeW yX3_flag cX3_flag 4 (some .boolean))) B.pre w (List.mem_cons_of_mem _ h)
  have hown : s.vm.findClass RX3 = some m.cls := findClass_of_methodNamed B.named
  have hlocks := B.notSynchronized
  have hP := hH
  have hS : va_S A s.heap s.heap [] := va_S.rf
  have hl := lv_entry ([.ref (q 0), .int (nI (j)), .int (nI (k9)), .int (nI (w0))]) (n := 4) (Nat.le_of_ble_eq_true rfl)
  rw [lg_entry_eq]
  generalize (lg_sl ([.ref (q 0), .int (nI (j)), .int (nI (k9)), .int (nI (w0))]) ++ List.replicate (4 - (lg_sl ([.ref (q 0), .int (nI (j)), .int (nI (k9)), .int (nI (w0))])).length) Slot.unset).toArray = ls at hl ⊢
  have hl : lv_has ls 4 [(0, .ref (q 0)), (1, .int (nI (j))), (2, .int (nI (k9))), (3, .int (nI (w0)))] := hl
  refine lv_aload_n hx hb dX3_flag_0 rfl (lv_at hl 0 rfl) ?_
  refine va_get (D := D) (ci := 3) (v := .ref (q 1)) (C := RX3) (T := TX3) (N := 3) hx hb htA uwX3 hown hKK.1 hP 0 rfl rfl 0 (by decide) (htA _ wd_125) (fun _ h9 => h9) rfl dX3_flag_1 ?_
  refine lv_iload_n hx hb dX3_flag_4 rfl (lv_at hl 1 rfl) ?_
  refine roV1 (v := .int (b2i (!decide (σ 4 j = 0)))) (As := [.int (nI (j))]) (rest := []) (n := 1) ⟨hx, hb, hml, hown, htA⟩ (c_isThere_t l D cI cZ sa q σ j s.heap (X_SS hP) (by omega) hB) (cwV 1 htA (gdV wd_266 wd_267 wd_268 wd_2 wd_269) rfl rfl rfl (by decide +kernel) ⟨Nat.le_of_ble_eq_true rfl, Nat.le_of_ble_eq_true rfl⟩) hKK hP 1 rfl rfl rfl hl.1 rfl (Nat.le_of_ble_eq_true rfl) dX3_flag_5 (Nat.zero_le _) (Nat.zero_le _) ?_
  refine roS0 (As := [.int (b2i (!decide (σ 4 j = 0)))]) (rest := []) (n := 1) ⟨hx, hb, hml, hown, htA⟩ (c_reqMail_t l D cI cZ sa (!decide (σ 4 j = 0)) s.heap (there h40)) (va_cwS 1 htA (gdS wd_274 wd_275 wd_1 wd_276) rfl rfl rfl (by decide +kernel) ⟨Nat.le_of_ble_eq_true rfl, Nat.le_of_ble_eq_true rfl⟩) hKK rfl hl.1 rfl (Nat.le_of_ble_eq_true rfl) dX3_flag_8 (Nat.zero_le _) (Nat.zero_le _) ?_
  refine lv_iload_n hx hb dX3_flag_11 rfl (lv_at hl 2 rfl) ?_
  refine roS1 (v := .int (b2i (iw (nI (k9)) (nI (0)) (nI (3))))) (As := [.int (nI (k9))]) (rest := []) (n := 1) ⟨hx, hb, hml, hown, htA⟩ (c_isKeyword l D cI cZ sa (nI (k9)) s.heap ) (va_cwS 1 htA (gdS wd_304 wd_305 wd_1 wd_306) rfl rfl rfl (by decide +kernel) ⟨Nat.le_of_ble_eq_true rfl, Nat.le_of_ble_eq_true rfl⟩) hKK rfl hl.1 rfl (Nat.le_of_ble_eq_true rfl) dX3_flag_12 (Nat.zero_le _) (Nat.zero_le _) ?_
  refine b_ifne (b := iw (nI (k9)) (nI (0)) (nI (3))) (tgt := 28) hx hb dX3_flag_15 (by decide) (fun c_1 => ?_) (fun c_1 => ?_)
  rotate_left
  · exact absurd (c_1.symm.trans (iw_n (Nat.zero_le _) (by omega) (by decide))) (by decide)
  refine lv_aload_n hx hb dX3_flag_28 rfl (lv_at hl 0 rfl) ?_
  refine va_get (D := D) (ci := 3) (v := .ref (q 1)) (C := RX3) (T := TX3) (N := 3) hx hb htA uwX3 hown hKK.1 hP 0 rfl rfl 0 (by decide) (htA _ wd_125) (fun _ h9 => h9) rfl dX3_flag_29 ?_
  refine lv_iload_n hx hb dX3_flag_32 rfl (lv_at hl 1 rfl) ?_
  refine lv_iload_n hx hb dX3_flag_33 rfl (lv_at hl 2 rfl) ?_
  refine lv_iload_n hx hb dX3_flag_34 rfl (lv_at hl 3 rfl) ?_
  refine wrV1 (v := .int (b2i (!(decide (σ 5 j = wn (σ 5 j) k9 (nb w0)))))) (As := [.int (nI (j)), .int (nI (k9)), .int (nI (w0))]) (rest := []) (n := 3) ⟨hx, hb, hml, hown, htA⟩ (c_setKeyword l D cI cZ sa q σ j k9 w0 (adr (wSS q cI σ)) (D_adr (X_DSS (cZ := cZ) (σ := σ) (κ0 := κ0) (κ1 := κ1) (D_addr hD rfl))) hj hB h15 hk9 hw9) (cwV 3 htA (gdV wd_308 wd_309 wd_310 wd_2 wd_311) rfl rfl rfl (by decide +kernel) ⟨Nat.le_of_ble_eq_true rfl, Nat.le_of_ble_eq_true rfl⟩) hKK (X_SS hP) 0 rfl rfl rfl hl.1 rfl (Nat.le_of_ble_eq_true rfl) dX3_flag_35 (Nat.zero_le _) (Nat.zero_le _) hS (fun a h => adr_in (X_DSS (cZ := cZ) (σ := σ) (κ0 := κ0) (κ1 := κ1) (D_addr hD rfl)) a h) (fun H1 locs hP1 hz1 hk1 hS => ?_)
  have hP : va_P D vwCl (wX q cI cZ (sk σ j k9 w0) κ0 κ1) H1 := X_putS hD hP hk1 hP1
  generalize H1 = H at hP hS ⊢
  exact wr_z (v := !(decide (σ 5 j = wn (σ 5 j) k9 (nb w0)))) hx hb hr hlocks (rfl) hP hS dX3_flag_38
set_option maxHeartbeats 4000000 in
set_option maxRecDepth 100000 in
theorem f_flagIf_ok (l : Launch) (D : va_G) (cI cZ : ClassId) (sa : Nat → Nat) (q : Nat → Nat) (σ κ0 κ1 : ST) (j k9 w0 : Nat) (z : Int32) (A : Nat → Prop) (hD : va_D A (wX q cI cZ σ κ0 κ1)) (hB : ∀ k i, σ k i < 1073741824) (hj : j < 60) (h40 : σ 4 j ≠ 0) (h15 : ∀ i, σ 5 i < 16) (hk9 : k9 < 4) (hw9 : w0 < 2) (hz9 : z = nI (σ 7 0)) : Met l yX3_flagIf (codeW yX3_flagIf cX3_flagIf 5 (some .boolean)) ({ frames := 5, cells := 0, slots := 0, locals := 113 } : Room) (WrP D cI cZ sa (wX q cI cZ σ κ0 κ1) [.ref (q 0), .int (nI (j)), .int (nI (k9)), .int (nI (w0)), .int (z)]) (WrQ (some (.int (b2i (!(decide (σ 5 j = wn (σ 5 j) k9 (nb w0))))))) D (wX q cI cZ (sk σ j k9 w0) κ0 κ1) A) 0 0 A := by
  refine Met.ofW (cc := cX3_flagIf) (maxL := 5) (ret := (some .boolean)) (by decide) rfl ?_
  intro p e s m args below meth c s₁ B hml hv
  obtain ⟨rfl, hH, hKK⟩ := hv
  have hx := B.exec
  have hb := B.bytes
  have hr := B.returns
  have htA : ∀ w ∈ WA, w.before _ s = true := fun w h => atoms_spec (ws := (codeW yX3_flagIf cX3_flagIf 5 (some .boolean))) B.pre w (List.mem_cons_of_mem _ h)
  have hown : s.vm.findClass RX3 = some m.cls := findClass_of_methodNamed B.named
  have hlocks := B.notSynchronized
  have hP := hH
  have hS : va_S A s.heap s.heap [] := va_S.rf
  have hl := lv_entry ([.ref (q 0), .int (nI (j)), .int (nI (k9)), .int (nI (w0)), .int (z)]) (n := 5) (Nat.le_of_ble_eq_true rfl)
  rw [lg_entry_eq]
  generalize (lg_sl ([.ref (q 0), .int (nI (j)), .int (nI (k9)), .int (nI (w0)), .int (z)]) ++ List.replicate (5 - (lg_sl ([.ref (q 0), .int (nI (j)), .int (nI (k9)), .int (nI (w0)), .int (z)])).length) Slot.unset).toArray = ls at hl ⊢
  have hl : lv_has ls 5 [(0, .ref (q 0)), (1, .int (nI (j))), (2, .int (nI (k9))), (3, .int (nI (w0))), (4, .int (z))] := hl
  refine lv_aload_n hx hb dX3_flagIf_0 rfl (lv_at hl 0 rfl) ?_
  refine va_get (D := D) (ci := 3) (v := .ref (q 1)) (C := RX3) (T := TX3) (N := 3) hx hb htA uwX3 hown hKK.1 hP 0 rfl rfl 0 (by decide) (htA _ wd_125) (fun _ h9 => h9) rfl dX3_flagIf_1 ?_
  refine lv_iload_n hx hb dX3_flagIf_4 rfl (lv_at hl 1 rfl) ?_
  refine roV1 (v := .int (b2i (!decide (σ 4 j = 0)))) (As := [.int (nI (j))]) (rest := []) (n := 1) ⟨hx, hb, hml, hown, htA⟩ (c_isThere_t l D cI cZ sa q σ j s.heap (X_SS hP) (by omega) hB) (cwV 1 htA (gdV wd_266 wd_267 wd_268 wd_2 wd_269) rfl rfl rfl (by decide +kernel) ⟨Nat.le_of_ble_eq_true rfl, Nat.le_of_ble_eq_true rfl⟩) hKK hP 1 rfl rfl rfl hl.1 rfl (Nat.le_of_ble_eq_true rfl) dX3_flagIf_5 (Nat.zero_le _) (Nat.zero_le _) ?_
  refine roS0 (As := [.int (b2i (!decide (σ 4 j = 0)))]) (rest := []) (n := 1) ⟨hx, hb, hml, hown, htA⟩ (c_reqMail_t l D cI cZ sa (!decide (σ 4 j = 0)) s.heap (there h40)) (va_cwS 1 htA (gdS wd_274 wd_275 wd_1 wd_276) rfl rfl rfl (by decide +kernel) ⟨Nat.le_of_ble_eq_true rfl, Nat.le_of_ble_eq_true rfl⟩) hKK rfl hl.1 rfl (Nat.le_of_ble_eq_true rfl) dX3_flagIf_8 (Nat.zero_le _) (Nat.zero_le _) ?_
  refine lv_iload_n hx hb dX3_flagIf_11 rfl (lv_at hl 2 rfl) ?_
  refine roS1 (v := .int (b2i (iw (nI (k9)) (nI (0)) (nI (3))))) (As := [.int (nI (k9))]) (rest := []) (n := 1) ⟨hx, hb, hml, hown, htA⟩ (c_isKeyword l D cI cZ sa (nI (k9)) s.heap ) (va_cwS 1 htA (gdS wd_304 wd_305 wd_1 wd_306) rfl rfl rfl (by decide +kernel) ⟨Nat.le_of_ble_eq_true rfl, Nat.le_of_ble_eq_true rfl⟩) hKK rfl hl.1 rfl (Nat.le_of_ble_eq_true rfl) dX3_flagIf_12 (Nat.zero_le _) (Nat.zero_le _) ?_
  refine b_ifne (b := iw (nI (k9)) (nI (0)) (nI (3))) (tgt := 28) hx hb dX3_flagIf_15 (by decide) (fun c_1 => ?_) (fun c_1 => ?_)
  rotate_left
  · exact absurd (c_1.symm.trans (iw_n (Nat.zero_le _) (by omega) (by decide))) (by decide)
  refine lv_iload hx hb dX3_flagIf_28 (lv_at hl 4 rfl) ?_
  refine lv_aload_n hx hb dX3_flagIf_30 rfl (lv_at hl 0 rfl) ?_
  refine va_get (D := D) (ci := 3) (v := .ref (q 1)) (C := RX3) (T := TX3) (N := 3) hx hb htA uwX3 hown hKK.1 hP 0 rfl rfl 0 (by decide) (htA _ wd_125) (fun _ h9 => h9) rfl dX3_flagIf_31 ?_
  refine va_getN (D := D) (ci := 2) (v := .ref (q 7)) (C := RX2) (T := TX2) (N := 7) hx hb htA uwX2 hown hKK.1 hP 1 rfl rfl 5 (by decide) (va_Nw.use rfl (ex_RX3_85 hKK.2)) (fun _ h9 => h9) rfl dX3_flagIf_34 ?_
  refine va_getN (D := D) (ci := 0) (v := .int (nI (σ 7 0))) (C := RX0) (T := TX0) (N := 5) hx hb htA uwX0 hown hKK.1 hP 7 rfl rfl 4 (by decide) (va_Nw.use rfl (ex_RX3_89 hKK.2)) (fun _ h9 => h9) rfl dX3_flagIf_37 ?_
  refine lv_icmp_eq (x := z) (y := nI (σ 7 0)) (tgt := 53) hx hb dX3_flagIf_40 (by decide) (fun c_2 => ?_) (fun c_2 => ?_)
  rotate_left
  · exact absurd hz9 c_2
  refine lv_aload_n hx hb dX3_flagIf_53 rfl (lv_at hl 0 rfl) ?_
  refine va_get (D := D) (ci := 3) (v := .ref (q 1)) (C := RX3) (T := TX3) (N := 3) hx hb htA uwX3 hown hKK.1 hP 0 rfl rfl 0 (by decide) (htA _ wd_125) (fun _ h9 => h9) rfl dX3_flagIf_54 ?_
  refine lv_iload_n hx hb dX3_flagIf_57 rfl (lv_at hl 1 rfl) ?_
  refine lv_iload_n hx hb dX3_flagIf_58 rfl (lv_at hl 2 rfl) ?_
  refine lv_iload_n hx hb dX3_flagIf_59 rfl (lv_at hl 3 rfl) ?_
  refine wrV1 (v := .int (b2i (!(decide (σ 5 j = wn (σ 5 j) k9 (nb w0)))))) (As := [.int (nI (j)), .int (nI (k9)), .int (nI (w0))]) (rest := []) (n := 3) ⟨hx, hb, hml, hown, htA⟩ (c_setKeyword l D cI cZ sa q σ j k9 w0 (adr (wSS q cI σ)) (D_adr (X_DSS (cZ := cZ) (σ := σ) (κ0 := κ0) (κ1 := κ1) (D_addr hD rfl))) hj hB h15 hk9 hw9) (cwV 3 htA (gdV wd_308 wd_309 wd_310 wd_2 wd_311) rfl rfl rfl (by decide +kernel) ⟨Nat.le_of_ble_eq_true rfl, Nat.le_of_ble_eq_true rfl⟩) hKK (X_SS hP) 0 rfl rfl rfl hl.1 rfl (Nat.le_of_ble_eq_true rfl) dX3_flagIf_60 (Nat.zero_le _) (Nat.zero_le _) hS (fun a h => adr_in (X_DSS (cZ := cZ) (σ := σ) (κ0 := κ0) (κ1 := κ1) (D_addr hD rfl)) a h) (fun H1 locs hP1 hz1 hk1 hS => ?_)
  have hP : va_P D vwCl (wX q cI cZ (sk σ j k9 w0) κ0 κ1) H1 := X_putS hD hP hk1 hP1
  generalize H1 = H at hP hS ⊢
  exact wr_z (v := !(decide (σ 5 j = wn (σ 5 j) k9 (nb w0)))) hx hb hr hlocks (rfl) hP hS dX3_flagIf_63
set_option maxHeartbeats 4000000 in
set_option maxRecDepth 100000 in
theorem f_destroy_ok (l : Launch) (D : va_G) (cI cZ : ClassId) (sa : Nat → Nat) (q : Nat → Nat) (σ κ0 κ1 : ST) (j : Nat) (A : Nat → Prop) (hD : va_D A (wX q cI cZ σ κ0 κ1)) (hB : ∀ k i, σ k i < 1073741824) (hj : j < 60) (h40 : σ 4 j ≠ 0) : Met l yX3_destroy (codeW yX3_destroy cX3_destroy 2 (some .int)) ({ frames := 4, cells := 0, slots := 0, locals := 90 } : Room) (WrP D cI cZ sa (wX q cI cZ σ κ0 κ1) [.ref (q 0), .int (nI (j))]) (WrQ (some (.int (nI (σ 7 0 + 1)))) D (wX q cI cZ (chg σ j 0 (σ 5 j)) κ0 κ1) A) 0 0 A := by
  refine Met.ofW (cc := cX3_destroy) (maxL := 2) (ret := (some .int)) (by decide) rfl ?_
  intro p e s m args below meth c s₁ B hml hv
  obtain ⟨rfl, hH, hKK⟩ := hv
  have hx := B.exec
  have hb := B.bytes
  have hr := B.returns
  have htA : ∀ w ∈ WA, w.before _ s = true := fun w h => atoms_spec (ws := (codeW yX3_destroy cX3_destroy 2 (some .int))) B.pre w (List.mem_cons_of_mem _ h)
  have hown : s.vm.findClass RX3 = some m.cls := findClass_of_methodNamed B.named
  have hlocks := B.notSynchronized
  have hP := hH
  have hS : va_S A s.heap s.heap [] := va_S.rf
  have hl := lv_entry ([.ref (q 0), .int (nI (j))]) (n := 2) (Nat.le_of_ble_eq_true rfl)
  rw [lg_entry_eq]
  generalize (lg_sl ([.ref (q 0), .int (nI (j))]) ++ List.replicate (2 - (lg_sl ([.ref (q 0), .int (nI (j))])).length) Slot.unset).toArray = ls at hl ⊢
  have hl : lv_has ls 2 [(0, .ref (q 0)), (1, .int (nI (j)))] := hl
  refine lv_aload_n hx hb dX3_destroy_0 rfl (lv_at hl 0 rfl) ?_
  refine va_get (D := D) (ci := 3) (v := .ref (q 1)) (C := RX3) (T := TX3) (N := 3) hx hb htA uwX3 hown hKK.1 hP 0 rfl rfl 0 (by decide) (htA _ wd_125) (fun _ h9 => h9) rfl dX3_destroy_1 ?_
  refine lv_iload_n hx hb dX3_destroy_4 rfl (lv_at hl 1 rfl) ?_
  refine roV1 (v := .int (b2i (!decide (σ 4 j = 0)))) (As := [.int (nI (j))]) (rest := []) (n := 1) ⟨hx, hb, hml, hown, htA⟩ (c_isThere_t l D cI cZ sa q σ j s.heap (X_SS hP) (by omega) hB) (cwV 1 htA (gdV wd_266 wd_267 wd_268 wd_2 wd_269) rfl rfl rfl (by decide +kernel) ⟨Nat.le_of_ble_eq_true rfl, Nat.le_of_ble_eq_true rfl⟩) hKK hP 1 rfl rfl rfl hl.1 rfl (Nat.le_of_ble_eq_true rfl) dX3_destroy_5 (Nat.zero_le _) (Nat.zero_le _) ?_
  refine roS0 (As := [.int (b2i (!decide (σ 4 j = 0)))]) (rest := []) (n := 1) ⟨hx, hb, hml, hown, htA⟩ (c_reqMail_t l D cI cZ sa (!decide (σ 4 j = 0)) s.heap (there h40)) (va_cwS 1 htA (gdS wd_274 wd_275 wd_1 wd_276) rfl rfl rfl (by decide +kernel) ⟨Nat.le_of_ble_eq_true rfl, Nat.le_of_ble_eq_true rfl⟩) hKK rfl hl.1 rfl (Nat.le_of_ble_eq_true rfl) dX3_destroy_8 (Nat.zero_le _) (Nat.zero_le _) ?_
  refine lv_aload_n hx hb dX3_destroy_11 rfl (lv_at hl 0 rfl) ?_
  refine va_get (D := D) (ci := 3) (v := .ref (q 1)) (C := RX3) (T := TX3) (N := 3) hx hb htA uwX3 hown hKK.1 hP 0 rfl rfl 0 (by decide) (htA _ wd_125) (fun _ h9 => h9) rfl dX3_destroy_12 ?_
  refine lv_iload_n hx hb dX3_destroy_15 rfl (lv_at hl 1 rfl) ?_
  refine n_iconst (k := 0) hx hb dX3_destroy_16 (by decide) ?_
  refine lv_aload_n hx hb dX3_destroy_17 rfl (lv_at hl 0 rfl) ?_
  refine va_get (D := D) (ci := 3) (v := .ref (q 1)) (C := RX3) (T := TX3) (N := 3) hx hb htA uwX3 hown hKK.1 hP 0 rfl rfl 0 (by decide) (htA _ wd_125) (fun _ h9 => h9) rfl dX3_destroy_18 ?_
  refine lv_iload_n hx hb dX3_destroy_21 rfl (lv_at hl 1 rfl) ?_
  refine roV1 (v := .int (nI (σ 5 j))) (As := [.int (nI (j))]) (rest := [.int (nI (0)), .int (nI (j)), .ref (q 1)]) (n := 1) ⟨hx, hb, hml, hown, htA⟩ (c_keywordsOf_t l D cI cZ sa q σ j s.heap (X_SS hP) (by omega)) (cwV 1 htA (gdV wd_295 wd_296 wd_297 wd_2 wd_298) rfl rfl rfl (by decide +kernel) ⟨Nat.le_of_ble_eq_true rfl, Nat.le_of_ble_eq_true rfl⟩) hKK hP 1 rfl rfl rfl hl.1 rfl (Nat.le_of_ble_eq_true rfl) dX3_destroy_22 (Nat.zero_le _) (Nat.zero_le _) ?_
  refine wrV1 (v := .int (b2i (true))) (As := [.int (nI (j)), .int (nI (0)), .int (nI (σ 5 j))]) (rest := []) (n := 3) ⟨hx, hb, hml, hown, htA⟩ (c_change_d l D cI cZ sa q σ j 0 (σ 5 j) (adr (wSS q cI σ)) (D_adr (X_DSS (cZ := cZ) (σ := σ) (κ0 := κ0) (κ1 := κ1) (D_addr hD rfl))) hj hB (fun h => h40 h.1) (by decide) (Nat.lt_trans (hB 5 j) (by decide))) (cwV 3 htA (gdV wd_299 wd_249 wd_250 wd_2 wd_251) rfl rfl rfl (by decide +kernel) ⟨Nat.le_of_ble_eq_true rfl, Nat.le_of_ble_eq_true rfl⟩) hKK (X_SS hP) 0 rfl rfl rfl hl.1 rfl (Nat.le_of_ble_eq_true rfl) dX3_destroy_25 (Nat.zero_le _) (Nat.zero_le _) hS (fun a h => adr_in (X_DSS (cZ := cZ) (σ := σ) (κ0 := κ0) (κ1 := κ1) (D_addr hD rfl)) a h) (fun H1 locs hP1 hz1 hk1 hS => ?_)
  have hP : va_P D vwCl (wX q cI cZ (chg σ j 0 (σ 5 j)) κ0 κ1) H1 := X_putS hD hP hk1 hP1
  generalize H1 = H at hP hS ⊢
  refine lv_pop hx hb dX3_destroy_28 rfl ?_
  refine lv_aload_n hx hb dX3_destroy_29 rfl (lv_at hl 0 rfl) ?_
  refine va_get (D := D) (ci := 3) (v := .ref (q 1)) (C := RX3) (T := TX3) (N := 3) hx hb htA uwX3 hown hKK.1 hP 0 rfl rfl 0 (by decide) (htA _ wd_125) (fun _ h9 => h9) rfl dX3_destroy_30 ?_
  refine va_getN (D := D) (ci := 2) (v := .ref (q 7)) (C := RX2) (T := TX2) (N := 7) hx hb htA uwX2 hown hKK.1 hP 1 rfl rfl 5 (by decide) (va_Nw.use rfl (ex_RX3_85 hKK.2)) (fun _ h9 => h9) rfl dX3_destroy_33 ?_
  refine va_getN (D := D) (ci := 0) (v := .int (nI ((chg σ j 0 (σ 5 j)) 7 0))) (C := RX0) (T := TX0) (N := 5) hx hb htA uwX0 hown hKK.1 hP 7 rfl rfl 4 (by decide) (va_Nw.use rfl (ex_RX3_89 hKK.2)) (fun _ h9 => h9) rfl dX3_destroy_36 ?_
  exact wr_i hx hb hr hlocks (rfl) hP hS dX3_destroy_39
set_option maxHeartbeats 4000000 in
set_option maxRecDepth 100000 in
theorem f_state (l : Launch) (D : va_G) (cI cZ : ClassId) (sa : Nat → Nat) (q : Nat → Nat) (σ κ0 κ1 : ST)  (H : Heap) (hP : va_P D vwCl (wX q cI cZ σ κ0 κ1) H)  : Met l yX3_state (codeW yX3_state cX3_state 1 (some .int)) ({ frames := 0, cells := 0, slots := 0, locals := 0 } : Room) (RoP D cI cZ sa H [.ref (q 0)]) (RoQ (some (.int (nI (σ 7 0)))) H) 0 0 RoF := by
  refine Met.ofW (cc := cX3_state) (maxL := 1) (ret := (some .int)) (by decide) rfl ?_
  intro p e s m args below meth c s₁ B hml hv
  obtain ⟨rfl, hH, hKK⟩ := hv
  subst hH
  have hx := B.exec
  have hb := B.bytes
  have hr := B.returns
  have htA : ∀ w ∈ WA, w.before _ s = true := fun w h => atoms_spec (ws := (codeW yX3_state cX3_state 1 (some .int))) B.pre w (List.mem_cons_of_mem _ h)
  have hown : s.vm.findClass RX3 = some m.cls := findClass_of_methodNamed B.named
  have hlocks := B.notSynchronized
  have hl := lv_entry ([.ref (q 0)]) (n := 1) (Nat.le_of_ble_eq_true rfl)
  rw [lg_entry_eq]
  generalize (lg_sl ([.ref (q 0)]) ++ List.replicate (1 - (lg_sl ([.ref (q 0)])).length) Slot.unset).toArray = ls at hl ⊢
  have hl : lv_has ls 1 [(0, .ref (q 0))] := hl
  refine lv_aload_n hx hb dX3_state_0 rfl (lv_at hl 0 rfl) ?_
  refine va_get (D := D) (ci := 3) (v := .ref (q 1)) (C := RX3) (T := TX3) (N := 3) hx hb htA uwX3 hown hKK.1 hP 0 rfl rfl 0 (by decide) (htA _ wd_125) (fun _ h9 => h9) rfl dX3_state_1 ?_
  refine va_getN (D := D) (ci := 2) (v := .ref (q 7)) (C := RX2) (T := TX2) (N := 7) hx hb htA uwX2 hown hKK.1 hP 1 rfl rfl 5 (by decide) (va_Nw.use rfl (ex_RX3_85 hKK.2)) (fun _ h9 => h9) rfl dX3_state_4 ?_
  refine va_getN (D := D) (ci := 0) (v := .int (nI (σ 7 0))) (C := RX0) (T := TX0) (N := 5) hx hb htA uwX0 hown hKK.1 hP 7 rfl rfl 4 (by decide) (va_Nw.use rfl (ex_RX3_89 hKK.2)) (fun _ h9 => h9) rfl dX3_state_7 ?_
  exact ro_i hx hb hr hlocks (rfl) dX3_state_10
set_option maxHeartbeats 4000000 in
set_option maxRecDepth 100000 in
theorem f_mails (l : Launch) (D : va_G) (cI cZ : ClassId) (sa : Nat → Nat) (q : Nat → Nat) (σ κ0 κ1 : ST)  (H : Heap) (hP : va_P D vwCl (wX q cI cZ σ κ0 κ1) H)  : Met l yX3_mails (codeW yX3_mails cX3_mails 1 (some .int)) ({ frames := 2, cells := 0, slots := 0, locals := 48 } : Room) (RoP D cI cZ sa H [.ref (q 0)]) (RoQ (some (.int (nI (cnt (fun j => mt (σ 4 j) (σ 5 j) 63 0) 60)))) H) 0 0 RoF := by
  refine Met.ofW (cc := cX3_mails) (maxL := 1) (ret := (some .int)) (by decide) rfl ?_
  intro p e s m args below meth c s₁ B hml hv
  obtain ⟨rfl, hH, hKK⟩ := hv
  subst hH
  have hx := B.exec
  have hb := B.bytes
  have hr := B.returns
  have htA : ∀ w ∈ WA, w.before _ s = true := fun w h => atoms_spec (ws := (codeW yX3_mails cX3_mails 1 (some .int))) B.pre w (List.mem_cons_of_mem _ h)
  have hown : s.vm.findClass RX3 = some m.cls := findClass_of_methodNamed B.named
  have hlocks := B.notSynchronized
  have hl := lv_entry ([.ref (q 0)]) (n := 1) (Nat.le_of_ble_eq_true rfl)
  rw [lg_entry_eq]
  generalize (lg_sl ([.ref (q 0)]) ++ List.replicate (1 - (lg_sl ([.ref (q 0)])).length) Slot.unset).toArray = ls at hl ⊢
  have hl : lv_has ls 1 [(0, .ref (q 0))] := hl
  refine lv_aload_n hx hb dX3_mails_0 rfl (lv_at hl 0 rfl) ?_
  refine va_get (D := D) (ci := 3) (v := .ref (q 1)) (C := RX3) (T := TX3) (N := 3) hx hb htA uwX3 hown hKK.1 hP 0 rfl rfl 0 (by decide) (htA _ wd_125) (fun _ h9 => h9) rfl dX3_mails_1 ?_
  refine lv_bipush (v := nI 63) hx hb dX3_mails_4 (by decide) ?_
  refine n_iconst (k := 0) hx hb dX3_mails_6 (by decide) ?_
  refine roV1 (v := .long (ms (fun j => mt (σ 4 j) (σ 5 j) 63 0) 60)) (As := [.int (nI (63)), .int (nI (0))]) (rest := []) (n := 2) ⟨hx, hb, hml, hown, htA⟩ (c_matching l D cI cZ sa q σ 63 0 s.heap (X_SS hP)) (cwV 2 htA (gdV wd_334 wd_335 wd_336 wd_2 wd_337) rfl rfl rfl (by decide +kernel) ⟨Nat.le_of_ble_eq_true rfl, Nat.le_of_ble_eq_true rfl⟩) hKK hP 1 rfl rfl rfl hl.1 rfl (Nat.le_of_ble_eq_true rfl) dX3_mails_7 (Nat.zero_le _) (Nat.zero_le _) ?_
  refine roS1 (v := .int (nI (cnt (fun j => mt (σ 4 j) (σ 5 j) 63 0) 60))) (As := [.long (ms (fun j => mt (σ 4 j) (σ 5 j) 63 0) 60)]) (rest := []) (n := 1) ⟨hx, hb, hml, hown, htA⟩ (c_bitCount_ms l D cI cZ sa (fun j => mt (σ 4 j) (σ 5 j) 63 0) s.heap) (va_cwS 1 htA (gdS wd_341 wd_342 wd_12 wd_343) rfl rfl rfl (by decide +kernel) ⟨Nat.le_of_ble_eq_true rfl, Nat.le_of_ble_eq_true rfl⟩) hKK rfl hl.1 rfl (Nat.le_of_ble_eq_true rfl) dX3_mails_10 (Nat.zero_le _) (Nat.zero_le _) ?_
  exact ro_i hx hb hr hlocks (rfl) dX3_mails_13
set_option maxHeartbeats 4000000 in
set_option maxRecDepth 100000 in
theorem f_keywords_ok (l : Launch) (D : va_G) (cI cZ : ClassId) (sa : Nat → Nat) (q : Nat → Nat) (σ κ0 κ1 : ST) (j : Nat) (H : Heap) (hP : va_P D vwCl (wX q cI cZ σ κ0 κ1) H) (hB : ∀ k i, σ k i < 1073741824) (hj : j < 60) (h40 : σ 4 j ≠ 0) : Met l yX3_keywords (codeW yX3_keywords cX3_keywords 2 (some .int)) ({ frames := 3, cells := 0, slots := 0, locals := 64 } : Room) (RoP D cI cZ sa H [.ref (q 0), .int (nI (j))]) (RoQ (some (.int (nI (σ 5 j)))) H) 0 0 RoF := by
  refine Met.ofW (cc := cX3_keywords) (maxL := 2) (ret := (some .int)) (by decide) rfl ?_
  intro p e s m args below meth c s₁ B hml hv
  obtain ⟨rfl, hH, hKK⟩ := hv
  subst hH
  have hx := B.exec
  have hb := B.bytes
  have hr := B.returns
  have htA : ∀ w ∈ WA, w.before _ s = true := fun w h => atoms_spec (ws := (codeW yX3_keywords cX3_keywords 2 (some .int))) B.pre w (List.mem_cons_of_mem _ h)
  have hown : s.vm.findClass RX3 = some m.cls := findClass_of_methodNamed B.named
  have hlocks := B.notSynchronized
  have hl := lv_entry ([.ref (q 0), .int (nI (j))]) (n := 2) (Nat.le_of_ble_eq_true rfl)
  rw [lg_entry_eq]
  generalize (lg_sl ([.ref (q 0), .int (nI (j))]) ++ List.replicate (2 - (lg_sl ([.ref (q 0), .int (nI (j))])).length) Slot.unset).toArray = ls at hl ⊢
  have hl : lv_has ls 2 [(0, .ref (q 0)), (1, .int (nI (j)))] := hl
  refine lv_aload_n hx hb dX3_keywords_0 rfl (lv_at hl 0 rfl) ?_
  refine va_get (D := D) (ci := 3) (v := .ref (q 1)) (C := RX3) (T := TX3) (N := 3) hx hb htA uwX3 hown hKK.1 hP 0 rfl rfl 0 (by decide) (htA _ wd_125) (fun _ h9 => h9) rfl dX3_keywords_1 ?_
  refine lv_iload_n hx hb dX3_keywords_4 rfl (lv_at hl 1 rfl) ?_
  refine roV1 (v := .int (b2i (!decide (σ 4 j = 0)))) (As := [.int (nI (j))]) (rest := []) (n := 1) ⟨hx, hb, hml, hown, htA⟩ (c_isThere_t l D cI cZ sa q σ j s.heap (X_SS hP) (by omega) hB) (cwV 1 htA (gdV wd_266 wd_267 wd_268 wd_2 wd_269) rfl rfl rfl (by decide +kernel) ⟨Nat.le_of_ble_eq_true rfl, Nat.le_of_ble_eq_true rfl⟩) hKK hP 1 rfl rfl rfl hl.1 rfl (Nat.le_of_ble_eq_true rfl) dX3_keywords_5 (Nat.zero_le _) (Nat.zero_le _) ?_
  refine roS0 (As := [.int (b2i (!decide (σ 4 j = 0)))]) (rest := []) (n := 1) ⟨hx, hb, hml, hown, htA⟩ (c_reqMail_t l D cI cZ sa (!decide (σ 4 j = 0)) s.heap (there h40)) (va_cwS 1 htA (gdS wd_274 wd_275 wd_1 wd_276) rfl rfl rfl (by decide +kernel) ⟨Nat.le_of_ble_eq_true rfl, Nat.le_of_ble_eq_true rfl⟩) hKK rfl hl.1 rfl (Nat.le_of_ble_eq_true rfl) dX3_keywords_8 (Nat.zero_le _) (Nat.zero_le _) ?_
  refine lv_aload_n hx hb dX3_keywords_11 rfl (lv_at hl 0 rfl) ?_
  refine va_get (D := D) (ci := 3) (v := .ref (q 1)) (C := RX3) (T := TX3) (N := 3) hx hb htA uwX3 hown hKK.1 hP 0 rfl rfl 0 (by decide) (htA _ wd_125) (fun _ h9 => h9) rfl dX3_keywords_12 ?_
  refine lv_iload_n hx hb dX3_keywords_15 rfl (lv_at hl 1 rfl) ?_
  refine roV1 (v := .int (nI (σ 5 j))) (As := [.int (nI (j))]) (rest := []) (n := 1) ⟨hx, hb, hml, hown, htA⟩ (c_keywordsOf_t l D cI cZ sa q σ j s.heap (X_SS hP) (by omega)) (cwV 1 htA (gdV wd_295 wd_296 wd_297 wd_2 wd_298) rfl rfl rfl (by decide +kernel) ⟨Nat.le_of_ble_eq_true rfl, Nat.le_of_ble_eq_true rfl⟩) hKK hP 1 rfl rfl rfl hl.1 rfl (Nat.le_of_ble_eq_true rfl) dX3_keywords_16 (Nat.zero_le _) (Nat.zero_le _) ?_
  exact ro_i hx hb hr hlocks (rfl) dX3_keywords_19
