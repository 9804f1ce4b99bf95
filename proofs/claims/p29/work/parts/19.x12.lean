set_option maxHeartbeats 4000000 in
set_option maxRecDepth 100000 in
theorem f_watch_0 (l : Launch) (D : va_G) (cI cZ : ClassId) (sa : Nat → Nat) (q : Nat → Nat) (σ κ0 κ1 : ST) (b0 wd : Nat) (A : Nat → Prop) (hD : va_D A (wX q cI cZ σ κ0 κ1)) (hb9 : b0 < 6) (hw1 : 1 ≤ wd) (hw2 : wd ≤ 10) : Met l yX3_watch (codeW yX3_watch cX3_watch 5 none) ({ frames := 2, cells := 0, slots := 0, locals := 42 } : Room) (WrP D cI cZ sa (wX q cI cZ σ κ0 κ1) [.ref (q 0), .int (nI (0)), .int (nI (b0)), .int (nI (wd))]) (WrQ none D (wX q cI cZ σ (sv (sv κ0 0 0 b0) 0 1 wd) κ1) A) 0 0 A := by
  refine Met.ofW (cc := cX3_watch) (maxL := 5) (ret := none) (by decide) rfl ?_
  intro p e s m args below meth c s₁ B hml hv
  obtain ⟨rfl, hH, hKK⟩ := hv
  have hx := B.exec
  have hb := B.bytes
  have hr := B.returns
  have htA : ∀ w ∈ WA, w.before _ s = true := fun w h => atoms_spec (ws := (codeW yX3_watch cX3_watch 5 none)) B.pre w (List.mem_cons_of_mem _ h)
  have hown : s.vm.findClass RX3 = some m.cls := findClass_of_methodNamed B.named
  have hlocks := B.notSynchronized
  have hP := hH
  have hS : va_S A s.heap s.heap [] := va_S.rf
  have hl := lv_entry ([.ref (q 0), .int (nI (0)), .int (nI (b0)), .int (nI (wd))]) (n := 5) (Nat.le_of_ble_eq_true rfl)
  rw [lg_entry_eq]
  generalize (lg_sl ([.ref (q 0), .int (nI (0)), .int (nI (b0)), .int (nI (wd))]) ++ List.replicate (5 - (lg_sl ([.ref (q 0), .int (nI (0)), .int (nI (b0)), .int (nI (wd))])).length) Slot.unset).toArray = ls at hl ⊢
  have hl : lv_has ls 5 [(0, .ref (q 0)), (1, .int (nI (0))), (2, .int (nI (b0))), (3, .int (nI (wd)))] := hl
  refine lv_iload_n hx hb dX3_watch_0 rfl (lv_at hl 1 rfl) ?_
  refine roS1 (v := .int (b2i (iw (nI (0)) (nI (0)) (nI (1))))) (As := [.int (nI (0))]) (rest := []) (n := 1) ⟨hx, hb, hml, hown, htA⟩ (c_isClient l D cI cZ sa (nI (0)) s.heap ) (va_cwS 1 htA (gdS wd_365 wd_366 wd_1 wd_367) rfl rfl rfl (by decide +kernel) ⟨Nat.le_of_ble_eq_true rfl, Nat.le_of_ble_eq_true rfl⟩) hKK rfl hl.1 rfl (Nat.le_of_ble_eq_true rfl) dX3_watch_1 (Nat.zero_le _) (Nat.zero_le _) ?_
  refine b_ifeq (b := iw (nI (0)) (nI (0)) (nI (1))) (tgt := 24) hx hb dX3_watch_4 (by decide) (fun c_1 => ?_) (fun c_1 => ?_)
  · exact absurd (c_1.symm.trans (iw_n (by decide) (by decide) (by decide))) (by decide)
  refine lv_iload_n hx hb dX3_watch_7 rfl (lv_at hl 2 rfl) ?_
  refine roS1 (v := .int (b2i (iw (nI (b0)) (nI (0)) (nI (5))))) (As := [.int (nI (b0))]) (rest := []) (n := 1) ⟨hx, hb, hml, hown, htA⟩ (c_isBox l D cI cZ sa (nI (b0)) s.heap ) (va_cwS 1 htA (gdS wd_351 wd_352 wd_1 wd_353) rfl rfl rfl (by decide +kernel) ⟨Nat.le_of_ble_eq_true rfl, Nat.le_of_ble_eq_true rfl⟩) hKK rfl hl.1 rfl (Nat.le_of_ble_eq_true rfl) dX3_watch_8 (Nat.zero_le _) (Nat.zero_le _) ?_
  refine b_ifeq (b := iw (nI (b0)) (nI (0)) (nI (5))) (tgt := 24) hx hb dX3_watch_11 (by decide) (fun c_2 => ?_) (fun c_2 => ?_)
  · exact absurd (c_2.symm.trans (iw_n (Nat.zero_le _) (by omega) (by decide))) (by decide)
  refine lv_iload_n hx hb dX3_watch_14 rfl (lv_at hl 3 rfl) ?_
  refine n_iconst (k := 1) hx hb dX3_watch_15 (by decide) ?_
  refine lv_bipush (v := nI 10) hx hb dX3_watch_16 (by decide) ?_
  refine roS1 (v := .int (b2i (iw (nI (wd)) (nI (1)) (nI (10))))) (As := [.int (nI (wd)), .int (nI (1)), .int (nI (10))]) (rest := []) (n := 3) ⟨hx, hb, hml, hown, htA⟩ (c_isWithin l D cI cZ sa (nI (wd)) (nI (1)) (nI (10)) s.heap ) (va_cwS 3 htA (gdS wd_139 wd_140 wd_1 wd_141) rfl rfl rfl (by decide +kernel) ⟨Nat.le_of_ble_eq_true rfl, Nat.le_of_ble_eq_true rfl⟩) hKK rfl hl.1 rfl (Nat.le_of_ble_eq_true rfl) dX3_watch_18 (Nat.zero_le _) (Nat.zero_le _) ?_
  refine b_ifne (b := iw (nI (wd)) (nI (1)) (nI (10))) (tgt := 34) hx hb dX3_watch_21 (by decide) (fun c_3 => ?_) (fun c_3 => ?_)
  rotate_left
  · exact absurd (c_3.symm.trans (iw_n hw1 hw2 (by decide))) (by decide)
  refine lv_aload_n hx hb dX3_watch_34 rfl (lv_at hl 0 rfl) ?_
  refine lv_iload_n hx hb dX3_watch_35 rfl (lv_at hl 1 rfl) ?_
  refine roV1 (v := .ref (q 12)) (As := [.int (nI (0))]) (rest := []) (n := 1) ⟨hx, hb, hml, hown, htA⟩ (c_clientOf0 l D cI cZ sa q σ κ0 κ1 s.heap hP ) (cwV 1 htA (gdV wd_369 wd_371 wp_3 wd_1 wd_372) rfl rfl rfl (by decide +kernel) ⟨Nat.le_of_ble_eq_true rfl, Nat.le_of_ble_eq_true rfl⟩) hKK hP 0 rfl rfl rfl hl.1 rfl (Nat.le_of_ble_eq_true rfl) dX3_watch_36 (Nat.zero_le _) (Nat.zero_le _) ?_
  refine lv_astore (lv' := [(4, .ref (q 12)), (0, .ref (q 0)), (1, .int (nI (0))), (2, .int (nI (b0))), (3, .int (nI (wd)))]) hx hb dX3_watch_39 hl (by decide) rfl (fun ls hl => ?_)
  refine lv_aload hx hb dX3_watch_41 (lv_at hl 0 rfl) ?_
  refine lv_iload_n hx hb dX3_watch_43 rfl (lv_at hl 3 rfl) ?_
  refine va_putN (D := D) (ci := 1) (v := .int (nI (b0))) (ty := .int) (C := RX1) (T := TX1) (N := 11) hx hb htA uwX1 tyX1 tyX1_ok nmX1 hown hKK.1 hP (D_addr hD rfl) hS 12 rfl rfl 0 (by decide) (va_Nw.use rfl (ex_RX3_172 hKK.2)) (fun _ h9 => h9) rfl (by decide +kernel) rfl rfl (Nat.le_of_ble_eq_true rfl) dX3_watch_44 (fun H locs hP _ hS => ?_)
  have hP : va_P D vwCl (wX q cI cZ σ (sv κ0 0 0 (b0)) κ1) H := hP
  refine lv_aload hx hb dX3_watch_47 (lv_at hl 0 rfl) ?_
  refine lv_iload_n hx hb dX3_watch_49 rfl (lv_at hl 4 rfl) ?_
  refine va_putN (D := D) (ci := 1) (v := .int (nI (wd))) (ty := .int) (C := RX1) (T := TX1) (N := 11) hx hb htA uwX1 tyX1 tyX1_ok nmX1 hown hKK.1 hP (D_addr hD rfl) hS 12 rfl rfl 1 (by decide) (va_Nw.use rfl (ex_RX3_175 hKK.2)) (fun _ h9 => h9) rfl (by decide +kernel) rfl rfl (Nat.le_of_ble_eq_true rfl) dX3_watch_50 (fun H locs hP _ hS => ?_)
  have hP : va_P D vwCl (wX q cI cZ σ (sv (sv κ0 0 0 (b0)) 0 1 (wd)) κ1) H := hP
  exact wr_v hx hb hr hlocks hP hS dX3_watch_53
set_option maxHeartbeats 4000000 in
set_option maxRecDepth 100000 in
theorem f_watch_1 (l : Launch) (D : va_G) (cI cZ : ClassId) (sa : Nat → Nat) (q : Nat → Nat) (σ κ0 κ1 : ST) (b0 wd : Nat) (A : Nat → Prop) (hD : va_D A (wX q cI cZ σ κ0 κ1)) (hb9 : b0 < 6) (hw1 : 1 ≤ wd) (hw2 : wd ≤ 10) : Met l yX3_watch (codeW yX3_watch cX3_watch 5 none) ({ frames := 2, cells := 0, slots := 0, locals := 42 } : Room) (WrP D cI cZ sa (wX q cI cZ σ κ0 κ1) [.ref (q 0), .int (nI (1)), .int (nI (b0)), .int (nI (wd))]) (WrQ none D (wX q cI cZ σ κ0 (sv (sv κ1 0 0 b0) 0 1 wd)) A) 0 0 A := by
  refine Met.ofW (cc := cX3_watch) (maxL := 5) (ret := none) (by decide) rfl ?_
  intro p e s m args below meth c s₁ B hml hv
  obtain ⟨rfl, hH, hKK⟩ := hv
  have hx := B.exec
  have hb := B.bytes
  have hr := B.returns
  have htA : ∀ w ∈ WA, w.before _ s = true := fun w h => atoms_spec (ws := (codeW yX3_watch cX3_watch 5 none)) B.pre w (List.mem_cons_of_mem _ h)
  have hown : s.vm.findClass RX3 = some m.cls := findClass_of_methodNamed B.named
  have hlocks := B.notSynchronized
  have hP := hH
  have hS : va_S A s.heap s.heap [] := va_S.rf
  have hl := lv_entry ([.ref (q 0), .int (nI (1)), .int (nI (b0)), .int (nI (wd))]) (n := 5) (Nat.le_of_ble_eq_true rfl)
  rw [lg_entry_eq]
  generalize (lg_sl ([.ref (q 0), .int (nI (1)), .int (nI (b0)), .int (nI (wd))]) ++ List.replicate (5 - (lg_sl ([.ref (q 0), .int (nI (1)), .int (nI (b0)), .int (nI (wd))])).length) Slot.unset).toArray = ls at hl ⊢
  have hl : lv_has ls 5 [(0, .ref (q 0)), (1, .int (nI (1))), (2, .int (nI (b0))), (3, .int (nI (wd)))] := hl
  refine lv_iload_n hx hb dX3_watch_0 rfl (lv_at hl 1 rfl) ?_
  refine roS1 (v := .int (b2i (iw (nI (1)) (nI (0)) (nI (1))))) (As := [.int (nI (1))]) (rest := []) (n := 1) ⟨hx, hb, hml, hown, htA⟩ (c_isClient l D cI cZ sa (nI (1)) s.heap ) (va_cwS 1 htA (gdS wd_365 wd_366 wd_1 wd_367) rfl rfl rfl (by decide +kernel) ⟨Nat.le_of_ble_eq_true rfl, Nat.le_of_ble_eq_true rfl⟩) hKK rfl hl.1 rfl (Nat.le_of_ble_eq_true rfl) dX3_watch_1 (Nat.zero_le _) (Nat.zero_le _) ?_
  refine b_ifeq (b := iw (nI (1)) (nI (0)) (nI (1))) (tgt := 24) hx hb dX3_watch_4 (by decide) (fun c_1 => ?_) (fun c_1 => ?_)
  · exact absurd (c_1.symm.trans (iw_n (by decide) (by decide) (by decide))) (by decide)
  refine lv_iload_n hx hb dX3_watch_7 rfl (lv_at hl 2 rfl) ?_
  refine roS1 (v := .int (b2i (iw (nI (b0)) (nI (0)) (nI (5))))) (As := [.int (nI (b0))]) (rest := []) (n := 1) ⟨hx, hb, hml, hown, htA⟩ (c_isBox l D cI cZ sa (nI (b0)) s.heap ) (va_cwS 1 htA (gdS wd_351 wd_352 wd_1 wd_353) rfl rfl rfl (by decide +kernel) ⟨Nat.le_of_ble_eq_true rfl, Nat.le_of_ble_eq_true rfl⟩) hKK rfl hl.1 rfl (Nat.le_of_ble_eq_true rfl) dX3_watch_8 (Nat.zero_le _) (Nat.zero_le _) ?_
  refine b_ifeq (b := iw (nI (b0)) (nI (0)) (nI (5))) (tgt := 24) hx hb dX3_watch_11 (by decide) (fun c_2 => ?_) (fun c_2 => ?_)
  · exact absurd (c_2.symm.trans (iw_n (Nat.zero_le _) (by omega) (by decide))) (by decide)
  refine lv_iload_n hx hb dX3_watch_14 rfl (lv_at hl 3 rfl) ?_
  refine n_iconst (k := 1) hx hb dX3_watch_15 (by decide) ?_
  refine lv_bipush (v := nI 10) hx hb dX3_watch_16 (by decide) ?_
  refine roS1 (v := .int (b2i (iw (nI (wd)) (nI (1)) (nI (10))))) (As := [.int (nI (wd)), .int (nI (1)), .int (nI (10))]) (rest := []) (n := 3) ⟨hx, hb, hml, hown, htA⟩ (c_isWithin l D cI cZ sa (nI (wd)) (nI (1)) (nI (10)) s.heap ) (va_cwS 3 htA (gdS wd_139 wd_140 wd_1 wd_141) rfl rfl rfl (by decide +kernel) ⟨Nat.le_of_ble_eq_true rfl, Nat.le_of_ble_eq_true rfl⟩) hKK rfl hl.1 rfl (Nat.le_of_ble_eq_true rfl) dX3_watch_18 (Nat.zero_le _) (Nat.zero_le _) ?_
  refine b_ifne (b := iw (nI (wd)) (nI (1)) (nI (10))) (tgt := 34) hx hb dX3_watch_21 (by decide) (fun c_3 => ?_) (fun c_3 => ?_)
  rotate_left
  · exact absurd (c_3.symm.trans (iw_n hw1 hw2 (by decide))) (by decide)
  refine lv_aload_n hx hb dX3_watch_34 rfl (lv_at hl 0 rfl) ?_
  refine lv_iload_n hx hb dX3_watch_35 rfl (lv_at hl 1 rfl) ?_
  refine roV1 (v := .ref (q 18)) (As := [.int (nI (1))]) (rest := []) (n := 1) ⟨hx, hb, hml, hown, htA⟩ (c_clientOf1 l D cI cZ sa q σ κ0 κ1 s.heap hP ) (cwV 1 htA (gdV wd_369 wd_371 wp_3 wd_1 wd_372) rfl rfl rfl (by decide +kernel) ⟨Nat.le_of_ble_eq_true rfl, Nat.le_of_ble_eq_true rfl⟩) hKK hP 0 rfl rfl rfl hl.1 rfl (Nat.le_of_ble_eq_true rfl) dX3_watch_36 (Nat.zero_le _) (Nat.zero_le _) ?_
  refine lv_astore (lv' := [(4, .ref (q 18)), (0, .ref (q 0)), (1, .int (nI (1))), (2, .int (nI (b0))), (3, .int (nI (wd)))]) hx hb dX3_watch_39 hl (by decide) rfl (fun ls hl => ?_)
  refine lv_aload hx hb dX3_watch_41 (lv_at hl 0 rfl) ?_
  refine lv_iload_n hx hb dX3_watch_43 rfl (lv_at hl 3 rfl) ?_
  refine va_putN (D := D) (ci := 1) (v := .int (nI (b0))) (ty := .int) (C := RX1) (T := TX1) (N := 11) hx hb htA uwX1 tyX1 tyX1_ok nmX1 hown hKK.1 hP (D_addr hD rfl) hS 18 rfl rfl 0 (by decide) (va_Nw.use rfl (ex_RX3_172 hKK.2)) (fun _ h9 => h9) rfl (by decide +kernel) rfl rfl (Nat.le_of_ble_eq_true rfl) dX3_watch_44 (fun H locs hP _ hS => ?_)
  have hP : va_P D vwCl (wX q cI cZ σ κ0 (sv κ1 0 0 (b0))) H := hP
  refine lv_aload hx hb dX3_watch_47 (lv_at hl 0 rfl) ?_
  refine lv_iload_n hx hb dX3_watch_49 rfl (lv_at hl 4 rfl) ?_
  refine va_putN (D := D) (ci := 1) (v := .int (nI (wd))) (ty := .int) (C := RX1) (T := TX1) (N := 11) hx hb htA uwX1 tyX1 tyX1_ok nmX1 hown hKK.1 hP (D_addr hD rfl) hS 18 rfl rfl 1 (by decide) (va_Nw.use rfl (ex_RX3_175 hKK.2)) (fun _ h9 => h9) rfl (by decide +kernel) rfl rfl (Nat.le_of_ble_eq_true rfl) dX3_watch_50 (fun H locs hP _ hS => ?_)
  have hP : va_P D vwCl (wX q cI cZ σ κ0 (sv (sv κ1 0 0 (b0)) 0 1 (wd))) H := hP
  exact wr_v hx hb hr hlocks hP hS dX3_watch_53
set_option maxHeartbeats 4000000 in
set_option maxRecDepth 100000 in
theorem f_flagOffline_ok0 (l : Launch) (D : va_G) (cI cZ : ClassId) (sa : Nat → Nat) (q : Nat → Nat) (σ κ0 κ1 : ST) (x : Int32) (k9 w0 : Nat) (A : Nat → Prop) (hD : va_D A (wX q cI cZ σ κ0 κ1)) (hk9 : k9 < 4) (h10 : κ0 0 4 ≤ 10) (hz : plo κ0 (x) (κ0 0 4) 0 ≠ 0) (hfl : κ0 0 5 < 10) (hC : CI κ0) (hw9 : w0 < 2) : Met l yX3_flagOffline (codeW yX3_flagOffline cX3_flagOffline 7 (some .int)) ({ frames := 2, cells := 0, slots := 0, locals := 46 } : Room) (WrP D cI cZ sa (wX q cI cZ σ κ0 κ1) [.ref (q 0), .int (nI (0)), .int (x), .int (nI (k9)), .int (nI (w0))]) (WrQ (some (.int (nI (κ0 0 5 + 1)))) D (wX q cI cZ σ (nte κ0 (plo κ0 (x) (κ0 0 4) 0 - 1) k9 w0) κ1) A) 0 0 A := by
  refine Met.ofW (cc := cX3_flagOffline) (maxL := 7) (ret := (some .int)) (by decide) rfl ?_
  intro p e s m args below meth c s₁ B hml hv
  obtain ⟨rfl, hH, hKK⟩ := hv
  have hx := B.exec
  have hb := B.bytes
  have hr := B.returns
  have htA : ∀ w ∈ WA, w.before _ s = true := fun w h => atoms_spec (ws := (codeW yX3_flagOffline cX3_flagOffline 7 (some .int))) B.pre w (List.mem_cons_of_mem _ h)
  have hown : s.vm.findClass RX3 = some m.cls := findClass_of_methodNamed B.named
  have hlocks := B.notSynchronized
  have hP := hH
  have hS : va_S A s.heap s.heap [] := va_S.rf
  have hl := lv_entry ([.ref (q 0), .int (nI (0)), .int (x), .int (nI (k9)), .int (nI (w0))]) (n := 7) (Nat.le_of_ble_eq_true rfl)
  rw [lg_entry_eq]
  generalize (lg_sl ([.ref (q 0), .int (nI (0)), .int (x), .int (nI (k9)), .int (nI (w0))]) ++ List.replicate (7 - (lg_sl ([.ref (q 0), .int (nI (0)), .int (x), .int (nI (k9)), .int (nI (w0))])).length) Slot.unset).toArray = ls at hl ⊢
  have hl : lv_has ls 7 [(0, .ref (q 0)), (1, .int (nI (0))), (2, .int (x)), (3, .int (nI (k9))), (4, .int (nI (w0)))] := hl
  have hpl9 := plo_le κ0 x (κ0 0 4) 0
  refine lv_iload_n hx hb dX3_flagOffline_0 rfl (lv_at hl 1 rfl) ?_
  refine roS1 (v := .int (b2i (iw (nI (0)) (nI (0)) (nI (1))))) (As := [.int (nI (0))]) (rest := []) (n := 1) ⟨hx, hb, hml, hown, htA⟩ (c_isClient l D cI cZ sa (nI (0)) s.heap ) (va_cwS 1 htA (gdS wd_365 wd_366 wd_1 wd_367) rfl rfl rfl (by decide +kernel) ⟨Nat.le_of_ble_eq_true rfl, Nat.le_of_ble_eq_true rfl⟩) hKK rfl hl.1 rfl (Nat.le_of_ble_eq_true rfl) dX3_flagOffline_1 (Nat.zero_le _) (Nat.zero_le _) ?_
  refine b_ifeq (b := iw (nI (0)) (nI (0)) (nI (1))) (tgt := 14) hx hb dX3_flagOffline_4 (by decide) (fun c_1 => ?_) (fun c_1 => ?_)
  · exact absurd (c_1.symm.trans (iw_n (by decide) (by decide) (by decide))) (by decide)
  refine lv_iload_n hx hb dX3_flagOffline_7 rfl (lv_at hl 3 rfl) ?_
  refine roS1 (v := .int (b2i (iw (nI (k9)) (nI (0)) (nI (3))))) (As := [.int (nI (k9))]) (rest := []) (n := 1) ⟨hx, hb, hml, hown, htA⟩ (c_isKeyword l D cI cZ sa (nI (k9)) s.heap ) (va_cwS 1 htA (gdS wd_304 wd_305 wd_1 wd_306) rfl rfl rfl (by decide +kernel) ⟨Nat.le_of_ble_eq_true rfl, Nat.le_of_ble_eq_true rfl⟩) hKK rfl hl.1 rfl (Nat.le_of_ble_eq_true rfl) dX3_flagOffline_8 (Nat.zero_le _) (Nat.zero_le _) ?_
  refine b_ifne (b := iw (nI (k9)) (nI (0)) (nI (3))) (tgt := 24) hx hb dX3_flagOffline_11 (by decide) (fun c_2 => ?_) (fun c_2 => ?_)
  rotate_left
  · exact absurd (c_2.symm.trans (iw_n (Nat.zero_le _) (by omega) (by decide))) (by decide)
  refine lv_aload_n hx hb dX3_flagOffline_24 rfl (lv_at hl 0 rfl) ?_
  refine lv_iload_n hx hb dX3_flagOffline_25 rfl (lv_at hl 1 rfl) ?_
  refine roV1 (v := .ref (q 12)) (As := [.int (nI (0))]) (rest := []) (n := 1) ⟨hx, hb, hml, hown, htA⟩ (c_clientOf0 l D cI cZ sa q σ κ0 κ1 s.heap hP ) (cwV 1 htA (gdV wd_369 wd_371 wp_3 wd_1 wd_372) rfl rfl rfl (by decide +kernel) ⟨Nat.le_of_ble_eq_true rfl, Nat.le_of_ble_eq_true rfl⟩) hKK hP 0 rfl rfl rfl hl.1 rfl (Nat.le_of_ble_eq_true rfl) dX3_flagOffline_26 (Nat.zero_le _) (Nat.zero_le _) ?_
  refine lv_astore (lv' := [(5, .ref (q 12)), (0, .ref (q 0)), (1, .int (nI (0))), (2, .int (x)), (3, .int (nI (k9))), (4, .int (nI (w0)))]) hx hb dX3_flagOffline_29 hl (by decide) rfl (fun ls hl => ?_)
  refine lv_aload hx hb dX3_flagOffline_31 (lv_at hl 0 rfl) ?_
  refine lv_iload_n hx hb dX3_flagOffline_33 rfl (lv_at hl 3 rfl) ?_
  refine roV1 (v := .int (oi (plo κ0 (x) (κ0 0 4) 0))) (As := [.int (x)]) (rest := []) (n := 1) ⟨hx, hb, hml, hown, htA⟩ (c_placeOf l D cI cZ sa q (fun i => q (12 + i)) σ κ0 (x) s.heap (X_C0 hP) h10) (cwV 1 htA (gdV wd_378 wd_379 wd_380 wd_4 wd_381) rfl rfl rfl (by decide +kernel) ⟨Nat.le_of_ble_eq_true rfl, Nat.le_of_ble_eq_true rfl⟩) hKK hP 12 rfl rfl rfl hl.1 rfl (Nat.le_of_ble_eq_true rfl) dX3_flagOffline_34 (Nat.zero_le _) (Nat.zero_le _) ?_
  refine lv_istore (lv' := [(6, .int (oi (plo κ0 (x) (κ0 0 4) 0))), (5, .ref (q 12)), (0, .ref (q 0)), (1, .int (nI (0))), (2, .int (x)), (3, .int (nI (k9))), (4, .int (nI (w0)))]) hx hb dX3_flagOffline_37 hl (by decide) rfl (fun ls hl => ?_)
  refine lv_iload hx hb dX3_flagOffline_39 (lv_at hl 0 rfl) ?_
  refine lv_iconst (v := oi 0) hx hb dX3_flagOffline_41 (by decide) ?_
  refine k_icmp_ne (x := plo κ0 (x) (κ0 0 4) 0) (y := 0) (tgt := 55) hx hb dX3_flagOffline_42 (by decide) (Nat.le_trans (plo_le _ _ _ _) (by omega)) (by decide) (fun c_3 => ?_) (fun c_3 => ?_)
  rotate_left
  · exact absurd c_3 hz
  refine lv_aload hx hb dX3_flagOffline_55 (lv_at hl 1 rfl) ?_
  refine va_getN (D := D) (ci := 1) (v := .int (nI (κ0 0 5))) (C := RX1) (T := TX1) (N := 11) hx hb htA uwX1 hown hKK.1 hP 12 rfl rfl 10 (by decide) (va_Nw.use rfl (ex_RX3_185 hKK.2)) (fun _ h9 => h9) rfl dX3_flagOffline_57 ?_
  refine lv_bipush (v := nI 10) hx hb dX3_flagOffline_60 (by decide) ?_
  refine n_icmp_lt (x := κ0 0 5) (y := 10) (tgt := 75) hx hb dX3_flagOffline_62 (by decide) (by omega) (by decide) (fun c_4 => ?_) (fun c_4 => ?_)
  rotate_left
  · exfalso; omega
  refine lv_aload hx hb dX3_flagOffline_75 (lv_at hl 1 rfl) ?_
  refine lv_iload hx hb dX3_flagOffline_77 (lv_at hl 0 rfl) ?_
  rw [oi_pos hz]
  refine lv_iload_n hx hb dX3_flagOffline_79 rfl (lv_at hl 5 rfl) ?_
  refine lv_iload hx hb dX3_flagOffline_80 (lv_at hl 6 rfl) ?_
  refine wrV0 (As := [.int (nI (plo κ0 (x) (κ0 0 4) 0 - 1)), .int (nI (k9)), .int (nI (w0))]) (rest := []) (n := 3) ⟨hx, hb, hml, hown, htA⟩ (c_note l D cI cZ sa q (fun i => q (12 + i)) σ κ0 (plo κ0 (x) (κ0 0 4) 0 - 1) k9 w0 (adr (wCS q (fun i => q (12 + i)) cI cZ σ κ0)) (D_adr (X_DC0 (σ := σ) (κ0 := κ0) (κ1 := κ1) (D_addr hD rfl))) (by omega) h10 hC hk9 hfl hw9) (cwV 3 htA (gdV wd_384 wd_385 wd_386 wd_4 wd_387) rfl rfl rfl (by decide +kernel) ⟨Nat.le_of_ble_eq_true rfl, Nat.le_of_ble_eq_true rfl⟩) hKK (X_C0 hP) 0 rfl rfl rfl hl.1 rfl (Nat.le_of_ble_eq_true rfl) dX3_flagOffline_82 (Nat.zero_le _) (Nat.zero_le _) hS (fun a h => adr_in (X_DC0 (σ := σ) (κ0 := κ0) (κ1 := κ1) (D_addr hD rfl)) a h) (fun H1 locs hP1 hz1 hk1 hS => ?_)
  have hP : va_P D vwCl (wX q cI cZ σ (nte κ0 (plo κ0 (x) (κ0 0 4) 0 - 1) k9 w0) κ1) H1 := X_put0 hD hP hk1 hP1
  generalize H1 = H at hP hS ⊢
  refine lv_aload hx hb dX3_flagOffline_85 (lv_at hl 1 rfl) ?_
  refine va_getN (D := D) (ci := 1) (v := .int (nI ((nte κ0 (plo κ0 (x) (κ0 0 4) 0 - 1) k9 w0) 0 5))) (C := RX1) (T := TX1) (N := 11) hx hb htA uwX1 hown hKK.1 hP 12 rfl rfl 10 (by decide) (va_Nw.use rfl (ex_RX3_185 hKK.2)) (fun _ h9 => h9) rfl dX3_flagOffline_87 ?_
  exact wr_i hx hb hr hlocks (rfl) hP hS dX3_flagOffline_90
set_option maxHeartbeats 4000000 in
set_option maxRecDepth 100000 in
theorem f_flagOffline_ok1 (l : Launch) (D : va_G) (cI cZ : ClassId) (sa : Nat → Nat) (q : Nat → Nat) (σ κ0 κ1 : ST) (x : Int32) (k9 w0 : Nat) (A : Nat → Prop) (hD : va_D A (wX q cI cZ σ κ0 κ1)) (hk9 : k9 < 4) (h10 : κ1 0 4 ≤ 10) (hz : plo κ1 (x) (κ1 0 4) 0 ≠ 0) (hfl : κ1 0 5 < 10) (hC : CI κ1) (hw9 : w0 < 2) : Met l yX3_flagOffline (codeW yX3_flagOffline cX3_flagOffline 7 (some .int)) ({ frames := 2, cells := 0, slots := 0, locals := 46 } : Room) (WrP D cI cZ sa (wX q cI cZ σ κ0 κ1) [.ref (q 0), .int (nI (1)), .int (x), .int (nI (k9)), .int (nI (w0))]) (WrQ (some (.int (nI (κ1 0 5 + 1)))) D (wX q cI cZ σ κ0 (nte κ1 (plo κ1 (x) (κ1 0 4) 0 - 1) k9 w0)) A) 0 0 A := by
  refine Met.ofW (cc := cX3_flagOffline) (maxL := 7) (ret := (some .int)) (by decide) rfl ?_
  intro p e s m args below meth c s₁ B hml hv
  obtain ⟨rfl, hH, hKK⟩ := hv
  have hx := B.exec
  have hb := B.bytes
  have hr := B.returns
  have htA : ∀ w ∈ WA, w.before _ s = true := fun w h => atoms_spec (ws := (codeW yX3_flagOffline cX3_flagOffline 7 (some .int))) B.pre w (List.mem_cons_of_mem _ h)
  have hown : s.vm.findClass RX3 = some m.cls := findClass_of_methodNamed B.named
  have hlocks := B.notSynchronized
  have hP := hH
  have hS : va_S A s.heap s.heap [] := va_S.rf
  have hl := lv_entry ([.ref (q 0), .int (nI (1)), .int (x), .int (nI (k9)), .int (nI (w0))]) (n := 7) (Nat.le_of_ble_eq_true rfl)
  rw [lg_entry_eq]
  generalize (lg_sl ([.ref (q 0), .int (nI (1)), .int (x), .int (nI (k9)), .int (nI (w0))]) ++ List.replicate (7 - (lg_sl ([.ref (q 0), .int (nI (1)), .int (x), .int (nI (k9)), .int (nI (w0))])).length) Slot.unset).toArray = ls at hl ⊢
  have hl : lv_has ls 7 [(0, .ref (q 0)), (1, .int (nI (1))), (2, .int (x)), (3, .int (nI (k9))), (4, .int (nI (w0)))] := hl
  have hpl9 := plo_le κ1 x (κ1 0 4) 0
  refine lv_iload_n hx hb dX3_flagOffline_0 rfl (lv_at hl 1 rfl) ?_
  refine roS1 (v := .int (b2i (iw (nI (1)) (nI (0)) (nI (1))))) (As := [.int (nI (1))]) (rest := []) (n := 1) ⟨hx, hb, hml, hown, htA⟩ (c_isClient l D cI cZ sa (nI (1)) s.heap ) (va_cwS 1 htA (gdS wd_365 wd_366 wd_1 wd_367) rfl rfl rfl (by decide +kernel) ⟨Nat.le_of_ble_eq_true rfl, Nat.le_of_ble_eq_true rfl⟩) hKK rfl hl.1 rfl (Nat.le_of_ble_eq_true rfl) dX3_flagOffline_1 (Nat.zero_le _) (Nat.zero_le _) ?_
  refine b_ifeq (b := iw (nI (1)) (nI (0)) (nI (1))) (tgt := 14) hx hb dX3_flagOffline_4 (by decide) (fun c_1 => ?_) (fun c_1 => ?_)
  · exact absurd (c_1.symm.trans (iw_n (by decide) (by decide) (by decide))) (by decide)
  refine lv_iload_n hx hb dX3_flagOffline_7 rfl (lv_at hl 3 rfl) ?_
  refine roS1 (v := .int (b2i (iw (nI (k9)) (nI (0)) (nI (3))))) (As := [.int (nI (k9))]) (rest := []) (n := 1) ⟨hx, hb, hml, hown, htA⟩ (c_isKeyword l D cI cZ sa (nI (k9)) s.heap ) (va_cwS 1 htA (gdS wd_304 wd_305 wd_1 wd_306) rfl rfl rfl (by decide +kernel) ⟨Nat.le_of_ble_eq_true rfl, Nat.le_of_ble_eq_true rfl⟩) hKK rfl hl.1 rfl (Nat.le_of_ble_eq_true rfl) dX3_flagOffline_8 (Nat.zero_le _) (Nat.zero_le _) ?_
  refine b_ifne (b := iw (nI (k9)) (nI (0)) (nI (3))) (tgt := 24) hx hb dX3_flagOffline_11 (by decide) (fun c_2 => ?_) (fun c_2 => ?_)
  rotate_left
  · exact absurd (c_2.symm.trans (iw_n (Nat.zero_le _) (by omega) (by decide))) (by decide)
  refine lv_aload_n hx hb dX3_flagOffline_24 rfl (lv_at hl 0 rfl) ?_
  refine lv_iload_n hx hb dX3_flagOffline_25 rfl (lv_at hl 1 rfl) ?_
  refine roV1 (v := .ref (q 18)) (As := [.int (nI (1))]) (rest := []) (n := 1) ⟨hx, hb, hml, hown, htA⟩ (c_clientOf1 l D cI cZ sa q σ κ0 κ1 s.heap hP ) (cwV 1 htA (gdV wd_369 wd_371 wp_3 wd_1 wd_372) rfl rfl rfl (by decide +kernel) ⟨Nat.le_of_ble_eq_true rfl, Nat.le_of_ble_eq_true rfl⟩) hKK hP 0 rfl rfl rfl hl.1 rfl (Nat.le_of_ble_eq_true rfl) dX3_flagOffline_26 (Nat.zero_le _) (Nat.zero_le _) ?_
  refine lv_astore (lv' := [(5, .ref (q 18)), (0, .ref (q 0)), (1, .int (nI (1))), (2, .int (x)), (3, .int (nI (k9))), (4, .int (nI (w0)))]) hx hb dX3_flagOffline_29 hl (by decide) rfl (fun ls hl => ?_)
  refine lv_aload hx hb dX3_flagOffline_31 (lv_at hl 0 rfl) ?_
  refine lv_iload_n hx hb dX3_flagOffline_33 rfl (lv_at hl 3 rfl) ?_
  refine roV1 (v := .int (oi (plo κ1 (x) (κ1 0 4) 0))) (As := [.int (x)]) (rest := []) (n := 1) ⟨hx, hb, hml, hown, htA⟩ (c_placeOf l D cI cZ sa q (fun i => q (18 + i)) σ κ1 (x) s.heap (X_C1 hP) h10) (cwV 1 htA (gdV wd_378 wd_379 wd_380 wd_4 wd_381) rfl rfl rfl (by decide +kernel) ⟨Nat.le_of_ble_eq_true rfl, Nat.le_of_ble_eq_true rfl⟩) hKK hP 18 rfl rfl rfl hl.1 rfl (Nat.le_of_ble_eq_true rfl) dX3_flagOffline_34 (Nat.zero_le _) (Nat.zero_le _) ?_
  refine lv_istore (lv' := [(6, .int (oi (plo κ1 (x) (κ1 0 4) 0))), (5, .ref (q 18)), (0, .ref (q 0)), (1, .int (nI (1))), (2, .int (x)), (3, .int (nI (k9))), (4, .int (nI (w0)))]) hx hb dX3_flagOffline_37 hl (by decide) rfl (fun ls hl => ?_)
  refine lv_iload hx hb dX3_flagOffline_39 (lv_at hl 0 rfl) ?_
  refine lv_iconst (v := oi 0) hx hb dX3_flagOffline_41 (by decide) ?_
  refine k_icmp_ne (x := plo κ1 (x) (κ1 0 4) 0) (y := 0) (tgt := 55) hx hb dX3_flagOffline_42 (by decide) (Nat.le_trans (plo_le _ _ _ _) (by omega)) (by decide) (fun c_3 => ?_) (fun c_3 => ?_)
  rotate_left
  · exact absurd c_3 hz
  refine lv_aload hx hb dX3_flagOffline_55 (lv_at hl 1 rfl) ?_
  refine va_getN (D := D) (ci := 1) (v := .int (nI (κ1 0 5))) (C := RX1) (T := TX1) (N := 11) hx hb htA uwX1 hown hKK.1 hP 18 rfl rfl 10 (by decide) (va_Nw.use rfl (ex_RX3_185 hKK.2)) (fun _ h9 => h9) rfl dX3_flagOffline_57 ?_
  refine lv_bipush (v := nI 10) hx hb dX3_flagOffline_60 (by decide) ?_
  refine n_icmp_lt (x := κ1 0 5) (y := 10) (tgt := 75) hx hb dX3_flagOffline_62 (by decide) (by omega) (by decide) (fun c_4 => ?_) (fun c_4 => ?_)
  rotate_left
  · exfalso; omega
  refine lv_aload hx hb dX3_flagOffline_75 (lv_at hl 1 rfl) ?_
  refine lv_iload hx hb dX3_flagOffline_77 (lv_at hl 0 rfl) ?_
  rw [oi_pos hz]
  refine lv_iload_n hx hb dX3_flagOffline_79 rfl (lv_at hl 5 rfl) ?_
  refine lv_iload hx hb dX3_flagOffline_80 (lv_at hl 6 rfl) ?_
  refine wrV0 (As := [.int (nI (plo κ1 (x) (κ1 0 4) 0 - 1)), .int (nI (k9)), .int (nI (w0))]) (rest := []) (n := 3) ⟨hx, hb, hml, hown, htA⟩ (c_note l D cI cZ sa q (fun i => q (18 + i)) σ κ1 (plo κ1 (x) (κ1 0 4) 0 - 1) k9 w0 (adr (wCS q (fun i => q (18 + i)) cI cZ σ κ1)) (D_adr (X_DC1 (σ := σ) (κ0 := κ0) (κ1 := κ1) (D_addr hD rfl))) (by omega) h10 hC hk9 hfl hw9) (cwV 3 htA (gdV wd_384 wd_385 wd_386 wd_4 wd_387) rfl rfl rfl (by decide +kernel) ⟨Nat.le_of_ble_eq_true rfl, Nat.le_of_ble_eq_true rfl⟩) hKK (X_C1 hP) 0 rfl rfl rfl hl.1 rfl (Nat.le_of_ble_eq_true rfl) dX3_flagOffline_82 (Nat.zero_le _) (Nat.zero_le _) hS (fun a h => adr_in (X_DC1 (σ := σ) (κ0 := κ0) (κ1 := κ1) (D_addr hD rfl)) a h) (fun H1 locs hP1 hz1 hk1 hS => ?_)
  have hP : va_P D vwCl (wX q cI cZ σ κ0 (nte κ1 (plo κ1 (x) (κ1 0 4) 0 - 1) k9 w0)) H1 := X_put1 hD hP hk1 hP1
  generalize H1 = H at hP hS ⊢
  refine lv_aload hx hb dX3_flagOffline_85 (lv_at hl 1 rfl) ?_
  refine va_getN (D := D) (ci := 1) (v := .int (nI ((nte κ1 (plo κ1 (x) (κ1 0 4) 0 - 1) k9 w0) 0 5))) (C := RX1) (T := TX1) (N := 11) hx hb htA uwX1 hown hKK.1 hP 18 rfl rfl 10 (by decide) (va_Nw.use rfl (ex_RX3_185 hKK.2)) (fun _ h9 => h9) rfl dX3_flagOffline_87 ?_
  exact wr_i hx hb hr hlocks (rfl) hP hS dX3_flagOffline_90
set_option maxHeartbeats 4000000 in
set_option maxRecDepth 100000 in
theorem f_stateOf_0 (l : Launch) (D : va_G) (cI cZ : ClassId) (sa : Nat → Nat) (q : Nat → Nat) (σ κ0 κ1 : ST)  (H : Heap) (hP : va_P D vwCl (wX q cI cZ σ κ0 κ1) H)  : Met l yX3_stateOf (codeW yX3_stateOf cX3_stateOf 2 (some .int)) ({ frames := 3, cells := 0, slots := 0, locals := 62 } : Room) (RoP D cI cZ sa H [.ref (q 0), .int (nI (0))]) (RoQ (some (.int (nI (κ0 0 2)))) H) 0 0 RoF := by
  refine Met.ofW (cc := cX3_stateOf) (maxL := 2) (ret := (some .int)) (by decide) rfl ?_
  intro p e s m args below meth c s₁ B hml hv
  obtain ⟨rfl, hH, hKK⟩ := hv
  subst hH
  have hx := B.exec
  have hb := B.bytes
  have hr := B.returns
  have htA : ∀ w ∈ WA, w.before _ s = true := fun w h => atoms_spec (ws := (codeW yX3_stateOf cX3_stateOf 2 (some .int))) B.pre w (List.mem_cons_of_mem _ h)
  have hown : s.vm.findClass RX3 = some m.cls := findClass_of_methodNamed B.named
  have hlocks := B.notSynchronized
  have hl := lv_entry ([.ref (q 0), .int (nI (0))]) (n := 2) (Nat.le_of_ble_eq_true rfl)
  rw [lg_entry_eq]
  generalize (lg_sl ([.ref (q 0), .int (nI (0))]) ++ List.replicate (2 - (lg_sl ([.ref (q 0), .int (nI (0))])).length) Slot.unset).toArray = ls at hl ⊢
  have hl : lv_has ls 2 [(0, .ref (q 0)), (1, .int (nI (0)))] := hl
  refine lv_iload_n hx hb dX3_stateOf_0 rfl (lv_at hl 1 rfl) ?_
  refine roS0 (As := [.int (nI (0))]) (rest := []) (n := 1) ⟨hx, hb, hml, hown, htA⟩ (c_reqClient_t l D cI cZ sa (nI (0)) s.heap (by decide)) (va_cwS 1 htA (gdS wd_401 wd_402 wd_1 wd_403) rfl rfl rfl (by decide +kernel) ⟨Nat.le_of_ble_eq_true rfl, Nat.le_of_ble_eq_true rfl⟩) hKK rfl hl.1 rfl (Nat.le_of_ble_eq_true rfl) dX3_stateOf_1 (Nat.zero_le _) (Nat.zero_le _) ?_
  refine lv_aload_n hx hb dX3_stateOf_4 rfl (lv_at hl 0 rfl) ?_
  refine lv_iload_n hx hb dX3_stateOf_5 rfl (lv_at hl 1 rfl) ?_
  refine roV1 (v := .ref (q 12)) (As := [.int (nI (0))]) (rest := []) (n := 1) ⟨hx, hb, hml, hown, htA⟩ (c_clientOf0 l D cI cZ sa q σ κ0 κ1 s.heap hP ) (cwV 1 htA (gdV wd_369 wd_371 wp_3 wd_1 wd_372) rfl rfl rfl (by decide +kernel) ⟨Nat.le_of_ble_eq_true rfl, Nat.le_of_ble_eq_true rfl⟩) hKK hP 0 rfl rfl rfl hl.1 rfl (Nat.le_of_ble_eq_true rfl) dX3_stateOf_6 (Nat.zero_le _) (Nat.zero_le _) ?_
  refine va_getN (D := D) (ci := 1) (v := .int (nI (κ0 0 2))) (C := RX1) (T := TX1) (N := 11) hx hb htA uwX1 hown hKK.1 hP 12 rfl rfl 2 (by decide) (va_Nw.use rfl (ex_RX3_197 hKK.2)) (fun _ h9 => h9) rfl dX3_stateOf_9 ?_
  exact ro_i hx hb hr hlocks (rfl) dX3_stateOf_12
set_option maxHeartbeats 4000000 in
set_option maxRecDepth 100000 in
theorem f_stateOf_1 (l : Launch) (D : va_G) (cI cZ : ClassId) (sa : Nat → Nat) (q : Nat → Nat) (σ κ0 κ1 : ST)  (H : Heap) (hP : va_P D vwCl (wX q cI cZ σ κ0 κ1) H)  : Met l yX3_stateOf (codeW yX3_stateOf cX3_stateOf 2 (some .int)) ({ frames := 3, cells := 0, slots := 0, locals := 62 } : Room) (RoP D cI cZ sa H [.ref (q 0), .int (nI (1))]) (RoQ (some (.int (nI (κ1 0 2)))) H) 0 0 RoF := by
  refine Met.ofW (cc := cX3_stateOf) (maxL := 2) (ret := (some .int)) (by decide) rfl ?_
  intro p e s m args below meth c s₁ B hml hv
  obtain ⟨rfl, hH, hKK⟩ := hv
  subst hH
  have hx := B.exec
  have hb := B.bytes
  have hr := B.returns
  have htA : ∀ w ∈ WA, w.before _ s = true := fun w h => atoms_spec (ws := (codeW yX3_stateOf cX3_stateOf 2 (some .int))) B.pre w (List.mem_cons_of_mem _ h)
  have hown : s.vm.findClass RX3 = some m.cls := findClass_of_methodNamed B.named
  have hlocks := B.notSynchronized
  have hl := lv_entry ([.ref (q 0), .int (nI (1))]) (n := 2) (Nat.le_of_ble_eq_true rfl)
  rw [lg_entry_eq]
  generalize (lg_sl ([.ref (q 0), .int (nI (1))]) ++ List.replicate (2 - (lg_sl ([.ref (q 0), .int (nI (1))])).length) Slot.unset).toArray = ls at hl ⊢
  have hl : lv_has ls 2 [(0, .ref (q 0)), (1, .int (nI (1)))] := hl
  refine lv_iload_n hx hb dX3_stateOf_0 rfl (lv_at hl 1 rfl) ?_
  refine roS0 (As := [.int (nI (1))]) (rest := []) (n := 1) ⟨hx, hb, hml, hown, htA⟩ (c_reqClient_t l D cI cZ sa (nI (1)) s.heap (by decide)) (va_cwS 1 htA (gdS wd_401 wd_402 wd_1 wd_403) rfl rfl rfl (by decide +kernel) ⟨Nat.le_of_ble_eq_true rfl, Nat.le_of_ble_eq_true rfl⟩) hKK rfl hl.1 rfl (Nat.le_of_ble_eq_true rfl) dX3_stateOf_1 (Nat.zero_le _) (Nat.zero_le _) ?_
  refine lv_aload_n hx hb dX3_stateOf_4 rfl (lv_at hl 0 rfl) ?_
  refine lv_iload_n hx hb dX3_stateOf_5 rfl (lv_at hl 1 rfl) ?_
  refine roV1 (v := .ref (q 18)) (As := [.int (nI (1))]) (rest := []) (n := 1) ⟨hx, hb, hml, hown, htA⟩ (c_clientOf1 l D cI cZ sa q σ κ0 κ1 s.heap hP ) (cwV 1 htA (gdV wd_369 wd_371 wp_3 wd_1 wd_372) rfl rfl rfl (by decide +kernel) ⟨Nat.le_of_ble_eq_true rfl, Nat.le_of_ble_eq_true rfl⟩) hKK hP 0 rfl rfl rfl hl.1 rfl (Nat.le_of_ble_eq_true rfl) dX3_stateOf_6 (Nat.zero_le _) (Nat.zero_le _) ?_
  refine va_getN (D := D) (ci := 1) (v := .int (nI (κ1 0 2))) (C := RX1) (T := TX1) (N := 11) hx hb htA uwX1 hown hKK.1 hP 18 rfl rfl 2 (by decide) (va_Nw.use rfl (ex_RX3_197 hKK.2)) (fun _ h9 => h9) rfl dX3_stateOf_9 ?_
  exact ro_i hx hb hr hlocks (rfl) dX3_stateOf_12
set_option maxHeartbeats 4000000 in
set_option maxRecDepth 100000 in
theorem f_window_0 (l : Launch) (D : va_G) (cI cZ : ClassId) (sa : Nat → Nat) (q : Nat → Nat) (σ κ0 κ1 : ST)  (H : Heap) (hP : va_P D vwCl (wX q cI cZ σ κ0 κ1) H)  : Met l yX3_window (codeW yX3_window cX3_window 2 (some .int)) ({ frames := 3, cells := 0, slots := 0, locals := 62 } : Room) (RoP D cI cZ sa H [.ref (q 0), .int (nI (0))]) (RoQ (some (.int (nI (κ0 0 4)))) H) 0 0 RoF := by
  refine Met.ofW (cc := cX3_window) (maxL := 2) (ret := (some .int)) (by decide) rfl ?_
  intro p e s m args below meth c s₁ B hml hv
  obtain ⟨rfl, hH, hKK⟩ := hv
  subst hH
  have hx := B.exec
  have hb := B.bytes
  have hr := B.returns
  have htA : ∀ w ∈ WA, w.before _ s = true := fun w h => atoms_spec (ws := (codeW yX3_window cX3_window 2 (some .int))) B.pre w (List.mem_cons_of_mem _ h)
  have hown : s.vm.findClass RX3 = some m.cls := findClass_of_methodNamed B.named
  have hlocks := B.notSynchronized
  have hl := lv_entry ([.ref (q 0), .int (nI (0))]) (n := 2) (Nat.le_of_ble_eq_true rfl)
  rw [lg_entry_eq]
  generalize (lg_sl ([.ref (q 0), .int (nI (0))]) ++ List.replicate (2 - (lg_sl ([.ref (q 0), .int (nI (0))])).length) Slot.unset).toArray = ls at hl ⊢
  have hl : lv_has ls 2 [(0, .ref (q 0)), (1, .int (nI (0)))] := hl
  refine lv_iload_n hx hb dX3_window_0 rfl (lv_at hl 1 rfl) ?_
  refine roS0 (As := [.int (nI (0))]) (rest := []) (n := 1) ⟨hx, hb, hml, hown, htA⟩ (c_reqClient_t l D cI cZ sa (nI (0)) s.heap (by decide)) (va_cwS 1 htA (gdS wd_401 wd_402 wd_1 wd_403) rfl rfl rfl (by decide +kernel) ⟨Nat.le_of_ble_eq_true rfl, Nat.le_of_ble_eq_true rfl⟩) hKK rfl hl.1 rfl (Nat.le_of_ble_eq_true rfl) dX3_window_1 (Nat.zero_le _) (Nat.zero_le _) ?_
  refine lv_aload_n hx hb dX3_window_4 rfl (lv_at hl 0 rfl) ?_
  refine lv_iload_n hx hb dX3_window_5 rfl (lv_at hl 1 rfl) ?_
  refine roV1 (v := .ref (q 12)) (As := [.int (nI (0))]) (rest := []) (n := 1) ⟨hx, hb, hml, hown, htA⟩ (c_clientOf0 l D cI cZ sa q σ κ0 κ1 s.heap hP ) (cwV 1 htA (gdV wd_369 wd_371 wp_3 wd_1 wd_372) rfl rfl rfl (by decide +kernel) ⟨Nat.le_of_ble_eq_true rfl, Nat.le_of_ble_eq_true rfl⟩) hKK hP 0 rfl rfl rfl hl.1 rfl (Nat.le_of_ble_eq_true rfl) dX3_window_6 (Nat.zero_le _) (Nat.zero_le _) ?_
  refine va_getN (D := D) (ci := 1) (v := .int (nI (κ0 0 4))) (C := RX1) (T := TX1) (N := 11) hx hb htA uwX1 hown hKK.1 hP 12 rfl rfl 6 (by decide) (va_Nw.use rfl (ex_RX3_214 hKK.2)) (fun _ h9 => h9) rfl dX3_window_9 ?_
  exact ro_i hx hb hr hlocks (rfl) dX3_window_12
set_option maxHeartbeats 4000000 in
set_option maxRecDepth 100000 in
theorem f_window_1 (l : Launch) (D : va_G) (cI cZ : ClassId) (sa : Nat → Nat) (q : Nat → Nat) (σ κ0 κ1 : ST)  (H : Heap) (hP : va_P D vwCl (wX q cI cZ σ κ0 κ1) H)  : Met l yX3_window (codeW yX3_window cX3_window 2 (some .int)) ({ frames := 3, cells := 0, slots := 0, locals := 62 } : Room) (RoP D cI cZ sa H [.ref (q 0), .int (nI (1))]) (RoQ (some (.int (nI (κ1 0 4)))) H) 0 0 RoF := by
  refine Met.ofW (cc := cX3_window) (maxL := 2) (ret := (some .int)) (by decide) rfl ?_
  intro p e s m args below meth c s₁ B hml hv
  obtain ⟨rfl, hH, hKK⟩ := hv
  subst hH
  have hx := B.exec
  have hb := B.bytes
  have hr := B.returns
  have htA : ∀ w ∈ WA, w.before _ s = true := fun w h => atoms_spec (ws := (codeW yX3_window cX3_window 2 (some .int))) B.pre w (List.mem_cons_of_mem _ h)
  have hown : s.vm.findClass RX3 = some m.cls := findClass_of_methodNamed B.named
  have hlocks := B.notSynchronized
  have hl := lv_entry ([.ref (q 0), .int (nI (1))]) (n := 2) (Nat.le_of_ble_eq_true rfl)
  rw [lg_entry_eq]
  generalize (lg_sl ([.ref (q 0), .int (nI (1))]) ++ List.replicate (2 - (lg_sl ([.ref (q 0), .int (nI (1))])).length) Slot.unset).toArray = ls at hl ⊢
  have hl : lv_has ls 2 [(0, .ref (q 0)), (1, .int (nI (1)))] := hl
  refine lv_iload_n hx hb dX3_window_0 rfl (lv_at hl 1 rfl) ?_
  refine roS0 (As := [.int (nI (1))]) (rest := []) (n := 1) ⟨hx, hb, hml, hown, htA⟩ (c_reqClient_t l D cI cZ sa (nI (1)) s.heap (by decide)) (va_cwS 1 htA (gdS wd_401 wd_402 wd_1 wd_403) rfl rfl rfl (by decide +kernel) ⟨Nat.le_of_ble_eq_true rfl, Nat.le_of_ble_eq_true rfl⟩) hKK rfl hl.1 rfl (Nat.le_of_ble_eq_true rfl) dX3_window_1 (Nat.zero_le _) (Nat.zero_le _) ?_
  refine lv_aload_n hx hb dX3_window_4 rfl (lv_at hl 0 rfl) ?_
  refine lv_iload_n hx hb dX3_window_5 rfl (lv_at hl 1 rfl) ?_
  refine roV1 (v := .ref (q 18)) (As := [.int (nI (1))]) (rest := []) (n := 1) ⟨hx, hb, hml, hown, htA⟩ (c_clientOf1 l D cI cZ sa q σ κ0 κ1 s.heap hP ) (cwV 1 htA (gdV wd_369 wd_371 wp_3 wd_1 wd_372) rfl rfl rfl (by decide +kernel) ⟨Nat.le_of_ble_eq_true rfl, Nat.le_of_ble_eq_true rfl⟩) hKK hP 0 rfl rfl rfl hl.1 rfl (Nat.le_of_ble_eq_true rfl) dX3_window_6 (Nat.zero_le _) (Nat.zero_le _) ?_
  refine va_getN (D := D) (ci := 1) (v := .int (nI (κ1 0 4))) (C := RX1) (T := TX1) (N := 11) hx hb htA uwX1 hown hKK.1 hP 18 rfl rfl 6 (by decide) (va_Nw.use rfl (ex_RX3_214 hKK.2)) (fun _ h9 => h9) rfl dX3_window_9 ?_
  exact ro_i hx hb hr hlocks (rfl) dX3_window_12
set_option maxHeartbeats 4000000 in
set_option maxRecDepth 100000 in
theorem f_windowAt_ok0 (l : Launch) (D : va_G) (cI cZ : ClassId) (sa : Nat → Nat) (q : Nat → Nat) (σ κ0 κ1 : ST) (j : Nat) (H : Heap) (hP : va_P D vwCl (wX q cI cZ σ κ0 κ1) H) (hj : j < κ0 0 4) (h10 : κ0 0 4 ≤ 10) : Met l yX3_windowAt (codeW yX3_windowAt cX3_windowAt 4 (some .int)) ({ frames := 3, cells := 0, slots := 0, locals := 62 } : Room) (RoP D cI cZ sa H [.ref (q 0), .int (nI (0)), .int (nI (j))]) (RoQ (some (.int (nI (κ0 1 j)))) H) 0 0 RoF := by
  refine Met.ofW (cc := cX3_windowAt) (maxL := 4) (ret := (some .int)) (by decide) rfl ?_
  intro p e s m args below meth c s₁ B hml hv
  obtain ⟨rfl, hH, hKK⟩ := hv
  subst hH
  have hx := B.exec
  have hb := B.bytes
  have hr := B.returns
  have htA : ∀ w ∈ WA, w.before _ s = true := fun w h => atoms_spec (ws := (codeW yX3_windowAt cX3_windowAt 4 (some .int))) B.pre w (List.mem_cons_of_mem _ h)
  have hown : s.vm.findClass RX3 = some m.cls := findClass_of_methodNamed B.named
  have hlocks := B.notSynchronized
  have hl := lv_entry ([.ref (q 0), .int (nI (0)), .int (nI (j))]) (n := 4) (Nat.le_of_ble_eq_true rfl)
  rw [lg_entry_eq]
  generalize (lg_sl ([.ref (q 0), .int (nI (0)), .int (nI (j))]) ++ List.replicate (4 - (lg_sl ([.ref (q 0), .int (nI (0)), .int (nI (j))])).length) Slot.unset).toArray = ls at hl ⊢
  have hl : lv_has ls 4 [(0, .ref (q 0)), (1, .int (nI (0))), (2, .int (nI (j)))] := hl
  refine lv_iload_n hx hb dX3_windowAt_0 rfl (lv_at hl 1 rfl) ?_
  refine roS0 (As := [.int (nI (0))]) (rest := []) (n := 1) ⟨hx, hb, hml, hown, htA⟩ (c_reqClient_t l D cI cZ sa (nI (0)) s.heap (by decide)) (va_cwS 1 htA (gdS wd_401 wd_402 wd_1 wd_403) rfl rfl rfl (by decide +kernel) ⟨Nat.le_of_ble_eq_true rfl, Nat.le_of_ble_eq_true rfl⟩) hKK rfl hl.1 rfl (Nat.le_of_ble_eq_true rfl) dX3_windowAt_1 (Nat.zero_le _) (Nat.zero_le _) ?_
  refine lv_aload_n hx hb dX3_windowAt_4 rfl (lv_at hl 0 rfl) ?_
  refine lv_iload_n hx hb dX3_windowAt_5 rfl (lv_at hl 1 rfl) ?_
  refine roV1 (v := .ref (q 12)) (As := [.int (nI (0))]) (rest := []) (n := 1) ⟨hx, hb, hml, hown, htA⟩ (c_clientOf0 l D cI cZ sa q σ κ0 κ1 s.heap hP ) (cwV 1 htA (gdV wd_369 wd_371 wp_3 wd_1 wd_372) rfl rfl rfl (by decide +kernel) ⟨Nat.le_of_ble_eq_true rfl, Nat.le_of_ble_eq_true rfl⟩) hKK hP 0 rfl rfl rfl hl.1 rfl (Nat.le_of_ble_eq_true rfl) dX3_windowAt_6 (Nat.zero_le _) (Nat.zero_le _) ?_
  refine lv_astore_n (lv' := [(3, .ref (q 12)), (0, .ref (q 0)), (1, .int (nI (0))), (2, .int (nI (j)))]) hx hb dX3_windowAt_9 rfl hl (by decide) rfl (fun ls hl => ?_)
  refine lv_aload_n hx hb dX3_windowAt_10 rfl (lv_at hl 0 rfl) ?_
  refine lv_iload_n hx hb dX3_windowAt_11 rfl (lv_at hl 3 rfl) ?_
  refine roV1 (v := .int (b2i (hpl κ0 (nI (j))))) (As := [.int (nI (j))]) (rest := []) (n := 1) ⟨hx, hb, hml, hown, htA⟩ (c_hasPlace l D cI cZ sa q (fun i => q (12 + i)) σ κ0 (nI (j)) s.heap (X_C0 hP) ) (cwV 1 htA (gdV wd_457 wd_389 wd_390 wd_4 wd_391) rfl rfl rfl (by decide +kernel) ⟨Nat.le_of_ble_eq_true rfl, Nat.le_of_ble_eq_true rfl⟩) hKK hP 12 rfl rfl rfl hl.1 rfl (Nat.le_of_ble_eq_true rfl) dX3_windowAt_12 (Nat.zero_le _) (Nat.zero_le _) ?_
  refine b_ifne (b := hpl κ0 (nI (j))) (tgt := 28) hx hb dX3_windowAt_15 (by decide) (fun c_1 => ?_) (fun c_1 => ?_)
  rotate_left
  · exact absurd (c_1.symm.trans (hpl_n hj h10)) (by decide)
  refine lv_aload_n hx hb dX3_windowAt_28 rfl (lv_at hl 0 rfl) ?_
  refine va_getN (D := D) (ci := 1) (v := .ref (q 13)) (C := RX1) (T := TX1) (N := 11) hx hb htA uwX1 hown hKK.1 hP 12 rfl rfl 4 (by decide) (va_Nw.use rfl (ex_RX3_225 hKK.2)) (fun _ h9 => h9) rfl dX3_windowAt_29 ?_
  refine lv_iload_n hx hb dX3_windowAt_32 rfl (lv_at hl 3 rfl) ?_
  refine n_iald (g := κ0 1) (cA := cI) (n := 10) (j := j) hx hb hKK.1 hP 13 0 rfl rfl (by omega) (Nat.le_of_ble_eq_true rfl) dX3_windowAt_33 ?_
  exact ro_i hx hb hr hlocks (rfl) dX3_windowAt_34
set_option maxHeartbeats 4000000 in
set_option maxRecDepth 100000 in
theorem f_windowAt_ok1 (l : Launch) (D : va_G) (cI cZ : ClassId) (sa : Nat → Nat) (q : Nat → Nat) (σ κ0 κ1 : ST) (j : Nat) (H : Heap) (hP : va_P D vwCl (wX q cI cZ σ κ0 κ1) H) (hj : j < κ1 0 4) (h10 : κ1 0 4 ≤ 10) : Met l yX3_windowAt (codeW yX3_windowAt cX3_windowAt 4 (some .int)) ({ frames := 3, cells := 0, slots := 0, locals := 62 } : Room) (RoP D cI cZ sa H [.ref (q 0), .int (nI (1)), .int (nI (j))]) (RoQ (some (.int (nI (κ1 1 j)))) H) 0 0 RoF := by
  refine Met.ofW (cc := cX3_windowAt) (maxL := 4) (ret := (some .int)) (by decide) rfl ?_
  intro p e s m args below meth c s₁ B hml hv
  obtain ⟨rfl, hH, hKK⟩ := hv
  subst hH
  have hx := B.exec
  have hb := B.bytes
  have hr := B.returns
  have htA : ∀ w ∈ WA, w.before _ s = true := fun w h => atoms_spec (ws := (codeW yX3_windowAt cX3_windowAt 4 (some .int))) B.pre w (List.mem_cons_of_mem _ h)
  have hown : s.vm.findClass RX3 = some m.cls := findClass_of_methodNamed B.named
  have hlocks := B.notSynchronized
  have hl := lv_entry ([.ref (q 0), .int (nI (1)), .int (nI (j))]) (n := 4) (Nat.le_of_ble_eq_true rfl)
  rw [lg_entry_eq]
  generalize (lg_sl ([.ref (q 0), .int (nI (1)), .int (nI (j))]) ++ List.replicate (4 - (lg_sl ([.ref (q 0), .int (nI (1)), .int (nI (j))])).length) Slot.unset).toArray = ls at hl ⊢
  have hl : lv_has ls 4 [(0, .ref (q 0)), (1, .int (nI (1))), (2, .int (nI (j)))] := hl
  refine lv_iload_n hx hb dX3_windowAt_0 rfl (lv_at hl 1 rfl) ?_
  refine roS0 (As := [.int (nI (1))]) (rest := []) (n := 1) ⟨hx, hb, hml, hown, htA⟩ (c_reqClient_t l D cI cZ sa (nI (1)) s.heap (by decide)) (va_cwS 1 htA (gdS wd_401 wd_402 wd_1 wd_403) rfl rfl rfl (by decide +kernel) ⟨Nat.le_of_ble_eq_true rfl, Nat.le_of_ble_eq_true rfl⟩) hKK rfl hl.1 rfl (Nat.le_of_ble_eq_true rfl) dX3_windowAt_1 (Nat.zero_le _) (Nat.zero_le _) ?_
  refine lv_aload_n hx hb dX3_windowAt_4 rfl (lv_at hl 0 rfl) ?_
  refine lv_iload_n hx hb dX3_windowAt_5 rfl (lv_at hl 1 rfl) ?_
  refine roV1 (v := .ref (q 18)) (As := [.int (nI (1))]) (rest := []) (n := 1) ⟨hx, hb, hml, hown, htA⟩ (c_clientOf1 l D cI cZ sa q σ κ0 κ1 s.heap hP ) (cwV 1 htA (gdV wd_369 wd_371 wp_3 wd_1 wd_372) rfl rfl rfl (by decide +kernel) ⟨Nat.le_of_ble_eq_true rfl, Nat.le_of_ble_eq_true rfl⟩) hKK hP 0 rfl rfl rfl hl.1 rfl (Nat.le_of_ble_eq_true rfl) dX3_windowAt_6 (Nat.zero_le _) (Nat.zero_le _) ?_
  refine lv_astore_n (lv' := [(3, .ref (q 18)), (0, .ref (q 0)), (1, .int (nI (1))), (2, .int (nI (j)))]) hx hb dX3_windowAt_9 rfl hl (by decide) rfl (fun ls hl => ?_)
  refine lv_aload_n hx hb dX3_windowAt_10 rfl (lv_at hl 0 rfl) ?_
  refine lv_iload_n hx hb dX3_windowAt_11 rfl (lv_at hl 3 rfl) ?_
  refine roV1 (v := .int (b2i (hpl κ1 (nI (j))))) (As := [.int (nI (j))]) (rest := []) (n := 1) ⟨hx, hb, hml, hown, htA⟩ (c_hasPlace l D cI cZ sa q (fun i => q (18 + i)) σ κ1 (nI (j)) s.heap (X_C1 hP) ) (cwV 1 htA (gdV wd_457 wd_389 wd_390 wd_4 wd_391) rfl rfl rfl (by decide +kernel) ⟨Nat.le_of_ble_eq_true rfl, Nat.le_of_ble_eq_true rfl⟩) hKK hP 18 rfl rfl rfl hl.1 rfl (Nat.le_of_ble_eq_true rfl) dX3_windowAt_12 (Nat.zero_le _) (Nat.zero_le _) ?_
  refine b_ifne (b := hpl κ1 (nI (j))) (tgt := 28) hx hb dX3_windowAt_15 (by decide) (fun c_1 => ?_) (fun c_1 => ?_)
  rotate_left
  · exact absurd (c_1.symm.trans (hpl_n hj h10)) (by decide)
  refine lv_aload_n hx hb dX3_windowAt_28 rfl (lv_at hl 0 rfl) ?_
  refine va_getN (D := D) (ci := 1) (v := .ref (q 19)) (C := RX1) (T := TX1) (N := 11) hx hb htA uwX1 hown hKK.1 hP 18 rfl rfl 4 (by decide) (va_Nw.use rfl (ex_RX3_225 hKK.2)) (fun _ h9 => h9) rfl dX3_windowAt_29 ?_
  refine lv_iload_n hx hb dX3_windowAt_32 rfl (lv_at hl 3 rfl) ?_
  refine n_iald (g := κ1 1) (cA := cI) (n := 10) (j := j) hx hb hKK.1 hP 19 0 rfl rfl (by omega) (Nat.le_of_ble_eq_true rfl) dX3_windowAt_33 ?_
  exact ro_i hx hb hr hlocks (rfl) dX3_windowAt_34
set_option maxHeartbeats 4000000 in
set_option maxRecDepth 100000 in
theorem f_known_ok0 (l : Launch) (D : va_G) (cI cZ : ClassId) (sa : Nat → Nat) (q : Nat → Nat) (σ κ0 κ1 : ST) (j : Nat) (H : Heap) (hP : va_P D vwCl (wX q cI cZ σ κ0 κ1) H) (hj : j < κ0 0 4) (h10 : κ0 0 4 ≤ 10) : Met l yX3_known (codeW yX3_known cX3_known 4 (some .int)) ({ frames := 3, cells := 0, slots := 0, locals := 62 } : Room) (RoP D cI cZ sa H [.ref (q 0), .int (nI (0)), .int (nI (j))]) (RoQ (some (.int (nI (κ0 2 j)))) H) 0 0 RoF := by
  refine Met.ofW (cc := cX3_known) (maxL := 4) (ret := (some .int)) (by decide) rfl ?_
  intro p e s m args below meth c s₁ B hml hv
  obtain ⟨rfl, hH, hKK⟩ := hv
  subst hH
  have hx := B.exec
  have hb := B.bytes
  have hr := B.returns
  have htA : ∀ w ∈ WA, w.before _ s = true := fun w h => atoms_spec (ws := (codeW yX3_known cX3_known 4 (some .int))) B.pre w (List.mem_cons_of_mem _ h)
  have hown : s.vm.findClass RX3 = some m.cls := findClass_of_methodNamed B.named
  have hlocks := B.notSynchronized
  have hl := lv_entry ([.ref (q 0), .int (nI (0)), .int (nI (j))]) (n := 4) (Nat.le_of_ble_eq_true rfl)
  rw [lg_entry_eq]
  generalize (lg_sl ([.ref (q 0), .int (nI (0)), .int (nI (j))]) ++ List.replicate (4 - (lg_sl ([.ref (q 0), .int (nI (0)), .int (nI (j))])).length) Slot.unset).toArray = ls at hl ⊢
  have hl : lv_has ls 4 [(0, .ref (q 0)), (1, .int (nI (0))), (2, .int (nI (j)))] := hl
  refine lv_iload_n hx hb dX3_known_0 rfl (lv_at hl 1 rfl) ?_
  refine roS0 (As := [.int (nI (0))]) (rest := []) (n := 1) ⟨hx, hb, hml, hown, htA⟩ (c_reqClient_t l D cI cZ sa (nI (0)) s.heap (by decide)) (va_cwS 1 htA (gdS wd_401 wd_402 wd_1 wd_403) rfl rfl rfl (by decide +kernel) ⟨Nat.le_of_ble_eq_true rfl, Nat.le_of_ble_eq_true rfl⟩) hKK rfl hl.1 rfl (Nat.le_of_ble_eq_true rfl) dX3_known_1 (Nat.zero_le _) (Nat.zero_le _) ?_
  refine lv_aload_n hx hb dX3_known_4 rfl (lv_at hl 0 rfl) ?_
  refine lv_iload_n hx hb dX3_known_5 rfl (lv_at hl 1 rfl) ?_
  refine roV1 (v := .ref (q 12)) (As := [.int (nI (0))]) (rest := []) (n := 1) ⟨hx, hb, hml, hown, htA⟩ (c_clientOf0 l D cI cZ sa q σ κ0 κ1 s.heap hP ) (cwV 1 htA (gdV wd_369 wd_371 wp_3 wd_1 wd_372) rfl rfl rfl (by decide +kernel) ⟨Nat.le_of_ble_eq_true rfl, Nat.le_of_ble_eq_true rfl⟩) hKK hP 0 rfl rfl rfl hl.1 rfl (Nat.le_of_ble_eq_true rfl) dX3_known_6 (Nat.zero_le _) (Nat.zero_le _) ?_
  refine lv_astore_n (lv' := [(3, .ref (q 12)), (0, .ref (q 0)), (1, .int (nI (0))), (2, .int (nI (j)))]) hx hb dX3_known_9 rfl hl (by decide) rfl (fun ls hl => ?_)
  refine lv_aload_n hx hb dX3_known_10 rfl (lv_at hl 0 rfl) ?_
  refine lv_iload_n hx hb dX3_known_11 rfl (lv_at hl 3 rfl) ?_
  refine roV1 (v := .int (b2i (hpl κ0 (nI (j))))) (As := [.int (nI (j))]) (rest := []) (n := 1) ⟨hx, hb, hml, hown, htA⟩ (c_hasPlace l D cI cZ sa q (fun i => q (12 + i)) σ κ0 (nI (j)) s.heap (X_C0 hP) ) (cwV 1 htA (gdV wd_457 wd_389 wd_390 wd_4 wd_391) rfl rfl rfl (by decide +kernel) ⟨Nat.le_of_ble_eq_true rfl, Nat.le_of_ble_eq_true rfl⟩) hKK hP 12 rfl rfl rfl hl.1 rfl (Nat.le_of_ble_eq_true rfl) dX3_known_12 (Nat.zero_le _) (Nat.zero_le _) ?_
  refine b_ifne (b := hpl κ0 (nI (j))) (tgt := 28) hx hb dX3_known_15 (by decide) (fun c_1 => ?_) (fun c_1 => ?_)
  rotate_left
  · exact absurd (c_1.symm.trans (hpl_n hj h10)) (by decide)
  refine lv_aload_n hx hb dX3_known_28 rfl (lv_at hl 0 rfl) ?_
  refine va_getN (D := D) (ci := 1) (v := .ref (q 14)) (C := RX1) (T := TX1) (N := 11) hx hb htA uwX1 hown hKK.1 hP 12 rfl rfl 5 (by decide) (va_Nw.use rfl (ex_RX3_229 hKK.2)) (fun _ h9 => h9) rfl dX3_known_29 ?_
  refine lv_iload_n hx hb dX3_known_32 rfl (lv_at hl 3 rfl) ?_
  refine n_iald (g := κ0 2) (cA := cI) (n := 10) (j := j) hx hb hKK.1 hP 14 0 rfl rfl (by omega) (Nat.le_of_ble_eq_true rfl) dX3_known_33 ?_
  exact ro_i hx hb hr hlocks (rfl) dX3_known_34
set_option maxHeartbeats 4000000 in
set_option maxRecDepth 100000 in
theorem f_known_ok1 (l : Launch) (D : va_G) (cI cZ : ClassId) (sa : Nat → Nat) (q : Nat → Nat) (σ κ0 κ1 : ST) (j : Nat) (H : Heap) (hP : va_P D vwCl (wX q cI cZ σ κ0 κ1) H) (hj : j < κ1 0 4) (h10 : κ1 0 4 ≤ 10) : Met l yX3_known (codeW yX3_known cX3_known 4 (some .int)) ({ frames := 3, cells := 0, slots := 0, locals := 62 } : Room) (RoP D cI cZ sa H [.ref (q 0), .int (nI (1)), .int (nI (j))]) (RoQ (some (.int (nI (κ1 2 j)))) H) 0 0 RoF := by
  refine Met.ofW (cc := cX3_known) (maxL := 4) (ret := (some .int)) (by decide) rfl ?_
  intro p e s m args below meth c s₁ B hml hv
  obtain ⟨rfl, hH, hKK⟩ := hv
  subst hH
  have hx := B.exec
  have hb := B.bytes
  have hr := B.returns
  have htA : ∀ w ∈ WA, w.before _ s = true := fun w h => atoms_spec (ws := (codeW yX3_known cX3_known 4 (some .int))) B.pre w (List.mem_cons_of_mem _ h)
  have hown : s.vm.findClass RX3 = some m.cls := findClass_of_methodNamed B.named
  have hlocks := B.notSynchronized
  have hl := lv_entry ([.ref (q 0), .int (nI (1)), .int (nI (j))]) (n := 4) (Nat.le_of_ble_eq_true rfl)
  rw [lg_entry_eq]
  generalize (lg_sl ([.ref (q 0), .int (nI (1)), .int (nI (j))]) ++ List.replicate (4 - (lg_sl ([.ref (q 0), .int (nI (1)), .int (nI (j))])).length) Slot.unset).toArray = ls at hl ⊢
  have hl : lv_has ls 4 [(0, .ref (q 0)), (1, .int (nI (1))), (2, .int (nI (j)))] := hl
  refine lv_iload_n hx hb dX3_known_0 rfl (lv_at hl 1 rfl) ?_
  refine roS0 (As := [.int (nI (1))]) (rest := []) (n := 1) ⟨hx, hb, hml, hown, htA⟩ (c_reqClient_t l D cI cZ sa (nI (1)) s.heap (by decide)) (va_cwS 1 htA (gdS wd_401 wd_402 wd_1 wd_403) rfl rfl rfl (by decide +kernel) ⟨Nat.le_of_ble_eq_true rfl, Nat.le_of_ble_eq_true rfl⟩) hKK rfl hl.1 rfl (Nat.le_of_ble_eq_true rfl) dX3_known_1 (Nat.zero_le _) (Nat.zero_le _) ?_
  refine lv_aload_n hx hb dX3_known_4 rfl (lv_at hl 0 rfl) ?_
  refine lv_iload_n hx hb dX3_known_5 rfl (lv_at hl 1 rfl) ?_
  refine roV1 (v := .ref (q 18)) (As := [.int (nI (1))]) (rest := []) (n := 1) ⟨hx, hb, hml, hown, htA⟩ (c_clientOf1 l D cI cZ sa q σ κ0 κ1 s.heap hP ) (cwV 1 htA (gdV wd_369 wd_371 wp_3 wd_1 wd_372) rfl rfl rfl (by decide +kernel) ⟨Nat.le_of_ble_eq_true rfl, Nat.le_of_ble_eq_true rfl⟩) hKK hP 0 rfl rfl rfl hl.1 rfl (Nat.le_of_ble_eq_true rfl) dX3_known_6 (Nat.zero_le _) (Nat.zero_le _) ?_
  refine lv_astore_n (lv' := [(3, .ref (q 18)), (0, .ref (q 0)), (1, .int (nI (1))), (2, .int (nI (j)))]) hx hb dX3_known_9 rfl hl (by decide) rfl (fun ls hl => ?_)
  refine lv_aload_n hx hb dX3_known_10 rfl (lv_at hl 0 rfl) ?_
  refine lv_iload_n hx hb dX3_known_11 rfl (lv_at hl 3 rfl) ?_
  refine roV1 (v := .int (b2i (hpl κ1 (nI (j))))) (As := [.int (nI (j))]) (rest := []) (n := 1) ⟨hx, hb, hml, hown, htA⟩ (c_hasPlace l D cI cZ sa q (fun i => q (18 + i)) σ κ1 (nI (j)) s.heap (X_C1 hP) ) (cwV 1 htA (gdV wd_457 wd_389 wd_390 wd_4 wd_391) rfl rfl rfl (by decide +kernel) ⟨Nat.le_of_ble_eq_true rfl, Nat.le_of_ble_eq_true rfl⟩) hKK hP 18 rfl rfl rfl hl.1 rfl (Nat.le_of_ble_eq_true rfl) dX3_known_12 (Nat.zero_le _) (Nat.zero_le _) ?_
  refine b_ifne (b := hpl κ1 (nI (j))) (tgt := 28) hx hb dX3_known_15 (by decide) (fun c_1 => ?_) (fun c_1 => ?_)
  rotate_left
  · exact absurd (c_1.symm.trans (hpl_n hj h10)) (by decide)
  refine lv_aload_n hx hb dX3_known_28 rfl (lv_at hl 0 rfl) ?_
  refine va_getN (D := D) (ci := 1) (v := .ref (q 20)) (C := RX1) (T := TX1) (N := 11) hx hb htA uwX1 hown hKK.1 hP 18 rfl rfl 5 (by decide) (va_Nw.use rfl (ex_RX3_229 hKK.2)) (fun _ h9 => h9) rfl dX3_known_29 ?_
  refine lv_iload_n hx hb dX3_known_32 rfl (lv_at hl 3 rfl) ?_
  refine n_iald (g := κ1 2) (cA := cI) (n := 10) (j := j) hx hb hKK.1 hP 20 0 rfl rfl (by omega) (Nat.le_of_ble_eq_true rfl) dX3_known_33 ?_
  exact ro_i hx hb hr hlocks (rfl) dX3_known_34
set_option maxHeartbeats 4000000 in
set_option maxRecDepth 100000 in
theorem f_sync_y0 (l : Launch) (D : va_G) (cI cZ : ClassId) (sa : Nat → Nat) (q : Nat → Nat) (σ κ0 κ1 : ST)  (A : Nat → Prop) (hD : va_D A (wX q cI cZ σ κ0 κ1)) (hB : ∀ k i, σ k i < 1000000000) (hv9 : decide (σ 7 0 - κ0 0 2 ≤ 40) = true) (hsy : κ0 0 2 ≤ σ 7 0) (hCa : CI κ0) (hfl : κ0 0 5 ≤ 10) (hCb : CI (syB σ κ0)) (h15 : ∀ i, σ 5 i < 16) (hfb : (syB σ κ0) 0 5 ≤ 10) (hBs : ∀ k i, (syS σ κ0) k i < 1073741824) (hCc : CI (syC σ κ0)) (hco : (syS σ κ0) 1 0 ≤ 60) (hb6 : (syC σ κ0) 0 0 < 6) (hwd : (syC σ κ0) 0 1 ≤ 10) (hlat : ∀ i, i < wsz (syS σ κ0) (syC σ κ0) → 0 < lat (syS σ κ0) (ms (bxs (syS σ κ0) ((syC σ κ0) 0 0)) 60) (nI i) ((syS σ κ0) 1 0) 0 0 ∧ wml (syS σ κ0) ((syC σ κ0) 0 0) i < 60) : Met l yX3_sync (codeW yX3_sync cX3_sync 4 (some .int)) ({ frames := 6, cells := 0, slots := 0, locals := 135 } : Room) (WrP D cI cZ sa (wX q cI cZ σ κ0 κ1) [.ref (q 0), .int (nI (0))]) (WrQ (some (.int (nI (κ0 0 5 - (syB σ κ0) 0 5)))) D (wX q cI cZ (syS σ κ0) (syD σ κ0) κ1) A) 0 0 A := by
  refine Met.ofW (cc := cX3_sync) (maxL := 4) (ret := (some .int)) (by decide) rfl ?_
  intro p e s m args below meth c s₁ B hml hv
  obtain ⟨rfl, hH, hKK⟩ := hv
  have hx := B.exec
  have hb := B.bytes
  have hr := B.returns
  have htA : ∀ w ∈ WA, w.before _ s = true := fun w h => atoms_spec (ws := (codeW yX3_sync cX3_sync 4 (some .int))) B.pre w (List.mem_cons_of_mem _ h)
  have hown : s.vm.findClass RX3 = some m.cls := findClass_of_methodNamed B.named
  have hlocks := B.notSynchronized
  have hP := hH
  have hS : va_S A s.heap s.heap [] := va_S.rf
  have hl := lv_entry ([.ref (q 0), .int (nI (0))]) (n := 4) (Nat.le_of_ble_eq_true rfl)
  rw [lg_entry_eq]
  generalize (lg_sl ([.ref (q 0), .int (nI (0))]) ++ List.replicate (4 - (lg_sl ([.ref (q 0), .int (nI (0))])).length) Slot.unset).toArray = ls at hl ⊢
  have hl : lv_has ls 4 [(0, .ref (q 0)), (1, .int (nI (0)))] := hl
  have hB1 : ∀ k i, σ k i < 1073741824 := fun k i => Nat.lt_trans (hB k i) (by decide)
  refine lv_iload_n hx hb dX3_sync_0 rfl (lv_at hl 1 rfl) ?_
  refine roS0 (As := [.int (nI (0))]) (rest := []) (n := 1) ⟨hx, hb, hml, hown, htA⟩ (c_reqClient_t l D cI cZ sa (nI (0)) s.heap (by decide)) (va_cwS 1 htA (gdS wd_401 wd_402 wd_1 wd_403) rfl rfl rfl (by decide +kernel) ⟨Nat.le_of_ble_eq_true rfl, Nat.le_of_ble_eq_true rfl⟩) hKK rfl hl.1 rfl (Nat.le_of_ble_eq_true rfl) dX3_sync_1 (Nat.zero_le _) (Nat.zero_le _) ?_
  refine lv_aload_n hx hb dX3_sync_4 rfl (lv_at hl 0 rfl) ?_
  refine lv_iload_n hx hb dX3_sync_5 rfl (lv_at hl 1 rfl) ?_
  refine roV1 (v := .ref (q 12)) (As := [.int (nI (0))]) (rest := []) (n := 1) ⟨hx, hb, hml, hown, htA⟩ (c_clientOf0 l D cI cZ sa q σ κ0 κ1 s.heap hP ) (cwV 1 htA (gdV wd_369 wd_371 wp_3 wd_1 wd_372) rfl rfl rfl (by decide +kernel) ⟨Nat.le_of_ble_eq_true rfl, Nat.le_of_ble_eq_true rfl⟩) hKK hP 0 rfl rfl rfl hl.1 rfl (Nat.le_of_ble_eq_true rfl) dX3_sync_6 (Nat.zero_le _) (Nat.zero_le _) ?_
  refine lv_astore_n (lv' := [(2, .ref (q 12)), (0, .ref (q 0)), (1, .int (nI (0)))]) hx hb dX3_sync_9 rfl hl (by decide) rfl (fun ls hl => ?_)
  refine lv_aload_n hx hb dX3_sync_10 rfl (lv_at hl 1 rfl) ?_
  refine va_get (D := D) (ci := 3) (v := .ref (q 1)) (C := RX3) (T := TX3) (N := 3) hx hb htA uwX3 hown hKK.1 hP 0 rfl rfl 0 (by decide) (htA _ wd_125) (fun _ h9 => h9) rfl dX3_sync_11 ?_
  refine va_getN (D := D) (ci := 2) (v := .ref (q 7)) (C := RX2) (T := TX2) (N := 7) hx hb htA uwX2 hown hKK.1 hP 1 rfl rfl 5 (by decide) (va_Nw.use rfl (ex_RX3_85 hKK.2)) (fun _ h9 => h9) rfl dX3_sync_14 ?_
  refine lv_aload_n hx hb dX3_sync_17 rfl (lv_at hl 0 rfl) ?_
  refine va_getN (D := D) (ci := 1) (v := .int (nI (κ0 0 2))) (C := RX1) (T := TX1) (N := 11) hx hb htA uwX1 hown hKK.1 hP 12 rfl rfl 2 (by decide) (va_Nw.use rfl (ex_RX3_197 hKK.2)) (fun _ h9 => h9) rfl dX3_sync_18 ?_
  refine roV1 (v := .int (b2i (decide (σ 7 0 - κ0 0 2 ≤ 40)))) (As := [.int (nI (κ0 0 2))]) (rest := []) (n := 1) ⟨hx, hb, hml, hown, htA⟩ (c_reach l D cI cZ sa q σ (κ0 0 2) s.heap (X_SS hP) hB1 hsy) (cwV 1 htA (gdV wd_405 wd_406 wd_407 wd_3 wd_408) rfl rfl rfl (by decide +kernel) ⟨Nat.le_of_ble_eq_true rfl, Nat.le_of_ble_eq_true rfl⟩) hKK hP 7 rfl rfl rfl hl.1 rfl (Nat.le_of_ble_eq_true rfl) dX3_sync_21 (Nat.zero_le _) (Nat.zero_le _) ?_
  refine b_ifne (b := decide (σ 7 0 - κ0 0 2 ≤ 40)) (tgt := 37) hx hb dX3_sync_24 (by decide) (fun c_1 => ?_) (fun c_1 => ?_)
  rotate_left
  · exact absurd (c_1.symm.trans hv9) (by decide)
  refine lv_aload_n hx hb dX3_sync_37 rfl (lv_at hl 0 rfl) ?_
  refine lv_aload_n hx hb dX3_sync_38 rfl (lv_at hl 1 rfl) ?_
  refine va_get (D := D) (ci := 3) (v := .ref (q 1)) (C := RX3) (T := TX3) (N := 3) hx hb htA uwX3 hown hKK.1 hP 0 rfl rfl 0 (by decide) (htA _ wd_125) (fun _ h9 => h9) rfl dX3_sync_39 ?_
  refine wrV1 (v := .int (nI (κ0 0 5 - (syB σ κ0) 0 5))) (As := [.ref (q 1)]) (rest := []) (n := 1) ⟨hx, hb, hml, hown, htA⟩ (c_leaveOut l D cI cZ sa q (fun i => q (12 + i)) σ κ0 (adr (wCS q (fun i => q (12 + i)) cI cZ σ κ0)) (D_adr (X_DC0 (σ := σ) (κ0 := κ0) (κ1 := κ1) (D_addr hD rfl))) hB1 hCa hsy hfl) (cwV 1 htA (gdV wd_409 wd_410 wd_411 wd_4 wd_412) rfl rfl rfl (by decide +kernel) ⟨Nat.le_of_ble_eq_true rfl, Nat.le_of_ble_eq_true rfl⟩) hKK (X_C0 hP) 0 rfl rfl rfl hl.1 rfl (Nat.le_of_ble_eq_true rfl) dX3_sync_42 (Nat.zero_le _) (Nat.zero_le _) hS (fun a h => adr_in (X_DC0 (σ := σ) (κ0 := κ0) (κ1 := κ1) (D_addr hD rfl)) a h) (fun H1 locs hP1 hz1 hk1 hS => ?_)
  have hP : va_P D vwCl (wX q cI cZ σ ((syB σ κ0)) κ1) H1 := X_put0 hD hP hk1 hP1
  generalize H1 = H at hP hS ⊢
  refine lv_istore_n (lv' := [(3, .int (nI (κ0 0 5 - (syB σ κ0) 0 5))), (2, .ref (q 12)), (0, .ref (q 0)), (1, .int (nI (0)))]) hx hb dX3_sync_45 rfl hl (by decide) rfl (fun ls hl => ?_)
  refine lv_aload_n hx hb dX3_sync_46 rfl (lv_at hl 1 rfl) ?_
  refine lv_aload_n hx hb dX3_sync_47 rfl (lv_at hl 2 rfl) ?_
  refine va_get (D := D) (ci := 3) (v := .ref (q 1)) (C := RX3) (T := TX3) (N := 3) hx hb htA uwX3 hown hKK.1 hP 0 rfl rfl 0 (by decide) (htA _ wd_125) (fun _ h9 => h9) rfl dX3_sync_48 ?_
  refine wrV0 (As := [.ref (q 1)]) (rest := []) (n := 1) ⟨hx, hb, hml, hown, htA⟩ (c_replay l D cI cZ sa q (fun i => q (12 + i)) σ (syB σ κ0) (adr (wCS q (fun i => q (12 + i)) cI cZ σ (syB σ κ0))) (D_adr (X_DC0 (σ := σ) (κ0 := (syB σ κ0)) (κ1 := κ1) (D_addr hD rfl))) hB hCb h15 hfb) (cwV 1 htA (gdV wd_431 wd_432 wd_433 wd_4 wd_434) rfl rfl rfl (by decide +kernel) ⟨Nat.le_of_ble_eq_true rfl, Nat.le_of_ble_eq_true rfl⟩) hKK (X_C0 hP) 0 rfl rfl rfl hl.1 rfl (Nat.le_of_ble_eq_true rfl) dX3_sync_51 (Nat.zero_le _) (Nat.zero_le _) hS (fun a h => adr_in (X_DC0 (σ := σ) (κ0 := (syB σ κ0)) (κ1 := κ1) (D_addr hD rfl)) a h) (fun H1 locs hP1 hz1 hk1 hS => ?_)
  have hP : va_P D vwCl (wX q cI cZ ((syS σ κ0)) ((syC σ κ0)) κ1) H1 := X_put0 hD hP hk1 hP1
  generalize H1 = H at hP hS ⊢
  refine lv_aload_n hx hb dX3_sync_54 rfl (lv_at hl 1 rfl) ?_
  refine lv_aload_n hx hb dX3_sync_55 rfl (lv_at hl 2 rfl) ?_
  refine va_get (D := D) (ci := 3) (v := .ref (q 1)) (C := RX3) (T := TX3) (N := 3) hx hb htA uwX3 hown hKK.1 hP 0 rfl rfl 0 (by decide) (htA _ wd_125) (fun _ h9 => h9) rfl dX3_sync_56 ?_
  refine wrV0 (As := [.ref (q 1)]) (rest := []) (n := 1) ⟨hx, hb, hml, hown, htA⟩ (c_load l D cI cZ sa q (fun i => q (12 + i)) (syS σ κ0) (syC σ κ0) (adr (wCS q (fun i => q (12 + i)) cI cZ (syS σ κ0) (syC σ κ0))) (D_adr (X_DC0 (σ := (syS σ κ0)) (κ0 := (syC σ κ0)) (κ1 := κ1) (D_addr hD rfl))) hBs hCc hco hb6 hwd hlat) (cwV 1 htA (gdV wd_436 wd_437 wd_438 wd_4 wd_439) rfl rfl rfl (by decide +kernel) ⟨Nat.le_of_ble_eq_true rfl, Nat.le_of_ble_eq_true rfl⟩) hKK (X_C0 hP) 0 rfl rfl rfl hl.1 rfl (Nat.le_of_ble_eq_true rfl) dX3_sync_59 (Nat.zero_le _) (Nat.zero_le _) hS (fun a h => adr_in (X_DC0 (σ := (syS σ κ0)) (κ0 := (syC σ κ0)) (κ1 := κ1) (D_addr hD rfl)) a h) (fun H1 locs hP1 hz1 hk1 hS => ?_)
  have hP : va_P D vwCl (wX q cI cZ ((syS σ κ0)) ((syD σ κ0)) κ1) H1 := X_put0 hD hP hk1 hP1
  generalize H1 = H at hP hS ⊢
  refine lv_iload_n hx hb dX3_sync_62 rfl (lv_at hl 0 rfl) ?_
  exact wr_i hx hb hr hlocks (rfl) hP hS dX3_sync_63
set_option maxHeartbeats 4000000 in
set_option maxRecDepth 100000 in
theorem f_sync_n0 (l : Launch) (D : va_G) (cI cZ : ClassId) (sa : Nat → Nat) (q : Nat → Nat) (σ κ0 κ1 : ST)  (A : Nat → Prop) (hD : va_D A (wX q cI cZ σ κ0 κ1)) (hB : ∀ k i, σ k i < 1000000000) (hv9 : decide (σ 7 0 - κ0 0 2 ≤ 40) = false) (hsy : κ0 0 2 ≤ σ 7 0) (hCa : CI (sv κ0 0 3 (κ0 0 3 + 1))) (hfl : κ0 0 5 ≤ 10) (hCb : CI (syB σ (sv κ0 0 3 (κ0 0 3 + 1)))) (h15 : ∀ i, σ 5 i < 16) (hfb : (syB σ (sv κ0 0 3 (κ0 0 3 + 1))) 0 5 ≤ 10) (hBs : ∀ k i, (syS σ (sv κ0 0 3 (κ0 0 3 + 1))) k i < 1073741824) (hCc : CI (syC σ (sv κ0 0 3 (κ0 0 3 + 1)))) (hco : (syS σ (sv κ0 0 3 (κ0 0 3 + 1))) 1 0 ≤ 60) (hb6 : (syC σ (sv κ0 0 3 (κ0 0 3 + 1))) 0 0 < 6) (hwd : (syC σ (sv κ0 0 3 (κ0 0 3 + 1))) 0 1 ≤ 10) (hlat : ∀ i, i < wsz (syS σ (sv κ0 0 3 (κ0 0 3 + 1))) (syC σ (sv κ0 0 3 (κ0 0 3 + 1))) → 0 < lat (syS σ (sv κ0 0 3 (κ0 0 3 + 1))) (ms (bxs (syS σ (sv κ0 0 3 (κ0 0 3 + 1))) ((syC σ (sv κ0 0 3 (κ0 0 3 + 1))) 0 0)) 60) (nI i) ((syS σ (sv κ0 0 3 (κ0 0 3 + 1))) 1 0) 0 0 ∧ wml (syS σ (sv κ0 0 3 (κ0 0 3 + 1))) ((syC σ (sv κ0 0 3 (κ0 0 3 + 1))) 0 0) i < 60) : Met l yX3_sync (codeW yX3_sync cX3_sync 4 (some .int)) ({ frames := 6, cells := 0, slots := 0, locals := 135 } : Room) (WrP D cI cZ sa (wX q cI cZ σ κ0 κ1) [.ref (q 0), .int (nI (0))]) (WrQ (some (.int (nI (κ0 0 5 - (syB σ (sv κ0 0 3 (κ0 0 3 + 1))) 0 5)))) D (wX q cI cZ (syS σ (sv κ0 0 3 (κ0 0 3 + 1))) (syD σ (sv κ0 0 3 (κ0 0 3 + 1))) κ1) A) 0 0 A := by
  refine Met.ofW (cc := cX3_sync) (maxL := 4) (ret := (some .int)) (by decide) rfl ?_
  intro p e s m args below meth c s₁ B hml hv
  obtain ⟨rfl, hH, hKK⟩ := hv
  have hx := B.exec
  have hb := B.bytes
  have hr := B.returns
  have htA : ∀ w ∈ WA, w.before _ s = true := fun w h => atoms_spec (ws := (codeW yX3_sync cX3_sync 4 (some .int))) B.pre w (List.mem_cons_of_mem _ h)
  have hown : s.vm.findClass RX3 = some m.cls := findClass_of_methodNamed B.named
  have hlocks := B.notSynchronized
  have hP := hH
  have hS : va_S A s.heap s.heap [] := va_S.rf
  have hl := lv_entry ([.ref (q 0), .int (nI (0))]) (n := 4) (Nat.le_of_ble_eq_true rfl)
  rw [lg_entry_eq]
  generalize (lg_sl ([.ref (q 0), .int (nI (0))]) ++ List.replicate (4 - (lg_sl ([.ref (q 0), .int (nI (0))])).length) Slot.unset).toArray = ls at hl ⊢
  have hl : lv_has ls 4 [(0, .ref (q 0)), (1, .int (nI (0)))] := hl
  have hB1 : ∀ k i, σ k i < 1073741824 := fun k i => Nat.lt_trans (hB k i) (by decide)
  refine lv_iload_n hx hb dX3_sync_0 rfl (lv_at hl 1 rfl) ?_
  refine roS0 (As := [.int (nI (0))]) (rest := []) (n := 1) ⟨hx, hb, hml, hown, htA⟩ (c_reqClient_t l D cI cZ sa (nI (0)) s.heap (by decide)) (va_cwS 1 htA (gdS wd_401 wd_402 wd_1 wd_403) rfl rfl rfl (by decide +kernel) ⟨Nat.le_of_ble_eq_true rfl, Nat.le_of_ble_eq_true rfl⟩) hKK rfl hl.1 rfl (Nat.le_of_ble_eq_true rfl) dX3_sync_1 (Nat.zero_le _) (Nat.zero_le _) ?_
  refine lv_aload_n hx hb dX3_sync_4 rfl (lv_at hl 0 rfl) ?_
  refine lv_iload_n hx hb dX3_sync_5 rfl (lv_at hl 1 rfl) ?_
  refine roV1 (v := .ref (q 12)) (As := [.int (nI (0))]) (rest := []) (n := 1) ⟨hx, hb, hml, hown, htA⟩ (c_clientOf0 l D cI cZ sa q σ κ0 κ1 s.heap hP ) (cwV 1 htA (gdV wd_369 wd_371 wp_3 wd_1 wd_372) rfl rfl rfl (by decide +kernel) ⟨Nat.le_of_ble_eq_true rfl, Nat.le_of_ble_eq_true rfl⟩) hKK hP 0 rfl rfl rfl hl.1 rfl (Nat.le_of_ble_eq_true rfl) dX3_sync_6 (Nat.zero_le _) (Nat.zero_le _) ?_
  refine lv_astore_n (lv' := [(2, .ref (q 12)), (0, .ref (q 0)), (1, .int (nI (0)))]) hx hb dX3_sync_9 rfl hl (by decide) rfl (fun ls hl => ?_)
  refine lv_aload_n hx hb dX3_sync_10 rfl (lv_at hl 1 rfl) ?_
  refine va_get (D := D) (ci := 3) (v := .ref (q 1)) (C := RX3) (T := TX3) (N := 3) hx hb htA uwX3 hown hKK.1 hP 0 rfl rfl 0 (by decide) (htA _ wd_125) (fun _ h9 => h9) rfl dX3_sync_11 ?_
  refine va_getN (D := D) (ci := 2) (v := .ref (q 7)) (C := RX2) (T := TX2) (N := 7) hx hb htA uwX2 hown hKK.1 hP 1 rfl rfl 5 (by decide) (va_Nw.use rfl (ex_RX3_85 hKK.2)) (fun _ h9 => h9) rfl dX3_sync_14 ?_
  refine lv_aload_n hx hb dX3_sync_17 rfl (lv_at hl 0 rfl) ?_
  refine va_getN (D := D) (ci := 1) (v := .int (nI (κ0 0 2))) (C := RX1) (T := TX1) (N := 11) hx hb htA uwX1 hown hKK.1 hP 12 rfl rfl 2 (by decide) (va_Nw.use rfl (ex_RX3_197 hKK.2)) (fun _ h9 => h9) rfl dX3_sync_18 ?_
  refine roV1 (v := .int (b2i (decide (σ 7 0 - κ0 0 2 ≤ 40)))) (As := [.int (nI (κ0 0 2))]) (rest := []) (n := 1) ⟨hx, hb, hml, hown, htA⟩ (c_reach l D cI cZ sa q σ (κ0 0 2) s.heap (X_SS hP) hB1 hsy) (cwV 1 htA (gdV wd_405 wd_406 wd_407 wd_3 wd_408) rfl rfl rfl (by decide +kernel) ⟨Nat.le_of_ble_eq_true rfl, Nat.le_of_ble_eq_true rfl⟩) hKK hP 7 rfl rfl rfl hl.1 rfl (Nat.le_of_ble_eq_true rfl) dX3_sync_21 (Nat.zero_le _) (Nat.zero_le _) ?_
  refine b_ifne (b := decide (σ 7 0 - κ0 0 2 ≤ 40)) (tgt := 37) hx hb dX3_sync_24 (by decide) (fun c_1 => ?_) (fun c_1 => ?_)
  · exact absurd (c_1.symm.trans hv9) (by decide)
  refine lv_aload_n hx hb dX3_sync_27 rfl (lv_at hl 0 rfl) ?_
  refine lv_dup hx hb dX3_sync_28 rfl ?_
  refine va_getN (D := D) (ci := 1) (v := .int (nI (κ0 0 3))) (C := RX1) (T := TX1) (N := 11) hx hb htA uwX1 hown hKK.1 hP 12 rfl rfl 3 (by decide) (va_Nw.use rfl (ex_RX3_200 hKK.2)) (fun _ h9 => h9) rfl dX3_sync_29 ?_
  refine n_iconst (k := 1) hx hb dX3_sync_32 (by decide) ?_
  refine n_iadd hx hb dX3_sync_33 ?_
  refine va_putN (D := D) (ci := 1) (v := .int (nI ((κ0 0 3) + 1))) (ty := .int) (C := RX1) (T := TX1) (N := 11) hx hb htA uwX1 tyX1 tyX1_ok nmX1 hown hKK.1 hP (D_addr hD rfl) hS 12 rfl rfl 3 (by decide) (va_Nw.use rfl (ex_RX3_200 hKK.2)) (fun _ h9 => h9) rfl (by decide +kernel) rfl rfl (Nat.le_of_ble_eq_true rfl) dX3_sync_34 (fun H locs hP _ hS => ?_)
  have hP : va_P D vwCl (wX q cI cZ σ (sv κ0 0 3 ((κ0 0 3) + 1)) κ1) H := hP
  refine lv_aload_n hx hb dX3_sync_37 rfl (lv_at hl 0 rfl) ?_
  refine lv_aload_n hx hb dX3_sync_38 rfl (lv_at hl 1 rfl) ?_
  refine va_get (D := D) (ci := 3) (v := .ref (q 1)) (C := RX3) (T := TX3) (N := 3) hx hb htA uwX3 hown hKK.1 hP 0 rfl rfl 0 (by decide) (htA _ wd_125) (fun _ h9 => h9) rfl dX3_sync_39 ?_
  refine wrV1 (v := .int (nI ((sv κ0 0 3 (κ0 0 3 + 1)) 0 5 - (syB σ (sv κ0 0 3 (κ0 0 3 + 1))) 0 5))) (As := [.ref (q 1)]) (rest := []) (n := 1) ⟨hx, hb, hml, hown, htA⟩ (c_leaveOut l D cI cZ sa q (fun i => q (12 + i)) σ (sv κ0 0 3 (κ0 0 3 + 1)) (adr (wCS q (fun i => q (12 + i)) cI cZ σ (sv κ0 0 3 ((κ0 0 3) + 1)))) (D_adr (X_DC0 (σ := σ) (κ0 := (sv κ0 0 3 ((κ0 0 3) + 1))) (κ1 := κ1) (D_addr hD rfl))) hB1 hCa hsy hfl) (cwV 1 htA (gdV wd_409 wd_410 wd_411 wd_4 wd_412) rfl rfl rfl (by decide +kernel) ⟨Nat.le_of_ble_eq_true rfl, Nat.le_of_ble_eq_true rfl⟩) hKK (X_C0 hP) 0 rfl rfl rfl hl.1 rfl (Nat.le_of_ble_eq_true rfl) dX3_sync_42 (Nat.zero_le _) (Nat.zero_le _) hS (fun a h => adr_in (X_DC0 (σ := σ) (κ0 := (sv κ0 0 3 ((κ0 0 3) + 1))) (κ1 := κ1) (D_addr hD rfl)) a h) (fun H1 locs hP1 hz1 hk1 hS => ?_)
  have hP : va_P D vwCl (wX q cI cZ σ ((syB σ (sv κ0 0 3 (κ0 0 3 + 1)))) κ1) H1 := X_put0 hD hP hk1 hP1
  generalize H1 = H at hP hS ⊢
  refine lv_istore_n (lv' := [(3, .int (nI ((sv κ0 0 3 (κ0 0 3 + 1)) 0 5 - (syB σ (sv κ0 0 3 (κ0 0 3 + 1))) 0 5))), (2, .ref (q 12)), (0, .ref (q 0)), (1, .int (nI (0)))]) hx hb dX3_sync_45 rfl hl (by decide) rfl (fun ls hl => ?_)
  refine lv_aload_n hx hb dX3_sync_46 rfl (lv_at hl 1 rfl) ?_
  refine lv_aload_n hx hb dX3_sync_47 rfl (lv_at hl 2 rfl) ?_
  refine va_get (D := D) (ci := 3) (v := .ref (q 1)) (C := RX3) (T := TX3) (N := 3) hx hb htA uwX3 hown hKK.1 hP 0 rfl rfl 0 (by decide) (htA _ wd_125) (fun _ h9 => h9) rfl dX3_sync_48 ?_
  refine wrV0 (As := [.ref (q 1)]) (rest := []) (n := 1) ⟨hx, hb, hml, hown, htA⟩ (c_replay l D cI cZ sa q (fun i => q (12 + i)) σ (syB σ (sv κ0 0 3 (κ0 0 3 + 1))) (adr (wCS q (fun i => q (12 + i)) cI cZ σ (syB σ (sv κ0 0 3 (κ0 0 3 + 1))))) (D_adr (X_DC0 (σ := σ) (κ0 := (syB σ (sv κ0 0 3 (κ0 0 3 + 1)))) (κ1 := κ1) (D_addr hD rfl))) hB hCb h15 hfb) (cwV 1 htA (gdV wd_431 wd_432 wd_433 wd_4 wd_434) rfl rfl rfl (by decide +kernel) ⟨Nat.le_of_ble_eq_true rfl, Nat.le_of_ble_eq_true rfl⟩) hKK (X_C0 hP) 0 rfl rfl rfl hl.1 rfl (Nat.le_of_ble_eq_true rfl) dX3_sync_51 (Nat.zero_le _) (Nat.zero_le _) hS (fun a h => adr_in (X_DC0 (σ := σ) (κ0 := (syB σ (sv κ0 0 3 (κ0 0 3 + 1)))) (κ1 := κ1) (D_addr hD rfl)) a h) (fun H1 locs hP1 hz1 hk1 hS => ?_)
  have hP : va_P D vwCl (wX q cI cZ ((syS σ (sv κ0 0 3 (κ0 0 3 + 1)))) ((syC σ (sv κ0 0 3 (κ0 0 3 + 1)))) κ1) H1 := X_put0 hD hP hk1 hP1
  generalize H1 = H at hP hS ⊢
  refine lv_aload_n hx hb dX3_sync_54 rfl (lv_at hl 1 rfl) ?_
  refine lv_aload_n hx hb dX3_sync_55 rfl (lv_at hl 2 rfl) ?_
  refine va_get (D := D) (ci := 3) (v := .ref (q 1)) (C := RX3) (T := TX3) (N := 3) hx hb htA uwX3 hown hKK.1 hP 0 rfl rfl 0 (by decide) (htA _ wd_125) (fun _ h9 => h9) rfl dX3_sync_56 ?_
  refine wrV0 (As := [.ref (q 1)]) (rest := []) (n := 1) ⟨hx, hb, hml, hown, htA⟩ (c_load l D cI cZ sa q (fun i => q (12 + i)) (syS σ (sv κ0 0 3 (κ0 0 3 + 1))) (syC σ (sv κ0 0 3 (κ0 0 3 + 1))) (adr (wCS q (fun i => q (12 + i)) cI cZ (syS σ (sv κ0 0 3 (κ0 0 3 + 1))) (syC σ (sv κ0 0 3 (κ0 0 3 + 1))))) (D_adr (X_DC0 (σ := (syS σ (sv κ0 0 3 (κ0 0 3 + 1)))) (κ0 := (syC σ (sv κ0 0 3 (κ0 0 3 + 1)))) (κ1 := κ1) (D_addr hD rfl))) hBs hCc hco hb6 hwd hlat) (cwV 1 htA (gdV wd_436 wd_437 wd_438 wd_4 wd_439) rfl rfl rfl (by decide +kernel) ⟨Nat.le_of_ble_eq_true rfl, Nat.le_of_ble_eq_true rfl⟩) hKK (X_C0 hP) 0 rfl rfl rfl hl.1 rfl (Nat.le_of_ble_eq_true rfl) dX3_sync_59 (Nat.zero_le _) (Nat.zero_le _) hS (fun a h => adr_in (X_DC0 (σ := (syS σ (sv κ0 0 3 (κ0 0 3 + 1)))) (κ0 := (syC σ (sv κ0 0 3 (κ0 0 3 + 1)))) (κ1 := κ1) (D_addr hD rfl)) a h) (fun H1 locs hP1 hz1 hk1 hS => ?_)
  have hP : va_P D vwCl (wX q cI cZ ((syS σ (sv κ0 0 3 (κ0 0 3 + 1)))) ((syD σ (sv κ0 0 3 (κ0 0 3 + 1)))) κ1) H1 := X_put0 hD hP hk1 hP1
  generalize H1 = H at hP hS ⊢
  refine lv_iload_n hx hb dX3_sync_62 rfl (lv_at hl 0 rfl) ?_
  exact wr_i hx hb hr hlocks (rfl) hP hS dX3_sync_63
set_option maxHeartbeats 4000000 in
set_option maxRecDepth 100000 in
theorem f_sync_y1 (l : Launch) (D : va_G) (cI cZ : ClassId) (sa : Nat → Nat) (q : Nat → Nat) (σ κ0 κ1 : ST)  (A : Nat → Prop) (hD : va_D A (wX q cI cZ σ κ0 κ1)) (hB : ∀ k i, σ k i < 1000000000) (hv9 : decide (σ 7 0 - κ1 0 2 ≤ 40) = true) (hsy : κ1 0 2 ≤ σ 7 0) (hCa : CI κ1) (hfl : κ1 0 5 ≤ 10) (hCb : CI (syB σ κ1)) (h15 : ∀ i, σ 5 i < 16) (hfb : (syB σ κ1) 0 5 ≤ 10) (hBs : ∀ k i, (syS σ κ1) k i < 1073741824) (hCc : CI (syC σ κ1)) (hco : (syS σ κ1) 1 0 ≤ 60) (hb6 : (syC σ κ1) 0 0 < 6) (hwd : (syC σ κ1) 0 1 ≤ 10) (hlat : ∀ i, i < wsz (syS σ κ1) (syC σ κ1) → 0 < lat (syS σ κ1) (ms (bxs (syS σ κ1) ((syC σ κ1) 0 0)) 60) (nI i) ((syS σ κ1) 1 0) 0 0 ∧ wml (syS σ κ1) ((syC σ κ1) 0 0) i < 60) : Met l yX3_sync (codeW yX3_sync cX3_sync 4 (some .int)) ({ frames := 6, cells := 0, slots := 0, locals := 135 } : Room) (WrP D cI cZ sa (wX q cI cZ σ κ0 κ1) [.ref (q 0), .int (nI (1))]) (WrQ (some (.int (nI (κ1 0 5 - (syB σ κ1) 0 5)))) D (wX q cI cZ (syS σ κ1) κ0 (syD σ κ1)) A) 0 0 A := by
  refine Met.ofW (cc := cX3_sync) (maxL := 4) (ret := (some .int)) (by decide) rfl ?_
  intro p e s m args below meth c s₁ B hml hv
  obtain ⟨rfl, hH, hKK⟩ := hv
  have hx := B.exec
  have hb := B.bytes
  have hr := B.returns
  have htA : ∀ w ∈ WA, w.before _ s = true := fun w h => atoms_spec (ws := (codeW yX3_sync cX3_sync 4 (some .int))) B.pre w (List.mem_cons_of_mem _ h)
  have hown : s.vm.findClass RX3 = some m.cls := findClass_of_methodNamed B.named
  have hlocks := B.notSynchronized
  have hP := hH
  have hS : va_S A s.heap s.heap [] := va_S.rf
  have hl := lv_entry ([.ref (q 0), .int (nI (1))]) (n := 4) (Nat.le_of_ble_eq_true rfl)
  rw [lg_entry_eq]
  generalize (lg_sl ([.ref (q 0), .int (nI (1))]) ++ List.replicate (4 - (lg_sl ([.ref (q 0), .int (nI (1))])).length) Slot.unset).toArray = ls at hl ⊢
  have hl : lv_has ls 4 [(0, .ref (q 0)), (1, .int (nI (1)))] := hl
  have hB1 : ∀ k i, σ k i < 1073741824 := fun k i => Nat.lt_trans (hB k i) (by decide)
  refine lv_iload_n hx hb dX3_sync_0 rfl (lv_at hl 1 rfl) ?_
  refine roS0 (As := [.int (nI (1))]) (rest := []) (n := 1) ⟨hx, hb, hml, hown, htA⟩ (c_reqClient_t l D cI cZ sa (nI (1)) s.heap (by decide)) (va_cwS 1 htA (gdS wd_401 wd_402 wd_1 wd_403) rfl rfl rfl (by decide +kernel) ⟨Nat.le_of_ble_eq_true rfl, Nat.le_of_ble_eq_true rfl⟩) hKK rfl hl.1 rfl (Nat.le_of_ble_eq_true rfl) dX3_sync_1 (Nat.zero_le _) (Nat.zero_le _) ?_
  refine lv_aload_n hx hb dX3_sync_4 rfl (lv_at hl 0 rfl) ?_
  refine lv_iload_n hx hb dX3_sync_5 rfl (lv_at hl 1 rfl) ?_
  refine roV1 (v := .ref (q 18)) (As := [.int (nI (1))]) (rest := []) (n := 1) ⟨hx, hb, hml, hown, htA⟩ (c_clientOf1 l D cI cZ sa q σ κ0 κ1 s.heap hP ) (cwV 1 htA (gdV wd_369 wd_371 wp_3 wd_1 wd_372) rfl rfl rfl (by decide +kernel) ⟨Nat.le_of_ble_eq_true rfl, Nat.le_of_ble_eq_true rfl⟩) hKK hP 0 rfl rfl rfl hl.1 rfl (Nat.le_of_ble_eq_true rfl) dX3_sync_6 (Nat.zero_le _) (Nat.zero_le _) ?_
  refine lv_astore_n (lv' := [(2, .ref (q 18)), (0, .ref (q 0)), (1, .int (nI (1)))]) hx hb dX3_sync_9 rfl hl (by decide) rfl (fun ls hl => ?_)
  refine lv_aload_n hx hb dX3_sync_10 rfl (lv_at hl 1 rfl) ?_
  refine va_get (D := D) (ci := 3) (v := .ref (q 1)) (C := RX3) (T := TX3) (N := 3) hx hb htA uwX3 hown hKK.1 hP 0 rfl rfl 0 (by decide) (htA _ wd_125) (fun _ h9 => h9) rfl dX3_sync_11 ?_
  refine va_getN (D := D) (ci := 2) (v := .ref (q 7)) (C := RX2) (T := TX2) (N := 7) hx hb htA uwX2 hown hKK.1 hP 1 rfl rfl 5 (by decide) (va_Nw.use rfl (ex_RX3_85 hKK.2)) (fun _ h9 => h9) rfl dX3_sync_14 ?_
  refine lv_aload_n hx hb dX3_sync_17 rfl (lv_at hl 0 rfl) ?_
  refine va_getN (D := D) (ci := 1) (v := .int (nI (κ1 0 2))) (C := RX1) (T := TX1) (N := 11) hx hb htA uwX1 hown hKK.1 hP 18 rfl rfl 2 (by decide) (va_Nw.use rfl (ex_RX3_197 hKK.2)) (fun _ h9 => h9) rfl dX3_sync_18 ?_
  refine roV1 (v := .int (b2i (decide (σ 7 0 - κ1 0 2 ≤ 40)))) (As := [.int (nI (κ1 0 2))]) (rest := []) (n := 1) ⟨hx, hb, hml, hown, htA⟩ (c_reach l D cI cZ sa q σ (κ1 0 2) s.heap (X_SS hP) hB1 hsy) (cwV 1 htA (gdV wd_405 wd_406 wd_407 wd_3 wd_408) rfl rfl rfl (by decide +kernel) ⟨Nat.le_of_ble_eq_true rfl, Nat.le_of_ble_eq_true rfl⟩) hKK hP 7 rfl rfl rfl hl.1 rfl (Nat.le_of_ble_eq_true rfl) dX3_sync_21 (Nat.zero_le _) (Nat.zero_le _) ?_
  refine b_ifne (b := decide (σ 7 0 - κ1 0 2 ≤ 40)) (tgt := 37) hx hb dX3_sync_24 (by decide) (fun c_1 => ?_) (fun c_1 => ?_)
  rotate_left
  · exact absurd (c_1.symm.trans hv9) (by decide)
  refine lv_aload_n hx hb dX3_sync_37 rfl (lv_at hl 0 rfl) ?_
  refine lv_aload_n hx hb dX3_sync_38 rfl (lv_at hl 1 rfl) ?_
  refine va_get (D := D) (ci := 3) (v := .ref (q 1)) (C := RX3) (T := TX3) (N := 3) hx hb htA uwX3 hown hKK.1 hP 0 rfl rfl 0 (by decide) (htA _ wd_125) (fun _ h9 => h9) rfl dX3_sync_39 ?_
  refine wrV1 (v := .int (nI (κ1 0 5 - (syB σ κ1) 0 5))) (As := [.ref (q 1)]) (rest := []) (n := 1) ⟨hx, hb, hml, hown, htA⟩ (c_leaveOut l D cI cZ sa q (fun i => q (18 + i)) σ κ1 (adr (wCS q (fun i => q (18 + i)) cI cZ σ κ1)) (D_adr (X_DC1 (σ := σ) (κ0 := κ0) (κ1 := κ1) (D_addr hD rfl))) hB1 hCa hsy hfl) (cwV 1 htA (gdV wd_409 wd_410 wd_411 wd_4 wd_412) rfl rfl rfl (by decide +kernel) ⟨Nat.le_of_ble_eq_true rfl, Nat.le_of_ble_eq_true rfl⟩) hKK (X_C1 hP) 0 rfl rfl rfl hl.1 rfl (Nat.le_of_ble_eq_true rfl) dX3_sync_42 (Nat.zero_le _) (Nat.zero_le _) hS (fun a h => adr_in (X_DC1 (σ := σ) (κ0 := κ0) (κ1 := κ1) (D_addr hD rfl)) a h) (fun H1 locs hP1 hz1 hk1 hS => ?_)
  have hP : va_P D vwCl (wX q cI cZ σ κ0 ((syB σ κ1))) H1 := X_put1 hD hP hk1 hP1
  generalize H1 = H at hP hS ⊢
  refine lv_istore_n (lv' := [(3, .int (nI (κ1 0 5 - (syB σ κ1) 0 5))), (2, .ref (q 18)), (0, .ref (q 0)), (1, .int (nI (1)))]) hx hb dX3_sync_45 rfl hl (by decide) rfl (fun ls hl => ?_)
  refine lv_aload_n hx hb dX3_sync_46 rfl (lv_at hl 1 rfl) ?_
  refine lv_aload_n hx hb dX3_sync_47 rfl (lv_at hl 2 rfl) ?_
  refine va_get (D := D) (ci := 3) (v := .ref (q 1)) (C := RX3) (T := TX3) (N := 3) hx hb htA uwX3 hown hKK.1 hP 0 rfl rfl 0 (by decide) (htA _ wd_125) (fun _ h9 => h9) rfl dX3_sync_48 ?_
  refine wrV0 (As := [.ref (q 1)]) (rest := []) (n := 1) ⟨hx, hb, hml, hown, htA⟩ (c_replay l D cI cZ sa q (fun i => q (18 + i)) σ (syB σ κ1) (adr (wCS q (fun i => q (18 + i)) cI cZ σ (syB σ κ1))) (D_adr (X_DC1 (σ := σ) (κ0 := κ0) (κ1 := (syB σ κ1)) (D_addr hD rfl))) hB hCb h15 hfb) (cwV 1 htA (gdV wd_431 wd_432 wd_433 wd_4 wd_434) rfl rfl rfl (by decide +kernel) ⟨Nat.le_of_ble_eq_true rfl, Nat.le_of_ble_eq_true rfl⟩) hKK (X_C1 hP) 0 rfl rfl rfl hl.1 rfl (Nat.le_of_ble_eq_true rfl) dX3_sync_51 (Nat.zero_le _) (Nat.zero_le _) hS (fun a h => adr_in (X_DC1 (σ := σ) (κ0 := κ0) (κ1 := (syB σ κ1)) (D_addr hD rfl)) a h) (fun H1 locs hP1 hz1 hk1 hS => ?_)
  have hP : va_P D vwCl (wX q cI cZ ((syS σ κ1)) κ0 ((syC σ κ1))) H1 := X_put1 hD hP hk1 hP1
  generalize H1 = H at hP hS ⊢
  refine lv_aload_n hx hb dX3_sync_54 rfl (lv_at hl 1 rfl) ?_
  refine lv_aload_n hx hb dX3_sync_55 rfl (lv_at hl 2 rfl) ?_
  refine va_get (D := D) (ci := 3) (v := .ref (q 1)) (C := RX3) (T := TX3) (N := 3) hx hb htA uwX3 hown hKK.1 hP 0 rfl rfl 0 (by decide) (htA _ wd_125) (fun _ h9 => h9) rfl dX3_sync_56 ?_
  refine wrV0 (As := [.ref (q 1)]) (rest := []) (n := 1) ⟨hx, hb, hml, hown, htA⟩ (c_load l D cI cZ sa q (fun i => q (18 + i)) (syS σ κ1) (syC σ κ1) (adr (wCS q (fun i => q (18 + i)) cI cZ (syS σ κ1) (syC σ κ1))) (D_adr (X_DC1 (σ := (syS σ κ1)) (κ0 := κ0) (κ1 := (syC σ κ1)) (D_addr hD rfl))) hBs hCc hco hb6 hwd hlat) (cwV 1 htA (gdV wd_436 wd_437 wd_438 wd_4 wd_439) rfl rfl rfl (by decide +kernel) ⟨Nat.le_of_ble_eq_true rfl, Nat.le_of_ble_eq_true rfl⟩) hKK (X_C1 hP) 0 rfl rfl rfl hl.1 rfl (Nat.le_of_ble_eq_true rfl) dX3_sync_59 (Nat.zero_le _) (Nat.zero_le _) hS (fun a h => adr_in (X_DC1 (σ := (syS σ κ1)) (κ0 := κ0) (κ1 := (syC σ κ1)) (D_addr hD rfl)) a h) (fun H1 locs hP1 hz1 hk1 hS => ?_)
  have hP : va_P D vwCl (wX q cI cZ ((syS σ κ1)) κ0 ((syD σ κ1))) H1 := X_put1 hD hP hk1 hP1
  generalize H1 = H at hP hS ⊢
  refine lv_iload_n hx hb dX3_sync_62 rfl (lv_at hl 0 rfl) ?_
  exact wr_i hx hb hr hlocks (rfl) hP hS dX3_sync_63
set_option maxHeartbeats 4000000 in
set_option maxRecDepth 100000 in
theorem f_sync_n1 (l : Launch) (D : va_G) (cI cZ : ClassId) (sa : Nat → Nat) (q : Nat → Nat) (σ κ0 κ1 : ST)  (A : Nat → Prop) (hD : va_D A (wX q cI cZ σ κ0 κ1)) (hB : ∀ k i, σ k i < 1000000000) (hv9 : decide (σ 7 0 - κ1 0 2 ≤ 40) = false) (hsy : κ1 0 2 ≤ σ 7 0) (hCa : CI (sv κ1 0 3 (κ1 0 3 + 1))) (hfl : κ1 0 5 ≤ 10) (hCb : CI (syB σ (sv κ1 0 3 (κ1 0 3 + 1)))) (h15 : ∀ i, σ 5 i < 16) (hfb : (syB σ (sv κ1 0 3 (κ1 0 3 + 1))) 0 5 ≤ 10) (hBs : ∀ k i, (syS σ (sv κ1 0 3 (κ1 0 3 + 1))) k i < 1073741824) (hCc : CI (syC σ (sv κ1 0 3 (κ1 0 3 + 1)))) (hco : (syS σ (sv κ1 0 3 (κ1 0 3 + 1))) 1 0 ≤ 60) (hb6 : (syC σ (sv κ1 0 3 (κ1 0 3 + 1))) 0 0 < 6) (hwd : (syC σ (sv κ1 0 3 (κ1 0 3 + 1))) 0 1 ≤ 10) (hlat : ∀ i, i < wsz (syS σ (sv κ1 0 3 (κ1 0 3 + 1))) (syC σ (sv κ1 0 3 (κ1 0 3 + 1))) → 0 < lat (syS σ (sv κ1 0 3 (κ1 0 3 + 1))) (ms (bxs (syS σ (sv κ1 0 3 (κ1 0 3 + 1))) ((syC σ (sv κ1 0 3 (κ1 0 3 + 1))) 0 0)) 60) (nI i) ((syS σ (sv κ1 0 3 (κ1 0 3 + 1))) 1 0) 0 0 ∧ wml (syS σ (sv κ1 0 3 (κ1 0 3 + 1))) ((syC σ (sv κ1 0 3 (κ1 0 3 + 1))) 0 0) i < 60) : Met l yX3_sync (codeW yX3_sync cX3_sync 4 (some .int)) ({ frames := 6, cells := 0, slots := 0, locals := 135 } : Room) (WrP D cI cZ sa (wX q cI cZ σ κ0 κ1) [.ref (q 0), .int (nI (1))]) (WrQ (some (.int (nI (κ1 0 5 - (syB σ (sv κ1 0 3 (κ1 0 3 + 1))) 0 5)))) D (wX q cI cZ (syS σ (sv κ1 0 3 (κ1 0 3 + 1))) κ0 (syD σ (sv κ1 0 3 (κ1 0 3 + 1)))) A) 0 0 A := by
  refine Met.ofW (cc := cX3_sync) (maxL := 4) (ret := (some .int)) (by decide) rfl ?_
  intro p e s m args below meth c s₁ B hml hv
  obtain ⟨rfl, hH, hKK⟩ := hv
  have hx := B.exec
  have hb := B.bytes
  have hr := B.returns
  have htA : ∀ w ∈ WA, w.before _ s = true := fun w h => atoms_spec (ws := (codeW yX3_sync cX3_sync 4 (some .int))) B.pre w (List.mem_cons_of_mem _ h)
  have hown : s.vm.findClass RX3 = some m.cls := findClass_of_methodNamed B.named
  have hlocks := B.notSynchronized
  have hP := hH
  have hS : va_S A s.heap s.heap [] := va_S.rf
  have hl := lv_entry ([.ref (q 0), .int (nI (1))]) (n := 4) (Nat.le_of_ble_eq_true rfl)
  rw [lg_entry_eq]
  generalize (lg_sl ([.ref (q 0), .int (nI (1))]) ++ List.replicate (4 - (lg_sl ([.ref (q 0), .int (nI (1))])).length) Slot.unset).toArray = ls at hl ⊢
  have hl : lv_has ls 4 [(0, .ref (q 0)), (1, .int (nI (1)))] := hl
  have hB1 : ∀ k i, σ k i < 1073741824 := fun k i => Nat.lt_trans (hB k i) (by decide)
  refine lv_iload_n hx hb dX3_sync_0 rfl (lv_at hl 1 rfl) ?_
  refine roS0 (As := [.int (nI (1))]) (rest := []) (n := 1) ⟨hx, hb, hml, hown, htA⟩ (c_reqClient_t l D cI cZ sa (nI (1)) s.heap (by decide)) (va_cwS 1 htA (gdS wd_401 wd_402 wd_1 wd_403) rfl rfl rfl (by decide +kernel) ⟨Nat.le_of_ble_eq_true rfl, Nat.le_of_ble_eq_true rfl⟩) hKK rfl hl.1 rfl (Nat.le_of_ble_eq_true rfl) dX3_sync_1 (Nat.zero_le _) (Nat.zero_le _) ?_
  refine lv_aload_n hx hb dX3_sync_4 rfl (lv_at hl 0 rfl) ?_
  refine lv_iload_n hx hb dX3_sync_5 rfl (lv_at hl 1 rfl) ?_
  refine roV1 (v := .ref (q 18)) (As := [.int (nI (1))]) (rest := []) (n := 1) ⟨hx, hb, hml, hown, htA⟩ (c_clientOf1 l D cI cZ sa q σ κ0 κ1 s.heap hP ) (cwV 1 htA (gdV wd_369 wd_371 wp_3 wd_1 wd_372) rfl rfl rfl (by decide +kernel) ⟨Nat.le_of_ble_eq_true rfl, Nat.le_of_ble_eq_true rfl⟩) hKK hP 0 rfl rfl rfl hl.1 rfl (Nat.le_of_ble_eq_true rfl) dX3_sync_6 (Nat.zero_le _) (Nat.zero_le _) ?_
  refine lv_astore_n (lv' := [(2, .ref (q 18)), (0, .ref (q 0)), (1, .int (nI (1)))]) hx hb dX3_sync_9 rfl hl (by decide) rfl (fun ls hl => ?_)
  refine lv_aload_n hx hb dX3_sync_10 rfl (lv_at hl 1 rfl) ?_
  refine va_get (D := D) (ci := 3) (v := .ref (q 1)) (C := RX3) (T := TX3) (N := 3) hx hb htA uwX3 hown hKK.1 hP 0 rfl rfl 0 (by decide) (htA _ wd_125) (fun _ h9 => h9) rfl dX3_sync_11 ?_
  refine va_getN (D := D) (ci := 2) (v := .ref (q 7)) (C := RX2) (T := TX2) (N := 7) hx hb htA uwX2 hown hKK.1 hP 1 rfl rfl 5 (by decide) (va_Nw.use rfl (ex_RX3_85 hKK.2)) (fun _ h9 => h9) rfl dX3_sync_14 ?_
  refine lv_aload_n hx hb dX3_sync_17 rfl (lv_at hl 0 rfl) ?_
  refine va_getN (D := D) (ci := 1) (v := .int (nI (κ1 0 2))) (C := RX1) (T := TX1) (N := 11) hx hb htA uwX1 hown hKK.1 hP 18 rfl rfl 2 (by decide) (va_Nw.use rfl (ex_RX3_197 hKK.2)) (fun _ h9 => h9) rfl dX3_sync_18 ?_
  refine roV1 (v := .int (b2i (decide (σ 7 0 - κ1 0 2 ≤ 40)))) (As := [.int (nI (κ1 0 2))]) (rest := []) (n := 1) ⟨hx, hb, hml, hown, htA⟩ (c_reach l D cI cZ sa q σ (κ1 0 2) s.heap (X_SS hP) hB1 hsy) (cwV 1 htA (gdV wd_405 wd_406 wd_407 wd_3 wd_408) rfl rfl rfl (by decide +kernel) ⟨Nat.le_of_ble_eq_true rfl, Nat.le_of_ble_eq_true rfl⟩) hKK hP 7 rfl rfl rfl hl.1 rfl (Nat.le_of_ble_eq_true rfl) dX3_sync_21 (Nat.zero_le _) (Nat.zero_le _) ?_
  refine b_ifne (b := decide (σ 7 0 - κ1 0 2 ≤ 40)) (tgt := 37) hx hb dX3_sync_24 (by decide) (fun c_1 => ?_) (fun c_1 => ?_)
  · exact absurd (c_1.symm.trans hv9) (by decide)
  refine lv_aload_n hx hb dX3_sync_27 rfl (lv_at hl 0 rfl) ?_
  refine lv_dup hx hb dX3_sync_28 rfl ?_
  refine va_getN (D := D) (ci := 1) (v := .int (nI (κ1 0 3))) (C := RX1) (T := TX1) (N := 11) hx hb htA uwX1 hown hKK.1 hP 18 rfl rfl 3 (by decide) (va_Nw.use rfl (ex_RX3_200 hKK.2)) (fun _ h9 => h9) rfl dX3_sync_29 ?_
  refine n_iconst (k := 1) hx hb dX3_sync_32 (by decide) ?_
  refine n_iadd hx hb dX3_sync_33 ?_
  refine va_putN (D := D) (ci := 1) (v := .int (nI ((κ1 0 3) + 1))) (ty := .int) (C := RX1) (T := TX1) (N := 11) hx hb htA uwX1 tyX1 tyX1_ok nmX1 hown hKK.1 hP (D_addr hD rfl) hS 18 rfl rfl 3 (by decide) (va_Nw.use rfl (ex_RX3_200 hKK.2)) (fun _ h9 => h9) rfl (by decide +kernel) rfl rfl (Nat.le_of_ble_eq_true rfl) dX3_sync_34 (fun H locs hP _ hS => ?_)
  have hP : va_P D vwCl (wX q cI cZ σ κ0 (sv κ1 0 3 ((κ1 0 3) + 1))) H := hP
  refine lv_aload_n hx hb dX3_sync_37 rfl (lv_at hl 0 rfl) ?_
  refine lv_aload_n hx hb dX3_sync_38 rfl (lv_at hl 1 rfl) ?_
  refine va_get (D := D) (ci := 3) (v := .ref (q 1)) (C := RX3) (T := TX3) (N := 3) hx hb htA uwX3 hown hKK.1 hP 0 rfl rfl 0 (by decide) (htA _ wd_125) (fun _ h9 => h9) rfl dX3_sync_39 ?_
  refine wrV1 (v := .int (nI ((sv κ1 0 3 (κ1 0 3 + 1)) 0 5 - (syB σ (sv κ1 0 3 (κ1 0 3 + 1))) 0 5))) (As := [.ref (q 1)]) (rest := []) (n := 1) ⟨hx, hb, hml, hown, htA⟩ (c_leaveOut l D cI cZ sa q (fun i => q (18 + i)) σ (sv κ1 0 3 (κ1 0 3 + 1)) (adr (wCS q (fun i => q (18 + i)) cI cZ σ (sv κ1 0 3 ((κ1 0 3) + 1)))) (D_adr (X_DC1 (σ := σ) (κ0 := κ0) (κ1 := (sv κ1 0 3 ((κ1 0 3) + 1))) (D_addr hD rfl))) hB1 hCa hsy hfl) (cwV 1 htA (gdV wd_409 wd_410 wd_411 wd_4 wd_412) rfl rfl rfl (by decide +kernel) ⟨Nat.le_of_ble_eq_true rfl, Nat.le_of_ble_eq_true rfl⟩) hKK (X_C1 hP) 0 rfl rfl rfl hl.1 rfl (Nat.le_of_ble_eq_true rfl) dX3_sync_42 (Nat.zero_le _) (Nat.zero_le _) hS (fun a h => adr_in (X_DC1 (σ := σ) (κ0 := κ0) (κ1 := (sv κ1 0 3 ((κ1 0 3) + 1))) (D_addr hD rfl)) a h) (fun H1 locs hP1 hz1 hk1 hS => ?_)
  have hP : va_P D vwCl (wX q cI cZ σ κ0 ((syB σ (sv κ1 0 3 (κ1 0 3 + 1))))) H1 := X_put1 hD hP hk1 hP1
  generalize H1 = H at hP hS ⊢
  refine lv_istore_n (lv' := [(3, .int (nI ((sv κ1 0 3 (κ1 0 3 + 1)) 0 5 - (syB σ (sv κ1 0 3 (κ1 0 3 + 1))) 0 5))), (2, .ref (q 18)), (0, .ref (q 0)), (1, .int (nI (1)))]) hx hb dX3_sync_45 rfl hl (by decide) rfl (fun ls hl => ?_)
  refine lv_aload_n hx hb dX3_sync_46 rfl (lv_at hl 1 rfl) ?_
  refine lv_aload_n hx hb dX3_sync_47 rfl (lv_at hl 2 rfl) ?_
  refine va_get (D := D) (ci := 3) (v := .ref (q 1)) (C := RX3) (T := TX3) (N := 3) hx hb htA uwX3 hown hKK.1 hP 0 rfl rfl 0 (by decide) (htA _ wd_125) (fun _ h9 => h9) rfl dX3_sync_48 ?_
  refine wrV0 (As := [.ref (q 1)]) (rest := []) (n := 1) ⟨hx, hb, hml, hown, htA⟩ (c_replay l D cI cZ sa q (fun i => q (18 + i)) σ (syB σ (sv κ1 0 3 (κ1 0 3 + 1))) (adr (wCS q (fun i => q (18 + i)) cI cZ σ (syB σ (sv κ1 0 3 (κ1 0 3 + 1))))) (D_adr (X_DC1 (σ := σ) (κ0 := κ0) (κ1 := (syB σ (sv κ1 0 3 (κ1 0 3 + 1)))) (D_addr hD rfl))) hB hCb h15 hfb) (cwV 1 htA (gdV wd_431 wd_432 wd_433 wd_4 wd_434) rfl rfl rfl (by decide +kernel) ⟨Nat.le_of_ble_eq_true rfl, Nat.le_of_ble_eq_true rfl⟩) hKK (X_C1 hP) 0 rfl rfl rfl hl.1 rfl (Nat.le_of_ble_eq_true rfl) dX3_sync_51 (Nat.zero_le _) (Nat.zero_le _) hS (fun a h => adr_in (X_DC1 (σ := σ) (κ0 := κ0) (κ1 := (syB σ (sv κ1 0 3 (κ1 0 3 + 1)))) (D_addr hD rfl)) a h) (fun H1 locs hP1 hz1 hk1 hS => ?_)
  have hP : va_P D vwCl (wX q cI cZ ((syS σ (sv κ1 0 3 (κ1 0 3 + 1)))) κ0 ((syC σ (sv κ1 0 3 (κ1 0 3 + 1))))) H1 := X_put1 hD hP hk1 hP1
  generalize H1 = H at hP hS ⊢
  refine lv_aload_n hx hb dX3_sync_54 rfl (lv_at hl 1 rfl) ?_
  refine lv_aload_n hx hb dX3_sync_55 rfl (lv_at hl 2 rfl) ?_
  refine va_get (D := D) (ci := 3) (v := .ref (q 1)) (C := RX3) (T := TX3) (N := 3) hx hb htA uwX3 hown hKK.1 hP 0 rfl rfl 0 (by decide) (htA _ wd_125) (fun _ h9 => h9) rfl dX3_sync_56 ?_
  refine wrV0 (As := [.ref (q 1)]) (rest := []) (n := 1) ⟨hx, hb, hml, hown, htA⟩ (c_load l D cI cZ sa q (fun i => q (18 + i)) (syS σ (sv κ1 0 3 (κ1 0 3 + 1))) (syC σ (sv κ1 0 3 (κ1 0 3 + 1))) (adr (wCS q (fun i => q (18 + i)) cI cZ (syS σ (sv κ1 0 3 (κ1 0 3 + 1))) (syC σ (sv κ1 0 3 (κ1 0 3 + 1))))) (D_adr (X_DC1 (σ := (syS σ (sv κ1 0 3 (κ1 0 3 + 1)))) (κ0 := κ0) (κ1 := (syC σ (sv κ1 0 3 (κ1 0 3 + 1)))) (D_addr hD rfl))) hBs hCc hco hb6 hwd hlat) (cwV 1 htA (gdV wd_436 wd_437 wd_438 wd_4 wd_439) rfl rfl rfl (by decide +kernel) ⟨Nat.le_of_ble_eq_true rfl, Nat.le_of_ble_eq_true rfl⟩) hKK (X_C1 hP) 0 rfl rfl rfl hl.1 rfl (Nat.le_of_ble_eq_true rfl) dX3_sync_59 (Nat.zero_le _) (Nat.zero_le _) hS (fun a h => adr_in (X_DC1 (σ := (syS σ (sv κ1 0 3 (κ1 0 3 + 1)))) (κ0 := κ0) (κ1 := (syC σ (sv κ1 0 3 (κ1 0 3 + 1)))) (D_addr hD rfl)) a h) (fun H1 locs hP1 hz1 hk1 hS => ?_)
  have hP : va_P D vwCl (wX q cI cZ ((syS σ (sv κ1 0 3 (κ1 0 3 + 1)))) κ0 ((syD σ (sv κ1 0 3 (κ1 0 3 + 1))))) H1 := X_put1 hD hP hk1 hP1
  generalize H1 = H at hP hS ⊢
  refine lv_iload_n hx hb dX3_sync_62 rfl (lv_at hl 0 rfl) ?_
  exact wr_i hx hb hr hlocks (rfl) hP hS dX3_sync_63
