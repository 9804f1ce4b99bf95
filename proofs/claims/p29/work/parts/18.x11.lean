set_option maxHeartbeats 4000000 in
set_option maxRecDepth 100000 in
theorem f_canTell_ok (l : Launch) (D : va_G) (cI cZ : ClassId) (sa : Nat → Nat) (q : Nat → Nat) (σ κ0 κ1 : ST) (st : Nat) (H : Heap) (hP : va_P D vwCl (wX q cI cZ σ κ0 κ1) H) (hB : ∀ k i, σ k i < 1073741824) (hst : st ≤ σ 7 0) : Met l yX3_canTell (codeW yX3_canTell cX3_canTell 2 (some .boolean)) ({ frames := 2, cells := 0, slots := 0, locals := 43 } : Room) (RoP D cI cZ sa H [.ref (q 0), .int (nI (st))]) (RoQ (some (.int (b2i (decide (σ 7 0 - st ≤ 40))))) H) 0 0 RoF := by
  refine Met.ofW (cc := cX3_canTell) (maxL := 2) (ret := (some .boolean)) (by decide) rfl ?_
  intro p e s m args below meth c s₁ B hml hv
  obtain ⟨rfl, hH, hKK⟩ := hv
  subst hH
  have hx := B.exec
  have hb := B.bytes
  have hr := B.returns
  have htA : ∀ w ∈ WA, w.before _ s = true := fun w h => atoms_spec (ws := (codeW yX3_canTell cX3_canTell 2 (some .boolean))) B.pre w (List.mem_cons_of_mem _ h)
  have hown : s.vm.findClass RX3 = some m.cls := findClass_of_methodNamed B.named
  have hlocks := B.notSynchronized
  have hl := lv_entry ([.ref (q 0), .int (nI (st))]) (n := 2) (Nat.le_of_ble_eq_true rfl)
  rw [lg_entry_eq]
  generalize (lg_sl ([.ref (q 0), .int (nI (st))]) ++ List.replicate (2 - (lg_sl ([.ref (q 0), .int (nI (st))])).length) Slot.unset).toArray = ls at hl ⊢
  have hl : lv_has ls 2 [(0, .ref (q 0)), (1, .int (nI (st)))] := hl
  refine lv_aload_n hx hb dX3_canTell_0 rfl (lv_at hl 0 rfl) ?_
  refine lv_iload_n hx hb dX3_canTell_1 rfl (lv_at hl 1 rfl) ?_
  refine roV1 (v := .int (b2i (iw (nI (st)) (nI (0)) (nI (σ 7 0))))) (As := [.int (nI (st))]) (rest := []) (n := 1) ⟨hx, hb, hml, hown, htA⟩ (c_isState l D cI cZ sa q σ κ0 κ1 (nI (st)) s.heap hP ) (cwV 1 htA (gdV wd_492 wd_494 wp_7 wd_1 wd_495) rfl rfl rfl (by decide +kernel) ⟨Nat.le_of_ble_eq_true rfl, Nat.le_of_ble_eq_true rfl⟩) hKK hP 0 rfl rfl rfl hl.1 rfl (Nat.le_of_ble_eq_true rfl) dX3_canTell_2 (Nat.zero_le _) (Nat.zero_le _) ?_
  refine b_ifne (b := iw (nI (st)) (nI (0)) (nI (σ 7 0))) (tgt := 18) hx hb dX3_canTell_5 (by decide) (fun c_1 => ?_) (fun c_1 => ?_)
  rotate_left
  · exact absurd (c_1.symm.trans (iw_n (Nat.zero_le _) hst (Nat.lt_trans (hB 7 0) (by decide)))) (by decide)
  refine lv_aload_n hx hb dX3_canTell_18 rfl (lv_at hl 0 rfl) ?_
  refine va_get (D := D) (ci := 3) (v := .ref (q 1)) (C := RX3) (T := TX3) (N := 3) hx hb htA uwX3 hown hKK.1 hP 0 rfl rfl 0 (by decide) (htA _ wd_125) (fun _ h9 => h9) rfl dX3_canTell_19 ?_
  refine va_getN (D := D) (ci := 2) (v := .ref (q 7)) (C := RX2) (T := TX2) (N := 7) hx hb htA uwX2 hown hKK.1 hP 1 rfl rfl 5 (by decide) (va_Nw.use rfl (ex_RX3_85 hKK.2)) (fun _ h9 => h9) rfl dX3_canTell_22 ?_
  refine lv_iload_n hx hb dX3_canTell_25 rfl (lv_at hl 1 rfl) ?_
  refine roV1 (v := .int (b2i (decide (σ 7 0 - st ≤ 40)))) (As := [.int (nI (st))]) (rest := []) (n := 1) ⟨hx, hb, hml, hown, htA⟩ (c_reach l D cI cZ sa q σ st s.heap (X_SS hP) hB hst) (cwV 1 htA (gdV wd_405 wd_406 wd_407 wd_3 wd_408) rfl rfl rfl (by decide +kernel) ⟨Nat.le_of_ble_eq_true rfl, Nat.le_of_ble_eq_true rfl⟩) hKK hP 7 rfl rfl rfl hl.1 rfl (Nat.le_of_ble_eq_true rfl) dX3_canTell_26 (Nat.zero_le _) (Nat.zero_le _) ?_
  exact ro_z (v := decide (σ 7 0 - st ≤ 40)) hx hb hr hlocks (rfl) dX3_canTell_29
set_option maxHeartbeats 4000000 in
set_option maxRecDepth 100000 in
theorem f_changed_ok (l : Launch) (D : va_G) (cI cZ : ClassId) (sa : Nat → Nat) (q : Nat → Nat) (σ κ0 κ1 : ST) (st way : Nat) (H : Heap) (hP : va_P D vwCl (wX q cI cZ σ κ0 κ1) H) (hB : ∀ k i, σ k i < 1073741824) (hst : st ≤ σ 7 0) (hw3 : way < 3) (hv9 : decide (σ 7 0 - st ≤ 40) = true) : Met l yX3_changed (codeW yX3_changed cX3_changed 3 (some .int)) ({ frames := 5, cells := 0, slots := 0, locals := 122 } : Room) (RoP D cI cZ sa H [.ref (q 0), .int (nI (st)), .int (nI (way))]) (RoQ (some (.int (bitc (chs σ st way)))) H) 0 0 RoF := by
  refine Met.ofW (cc := cX3_changed) (maxL := 3) (ret := (some .int)) (by decide) rfl ?_
  intro p e s m args below meth c s₁ B hml hv
  obtain ⟨rfl, hH, hKK⟩ := hv
  subst hH
  have hx := B.exec
  have hb := B.bytes
  have hr := B.returns
  have htA : ∀ w ∈ WA, w.before _ s = true := fun w h => atoms_spec (ws := (codeW yX3_changed cX3_changed 3 (some .int))) B.pre w (List.mem_cons_of_mem _ h)
  have hown : s.vm.findClass RX3 = some m.cls := findClass_of_methodNamed B.named
  have hlocks := B.notSynchronized
  have hl := lv_entry ([.ref (q 0), .int (nI (st)), .int (nI (way))]) (n := 3) (Nat.le_of_ble_eq_true rfl)
  rw [lg_entry_eq]
  generalize (lg_sl ([.ref (q 0), .int (nI (st)), .int (nI (way))]) ++ List.replicate (3 - (lg_sl ([.ref (q 0), .int (nI (st)), .int (nI (way))])).length) Slot.unset).toArray = ls at hl ⊢
  have hl : lv_has ls 3 [(0, .ref (q 0)), (1, .int (nI (st))), (2, .int (nI (way)))] := hl
  refine lv_aload_n hx hb dX3_changed_0 rfl (lv_at hl 0 rfl) ?_
  refine lv_iload_n hx hb dX3_changed_1 rfl (lv_at hl 1 rfl) ?_
  refine roV1 (v := .int (b2i (iw (nI (st)) (nI (0)) (nI (σ 7 0))))) (As := [.int (nI (st))]) (rest := []) (n := 1) ⟨hx, hb, hml, hown, htA⟩ (c_isState l D cI cZ sa q σ κ0 κ1 (nI (st)) s.heap hP ) (cwV 1 htA (gdV wd_492 wd_494 wp_7 wd_1 wd_495) rfl rfl rfl (by decide +kernel) ⟨Nat.le_of_ble_eq_true rfl, Nat.le_of_ble_eq_true rfl⟩) hKK hP 0 rfl rfl rfl hl.1 rfl (Nat.le_of_ble_eq_true rfl) dX3_changed_2 (Nat.zero_le _) (Nat.zero_le _) ?_
  refine b_ifeq (b := iw (nI (st)) (nI (0)) (nI (σ 7 0))) (tgt := 15) hx hb dX3_changed_5 (by decide) (fun c_1 => ?_) (fun c_1 => ?_)
  · exact absurd (c_1.symm.trans (iw_n (Nat.zero_le _) hst (Nat.lt_trans (hB 7 0) (by decide)))) (by decide)
  refine lv_iload_n hx hb dX3_changed_8 rfl (lv_at hl 2 rfl) ?_
  refine roS1 (v := .int (b2i (iw (nI (way)) (nI (0)) (nI (2))))) (As := [.int (nI (way))]) (rest := []) (n := 1) ⟨hx, hb, hml, hown, htA⟩ (c_isWay l D cI cZ sa (nI (way)) s.heap ) (va_cwS 1 htA (gdS wd_501 wd_502 wd_1 wd_503) rfl rfl rfl (by decide +kernel) ⟨Nat.le_of_ble_eq_true rfl, Nat.le_of_ble_eq_true rfl⟩) hKK rfl hl.1 rfl (Nat.le_of_ble_eq_true rfl) dX3_changed_9 (Nat.zero_le _) (Nat.zero_le _) ?_
  refine b_ifne (b := iw (nI (way)) (nI (0)) (nI (2))) (tgt := 25) hx hb dX3_changed_12 (by decide) (fun c_2 => ?_) (fun c_2 => ?_)
  rotate_left
  · exact absurd (c_2.symm.trans (iw_n (Nat.zero_le _) (by omega) (by decide))) (by decide)
  refine lv_aload_n hx hb dX3_changed_25 rfl (lv_at hl 0 rfl) ?_
  refine lv_iload_n hx hb dX3_changed_26 rfl (lv_at hl 1 rfl) ?_
  refine roV0 (As := [.int (nI (st))]) (rest := []) (n := 1) ⟨hx, hb, hml, hown, htA⟩ (c_reqTell_t l D cI cZ sa q σ κ0 κ1 st s.heap hP hB hst hv9) (cwV 1 htA (gdV wd_505 wd_507 wp_8 wd_1 wd_508) rfl rfl rfl (by decide +kernel) ⟨Nat.le_of_ble_eq_true rfl, Nat.le_of_ble_eq_true rfl⟩) hKK hP 0 rfl rfl rfl hl.1 rfl (Nat.le_of_ble_eq_true rfl) dX3_changed_27 (Nat.zero_le _) (Nat.zero_le _) ?_
  refine lv_aload_n hx hb dX3_changed_30 rfl (lv_at hl 0 rfl) ?_
  refine va_get (D := D) (ci := 3) (v := .ref (q 1)) (C := RX3) (T := TX3) (N := 3) hx hb htA uwX3 hown hKK.1 hP 0 rfl rfl 0 (by decide) (htA _ wd_125) (fun _ h9 => h9) rfl dX3_changed_31 ?_
  refine lv_iload_n hx hb dX3_changed_34 rfl (lv_at hl 1 rfl) ?_
  refine lv_iload_n hx hb dX3_changed_35 rfl (lv_at hl 2 rfl) ?_
  refine roV1 (v := .long (chs σ st way)) (As := [.int (nI (st)), .int (nI (way))]) (rest := []) (n := 2) ⟨hx, hb, hml, hown, htA⟩ (c_changedSince l D cI cZ sa q σ st way s.heap (X_SS hP) hB hst (by omega)) (cwV 2 htA (gdV wd_510 wd_511 wd_512 wd_2 wd_513) rfl rfl rfl (by decide +kernel) ⟨Nat.le_of_ble_eq_true rfl, Nat.le_of_ble_eq_true rfl⟩) hKK hP 1 rfl rfl rfl hl.1 rfl (Nat.le_of_ble_eq_true rfl) dX3_changed_36 (Nat.zero_le _) (Nat.zero_le _) ?_
  refine roS1 (v := .int (bitc (chs σ st way))) (As := [.long (chs σ st way)]) (rest := []) (n := 1) ⟨hx, hb, hml, hown, htA⟩ (c_bitCount l D cI cZ sa (chs σ st way) s.heap ) (va_cwS 1 htA (gdS wd_341 wd_342 wd_12 wd_343) rfl rfl rfl (by decide +kernel) ⟨Nat.le_of_ble_eq_true rfl, Nat.le_of_ble_eq_true rfl⟩) hKK rfl hl.1 rfl (Nat.le_of_ble_eq_true rfl) dX3_changed_39 (Nat.zero_le _) (Nat.zero_le _) ?_
  exact ro_i hx hb hr hlocks (rfl) dX3_changed_42
set_option maxHeartbeats 4000000 in
set_option maxRecDepth 100000 in
theorem f_page_ok (l : Launch) (D : va_G) (cI cZ : ClassId) (sa : Nat → Nat) (q : Nat → Nat) (σ κ0 κ1 : ST) (st pl : Nat) (H : Heap) (hP : va_P D vwCl (wX q cI cZ σ κ0 κ1) H) (hB : ∀ k i, σ k i < 1073741824) (hst : st ≤ σ 7 0) (hp1 : 1 ≤ pl) (hp2 : pl ≤ 20) (hv9 : decide (σ 7 0 - st ≤ 40) = true) : Met l yX3_page (codeW yX3_page cX3_page 3 (some .int)) ({ frames := 3, cells := 0, slots := 0, locals := 69 } : Room) (RoP D cI cZ sa H [.ref (q 0), .int (nI (st)), .int (nI (pl))]) (RoQ (some (.int (nI (pge σ st pl (min (σ 7 0 - st) 40) 0)))) H) 0 0 RoF := by
  refine Met.ofW (cc := cX3_page) (maxL := 3) (ret := (some .int)) (by decide) rfl ?_
  intro p e s m args below meth c s₁ B hml hv
  obtain ⟨rfl, hH, hKK⟩ := hv
  subst hH
  have hx := B.exec
  have hb := B.bytes
  have hr := B.returns
  have htA : ∀ w ∈ WA, w.before _ s = true := fun w h => atoms_spec (ws := (codeW yX3_page cX3_page 3 (some .int))) B.pre w (List.mem_cons_of_mem _ h)
  have hown : s.vm.findClass RX3 = some m.cls := findClass_of_methodNamed B.named
  have hlocks := B.notSynchronized
  have hl := lv_entry ([.ref (q 0), .int (nI (st)), .int (nI (pl))]) (n := 3) (Nat.le_of_ble_eq_true rfl)
  rw [lg_entry_eq]
  generalize (lg_sl ([.ref (q 0), .int (nI (st)), .int (nI (pl))]) ++ List.replicate (3 - (lg_sl ([.ref (q 0), .int (nI (st)), .int (nI (pl))])).length) Slot.unset).toArray = ls at hl ⊢
  have hl : lv_has ls 3 [(0, .ref (q 0)), (1, .int (nI (st))), (2, .int (nI (pl)))] := hl
  refine lv_aload_n hx hb dX3_page_0 rfl (lv_at hl 0 rfl) ?_
  refine lv_iload_n hx hb dX3_page_1 rfl (lv_at hl 1 rfl) ?_
  refine roV1 (v := .int (b2i (iw (nI (st)) (nI (0)) (nI (σ 7 0))))) (As := [.int (nI (st))]) (rest := []) (n := 1) ⟨hx, hb, hml, hown, htA⟩ (c_isState l D cI cZ sa q σ κ0 κ1 (nI (st)) s.heap hP ) (cwV 1 htA (gdV wd_492 wd_494 wp_7 wd_1 wd_495) rfl rfl rfl (by decide +kernel) ⟨Nat.le_of_ble_eq_true rfl, Nat.le_of_ble_eq_true rfl⟩) hKK hP 0 rfl rfl rfl hl.1 rfl (Nat.le_of_ble_eq_true rfl) dX3_page_2 (Nat.zero_le _) (Nat.zero_le _) ?_
  refine b_ifeq (b := iw (nI (st)) (nI (0)) (nI (σ 7 0))) (tgt := 18) hx hb dX3_page_5 (by decide) (fun c_1 => ?_) (fun c_1 => ?_)
  · exact absurd (c_1.symm.trans (iw_n (Nat.zero_le _) hst (Nat.lt_trans (hB 7 0) (by decide)))) (by decide)
  refine lv_iload_n hx hb dX3_page_8 rfl (lv_at hl 2 rfl) ?_
  refine n_iconst (k := 1) hx hb dX3_page_9 (by decide) ?_
  refine lv_bipush (v := nI 20) hx hb dX3_page_10 (by decide) ?_
  refine roS1 (v := .int (b2i (iw (nI (pl)) (nI (1)) (nI (20))))) (As := [.int (nI (pl)), .int (nI (1)), .int (nI (20))]) (rest := []) (n := 3) ⟨hx, hb, hml, hown, htA⟩ (c_isWithin l D cI cZ sa (nI (pl)) (nI (1)) (nI (20)) s.heap ) (va_cwS 3 htA (gdS wd_139 wd_140 wd_1 wd_141) rfl rfl rfl (by decide +kernel) ⟨Nat.le_of_ble_eq_true rfl, Nat.le_of_ble_eq_true rfl⟩) hKK rfl hl.1 rfl (Nat.le_of_ble_eq_true rfl) dX3_page_12 (Nat.zero_le _) (Nat.zero_le _) ?_
  refine b_ifne (b := iw (nI (pl)) (nI (1)) (nI (20))) (tgt := 28) hx hb dX3_page_15 (by decide) (fun c_2 => ?_) (fun c_2 => ?_)
  rotate_left
  · exact absurd (c_2.symm.trans (iw_n hp1 hp2 (by decide))) (by decide)
  refine lv_aload_n hx hb dX3_page_28 rfl (lv_at hl 0 rfl) ?_
  refine lv_iload_n hx hb dX3_page_29 rfl (lv_at hl 1 rfl) ?_
  refine roV0 (As := [.int (nI (st))]) (rest := []) (n := 1) ⟨hx, hb, hml, hown, htA⟩ (c_reqTell_t l D cI cZ sa q σ κ0 κ1 st s.heap hP hB hst hv9) (cwV 1 htA (gdV wd_505 wd_507 wp_8 wd_1 wd_508) rfl rfl rfl (by decide +kernel) ⟨Nat.le_of_ble_eq_true rfl, Nat.le_of_ble_eq_true rfl⟩) hKK hP 0 rfl rfl rfl hl.1 rfl (Nat.le_of_ble_eq_true rfl) dX3_page_30 (Nat.zero_le _) (Nat.zero_le _) ?_
  refine lv_aload_n hx hb dX3_page_33 rfl (lv_at hl 0 rfl) ?_
  refine va_get (D := D) (ci := 3) (v := .ref (q 1)) (C := RX3) (T := TX3) (N := 3) hx hb htA uwX3 hown hKK.1 hP 0 rfl rfl 0 (by decide) (htA _ wd_125) (fun _ h9 => h9) rfl dX3_page_34 ?_
  refine va_getN (D := D) (ci := 2) (v := .ref (q 7)) (C := RX2) (T := TX2) (N := 7) hx hb htA uwX2 hown hKK.1 hP 1 rfl rfl 5 (by decide) (va_Nw.use rfl (ex_RX3_85 hKK.2)) (fun _ h9 => h9) rfl dX3_page_37 ?_
  refine lv_iload_n hx hb dX3_page_40 rfl (lv_at hl 1 rfl) ?_
  refine lv_iload_n hx hb dX3_page_41 rfl (lv_at hl 2 rfl) ?_
  refine roV1 (v := .int (nI (pge σ st pl (min (σ 7 0 - st) 40) 0))) (As := [.int (nI (st)), .int (nI (pl))]) (rest := []) (n := 2) ⟨hx, hb, hml, hown, htA⟩ (c_endOfPage l D cI cZ sa q σ st pl s.heap (X_SS hP) hB hst) (cwV 2 htA (gdV wd_545 wd_546 wd_547 wd_3 wd_548) rfl rfl rfl (by decide +kernel) ⟨Nat.le_of_ble_eq_true rfl, Nat.le_of_ble_eq_true rfl⟩) hKK hP 7 rfl rfl rfl hl.1 rfl (Nat.le_of_ble_eq_true rfl) dX3_page_42 (Nat.zero_le _) (Nat.zero_le _) ?_
  exact ro_i hx hb hr hlocks (rfl) dX3_page_45
set_option maxHeartbeats 4000000 in
set_option maxRecDepth 100000 in
theorem f_found_ok (l : Launch) (D : va_G) (cI cZ : ClassId) (sa : Nat → Nat) (q : Nat → Nat) (σ κ0 κ1 : ST) (b0 k9 : Nat) (H : Heap) (hP : va_P D vwCl (wX q cI cZ σ κ0 κ1) H) (hb9 : b0 < 6) (hk9 : k9 ≤ 4) : Met l yX3_found (codeW yX3_found cX3_found 3 (some .int)) ({ frames := 3, cells := 0, slots := 0, locals := 62 } : Room) (RoP D cI cZ sa H [.ref (q 0), .int (nI (b0)), .int (oi (k9))]) (RoQ (some (.int (nI (cnt (fun j => mt (σ 4 j) (σ 5 j) (2 ^ b0) (askq k9)) 60)))) H) 0 0 RoF := by
  refine Met.ofW (cc := cX3_found) (maxL := 3) (ret := (some .int)) (by decide) rfl ?_
  intro p e s m args below meth c s₁ B hml hv
  obtain ⟨rfl, hH, hKK⟩ := hv
  subst hH
  have hx := B.exec
  have hb := B.bytes
  have hr := B.returns
  have htA : ∀ w ∈ WA, w.before _ s = true := fun w h => atoms_spec (ws := (codeW yX3_found cX3_found 3 (some .int))) B.pre w (List.mem_cons_of_mem _ h)
  have hown : s.vm.findClass RX3 = some m.cls := findClass_of_methodNamed B.named
  have hlocks := B.notSynchronized
  have hl := lv_entry ([.ref (q 0), .int (nI (b0)), .int (oi (k9))]) (n := 3) (Nat.le_of_ble_eq_true rfl)
  rw [lg_entry_eq]
  generalize (lg_sl ([.ref (q 0), .int (nI (b0)), .int (oi (k9))]) ++ List.replicate (3 - (lg_sl ([.ref (q 0), .int (nI (b0)), .int (oi (k9))])).length) Slot.unset).toArray = ls at hl ⊢
  have hl : lv_has ls 3 [(0, .ref (q 0)), (1, .int (nI (b0))), (2, .int (oi (k9)))] := hl
  refine lv_iload_n hx hb dX3_found_0 rfl (lv_at hl 1 rfl) ?_
  refine roS1 (v := .int (b2i (iw (nI (b0)) (nI (0)) (nI (5))))) (As := [.int (nI (b0))]) (rest := []) (n := 1) ⟨hx, hb, hml, hown, htA⟩ (c_isBox l D cI cZ sa (nI (b0)) s.heap ) (va_cwS 1 htA (gdS wd_351 wd_352 wd_1 wd_353) rfl rfl rfl (by decide +kernel) ⟨Nat.le_of_ble_eq_true rfl, Nat.le_of_ble_eq_true rfl⟩) hKK rfl hl.1 rfl (Nat.le_of_ble_eq_true rfl) dX3_found_1 (Nat.zero_le _) (Nat.zero_le _) ?_
  refine b_ifeq (b := iw (nI (b0)) (nI (0)) (nI (5))) (tgt := 14) hx hb dX3_found_4 (by decide) (fun c_1 => ?_) (fun c_1 => ?_)
  · exact absurd (c_1.symm.trans (iw_n (Nat.zero_le _) (by omega) (by decide))) (by decide)
  refine lv_iload_n hx hb dX3_found_7 rfl (lv_at hl 2 rfl) ?_
  refine roS1 (v := .int (b2i (iq (oi (k9))))) (As := [.int (oi (k9))]) (rest := []) (n := 1) ⟨hx, hb, hml, hown, htA⟩ (c_isQK l D cI cZ sa (oi (k9)) s.heap ) (va_cwS 1 htA (gdS wd_354 wd_355 wd_1 wd_356) rfl rfl rfl (by decide +kernel) ⟨Nat.le_of_ble_eq_true rfl, Nat.le_of_ble_eq_true rfl⟩) hKK rfl hl.1 rfl (Nat.le_of_ble_eq_true rfl) dX3_found_8 (Nat.zero_le _) (Nat.zero_le _) ?_
  refine b_ifne (b := iq (oi (k9))) (tgt := 24) hx hb dX3_found_11 (by decide) (fun c_2 => ?_) (fun c_2 => ?_)
  rotate_left
  · exact absurd (c_2.symm.trans (iq_k hk9)) (by decide)
  refine lv_aload_n hx hb dX3_found_24 rfl (lv_at hl 0 rfl) ?_
  refine va_get (D := D) (ci := 3) (v := .ref (q 1)) (C := RX3) (T := TX3) (N := 3) hx hb htA uwX3 hown hKK.1 hP 0 rfl rfl 0 (by decide) (htA _ wd_125) (fun _ h9 => h9) rfl dX3_found_25 ?_
  refine n_iconst (k := 1) hx hb dX3_found_28 (by decide) ?_
  refine lv_iload_n hx hb dX3_found_29 rfl (lv_at hl 1 rfl) ?_
  refine n_ishl1 hx hb (y := b0) (by omega) dX3_found_30 ?_
  refine lv_iload_n hx hb dX3_found_31 rfl (lv_at hl 2 rfl) ?_
  refine roS1 (v := .int (nI (askq k9))) (As := [.int (oi (k9))]) (rest := [.int (nI (2 ^ b0)), .ref (q 1)]) (n := 1) ⟨hx, hb, hml, hown, htA⟩ (c_asked l D cI cZ sa k9 s.heap (by omega)) (va_cwS 1 htA (gdS wd_358 wd_359 wd_1 wd_360) rfl rfl rfl (by decide +kernel) ⟨Nat.le_of_ble_eq_true rfl, Nat.le_of_ble_eq_true rfl⟩) hKK rfl hl.1 rfl (Nat.le_of_ble_eq_true rfl) dX3_found_32 (Nat.zero_le _) (Nat.zero_le _) ?_
  refine roV1 (v := .long (ms (fun j => mt (σ 4 j) (σ 5 j) (2 ^ b0) (askq k9)) 60)) (As := [.int (nI (2 ^ b0)), .int (nI (askq k9))]) (rest := []) (n := 2) ⟨hx, hb, hml, hown, htA⟩ (c_matching l D cI cZ sa q σ (2 ^ b0) (askq k9) s.heap (X_SS hP)) (cwV 2 htA (gdV wd_334 wd_335 wd_336 wd_2 wd_337) rfl rfl rfl (by decide +kernel) ⟨Nat.le_of_ble_eq_true rfl, Nat.le_of_ble_eq_true rfl⟩) hKK hP 1 rfl rfl rfl hl.1 rfl (Nat.le_of_ble_eq_true rfl) dX3_found_35 (Nat.zero_le _) (Nat.zero_le _) ?_
  refine roS1 (v := .int (nI (cnt (fun j => mt (σ 4 j) (σ 5 j) (2 ^ b0) (askq k9)) 60))) (As := [.long (ms (fun j => mt (σ 4 j) (σ 5 j) (2 ^ b0) (askq k9)) 60)]) (rest := []) (n := 1) ⟨hx, hb, hml, hown, htA⟩ (c_bitCount_ms l D cI cZ sa (fun j => mt (σ 4 j) (σ 5 j) (2 ^ b0) (askq k9)) s.heap) (va_cwS 1 htA (gdS wd_341 wd_342 wd_12 wd_343) rfl rfl rfl (by decide +kernel) ⟨Nat.le_of_ble_eq_true rfl, Nat.le_of_ble_eq_true rfl⟩) hKK rfl hl.1 rfl (Nat.le_of_ble_eq_true rfl) dX3_found_38 (Nat.zero_le _) (Nat.zero_le _) ?_
  exact ro_i hx hb hr hlocks (rfl) dX3_found_41
set_option maxHeartbeats 4000000 in
set_option maxRecDepth 100000 in
theorem f_foundAt_ok (l : Launch) (D : va_G) (cI cZ : ClassId) (sa : Nat → Nat) (q : Nat → Nat) (σ κ0 κ1 : ST) (b0 k9 : Nat) (ix : Int32) (H : Heap) (hP : va_P D vwCl (wX q cI cZ σ κ0 κ1) H) (hB : ∀ k i, σ k i < 1073741824) (hb9 : b0 < 6) (hk9 : k9 ≤ 4) (hco : σ 1 0 ≤ 60) (hz : lat σ (ms (fun j => mt (σ 4 j) (σ 5 j) (2 ^ b0) (askq k9)) 60) ix (σ 1 0) 0 0 ≠ 0) : Met l yX3_foundAt (codeW yX3_foundAt cX3_foundAt 5 (some .int)) ({ frames := 3, cells := 0, slots := 0, locals := 62 } : Room) (RoP D cI cZ sa H [.ref (q 0), .int (nI (b0)), .int (oi (k9)), .int (ix)]) (RoQ (some (.int (oi (lat σ (ms (fun j => mt (σ 4 j) (σ 5 j) (2 ^ b0) (askq k9)) 60) ix (σ 1 0) 0 0)))) H) 0 0 RoF := by
  refine Met.ofW (cc := cX3_foundAt) (maxL := 5) (ret := (some .int)) (by decide) rfl ?_
  intro p e s m args below meth c s₁ B hml hv
  obtain ⟨rfl, hH, hKK⟩ := hv
  subst hH
  have hx := B.exec
  have hb := B.bytes
  have hr := B.returns
  have htA : ∀ w ∈ WA, w.before _ s = true := fun w h => atoms_spec (ws := (codeW yX3_foundAt cX3_foundAt 5 (some .int))) B.pre w (List.mem_cons_of_mem _ h)
  have hown : s.vm.findClass RX3 = some m.cls := findClass_of_methodNamed B.named
  have hlocks := B.notSynchronized
  have hl := lv_entry ([.ref (q 0), .int (nI (b0)), .int (oi (k9)), .int (ix)]) (n := 5) (Nat.le_of_ble_eq_true rfl)
  rw [lg_entry_eq]
  generalize (lg_sl ([.ref (q 0), .int (nI (b0)), .int (oi (k9)), .int (ix)]) ++ List.replicate (5 - (lg_sl ([.ref (q 0), .int (nI (b0)), .int (oi (k9)), .int (ix)])).length) Slot.unset).toArray = ls at hl ⊢
  have hl : lv_has ls 5 [(0, .ref (q 0)), (1, .int (nI (b0))), (2, .int (oi (k9))), (3, .int (ix))] := hl
  refine lv_iload_n hx hb dX3_foundAt_0 rfl (lv_at hl 1 rfl) ?_
  refine roS1 (v := .int (b2i (iw (nI (b0)) (nI (0)) (nI (5))))) (As := [.int (nI (b0))]) (rest := []) (n := 1) ⟨hx, hb, hml, hown, htA⟩ (c_isBox l D cI cZ sa (nI (b0)) s.heap ) (va_cwS 1 htA (gdS wd_351 wd_352 wd_1 wd_353) rfl rfl rfl (by decide +kernel) ⟨Nat.le_of_ble_eq_true rfl, Nat.le_of_ble_eq_true rfl⟩) hKK rfl hl.1 rfl (Nat.le_of_ble_eq_true rfl) dX3_foundAt_1 (Nat.zero_le _) (Nat.zero_le _) ?_
  refine b_ifeq (b := iw (nI (b0)) (nI (0)) (nI (5))) (tgt := 14) hx hb dX3_foundAt_4 (by decide) (fun c_1 => ?_) (fun c_1 => ?_)
  · exact absurd (c_1.symm.trans (iw_n (Nat.zero_le _) (by omega) (by decide))) (by decide)
  refine lv_iload_n hx hb dX3_foundAt_7 rfl (lv_at hl 2 rfl) ?_
  refine roS1 (v := .int (b2i (iq (oi (k9))))) (As := [.int (oi (k9))]) (rest := []) (n := 1) ⟨hx, hb, hml, hown, htA⟩ (c_isQK l D cI cZ sa (oi (k9)) s.heap ) (va_cwS 1 htA (gdS wd_354 wd_355 wd_1 wd_356) rfl rfl rfl (by decide +kernel) ⟨Nat.le_of_ble_eq_true rfl, Nat.le_of_ble_eq_true rfl⟩) hKK rfl hl.1 rfl (Nat.le_of_ble_eq_true rfl) dX3_foundAt_8 (Nat.zero_le _) (Nat.zero_le _) ?_
  refine b_ifne (b := iq (oi (k9))) (tgt := 24) hx hb dX3_foundAt_11 (by decide) (fun c_2 => ?_) (fun c_2 => ?_)
  rotate_left
  · exact absurd (c_2.symm.trans (iq_k hk9)) (by decide)
  refine lv_aload_n hx hb dX3_foundAt_24 rfl (lv_at hl 0 rfl) ?_
  refine va_get (D := D) (ci := 3) (v := .ref (q 1)) (C := RX3) (T := TX3) (N := 3) hx hb htA uwX3 hown hKK.1 hP 0 rfl rfl 0 (by decide) (htA _ wd_125) (fun _ h9 => h9) rfl dX3_foundAt_25 ?_
  refine lv_aload_n hx hb dX3_foundAt_28 rfl (lv_at hl 0 rfl) ?_
  refine va_get (D := D) (ci := 3) (v := .ref (q 1)) (C := RX3) (T := TX3) (N := 3) hx hb htA uwX3 hown hKK.1 hP 0 rfl rfl 0 (by decide) (htA _ wd_125) (fun _ h9 => h9) rfl dX3_foundAt_29 ?_
  refine n_iconst (k := 1) hx hb dX3_foundAt_32 (by decide) ?_
  refine lv_iload_n hx hb dX3_foundAt_33 rfl (lv_at hl 1 rfl) ?_
  refine n_ishl1 hx hb (y := b0) (by omega) dX3_foundAt_34 ?_
  refine lv_iload_n hx hb dX3_foundAt_35 rfl (lv_at hl 2 rfl) ?_
  refine roS1 (v := .int (nI (askq k9))) (As := [.int (oi (k9))]) (rest := [.int (nI (2 ^ b0)), .ref (q 1), .ref (q 1)]) (n := 1) ⟨hx, hb, hml, hown, htA⟩ (c_asked l D cI cZ sa k9 s.heap (by omega)) (va_cwS 1 htA (gdS wd_358 wd_359 wd_1 wd_360) rfl rfl rfl (by decide +kernel) ⟨Nat.le_of_ble_eq_true rfl, Nat.le_of_ble_eq_true rfl⟩) hKK rfl hl.1 rfl (Nat.le_of_ble_eq_true rfl) dX3_foundAt_36 (Nat.zero_le _) (Nat.zero_le _) ?_
  refine roV1 (v := .long (ms (fun j => mt (σ 4 j) (σ 5 j) (2 ^ b0) (askq k9)) 60)) (As := [.int (nI (2 ^ b0)), .int (nI (askq k9))]) (rest := [.ref (q 1)]) (n := 2) ⟨hx, hb, hml, hown, htA⟩ (c_matching l D cI cZ sa q σ (2 ^ b0) (askq k9) s.heap (X_SS hP)) (cwV 2 htA (gdV wd_334 wd_335 wd_336 wd_2 wd_337) rfl rfl rfl (by decide +kernel) ⟨Nat.le_of_ble_eq_true rfl, Nat.le_of_ble_eq_true rfl⟩) hKK hP 1 rfl rfl rfl hl.1 rfl (Nat.le_of_ble_eq_true rfl) dX3_foundAt_39 (Nat.zero_le _) (Nat.zero_le _) ?_
  refine lv_iload_n hx hb dX3_foundAt_42 rfl (lv_at hl 3 rfl) ?_
  refine roV1 (v := .int (oi (lat σ (ms (fun j => mt (σ 4 j) (σ 5 j) (2 ^ b0) (askq k9)) 60) (ix) (σ 1 0) 0 0))) (As := [.long (ms (fun j => mt (σ 4 j) (σ 5 j) (2 ^ b0) (askq k9)) 60), .int (ix)]) (rest := []) (n := 2) ⟨hx, hb, hml, hown, htA⟩ (c_latestAt l D cI cZ sa q σ (ms (fun j => mt (σ 4 j) (σ 5 j) (2 ^ b0) (askq k9)) 60) (ix) s.heap (X_SS hP) hB hco) (cwV 2 htA (gdV wd_480 wd_444 wd_445 wd_2 wd_446) rfl rfl rfl (by decide +kernel) ⟨Nat.le_of_ble_eq_true rfl, Nat.le_of_ble_eq_true rfl⟩) hKK hP 1 rfl rfl rfl hl.1 rfl (Nat.le_of_ble_eq_true rfl) dX3_foundAt_43 (Nat.zero_le _) (Nat.zero_le _) ?_
  refine lv_istore (lv' := [(4, .int (oi (lat σ (ms (fun j => mt (σ 4 j) (σ 5 j) (2 ^ b0) (askq k9)) 60) (ix) (σ 1 0) 0 0))), (0, .ref (q 0)), (1, .int (nI (b0))), (2, .int (oi (k9))), (3, .int (ix))]) hx hb dX3_foundAt_46 hl (by decide) rfl (fun ls hl => ?_)
  refine lv_iload hx hb dX3_foundAt_48 (lv_at hl 0 rfl) ?_
  refine lv_iconst (v := oi 0) hx hb dX3_foundAt_50 (by decide) ?_
  refine k_icmp_eq (x := lat σ (ms (fun j => mt (σ 4 j) (σ 5 j) (2 ^ b0) (askq k9)) 60) (ix) (σ 1 0) 0 0) (y := 0) (tgt := 58) hx hb dX3_foundAt_51 (by decide) (Nat.le_trans (lat_le (N := 1073741824) (hB 6) _ _ _ _ _) (by decide)) (by decide) (fun c_3 => ?_) (fun c_3 => ?_)
  · exact absurd c_3 hz
  refine n_iconst (k := 1) hx hb dX3_foundAt_54 (by decide) ?_
  refine lv_goto (tgt := 59) hx hb dX3_foundAt_55 (by decide) ?_
  refine roS0 (As := [.int (b2i (true))]) (rest := []) (n := 1) ⟨hx, hb, hml, hown, htA⟩ (c_reqMail_t l D cI cZ sa (true) s.heap rfl) (va_cwS 1 htA (gdS wd_274 wd_275 wd_1 wd_276) rfl rfl rfl (by decide +kernel) ⟨Nat.le_of_ble_eq_true rfl, Nat.le_of_ble_eq_true rfl⟩) hKK rfl hl.1 rfl (Nat.le_of_ble_eq_true rfl) dX3_foundAt_59 (Nat.zero_le _) (Nat.zero_le _) ?_
  refine lv_iload hx hb dX3_foundAt_62 (lv_at hl 0 rfl) ?_
  exact ro_i hx hb hr hlocks (rfl) dX3_foundAt_64
set_option maxHeartbeats 4000000 in
set_option maxRecDepth 100000 in
theorem f_removed_ok (l : Launch) (D : va_G) (cI cZ : ClassId) (sa : Nat → Nat) (q : Nat → Nat) (σ κ0 κ1 : ST) (st b0 k9 : Nat) (H : Heap) (hP : va_P D vwCl (wX q cI cZ σ κ0 κ1) H) (hB : ∀ k i, σ k i < 1073741824) (hst : st ≤ σ 7 0) (hb9 : b0 < 6) (hk9 : k9 ≤ 4) (hv9 : decide (σ 7 0 - st ≤ 40) = true) : Met l yX3_removed (codeW yX3_removed cX3_removed 6 (some .int)) ({ frames := 4, cells := 0, slots := 0, locals := 96 } : Room) (RoP D cI cZ sa H [.ref (q 0), .int (nI (st)), .int (nI (b0)), .int (oi (k9))]) (RoQ (some (.int (bitc (rmv σ st (2 ^ b0) (askq k9))))) H) 0 0 RoF := by
  refine Met.ofW (cc := cX3_removed) (maxL := 6) (ret := (some .int)) (by decide) rfl ?_
  intro p e s m args below meth c s₁ B hml hv
  obtain ⟨rfl, hH, hKK⟩ := hv
  subst hH
  have hx := B.exec
  have hb := B.bytes
  have hr := B.returns
  have htA : ∀ w ∈ WA, w.before _ s = true := fun w h => atoms_spec (ws := (codeW yX3_removed cX3_removed 6 (some .int))) B.pre w (List.mem_cons_of_mem _ h)
  have hown : s.vm.findClass RX3 = some m.cls := findClass_of_methodNamed B.named
  have hlocks := B.notSynchronized
  have hl := lv_entry ([.ref (q 0), .int (nI (st)), .int (nI (b0)), .int (oi (k9))]) (n := 6) (Nat.le_of_ble_eq_true rfl)
  rw [lg_entry_eq]
  generalize (lg_sl ([.ref (q 0), .int (nI (st)), .int (nI (b0)), .int (oi (k9))]) ++ List.replicate (6 - (lg_sl ([.ref (q 0), .int (nI (st)), .int (nI (b0)), .int (oi (k9))])).length) Slot.unset).toArray = ls at hl ⊢
  have hl : lv_has ls 6 [(0, .ref (q 0)), (1, .int (nI (st))), (2, .int (nI (b0))), (3, .int (oi (k9)))] := hl
  refine lv_aload_n hx hb dX3_removed_0 rfl (lv_at hl 0 rfl) ?_
  refine lv_iload_n hx hb dX3_removed_1 rfl (lv_at hl 1 rfl) ?_
  refine roV1 (v := .int (b2i (iw (nI (st)) (nI (0)) (nI (σ 7 0))))) (As := [.int (nI (st))]) (rest := []) (n := 1) ⟨hx, hb, hml, hown, htA⟩ (c_isState l D cI cZ sa q σ κ0 κ1 (nI (st)) s.heap hP ) (cwV 1 htA (gdV wd_492 wd_494 wp_7 wd_1 wd_495) rfl rfl rfl (by decide +kernel) ⟨Nat.le_of_ble_eq_true rfl, Nat.le_of_ble_eq_true rfl⟩) hKK hP 0 rfl rfl rfl hl.1 rfl (Nat.le_of_ble_eq_true rfl) dX3_removed_2 (Nat.zero_le _) (Nat.zero_le _) ?_
  refine b_ifeq (b := iw (nI (st)) (nI (0)) (nI (σ 7 0))) (tgt := 22) hx hb dX3_removed_5 (by decide) (fun c_1 => ?_) (fun c_1 => ?_)
  · exact absurd (c_1.symm.trans (iw_n (Nat.zero_le _) hst (Nat.lt_trans (hB 7 0) (by decide)))) (by decide)
  refine lv_iload_n hx hb dX3_removed_8 rfl (lv_at hl 2 rfl) ?_
  refine roS1 (v := .int (b2i (iw (nI (b0)) (nI (0)) (nI (5))))) (As := [.int (nI (b0))]) (rest := []) (n := 1) ⟨hx, hb, hml, hown, htA⟩ (c_isBox l D cI cZ sa (nI (b0)) s.heap ) (va_cwS 1 htA (gdS wd_351 wd_352 wd_1 wd_353) rfl rfl rfl (by decide +kernel) ⟨Nat.le_of_ble_eq_true rfl, Nat.le_of_ble_eq_true rfl⟩) hKK rfl hl.1 rfl (Nat.le_of_ble_eq_true rfl) dX3_removed_9 (Nat.zero_le _) (Nat.zero_le _) ?_
  refine b_ifeq (b := iw (nI (b0)) (nI (0)) (nI (5))) (tgt := 22) hx hb dX3_removed_12 (by decide) (fun c_2 => ?_) (fun c_2 => ?_)
  · exact absurd (c_2.symm.trans (iw_n (Nat.zero_le _) (by omega) (by decide))) (by decide)
  refine lv_iload_n hx hb dX3_removed_15 rfl (lv_at hl 3 rfl) ?_
  refine roS1 (v := .int (b2i (iq (oi (k9))))) (As := [.int (oi (k9))]) (rest := []) (n := 1) ⟨hx, hb, hml, hown, htA⟩ (c_isQK l D cI cZ sa (oi (k9)) s.heap ) (va_cwS 1 htA (gdS wd_354 wd_355 wd_1 wd_356) rfl rfl rfl (by decide +kernel) ⟨Nat.le_of_ble_eq_true rfl, Nat.le_of_ble_eq_true rfl⟩) hKK rfl hl.1 rfl (Nat.le_of_ble_eq_true rfl) dX3_removed_16 (Nat.zero_le _) (Nat.zero_le _) ?_
  refine b_ifne (b := iq (oi (k9))) (tgt := 32) hx hb dX3_removed_19 (by decide) (fun c_3 => ?_) (fun c_3 => ?_)
  rotate_left
  · exact absurd (c_3.symm.trans (iq_k hk9)) (by decide)
  refine lv_aload_n hx hb dX3_removed_32 rfl (lv_at hl 0 rfl) ?_
  refine lv_iload_n hx hb dX3_removed_33 rfl (lv_at hl 1 rfl) ?_
  refine roV0 (As := [.int (nI (st))]) (rest := []) (n := 1) ⟨hx, hb, hml, hown, htA⟩ (c_reqTell_t l D cI cZ sa q σ κ0 κ1 st s.heap hP hB hst hv9) (cwV 1 htA (gdV wd_505 wd_507 wp_8 wd_1 wd_508) rfl rfl rfl (by decide +kernel) ⟨Nat.le_of_ble_eq_true rfl, Nat.le_of_ble_eq_true rfl⟩) hKK hP 0 rfl rfl rfl hl.1 rfl (Nat.le_of_ble_eq_true rfl) dX3_removed_34 (Nat.zero_le _) (Nat.zero_le _) ?_
  refine lv_aload_n hx hb dX3_removed_37 rfl (lv_at hl 0 rfl) ?_
  refine va_get (D := D) (ci := 3) (v := .ref (q 1)) (C := RX3) (T := TX3) (N := 3) hx hb htA uwX3 hown hKK.1 hP 0 rfl rfl 0 (by decide) (htA _ wd_125) (fun _ h9 => h9) rfl dX3_removed_38 ?_
  refine lv_iload_n hx hb dX3_removed_41 rfl (lv_at hl 1 rfl) ?_
  refine n_iconst (k := 1) hx hb dX3_removed_42 (by decide) ?_
  refine lv_iload_n hx hb dX3_removed_43 rfl (lv_at hl 2 rfl) ?_
  refine n_ishl1 hx hb (y := b0) (by omega) dX3_removed_44 ?_
  refine lv_iload_n hx hb dX3_removed_45 rfl (lv_at hl 3 rfl) ?_
  refine roS1 (v := .int (nI (askq k9))) (As := [.int (oi (k9))]) (rest := [.int (nI (2 ^ b0)), .int (nI (st)), .ref (q 1)]) (n := 1) ⟨hx, hb, hml, hown, htA⟩ (c_asked l D cI cZ sa k9 s.heap (by omega)) (va_cwS 1 htA (gdS wd_358 wd_359 wd_1 wd_360) rfl rfl rfl (by decide +kernel) ⟨Nat.le_of_ble_eq_true rfl, Nat.le_of_ble_eq_true rfl⟩) hKK rfl hl.1 rfl (Nat.le_of_ble_eq_true rfl) dX3_removed_46 (Nat.zero_le _) (Nat.zero_le _) ?_
  refine roV1 (v := .long (und σ (2 ^ b0) (askq k9) (ms (fun j => mt (σ 4 j) (σ 5 j) (2 ^ b0) (askq k9)) 60) (min (σ 7 0 - st) 40))) (As := [.int (nI (st)), .int (nI (2 ^ b0)), .int (nI (askq k9))]) (rest := []) (n := 3) ⟨hx, hb, hml, hown, htA⟩ (c_matchingAt l D cI cZ sa q σ st (2 ^ b0) (askq k9) s.heap (X_SS hP) hB hst) (cwV 3 htA (gdV wd_535 wd_516 wd_517 wd_2 wd_518) rfl rfl rfl (by decide +kernel) ⟨Nat.le_of_ble_eq_true rfl, Nat.le_of_ble_eq_true rfl⟩) hKK hP 1 rfl rfl rfl hl.1 rfl (Nat.le_of_ble_eq_true rfl) dX3_removed_49 (Nat.zero_le _) (Nat.zero_le _) ?_
  refine lv_lstore (lv' := [(4, .long (und σ (2 ^ b0) (askq k9) (ms (fun j => mt (σ 4 j) (σ 5 j) (2 ^ b0) (askq k9)) 60) (min (σ 7 0 - st) 40))), (0, .ref (q 0)), (1, .int (nI (st))), (2, .int (nI (b0))), (3, .int (oi (k9)))]) hx hb dX3_removed_52 hl (by decide) rfl (fun ls hl => ?_)
  refine lv_lload hx hb dX3_removed_54 (lv_at hl 0 rfl) ?_
  refine lv_aload_n hx hb dX3_removed_56 rfl (lv_at hl 1 rfl) ?_
  refine va_get (D := D) (ci := 3) (v := .ref (q 1)) (C := RX3) (T := TX3) (N := 3) hx hb htA uwX3 hown hKK.1 hP 0 rfl rfl 0 (by decide) (htA _ wd_125) (fun _ h9 => h9) rfl dX3_removed_57 ?_
  refine n_iconst (k := 1) hx hb dX3_removed_60 (by decide) ?_
  refine lv_iload_n hx hb dX3_removed_61 rfl (lv_at hl 3 rfl) ?_
  refine n_ishl1 hx hb (y := b0) (by omega) dX3_removed_62 ?_
  refine lv_iload_n hx hb dX3_removed_63 rfl (lv_at hl 4 rfl) ?_
  refine roS1 (v := .int (nI (askq k9))) (As := [.int (oi (k9))]) (rest := [.int (nI (2 ^ b0)), .ref (q 1), .long (und σ (2 ^ b0) (askq k9) (ms (fun j => mt (σ 4 j) (σ 5 j) (2 ^ b0) (askq k9)) 60) (min (σ 7 0 - st) 40))]) (n := 1) ⟨hx, hb, hml, hown, htA⟩ (c_asked l D cI cZ sa k9 s.heap (by omega)) (va_cwS 1 htA (gdS wd_358 wd_359 wd_1 wd_360) rfl rfl rfl (by decide +kernel) ⟨Nat.le_of_ble_eq_true rfl, Nat.le_of_ble_eq_true rfl⟩) hKK rfl hl.1 rfl (Nat.le_of_ble_eq_true rfl) dX3_removed_64 (Nat.zero_le _) (Nat.zero_le _) ?_
  refine roV1 (v := .long (ms (fun j => mt (σ 4 j) (σ 5 j) (2 ^ b0) (askq k9)) 60)) (As := [.int (nI (2 ^ b0)), .int (nI (askq k9))]) (rest := [.long (und σ (2 ^ b0) (askq k9) (ms (fun j => mt (σ 4 j) (σ 5 j) (2 ^ b0) (askq k9)) 60) (min (σ 7 0 - st) 40))]) (n := 2) ⟨hx, hb, hml, hown, htA⟩ (c_matching l D cI cZ sa q σ (2 ^ b0) (askq k9) s.heap (X_SS hP)) (cwV 2 htA (gdV wd_334 wd_335 wd_336 wd_2 wd_337) rfl rfl rfl (by decide +kernel) ⟨Nat.le_of_ble_eq_true rfl, Nat.le_of_ble_eq_true rfl⟩) hKK hP 1 rfl rfl rfl hl.1 rfl (Nat.le_of_ble_eq_true rfl) dX3_removed_67 (Nat.zero_le _) (Nat.zero_le _) ?_
  refine lv_ldc2 (v := (-1)) hx hb hown (htA _ wd_316) dX3_removed_70 ?_
  refine lv_lxor hx hb dX3_removed_73 ?_
  refine lv_land hx hb dX3_removed_74 ?_
  refine roS1 (v := .int (bitc ((und σ (2 ^ b0) (askq k9) (ms (fun j => mt (σ 4 j) (σ 5 j) (2 ^ b0) (askq k9)) 60) (min (σ 7 0 - st) 40)) &&& ((ms (fun j => mt (σ 4 j) (σ 5 j) (2 ^ b0) (askq k9)) 60) ^^^ (-1 : Int64))))) (As := [.long ((und σ (2 ^ b0) (askq k9) (ms (fun j => mt (σ 4 j) (σ 5 j) (2 ^ b0) (askq k9)) 60) (min (σ 7 0 - st) 40)) &&& ((ms (fun j => mt (σ 4 j) (σ 5 j) (2 ^ b0) (askq k9)) 60) ^^^ (-1 : Int64)))]) (rest := []) (n := 1) ⟨hx, hb, hml, hown, htA⟩ (c_bitCount l D cI cZ sa ((und σ (2 ^ b0) (askq k9) (ms (fun j => mt (σ 4 j) (σ 5 j) (2 ^ b0) (askq k9)) 60) (min (σ 7 0 - st) 40)) &&& ((ms (fun j => mt (σ 4 j) (σ 5 j) (2 ^ b0) (askq k9)) 60) ^^^ (-1 : Int64))) s.heap ) (va_cwS 1 htA (gdS wd_341 wd_342 wd_12 wd_343) rfl rfl rfl (by decide +kernel) ⟨Nat.le_of_ble_eq_true rfl, Nat.le_of_ble_eq_true rfl⟩) hKK rfl hl.1 rfl (Nat.le_of_ble_eq_true rfl) dX3_removed_75 (Nat.zero_le _) (Nat.zero_le _) ?_
  exact ro_i hx hb hr hlocks (rfl) dX3_removed_78
set_option maxHeartbeats 4000000 in
set_option maxRecDepth 100000 in
theorem f_added_ok (l : Launch) (D : va_G) (cI cZ : ClassId) (sa : Nat → Nat) (q : Nat → Nat) (σ κ0 κ1 : ST) (st b0 k9 : Nat) (H : Heap) (hP : va_P D vwCl (wX q cI cZ σ κ0 κ1) H) (hB : ∀ k i, σ k i < 1073741824) (hst : st ≤ σ 7 0) (hb9 : b0 < 6) (hk9 : k9 ≤ 4) (hv9 : decide (σ 7 0 - st ≤ 40) = true) : Met l yX3_added (codeW yX3_added cX3_added 6 (some .int)) ({ frames := 4, cells := 0, slots := 0, locals := 96 } : Room) (RoP D cI cZ sa H [.ref (q 0), .int (nI (st)), .int (nI (b0)), .int (oi (k9))]) (RoQ (some (.int (bitc (add_ σ st (2 ^ b0) (askq k9))))) H) 0 0 RoF := by
  refine Met.ofW (cc := cX3_added) (maxL := 6) (ret := (some .int)) (by decide) rfl ?_
  intro p e s m args below meth c s₁ B hml hv
  obtain ⟨rfl, hH, hKK⟩ := hv
  subst hH
  have hx := B.exec
  have hb := B.bytes
  have hr := B.returns
  have htA : ∀ w ∈ WA, w.before _ s = true := fun w h => atoms_spec (ws := (codeW yX3_added cX3_added 6 (some .int))) B.pre w (List.mem_cons_of_mem _ h)
  have hown : s.vm.findClass RX3 = some m.cls := findClass_of_methodNamed B.named
  have hlocks := B.notSynchronized
  have hl := lv_entry ([.ref (q 0), .int (nI (st)), .int (nI (b0)), .int (oi (k9))]) (n := 6) (Nat.le_of_ble_eq_true rfl)
  rw [lg_entry_eq]
  generalize (lg_sl ([.ref (q 0), .int (nI (st)), .int (nI (b0)), .int (oi (k9))]) ++ List.replicate (6 - (lg_sl ([.ref (q 0), .int (nI (st)), .int (nI (b0)), .int (oi (k9))])).length) Slot.unset).toArray = ls at hl ⊢
  have hl : lv_has ls 6 [(0, .ref (q 0)), (1, .int (nI (st))), (2, .int (nI (b0))), (3, .int (oi (k9)))] := hl
  refine lv_aload_n hx hb dX3_added_0 rfl (lv_at hl 0 rfl) ?_
  refine lv_iload_n hx hb dX3_added_1 rfl (lv_at hl 1 rfl) ?_
  refine roV1 (v := .int (b2i (iw (nI (st)) (nI (0)) (nI (σ 7 0))))) (As := [.int (nI (st))]) (rest := []) (n := 1) ⟨hx, hb, hml, hown, htA⟩ (c_isState l D cI cZ sa q σ κ0 κ1 (nI (st)) s.heap hP ) (cwV 1 htA (gdV wd_492 wd_494 wp_7 wd_1 wd_495) rfl rfl rfl (by decide +kernel) ⟨Nat.le_of_ble_eq_true rfl, Nat.le_of_ble_eq_true rfl⟩) hKK hP 0 rfl rfl rfl hl.1 rfl (Nat.le_of_ble_eq_true rfl) dX3_added_2 (Nat.zero_le _) (Nat.zero_le _) ?_
  refine b_ifeq (b := iw (nI (st)) (nI (0)) (nI (σ 7 0))) (tgt := 22) hx hb dX3_added_5 (by decide) (fun c_1 => ?_) (fun c_1 => ?_)
  · exact absurd (c_1.symm.trans (iw_n (Nat.zero_le _) hst (Nat.lt_trans (hB 7 0) (by decide)))) (by decide)
  refine lv_iload_n hx hb dX3_added_8 rfl (lv_at hl 2 rfl) ?_
  refine roS1 (v := .int (b2i (iw (nI (b0)) (nI (0)) (nI (5))))) (As := [.int (nI (b0))]) (rest := []) (n := 1) ⟨hx, hb, hml, hown, htA⟩ (c_isBox l D cI cZ sa (nI (b0)) s.heap ) (va_cwS 1 htA (gdS wd_351 wd_352 wd_1 wd_353) rfl rfl rfl (by decide +kernel) ⟨Nat.le_of_ble_eq_true rfl, Nat.le_of_ble_eq_true rfl⟩) hKK rfl hl.1 rfl (Nat.le_of_ble_eq_true rfl) dX3_added_9 (Nat.zero_le _) (Nat.zero_le _) ?_
  refine b_ifeq (b := iw (nI (b0)) (nI (0)) (nI (5))) (tgt := 22) hx hb dX3_added_12 (by decide) (fun c_2 => ?_) (fun c_2 => ?_)
  · exact absurd (c_2.symm.trans (iw_n (Nat.zero_le _) (by omega) (by decide))) (by decide)
  refine lv_iload_n hx hb dX3_added_15 rfl (lv_at hl 3 rfl) ?_
  refine roS1 (v := .int (b2i (iq (oi (k9))))) (As := [.int (oi (k9))]) (rest := []) (n := 1) ⟨hx, hb, hml, hown, htA⟩ (c_isQK l D cI cZ sa (oi (k9)) s.heap ) (va_cwS 1 htA (gdS wd_354 wd_355 wd_1 wd_356) rfl rfl rfl (by decide +kernel) ⟨Nat.le_of_ble_eq_true rfl, Nat.le_of_ble_eq_true rfl⟩) hKK rfl hl.1 rfl (Nat.le_of_ble_eq_true rfl) dX3_added_16 (Nat.zero_le _) (Nat.zero_le _) ?_
  refine b_ifne (b := iq (oi (k9))) (tgt := 32) hx hb dX3_added_19 (by decide) (fun c_3 => ?_) (fun c_3 => ?_)
  rotate_left
  · exact absurd (c_3.symm.trans (iq_k hk9)) (by decide)
  refine lv_aload_n hx hb dX3_added_32 rfl (lv_at hl 0 rfl) ?_
  refine lv_iload_n hx hb dX3_added_33 rfl (lv_at hl 1 rfl) ?_
  refine roV0 (As := [.int (nI (st))]) (rest := []) (n := 1) ⟨hx, hb, hml, hown, htA⟩ (c_reqTell_t l D cI cZ sa q σ κ0 κ1 st s.heap hP hB hst hv9) (cwV 1 htA (gdV wd_505 wd_507 wp_8 wd_1 wd_508) rfl rfl rfl (by decide +kernel) ⟨Nat.le_of_ble_eq_true rfl, Nat.le_of_ble_eq_true rfl⟩) hKK hP 0 rfl rfl rfl hl.1 rfl (Nat.le_of_ble_eq_true rfl) dX3_added_34 (Nat.zero_le _) (Nat.zero_le _) ?_
  refine lv_aload_n hx hb dX3_added_37 rfl (lv_at hl 0 rfl) ?_
  refine va_get (D := D) (ci := 3) (v := .ref (q 1)) (C := RX3) (T := TX3) (N := 3) hx hb htA uwX3 hown hKK.1 hP 0 rfl rfl 0 (by decide) (htA _ wd_125) (fun _ h9 => h9) rfl dX3_added_38 ?_
  refine lv_iload_n hx hb dX3_added_41 rfl (lv_at hl 1 rfl) ?_
  refine n_iconst (k := 1) hx hb dX3_added_42 (by decide) ?_
  refine lv_iload_n hx hb dX3_added_43 rfl (lv_at hl 2 rfl) ?_
  refine n_ishl1 hx hb (y := b0) (by omega) dX3_added_44 ?_
  refine lv_iload_n hx hb dX3_added_45 rfl (lv_at hl 3 rfl) ?_
  refine roS1 (v := .int (nI (askq k9))) (As := [.int (oi (k9))]) (rest := [.int (nI (2 ^ b0)), .int (nI (st)), .ref (q 1)]) (n := 1) ⟨hx, hb, hml, hown, htA⟩ (c_asked l D cI cZ sa k9 s.heap (by omega)) (va_cwS 1 htA (gdS wd_358 wd_359 wd_1 wd_360) rfl rfl rfl (by decide +kernel) ⟨Nat.le_of_ble_eq_true rfl, Nat.le_of_ble_eq_true rfl⟩) hKK rfl hl.1 rfl (Nat.le_of_ble_eq_true rfl) dX3_added_46 (Nat.zero_le _) (Nat.zero_le _) ?_
  refine roV1 (v := .long (und σ (2 ^ b0) (askq k9) (ms (fun j => mt (σ 4 j) (σ 5 j) (2 ^ b0) (askq k9)) 60) (min (σ 7 0 - st) 40))) (As := [.int (nI (st)), .int (nI (2 ^ b0)), .int (nI (askq k9))]) (rest := []) (n := 3) ⟨hx, hb, hml, hown, htA⟩ (c_matchingAt l D cI cZ sa q σ st (2 ^ b0) (askq k9) s.heap (X_SS hP) hB hst) (cwV 3 htA (gdV wd_535 wd_516 wd_517 wd_2 wd_518) rfl rfl rfl (by decide +kernel) ⟨Nat.le_of_ble_eq_true rfl, Nat.le_of_ble_eq_true rfl⟩) hKK hP 1 rfl rfl rfl hl.1 rfl (Nat.le_of_ble_eq_true rfl) dX3_added_49 (Nat.zero_le _) (Nat.zero_le _) ?_
  refine lv_lstore (lv' := [(4, .long (und σ (2 ^ b0) (askq k9) (ms (fun j => mt (σ 4 j) (σ 5 j) (2 ^ b0) (askq k9)) 60) (min (σ 7 0 - st) 40))), (0, .ref (q 0)), (1, .int (nI (st))), (2, .int (nI (b0))), (3, .int (oi (k9)))]) hx hb dX3_added_52 hl (by decide) rfl (fun ls hl => ?_)
  refine lv_aload_n hx hb dX3_added_54 rfl (lv_at hl 1 rfl) ?_
  refine va_get (D := D) (ci := 3) (v := .ref (q 1)) (C := RX3) (T := TX3) (N := 3) hx hb htA uwX3 hown hKK.1 hP 0 rfl rfl 0 (by decide) (htA _ wd_125) (fun _ h9 => h9) rfl dX3_added_55 ?_
  refine n_iconst (k := 1) hx hb dX3_added_58 (by decide) ?_
  refine lv_iload_n hx hb dX3_added_59 rfl (lv_at hl 3 rfl) ?_
  refine n_ishl1 hx hb (y := b0) (by omega) dX3_added_60 ?_
  refine lv_iload_n hx hb dX3_added_61 rfl (lv_at hl 4 rfl) ?_
  refine roS1 (v := .int (nI (askq k9))) (As := [.int (oi (k9))]) (rest := [.int (nI (2 ^ b0)), .ref (q 1)]) (n := 1) ⟨hx, hb, hml, hown, htA⟩ (c_asked l D cI cZ sa k9 s.heap (by omega)) (va_cwS 1 htA (gdS wd_358 wd_359 wd_1 wd_360) rfl rfl rfl (by decide +kernel) ⟨Nat.le_of_ble_eq_true rfl, Nat.le_of_ble_eq_true rfl⟩) hKK rfl hl.1 rfl (Nat.le_of_ble_eq_true rfl) dX3_added_62 (Nat.zero_le _) (Nat.zero_le _) ?_
  refine roV1 (v := .long (ms (fun j => mt (σ 4 j) (σ 5 j) (2 ^ b0) (askq k9)) 60)) (As := [.int (nI (2 ^ b0)), .int (nI (askq k9))]) (rest := []) (n := 2) ⟨hx, hb, hml, hown, htA⟩ (c_matching l D cI cZ sa q σ (2 ^ b0) (askq k9) s.heap (X_SS hP)) (cwV 2 htA (gdV wd_334 wd_335 wd_336 wd_2 wd_337) rfl rfl rfl (by decide +kernel) ⟨Nat.le_of_ble_eq_true rfl, Nat.le_of_ble_eq_true rfl⟩) hKK hP 1 rfl rfl rfl hl.1 rfl (Nat.le_of_ble_eq_true rfl) dX3_added_65 (Nat.zero_le _) (Nat.zero_le _) ?_
  refine lv_lload hx hb dX3_added_68 (lv_at hl 0 rfl) ?_
  refine lv_ldc2 (v := (-1)) hx hb hown (htA _ wd_316) dX3_added_70 ?_
  refine lv_lxor hx hb dX3_added_73 ?_
  refine lv_land hx hb dX3_added_74 ?_
  refine roS1 (v := .int (bitc ((ms (fun j => mt (σ 4 j) (σ 5 j) (2 ^ b0) (askq k9)) 60) &&& ((und σ (2 ^ b0) (askq k9) (ms (fun j => mt (σ 4 j) (σ 5 j) (2 ^ b0) (askq k9)) 60) (min (σ 7 0 - st) 40)) ^^^ (-1 : Int64))))) (As := [.long ((ms (fun j => mt (σ 4 j) (σ 5 j) (2 ^ b0) (askq k9)) 60) &&& ((und σ (2 ^ b0) (askq k9) (ms (fun j => mt (σ 4 j) (σ 5 j) (2 ^ b0) (askq k9)) 60) (min (σ 7 0 - st) 40)) ^^^ (-1 : Int64)))]) (rest := []) (n := 1) ⟨hx, hb, hml, hown, htA⟩ (c_bitCount l D cI cZ sa ((ms (fun j => mt (σ 4 j) (σ 5 j) (2 ^ b0) (askq k9)) 60) &&& ((und σ (2 ^ b0) (askq k9) (ms (fun j => mt (σ 4 j) (σ 5 j) (2 ^ b0) (askq k9)) 60) (min (σ 7 0 - st) 40)) ^^^ (-1 : Int64))) s.heap ) (va_cwS 1 htA (gdS wd_341 wd_342 wd_12 wd_343) rfl rfl rfl (by decide +kernel) ⟨Nat.le_of_ble_eq_true rfl, Nat.le_of_ble_eq_true rfl⟩) hKK rfl hl.1 rfl (Nat.le_of_ble_eq_true rfl) dX3_added_75 (Nat.zero_le _) (Nat.zero_le _) ?_
  exact ro_i hx hb hr hlocks (rfl) dX3_added_78
