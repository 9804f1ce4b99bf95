set_option maxHeartbeats 4000000 in
set_option maxRecDepth 100000 in
theorem r_found_bad (l : Launch) (D : va_G) (cI cZ : ClassId) (sa : Nat → Nat) (q : Nat → Nat) (μ : ST) (x y9 : Int32) (A : Nat → Prop) (hD : va_D A (wM q cI cZ μ)) (hbad : iqm (x) (y9) = false) : Met l yX4_found (codeW yX4_found cX4_found 3 (some .int)) ({ frames := 2, cells := 0, slots := 0, locals := 43 } : Room) (WrP D cI cZ sa (wM q cI cZ μ) [.ref (q 0), .int (x), .int (y9)]) (WrQ (some (.int (nI (0)))) D (wM q cI cZ (sv μ 0 2 1)) A) 0 0 A := by
  refine Met.ofW (cc := cX4_found) (maxL := 3) (ret := (some .int)) (by decide) rfl ?_
  intro p e s m args below meth c s₁ B hml hv
  obtain ⟨rfl, hH, hKK⟩ := hv
  have hx := B.exec
  have hb := B.bytes
  have hr := B.returns
  have htA : ∀ w ∈ WA, w.before _ s = true := fun w h => atoms_spec (ws := (codeW yX4_found cX4_found 3 (some .int))) B.pre w (List.mem_cons_of_mem _ h)
  have hown : s.vm.findClass RX4 = some m.cls := findClass_of_methodNamed B.named
  have hlocks := B.notSynchronized
  have hP := hH
  have hS : va_S A s.heap s.heap [] := va_S.rf
  have hl := lv_entry ([.ref (q 0), .int (x), .int (y9)]) (n := 3) (Nat.le_of_ble_eq_true rfl)
  rw [lg_entry_eq]
  generalize (lg_sl ([.ref (q 0), .int (x), .int (y9)]) ++ List.replicate (3 - (lg_sl ([.ref (q 0), .int (x), .int (y9)])).length) Slot.unset).toArray = ls at hl ⊢
  have hl : lv_has ls 3 [(0, .ref (q 0)), (1, .int (x)), (2, .int (y9))] := hl
  refine lv_aload_n hx hb dX4_found_0 rfl (lv_at hl 0 rfl) ?_
  refine lv_iload_n hx hb dX4_found_1 rfl (lv_at hl 1 rfl) ?_
  refine lv_iload_n hx hb dX4_found_2 rfl (lv_at hl 2 rfl) ?_
  refine roS1 (v := .int (b2i (iqm (x) (y9)))) (As := [.int (x), .int (y9)]) (rest := [.ref (q 0)]) (n := 2) ⟨hx, hb, hml, hown, htA⟩ (m_isQuery l D cI cZ sa (x) (y9) s.heap ) (va_cwS 2 htA (gdS wd_846 wd_847 wd_5 wd_848) rfl rfl rfl (by decide +kernel) ⟨Nat.le_of_ble_eq_true rfl, Nat.le_of_ble_eq_true rfl⟩) hKK rfl hl.1 rfl (Nat.le_of_ble_eq_true rfl) dX4_found_3 (Nat.zero_le _) (Nat.zero_le _) ?_
  refine b_ifeq (b := iqm (x) (y9)) (tgt := 13) hx hb dX4_found_6 (by decide) (fun c_1 => ?_) (fun c_1 => ?_)
  rotate_left
  · exact absurd (c_1.symm.trans hbad) (by decide)
  refine n_iconst (k := 1) hx hb dX4_found_13 (by decide) ?_
  refine wrV1 (v := .int (b2i (false))) (As := [.int (nI (1))]) (rest := []) (n := 1) ⟨hx, hb, hml, hown, htA⟩ (m_unfine l D cI cZ sa q μ 1 A (D_addr hD rfl) (by decide) (by decide)) (cwV 1 htA (gdV wd_735 wd_737 wp_9 wd_5 wd_738) rfl rfl rfl (by decide +kernel) ⟨Nat.le_of_ble_eq_true rfl, Nat.le_of_ble_eq_true rfl⟩) hKK hP 0 rfl rfl rfl hl.1 rfl (Nat.le_of_ble_eq_true rfl) dX4_found_14 (Nat.zero_le _) (Nat.zero_le _) hS (fun _ h => h) (fun H1 locs hP1 hz1 hk1 hS => ?_)
  have hP : va_P D vwCl (wM q cI cZ (sv μ 0 2 (1))) H1 := hP1
  generalize H1 = H at hP hS ⊢
  refine b_ifeq (b := false) (tgt := 29) hx hb dX4_found_17 (by decide) (fun c_2 => ?_) (fun c_2 => ?_)
  rotate_left
  · exact absurd c_2 (by decide)
  refine n_iconst (k := 0) hx hb dX4_found_29 (by decide) ?_
  exact wr_i hx hb hr hlocks (rfl) hP hS dX4_found_30
set_option maxHeartbeats 4000000 in
set_option maxRecDepth 100000 in
theorem r_found_ok (l : Launch) (D : va_G) (cI cZ : ClassId) (sa : Nat → Nat) (q : Nat → Nat) (μ : ST) (b0 k9 : Nat) (A : Nat → Prop) (hD : va_D A (wM q cI cZ μ)) (hB : ∀ k i, μ k i < 1073741824) (hm0 : μ 0 0 ≤ 60) (hb9 : b0 < 6) (hk9 : k9 ≤ 4) (hw : k9 ≤ 2 ^ 31) : Met l yX4_found (codeW yX4_found cX4_found 3 (some .int)) ({ frames := 3, cells := 0, slots := 0, locals := 68 } : Room) (WrP D cI cZ sa (wM q cI cZ μ) [.ref (q 0), .int (nI (b0)), .int (oi (k9))]) (WrQ (some (.int (nI (cnt (fun m9 => ifd μ b0 k9 m9) (μ 0 0))))) D (wM q cI cZ (sv μ 0 2 0)) A) 0 0 A := by
  refine Met.ofW (cc := cX4_found) (maxL := 3) (ret := (some .int)) (by decide) rfl ?_
  intro p e s m args below meth c s₁ B hml hv
  obtain ⟨rfl, hH, hKK⟩ := hv
  have hx := B.exec
  have hb := B.bytes
  have hr := B.returns
  have htA : ∀ w ∈ WA, w.before _ s = true := fun w h => atoms_spec (ws := (codeW yX4_found cX4_found 3 (some .int))) B.pre w (List.mem_cons_of_mem _ h)
  have hown : s.vm.findClass RX4 = some m.cls := findClass_of_methodNamed B.named
  have hlocks := B.notSynchronized
  have hP := hH
  have hS : va_S A s.heap s.heap [] := va_S.rf
  have hl := lv_entry ([.ref (q 0), .int (nI (b0)), .int (oi (k9))]) (n := 3) (Nat.le_of_ble_eq_true rfl)
  rw [lg_entry_eq]
  generalize (lg_sl ([.ref (q 0), .int (nI (b0)), .int (oi (k9))]) ++ List.replicate (3 - (lg_sl ([.ref (q 0), .int (nI (b0)), .int (oi (k9))])).length) Slot.unset).toArray = ls at hl ⊢
  have hl : lv_has ls 3 [(0, .ref (q 0)), (1, .int (nI (b0))), (2, .int (oi (k9)))] := hl
  refine lv_aload_n hx hb dX4_found_0 rfl (lv_at hl 0 rfl) ?_
  refine lv_iload_n hx hb dX4_found_1 rfl (lv_at hl 1 rfl) ?_
  refine lv_iload_n hx hb dX4_found_2 rfl (lv_at hl 2 rfl) ?_
  refine roS1 (v := .int (b2i (iqm (nI (b0)) (oi (k9))))) (As := [.int (nI (b0)), .int (oi (k9))]) (rest := [.ref (q 0)]) (n := 2) ⟨hx, hb, hml, hown, htA⟩ (m_isQuery l D cI cZ sa (nI (b0)) (oi (k9)) s.heap ) (va_cwS 2 htA (gdS wd_846 wd_847 wd_5 wd_848) rfl rfl rfl (by decide +kernel) ⟨Nat.le_of_ble_eq_true rfl, Nat.le_of_ble_eq_true rfl⟩) hKK rfl hl.1 rfl (Nat.le_of_ble_eq_true rfl) dX4_found_3 (Nat.zero_le _) (Nat.zero_le _) ?_
  refine b_ifeq (b := iqm (nI (b0)) (oi (k9))) (tgt := 13) hx hb dX4_found_6 (by decide) (fun c_1 => ?_) (fun c_1 => ?_)
  · exact absurd (c_1.symm.trans (iqm_k hb9 hk9)) (by decide)
  refine n_iconst (k := 0) hx hb dX4_found_9 (by decide) ?_
  refine lv_goto (tgt := 14) hx hb dX4_found_10 (by decide) ?_
  refine wrV1 (v := .int (b2i (true))) (As := [.int (nI (0))]) (rest := []) (n := 1) ⟨hx, hb, hml, hown, htA⟩ (m_fine l D cI cZ sa q μ A (D_addr hD rfl) ) (cwV 1 htA (gdV wd_735 wd_737 wp_9 wd_5 wd_738) rfl rfl rfl (by decide +kernel) ⟨Nat.le_of_ble_eq_true rfl, Nat.le_of_ble_eq_true rfl⟩) hKK hP 0 rfl rfl rfl hl.1 rfl (Nat.le_of_ble_eq_true rfl) dX4_found_14 (Nat.zero_le _) (Nat.zero_le _) hS (fun _ h => h) (fun H1 locs hP1 hz1 hk1 hS => ?_)
  have hP : va_P D vwCl (wM q cI cZ (sv μ 0 2 (0))) H1 := hP1
  generalize H1 = H at hP hS ⊢
  refine b_ifeq (b := true) (tgt := 29) hx hb dX4_found_17 (by decide) (fun c_2 => ?_) (fun c_2 => ?_)
  · exact absurd c_2 (by decide)
  refine lv_aload_n hx hb dX4_found_20 rfl (lv_at hl 0 rfl) ?_
  refine lv_iload_n hx hb dX4_found_21 rfl (lv_at hl 1 rfl) ?_
  refine lv_iload_n hx hb dX4_found_22 rfl (lv_at hl 2 rfl) ?_
  refine roV1 (v := .int (nI (cnt (fun m9 => ifd (sv μ 0 2 (0)) b0 k9 m9) (μ 0 0)))) (As := [.int (nI (b0)), .int (oi (k9))]) (rest := []) (n := 2) ⟨hx, hb, hml, hown, htA⟩ (m_count l D cI cZ sa q (sv μ 0 2 (0)) b0 k9 H hP (sv_lt hB (by decide)) hm0 hw) (cwV 2 htA (gdV wd_790 wd_792 wp_13 wd_5 wd_793) rfl rfl rfl (by decide +kernel) ⟨Nat.le_of_ble_eq_true rfl, Nat.le_of_ble_eq_true rfl⟩) hKK hP 0 rfl rfl rfl hl.1 rfl (Nat.le_of_ble_eq_true rfl) dX4_found_23 (Nat.zero_le _) (Nat.zero_le _) ?_
  refine lv_goto (tgt := 30) hx hb dX4_found_26 (by decide) ?_
  exact wr_i hx hb hr hlocks (rfl) hP hS dX4_found_30
set_option maxHeartbeats 4000000 in
set_option maxRecDepth 100000 in
theorem r_foundAt_bad (l : Launch) (D : va_G) (cI cZ : ClassId) (sa : Nat → Nat) (q : Nat → Nat) (μ : ST) (x y9 ix : Int32) (A : Nat → Prop) (hD : va_D A (wM q cI cZ μ)) (hbad : iqm (x) (y9) = false) : Met l yX4_foundAt (codeW yX4_foundAt cX4_foundAt 5 (some .int)) ({ frames := 2, cells := 0, slots := 0, locals := 43 } : Room) (WrP D cI cZ sa (wM q cI cZ μ) [.ref (q 0), .int (x), .int (y9), .int (ix)]) (WrQ (some (.int (nI (0)))) D (wM q cI cZ (sv μ 0 2 1)) A) 0 0 A := by
  refine Met.ofW (cc := cX4_foundAt) (maxL := 5) (ret := (some .int)) (by decide) rfl ?_
  intro p e s m args below meth c s₁ B hml hv
  obtain ⟨rfl, hH, hKK⟩ := hv
  have hx := B.exec
  have hb := B.bytes
  have hr := B.returns
  have htA : ∀ w ∈ WA, w.before _ s = true := fun w h => atoms_spec (ws := (codeW yX4_foundAt cX4_foundAt 5 (some .int))) B.pre w (List.mem_cons_of_mem _ h)
  have hown : s.vm.findClass RX4 = some m.cls := findClass_of_methodNamed B.named
  have hlocks := B.notSynchronized
  have hP := hH
  have hS : va_S A s.heap s.heap [] := va_S.rf
  have hl := lv_entry ([.ref (q 0), .int (x), .int (y9), .int (ix)]) (n := 5) (Nat.le_of_ble_eq_true rfl)
  rw [lg_entry_eq]
  generalize (lg_sl ([.ref (q 0), .int (x), .int (y9), .int (ix)]) ++ List.replicate (5 - (lg_sl ([.ref (q 0), .int (x), .int (y9), .int (ix)])).length) Slot.unset).toArray = ls at hl ⊢
  have hl : lv_has ls 5 [(0, .ref (q 0)), (1, .int (x)), (2, .int (y9)), (3, .int (ix))] := hl
  refine lv_iload_n hx hb dX4_foundAt_0 rfl (lv_at hl 1 rfl) ?_
  refine lv_iload_n hx hb dX4_foundAt_1 rfl (lv_at hl 2 rfl) ?_
  refine roS1 (v := .int (b2i (iqm (x) (y9)))) (As := [.int (x), .int (y9)]) (rest := []) (n := 2) ⟨hx, hb, hml, hown, htA⟩ (m_isQuery l D cI cZ sa (x) (y9) s.heap ) (va_cwS 2 htA (gdS wd_846 wd_847 wd_5 wd_848) rfl rfl rfl (by decide +kernel) ⟨Nat.le_of_ble_eq_true rfl, Nat.le_of_ble_eq_true rfl⟩) hKK rfl hl.1 rfl (Nat.le_of_ble_eq_true rfl) dX4_foundAt_2 (Nat.zero_le _) (Nat.zero_le _) ?_
  refine b_ifeq (b := iqm (x) (y9)) (tgt := 12) hx hb dX4_foundAt_5 (by decide) (fun c_1 => ?_) (fun c_1 => ?_)
  rotate_left
  · exact absurd (c_1.symm.trans hbad) (by decide)
  refine n_iconst (k := 1) hx hb dX4_foundAt_12 (by decide) ?_
  refine lv_istore (lv' := [(4, .int (nI (1))), (0, .ref (q 0)), (1, .int (x)), (2, .int (y9)), (3, .int (ix))]) hx hb dX4_foundAt_13 hl (by decide) rfl (fun ls hl => ?_)
  refine lv_aload_n hx hb dX4_foundAt_15 rfl (lv_at hl 1 rfl) ?_
  refine lv_iload hx hb dX4_foundAt_16 (lv_at hl 0 rfl) ?_
  refine b_ifne (b := true) (tgt := 41) hx hb dX4_foundAt_18 (by decide) (fun c_2 => ?_) (fun c_2 => ?_)
  rotate_left
  · exact absurd c_2 (by decide)
  refine lv_iload hx hb dX4_foundAt_41 (lv_at hl 0 rfl) ?_
  refine wrV1 (v := .int (b2i (false))) (As := [.int (nI (1))]) (rest := []) (n := 1) ⟨hx, hb, hml, hown, htA⟩ (m_unfine l D cI cZ sa q μ 1 A (D_addr hD rfl) (by decide) (by decide)) (cwV 1 htA (gdV wd_735 wd_737 wp_9 wd_5 wd_738) rfl rfl rfl (by decide +kernel) ⟨Nat.le_of_ble_eq_true rfl, Nat.le_of_ble_eq_true rfl⟩) hKK hP 0 rfl rfl rfl hl.1 rfl (Nat.le_of_ble_eq_true rfl) dX4_foundAt_43 (Nat.zero_le _) (Nat.zero_le _) hS (fun _ h => h) (fun H1 locs hP1 hz1 hk1 hS => ?_)
  have hP : va_P D vwCl (wM q cI cZ (sv μ 0 2 (1))) H1 := hP1
  generalize H1 = H at hP hS ⊢
  refine b_ifne (b := false) (tgt := 51) hx hb dX4_foundAt_46 (by decide) (fun c_3 => ?_) (fun c_3 => ?_)
  · exact absurd c_3 (by decide)
  refine n_iconst (k := 0) hx hb dX4_foundAt_49 (by decide) ?_
  exact wr_i hx hb hr hlocks (rfl) hP hS dX4_foundAt_50
set_option maxHeartbeats 4000000 in
set_option maxRecDepth 100000 in
theorem r_foundAt_ix (l : Launch) (D : va_G) (cI cZ : ClassId) (sa : Nat → Nat) (q : Nat → Nat) (μ : ST) (b0 k9 : Nat) (ix : Int32) (A : Nat → Prop) (hD : va_D A (wM q cI cZ μ)) (hB : ∀ k i, μ k i < 1073741824) (hm0 : μ 0 0 ≤ 60) (hb9 : b0 < 6) (hk9 : k9 ≤ 4) (hw : k9 ≤ 2 ^ 31) (hz : iw (ix) (nI (0)) (oi (cnt (fun m9 => ifd μ b0 k9 m9) (μ 0 0))) = false) : Met l yX4_foundAt (codeW yX4_foundAt cX4_foundAt 5 (some .int)) ({ frames := 3, cells := 0, slots := 0, locals := 68 } : Room) (WrP D cI cZ sa (wM q cI cZ μ) [.ref (q 0), .int (nI (b0)), .int (oi (k9)), .int (ix)]) (WrQ (some (.int (nI (0)))) D (wM q cI cZ (sv μ 0 2 2)) A) 0 0 A := by
  refine Met.ofW (cc := cX4_foundAt) (maxL := 5) (ret := (some .int)) (by decide) rfl ?_
  intro p e s m args below meth c s₁ B hml hv
  obtain ⟨rfl, hH, hKK⟩ := hv
  have hx := B.exec
  have hb := B.bytes
  have hr := B.returns
  have htA : ∀ w ∈ WA, w.before _ s = true := fun w h => atoms_spec (ws := (codeW yX4_foundAt cX4_foundAt 5 (some .int))) B.pre w (List.mem_cons_of_mem _ h)
  have hown : s.vm.findClass RX4 = some m.cls := findClass_of_methodNamed B.named
  have hlocks := B.notSynchronized
  have hP := hH
  have hS : va_S A s.heap s.heap [] := va_S.rf
  have hl := lv_entry ([.ref (q 0), .int (nI (b0)), .int (oi (k9)), .int (ix)]) (n := 5) (Nat.le_of_ble_eq_true rfl)
  rw [lg_entry_eq]
  generalize (lg_sl ([.ref (q 0), .int (nI (b0)), .int (oi (k9)), .int (ix)]) ++ List.replicate (5 - (lg_sl ([.ref (q 0), .int (nI (b0)), .int (oi (k9)), .int (ix)])).length) Slot.unset).toArray = ls at hl ⊢
  have hl : lv_has ls 5 [(0, .ref (q 0)), (1, .int (nI (b0))), (2, .int (oi (k9))), (3, .int (ix))] := hl
  refine lv_iload_n hx hb dX4_foundAt_0 rfl (lv_at hl 1 rfl) ?_
  refine lv_iload_n hx hb dX4_foundAt_1 rfl (lv_at hl 2 rfl) ?_
  refine roS1 (v := .int (b2i (iqm (nI (b0)) (oi (k9))))) (As := [.int (nI (b0)), .int (oi (k9))]) (rest := []) (n := 2) ⟨hx, hb, hml, hown, htA⟩ (m_isQuery l D cI cZ sa (nI (b0)) (oi (k9)) s.heap ) (va_cwS 2 htA (gdS wd_846 wd_847 wd_5 wd_848) rfl rfl rfl (by decide +kernel) ⟨Nat.le_of_ble_eq_true rfl, Nat.le_of_ble_eq_true rfl⟩) hKK rfl hl.1 rfl (Nat.le_of_ble_eq_true rfl) dX4_foundAt_2 (Nat.zero_le _) (Nat.zero_le _) ?_
  refine b_ifeq (b := iqm (nI (b0)) (oi (k9))) (tgt := 12) hx hb dX4_foundAt_5 (by decide) (fun c_1 => ?_) (fun c_1 => ?_)
  · exact absurd (c_1.symm.trans (iqm_k hb9 hk9)) (by decide)
  refine n_iconst (k := 0) hx hb dX4_foundAt_8 (by decide) ?_
  refine lv_goto (tgt := 13) hx hb dX4_foundAt_9 (by decide) ?_
  refine lv_istore (lv' := [(4, .int (nI (0))), (0, .ref (q 0)), (1, .int (nI (b0))), (2, .int (oi (k9))), (3, .int (ix))]) hx hb dX4_foundAt_13 hl (by decide) rfl (fun ls hl => ?_)
  refine lv_aload_n hx hb dX4_foundAt_15 rfl (lv_at hl 1 rfl) ?_
  refine lv_iload hx hb dX4_foundAt_16 (lv_at hl 0 rfl) ?_
  refine b_ifne (b := false) (tgt := 41) hx hb dX4_foundAt_18 (by decide) (fun c_2 => ?_) (fun c_2 => ?_)
  · exact absurd c_2 (by decide)
  refine lv_iload_n hx hb dX4_foundAt_21 rfl (lv_at hl 4 rfl) ?_
  refine n_iconst (k := 0) hx hb dX4_foundAt_22 (by decide) ?_
  refine lv_aload_n hx hb dX4_foundAt_23 rfl (lv_at hl 1 rfl) ?_
  refine lv_iload_n hx hb dX4_foundAt_24 rfl (lv_at hl 2 rfl) ?_
  refine lv_iload_n hx hb dX4_foundAt_25 rfl (lv_at hl 3 rfl) ?_
  refine roV1 (v := .int (nI (cnt (fun m9 => ifd μ b0 k9 m9) (μ 0 0)))) (As := [.int (nI (b0)), .int (oi (k9))]) (rest := [.int (nI (0)), .int (ix), .ref (q 0)]) (n := 2) ⟨hx, hb, hml, hown, htA⟩ (m_count l D cI cZ sa q μ b0 k9 s.heap hP hB hm0 hw) (cwV 2 htA (gdV wd_790 wd_792 wp_13 wd_5 wd_793) rfl rfl rfl (by decide +kernel) ⟨Nat.le_of_ble_eq_true rfl, Nat.le_of_ble_eq_true rfl⟩) hKK hP 0 rfl rfl rfl hl.1 rfl (Nat.le_of_ble_eq_true rfl) dX4_foundAt_26 (Nat.zero_le _) (Nat.zero_le _) ?_
  refine n_iconst (k := 1) hx hb dX4_foundAt_29 (by decide) ?_
  refine n_ipred hx hb dX4_foundAt_30 ?_
  refine roS1 (v := .int (b2i (iw (ix) (nI (0)) (oi (cnt (fun m9 => ifd μ b0 k9 m9) (μ 0 0)))))) (As := [.int (ix), .int (nI (0)), .int (oi (cnt (fun m9 => ifd μ b0 k9 m9) (μ 0 0)))]) (rest := [.ref (q 0)]) (n := 3) ⟨hx, hb, hml, hown, htA⟩ (m_in l D cI cZ sa (ix) (nI (0)) (oi (cnt (fun m9 => ifd μ b0 k9 m9) (μ 0 0))) s.heap ) (va_cwS 3 htA (gdS wd_732 wd_733 wd_5 wd_734) rfl rfl rfl (by decide +kernel) ⟨Nat.le_of_ble_eq_true rfl, Nat.le_of_ble_eq_true rfl⟩) hKK rfl hl.1 rfl (Nat.le_of_ble_eq_true rfl) dX4_foundAt_31 (Nat.zero_le _) (Nat.zero_le _) ?_
  refine b_ifne (b := iw (ix) (nI (0)) (oi (cnt (fun m9 => ifd μ b0 k9 m9) (μ 0 0)))) (tgt := 41) hx hb dX4_foundAt_34 (by decide) (fun c_3 => ?_) (fun c_3 => ?_)
  · exact absurd (c_3.symm.trans hz) (by decide)
  refine n_iconst (k := 2) hx hb dX4_foundAt_37 (by decide) ?_
  refine lv_goto (tgt := 43) hx hb dX4_foundAt_38 (by decide) ?_
  refine wrV1 (v := .int (b2i (false))) (As := [.int (nI (2))]) (rest := []) (n := 1) ⟨hx, hb, hml, hown, htA⟩ (m_unfine l D cI cZ sa q μ 2 A (D_addr hD rfl) (by decide) (by decide)) (cwV 1 htA (gdV wd_735 wd_737 wp_9 wd_5 wd_738) rfl rfl rfl (by decide +kernel) ⟨Nat.le_of_ble_eq_true rfl, Nat.le_of_ble_eq_true rfl⟩) hKK hP 0 rfl rfl rfl hl.1 rfl (Nat.le_of_ble_eq_true rfl) dX4_foundAt_43 (Nat.zero_le _) (Nat.zero_le _) hS (fun _ h => h) (fun H1 locs hP1 hz1 hk1 hS => ?_)
  have hP : va_P D vwCl (wM q cI cZ (sv μ 0 2 (2))) H1 := hP1
  generalize H1 = H at hP hS ⊢
  refine b_ifne (b := false) (tgt := 51) hx hb dX4_foundAt_46 (by decide) (fun c_4 => ?_) (fun c_4 => ?_)
  · exact absurd c_4 (by decide)
  refine n_iconst (k := 0) hx hb dX4_foundAt_49 (by decide) ?_
  exact wr_i hx hb hr hlocks (rfl) hP hS dX4_foundAt_50
set_option maxHeartbeats 4000000 in
set_option maxRecDepth 100000 in
theorem r_foundAt_ok (l : Launch) (D : va_G) (cI cZ : ClassId) (sa : Nat → Nat) (q : Nat → Nat) (μ : ST) (b0 k9 ix : Nat) (A : Nat → Prop) (hD : va_D A (wM q cI cZ μ)) (hB : ∀ k i, μ k i < 1073741824) (hm0 : μ 0 0 ≤ 60) (hb9 : b0 < 6) (hk9 : k9 ≤ 4) (hw : k9 ≤ 2 ^ 31) (hix : ix < cnt (fun m9 => ifd μ b0 k9 m9) (μ 0 0)) : Met l yX4_foundAt (codeW yX4_foundAt cX4_foundAt 5 (some .int)) ({ frames := 3, cells := 0, slots := 0, locals := 71 } : Room) (WrP D cI cZ sa (wM q cI cZ μ) [.ref (q 0), .int (nI (b0)), .int (oi (k9)), .int (nI (ix))]) (WrQ (some (.int (oi (fo μ b0 k9 ix (μ 0 0) 0)))) D (wM q cI cZ (sv μ 0 2 0)) A) 0 0 A := by
  refine Met.ofW (cc := cX4_foundAt) (maxL := 5) (ret := (some .int)) (by decide) rfl ?_
  intro p e s m args below meth c s₁ B hml hv
  obtain ⟨rfl, hH, hKK⟩ := hv
  have hx := B.exec
  have hb := B.bytes
  have hr := B.returns
  have htA : ∀ w ∈ WA, w.before _ s = true := fun w h => atoms_spec (ws := (codeW yX4_foundAt cX4_foundAt 5 (some .int))) B.pre w (List.mem_cons_of_mem _ h)
  have hown : s.vm.findClass RX4 = some m.cls := findClass_of_methodNamed B.named
  have hlocks := B.notSynchronized
  have hP := hH
  have hS : va_S A s.heap s.heap [] := va_S.rf
  have hl := lv_entry ([.ref (q 0), .int (nI (b0)), .int (oi (k9)), .int (nI (ix))]) (n := 5) (Nat.le_of_ble_eq_true rfl)
  rw [lg_entry_eq]
  generalize (lg_sl ([.ref (q 0), .int (nI (b0)), .int (oi (k9)), .int (nI (ix))]) ++ List.replicate (5 - (lg_sl ([.ref (q 0), .int (nI (b0)), .int (oi (k9)), .int (nI (ix))])).length) Slot.unset).toArray = ls at hl ⊢
  have hl : lv_has ls 5 [(0, .ref (q 0)), (1, .int (nI (b0))), (2, .int (oi (k9))), (3, .int (nI (ix)))] := hl
  refine lv_iload_n hx hb dX4_foundAt_0 rfl (lv_at hl 1 rfl) ?_
  refine lv_iload_n hx hb dX4_foundAt_1 rfl (lv_at hl 2 rfl) ?_
  refine roS1 (v := .int (b2i (iqm (nI (b0)) (oi (k9))))) (As := [.int (nI (b0)), .int (oi (k9))]) (rest := []) (n := 2) ⟨hx, hb, hml, hown, htA⟩ (m_isQuery l D cI cZ sa (nI (b0)) (oi (k9)) s.heap ) (va_cwS 2 htA (gdS wd_846 wd_847 wd_5 wd_848) rfl rfl rfl (by decide +kernel) ⟨Nat.le_of_ble_eq_true rfl, Nat.le_of_ble_eq_true rfl⟩) hKK rfl hl.1 rfl (Nat.le_of_ble_eq_true rfl) dX4_foundAt_2 (Nat.zero_le _) (Nat.zero_le _) ?_
  refine b_ifeq (b := iqm (nI (b0)) (oi (k9))) (tgt := 12) hx hb dX4_foundAt_5 (by decide) (fun c_1 => ?_) (fun c_1 => ?_)
  · exact absurd (c_1.symm.trans (iqm_k hb9 hk9)) (by decide)
  refine n_iconst (k := 0) hx hb dX4_foundAt_8 (by decide) ?_
  refine lv_goto (tgt := 13) hx hb dX4_foundAt_9 (by decide) ?_
  refine lv_istore (lv' := [(4, .int (nI (0))), (0, .ref (q 0)), (1, .int (nI (b0))), (2, .int (oi (k9))), (3, .int (nI (ix)))]) hx hb dX4_foundAt_13 hl (by decide) rfl (fun ls hl => ?_)
  refine lv_aload_n hx hb dX4_foundAt_15 rfl (lv_at hl 1 rfl) ?_
  refine lv_iload hx hb dX4_foundAt_16 (lv_at hl 0 rfl) ?_
  refine b_ifne (b := false) (tgt := 41) hx hb dX4_foundAt_18 (by decide) (fun c_2 => ?_) (fun c_2 => ?_)
  · exact absurd c_2 (by decide)
  refine lv_iload_n hx hb dX4_foundAt_21 rfl (lv_at hl 4 rfl) ?_
  refine n_iconst (k := 0) hx hb dX4_foundAt_22 (by decide) ?_
  refine lv_aload_n hx hb dX4_foundAt_23 rfl (lv_at hl 1 rfl) ?_
  refine lv_iload_n hx hb dX4_foundAt_24 rfl (lv_at hl 2 rfl) ?_
  refine lv_iload_n hx hb dX4_foundAt_25 rfl (lv_at hl 3 rfl) ?_
  refine roV1 (v := .int (nI (cnt (fun m9 => ifd μ b0 k9 m9) (μ 0 0)))) (As := [.int (nI (b0)), .int (oi (k9))]) (rest := [.int (nI (0)), .int (nI (ix)), .ref (q 0)]) (n := 2) ⟨hx, hb, hml, hown, htA⟩ (m_count l D cI cZ sa q μ b0 k9 s.heap hP hB hm0 hw) (cwV 2 htA (gdV wd_790 wd_792 wp_13 wd_5 wd_793) rfl rfl rfl (by decide +kernel) ⟨Nat.le_of_ble_eq_true rfl, Nat.le_of_ble_eq_true rfl⟩) hKK hP 0 rfl rfl rfl hl.1 rfl (Nat.le_of_ble_eq_true rfl) dX4_foundAt_26 (Nat.zero_le _) (Nat.zero_le _) ?_
  refine n_iconst (k := 1) hx hb dX4_foundAt_29 (by decide) ?_
  refine n_ipred hx hb dX4_foundAt_30 ?_
  refine roS1 (v := .int (b2i (iw (nI (ix)) (nI (0)) (oi (cnt (fun m9 => ifd μ b0 k9 m9) (μ 0 0)))))) (As := [.int (nI (ix)), .int (nI (0)), .int (oi (cnt (fun m9 => ifd μ b0 k9 m9) (μ 0 0)))]) (rest := [.ref (q 0)]) (n := 3) ⟨hx, hb, hml, hown, htA⟩ (m_in l D cI cZ sa (nI (ix)) (nI (0)) (oi (cnt (fun m9 => ifd μ b0 k9 m9) (μ 0 0))) s.heap ) (va_cwS 3 htA (gdS wd_732 wd_733 wd_5 wd_734) rfl rfl rfl (by decide +kernel) ⟨Nat.le_of_ble_eq_true rfl, Nat.le_of_ble_eq_true rfl⟩) hKK rfl hl.1 rfl (Nat.le_of_ble_eq_true rfl) dX4_foundAt_31 (Nat.zero_le _) (Nat.zero_le _) ?_
  refine b_ifne (b := iw (nI (ix)) (nI (0)) (oi (cnt (fun m9 => ifd μ b0 k9 m9) (μ 0 0)))) (tgt := 41) hx hb dX4_foundAt_34 (by decide) (fun c_3 => ?_) (fun c_3 => ?_)
  rotate_left
  · exact absurd (c_3.symm.trans (iw_k hix (Nat.le_trans (cnt_le _ _) (by omega)))) (by decide)
  refine lv_iload hx hb dX4_foundAt_41 (lv_at hl 0 rfl) ?_
  refine wrV1 (v := .int (b2i (true))) (As := [.int (nI (0))]) (rest := []) (n := 1) ⟨hx, hb, hml, hown, htA⟩ (m_fine l D cI cZ sa q μ A (D_addr hD rfl) ) (cwV 1 htA (gdV wd_735 wd_737 wp_9 wd_5 wd_738) rfl rfl rfl (by decide +kernel) ⟨Nat.le_of_ble_eq_true rfl, Nat.le_of_ble_eq_true rfl⟩) hKK hP 0 rfl rfl rfl hl.1 rfl (Nat.le_of_ble_eq_true rfl) dX4_foundAt_43 (Nat.zero_le _) (Nat.zero_le _) hS (fun _ h => h) (fun H1 locs hP1 hz1 hk1 hS => ?_)
  have hP : va_P D vwCl (wM q cI cZ (sv μ 0 2 (0))) H1 := hP1
  generalize H1 = H at hP hS ⊢
  refine b_ifne (b := true) (tgt := 51) hx hb dX4_foundAt_46 (by decide) (fun c_4 => ?_) (fun c_4 => ?_)
  rotate_left
  · exact absurd c_4 (by decide)
  refine lv_aload_n hx hb dX4_foundAt_51 rfl (lv_at hl 1 rfl) ?_
  refine lv_iload_n hx hb dX4_foundAt_52 rfl (lv_at hl 2 rfl) ?_
  refine lv_iload_n hx hb dX4_foundAt_53 rfl (lv_at hl 3 rfl) ?_
  refine lv_iload_n hx hb dX4_foundAt_54 rfl (lv_at hl 4 rfl) ?_
  refine roV1 (v := .int (oi (fo (sv μ 0 2 (0)) b0 k9 ix (μ 0 0) 0))) (As := [.int (nI (b0)), .int (oi (k9)), .int (nI (ix))]) (rest := []) (n := 3) ⟨hx, hb, hml, hown, htA⟩ (m_foundOne l D cI cZ sa q (sv μ 0 2 (0)) b0 k9 ix H hP (sv_lt hB (by decide)) hm0 hw (by have := cnt_le (fun m9 => ifd μ b0 k9 m9) (μ 0 0); omega)) (cwV 3 htA (gdV wd_853 wd_855 wp_22 wd_5 wd_856) rfl rfl rfl (by decide +kernel) ⟨Nat.le_of_ble_eq_true rfl, Nat.le_of_ble_eq_true rfl⟩) hKK hP 0 rfl rfl rfl hl.1 rfl (Nat.le_of_ble_eq_true rfl) dX4_foundAt_55 (Nat.zero_le _) (Nat.zero_le _) ?_
  exact wr_i hx hb hr hlocks (congrArg oi (fo_th _ _)) hP hS dX4_foundAt_58
set_option maxHeartbeats 4000000 in
set_option maxRecDepth 100000 in
theorem r_removed_bad (l : Launch) (D : va_G) (cI cZ : ClassId) (sa : Nat → Nat) (q : Nat → Nat) (μ : ST) (x y9 z : Int32) (A : Nat → Prop) (hD : va_D A (wM q cI cZ μ)) (hbad : (iw (x) (nI (0)) (nI (μ 0 1)) && iqm (y9) (z)) = false) : Met l yX4_removed (codeW yX4_removed cX4_removed 6 (some .int)) ({ frames := 2, cells := 0, slots := 0, locals := 43 } : Room) (WrP D cI cZ sa (wM q cI cZ μ) [.ref (q 0), .int (x), .int (y9), .int (z)]) (WrQ (some (.int (nI (0)))) D (wM q cI cZ (sv μ 0 2 1)) A) 0 0 A := by
  refine Met.ofW (cc := cX4_removed) (maxL := 6) (ret := (some .int)) (by decide) rfl ?_
  intro p e s m args below meth c s₁ B hml hv
  obtain ⟨rfl, hH, hKK⟩ := hv
  have hx := B.exec
  have hb := B.bytes
  have hr := B.returns
  have htA : ∀ w ∈ WA, w.before _ s = true := fun w h => atoms_spec (ws := (codeW yX4_removed cX4_removed 6 (some .int))) B.pre w (List.mem_cons_of_mem _ h)
  have hown : s.vm.findClass RX4 = some m.cls := findClass_of_methodNamed B.named
  have hlocks := B.notSynchronized
  have hP := hH
  have hS : va_S A s.heap s.heap [] := va_S.rf
  have hl := lv_entry ([.ref (q 0), .int (x), .int (y9), .int (z)]) (n := 6) (Nat.le_of_ble_eq_true rfl)
  rw [lg_entry_eq]
  generalize (lg_sl ([.ref (q 0), .int (x), .int (y9), .int (z)]) ++ List.replicate (6 - (lg_sl ([.ref (q 0), .int (x), .int (y9), .int (z)])).length) Slot.unset).toArray = ls at hl ⊢
  have hl : lv_has ls 6 [(0, .ref (q 0)), (1, .int (x)), (2, .int (y9)), (3, .int (z))] := hl
  refine n_iconst (k := 0) hx hb dX4_removed_0 (by decide) ?_
  refine lv_istore (lv' := [(4, .int (nI (0))), (0, .ref (q 0)), (1, .int (x)), (2, .int (y9)), (3, .int (z))]) hx hb dX4_removed_1 hl (by decide) rfl (fun ls hl => ?_)
  refine lv_aload_n hx hb dX4_removed_3 rfl (lv_at hl 1 rfl) ?_
  refine lv_aload_n hx hb dX4_removed_4 rfl (lv_at hl 1 rfl) ?_
  refine lv_iload_n hx hb dX4_removed_5 rfl (lv_at hl 2 rfl) ?_
  refine roV1 (v := .int (b2i (iw (x) (nI (0)) (nI (μ 0 1))))) (As := [.int (x)]) (rest := [.ref (q 0)]) (n := 1) ⟨hx, hb, hml, hown, htA⟩ (m_isState l D cI cZ sa q μ (x) s.heap hP ) (cwV 1 htA (gdV wd_802 wd_804 wp_15 wd_5 wd_805) rfl rfl rfl (by decide +kernel) ⟨Nat.le_of_ble_eq_true rfl, Nat.le_of_ble_eq_true rfl⟩) hKK hP 0 rfl rfl rfl hl.1 rfl (Nat.le_of_ble_eq_true rfl) dX4_removed_6 (Nat.zero_le _) (Nat.zero_le _) ?_
  refine b_ifeq (b := iw (x) (nI (0)) (nI (μ 0 1))) (tgt := 20) hx hb dX4_removed_9 (by decide) (fun c_1 => ?_) (fun c_1 => ?_)
  · refine n_iconst (k := 1) hx hb dX4_removed_20 (by decide) ?_
    refine lv_goto (tgt := 37) hx hb dX4_removed_21 (by decide) ?_
    refine wrV1 (v := .int (b2i (false))) (As := [.int (nI (1))]) (rest := []) (n := 1) ⟨hx, hb, hml, hown, htA⟩ (m_unfine l D cI cZ sa q μ 1 A (D_addr hD rfl) (by decide) (by decide)) (cwV 1 htA (gdV wd_735 wd_737 wp_9 wd_5 wd_738) rfl rfl rfl (by decide +kernel) ⟨Nat.le_of_ble_eq_true rfl, Nat.le_of_ble_eq_true rfl⟩) hKK hP 0 rfl rfl rfl hl.1 rfl (Nat.le_of_ble_eq_true rfl) dX4_removed_37 (Nat.zero_le _) (Nat.zero_le _) hS (fun _ h => h) (fun H1 locs hP1 hz1 hk1 hS => ?_)
    have hP : va_P D vwCl (wM q cI cZ (sv μ 0 2 (1))) H1 := hP1
    generalize H1 = H at hP hS ⊢
    refine b_ifeq (b := false) (tgt := 94) hx hb dX4_removed_40 (by decide) (fun c_2 => ?_) (fun c_2 => ?_)
    rotate_left
    · exact absurd c_2 (by decide)
    refine lv_iload hx hb dX4_removed_94 (lv_at hl 0 rfl) ?_
    exact wr_i hx hb hr hlocks (rfl) hP hS dX4_removed_96
  · refine lv_iload_n hx hb dX4_removed_12 rfl (lv_at hl 3 rfl) ?_
    refine lv_iload_n hx hb dX4_removed_13 rfl (lv_at hl 4 rfl) ?_
    refine roS1 (v := .int (b2i (iqm (y9) (z)))) (As := [.int (y9), .int (z)]) (rest := [.ref (q 0)]) (n := 2) ⟨hx, hb, hml, hown, htA⟩ (m_isQuery l D cI cZ sa (y9) (z) s.heap ) (va_cwS 2 htA (gdS wd_846 wd_847 wd_5 wd_848) rfl rfl rfl (by decide +kernel) ⟨Nat.le_of_ble_eq_true rfl, Nat.le_of_ble_eq_true rfl⟩) hKK rfl hl.1 rfl (Nat.le_of_ble_eq_true rfl) dX4_removed_14 (Nat.zero_le _) (Nat.zero_le _) ?_
    refine b_ifne (b := iqm (y9) (z)) (tgt := 24) hx hb dX4_removed_17 (by decide) (fun c_3 => ?_) (fun c_3 => ?_)
    · exact absurd hbad (by rw [c_1, c_3]; decide)
    refine n_iconst (k := 1) hx hb dX4_removed_20 (by decide) ?_
    refine lv_goto (tgt := 37) hx hb dX4_removed_21 (by decide) ?_
    refine wrV1 (v := .int (b2i (false))) (As := [.int (nI (1))]) (rest := []) (n := 1) ⟨hx, hb, hml, hown, htA⟩ (m_unfine l D cI cZ sa q μ 1 A (D_addr hD rfl) (by decide) (by decide)) (cwV 1 htA (gdV wd_735 wd_737 wp_9 wd_5 wd_738) rfl rfl rfl (by decide +kernel) ⟨Nat.le_of_ble_eq_true rfl, Nat.le_of_ble_eq_true rfl⟩) hKK hP 0 rfl rfl rfl hl.1 rfl (Nat.le_of_ble_eq_true rfl) dX4_removed_37 (Nat.zero_le _) (Nat.zero_le _) hS (fun _ h => h) (fun H1 locs hP1 hz1 hk1 hS => ?_)
    have hP : va_P D vwCl (wM q cI cZ (sv μ 0 2 (1))) H1 := hP1
    generalize H1 = H at hP hS ⊢
    refine b_ifeq (b := false) (tgt := 94) hx hb dX4_removed_40 (by decide) (fun c_4 => ?_) (fun c_4 => ?_)
    rotate_left
    · exact absurd c_4 (by decide)
    refine lv_iload hx hb dX4_removed_94 (lv_at hl 0 rfl) ?_
    exact wr_i hx hb hr hlocks (rfl) hP hS dX4_removed_96
set_option maxHeartbeats 4000000 in
set_option maxRecDepth 100000 in
theorem r_removed_no (l : Launch) (D : va_G) (cI cZ : ClassId) (sa : Nat → Nat) (q : Nat → Nat) (μ : ST) (t b0 k9 : Nat) (A : Nat → Prop) (hD : va_D A (wM q cI cZ μ)) (hB : ∀ k i, μ k i < 1073741824) (hm0 : μ 0 0 ≤ 60) (ht : t ≤ μ 0 1) (hb9 : b0 < 6) (hk9 : k9 ≤ 4) (hw : k9 ≤ 2 ^ 31) (hv9 : decide (μ 0 1 - t ≤ 40) = false) : Met l yX4_removed (codeW yX4_removed cX4_removed 6 (some .int)) ({ frames := 2, cells := 0, slots := 0, locals := 43 } : Room) (WrP D cI cZ sa (wM q cI cZ μ) [.ref (q 0), .int (nI (t)), .int (nI (b0)), .int (oi (k9))]) (WrQ (some (.int (nI (0)))) D (wM q cI cZ (sv μ 0 2 2)) A) 0 0 A := by
  refine Met.ofW (cc := cX4_removed) (maxL := 6) (ret := (some .int)) (by decide) rfl ?_
  intro p e s m args below meth c s₁ B hml hv
  obtain ⟨rfl, hH, hKK⟩ := hv
  have hx := B.exec
  have hb := B.bytes
  have hr := B.returns
  have htA : ∀ w ∈ WA, w.before _ s = true := fun w h => atoms_spec (ws := (codeW yX4_removed cX4_removed 6 (some .int))) B.pre w (List.mem_cons_of_mem _ h)
  have hown : s.vm.findClass RX4 = some m.cls := findClass_of_methodNamed B.named
  have hlocks := B.notSynchronized
  have hP := hH
  have hS : va_S A s.heap s.heap [] := va_S.rf
  have hl := lv_entry ([.ref (q 0), .int (nI (t)), .int (nI (b0)), .int (oi (k9))]) (n := 6) (Nat.le_of_ble_eq_true rfl)
  rw [lg_entry_eq]
  generalize (lg_sl ([.ref (q 0), .int (nI (t)), .int (nI (b0)), .int (oi (k9))]) ++ List.replicate (6 - (lg_sl ([.ref (q 0), .int (nI (t)), .int (nI (b0)), .int (oi (k9))])).length) Slot.unset).toArray = ls at hl ⊢
  have hl : lv_has ls 6 [(0, .ref (q 0)), (1, .int (nI (t))), (2, .int (nI (b0))), (3, .int (oi (k9)))] := hl
  refine n_iconst (k := 0) hx hb dX4_removed_0 (by decide) ?_
  refine lv_istore (lv' := [(4, .int (nI (0))), (0, .ref (q 0)), (1, .int (nI (t))), (2, .int (nI (b0))), (3, .int (oi (k9)))]) hx hb dX4_removed_1 hl (by decide) rfl (fun ls hl => ?_)
  refine lv_aload_n hx hb dX4_removed_3 rfl (lv_at hl 1 rfl) ?_
  refine lv_aload_n hx hb dX4_removed_4 rfl (lv_at hl 1 rfl) ?_
  refine lv_iload_n hx hb dX4_removed_5 rfl (lv_at hl 2 rfl) ?_
  refine roV1 (v := .int (b2i (iw (nI (t)) (nI (0)) (nI (μ 0 1))))) (As := [.int (nI (t))]) (rest := [.ref (q 0)]) (n := 1) ⟨hx, hb, hml, hown, htA⟩ (m_isState l D cI cZ sa q μ (nI (t)) s.heap hP ) (cwV 1 htA (gdV wd_802 wd_804 wp_15 wd_5 wd_805) rfl rfl rfl (by decide +kernel) ⟨Nat.le_of_ble_eq_true rfl, Nat.le_of_ble_eq_true rfl⟩) hKK hP 0 rfl rfl rfl hl.1 rfl (Nat.le_of_ble_eq_true rfl) dX4_removed_6 (Nat.zero_le _) (Nat.zero_le _) ?_
  refine b_ifeq (b := iw (nI (t)) (nI (0)) (nI (μ 0 1))) (tgt := 20) hx hb dX4_removed_9 (by decide) (fun c_1 => ?_) (fun c_1 => ?_)
  · exact absurd (c_1.symm.trans (iw_n (Nat.zero_le _) ht (Nat.lt_trans (hB 0 1) (by decide)))) (by decide)
  refine lv_iload_n hx hb dX4_removed_12 rfl (lv_at hl 3 rfl) ?_
  refine lv_iload_n hx hb dX4_removed_13 rfl (lv_at hl 4 rfl) ?_
  refine roS1 (v := .int (b2i (iqm (nI (b0)) (oi (k9))))) (As := [.int (nI (b0)), .int (oi (k9))]) (rest := [.ref (q 0)]) (n := 2) ⟨hx, hb, hml, hown, htA⟩ (m_isQuery l D cI cZ sa (nI (b0)) (oi (k9)) s.heap ) (va_cwS 2 htA (gdS wd_846 wd_847 wd_5 wd_848) rfl rfl rfl (by decide +kernel) ⟨Nat.le_of_ble_eq_true rfl, Nat.le_of_ble_eq_true rfl⟩) hKK rfl hl.1 rfl (Nat.le_of_ble_eq_true rfl) dX4_removed_14 (Nat.zero_le _) (Nat.zero_le _) ?_
  refine b_ifne (b := iqm (nI (b0)) (oi (k9))) (tgt := 24) hx hb dX4_removed_17 (by decide) (fun c_2 => ?_) (fun c_2 => ?_)
  rotate_left
  · exact absurd (c_2.symm.trans (iqm_k hb9 hk9)) (by decide)
  refine lv_aload_n hx hb dX4_removed_24 rfl (lv_at hl 1 rfl) ?_
  refine lv_iload_n hx hb dX4_removed_25 rfl (lv_at hl 2 rfl) ?_
  refine roV1 (v := .int (b2i (decide (μ 0 1 - t ≤ 40)))) (As := [.int (nI (t))]) (rest := [.ref (q 0)]) (n := 1) ⟨hx, hb, hml, hown, htA⟩ (m_tells l D cI cZ sa q μ t s.heap hP hB hm0 ht) (cwV 1 htA (gdV wd_806 wd_808 wp_16 wd_5 wd_809) rfl rfl rfl (by decide +kernel) ⟨Nat.le_of_ble_eq_true rfl, Nat.le_of_ble_eq_true rfl⟩) hKK hP 0 rfl rfl rfl hl.1 rfl (Nat.le_of_ble_eq_true rfl) dX4_removed_26 (Nat.zero_le _) (Nat.zero_le _) ?_
  refine b_ifne (b := decide (μ 0 1 - t ≤ 40)) (tgt := 36) hx hb dX4_removed_29 (by decide) (fun c_3 => ?_) (fun c_3 => ?_)
  · exact absurd (c_3.symm.trans hv9) (by decide)
  refine n_iconst (k := 2) hx hb dX4_removed_32 (by decide) ?_
  refine lv_goto (tgt := 37) hx hb dX4_removed_33 (by decide) ?_
  refine wrV1 (v := .int (b2i (false))) (As := [.int (nI (2))]) (rest := []) (n := 1) ⟨hx, hb, hml, hown, htA⟩ (m_unfine l D cI cZ sa q μ 2 A (D_addr hD rfl) (by decide) (by decide)) (cwV 1 htA (gdV wd_735 wd_737 wp_9 wd_5 wd_738) rfl rfl rfl (by decide +kernel) ⟨Nat.le_of_ble_eq_true rfl, Nat.le_of_ble_eq_true rfl⟩) hKK hP 0 rfl rfl rfl hl.1 rfl (Nat.le_of_ble_eq_true rfl) dX4_removed_37 (Nat.zero_le _) (Nat.zero_le _) hS (fun _ h => h) (fun H1 locs hP1 hz1 hk1 hS => ?_)
  have hP : va_P D vwCl (wM q cI cZ (sv μ 0 2 (2))) H1 := hP1
  generalize H1 = H at hP hS ⊢
  refine b_ifeq (b := false) (tgt := 94) hx hb dX4_removed_40 (by decide) (fun c_4 => ?_) (fun c_4 => ?_)
  rotate_left
  · exact absurd c_4 (by decide)
  refine lv_iload hx hb dX4_removed_94 (lv_at hl 0 rfl) ?_
  exact wr_i hx hb hr hlocks (rfl) hP hS dX4_removed_96
set_option maxHeartbeats 4000000 in
set_option maxRecDepth 100000 in
theorem r_removed_ok (l : Launch) (D : va_G) (cI cZ : ClassId) (sa : Nat → Nat) (q : Nat → Nat) (μ : ST) (t b0 k9 : Nat) (A : Nat → Prop) (hD : va_D A (wM q cI cZ μ)) (hB : ∀ k i, μ k i < 1073741824) (hm0 : μ 0 0 ≤ 60) (ht : t ≤ μ 0 1) (hb9 : b0 < 6) (hk9 : k9 ≤ 4) (hw : k9 ≤ 2 ^ 31) (hst9 : μ 0 1 ≤ 2048) (hv9 : decide (μ 0 1 - t ≤ 40) = true) : Met l yX4_removed (codeW yX4_removed cX4_removed 6 (some .int)) ({ frames := 2, cells := 0, slots := 0, locals := 49 } : Room) (WrP D cI cZ sa (wM q cI cZ μ) [.ref (q 0), .int (nI (t)), .int (nI (b0)), .int (oi (k9))]) (WrQ (some (.int (nI (cnt (fun m9 => wfd μ t b0 k9 m9 && !ifd μ b0 k9 m9) (μ 0 0))))) D (wM q cI cZ (sv μ 0 2 0)) A) 0 0 A := by
  refine Met.ofW (cc := cX4_removed) (maxL := 6) (ret := (some .int)) (by decide) rfl ?_
  intro p e s m args below meth c s₁ B hml hv
  obtain ⟨rfl, hH, hKK⟩ := hv
  have hx := B.exec
  have hb := B.bytes
  have hr := B.returns
  have htA : ∀ w ∈ WA, w.before _ s = true := fun w h => atoms_spec (ws := (codeW yX4_removed cX4_removed 6 (some .int))) B.pre w (List.mem_cons_of_mem _ h)
  have hown : s.vm.findClass RX4 = some m.cls := findClass_of_methodNamed B.named
  have hlocks := B.notSynchronized
  have hP := hH
  have hS : va_S A s.heap s.heap [] := va_S.rf
  have hl := lv_entry ([.ref (q 0), .int (nI (t)), .int (nI (b0)), .int (oi (k9))]) (n := 6) (Nat.le_of_ble_eq_true rfl)
  rw [lg_entry_eq]
  generalize (lg_sl ([.ref (q 0), .int (nI (t)), .int (nI (b0)), .int (oi (k9))]) ++ List.replicate (6 - (lg_sl ([.ref (q 0), .int (nI (t)), .int (nI (b0)), .int (oi (k9))])).length) Slot.unset).toArray = ls at hl ⊢
  have hl : lv_has ls 6 [(0, .ref (q 0)), (1, .int (nI (t))), (2, .int (nI (b0))), (3, .int (oi (k9)))] := hl
  refine n_iconst (k := 0) hx hb dX4_removed_0 (by decide) ?_
  refine lv_istore (lv' := [(4, .int (nI (0))), (0, .ref (q 0)), (1, .int (nI (t))), (2, .int (nI (b0))), (3, .int (oi (k9)))]) hx hb dX4_removed_1 hl (by decide) rfl (fun ls hl => ?_)
  refine lv_aload_n hx hb dX4_removed_3 rfl (lv_at hl 1 rfl) ?_
  refine lv_aload_n hx hb dX4_removed_4 rfl (lv_at hl 1 rfl) ?_
  refine lv_iload_n hx hb dX4_removed_5 rfl (lv_at hl 2 rfl) ?_
  refine roV1 (v := .int (b2i (iw (nI (t)) (nI (0)) (nI (μ 0 1))))) (As := [.int (nI (t))]) (rest := [.ref (q 0)]) (n := 1) ⟨hx, hb, hml, hown, htA⟩ (m_isState l D cI cZ sa q μ (nI (t)) s.heap hP ) (cwV 1 htA (gdV wd_802 wd_804 wp_15 wd_5 wd_805) rfl rfl rfl (by decide +kernel) ⟨Nat.le_of_ble_eq_true rfl, Nat.le_of_ble_eq_true rfl⟩) hKK hP 0 rfl rfl rfl hl.1 rfl (Nat.le_of_ble_eq_true rfl) dX4_removed_6 (Nat.zero_le _) (Nat.zero_le _) ?_
  refine b_ifeq (b := iw (nI (t)) (nI (0)) (nI (μ 0 1))) (tgt := 20) hx hb dX4_removed_9 (by decide) (fun c_1 => ?_) (fun c_1 => ?_)
  · exact absurd (c_1.symm.trans (iw_n (Nat.zero_le _) ht (Nat.lt_trans (hB 0 1) (by decide)))) (by decide)
  refine lv_iload_n hx hb dX4_removed_12 rfl (lv_at hl 3 rfl) ?_
  refine lv_iload_n hx hb dX4_removed_13 rfl (lv_at hl 4 rfl) ?_
  refine roS1 (v := .int (b2i (iqm (nI (b0)) (oi (k9))))) (As := [.int (nI (b0)), .int (oi (k9))]) (rest := [.ref (q 0)]) (n := 2) ⟨hx, hb, hml, hown, htA⟩ (m_isQuery l D cI cZ sa (nI (b0)) (oi (k9)) s.heap ) (va_cwS 2 htA (gdS wd_846 wd_847 wd_5 wd_848) rfl rfl rfl (by decide +kernel) ⟨Nat.le_of_ble_eq_true rfl, Nat.le_of_ble_eq_true rfl⟩) hKK rfl hl.1 rfl (Nat.le_of_ble_eq_true rfl) dX4_removed_14 (Nat.zero_le _) (Nat.zero_le _) ?_
  refine b_ifne (b := iqm (nI (b0)) (oi (k9))) (tgt := 24) hx hb dX4_removed_17 (by decide) (fun c_2 => ?_) (fun c_2 => ?_)
  rotate_left
  · exact absurd (c_2.symm.trans (iqm_k hb9 hk9)) (by decide)
  refine lv_aload_n hx hb dX4_removed_24 rfl (lv_at hl 1 rfl) ?_
  refine lv_iload_n hx hb dX4_removed_25 rfl (lv_at hl 2 rfl) ?_
  refine roV1 (v := .int (b2i (decide (μ 0 1 - t ≤ 40)))) (As := [.int (nI (t))]) (rest := [.ref (q 0)]) (n := 1) ⟨hx, hb, hml, hown, htA⟩ (m_tells l D cI cZ sa q μ t s.heap hP hB hm0 ht) (cwV 1 htA (gdV wd_806 wd_808 wp_16 wd_5 wd_809) rfl rfl rfl (by decide +kernel) ⟨Nat.le_of_ble_eq_true rfl, Nat.le_of_ble_eq_true rfl⟩) hKK hP 0 rfl rfl rfl hl.1 rfl (Nat.le_of_ble_eq_true rfl) dX4_removed_26 (Nat.zero_le _) (Nat.zero_le _) ?_
  refine b_ifne (b := decide (μ 0 1 - t ≤ 40)) (tgt := 36) hx hb dX4_removed_29 (by decide) (fun c_3 => ?_) (fun c_3 => ?_)
  rotate_left
  · exact absurd (c_3.symm.trans hv9) (by decide)
  refine n_iconst (k := 0) hx hb dX4_removed_36 (by decide) ?_
  refine wrV1 (v := .int (b2i (true))) (As := [.int (nI (0))]) (rest := []) (n := 1) ⟨hx, hb, hml, hown, htA⟩ (m_fine l D cI cZ sa q μ A (D_addr hD rfl) ) (cwV 1 htA (gdV wd_735 wd_737 wp_9 wd_5 wd_738) rfl rfl rfl (by decide +kernel) ⟨Nat.le_of_ble_eq_true rfl, Nat.le_of_ble_eq_true rfl⟩) hKK hP 0 rfl rfl rfl hl.1 rfl (Nat.le_of_ble_eq_true rfl) dX4_removed_37 (Nat.zero_le _) (Nat.zero_le _) hS (fun _ h => h) (fun H1 locs hP1 hz1 hk1 hS => ?_)
  have hP : va_P D vwCl (wM q cI cZ (sv μ 0 2 (0))) H1 := hP1
  generalize H1 = H at hP hS ⊢
  refine b_ifeq (b := true) (tgt := 94) hx hb dX4_removed_40 (by decide) (fun c_4 => ?_) (fun c_4 => ?_)
  · exact absurd c_4 (by decide)
  refine n_iconst (k := 0) hx hb dX4_removed_43 (by decide) ?_
  refine lv_istore (lv' := [(5, .int (nI (0))), (4, .int (nI (0))), (0, .ref (q 0)), (1, .int (nI (t))), (2, .int (nI (b0))), (3, .int (oi (k9)))]) hx hb dX4_removed_44 hl (by decide) rfl (fun ls hl => ?_)
  have loop_46 : ∀ (n : Nat) (i : Nat) (H : Heap) (locs : List Loc), (i + n = μ 0 0) → va_P D vwCl (wM q cI cZ (sv μ 0 2 (0))) H → va_S A s.heap H locs → ∀ (ls : Array Slot), lv_has ls 6 [(0, .ref (q 0)), (1, .int (nI (t))), (2, .int (nI (b0))), (3, .int (oi (k9))), (4, .int (nI (cnt (fun m9 => wfd μ t b0 k9 m9 && !ifd μ b0 k9 m9) i))), (5, .int (nI (i)))] → W p l e (headSpec (codeW yX4_removed cX4_removed 6 (some .int)) ({ frames := 2, cells := 0, slots := 0, locals := 49 } : Room)).room s m ([.ref (q 0), .int (nI (t)), .int (nI (b0)), .int (oi (k9))] : List Value).toArray below meth c H locs 0 0 (MQ below (WrQ (some (.int (nI (cnt (fun m9 => wfd μ t b0 k9 m9 && !ifd μ b0 k9 m9) (μ 0 0))))) D (wM q cI cZ (sv μ 0 2 0)) A) ([.ref (q 0), .int (nI (t)), .int (nI (b0)), .int (oi (k9))] : List Value).toArray s 0 0 A) (F0 m 46 ls []) := by
    intro n
    induction n with
    | zero =>
      intro i H locs hin hP hS ls hl
      refine lv_iload hx hb dX4_removed_46 (lv_at hl 5 rfl) ?_
      refine lv_aload_n hx hb dX4_removed_48 rfl (lv_at hl 0 rfl) ?_
      refine va_get (D := D) (ci := 4) (v := .int (nI (μ 0 0))) (C := RX4) (T := TX4) (N := 26) hx hb htA uwX4 hown hKK.1 hP 0 rfl rfl 6 (by decide) (htA _ wd_651) (fun _ h9 => h9) rfl dX4_removed_49 ?_
      refine n_icmp_ge (x := i) (y := μ 0 0) (tgt := 94) hx hb dX4_removed_52 (by decide) (by omega) (Nat.lt_trans (hB 0 0) (by decide)) (fun c_5 => ?_) (fun c_5 => ?_)
      rotate_left
      · exfalso; omega
      refine lv_iload hx hb dX4_removed_94 (lv_at hl 4 rfl) ?_
      exact wr_i hx hb hr hlocks (by rw [show i = μ 0 0 by omega]) hP hS dX4_removed_96
    | succ n ih =>
      intro i H locs hin hP hS ls hl
      refine lv_iload hx hb dX4_removed_46 (lv_at hl 5 rfl) ?_
      refine lv_aload_n hx hb dX4_removed_48 rfl (lv_at hl 0 rfl) ?_
      refine va_get (D := D) (ci := 4) (v := .int (nI (μ 0 0))) (C := RX4) (T := TX4) (N := 26) hx hb htA uwX4 hown hKK.1 hP 0 rfl rfl 6 (by decide) (htA _ wd_651) (fun _ h9 => h9) rfl dX4_removed_49 ?_
      refine n_icmp_ge (x := i) (y := μ 0 0) (tgt := 94) hx hb dX4_removed_52 (by decide) (by omega) (Nat.lt_trans (hB 0 0) (by decide)) (fun c_6 => ?_) (fun c_6 => ?_)
      · exfalso; omega
      refine lv_iload hx hb dX4_removed_55 (lv_at hl 4 rfl) ?_
      refine lv_aload_n hx hb dX4_removed_57 rfl (lv_at hl 0 rfl) ?_
      refine lv_iload hx hb dX4_removed_58 (lv_at hl 5 rfl) ?_
      refine lv_iload_n hx hb dX4_removed_60 rfl (lv_at hl 1 rfl) ?_
      refine lv_iload_n hx hb dX4_removed_61 rfl (lv_at hl 2 rfl) ?_
      refine lv_iload_n hx hb dX4_removed_62 rfl (lv_at hl 3 rfl) ?_
      refine roV1 (v := .int (b2i (wfd (sv μ 0 2 (0)) t b0 k9 i))) (As := [.int (nI (i)), .int (nI (t)), .int (nI (b0)), .int (oi (k9))]) (rest := [.int (nI (cnt (fun m9 => wfd μ t b0 k9 m9 && !ifd μ b0 k9 m9) i))]) (n := 4) ⟨hx, hb, hml, hown, htA⟩ (m_wasFound l D cI cZ sa q (sv μ 0 2 (0)) i t b0 k9 H hP (sv_lt hB (by decide)) hm0 hst9 (by omega) ht hw) (cwV 4 htA (gdV wd_861 wd_863 wp_23 wd_5 wd_864) rfl rfl rfl (by decide +kernel) ⟨Nat.le_of_ble_eq_true rfl, Nat.le_of_ble_eq_true rfl⟩) hKK hP 0 rfl rfl rfl hl.1 rfl (Nat.le_of_ble_eq_true rfl) dX4_removed_63 (Nat.zero_le _) (Nat.zero_le _) ?_
      refine b_ifeq (b := wfd (sv μ 0 2 (0)) t b0 k9 i) (tgt := 84) hx hb dX4_removed_66 (by decide) (fun c_7 => ?_) (fun c_7 => ?_)
      · refine n_iconst (k := 0) hx hb dX4_removed_84 (by decide) ?_
        refine n_iadd hx hb dX4_removed_85 ?_
        refine lv_istore (lv' := [(4, .int (nI ((cnt (fun m9 => wfd μ t b0 k9 m9 && !ifd μ b0 k9 m9) i) + 0))), (0, .ref (q 0)), (1, .int (nI (t))), (2, .int (nI (b0))), (3, .int (oi (k9))), (5, .int (nI (i)))]) hx hb dX4_removed_86 hl (by decide) rfl (fun ls hl => ?_)
        refine lv_iinc (v := nI (i + 1)) (lv' := [(5, .int (nI (i + 1))), (4, .int (nI ((cnt (fun m9 => wfd μ t b0 k9 m9 && !ifd μ b0 k9 m9) i) + 0))), (0, .ref (q 0)), (1, .int (nI (t))), (2, .int (nI (b0))), (3, .int (oi (k9)))]) hx hb dX4_removed_88 hl (k := 5) rfl (n_inc (i) 1 rfl) (by decide) rfl (fun ls hl => ?_)
        refine lv_goto (tgt := 46) hx hb dX4_removed_91 (by decide) ?_
        have e : cnt (fun m9 => wfd μ t b0 k9 m9 && !ifd μ b0 k9 m9) i = cnt (fun m9 => wfd μ t b0 k9 m9 && !ifd μ b0 k9 m9) (i + 1) := cnt_f (by simp [c_1, c_2, c_3, c_4, c_6, (wfd_th.symm.trans c_7)])
        have hl : lv_has ls _ _ := hl
        rw [e] at hl
        exact ih (i + 1) _ _ (by omega) hP hS ls (lv_sub hl [2, 3, 4, 5, 1, 0] rfl)
      · refine lv_aload_n hx hb dX4_removed_69 rfl (lv_at hl 0 rfl) ?_
        refine lv_iload hx hb dX4_removed_70 (lv_at hl 5 rfl) ?_
        refine lv_iload_n hx hb dX4_removed_72 rfl (lv_at hl 2 rfl) ?_
        refine lv_iload_n hx hb dX4_removed_73 rfl (lv_at hl 3 rfl) ?_
        refine roV1 (v := .int (b2i (ifd (sv μ 0 2 (0)) b0 k9 i))) (As := [.int (nI (i)), .int (nI (b0)), .int (oi (k9))]) (rest := [.int (nI (cnt (fun m9 => wfd μ t b0 k9 m9 && !ifd μ b0 k9 m9) i))]) (n := 3) ⟨hx, hb, hml, hown, htA⟩ (m_isFound l D cI cZ sa q (sv μ 0 2 (0)) i b0 k9 H hP (sv_lt hB (by decide)) hm0 (by omega) hw) (cwV 3 htA (gdV wd_794 wd_796 wp_14 wd_5 wd_797) rfl rfl rfl (by decide +kernel) ⟨Nat.le_of_ble_eq_true rfl, Nat.le_of_ble_eq_true rfl⟩) hKK hP 0 rfl rfl rfl hl.1 rfl (Nat.le_of_ble_eq_true rfl) dX4_removed_74 (Nat.zero_le _) (Nat.zero_le _) ?_
        refine b_ifne (b := ifd (sv μ 0 2 (0)) b0 k9 i) (tgt := 84) hx hb dX4_removed_77 (by decide) (fun c_8 => ?_) (fun c_8 => ?_)
        · refine n_iconst (k := 0) hx hb dX4_removed_84 (by decide) ?_
          refine n_iadd hx hb dX4_removed_85 ?_
          refine lv_istore (lv' := [(4, .int (nI ((cnt (fun m9 => wfd μ t b0 k9 m9 && !ifd μ b0 k9 m9) i) + 0))), (0, .ref (q 0)), (1, .int (nI (t))), (2, .int (nI (b0))), (3, .int (oi (k9))), (5, .int (nI (i)))]) hx hb dX4_removed_86 hl (by decide) rfl (fun ls hl => ?_)
          refine lv_iinc (v := nI (i + 1)) (lv' := [(5, .int (nI (i + 1))), (4, .int (nI ((cnt (fun m9 => wfd μ t b0 k9 m9 && !ifd μ b0 k9 m9) i) + 0))), (0, .ref (q 0)), (1, .int (nI (t))), (2, .int (nI (b0))), (3, .int (oi (k9)))]) hx hb dX4_removed_88 hl (k := 5) rfl (n_inc (i) 1 rfl) (by decide) rfl (fun ls hl => ?_)
          refine lv_goto (tgt := 46) hx hb dX4_removed_91 (by decide) ?_
          have e : cnt (fun m9 => wfd μ t b0 k9 m9 && !ifd μ b0 k9 m9) i = cnt (fun m9 => wfd μ t b0 k9 m9 && !ifd μ b0 k9 m9) (i + 1) := cnt_f (by simp [c_1, c_2, c_3, c_4, c_6, (wfd_th.symm.trans c_7), (show ifd μ b0 k9 i = true from c_8)])
          have hl : lv_has ls _ _ := hl
          rw [e] at hl
          exact ih (i + 1) _ _ (by omega) hP hS ls (lv_sub hl [2, 3, 4, 5, 1, 0] rfl)
        · refine n_iconst (k := 1) hx hb dX4_removed_80 (by decide) ?_
          refine lv_goto (tgt := 85) hx hb dX4_removed_81 (by decide) ?_
          refine n_iadd hx hb dX4_removed_85 ?_
          refine lv_istore (lv' := [(4, .int (nI ((cnt (fun m9 => wfd μ t b0 k9 m9 && !ifd μ b0 k9 m9) i) + 1))), (0, .ref (q 0)), (1, .int (nI (t))), (2, .int (nI (b0))), (3, .int (oi (k9))), (5, .int (nI (i)))]) hx hb dX4_removed_86 hl (by decide) rfl (fun ls hl => ?_)
          refine lv_iinc (v := nI (i + 1)) (lv' := [(5, .int (nI (i + 1))), (4, .int (nI ((cnt (fun m9 => wfd μ t b0 k9 m9 && !ifd μ b0 k9 m9) i) + 1))), (0, .ref (q 0)), (1, .int (nI (t))), (2, .int (nI (b0))), (3, .int (oi (k9)))]) hx hb dX4_removed_88 hl (k := 5) rfl (n_inc (i) 1 rfl) (by decide) rfl (fun ls hl => ?_)
          refine lv_goto (tgt := 46) hx hb dX4_removed_91 (by decide) ?_
          have e : cnt (fun m9 => wfd μ t b0 k9 m9 && !ifd μ b0 k9 m9) i + 1 = cnt (fun m9 => wfd μ t b0 k9 m9 && !ifd μ b0 k9 m9) (i + 1) := cnt_t (by simp [c_1, c_2, c_3, c_4, c_6, (wfd_th.symm.trans c_7), (show ifd μ b0 k9 i = false from c_8)])
          rw [e] at hl
          exact ih (i + 1) _ _ (by omega) hP hS ls (lv_sub hl [2, 3, 4, 5, 1, 0] rfl)
  exact loop_46 (μ 0 0) 0 _ _ (by omega) hP hS ls (lv_sub hl [2, 3, 4, 5, 1, 0] rfl)
set_option maxHeartbeats 4000000 in
set_option maxRecDepth 100000 in
theorem r_added_bad (l : Launch) (D : va_G) (cI cZ : ClassId) (sa : Nat → Nat) (q : Nat → Nat) (μ : ST) (x y9 z : Int32) (A : Nat → Prop) (hD : va_D A (wM q cI cZ μ)) (hbad : (iw (x) (nI (0)) (nI (μ 0 1)) && iqm (y9) (z)) = false) : Met l yX4_added (codeW yX4_added cX4_added 6 (some .int)) ({ frames := 2, cells := 0, slots := 0, locals := 43 } : Room) (WrP D cI cZ sa (wM q cI cZ μ) [.ref (q 0), .int (x), .int (y9), .int (z)]) (WrQ (some (.int (nI (0)))) D (wM q cI cZ (sv μ 0 2 1)) A) 0 0 A := by
  refine Met.ofW (cc := cX4_added) (maxL := 6) (ret := (some .int)) (by decide) rfl ?_
  intro p e s m args below meth c s₁ B hml hv
  obtain ⟨rfl, hH, hKK⟩ := hv
  have hx := B.exec
  have hb := B.bytes
  have hr := B.returns
  have htA : ∀ w ∈ WA, w.before _ s = true := fun w h => atoms_spec (ws := (codeW yX4_added cX4_added 6 (some .int))) B.pre w (List.mem_cons_of_mem _ h)
  have hown : s.vm.findClass RX4 = some m.cls := findClass_of_methodNamed B.named
  have hlocks := B.notSynchronized
  have hP := hH
  have hS : va_S A s.heap s.heap [] := va_S.rf
  have hl := lv_entry ([.ref (q 0), .int (x), .int (y9), .int (z)]) (n := 6) (Nat.le_of_ble_eq_true rfl)
  rw [lg_entry_eq]
  generalize (lg_sl ([.ref (q 0), .int (x), .int (y9), .int (z)]) ++ List.replicate (6 - (lg_sl ([.ref (q 0), .int (x), .int (y9), .int (z)])).length) Slot.unset).toArray = ls at hl ⊢
  have hl : lv_has ls 6 [(0, .ref (q 0)), (1, .int (x)), (2, .int (y9)), (3, .int (z))] := hl
  refine n_iconst (k := 0) hx hb dX4_added_0 (by decide) ?_
  refine lv_istore (lv' := [(4, .int (nI (0))), (0, .ref (q 0)), (1, .int (x)), (2, .int (y9)), (3, .int (z))]) hx hb dX4_added_1 hl (by decide) rfl (fun ls hl => ?_)
  refine lv_aload_n hx hb dX4_added_3 rfl (lv_at hl 1 rfl) ?_
  refine lv_aload_n hx hb dX4_added_4 rfl (lv_at hl 1 rfl) ?_
  refine lv_iload_n hx hb dX4_added_5 rfl (lv_at hl 2 rfl) ?_
  refine roV1 (v := .int (b2i (iw (x) (nI (0)) (nI (μ 0 1))))) (As := [.int (x)]) (rest := [.ref (q 0)]) (n := 1) ⟨hx, hb, hml, hown, htA⟩ (m_isState l D cI cZ sa q μ (x) s.heap hP ) (cwV 1 htA (gdV wd_802 wd_804 wp_15 wd_5 wd_805) rfl rfl rfl (by decide +kernel) ⟨Nat.le_of_ble_eq_true rfl, Nat.le_of_ble_eq_true rfl⟩) hKK hP 0 rfl rfl rfl hl.1 rfl (Nat.le_of_ble_eq_true rfl) dX4_added_6 (Nat.zero_le _) (Nat.zero_le _) ?_
  refine b_ifeq (b := iw (x) (nI (0)) (nI (μ 0 1))) (tgt := 20) hx hb dX4_added_9 (by decide) (fun c_1 => ?_) (fun c_1 => ?_)
  · refine n_iconst (k := 1) hx hb dX4_added_20 (by decide) ?_
    refine lv_goto (tgt := 37) hx hb dX4_added_21 (by decide) ?_
    refine wrV1 (v := .int (b2i (false))) (As := [.int (nI (1))]) (rest := []) (n := 1) ⟨hx, hb, hml, hown, htA⟩ (m_unfine l D cI cZ sa q μ 1 A (D_addr hD rfl) (by decide) (by decide)) (cwV 1 htA (gdV wd_735 wd_737 wp_9 wd_5 wd_738) rfl rfl rfl (by decide +kernel) ⟨Nat.le_of_ble_eq_true rfl, Nat.le_of_ble_eq_true rfl⟩) hKK hP 0 rfl rfl rfl hl.1 rfl (Nat.le_of_ble_eq_true rfl) dX4_added_37 (Nat.zero_le _) (Nat.zero_le _) hS (fun _ h => h) (fun H1 locs hP1 hz1 hk1 hS => ?_)
    have hP : va_P D vwCl (wM q cI cZ (sv μ 0 2 (1))) H1 := hP1
    generalize H1 = H at hP hS ⊢
    refine b_ifeq (b := false) (tgt := 94) hx hb dX4_added_40 (by decide) (fun c_2 => ?_) (fun c_2 => ?_)
    rotate_left
    · exact absurd c_2 (by decide)
    refine lv_iload hx hb dX4_added_94 (lv_at hl 0 rfl) ?_
    exact wr_i hx hb hr hlocks (rfl) hP hS dX4_added_96
  · refine lv_iload_n hx hb dX4_added_12 rfl (lv_at hl 3 rfl) ?_
    refine lv_iload_n hx hb dX4_added_13 rfl (lv_at hl 4 rfl) ?_
    refine roS1 (v := .int (b2i (iqm (y9) (z)))) (As := [.int (y9), .int (z)]) (rest := [.ref (q 0)]) (n := 2) ⟨hx, hb, hml, hown, htA⟩ (m_isQuery l D cI cZ sa (y9) (z) s.heap ) (va_cwS 2 htA (gdS wd_846 wd_847 wd_5 wd_848) rfl rfl rfl (by decide +kernel) ⟨Nat.le_of_ble_eq_true rfl, Nat.le_of_ble_eq_true rfl⟩) hKK rfl hl.1 rfl (Nat.le_of_ble_eq_true rfl) dX4_added_14 (Nat.zero_le _) (Nat.zero_le _) ?_
    refine b_ifne (b := iqm (y9) (z)) (tgt := 24) hx hb dX4_added_17 (by decide) (fun c_3 => ?_) (fun c_3 => ?_)
    · exact absurd hbad (by rw [c_1, c_3]; decide)
    refine n_iconst (k := 1) hx hb dX4_added_20 (by decide) ?_
    refine lv_goto (tgt := 37) hx hb dX4_added_21 (by decide) ?_
    refine wrV1 (v := .int (b2i (false))) (As := [.int (nI (1))]) (rest := []) (n := 1) ⟨hx, hb, hml, hown, htA⟩ (m_unfine l D cI cZ sa q μ 1 A (D_addr hD rfl) (by decide) (by decide)) (cwV 1 htA (gdV wd_735 wd_737 wp_9 wd_5 wd_738) rfl rfl rfl (by decide +kernel) ⟨Nat.le_of_ble_eq_true rfl, Nat.le_of_ble_eq_true rfl⟩) hKK hP 0 rfl rfl rfl hl.1 rfl (Nat.le_of_ble_eq_true rfl) dX4_added_37 (Nat.zero_le _) (Nat.zero_le _) hS (fun _ h => h) (fun H1 locs hP1 hz1 hk1 hS => ?_)
    have hP : va_P D vwCl (wM q cI cZ (sv μ 0 2 (1))) H1 := hP1
    generalize H1 = H at hP hS ⊢
    refine b_ifeq (b := false) (tgt := 94) hx hb dX4_added_40 (by decide) (fun c_4 => ?_) (fun c_4 => ?_)
    rotate_left
    · exact absurd c_4 (by decide)
    refine lv_iload hx hb dX4_added_94 (lv_at hl 0 rfl) ?_
    exact wr_i hx hb hr hlocks (rfl) hP hS dX4_added_96
set_option maxHeartbeats 4000000 in
set_option maxRecDepth 100000 in
theorem r_added_no (l : Launch) (D : va_G) (cI cZ : ClassId) (sa : Nat → Nat) (q : Nat → Nat) (μ : ST) (t b0 k9 : Nat) (A : Nat → Prop) (hD : va_D A (wM q cI cZ μ)) (hB : ∀ k i, μ k i < 1073741824) (hm0 : μ 0 0 ≤ 60) (ht : t ≤ μ 0 1) (hb9 : b0 < 6) (hk9 : k9 ≤ 4) (hw : k9 ≤ 2 ^ 31) (hv9 : decide (μ 0 1 - t ≤ 40) = false) : Met l yX4_added (codeW yX4_added cX4_added 6 (some .int)) ({ frames := 2, cells := 0, slots := 0, locals := 43 } : Room) (WrP D cI cZ sa (wM q cI cZ μ) [.ref (q 0), .int (nI (t)), .int (nI (b0)), .int (oi (k9))]) (WrQ (some (.int (nI (0)))) D (wM q cI cZ (sv μ 0 2 2)) A) 0 0 A := by
  refine Met.ofW (cc := cX4_added) (maxL := 6) (ret := (some .int)) (by decide) rfl ?_
  intro p e s m args below meth c s₁ B hml hv
  obtain ⟨rfl, hH, hKK⟩ := hv
  have hx := B.exec
  have hb := B.bytes
  have hr := B.returns
  have htA : ∀ w ∈ WA, w.before _ s = true := fun w h => atoms_spec (ws := (codeW yX4_added cX4_added 6 (some .int))) B.pre w (List.mem_cons_of_mem _ h)
  have hown : s.vm.findClass RX4 = some m.cls := findClass_of_methodNamed B.named
  have hlocks := B.notSynchronized
  have hP := hH
  have hS : va_S A s.heap s.heap [] := va_S.rf
  have hl := lv_entry ([.ref (q 0), .int (nI (t)), .int (nI (b0)), .int (oi (k9))]) (n := 6) (Nat.le_of_ble_eq_true rfl)
  rw [lg_entry_eq]
  generalize (lg_sl ([.ref (q 0), .int (nI (t)), .int (nI (b0)), .int (oi (k9))]) ++ List.replicate (6 - (lg_sl ([.ref (q 0), .int (nI (t)), .int (nI (b0)), .int (oi (k9))])).length) Slot.unset).toArray = ls at hl ⊢
  have hl : lv_has ls 6 [(0, .ref (q 0)), (1, .int (nI (t))), (2, .int (nI (b0))), (3, .int (oi (k9)))] := hl
  refine n_iconst (k := 0) hx hb dX4_added_0 (by decide) ?_
  refine lv_istore (lv' := [(4, .int (nI (0))), (0, .ref (q 0)), (1, .int (nI (t))), (2, .int (nI (b0))), (3, .int (oi (k9)))]) hx hb dX4_added_1 hl (by decide) rfl (fun ls hl => ?_)
  refine lv_aload_n hx hb dX4_added_3 rfl (lv_at hl 1 rfl) ?_
  refine lv_aload_n hx hb dX4_added_4 rfl (lv_at hl 1 rfl) ?_
  refine lv_iload_n hx hb dX4_added_5 rfl (lv_at hl 2 rfl) ?_
  refine roV1 (v := .int (b2i (iw (nI (t)) (nI (0)) (nI (μ 0 1))))) (As := [.int (nI (t))]) (rest := [.ref (q 0)]) (n := 1) ⟨hx, hb, hml, hown, htA⟩ (m_isState l D cI cZ sa q μ (nI (t)) s.heap hP ) (cwV 1 htA (gdV wd_802 wd_804 wp_15 wd_5 wd_805) rfl rfl rfl (by decide +kernel) ⟨Nat.le_of_ble_eq_true rfl, Nat.le_of_ble_eq_true rfl⟩) hKK hP 0 rfl rfl rfl hl.1 rfl (Nat.le_of_ble_eq_true rfl) dX4_added_6 (Nat.zero_le _) (Nat.zero_le _) ?_
  refine b_ifeq (b := iw (nI (t)) (nI (0)) (nI (μ 0 1))) (tgt := 20) hx hb dX4_added_9 (by decide) (fun c_1 => ?_) (fun c_1 => ?_)
  · exact absurd (c_1.symm.trans (iw_n (Nat.zero_le _) ht (Nat.lt_trans (hB 0 1) (by decide)))) (by decide)
  refine lv_iload_n hx hb dX4_added_12 rfl (lv_at hl 3 rfl) ?_
  refine lv_iload_n hx hb dX4_added_13 rfl (lv_at hl 4 rfl) ?_
  refine roS1 (v := .int (b2i (iqm (nI (b0)) (oi (k9))))) (As := [.int (nI (b0)), .int (oi (k9))]) (rest := [.ref (q 0)]) (n := 2) ⟨hx, hb, hml, hown, htA⟩ (m_isQuery l D cI cZ sa (nI (b0)) (oi (k9)) s.heap ) (va_cwS 2 htA (gdS wd_846 wd_847 wd_5 wd_848) rfl rfl rfl (by decide +kernel) ⟨Nat.le_of_ble_eq_true rfl, Nat.le_of_ble_eq_true rfl⟩) hKK rfl hl.1 rfl (Nat.le_of_ble_eq_true rfl) dX4_added_14 (Nat.zero_le _) (Nat.zero_le _) ?_
  refine b_ifne (b := iqm (nI (b0)) (oi (k9))) (tgt := 24) hx hb dX4_added_17 (by decide) (fun c_2 => ?_) (fun c_2 => ?_)
  rotate_left
  · exact absurd (c_2.symm.trans (iqm_k hb9 hk9)) (by decide)
  refine lv_aload_n hx hb dX4_added_24 rfl (lv_at hl 1 rfl) ?_
  refine lv_iload_n hx hb dX4_added_25 rfl (lv_at hl 2 rfl) ?_
  refine roV1 (v := .int (b2i (decide (μ 0 1 - t ≤ 40)))) (As := [.int (nI (t))]) (rest := [.ref (q 0)]) (n := 1) ⟨hx, hb, hml, hown, htA⟩ (m_tells l D cI cZ sa q μ t s.heap hP hB hm0 ht) (cwV 1 htA (gdV wd_806 wd_808 wp_16 wd_5 wd_809) rfl rfl rfl (by decide +kernel) ⟨Nat.le_of_ble_eq_true rfl, Nat.le_of_ble_eq_true rfl⟩) hKK hP 0 rfl rfl rfl hl.1 rfl (Nat.le_of_ble_eq_true rfl) dX4_added_26 (Nat.zero_le _) (Nat.zero_le _) ?_
  refine b_ifne (b := decide (μ 0 1 - t ≤ 40)) (tgt := 36) hx hb dX4_added_29 (by decide) (fun c_3 => ?_) (fun c_3 => ?_)
  · exact absurd (c_3.symm.trans hv9) (by decide)
  refine n_iconst (k := 2) hx hb dX4_added_32 (by decide) ?_
  refine lv_goto (tgt := 37) hx hb dX4_added_33 (by decide) ?_
  refine wrV1 (v := .int (b2i (false))) (As := [.int (nI (2))]) (rest := []) (n := 1) ⟨hx, hb, hml, hown, htA⟩ (m_unfine l D cI cZ sa q μ 2 A (D_addr hD rfl) (by decide) (by decide)) (cwV 1 htA (gdV wd_735 wd_737 wp_9 wd_5 wd_738) rfl rfl rfl (by decide +kernel) ⟨Nat.le_of_ble_eq_true rfl, Nat.le_of_ble_eq_true rfl⟩) hKK hP 0 rfl rfl rfl hl.1 rfl (Nat.le_of_ble_eq_true rfl) dX4_added_37 (Nat.zero_le _) (Nat.zero_le _) hS (fun _ h => h) (fun H1 locs hP1 hz1 hk1 hS => ?_)
  have hP : va_P D vwCl (wM q cI cZ (sv μ 0 2 (2))) H1 := hP1
  generalize H1 = H at hP hS ⊢
  refine b_ifeq (b := false) (tgt := 94) hx hb dX4_added_40 (by decide) (fun c_4 => ?_) (fun c_4 => ?_)
  rotate_left
  · exact absurd c_4 (by decide)
  refine lv_iload hx hb dX4_added_94 (lv_at hl 0 rfl) ?_
  exact wr_i hx hb hr hlocks (rfl) hP hS dX4_added_96
set_option maxHeartbeats 4000000 in
set_option maxRecDepth 100000 in
theorem r_added_ok (l : Launch) (D : va_G) (cI cZ : ClassId) (sa : Nat → Nat) (q : Nat → Nat) (μ : ST) (t b0 k9 : Nat) (A : Nat → Prop) (hD : va_D A (wM q cI cZ μ)) (hB : ∀ k i, μ k i < 1073741824) (hm0 : μ 0 0 ≤ 60) (ht : t ≤ μ 0 1) (hb9 : b0 < 6) (hk9 : k9 ≤ 4) (hw : k9 ≤ 2 ^ 31) (hst9 : μ 0 1 ≤ 2048) (hv9 : decide (μ 0 1 - t ≤ 40) = true) : Met l yX4_added (codeW yX4_added cX4_added 6 (some .int)) ({ frames := 2, cells := 0, slots := 0, locals := 49 } : Room) (WrP D cI cZ sa (wM q cI cZ μ) [.ref (q 0), .int (nI (t)), .int (nI (b0)), .int (oi (k9))]) (WrQ (some (.int (nI (cnt (fun m9 => !wfd μ t b0 k9 m9 && ifd μ b0 k9 m9) (μ 0 0))))) D (wM q cI cZ (sv μ 0 2 0)) A) 0 0 A := by
  refine Met.ofW (cc := cX4_added) (maxL := 6) (ret := (some .int)) (by decide) rfl ?_
  intro p e s m args below meth c s₁ B hml hv
  obtain ⟨rfl, hH, hKK⟩ := hv
  have hx := B.exec
  have hb := B.bytes
  have hr := B.returns
  have htA : ∀ w ∈ WA, w.before _ s = true := fun w h => atoms_spec (ws := (codeW yX4_added cX4_added 6 (some .int))) B.pre w (List.mem_cons_of_mem _ h)
  have hown : s.vm.findClass RX4 = some m.cls := findClass_of_methodNamed B.named
  have hlocks := B.notSynchronized
  have hP := hH
  have hS : va_S A s.heap s.heap [] := va_S.rf
  have hl := lv_entry ([.ref (q 0), .int (nI (t)), .int (nI (b0)), .int (oi (k9))]) (n := 6) (Nat.le_of_ble_eq_true rfl)
  rw [lg_entry_eq]
  generalize (lg_sl ([.ref (q 0), .int (nI (t)), .int (nI (b0)), .int (oi (k9))]) ++ List.replicate (6 - (lg_sl ([.ref (q 0), .int (nI (t)), .int (nI (b0)), .int (oi (k9))])).length) Slot.unset).toArray = ls at hl ⊢
  have hl : lv_has ls 6 [(0, .ref (q 0)), (1, .int (nI (t))), (2, .int (nI (b0))), (3, .int (oi (k9)))] := hl
  refine n_iconst (k := 0) hx hb dX4_added_0 (by decide) ?_
  refine lv_istore (lv' := [(4, .int (nI (0))), (0, .ref (q 0)), (1, .int (nI (t))), (2, .int (nI (b0))), (3, .int (oi (k9)))]) hx hb dX4_added_1 hl (by decide) rfl (fun ls hl => ?_)
  refine lv_aload_n hx hb dX4_added_3 rfl (lv_at hl 1 rfl) ?_
  refine lv_aload_n hx hb dX4_added_4 rfl (lv_at hl 1 rfl) ?_
  refine lv_iload_n hx hb dX4_added_5 rfl (lv_at hl 2 rfl) ?_
  refine roV1 (v := .int (b2i (iw (nI (t)) (nI (0)) (nI (μ 0 1))))) (As := [.int (nI (t))]) (rest := [.ref (q 0)]) (n := 1) ⟨hx, hb, hml, hown, htA⟩ (m_isState l D cI cZ sa q μ (nI (t)) s.heap hP ) (cwV 1 htA (gdV wd_802 wd_804 wp_15 wd_5 wd_805) rfl rfl rfl (by decide +kernel) ⟨Nat.le_of_ble_eq_true rfl, Nat.le_of_ble_eq_true rfl⟩) hKK hP 0 rfl rfl rfl hl.1 rfl (Nat.le_of_ble_eq_true rfl) dX4_added_6 (Nat.zero_le _) (Nat.zero_le _) ?_
  refine b_ifeq (b := iw (nI (t)) (nI (0)) (nI (μ 0 1))) (tgt := 20) hx hb dX4_added_9 (by decide) (fun c_1 => ?_) (fun c_1 => ?_)
  · exact absurd (c_1.symm.trans (iw_n (Nat.zero_le _) ht (Nat.lt_trans (hB 0 1) (by decide)))) (by decide)
  refine lv_iload_n hx hb dX4_added_12 rfl (lv_at hl 3 rfl) ?_
  refine lv_iload_n hx hb dX4_added_13 rfl (lv_at hl 4 rfl) ?_
  refine roS1 (v := .int (b2i (iqm (nI (b0)) (oi (k9))))) (As := [.int (nI (b0)), .int (oi (k9))]) (rest := [.ref (q 0)]) (n := 2) ⟨hx, hb, hml, hown, htA⟩ (m_isQuery l D cI cZ sa (nI (b0)) (oi (k9)) s.heap ) (va_cwS 2 htA (gdS wd_846 wd_847 wd_5 wd_848) rfl rfl rfl (by decide +kernel) ⟨Nat.le_of_ble_eq_true rfl, Nat.le_of_ble_eq_true rfl⟩) hKK rfl hl.1 rfl (Nat.le_of_ble_eq_true rfl) dX4_added_14 (Nat.zero_le _) (Nat.zero_le _) ?_
  refine b_ifne (b := iqm (nI (b0)) (oi (k9))) (tgt := 24) hx hb dX4_added_17 (by decide) (fun c_2 => ?_) (fun c_2 => ?_)
  rotate_left
  · exact absurd (c_2.symm.trans (iqm_k hb9 hk9)) (by decide)
  refine lv_aload_n hx hb dX4_added_24 rfl (lv_at hl 1 rfl) ?_
  refine lv_iload_n hx hb dX4_added_25 rfl (lv_at hl 2 rfl) ?_
  refine roV1 (v := .int (b2i (decide (μ 0 1 - t ≤ 40)))) (As := [.int (nI (t))]) (rest := [.ref (q 0)]) (n := 1) ⟨hx, hb, hml, hown, htA⟩ (m_tells l D cI cZ sa q μ t s.heap hP hB hm0 ht) (cwV 1 htA (gdV wd_806 wd_808 wp_16 wd_5 wd_809) rfl rfl rfl (by decide +kernel) ⟨Nat.le_of_ble_eq_true rfl, Nat.le_of_ble_eq_true rfl⟩) hKK hP 0 rfl rfl rfl hl.1 rfl (Nat.le_of_ble_eq_true rfl) dX4_added_26 (Nat.zero_le _) (Nat.zero_le _) ?_
  refine b_ifne (b := decide (μ 0 1 - t ≤ 40)) (tgt := 36) hx hb dX4_added_29 (by decide) (fun c_3 => ?_) (fun c_3 => ?_)
  rotate_left
  · exact absurd (c_3.symm.trans hv9) (by decide)
  refine n_iconst (k := 0) hx hb dX4_added_36 (by decide) ?_
  refine wrV1 (v := .int (b2i (true))) (As := [.int (nI (0))]) (rest := []) (n := 1) ⟨hx, hb, hml, hown, htA⟩ (m_fine l D cI cZ sa q μ A (D_addr hD rfl) ) (cwV 1 htA (gdV wd_735 wd_737 wp_9 wd_5 wd_738) rfl rfl rfl (by decide +kernel) ⟨Nat.le_of_ble_eq_true rfl, Nat.le_of_ble_eq_true rfl⟩) hKK hP 0 rfl rfl rfl hl.1 rfl (Nat.le_of_ble_eq_true rfl) dX4_added_37 (Nat.zero_le _) (Nat.zero_le _) hS (fun _ h => h) (fun H1 locs hP1 hz1 hk1 hS => ?_)
  have hP : va_P D vwCl (wM q cI cZ (sv μ 0 2 (0))) H1 := hP1
  generalize H1 = H at hP hS ⊢
  refine b_ifeq (b := true) (tgt := 94) hx hb dX4_added_40 (by decide) (fun c_4 => ?_) (fun c_4 => ?_)
  · exact absurd c_4 (by decide)
  refine n_iconst (k := 0) hx hb dX4_added_43 (by decide) ?_
  refine lv_istore (lv' := [(5, .int (nI (0))), (4, .int (nI (0))), (0, .ref (q 0)), (1, .int (nI (t))), (2, .int (nI (b0))), (3, .int (oi (k9)))]) hx hb dX4_added_44 hl (by decide) rfl (fun ls hl => ?_)
  have loop_46 : ∀ (n : Nat) (i : Nat) (H : Heap) (locs : List Loc), (i + n = μ 0 0) → va_P D vwCl (wM q cI cZ (sv μ 0 2 (0))) H → va_S A s.heap H locs → ∀ (ls : Array Slot), lv_has ls 6 [(0, .ref (q 0)), (1, .int (nI (t))), (2, .int (nI (b0))), (3, .int (oi (k9))), (4, .int (nI (cnt (fun m9 => !wfd μ t b0 k9 m9 && ifd μ b0 k9 m9) i))), (5, .int (nI (i)))] → W p l e (headSpec (codeW yX4_added cX4_added 6 (some .int)) ({ frames := 2, cells := 0, slots := 0, locals := 49 } : Room)).room s m ([.ref (q 0), .int (nI (t)), .int (nI (b0)), .int (oi (k9))] : List Value).toArray below meth c H locs 0 0 (MQ below (WrQ (some (.int (nI (cnt (fun m9 => !wfd μ t b0 k9 m9 && ifd μ b0 k9 m9) (μ 0 0))))) D (wM q cI cZ (sv μ 0 2 0)) A) ([.ref (q 0), .int (nI (t)), .int (nI (b0)), .int (oi (k9))] : List Value).toArray s 0 0 A) (F0 m 46 ls []) := by
    intro n
    induction n with
    | zero =>
      intro i H locs hin hP hS ls hl
      refine lv_iload hx hb dX4_added_46 (lv_at hl 5 rfl) ?_
      refine lv_aload_n hx hb dX4_added_48 rfl (lv_at hl 0 rfl) ?_
      refine va_get (D := D) (ci := 4) (v := .int (nI (μ 0 0))) (C := RX4) (T := TX4) (N := 26) hx hb htA uwX4 hown hKK.1 hP 0 rfl rfl 6 (by decide) (htA _ wd_651) (fun _ h9 => h9) rfl dX4_added_49 ?_
      refine n_icmp_ge (x := i) (y := μ 0 0) (tgt := 94) hx hb dX4_added_52 (by decide) (by omega) (Nat.lt_trans (hB 0 0) (by decide)) (fun c_5 => ?_) (fun c_5 => ?_)
      rotate_left
      · exfalso; omega
      refine lv_iload hx hb dX4_added_94 (lv_at hl 4 rfl) ?_
      exact wr_i hx hb hr hlocks (by rw [show i = μ 0 0 by omega]) hP hS dX4_added_96
    | succ n ih =>
      intro i H locs hin hP hS ls hl
      refine lv_iload hx hb dX4_added_46 (lv_at hl 5 rfl) ?_
      refine lv_aload_n hx hb dX4_added_48 rfl (lv_at hl 0 rfl) ?_
      refine va_get (D := D) (ci := 4) (v := .int (nI (μ 0 0))) (C := RX4) (T := TX4) (N := 26) hx hb htA uwX4 hown hKK.1 hP 0 rfl rfl 6 (by decide) (htA _ wd_651) (fun _ h9 => h9) rfl dX4_added_49 ?_
      refine n_icmp_ge (x := i) (y := μ 0 0) (tgt := 94) hx hb dX4_added_52 (by decide) (by omega) (Nat.lt_trans (hB 0 0) (by decide)) (fun c_6 => ?_) (fun c_6 => ?_)
      · exfalso; omega
      refine lv_iload hx hb dX4_added_55 (lv_at hl 4 rfl) ?_
      refine lv_aload_n hx hb dX4_added_57 rfl (lv_at hl 0 rfl) ?_
      refine lv_iload hx hb dX4_added_58 (lv_at hl 5 rfl) ?_
      refine lv_iload_n hx hb dX4_added_60 rfl (lv_at hl 1 rfl) ?_
      refine lv_iload_n hx hb dX4_added_61 rfl (lv_at hl 2 rfl) ?_
      refine lv_iload_n hx hb dX4_added_62 rfl (lv_at hl 3 rfl) ?_
      refine roV1 (v := .int (b2i (wfd (sv μ 0 2 (0)) t b0 k9 i))) (As := [.int (nI (i)), .int (nI (t)), .int (nI (b0)), .int (oi (k9))]) (rest := [.int (nI (cnt (fun m9 => !wfd μ t b0 k9 m9 && ifd μ b0 k9 m9) i))]) (n := 4) ⟨hx, hb, hml, hown, htA⟩ (m_wasFound l D cI cZ sa q (sv μ 0 2 (0)) i t b0 k9 H hP (sv_lt hB (by decide)) hm0 hst9 (by omega) ht hw) (cwV 4 htA (gdV wd_861 wd_863 wp_23 wd_5 wd_864) rfl rfl rfl (by decide +kernel) ⟨Nat.le_of_ble_eq_true rfl, Nat.le_of_ble_eq_true rfl⟩) hKK hP 0 rfl rfl rfl hl.1 rfl (Nat.le_of_ble_eq_true rfl) dX4_added_63 (Nat.zero_le _) (Nat.zero_le _) ?_
      refine b_ifne (b := wfd (sv μ 0 2 (0)) t b0 k9 i) (tgt := 84) hx hb dX4_added_66 (by decide) (fun c_7 => ?_) (fun c_7 => ?_)
      · refine n_iconst (k := 0) hx hb dX4_added_84 (by decide) ?_
        refine n_iadd hx hb dX4_added_85 ?_
        refine lv_istore (lv' := [(4, .int (nI ((cnt (fun m9 => !wfd μ t b0 k9 m9 && ifd μ b0 k9 m9) i) + 0))), (0, .ref (q 0)), (1, .int (nI (t))), (2, .int (nI (b0))), (3, .int (oi (k9))), (5, .int (nI (i)))]) hx hb dX4_added_86 hl (by decide) rfl (fun ls hl => ?_)
        refine lv_iinc (v := nI (i + 1)) (lv' := [(5, .int (nI (i + 1))), (4, .int (nI ((cnt (fun m9 => !wfd μ t b0 k9 m9 && ifd μ b0 k9 m9) i) + 0))), (0, .ref (q 0)), (1, .int (nI (t))), (2, .int (nI (b0))), (3, .int (oi (k9)))]) hx hb dX4_added_88 hl (k := 5) rfl (n_inc (i) 1 rfl) (by decide) rfl (fun ls hl => ?_)
        refine lv_goto (tgt := 46) hx hb dX4_added_91 (by decide) ?_
        have e : cnt (fun m9 => !wfd μ t b0 k9 m9 && ifd μ b0 k9 m9) i = cnt (fun m9 => !wfd μ t b0 k9 m9 && ifd μ b0 k9 m9) (i + 1) := cnt_f (by simp [c_1, c_2, c_3, c_4, c_6, (wfd_th.symm.trans c_7)])
        have hl : lv_has ls _ _ := hl
        rw [e] at hl
        exact ih (i + 1) _ _ (by omega) hP hS ls (lv_sub hl [2, 3, 4, 5, 1, 0] rfl)
      · refine lv_aload_n hx hb dX4_added_69 rfl (lv_at hl 0 rfl) ?_
        refine lv_iload hx hb dX4_added_70 (lv_at hl 5 rfl) ?_
        refine lv_iload_n hx hb dX4_added_72 rfl (lv_at hl 2 rfl) ?_
        refine lv_iload_n hx hb dX4_added_73 rfl (lv_at hl 3 rfl) ?_
        refine roV1 (v := .int (b2i (ifd (sv μ 0 2 (0)) b0 k9 i))) (As := [.int (nI (i)), .int (nI (b0)), .int (oi (k9))]) (rest := [.int (nI (cnt (fun m9 => !wfd μ t b0 k9 m9 && ifd μ b0 k9 m9) i))]) (n := 3) ⟨hx, hb, hml, hown, htA⟩ (m_isFound l D cI cZ sa q (sv μ 0 2 (0)) i b0 k9 H hP (sv_lt hB (by decide)) hm0 (by omega) hw) (cwV 3 htA (gdV wd_794 wd_796 wp_14 wd_5 wd_797) rfl rfl rfl (by decide +kernel) ⟨Nat.le_of_ble_eq_true rfl, Nat.le_of_ble_eq_true rfl⟩) hKK hP 0 rfl rfl rfl hl.1 rfl (Nat.le_of_ble_eq_true rfl) dX4_added_74 (Nat.zero_le _) (Nat.zero_le _) ?_
        refine b_ifeq (b := ifd (sv μ 0 2 (0)) b0 k9 i) (tgt := 84) hx hb dX4_added_77 (by decide) (fun c_8 => ?_) (fun c_8 => ?_)
        · refine n_iconst (k := 0) hx hb dX4_added_84 (by decide) ?_
          refine n_iadd hx hb dX4_added_85 ?_
          refine lv_istore (lv' := [(4, .int (nI ((cnt (fun m9 => !wfd μ t b0 k9 m9 && ifd μ b0 k9 m9) i) + 0))), (0, .ref (q 0)), (1, .int (nI (t))), (2, .int (nI (b0))), (3, .int (oi (k9))), (5, .int (nI (i)))]) hx hb dX4_added_86 hl (by decide) rfl (fun ls hl => ?_)
          refine lv_iinc (v := nI (i + 1)) (lv' := [(5, .int (nI (i + 1))), (4, .int (nI ((cnt (fun m9 => !wfd μ t b0 k9 m9 && ifd μ b0 k9 m9) i) + 0))), (0, .ref (q 0)), (1, .int (nI (t))), (2, .int (nI (b0))), (3, .int (oi (k9)))]) hx hb dX4_added_88 hl (k := 5) rfl (n_inc (i) 1 rfl) (by decide) rfl (fun ls hl => ?_)
          refine lv_goto (tgt := 46) hx hb dX4_added_91 (by decide) ?_
          have e : cnt (fun m9 => !wfd μ t b0 k9 m9 && ifd μ b0 k9 m9) i = cnt (fun m9 => !wfd μ t b0 k9 m9 && ifd μ b0 k9 m9) (i + 1) := cnt_f (by simp [c_1, c_2, c_3, c_4, c_6, (wfd_th.symm.trans c_7), (show ifd μ b0 k9 i = false from c_8)])
          have hl : lv_has ls _ _ := hl
          rw [e] at hl
          exact ih (i + 1) _ _ (by omega) hP hS ls (lv_sub hl [2, 3, 4, 5, 1, 0] rfl)
        · refine n_iconst (k := 1) hx hb dX4_added_80 (by decide) ?_
          refine lv_goto (tgt := 85) hx hb dX4_added_81 (by decide) ?_
          refine n_iadd hx hb dX4_added_85 ?_
          refine lv_istore (lv' := [(4, .int (nI ((cnt (fun m9 => !wfd μ t b0 k9 m9 && ifd μ b0 k9 m9) i) + 1))), (0, .ref (q 0)), (1, .int (nI (t))), (2, .int (nI (b0))), (3, .int (oi (k9))), (5, .int (nI (i)))]) hx hb dX4_added_86 hl (by decide) rfl (fun ls hl => ?_)
          refine lv_iinc (v := nI (i + 1)) (lv' := [(5, .int (nI (i + 1))), (4, .int (nI ((cnt (fun m9 => !wfd μ t b0 k9 m9 && ifd μ b0 k9 m9) i) + 1))), (0, .ref (q 0)), (1, .int (nI (t))), (2, .int (nI (b0))), (3, .int (oi (k9)))]) hx hb dX4_added_88 hl (k := 5) rfl (n_inc (i) 1 rfl) (by decide) rfl (fun ls hl => ?_)
          refine lv_goto (tgt := 46) hx hb dX4_added_91 (by decide) ?_
          have e : cnt (fun m9 => !wfd μ t b0 k9 m9 && ifd μ b0 k9 m9) i + 1 = cnt (fun m9 => !wfd μ t b0 k9 m9 && ifd μ b0 k9 m9) (i + 1) := cnt_t (by simp [c_1, c_2, c_3, c_4, c_6, (wfd_th.symm.trans c_7), (show ifd μ b0 k9 i = true from c_8)])
          rw [e] at hl
          exact ih (i + 1) _ _ (by omega) hP hS ls (lv_sub hl [2, 3, 4, 5, 1, 0] rfl)
  exact loop_46 (μ 0 0) 0 _ _ (by omega) hP hS ls (lv_sub hl [2, 3, 4, 5, 1, 0] rfl)
set_option maxHeartbeats 4000000 in
set_option maxRecDepth 100000 in
theorem r_watch_bad (l : Launch) (D : va_G) (cI cZ : ClassId) (sa : Nat → Nat) (q : Nat → Nat) (μ : ST) (x y9 z : Int32) (A : Nat → Prop) (hD : va_D A (wM q cI cZ μ)) (hbad : (iw (x) (nI (0)) (nI (1)) && iw (y9) (nI (0)) (nI (5)) && iw (z) (nI (1)) (nI (10))) = false) : Met l yX4_watch (codeW yX4_watch cX4_watch 4 none) ({ frames := 2, cells := 0, slots := 0, locals := 42 } : Room) (WrP D cI cZ sa (wM q cI cZ μ) [.ref (q 0), .int (x), .int (y9), .int (z)]) (WrQ none D (wM q cI cZ (sv μ 0 2 1)) A) 0 0 A := by
  refine Met.ofW (cc := cX4_watch) (maxL := 4) (ret := none) (by decide) rfl ?_
  intro p e s m args below meth c s₁ B hml hv
  obtain ⟨rfl, hH, hKK⟩ := hv
  have hx := B.exec
  have hb := B.bytes
  have hr := B.returns
  have htA : ∀ w ∈ WA, w.before _ s = true := fun w h => atoms_spec (ws := (codeW yX4_watch cX4_watch 4 none)) B.pre w (List.mem_cons_of_mem _ h)
  have hown : s.vm.findClass RX4 = some m.cls := findClass_of_methodNamed B.named
  have hlocks := B.notSynchronized
  have hP := hH
  have hS : va_S A s.heap s.heap [] := va_S.rf
  have hl := lv_entry ([.ref (q 0), .int (x), .int (y9), .int (z)]) (n := 4) (Nat.le_of_ble_eq_true rfl)
  rw [lg_entry_eq]
  generalize (lg_sl ([.ref (q 0), .int (x), .int (y9), .int (z)]) ++ List.replicate (4 - (lg_sl ([.ref (q 0), .int (x), .int (y9), .int (z)])).length) Slot.unset).toArray = ls at hl ⊢
  have hl : lv_has ls 4 [(0, .ref (q 0)), (1, .int (x)), (2, .int (y9)), (3, .int (z))] := hl
  refine lv_aload_n hx hb dX4_watch_0 rfl (lv_at hl 0 rfl) ?_
  refine lv_iload_n hx hb dX4_watch_1 rfl (lv_at hl 1 rfl) ?_
  refine roS1 (v := .int (b2i (iw (x) (nI (0)) (nI (1))))) (As := [.int (x)]) (rest := [.ref (q 0)]) (n := 1) ⟨hx, hb, hml, hown, htA⟩ (m_isClient l D cI cZ sa (x) s.heap ) (va_cwS 1 htA (gdS wd_873 wd_874 wd_5 wd_875) rfl rfl rfl (by decide +kernel) ⟨Nat.le_of_ble_eq_true rfl, Nat.le_of_ble_eq_true rfl⟩) hKK rfl hl.1 rfl (Nat.le_of_ble_eq_true rfl) dX4_watch_2 (Nat.zero_le _) (Nat.zero_le _) ?_
  refine b_ifeq (b := iw (x) (nI (0)) (nI (1))) (tgt := 31) hx hb dX4_watch_5 (by decide) (fun c_1 => ?_) (fun c_1 => ?_)
  · refine n_iconst (k := 1) hx hb dX4_watch_31 (by decide) ?_
    refine wrV1 (v := .int (b2i (false))) (As := [.int (nI (1))]) (rest := []) (n := 1) ⟨hx, hb, hml, hown, htA⟩ (m_unfine l D cI cZ sa q μ 1 A (D_addr hD rfl) (by decide) (by decide)) (cwV 1 htA (gdV wd_735 wd_737 wp_9 wd_5 wd_738) rfl rfl rfl (by decide +kernel) ⟨Nat.le_of_ble_eq_true rfl, Nat.le_of_ble_eq_true rfl⟩) hKK hP 0 rfl rfl rfl hl.1 rfl (Nat.le_of_ble_eq_true rfl) dX4_watch_32 (Nat.zero_le _) (Nat.zero_le _) hS (fun _ h => h) (fun H1 locs hP1 hz1 hk1 hS => ?_)
    have hP : va_P D vwCl (wM q cI cZ (sv μ 0 2 (1))) H1 := hP1
    generalize H1 = H at hP hS ⊢
    refine b_ifeq (b := false) (tgt := 52) hx hb dX4_watch_35 (by decide) (fun c_2 => ?_) (fun c_2 => ?_)
    rotate_left
    · exact absurd c_2 (by decide)
    exact wr_v hx hb hr hlocks hP hS dX4_watch_52
  · refine lv_iload_n hx hb dX4_watch_8 rfl (lv_at hl 2 rfl) ?_
    refine n_iconst (k := 0) hx hb dX4_watch_9 (by decide) ?_
    refine n_iconst (k := 5) hx hb dX4_watch_10 (by decide) ?_
    refine roS1 (v := .int (b2i (iw (y9) (nI (0)) (nI (5))))) (As := [.int (y9), .int (nI (0)), .int (nI (5))]) (rest := [.ref (q 0)]) (n := 3) ⟨hx, hb, hml, hown, htA⟩ (m_in l D cI cZ sa (y9) (nI (0)) (nI (5)) s.heap ) (va_cwS 3 htA (gdS wd_732 wd_733 wd_5 wd_734) rfl rfl rfl (by decide +kernel) ⟨Nat.le_of_ble_eq_true rfl, Nat.le_of_ble_eq_true rfl⟩) hKK rfl hl.1 rfl (Nat.le_of_ble_eq_true rfl) dX4_watch_11 (Nat.zero_le _) (Nat.zero_le _) ?_
    refine b_ifeq (b := iw (y9) (nI (0)) (nI (5))) (tgt := 31) hx hb dX4_watch_14 (by decide) (fun c_3 => ?_) (fun c_3 => ?_)
    · refine n_iconst (k := 1) hx hb dX4_watch_31 (by decide) ?_
      refine wrV1 (v := .int (b2i (false))) (As := [.int (nI (1))]) (rest := []) (n := 1) ⟨hx, hb, hml, hown, htA⟩ (m_unfine l D cI cZ sa q μ 1 A (D_addr hD rfl) (by decide) (by decide)) (cwV 1 htA (gdV wd_735 wd_737 wp_9 wd_5 wd_738) rfl rfl rfl (by decide +kernel) ⟨Nat.le_of_ble_eq_true rfl, Nat.le_of_ble_eq_true rfl⟩) hKK hP 0 rfl rfl rfl hl.1 rfl (Nat.le_of_ble_eq_true rfl) dX4_watch_32 (Nat.zero_le _) (Nat.zero_le _) hS (fun _ h => h) (fun H1 locs hP1 hz1 hk1 hS => ?_)
      have hP : va_P D vwCl (wM q cI cZ (sv μ 0 2 (1))) H1 := hP1
      generalize H1 = H at hP hS ⊢
      refine b_ifeq (b := false) (tgt := 52) hx hb dX4_watch_35 (by decide) (fun c_4 => ?_) (fun c_4 => ?_)
      rotate_left
      · exact absurd c_4 (by decide)
      exact wr_v hx hb hr hlocks hP hS dX4_watch_52
    · refine lv_iload_n hx hb dX4_watch_17 rfl (lv_at hl 3 rfl) ?_
      refine n_iconst (k := 1) hx hb dX4_watch_18 (by decide) ?_
      refine lv_bipush (v := nI 10) hx hb dX4_watch_19 (by decide) ?_
      refine roS1 (v := .int (b2i (iw (z) (nI (1)) (nI (10))))) (As := [.int (z), .int (nI (1)), .int (nI (10))]) (rest := [.ref (q 0)]) (n := 3) ⟨hx, hb, hml, hown, htA⟩ (m_in l D cI cZ sa (z) (nI (1)) (nI (10)) s.heap ) (va_cwS 3 htA (gdS wd_732 wd_733 wd_5 wd_734) rfl rfl rfl (by decide +kernel) ⟨Nat.le_of_ble_eq_true rfl, Nat.le_of_ble_eq_true rfl⟩) hKK rfl hl.1 rfl (Nat.le_of_ble_eq_true rfl) dX4_watch_21 (Nat.zero_le _) (Nat.zero_le _) ?_
      refine b_ifeq (b := iw (z) (nI (1)) (nI (10))) (tgt := 31) hx hb dX4_watch_24 (by decide) (fun c_5 => ?_) (fun c_5 => ?_)
      rotate_left
      · exact absurd hbad (by rw [c_1, c_3, c_5]; decide)
      refine n_iconst (k := 1) hx hb dX4_watch_31 (by decide) ?_
      refine wrV1 (v := .int (b2i (false))) (As := [.int (nI (1))]) (rest := []) (n := 1) ⟨hx, hb, hml, hown, htA⟩ (m_unfine l D cI cZ sa q μ 1 A (D_addr hD rfl) (by decide) (by decide)) (cwV 1 htA (gdV wd_735 wd_737 wp_9 wd_5 wd_738) rfl rfl rfl (by decide +kernel) ⟨Nat.le_of_ble_eq_true rfl, Nat.le_of_ble_eq_true rfl⟩) hKK hP 0 rfl rfl rfl hl.1 rfl (Nat.le_of_ble_eq_true rfl) dX4_watch_32 (Nat.zero_le _) (Nat.zero_le _) hS (fun _ h => h) (fun H1 locs hP1 hz1 hk1 hS => ?_)
      have hP : va_P D vwCl (wM q cI cZ (sv μ 0 2 (1))) H1 := hP1
      generalize H1 = H at hP hS ⊢
      refine b_ifeq (b := false) (tgt := 52) hx hb dX4_watch_35 (by decide) (fun c_6 => ?_) (fun c_6 => ?_)
      rotate_left
      · exact absurd c_6 (by decide)
      exact wr_v hx hb hr hlocks hP hS dX4_watch_52
set_option maxHeartbeats 4000000 in
set_option maxRecDepth 100000 in
theorem r_watch_0 (l : Launch) (D : va_G) (cI cZ : ClassId) (sa : Nat → Nat) (q : Nat → Nat) (μ : ST) (b0 wd : Nat) (A : Nat → Prop) (hD : va_D A (wM q cI cZ μ)) (hb9 : b0 < 6) (hw1 : 1 ≤ wd) (hw2 : wd ≤ 10) : Met l yX4_watch (codeW yX4_watch cX4_watch 4 none) ({ frames := 2, cells := 0, slots := 0, locals := 42 } : Room) (WrP D cI cZ sa (wM q cI cZ μ) [.ref (q 0), .int (nI (0)), .int (nI (b0)), .int (nI (wd))]) (WrQ none D (wM q cI cZ (su (su (sv μ 0 2 0) 13 (upN (μ 13) 0 b0)) 14 (upN (μ 14) 0 wd))) A) 0 0 A := by
  refine Met.ofW (cc := cX4_watch) (maxL := 4) (ret := none) (by decide) rfl ?_
  intro p e s m args below meth c s₁ B hml hv
  obtain ⟨rfl, hH, hKK⟩ := hv
  have hx := B.exec
  have hb := B.bytes
  have hr := B.returns
  have htA : ∀ w ∈ WA, w.before _ s = true := fun w h => atoms_spec (ws := (codeW yX4_watch cX4_watch 4 none)) B.pre w (List.mem_cons_of_mem _ h)
  have hown : s.vm.findClass RX4 = some m.cls := findClass_of_methodNamed B.named
  have hlocks := B.notSynchronized
  have hP := hH
  have hS : va_S A s.heap s.heap [] := va_S.rf
  have hl := lv_entry ([.ref (q 0), .int (nI (0)), .int (nI (b0)), .int (nI (wd))]) (n := 4) (Nat.le_of_ble_eq_true rfl)
  rw [lg_entry_eq]
  generalize (lg_sl ([.ref (q 0), .int (nI (0)), .int (nI (b0)), .int (nI (wd))]) ++ List.replicate (4 - (lg_sl ([.ref (q 0), .int (nI (0)), .int (nI (b0)), .int (nI (wd))])).length) Slot.unset).toArray = ls at hl ⊢
  have hl : lv_has ls 4 [(0, .ref (q 0)), (1, .int (nI (0))), (2, .int (nI (b0))), (3, .int (nI (wd)))] := hl
  refine lv_aload_n hx hb dX4_watch_0 rfl (lv_at hl 0 rfl) ?_
  refine lv_iload_n hx hb dX4_watch_1 rfl (lv_at hl 1 rfl) ?_
  refine roS1 (v := .int (b2i (iw (nI (0)) (nI (0)) (nI (1))))) (As := [.int (nI (0))]) (rest := [.ref (q 0)]) (n := 1) ⟨hx, hb, hml, hown, htA⟩ (m_isClient l D cI cZ sa (nI (0)) s.heap ) (va_cwS 1 htA (gdS wd_873 wd_874 wd_5 wd_875) rfl rfl rfl (by decide +kernel) ⟨Nat.le_of_ble_eq_true rfl, Nat.le_of_ble_eq_true rfl⟩) hKK rfl hl.1 rfl (Nat.le_of_ble_eq_true rfl) dX4_watch_2 (Nat.zero_le _) (Nat.zero_le _) ?_
  refine b_ifeq (b := iw (nI (0)) (nI (0)) (nI (1))) (tgt := 31) hx hb dX4_watch_5 (by decide) (fun c_1 => ?_) (fun c_1 => ?_)
  · exact absurd (c_1.symm.trans (iw_n (by decide) (by decide) (by decide))) (by decide)
  refine lv_iload_n hx hb dX4_watch_8 rfl (lv_at hl 2 rfl) ?_
  refine n_iconst (k := 0) hx hb dX4_watch_9 (by decide) ?_
  refine n_iconst (k := 5) hx hb dX4_watch_10 (by decide) ?_
  refine roS1 (v := .int (b2i (iw (nI (b0)) (nI (0)) (nI (5))))) (As := [.int (nI (b0)), .int (nI (0)), .int (nI (5))]) (rest := [.ref (q 0)]) (n := 3) ⟨hx, hb, hml, hown, htA⟩ (m_in l D cI cZ sa (nI (b0)) (nI (0)) (nI (5)) s.heap ) (va_cwS 3 htA (gdS wd_732 wd_733 wd_5 wd_734) rfl rfl rfl (by decide +kernel) ⟨Nat.le_of_ble_eq_true rfl, Nat.le_of_ble_eq_true rfl⟩) hKK rfl hl.1 rfl (Nat.le_of_ble_eq_true rfl) dX4_watch_11 (Nat.zero_le _) (Nat.zero_le _) ?_
  refine b_ifeq (b := iw (nI (b0)) (nI (0)) (nI (5))) (tgt := 31) hx hb dX4_watch_14 (by decide) (fun c_2 => ?_) (fun c_2 => ?_)
  · exact absurd (c_2.symm.trans (iw_n (Nat.zero_le _) (by omega) (by decide))) (by decide)
  refine lv_iload_n hx hb dX4_watch_17 rfl (lv_at hl 3 rfl) ?_
  refine n_iconst (k := 1) hx hb dX4_watch_18 (by decide) ?_
  refine lv_bipush (v := nI 10) hx hb dX4_watch_19 (by decide) ?_
  refine roS1 (v := .int (b2i (iw (nI (wd)) (nI (1)) (nI (10))))) (As := [.int (nI (wd)), .int (nI (1)), .int (nI (10))]) (rest := [.ref (q 0)]) (n := 3) ⟨hx, hb, hml, hown, htA⟩ (m_in l D cI cZ sa (nI (wd)) (nI (1)) (nI (10)) s.heap ) (va_cwS 3 htA (gdS wd_732 wd_733 wd_5 wd_734) rfl rfl rfl (by decide +kernel) ⟨Nat.le_of_ble_eq_true rfl, Nat.le_of_ble_eq_true rfl⟩) hKK rfl hl.1 rfl (Nat.le_of_ble_eq_true rfl) dX4_watch_21 (Nat.zero_le _) (Nat.zero_le _) ?_
  refine b_ifeq (b := iw (nI (wd)) (nI (1)) (nI (10))) (tgt := 31) hx hb dX4_watch_24 (by decide) (fun c_3 => ?_) (fun c_3 => ?_)
  · exact absurd (c_3.symm.trans (iw_n hw1 hw2 (by decide))) (by decide)
  refine n_iconst (k := 0) hx hb dX4_watch_27 (by decide) ?_
  refine lv_goto (tgt := 32) hx hb dX4_watch_28 (by decide) ?_
  refine wrV1 (v := .int (b2i (true))) (As := [.int (nI (0))]) (rest := []) (n := 1) ⟨hx, hb, hml, hown, htA⟩ (m_fine l D cI cZ sa q μ A (D_addr hD rfl) ) (cwV 1 htA (gdV wd_735 wd_737 wp_9 wd_5 wd_738) rfl rfl rfl (by decide +kernel) ⟨Nat.le_of_ble_eq_true rfl, Nat.le_of_ble_eq_true rfl⟩) hKK hP 0 rfl rfl rfl hl.1 rfl (Nat.le_of_ble_eq_true rfl) dX4_watch_32 (Nat.zero_le _) (Nat.zero_le _) hS (fun _ h => h) (fun H1 locs hP1 hz1 hk1 hS => ?_)
  have hP : va_P D vwCl (wM q cI cZ (sv μ 0 2 (0))) H1 := hP1
  generalize H1 = H at hP hS ⊢
  refine b_ifeq (b := true) (tgt := 52) hx hb dX4_watch_35 (by decide) (fun c_4 => ?_) (fun c_4 => ?_)
  · exact absurd c_4 (by decide)
  refine lv_aload_n hx hb dX4_watch_38 rfl (lv_at hl 0 rfl) ?_
  refine va_get (D := D) (ci := 4) (v := .ref (q 13)) (C := RX4) (T := TX4) (N := 26) hx hb htA uwX4 hown hKK.1 hP 0 rfl rfl 14 (by decide) (htA _ wd_659) (fun _ h9 => h9) rfl dX4_watch_39 ?_
  refine lv_iload_n hx hb dX4_watch_42 rfl (lv_at hl 1 rfl) ?_
  refine lv_iload_n hx hb dX4_watch_43 rfl (lv_at hl 2 rfl) ?_
  refine n_iast (g := μ 13) (cA := cI) (n := 2) (j := 0) (v := b0) hx hb hKK.1 hP (D_addr hD rfl) hS 13 0 rfl rfl (by decide) (Nat.le_of_ble_eq_true rfl) dX4_watch_44 (fun H locs hP hS => ?_)
  have hP : va_P D vwCl (wM q cI cZ (su (sv μ 0 2 (0)) 13 (upN (μ 13) (0) (b0)))) H := hP
  refine lv_aload_n hx hb dX4_watch_45 rfl (lv_at hl 0 rfl) ?_
  refine va_get (D := D) (ci := 4) (v := .ref (q 14)) (C := RX4) (T := TX4) (N := 26) hx hb htA uwX4 hown hKK.1 hP 0 rfl rfl 15 (by decide) (htA _ wd_660) (fun _ h9 => h9) rfl dX4_watch_46 ?_
  refine lv_iload_n hx hb dX4_watch_49 rfl (lv_at hl 1 rfl) ?_
  refine lv_iload_n hx hb dX4_watch_50 rfl (lv_at hl 3 rfl) ?_
  refine n_iast (g := μ 14) (cA := cI) (n := 2) (j := 0) (v := wd) hx hb hKK.1 hP (D_addr hD rfl) hS 14 0 rfl rfl (by decide) (Nat.le_of_ble_eq_true rfl) dX4_watch_51 (fun H locs hP hS => ?_)
  have hP : va_P D vwCl (wM q cI cZ (su (su (sv μ 0 2 (0)) 13 (upN (μ 13) (0) (b0))) 14 (upN (μ 14) (0) (wd)))) H := hP
  exact wr_v hx hb hr hlocks hP hS dX4_watch_52
set_option maxHeartbeats 4000000 in
set_option maxRecDepth 100000 in
theorem r_watch_1 (l : Launch) (D : va_G) (cI cZ : ClassId) (sa : Nat → Nat) (q : Nat → Nat) (μ : ST) (b0 wd : Nat) (A : Nat → Prop) (hD : va_D A (wM q cI cZ μ)) (hb9 : b0 < 6) (hw1 : 1 ≤ wd) (hw2 : wd ≤ 10) : Met l yX4_watch (codeW yX4_watch cX4_watch 4 none) ({ frames := 2, cells := 0, slots := 0, locals := 42 } : Room) (WrP D cI cZ sa (wM q cI cZ μ) [.ref (q 0), .int (nI (1)), .int (nI (b0)), .int (nI (wd))]) (WrQ none D (wM q cI cZ (su (su (sv μ 0 2 0) 13 (upN (μ 13) 1 b0)) 14 (upN (μ 14) 1 wd))) A) 0 0 A := by
  refine Met.ofW (cc := cX4_watch) (maxL := 4) (ret := none) (by decide) rfl ?_
  intro p e s m args below meth c s₁ B hml hv
  obtain ⟨rfl, hH, hKK⟩ := hv
  have hx := B.exec
  have hb := B.bytes
  have hr := B.returns
  have htA : ∀ w ∈ WA, w.before _ s = true := fun w h => atoms_spec (ws := (codeW yX4_watch cX4_watch 4 none)) B.pre w (List.mem_cons_of_mem _ h)
  have hown : s.vm.findClass RX4 = some m.cls := findClass_of_methodNamed B.named
  have hlocks := B.notSynchronized
  have hP := hH
  have hS : va_S A s.heap s.heap [] := va_S.rf
  have hl := lv_entry ([.ref (q 0), .int (nI (1)), .int (nI (b0)), .int (nI (wd))]) (n := 4) (Nat.le_of_ble_eq_true rfl)
  rw [lg_entry_eq]
  generalize (lg_sl ([.ref (q 0), .int (nI (1)), .int (nI (b0)), .int (nI (wd))]) ++ List.replicate (4 - (lg_sl ([.ref (q 0), .int (nI (1)), .int (nI (b0)), .int (nI (wd))])).length) Slot.unset).toArray = ls at hl ⊢
  have hl : lv_has ls 4 [(0, .ref (q 0)), (1, .int (nI (1))), (2, .int (nI (b0))), (3, .int (nI (wd)))] := hl
  refine lv_aload_n hx hb dX4_watch_0 rfl (lv_at hl 0 rfl) ?_
  refine lv_iload_n hx hb dX4_watch_1 rfl (lv_at hl 1 rfl) ?_
  refine roS1 (v := .int (b2i (iw (nI (1)) (nI (0)) (nI (1))))) (As := [.int (nI (1))]) (rest := [.ref (q 0)]) (n := 1) ⟨hx, hb, hml, hown, htA⟩ (m_isClient l D cI cZ sa (nI (1)) s.heap ) (va_cwS 1 htA (gdS wd_873 wd_874 wd_5 wd_875) rfl rfl rfl (by decide +kernel) ⟨Nat.le_of_ble_eq_true rfl, Nat.le_of_ble_eq_true rfl⟩) hKK rfl hl.1 rfl (Nat.le_of_ble_eq_true rfl) dX4_watch_2 (Nat.zero_le _) (Nat.zero_le _) ?_
  refine b_ifeq (b := iw (nI (1)) (nI (0)) (nI (1))) (tgt := 31) hx hb dX4_watch_5 (by decide) (fun c_1 => ?_) (fun c_1 => ?_)
  · exact absurd (c_1.symm.trans (iw_n (by decide) (by decide) (by decide))) (by decide)
  refine lv_iload_n hx hb dX4_watch_8 rfl (lv_at hl 2 rfl) ?_
  refine n_iconst (k := 0) hx hb dX4_watch_9 (by decide) ?_
  refine n_iconst (k := 5) hx hb dX4_watch_10 (by decide) ?_
  refine roS1 (v := .int (b2i (iw (nI (b0)) (nI (0)) (nI (5))))) (As := [.int (nI (b0)), .int (nI (0)), .int (nI (5))]) (rest := [.ref (q 0)]) (n := 3) ⟨hx, hb, hml, hown, htA⟩ (m_in l D cI cZ sa (nI (b0)) (nI (0)) (nI (5)) s.heap ) (va_cwS 3 htA (gdS wd_732 wd_733 wd_5 wd_734) rfl rfl rfl (by decide +kernel) ⟨Nat.le_of_ble_eq_true rfl, Nat.le_of_ble_eq_true rfl⟩) hKK rfl hl.1 rfl (Nat.le_of_ble_eq_true rfl) dX4_watch_11 (Nat.zero_le _) (Nat.zero_le _) ?_
  refine b_ifeq (b := iw (nI (b0)) (nI (0)) (nI (5))) (tgt := 31) hx hb dX4_watch_14 (by decide) (fun c_2 => ?_) (fun c_2 => ?_)
  · exact absurd (c_2.symm.trans (iw_n (Nat.zero_le _) (by omega) (by decide))) (by decide)
  refine lv_iload_n hx hb dX4_watch_17 rfl (lv_at hl 3 rfl) ?_
  refine n_iconst (k := 1) hx hb dX4_watch_18 (by decide) ?_
  refine lv_bipush (v := nI 10) hx hb dX4_watch_19 (by decide) ?_
  refine roS1 (v := .int (b2i (iw (nI (wd)) (nI (1)) (nI (10))))) (As := [.int (nI (wd)), .int (nI (1)), .int (nI (10))]) (rest := [.ref (q 0)]) (n := 3) ⟨hx, hb, hml, hown, htA⟩ (m_in l D cI cZ sa (nI (wd)) (nI (1)) (nI (10)) s.heap ) (va_cwS 3 htA (gdS wd_732 wd_733 wd_5 wd_734) rfl rfl rfl (by decide +kernel) ⟨Nat.le_of_ble_eq_true rfl, Nat.le_of_ble_eq_true rfl⟩) hKK rfl hl.1 rfl (Nat.le_of_ble_eq_true rfl) dX4_watch_21 (Nat.zero_le _) (Nat.zero_le _) ?_
  refine b_ifeq (b := iw (nI (wd)) (nI (1)) (nI (10))) (tgt := 31) hx hb dX4_watch_24 (by decide) (fun c_3 => ?_) (fun c_3 => ?_)
  · exact absurd (c_3.symm.trans (iw_n hw1 hw2 (by decide))) (by decide)
  refine n_iconst (k := 0) hx hb dX4_watch_27 (by decide) ?_
  refine lv_goto (tgt := 32) hx hb dX4_watch_28 (by decide) ?_
  refine wrV1 (v := .int (b2i (true))) (As := [.int (nI (0))]) (rest := []) (n := 1) ⟨hx, hb, hml, hown, htA⟩ (m_fine l D cI cZ sa q μ A (D_addr hD rfl) ) (cwV 1 htA (gdV wd_735 wd_737 wp_9 wd_5 wd_738) rfl rfl rfl (by decide +kernel) ⟨Nat.le_of_ble_eq_true rfl, Nat.le_of_ble_eq_true rfl⟩) hKK hP 0 rfl rfl rfl hl.1 rfl (Nat.le_of_ble_eq_true rfl) dX4_watch_32 (Nat.zero_le _) (Nat.zero_le _) hS (fun _ h => h) (fun H1 locs hP1 hz1 hk1 hS => ?_)
  have hP : va_P D vwCl (wM q cI cZ (sv μ 0 2 (0))) H1 := hP1
  generalize H1 = H at hP hS ⊢
  refine b_ifeq (b := true) (tgt := 52) hx hb dX4_watch_35 (by decide) (fun c_4 => ?_) (fun c_4 => ?_)
  · exact absurd c_4 (by decide)
  refine lv_aload_n hx hb dX4_watch_38 rfl (lv_at hl 0 rfl) ?_
  refine va_get (D := D) (ci := 4) (v := .ref (q 13)) (C := RX4) (T := TX4) (N := 26) hx hb htA uwX4 hown hKK.1 hP 0 rfl rfl 14 (by decide) (htA _ wd_659) (fun _ h9 => h9) rfl dX4_watch_39 ?_
  refine lv_iload_n hx hb dX4_watch_42 rfl (lv_at hl 1 rfl) ?_
  refine lv_iload_n hx hb dX4_watch_43 rfl (lv_at hl 2 rfl) ?_
  refine n_iast (g := μ 13) (cA := cI) (n := 2) (j := 1) (v := b0) hx hb hKK.1 hP (D_addr hD rfl) hS 13 0 rfl rfl (by decide) (Nat.le_of_ble_eq_true rfl) dX4_watch_44 (fun H locs hP hS => ?_)
  have hP : va_P D vwCl (wM q cI cZ (su (sv μ 0 2 (0)) 13 (upN (μ 13) (1) (b0)))) H := hP
  refine lv_aload_n hx hb dX4_watch_45 rfl (lv_at hl 0 rfl) ?_
  refine va_get (D := D) (ci := 4) (v := .ref (q 14)) (C := RX4) (T := TX4) (N := 26) hx hb htA uwX4 hown hKK.1 hP 0 rfl rfl 15 (by decide) (htA _ wd_660) (fun _ h9 => h9) rfl dX4_watch_46 ?_
  refine lv_iload_n hx hb dX4_watch_49 rfl (lv_at hl 1 rfl) ?_
  refine lv_iload_n hx hb dX4_watch_50 rfl (lv_at hl 3 rfl) ?_
  refine n_iast (g := μ 14) (cA := cI) (n := 2) (j := 1) (v := wd) hx hb hKK.1 hP (D_addr hD rfl) hS 14 0 rfl rfl (by decide) (Nat.le_of_ble_eq_true rfl) dX4_watch_51 (fun H locs hP hS => ?_)
  have hP : va_P D vwCl (wM q cI cZ (su (su (sv μ 0 2 (0)) 13 (upN (μ 13) (1) (b0))) 14 (upN (μ 14) (1) (wd)))) H := hP
  exact wr_v hx hb hr hlocks hP hS dX4_watch_52
set_option maxHeartbeats 4000000 in
set_option maxRecDepth 100000 in
theorem r_stateOf_bad (l : Launch) (D : va_G) (cI cZ : ClassId) (sa : Nat → Nat) (q : Nat → Nat) (μ : ST) (x : Int32) (A : Nat → Prop) (hD : va_D A (wM q cI cZ μ)) (hbad : iw (x) (nI (0)) (nI (1)) = false) : Met l yX4_stateOf (codeW yX4_stateOf cX4_stateOf 2 (some .int)) ({ frames := 2, cells := 0, slots := 0, locals := 42 } : Room) (WrP D cI cZ sa (wM q cI cZ μ) [.ref (q 0), .int (x)]) (WrQ (some (.int (nI (0)))) D (wM q cI cZ (sv μ 0 2 1)) A) 0 0 A := by
  refine Met.ofW (cc := cX4_stateOf) (maxL := 2) (ret := (some .int)) (by decide) rfl ?_
  intro p e s m args below meth c s₁ B hml hv
  obtain ⟨rfl, hH, hKK⟩ := hv
  have hx := B.exec
  have hb := B.bytes
  have hr := B.returns
  have htA : ∀ w ∈ WA, w.before _ s = true := fun w h => atoms_spec (ws := (codeW yX4_stateOf cX4_stateOf 2 (some .int))) B.pre w (List.mem_cons_of_mem _ h)
  have hown : s.vm.findClass RX4 = some m.cls := findClass_of_methodNamed B.named
  have hlocks := B.notSynchronized
  have hP := hH
  have hS : va_S A s.heap s.heap [] := va_S.rf
  have hl := lv_entry ([.ref (q 0), .int (x)]) (n := 2) (Nat.le_of_ble_eq_true rfl)
  rw [lg_entry_eq]
  generalize (lg_sl ([.ref (q 0), .int (x)]) ++ List.replicate (2 - (lg_sl ([.ref (q 0), .int (x)])).length) Slot.unset).toArray = ls at hl ⊢
  have hl : lv_has ls 2 [(0, .ref (q 0)), (1, .int (x))] := hl
  refine lv_aload_n hx hb dX4_stateOf_0 rfl (lv_at hl 0 rfl) ?_
  refine lv_iload_n hx hb dX4_stateOf_1 rfl (lv_at hl 1 rfl) ?_
  refine roS1 (v := .int (b2i (iw (x) (nI (0)) (nI (1))))) (As := [.int (x)]) (rest := [.ref (q 0)]) (n := 1) ⟨hx, hb, hml, hown, htA⟩ (m_isClient l D cI cZ sa (x) s.heap ) (va_cwS 1 htA (gdS wd_873 wd_874 wd_5 wd_875) rfl rfl rfl (by decide +kernel) ⟨Nat.le_of_ble_eq_true rfl, Nat.le_of_ble_eq_true rfl⟩) hKK rfl hl.1 rfl (Nat.le_of_ble_eq_true rfl) dX4_stateOf_2 (Nat.zero_le _) (Nat.zero_le _) ?_
  refine b_ifeq (b := iw (x) (nI (0)) (nI (1))) (tgt := 12) hx hb dX4_stateOf_5 (by decide) (fun c_1 => ?_) (fun c_1 => ?_)
  rotate_left
  · exact absurd (c_1.symm.trans hbad) (by decide)
  refine n_iconst (k := 1) hx hb dX4_stateOf_12 (by decide) ?_
  refine wrV1 (v := .int (b2i (false))) (As := [.int (nI (1))]) (rest := []) (n := 1) ⟨hx, hb, hml, hown, htA⟩ (m_unfine l D cI cZ sa q μ 1 A (D_addr hD rfl) (by decide) (by decide)) (cwV 1 htA (gdV wd_735 wd_737 wp_9 wd_5 wd_738) rfl rfl rfl (by decide +kernel) ⟨Nat.le_of_ble_eq_true rfl, Nat.le_of_ble_eq_true rfl⟩) hKK hP 0 rfl rfl rfl hl.1 rfl (Nat.le_of_ble_eq_true rfl) dX4_stateOf_13 (Nat.zero_le _) (Nat.zero_le _) hS (fun _ h => h) (fun H1 locs hP1 hz1 hk1 hS => ?_)
  have hP : va_P D vwCl (wM q cI cZ (sv μ 0 2 (1))) H1 := hP1
  generalize H1 = H at hP hS ⊢
  refine b_ifeq (b := false) (tgt := 28) hx hb dX4_stateOf_16 (by decide) (fun c_2 => ?_) (fun c_2 => ?_)
  rotate_left
  · exact absurd c_2 (by decide)
  refine n_iconst (k := 0) hx hb dX4_stateOf_28 (by decide) ?_
  exact wr_i hx hb hr hlocks (rfl) hP hS dX4_stateOf_29
set_option maxHeartbeats 4000000 in
set_option maxRecDepth 100000 in
theorem r_stateOf_0 (l : Launch) (D : va_G) (cI cZ : ClassId) (sa : Nat → Nat) (q : Nat → Nat) (μ : ST)  (A : Nat → Prop) (hD : va_D A (wM q cI cZ μ))  : Met l yX4_stateOf (codeW yX4_stateOf cX4_stateOf 2 (some .int)) ({ frames := 2, cells := 0, slots := 0, locals := 42 } : Room) (WrP D cI cZ sa (wM q cI cZ μ) [.ref (q 0), .int (nI (0))]) (WrQ (some (.int (nI (μ 15 0)))) D (wM q cI cZ (sv μ 0 2 0)) A) 0 0 A := by
  refine Met.ofW (cc := cX4_stateOf) (maxL := 2) (ret := (some .int)) (by decide) rfl ?_
  intro p e s m args below meth c s₁ B hml hv
  obtain ⟨rfl, hH, hKK⟩ := hv
  have hx := B.exec
  have hb := B.bytes
  have hr := B.returns
  have htA : ∀ w ∈ WA, w.before _ s = true := fun w h => atoms_spec (ws := (codeW yX4_stateOf cX4_stateOf 2 (some .int))) B.pre w (List.mem_cons_of_mem _ h)
  have hown : s.vm.findClass RX4 = some m.cls := findClass_of_methodNamed B.named
  have hlocks := B.notSynchronized
  have hP := hH
  have hS : va_S A s.heap s.heap [] := va_S.rf
  have hl := lv_entry ([.ref (q 0), .int (nI (0))]) (n := 2) (Nat.le_of_ble_eq_true rfl)
  rw [lg_entry_eq]
  generalize (lg_sl ([.ref (q 0), .int (nI (0))]) ++ List.replicate (2 - (lg_sl ([.ref (q 0), .int (nI (0))])).length) Slot.unset).toArray = ls at hl ⊢
  have hl : lv_has ls 2 [(0, .ref (q 0)), (1, .int (nI (0)))] := hl
  refine lv_aload_n hx hb dX4_stateOf_0 rfl (lv_at hl 0 rfl) ?_
  refine lv_iload_n hx hb dX4_stateOf_1 rfl (lv_at hl 1 rfl) ?_
  refine roS1 (v := .int (b2i (iw (nI (0)) (nI (0)) (nI (1))))) (As := [.int (nI (0))]) (rest := [.ref (q 0)]) (n := 1) ⟨hx, hb, hml, hown, htA⟩ (m_isClient l D cI cZ sa (nI (0)) s.heap ) (va_cwS 1 htA (gdS wd_873 wd_874 wd_5 wd_875) rfl rfl rfl (by decide +kernel) ⟨Nat.le_of_ble_eq_true rfl, Nat.le_of_ble_eq_true rfl⟩) hKK rfl hl.1 rfl (Nat.le_of_ble_eq_true rfl) dX4_stateOf_2 (Nat.zero_le _) (Nat.zero_le _) ?_
  refine b_ifeq (b := iw (nI (0)) (nI (0)) (nI (1))) (tgt := 12) hx hb dX4_stateOf_5 (by decide) (fun c_1 => ?_) (fun c_1 => ?_)
  · exact absurd (c_1.symm.trans (iw_n (by decide) (by decide) (by decide))) (by decide)
  refine n_iconst (k := 0) hx hb dX4_stateOf_8 (by decide) ?_
  refine lv_goto (tgt := 13) hx hb dX4_stateOf_9 (by decide) ?_
  refine wrV1 (v := .int (b2i (true))) (As := [.int (nI (0))]) (rest := []) (n := 1) ⟨hx, hb, hml, hown, htA⟩ (m_fine l D cI cZ sa q μ A (D_addr hD rfl) ) (cwV 1 htA (gdV wd_735 wd_737 wp_9 wd_5 wd_738) rfl rfl rfl (by decide +kernel) ⟨Nat.le_of_ble_eq_true rfl, Nat.le_of_ble_eq_true rfl⟩) hKK hP 0 rfl rfl rfl hl.1 rfl (Nat.le_of_ble_eq_true rfl) dX4_stateOf_13 (Nat.zero_le _) (Nat.zero_le _) hS (fun _ h => h) (fun H1 locs hP1 hz1 hk1 hS => ?_)
  have hP : va_P D vwCl (wM q cI cZ (sv μ 0 2 (0))) H1 := hP1
  generalize H1 = H at hP hS ⊢
  refine b_ifeq (b := true) (tgt := 28) hx hb dX4_stateOf_16 (by decide) (fun c_2 => ?_) (fun c_2 => ?_)
  · exact absurd c_2 (by decide)
  refine lv_aload_n hx hb dX4_stateOf_19 rfl (lv_at hl 0 rfl) ?_
  refine va_get (D := D) (ci := 4) (v := .ref (q 15)) (C := RX4) (T := TX4) (N := 26) hx hb htA uwX4 hown hKK.1 hP 0 rfl rfl 16 (by decide) (htA _ wd_661) (fun _ h9 => h9) rfl dX4_stateOf_20 ?_
  refine lv_iload_n hx hb dX4_stateOf_23 rfl (lv_at hl 1 rfl) ?_
  refine n_iald (g := μ 15) (cA := cI) (n := 2) (j := 0) hx hb hKK.1 hP 15 0 rfl rfl (by decide) (Nat.le_of_ble_eq_true rfl) dX4_stateOf_24 ?_
  refine lv_goto (tgt := 29) hx hb dX4_stateOf_25 (by decide) ?_
  exact wr_i hx hb hr hlocks (rfl) hP hS dX4_stateOf_29
set_option maxHeartbeats 4000000 in
set_option maxRecDepth 100000 in
theorem r_stateOf_1 (l : Launch) (D : va_G) (cI cZ : ClassId) (sa : Nat → Nat) (q : Nat → Nat) (μ : ST)  (A : Nat → Prop) (hD : va_D A (wM q cI cZ μ))  : Met l yX4_stateOf (codeW yX4_stateOf cX4_stateOf 2 (some .int)) ({ frames := 2, cells := 0, slots := 0, locals := 42 } : Room) (WrP D cI cZ sa (wM q cI cZ μ) [.ref (q 0), .int (nI (1))]) (WrQ (some (.int (nI (μ 15 1)))) D (wM q cI cZ (sv μ 0 2 0)) A) 0 0 A := by
  refine Met.ofW (cc := cX4_stateOf) (maxL := 2) (ret := (some .int)) (by decide) rfl ?_
  intro p e s m args below meth c s₁ B hml hv
  obtain ⟨rfl, hH, hKK⟩ := hv
  have hx := B.exec
  have hb := B.bytes
  have hr := B.returns
  have htA : ∀ w ∈ WA, w.before _ s = true := fun w h => atoms_spec (ws := (codeW yX4_stateOf cX4_stateOf 2 (some .int))) B.pre w (List.mem_cons_of_mem _ h)
  have hown : s.vm.findClass RX4 = some m.cls := findClass_of_methodNamed B.named
  have hlocks := B.notSynchronized
  have hP := hH
  have hS : va_S A s.heap s.heap [] := va_S.rf
  have hl := lv_entry ([.ref (q 0), .int (nI (1))]) (n := 2) (Nat.le_of_ble_eq_true rfl)
  rw [lg_entry_eq]
  generalize (lg_sl ([.ref (q 0), .int (nI (1))]) ++ List.replicate (2 - (lg_sl ([.ref (q 0), .int (nI (1))])).length) Slot.unset).toArray = ls at hl ⊢
  have hl : lv_has ls 2 [(0, .ref (q 0)), (1, .int (nI (1)))] := hl
  refine lv_aload_n hx hb dX4_stateOf_0 rfl (lv_at hl 0 rfl) ?_
  refine lv_iload_n hx hb dX4_stateOf_1 rfl (lv_at hl 1 rfl) ?_
  refine roS1 (v := .int (b2i (iw (nI (1)) (nI (0)) (nI (1))))) (As := [.int (nI (1))]) (rest := [.ref (q 0)]) (n := 1) ⟨hx, hb, hml, hown, htA⟩ (m_isClient l D cI cZ sa (nI (1)) s.heap ) (va_cwS 1 htA (gdS wd_873 wd_874 wd_5 wd_875) rfl rfl rfl (by decide +kernel) ⟨Nat.le_of_ble_eq_true rfl, Nat.le_of_ble_eq_true rfl⟩) hKK rfl hl.1 rfl (Nat.le_of_ble_eq_true rfl) dX4_stateOf_2 (Nat.zero_le _) (Nat.zero_le _) ?_
  refine b_ifeq (b := iw (nI (1)) (nI (0)) (nI (1))) (tgt := 12) hx hb dX4_stateOf_5 (by decide) (fun c_1 => ?_) (fun c_1 => ?_)
  · exact absurd (c_1.symm.trans (iw_n (by decide) (by decide) (by decide))) (by decide)
  refine n_iconst (k := 0) hx hb dX4_stateOf_8 (by decide) ?_
  refine lv_goto (tgt := 13) hx hb dX4_stateOf_9 (by decide) ?_
  refine wrV1 (v := .int (b2i (true))) (As := [.int (nI (0))]) (rest := []) (n := 1) ⟨hx, hb, hml, hown, htA⟩ (m_fine l D cI cZ sa q μ A (D_addr hD rfl) ) (cwV 1 htA (gdV wd_735 wd_737 wp_9 wd_5 wd_738) rfl rfl rfl (by decide +kernel) ⟨Nat.le_of_ble_eq_true rfl, Nat.le_of_ble_eq_true rfl⟩) hKK hP 0 rfl rfl rfl hl.1 rfl (Nat.le_of_ble_eq_true rfl) dX4_stateOf_13 (Nat.zero_le _) (Nat.zero_le _) hS (fun _ h => h) (fun H1 locs hP1 hz1 hk1 hS => ?_)
  have hP : va_P D vwCl (wM q cI cZ (sv μ 0 2 (0))) H1 := hP1
  generalize H1 = H at hP hS ⊢
  refine b_ifeq (b := true) (tgt := 28) hx hb dX4_stateOf_16 (by decide) (fun c_2 => ?_) (fun c_2 => ?_)
  · exact absurd c_2 (by decide)
  refine lv_aload_n hx hb dX4_stateOf_19 rfl (lv_at hl 0 rfl) ?_
  refine va_get (D := D) (ci := 4) (v := .ref (q 15)) (C := RX4) (T := TX4) (N := 26) hx hb htA uwX4 hown hKK.1 hP 0 rfl rfl 16 (by decide) (htA _ wd_661) (fun _ h9 => h9) rfl dX4_stateOf_20 ?_
  refine lv_iload_n hx hb dX4_stateOf_23 rfl (lv_at hl 1 rfl) ?_
  refine n_iald (g := μ 15) (cA := cI) (n := 2) (j := 1) hx hb hKK.1 hP 15 0 rfl rfl (by decide) (Nat.le_of_ble_eq_true rfl) dX4_stateOf_24 ?_
  refine lv_goto (tgt := 29) hx hb dX4_stateOf_25 (by decide) ?_
  exact wr_i hx hb hr hlocks (rfl) hP hS dX4_stateOf_29
set_option maxHeartbeats 4000000 in
set_option maxRecDepth 100000 in
theorem r_window_bad (l : Launch) (D : va_G) (cI cZ : ClassId) (sa : Nat → Nat) (q : Nat → Nat) (μ : ST) (x : Int32) (A : Nat → Prop) (hD : va_D A (wM q cI cZ μ)) (hbad : iw (x) (nI (0)) (nI (1)) = false) : Met l yX4_window (codeW yX4_window cX4_window 2 (some .int)) ({ frames := 2, cells := 0, slots := 0, locals := 42 } : Room) (WrP D cI cZ sa (wM q cI cZ μ) [.ref (q 0), .int (x)]) (WrQ (some (.int (nI (0)))) D (wM q cI cZ (sv μ 0 2 1)) A) 0 0 A := by
  refine Met.ofW (cc := cX4_window) (maxL := 2) (ret := (some .int)) (by decide) rfl ?_
  intro p e s m args below meth c s₁ B hml hv
  obtain ⟨rfl, hH, hKK⟩ := hv
  have hx := B.exec
  have hb := B.bytes
  have hr := B.returns
  have htA : ∀ w ∈ WA, w.before _ s = true := fun w h => atoms_spec (ws := (codeW yX4_window cX4_window 2 (some .int))) B.pre w (List.mem_cons_of_mem _ h)
  have hown : s.vm.findClass RX4 = some m.cls := findClass_of_methodNamed B.named
  have hlocks := B.notSynchronized
  have hP := hH
  have hS : va_S A s.heap s.heap [] := va_S.rf
  have hl := lv_entry ([.ref (q 0), .int (x)]) (n := 2) (Nat.le_of_ble_eq_true rfl)
  rw [lg_entry_eq]
  generalize (lg_sl ([.ref (q 0), .int (x)]) ++ List.replicate (2 - (lg_sl ([.ref (q 0), .int (x)])).length) Slot.unset).toArray = ls at hl ⊢
  have hl : lv_has ls 2 [(0, .ref (q 0)), (1, .int (x))] := hl
  refine lv_aload_n hx hb dX4_window_0 rfl (lv_at hl 0 rfl) ?_
  refine lv_iload_n hx hb dX4_window_1 rfl (lv_at hl 1 rfl) ?_
  refine roS1 (v := .int (b2i (iw (x) (nI (0)) (nI (1))))) (As := [.int (x)]) (rest := [.ref (q 0)]) (n := 1) ⟨hx, hb, hml, hown, htA⟩ (m_isClient l D cI cZ sa (x) s.heap ) (va_cwS 1 htA (gdS wd_873 wd_874 wd_5 wd_875) rfl rfl rfl (by decide +kernel) ⟨Nat.le_of_ble_eq_true rfl, Nat.le_of_ble_eq_true rfl⟩) hKK rfl hl.1 rfl (Nat.le_of_ble_eq_true rfl) dX4_window_2 (Nat.zero_le _) (Nat.zero_le _) ?_
  refine b_ifeq (b := iw (x) (nI (0)) (nI (1))) (tgt := 12) hx hb dX4_window_5 (by decide) (fun c_1 => ?_) (fun c_1 => ?_)
  rotate_left
  · exact absurd (c_1.symm.trans hbad) (by decide)
  refine n_iconst (k := 1) hx hb dX4_window_12 (by decide) ?_
  refine wrV1 (v := .int (b2i (false))) (As := [.int (nI (1))]) (rest := []) (n := 1) ⟨hx, hb, hml, hown, htA⟩ (m_unfine l D cI cZ sa q μ 1 A (D_addr hD rfl) (by decide) (by decide)) (cwV 1 htA (gdV wd_735 wd_737 wp_9 wd_5 wd_738) rfl rfl rfl (by decide +kernel) ⟨Nat.le_of_ble_eq_true rfl, Nat.le_of_ble_eq_true rfl⟩) hKK hP 0 rfl rfl rfl hl.1 rfl (Nat.le_of_ble_eq_true rfl) dX4_window_13 (Nat.zero_le _) (Nat.zero_le _) hS (fun _ h => h) (fun H1 locs hP1 hz1 hk1 hS => ?_)
  have hP : va_P D vwCl (wM q cI cZ (sv μ 0 2 (1))) H1 := hP1
  generalize H1 = H at hP hS ⊢
  refine b_ifeq (b := false) (tgt := 28) hx hb dX4_window_16 (by decide) (fun c_2 => ?_) (fun c_2 => ?_)
  rotate_left
  · exact absurd c_2 (by decide)
  refine n_iconst (k := 0) hx hb dX4_window_28 (by decide) ?_
  exact wr_i hx hb hr hlocks (rfl) hP hS dX4_window_29
set_option maxHeartbeats 4000000 in
set_option maxRecDepth 100000 in
theorem r_window_0 (l : Launch) (D : va_G) (cI cZ : ClassId) (sa : Nat → Nat) (q : Nat → Nat) (μ : ST)  (A : Nat → Prop) (hD : va_D A (wM q cI cZ μ))  : Met l yX4_window (codeW yX4_window cX4_window 2 (some .int)) ({ frames := 2, cells := 0, slots := 0, locals := 42 } : Room) (WrP D cI cZ sa (wM q cI cZ μ) [.ref (q 0), .int (nI (0))]) (WrQ (some (.int (nI (μ 16 0)))) D (wM q cI cZ (sv μ 0 2 0)) A) 0 0 A := by
  refine Met.ofW (cc := cX4_window) (maxL := 2) (ret := (some .int)) (by decide) rfl ?_
  intro p e s m args below meth c s₁ B hml hv
  obtain ⟨rfl, hH, hKK⟩ := hv
  have hx := B.exec
  have hb := B.bytes
  have hr := B.returns
  have htA : ∀ w ∈ WA, w.before _ s = true := fun w h => atoms_spec (ws := (codeW yX4_window cX4_window 2 (some .int))) B.pre w (List.mem_cons_of_mem _ h)
  have hown : s.vm.findClass RX4 = some m.cls := findClass_of_methodNamed B.named
  have hlocks := B.notSynchronized
  have hP := hH
  have hS : va_S A s.heap s.heap [] := va_S.rf
  have hl := lv_entry ([.ref (q 0), .int (nI (0))]) (n := 2) (Nat.le_of_ble_eq_true rfl)
  rw [lg_entry_eq]
  generalize (lg_sl ([.ref (q 0), .int (nI (0))]) ++ List.replicate (2 - (lg_sl ([.ref (q 0), .int (nI (0))])).length) Slot.unset).toArray = ls at hl ⊢
  have hl : lv_has ls 2 [(0, .ref (q 0)), (1, .int (nI (0)))] := hl
  refine lv_aload_n hx hb dX4_window_0 rfl (lv_at hl 0 rfl) ?_
  refine lv_iload_n hx hb dX4_window_1 rfl (lv_at hl 1 rfl) ?_
  refine roS1 (v := .int (b2i (iw (nI (0)) (nI (0)) (nI (1))))) (As := [.int (nI (0))]) (rest := [.ref (q 0)]) (n := 1) ⟨hx, hb, hml, hown, htA⟩ (m_isClient l D cI cZ sa (nI (0)) s.heap ) (va_cwS 1 htA (gdS wd_873 wd_874 wd_5 wd_875) rfl rfl rfl (by decide +kernel) ⟨Nat.le_of_ble_eq_true rfl, Nat.le_of_ble_eq_true rfl⟩) hKK rfl hl.1 rfl (Nat.le_of_ble_eq_true rfl) dX4_window_2 (Nat.zero_le _) (Nat.zero_le _) ?_
  refine b_ifeq (b := iw (nI (0)) (nI (0)) (nI (1))) (tgt := 12) hx hb dX4_window_5 (by decide) (fun c_1 => ?_) (fun c_1 => ?_)
  · exact absurd (c_1.symm.trans (iw_n (by decide) (by decide) (by decide))) (by decide)
  refine n_iconst (k := 0) hx hb dX4_window_8 (by decide) ?_
  refine lv_goto (tgt := 13) hx hb dX4_window_9 (by decide) ?_
  refine wrV1 (v := .int (b2i (true))) (As := [.int (nI (0))]) (rest := []) (n := 1) ⟨hx, hb, hml, hown, htA⟩ (m_fine l D cI cZ sa q μ A (D_addr hD rfl) ) (cwV 1 htA (gdV wd_735 wd_737 wp_9 wd_5 wd_738) rfl rfl rfl (by decide +kernel) ⟨Nat.le_of_ble_eq_true rfl, Nat.le_of_ble_eq_true rfl⟩) hKK hP 0 rfl rfl rfl hl.1 rfl (Nat.le_of_ble_eq_true rfl) dX4_window_13 (Nat.zero_le _) (Nat.zero_le _) hS (fun _ h => h) (fun H1 locs hP1 hz1 hk1 hS => ?_)
  have hP : va_P D vwCl (wM q cI cZ (sv μ 0 2 (0))) H1 := hP1
  generalize H1 = H at hP hS ⊢
  refine b_ifeq (b := true) (tgt := 28) hx hb dX4_window_16 (by decide) (fun c_2 => ?_) (fun c_2 => ?_)
  · exact absurd c_2 (by decide)
  refine lv_aload_n hx hb dX4_window_19 rfl (lv_at hl 0 rfl) ?_
  refine va_get (D := D) (ci := 4) (v := .ref (q 16)) (C := RX4) (T := TX4) (N := 26) hx hb htA uwX4 hown hKK.1 hP 0 rfl rfl 17 (by decide) (htA _ wd_662) (fun _ h9 => h9) rfl dX4_window_20 ?_
  refine lv_iload_n hx hb dX4_window_23 rfl (lv_at hl 1 rfl) ?_
  refine n_iald (g := μ 16) (cA := cI) (n := 2) (j := 0) hx hb hKK.1 hP 16 0 rfl rfl (by decide) (Nat.le_of_ble_eq_true rfl) dX4_window_24 ?_
  refine lv_goto (tgt := 29) hx hb dX4_window_25 (by decide) ?_
  exact wr_i hx hb hr hlocks (rfl) hP hS dX4_window_29
set_option maxHeartbeats 4000000 in
set_option maxRecDepth 100000 in
theorem r_window_1 (l : Launch) (D : va_G) (cI cZ : ClassId) (sa : Nat → Nat) (q : Nat → Nat) (μ : ST)  (A : Nat → Prop) (hD : va_D A (wM q cI cZ μ))  : Met l yX4_window (codeW yX4_window cX4_window 2 (some .int)) ({ frames := 2, cells := 0, slots := 0, locals := 42 } : Room) (WrP D cI cZ sa (wM q cI cZ μ) [.ref (q 0), .int (nI (1))]) (WrQ (some (.int (nI (μ 16 1)))) D (wM q cI cZ (sv μ 0 2 0)) A) 0 0 A := by
  refine Met.ofW (cc := cX4_window) (maxL := 2) (ret := (some .int)) (by decide) rfl ?_
  intro p e s m args below meth c s₁ B hml hv
  obtain ⟨rfl, hH, hKK⟩ := hv
  have hx := B.exec
  have hb := B.bytes
  have hr := B.returns
  have htA : ∀ w ∈ WA, w.before _ s = true := fun w h => atoms_spec (ws := (codeW yX4_window cX4_window 2 (some .int))) B.pre w (List.mem_cons_of_mem _ h)
  have hown : s.vm.findClass RX4 = some m.cls := findClass_of_methodNamed B.named
  have hlocks := B.notSynchronized
  have hP := hH
  have hS : va_S A s.heap s.heap [] := va_S.rf
  have hl := lv_entry ([.ref (q 0), .int (nI (1))]) (n := 2) (Nat.le_of_ble_eq_true rfl)
  rw [lg_entry_eq]
  generalize (lg_sl ([.ref (q 0), .int (nI (1))]) ++ List.replicate (2 - (lg_sl ([.ref (q 0), .int (nI (1))])).length) Slot.unset).toArray = ls at hl ⊢
  have hl : lv_has ls 2 [(0, .ref (q 0)), (1, .int (nI (1)))] := hl
  refine lv_aload_n hx hb dX4_window_0 rfl (lv_at hl 0 rfl) ?_
  refine lv_iload_n hx hb dX4_window_1 rfl (lv_at hl 1 rfl) ?_
  refine roS1 (v := .int (b2i (iw (nI (1)) (nI (0)) (nI (1))))) (As := [.int (nI (1))]) (rest := [.ref (q 0)]) (n := 1) ⟨hx, hb, hml, hown, htA⟩ (m_isClient l D cI cZ sa (nI (1)) s.heap ) (va_cwS 1 htA (gdS wd_873 wd_874 wd_5 wd_875) rfl rfl rfl (by decide +kernel) ⟨Nat.le_of_ble_eq_true rfl, Nat.le_of_ble_eq_true rfl⟩) hKK rfl hl.1 rfl (Nat.le_of_ble_eq_true rfl) dX4_window_2 (Nat.zero_le _) (Nat.zero_le _) ?_
  refine b_ifeq (b := iw (nI (1)) (nI (0)) (nI (1))) (tgt := 12) hx hb dX4_window_5 (by decide) (fun c_1 => ?_) (fun c_1 => ?_)
  · exact absurd (c_1.symm.trans (iw_n (by decide) (by decide) (by decide))) (by decide)
  refine n_iconst (k := 0) hx hb dX4_window_8 (by decide) ?_
  refine lv_goto (tgt := 13) hx hb dX4_window_9 (by decide) ?_
  refine wrV1 (v := .int (b2i (true))) (As := [.int (nI (0))]) (rest := []) (n := 1) ⟨hx, hb, hml, hown, htA⟩ (m_fine l D cI cZ sa q μ A (D_addr hD rfl) ) (cwV 1 htA (gdV wd_735 wd_737 wp_9 wd_5 wd_738) rfl rfl rfl (by decide +kernel) ⟨Nat.le_of_ble_eq_true rfl, Nat.le_of_ble_eq_true rfl⟩) hKK hP 0 rfl rfl rfl hl.1 rfl (Nat.le_of_ble_eq_true rfl) dX4_window_13 (Nat.zero_le _) (Nat.zero_le _) hS (fun _ h => h) (fun H1 locs hP1 hz1 hk1 hS => ?_)
  have hP : va_P D vwCl (wM q cI cZ (sv μ 0 2 (0))) H1 := hP1
  generalize H1 = H at hP hS ⊢
  refine b_ifeq (b := true) (tgt := 28) hx hb dX4_window_16 (by decide) (fun c_2 => ?_) (fun c_2 => ?_)
  · exact absurd c_2 (by decide)
  refine lv_aload_n hx hb dX4_window_19 rfl (lv_at hl 0 rfl) ?_
  refine va_get (D := D) (ci := 4) (v := .ref (q 16)) (C := RX4) (T := TX4) (N := 26) hx hb htA uwX4 hown hKK.1 hP 0 rfl rfl 17 (by decide) (htA _ wd_662) (fun _ h9 => h9) rfl dX4_window_20 ?_
  refine lv_iload_n hx hb dX4_window_23 rfl (lv_at hl 1 rfl) ?_
  refine n_iald (g := μ 16) (cA := cI) (n := 2) (j := 1) hx hb hKK.1 hP 16 0 rfl rfl (by decide) (Nat.le_of_ble_eq_true rfl) dX4_window_24 ?_
  refine lv_goto (tgt := 29) hx hb dX4_window_25 (by decide) ?_
  exact wr_i hx hb hr hlocks (rfl) hP hS dX4_window_29
set_option maxHeartbeats 4000000 in
set_option maxRecDepth 100000 in
theorem r_freshLoads_bad (l : Launch) (D : va_G) (cI cZ : ClassId) (sa : Nat → Nat) (q : Nat → Nat) (μ : ST) (x : Int32) (A : Nat → Prop) (hD : va_D A (wM q cI cZ μ)) (hbad : iw (x) (nI (0)) (nI (1)) = false) : Met l yX4_freshLoads (codeW yX4_freshLoads cX4_freshLoads 2 (some .int)) ({ frames := 2, cells := 0, slots := 0, locals := 42 } : Room) (WrP D cI cZ sa (wM q cI cZ μ) [.ref (q 0), .int (x)]) (WrQ (some (.int (nI (0)))) D (wM q cI cZ (sv μ 0 2 1)) A) 0 0 A := by
  refine Met.ofW (cc := cX4_freshLoads) (maxL := 2) (ret := (some .int)) (by decide) rfl ?_
  intro p e s m args below meth c s₁ B hml hv
  obtain ⟨rfl, hH, hKK⟩ := hv
  have hx := B.exec
  have hb := B.bytes
  have hr := B.returns
  have htA : ∀ w ∈ WA, w.before _ s = true := fun w h => atoms_spec (ws := (codeW yX4_freshLoads cX4_freshLoads 2 (some .int))) B.pre w (List.mem_cons_of_mem _ h)
  have hown : s.vm.findClass RX4 = some m.cls := findClass_of_methodNamed B.named
  have hlocks := B.notSynchronized
  have hP := hH
  have hS : va_S A s.heap s.heap [] := va_S.rf
  have hl := lv_entry ([.ref (q 0), .int (x)]) (n := 2) (Nat.le_of_ble_eq_true rfl)
  rw [lg_entry_eq]
  generalize (lg_sl ([.ref (q 0), .int (x)]) ++ List.replicate (2 - (lg_sl ([.ref (q 0), .int (x)])).length) Slot.unset).toArray = ls at hl ⊢
  have hl : lv_has ls 2 [(0, .ref (q 0)), (1, .int (x))] := hl
  refine lv_aload_n hx hb dX4_freshLoads_0 rfl (lv_at hl 0 rfl) ?_
  refine lv_iload_n hx hb dX4_freshLoads_1 rfl (lv_at hl 1 rfl) ?_
  refine roS1 (v := .int (b2i (iw (x) (nI (0)) (nI (1))))) (As := [.int (x)]) (rest := [.ref (q 0)]) (n := 1) ⟨hx, hb, hml, hown, htA⟩ (m_isClient l D cI cZ sa (x) s.heap ) (va_cwS 1 htA (gdS wd_873 wd_874 wd_5 wd_875) rfl rfl rfl (by decide +kernel) ⟨Nat.le_of_ble_eq_true rfl, Nat.le_of_ble_eq_true rfl⟩) hKK rfl hl.1 rfl (Nat.le_of_ble_eq_true rfl) dX4_freshLoads_2 (Nat.zero_le _) (Nat.zero_le _) ?_
  refine b_ifeq (b := iw (x) (nI (0)) (nI (1))) (tgt := 12) hx hb dX4_freshLoads_5 (by decide) (fun c_1 => ?_) (fun c_1 => ?_)
  rotate_left
  · exact absurd (c_1.symm.trans hbad) (by decide)
  refine n_iconst (k := 1) hx hb dX4_freshLoads_12 (by decide) ?_
  refine wrV1 (v := .int (b2i (false))) (As := [.int (nI (1))]) (rest := []) (n := 1) ⟨hx, hb, hml, hown, htA⟩ (m_unfine l D cI cZ sa q μ 1 A (D_addr hD rfl) (by decide) (by decide)) (cwV 1 htA (gdV wd_735 wd_737 wp_9 wd_5 wd_738) rfl rfl rfl (by decide +kernel) ⟨Nat.le_of_ble_eq_true rfl, Nat.le_of_ble_eq_true rfl⟩) hKK hP 0 rfl rfl rfl hl.1 rfl (Nat.le_of_ble_eq_true rfl) dX4_freshLoads_13 (Nat.zero_le _) (Nat.zero_le _) hS (fun _ h => h) (fun H1 locs hP1 hz1 hk1 hS => ?_)
  have hP : va_P D vwCl (wM q cI cZ (sv μ 0 2 (1))) H1 := hP1
  generalize H1 = H at hP hS ⊢
  refine b_ifeq (b := false) (tgt := 28) hx hb dX4_freshLoads_16 (by decide) (fun c_2 => ?_) (fun c_2 => ?_)
  rotate_left
  · exact absurd c_2 (by decide)
  refine n_iconst (k := 0) hx hb dX4_freshLoads_28 (by decide) ?_
  exact wr_i hx hb hr hlocks (rfl) hP hS dX4_freshLoads_29
set_option maxHeartbeats 4000000 in
set_option maxRecDepth 100000 in
theorem r_freshLoads_0 (l : Launch) (D : va_G) (cI cZ : ClassId) (sa : Nat → Nat) (q : Nat → Nat) (μ : ST)  (A : Nat → Prop) (hD : va_D A (wM q cI cZ μ))  : Met l yX4_freshLoads (codeW yX4_freshLoads cX4_freshLoads 2 (some .int)) ({ frames := 2, cells := 0, slots := 0, locals := 42 } : Room) (WrP D cI cZ sa (wM q cI cZ μ) [.ref (q 0), .int (nI (0))]) (WrQ (some (.int (nI (μ 23 0)))) D (wM q cI cZ (sv μ 0 2 0)) A) 0 0 A := by
  refine Met.ofW (cc := cX4_freshLoads) (maxL := 2) (ret := (some .int)) (by decide) rfl ?_
  intro p e s m args below meth c s₁ B hml hv
  obtain ⟨rfl, hH, hKK⟩ := hv
  have hx := B.exec
  have hb := B.bytes
  have hr := B.returns
  have htA : ∀ w ∈ WA, w.before _ s = true := fun w h => atoms_spec (ws := (codeW yX4_freshLoads cX4_freshLoads 2 (some .int))) B.pre w (List.mem_cons_of_mem _ h)
  have hown : s.vm.findClass RX4 = some m.cls := findClass_of_methodNamed B.named
  have hlocks := B.notSynchronized
  have hP := hH
  have hS : va_S A s.heap s.heap [] := va_S.rf
  have hl := lv_entry ([.ref (q 0), .int (nI (0))]) (n := 2) (Nat.le_of_ble_eq_true rfl)
  rw [lg_entry_eq]
  generalize (lg_sl ([.ref (q 0), .int (nI (0))]) ++ List.replicate (2 - (lg_sl ([.ref (q 0), .int (nI (0))])).length) Slot.unset).toArray = ls at hl ⊢
  have hl : lv_has ls 2 [(0, .ref (q 0)), (1, .int (nI (0)))] := hl
  refine lv_aload_n hx hb dX4_freshLoads_0 rfl (lv_at hl 0 rfl) ?_
  refine lv_iload_n hx hb dX4_freshLoads_1 rfl (lv_at hl 1 rfl) ?_
  refine roS1 (v := .int (b2i (iw (nI (0)) (nI (0)) (nI (1))))) (As := [.int (nI (0))]) (rest := [.ref (q 0)]) (n := 1) ⟨hx, hb, hml, hown, htA⟩ (m_isClient l D cI cZ sa (nI (0)) s.heap ) (va_cwS 1 htA (gdS wd_873 wd_874 wd_5 wd_875) rfl rfl rfl (by decide +kernel) ⟨Nat.le_of_ble_eq_true rfl, Nat.le_of_ble_eq_true rfl⟩) hKK rfl hl.1 rfl (Nat.le_of_ble_eq_true rfl) dX4_freshLoads_2 (Nat.zero_le _) (Nat.zero_le _) ?_
  refine b_ifeq (b := iw (nI (0)) (nI (0)) (nI (1))) (tgt := 12) hx hb dX4_freshLoads_5 (by decide) (fun c_1 => ?_) (fun c_1 => ?_)
  · exact absurd (c_1.symm.trans (iw_n (by decide) (by decide) (by decide))) (by decide)
  refine n_iconst (k := 0) hx hb dX4_freshLoads_8 (by decide) ?_
  refine lv_goto (tgt := 13) hx hb dX4_freshLoads_9 (by decide) ?_
  refine wrV1 (v := .int (b2i (true))) (As := [.int (nI (0))]) (rest := []) (n := 1) ⟨hx, hb, hml, hown, htA⟩ (m_fine l D cI cZ sa q μ A (D_addr hD rfl) ) (cwV 1 htA (gdV wd_735 wd_737 wp_9 wd_5 wd_738) rfl rfl rfl (by decide +kernel) ⟨Nat.le_of_ble_eq_true rfl, Nat.le_of_ble_eq_true rfl⟩) hKK hP 0 rfl rfl rfl hl.1 rfl (Nat.le_of_ble_eq_true rfl) dX4_freshLoads_13 (Nat.zero_le _) (Nat.zero_le _) hS (fun _ h => h) (fun H1 locs hP1 hz1 hk1 hS => ?_)
  have hP : va_P D vwCl (wM q cI cZ (sv μ 0 2 (0))) H1 := hP1
  generalize H1 = H at hP hS ⊢
  refine b_ifeq (b := true) (tgt := 28) hx hb dX4_freshLoads_16 (by decide) (fun c_2 => ?_) (fun c_2 => ?_)
  · exact absurd c_2 (by decide)
  refine lv_aload_n hx hb dX4_freshLoads_19 rfl (lv_at hl 0 rfl) ?_
  refine va_get (D := D) (ci := 4) (v := .ref (q 23)) (C := RX4) (T := TX4) (N := 26) hx hb htA uwX4 hown hKK.1 hP 0 rfl rfl 24 (by decide) (htA _ wd_669) (fun _ h9 => h9) rfl dX4_freshLoads_20 ?_
  refine lv_iload_n hx hb dX4_freshLoads_23 rfl (lv_at hl 1 rfl) ?_
  refine n_iald (g := μ 23) (cA := cI) (n := 2) (j := 0) hx hb hKK.1 hP 23 0 rfl rfl (by decide) (Nat.le_of_ble_eq_true rfl) dX4_freshLoads_24 ?_
  refine lv_goto (tgt := 29) hx hb dX4_freshLoads_25 (by decide) ?_
  exact wr_i hx hb hr hlocks (rfl) hP hS dX4_freshLoads_29
set_option maxHeartbeats 4000000 in
set_option maxRecDepth 100000 in
theorem r_freshLoads_1 (l : Launch) (D : va_G) (cI cZ : ClassId) (sa : Nat → Nat) (q : Nat → Nat) (μ : ST)  (A : Nat → Prop) (hD : va_D A (wM q cI cZ μ))  : Met l yX4_freshLoads (codeW yX4_freshLoads cX4_freshLoads 2 (some .int)) ({ frames := 2, cells := 0, slots := 0, locals := 42 } : Room) (WrP D cI cZ sa (wM q cI cZ μ) [.ref (q 0), .int (nI (1))]) (WrQ (some (.int (nI (μ 23 1)))) D (wM q cI cZ (sv μ 0 2 0)) A) 0 0 A := by
  refine Met.ofW (cc := cX4_freshLoads) (maxL := 2) (ret := (some .int)) (by decide) rfl ?_
  intro p e s m args below meth c s₁ B hml hv
  obtain ⟨rfl, hH, hKK⟩ := hv
  have hx := B.exec
  have hb := B.bytes
  have hr := B.returns
  have htA : ∀ w ∈ WA, w.before _ s = true := fun w h => atoms_spec (ws := (codeW yX4_freshLoads cX4_freshLoads 2 (some .int))) B.pre w (List.mem_cons_of_mem _ h)
  have hown : s.vm.findClass RX4 = some m.cls := findClass_of_methodNamed B.named
  have hlocks := B.notSynchronized
  have hP := hH
  have hS : va_S A s.heap s.heap [] := va_S.rf
  have hl := lv_entry ([.ref (q 0), .int (nI (1))]) (n := 2) (Nat.le_of_ble_eq_true rfl)
  rw [lg_entry_eq]
  generalize (lg_sl ([.ref (q 0), .int (nI (1))]) ++ List.replicate (2 - (lg_sl ([.ref (q 0), .int (nI (1))])).length) Slot.unset).toArray = ls at hl ⊢
  have hl : lv_has ls 2 [(0, .ref (q 0)), (1, .int (nI (1)))] := hl
  refine lv_aload_n hx hb dX4_freshLoads_0 rfl (lv_at hl 0 rfl) ?_
  refine lv_iload_n hx hb dX4_freshLoads_1 rfl (lv_at hl 1 rfl) ?_
  refine roS1 (v := .int (b2i (iw (nI (1)) (nI (0)) (nI (1))))) (As := [.int (nI (1))]) (rest := [.ref (q 0)]) (n := 1) ⟨hx, hb, hml, hown, htA⟩ (m_isClient l D cI cZ sa (nI (1)) s.heap ) (va_cwS 1 htA (gdS wd_873 wd_874 wd_5 wd_875) rfl rfl rfl (by decide +kernel) ⟨Nat.le_of_ble_eq_true rfl, Nat.le_of_ble_eq_true rfl⟩) hKK rfl hl.1 rfl (Nat.le_of_ble_eq_true rfl) dX4_freshLoads_2 (Nat.zero_le _) (Nat.zero_le _) ?_
  refine b_ifeq (b := iw (nI (1)) (nI (0)) (nI (1))) (tgt := 12) hx hb dX4_freshLoads_5 (by decide) (fun c_1 => ?_) (fun c_1 => ?_)
  · exact absurd (c_1.symm.trans (iw_n (by decide) (by decide) (by decide))) (by decide)
  refine n_iconst (k := 0) hx hb dX4_freshLoads_8 (by decide) ?_
  refine lv_goto (tgt := 13) hx hb dX4_freshLoads_9 (by decide) ?_
  refine wrV1 (v := .int (b2i (true))) (As := [.int (nI (0))]) (rest := []) (n := 1) ⟨hx, hb, hml, hown, htA⟩ (m_fine l D cI cZ sa q μ A (D_addr hD rfl) ) (cwV 1 htA (gdV wd_735 wd_737 wp_9 wd_5 wd_738) rfl rfl rfl (by decide +kernel) ⟨Nat.le_of_ble_eq_true rfl, Nat.le_of_ble_eq_true rfl⟩) hKK hP 0 rfl rfl rfl hl.1 rfl (Nat.le_of_ble_eq_true rfl) dX4_freshLoads_13 (Nat.zero_le _) (Nat.zero_le _) hS (fun _ h => h) (fun H1 locs hP1 hz1 hk1 hS => ?_)
  have hP : va_P D vwCl (wM q cI cZ (sv μ 0 2 (0))) H1 := hP1
  generalize H1 = H at hP hS ⊢
  refine b_ifeq (b := true) (tgt := 28) hx hb dX4_freshLoads_16 (by decide) (fun c_2 => ?_) (fun c_2 => ?_)
  · exact absurd c_2 (by decide)
  refine lv_aload_n hx hb dX4_freshLoads_19 rfl (lv_at hl 0 rfl) ?_
  refine va_get (D := D) (ci := 4) (v := .ref (q 23)) (C := RX4) (T := TX4) (N := 26) hx hb htA uwX4 hown hKK.1 hP 0 rfl rfl 24 (by decide) (htA _ wd_669) (fun _ h9 => h9) rfl dX4_freshLoads_20 ?_
  refine lv_iload_n hx hb dX4_freshLoads_23 rfl (lv_at hl 1 rfl) ?_
  refine n_iald (g := μ 23) (cA := cI) (n := 2) (j := 1) hx hb hKK.1 hP 23 0 rfl rfl (by decide) (Nat.le_of_ble_eq_true rfl) dX4_freshLoads_24 ?_
  refine lv_goto (tgt := 29) hx hb dX4_freshLoads_25 (by decide) ?_
  exact wr_i hx hb hr hlocks (rfl) hP hS dX4_freshLoads_29
set_option maxHeartbeats 4000000 in
set_option maxRecDepth 100000 in
theorem r_windowAt_bad (l : Launch) (D : va_G) (cI cZ : ClassId) (sa : Nat → Nat) (q : Nat → Nat) (μ : ST) (x ix : Int32) (A : Nat → Prop) (hD : va_D A (wM q cI cZ μ)) (hbad : iw (x) (nI (0)) (nI (1)) = false) : Met l yX4_windowAt (codeW yX4_windowAt cX4_windowAt 4 (some .int)) ({ frames := 2, cells := 0, slots := 0, locals := 42 } : Room) (WrP D cI cZ sa (wM q cI cZ μ) [.ref (q 0), .int (x), .int (ix)]) (WrQ (some (.int (nI (0)))) D (wM q cI cZ (sv μ 0 2 1)) A) 0 0 A := by
  refine Met.ofW (cc := cX4_windowAt) (maxL := 4) (ret := (some .int)) (by decide) rfl ?_
  intro p e s m args below meth c s₁ B hml hv
  obtain ⟨rfl, hH, hKK⟩ := hv
  have hx := B.exec
  have hb := B.bytes
  have hr := B.returns
  have htA : ∀ w ∈ WA, w.before _ s = true := fun w h => atoms_spec (ws := (codeW yX4_windowAt cX4_windowAt 4 (some .int))) B.pre w (List.mem_cons_of_mem _ h)
  have hown : s.vm.findClass RX4 = some m.cls := findClass_of_methodNamed B.named
  have hlocks := B.notSynchronized
  have hP := hH
  have hS : va_S A s.heap s.heap [] := va_S.rf
  have hl := lv_entry ([.ref (q 0), .int (x), .int (ix)]) (n := 4) (Nat.le_of_ble_eq_true rfl)
  rw [lg_entry_eq]
  generalize (lg_sl ([.ref (q 0), .int (x), .int (ix)]) ++ List.replicate (4 - (lg_sl ([.ref (q 0), .int (x), .int (ix)])).length) Slot.unset).toArray = ls at hl ⊢
  have hl : lv_has ls 4 [(0, .ref (q 0)), (1, .int (x)), (2, .int (ix))] := hl
  refine lv_iload_n hx hb dX4_windowAt_0 rfl (lv_at hl 1 rfl) ?_
  refine roS1 (v := .int (b2i (iw (x) (nI (0)) (nI (1))))) (As := [.int (x)]) (rest := []) (n := 1) ⟨hx, hb, hml, hown, htA⟩ (m_isClient l D cI cZ sa (x) s.heap ) (va_cwS 1 htA (gdS wd_873 wd_874 wd_5 wd_875) rfl rfl rfl (by decide +kernel) ⟨Nat.le_of_ble_eq_true rfl, Nat.le_of_ble_eq_true rfl⟩) hKK rfl hl.1 rfl (Nat.le_of_ble_eq_true rfl) dX4_windowAt_1 (Nat.zero_le _) (Nat.zero_le _) ?_
  refine b_ifne (b := iw (x) (nI (0)) (nI (1))) (tgt := 11) hx hb dX4_windowAt_4 (by decide) (fun c_1 => ?_) (fun c_1 => ?_)
  · exact absurd (c_1.symm.trans hbad) (by decide)
  refine n_iconst (k := 1) hx hb dX4_windowAt_7 (by decide) ?_
  refine lv_goto (tgt := 32) hx hb dX4_windowAt_8 (by decide) ?_
  refine lv_istore_n (lv' := [(3, .int (nI (1))), (0, .ref (q 0)), (1, .int (x)), (2, .int (ix))]) hx hb dX4_windowAt_32 rfl hl (by decide) rfl (fun ls hl => ?_)
  refine lv_aload_n hx hb dX4_windowAt_33 rfl (lv_at hl 1 rfl) ?_
  refine lv_iload_n hx hb dX4_windowAt_34 rfl (lv_at hl 0 rfl) ?_
  refine wrV1 (v := .int (b2i (false))) (As := [.int (nI (1))]) (rest := []) (n := 1) ⟨hx, hb, hml, hown, htA⟩ (m_unfine l D cI cZ sa q μ 1 A (D_addr hD rfl) (by decide) (by decide)) (cwV 1 htA (gdV wd_735 wd_737 wp_9 wd_5 wd_738) rfl rfl rfl (by decide +kernel) ⟨Nat.le_of_ble_eq_true rfl, Nat.le_of_ble_eq_true rfl⟩) hKK hP 0 rfl rfl rfl hl.1 rfl (Nat.le_of_ble_eq_true rfl) dX4_windowAt_35 (Nat.zero_le _) (Nat.zero_le _) hS (fun _ h => h) (fun H1 locs hP1 hz1 hk1 hS => ?_)
  have hP : va_P D vwCl (wM q cI cZ (sv μ 0 2 (1))) H1 := hP1
  generalize H1 = H at hP hS ⊢
  refine b_ifeq (b := false) (tgt := 55) hx hb dX4_windowAt_38 (by decide) (fun c_2 => ?_) (fun c_2 => ?_)
  rotate_left
  · exact absurd c_2 (by decide)
  refine n_iconst (k := 0) hx hb dX4_windowAt_55 (by decide) ?_
  exact wr_i hx hb hr hlocks (rfl) hP hS dX4_windowAt_56
set_option maxHeartbeats 4000000 in
set_option maxRecDepth 100000 in
theorem r_windowAt_no0 (l : Launch) (D : va_G) (cI cZ : ClassId) (sa : Nat → Nat) (q : Nat → Nat) (μ : ST) (ix : Int32) (A : Nat → Prop) (hD : va_D A (wM q cI cZ μ)) (hz : iw (ix) (nI (0)) (oi (μ 16 0)) = false) : Met l yX4_windowAt (codeW yX4_windowAt cX4_windowAt 4 (some .int)) ({ frames := 2, cells := 0, slots := 0, locals := 42 } : Room) (WrP D cI cZ sa (wM q cI cZ μ) [.ref (q 0), .int (nI (0)), .int (ix)]) (WrQ (some (.int (nI (0)))) D (wM q cI cZ (sv μ 0 2 2)) A) 0 0 A := by
  refine Met.ofW (cc := cX4_windowAt) (maxL := 4) (ret := (some .int)) (by decide) rfl ?_
  intro p e s m args below meth c s₁ B hml hv
  obtain ⟨rfl, hH, hKK⟩ := hv
  have hx := B.exec
  have hb := B.bytes
  have hr := B.returns
  have htA : ∀ w ∈ WA, w.before _ s = true := fun w h => atoms_spec (ws := (codeW yX4_windowAt cX4_windowAt 4 (some .int))) B.pre w (List.mem_cons_of_mem _ h)
  have hown : s.vm.findClass RX4 = some m.cls := findClass_of_methodNamed B.named
  have hlocks := B.notSynchronized
  have hP := hH
  have hS : va_S A s.heap s.heap [] := va_S.rf
  have hl := lv_entry ([.ref (q 0), .int (nI (0)), .int (ix)]) (n := 4) (Nat.le_of_ble_eq_true rfl)
  rw [lg_entry_eq]
  generalize (lg_sl ([.ref (q 0), .int (nI (0)), .int (ix)]) ++ List.replicate (4 - (lg_sl ([.ref (q 0), .int (nI (0)), .int (ix)])).length) Slot.unset).toArray = ls at hl ⊢
  have hl : lv_has ls 4 [(0, .ref (q 0)), (1, .int (nI (0))), (2, .int (ix))] := hl
  refine lv_iload_n hx hb dX4_windowAt_0 rfl (lv_at hl 1 rfl) ?_
  refine roS1 (v := .int (b2i (iw (nI (0)) (nI (0)) (nI (1))))) (As := [.int (nI (0))]) (rest := []) (n := 1) ⟨hx, hb, hml, hown, htA⟩ (m_isClient l D cI cZ sa (nI (0)) s.heap ) (va_cwS 1 htA (gdS wd_873 wd_874 wd_5 wd_875) rfl rfl rfl (by decide +kernel) ⟨Nat.le_of_ble_eq_true rfl, Nat.le_of_ble_eq_true rfl⟩) hKK rfl hl.1 rfl (Nat.le_of_ble_eq_true rfl) dX4_windowAt_1 (Nat.zero_le _) (Nat.zero_le _) ?_
  refine b_ifne (b := iw (nI (0)) (nI (0)) (nI (1))) (tgt := 11) hx hb dX4_windowAt_4 (by decide) (fun c_1 => ?_) (fun c_1 => ?_)
  rotate_left
  · exact absurd (c_1.symm.trans (iw_n (by decide) (by decide) (by decide))) (by decide)
  refine lv_iload_n hx hb dX4_windowAt_11 rfl (lv_at hl 2 rfl) ?_
  refine n_iconst (k := 0) hx hb dX4_windowAt_12 (by decide) ?_
  refine lv_aload_n hx hb dX4_windowAt_13 rfl (lv_at hl 0 rfl) ?_
  refine va_get (D := D) (ci := 4) (v := .ref (q 16)) (C := RX4) (T := TX4) (N := 26) hx hb htA uwX4 hown hKK.1 hP 0 rfl rfl 17 (by decide) (htA _ wd_662) (fun _ h9 => h9) rfl dX4_windowAt_14 ?_
  refine lv_iload_n hx hb dX4_windowAt_17 rfl (lv_at hl 1 rfl) ?_
  refine n_iald (g := μ 16) (cA := cI) (n := 2) (j := 0) hx hb hKK.1 hP 16 0 rfl rfl (by decide) (Nat.le_of_ble_eq_true rfl) dX4_windowAt_18 ?_
  refine n_iconst (k := 1) hx hb dX4_windowAt_19 (by decide) ?_
  refine n_ipred hx hb dX4_windowAt_20 ?_
  refine roS1 (v := .int (b2i (iw (ix) (nI (0)) (oi (μ 16 0))))) (As := [.int (ix), .int (nI (0)), .int (oi (μ 16 0))]) (rest := []) (n := 3) ⟨hx, hb, hml, hown, htA⟩ (m_in l D cI cZ sa (ix) (nI (0)) (oi (μ 16 0)) s.heap ) (va_cwS 3 htA (gdS wd_732 wd_733 wd_5 wd_734) rfl rfl rfl (by decide +kernel) ⟨Nat.le_of_ble_eq_true rfl, Nat.le_of_ble_eq_true rfl⟩) hKK rfl hl.1 rfl (Nat.le_of_ble_eq_true rfl) dX4_windowAt_21 (Nat.zero_le _) (Nat.zero_le _) ?_
  refine b_ifne (b := iw (ix) (nI (0)) (oi (μ 16 0))) (tgt := 31) hx hb dX4_windowAt_24 (by decide) (fun c_2 => ?_) (fun c_2 => ?_)
  · exact absurd (c_2.symm.trans hz) (by decide)
  refine n_iconst (k := 2) hx hb dX4_windowAt_27 (by decide) ?_
  refine lv_goto (tgt := 32) hx hb dX4_windowAt_28 (by decide) ?_
  refine lv_istore_n (lv' := [(3, .int (nI (2))), (0, .ref (q 0)), (1, .int (nI (0))), (2, .int (ix))]) hx hb dX4_windowAt_32 rfl hl (by decide) rfl (fun ls hl => ?_)
  refine lv_aload_n hx hb dX4_windowAt_33 rfl (lv_at hl 1 rfl) ?_
  refine lv_iload_n hx hb dX4_windowAt_34 rfl (lv_at hl 0 rfl) ?_
  refine wrV1 (v := .int (b2i (false))) (As := [.int (nI (2))]) (rest := []) (n := 1) ⟨hx, hb, hml, hown, htA⟩ (m_unfine l D cI cZ sa q μ 2 A (D_addr hD rfl) (by decide) (by decide)) (cwV 1 htA (gdV wd_735 wd_737 wp_9 wd_5 wd_738) rfl rfl rfl (by decide +kernel) ⟨Nat.le_of_ble_eq_true rfl, Nat.le_of_ble_eq_true rfl⟩) hKK hP 0 rfl rfl rfl hl.1 rfl (Nat.le_of_ble_eq_true rfl) dX4_windowAt_35 (Nat.zero_le _) (Nat.zero_le _) hS (fun _ h => h) (fun H1 locs hP1 hz1 hk1 hS => ?_)
  have hP : va_P D vwCl (wM q cI cZ (sv μ 0 2 (2))) H1 := hP1
  generalize H1 = H at hP hS ⊢
  refine b_ifeq (b := false) (tgt := 55) hx hb dX4_windowAt_38 (by decide) (fun c_3 => ?_) (fun c_3 => ?_)
  rotate_left
  · exact absurd c_3 (by decide)
  refine n_iconst (k := 0) hx hb dX4_windowAt_55 (by decide) ?_
  exact wr_i hx hb hr hlocks (rfl) hP hS dX4_windowAt_56
set_option maxHeartbeats 4000000 in
set_option maxRecDepth 100000 in
theorem r_windowAt_ok0 (l : Launch) (D : va_G) (cI cZ : ClassId) (sa : Nat → Nat) (q : Nat → Nat) (μ : ST) (j : Nat) (A : Nat → Prop) (hD : va_D A (wM q cI cZ μ)) (hj : j < μ 16 0) (h10 : μ 16 0 ≤ 10) : Met l yX4_windowAt (codeW yX4_windowAt cX4_windowAt 4 (some .int)) ({ frames := 2, cells := 0, slots := 0, locals := 42 } : Room) (WrP D cI cZ sa (wM q cI cZ μ) [.ref (q 0), .int (nI (0)), .int (nI (j))]) (WrQ (some (.int (nI (μ 17 (10 * 0 + j))))) D (wM q cI cZ (sv μ 0 2 0)) A) 0 0 A := by
  refine Met.ofW (cc := cX4_windowAt) (maxL := 4) (ret := (some .int)) (by decide) rfl ?_
  intro p e s m args below meth c s₁ B hml hv
  obtain ⟨rfl, hH, hKK⟩ := hv
  have hx := B.exec
  have hb := B.bytes
  have hr := B.returns
  have htA : ∀ w ∈ WA, w.before _ s = true := fun w h => atoms_spec (ws := (codeW yX4_windowAt cX4_windowAt 4 (some .int))) B.pre w (List.mem_cons_of_mem _ h)
  have hown : s.vm.findClass RX4 = some m.cls := findClass_of_methodNamed B.named
  have hlocks := B.notSynchronized
  have hP := hH
  have hS : va_S A s.heap s.heap [] := va_S.rf
  have hl := lv_entry ([.ref (q 0), .int (nI (0)), .int (nI (j))]) (n := 4) (Nat.le_of_ble_eq_true rfl)
  rw [lg_entry_eq]
  generalize (lg_sl ([.ref (q 0), .int (nI (0)), .int (nI (j))]) ++ List.replicate (4 - (lg_sl ([.ref (q 0), .int (nI (0)), .int (nI (j))])).length) Slot.unset).toArray = ls at hl ⊢
  have hl : lv_has ls 4 [(0, .ref (q 0)), (1, .int (nI (0))), (2, .int (nI (j)))] := hl
  refine lv_iload_n hx hb dX4_windowAt_0 rfl (lv_at hl 1 rfl) ?_
  refine roS1 (v := .int (b2i (iw (nI (0)) (nI (0)) (nI (1))))) (As := [.int (nI (0))]) (rest := []) (n := 1) ⟨hx, hb, hml, hown, htA⟩ (m_isClient l D cI cZ sa (nI (0)) s.heap ) (va_cwS 1 htA (gdS wd_873 wd_874 wd_5 wd_875) rfl rfl rfl (by decide +kernel) ⟨Nat.le_of_ble_eq_true rfl, Nat.le_of_ble_eq_true rfl⟩) hKK rfl hl.1 rfl (Nat.le_of_ble_eq_true rfl) dX4_windowAt_1 (Nat.zero_le _) (Nat.zero_le _) ?_
  refine b_ifne (b := iw (nI (0)) (nI (0)) (nI (1))) (tgt := 11) hx hb dX4_windowAt_4 (by decide) (fun c_1 => ?_) (fun c_1 => ?_)
  rotate_left
  · exact absurd (c_1.symm.trans (iw_n (by decide) (by decide) (by decide))) (by decide)
  refine lv_iload_n hx hb dX4_windowAt_11 rfl (lv_at hl 2 rfl) ?_
  refine n_iconst (k := 0) hx hb dX4_windowAt_12 (by decide) ?_
  refine lv_aload_n hx hb dX4_windowAt_13 rfl (lv_at hl 0 rfl) ?_
  refine va_get (D := D) (ci := 4) (v := .ref (q 16)) (C := RX4) (T := TX4) (N := 26) hx hb htA uwX4 hown hKK.1 hP 0 rfl rfl 17 (by decide) (htA _ wd_662) (fun _ h9 => h9) rfl dX4_windowAt_14 ?_
  refine lv_iload_n hx hb dX4_windowAt_17 rfl (lv_at hl 1 rfl) ?_
  refine n_iald (g := μ 16) (cA := cI) (n := 2) (j := 0) hx hb hKK.1 hP 16 0 rfl rfl (by decide) (Nat.le_of_ble_eq_true rfl) dX4_windowAt_18 ?_
  refine n_iconst (k := 1) hx hb dX4_windowAt_19 (by decide) ?_
  refine n_ipred hx hb dX4_windowAt_20 ?_
  refine roS1 (v := .int (b2i (iw (nI (j)) (nI (0)) (oi (μ 16 0))))) (As := [.int (nI (j)), .int (nI (0)), .int (oi (μ 16 0))]) (rest := []) (n := 3) ⟨hx, hb, hml, hown, htA⟩ (m_in l D cI cZ sa (nI (j)) (nI (0)) (oi (μ 16 0)) s.heap ) (va_cwS 3 htA (gdS wd_732 wd_733 wd_5 wd_734) rfl rfl rfl (by decide +kernel) ⟨Nat.le_of_ble_eq_true rfl, Nat.le_of_ble_eq_true rfl⟩) hKK rfl hl.1 rfl (Nat.le_of_ble_eq_true rfl) dX4_windowAt_21 (Nat.zero_le _) (Nat.zero_le _) ?_
  refine b_ifne (b := iw (nI (j)) (nI (0)) (oi (μ 16 0))) (tgt := 31) hx hb dX4_windowAt_24 (by decide) (fun c_2 => ?_) (fun c_2 => ?_)
  rotate_left
  · exact absurd (c_2.symm.trans (iw_k hj (by omega))) (by decide)
  refine n_iconst (k := 0) hx hb dX4_windowAt_31 (by decide) ?_
  refine lv_istore_n (lv' := [(3, .int (nI (0))), (0, .ref (q 0)), (1, .int (nI (0))), (2, .int (nI (j)))]) hx hb dX4_windowAt_32 rfl hl (by decide) rfl (fun ls hl => ?_)
  refine lv_aload_n hx hb dX4_windowAt_33 rfl (lv_at hl 1 rfl) ?_
  refine lv_iload_n hx hb dX4_windowAt_34 rfl (lv_at hl 0 rfl) ?_
  refine wrV1 (v := .int (b2i (true))) (As := [.int (nI (0))]) (rest := []) (n := 1) ⟨hx, hb, hml, hown, htA⟩ (m_fine l D cI cZ sa q μ A (D_addr hD rfl) ) (cwV 1 htA (gdV wd_735 wd_737 wp_9 wd_5 wd_738) rfl rfl rfl (by decide +kernel) ⟨Nat.le_of_ble_eq_true rfl, Nat.le_of_ble_eq_true rfl⟩) hKK hP 0 rfl rfl rfl hl.1 rfl (Nat.le_of_ble_eq_true rfl) dX4_windowAt_35 (Nat.zero_le _) (Nat.zero_le _) hS (fun _ h => h) (fun H1 locs hP1 hz1 hk1 hS => ?_)
  have hP : va_P D vwCl (wM q cI cZ (sv μ 0 2 (0))) H1 := hP1
  generalize H1 = H at hP hS ⊢
  refine b_ifeq (b := true) (tgt := 55) hx hb dX4_windowAt_38 (by decide) (fun c_3 => ?_) (fun c_3 => ?_)
  · exact absurd c_3 (by decide)
  refine lv_aload_n hx hb dX4_windowAt_41 rfl (lv_at hl 1 rfl) ?_
  refine va_get (D := D) (ci := 4) (v := .ref (q 17)) (C := RX4) (T := TX4) (N := 26) hx hb htA uwX4 hown hKK.1 hP 0 rfl rfl 18 (by decide) (htA _ wd_663) (fun _ h9 => h9) rfl dX4_windowAt_42 ?_
  refine lv_bipush (v := nI 10) hx hb dX4_windowAt_45 (by decide) ?_
  refine lv_iload_n hx hb dX4_windowAt_47 rfl (lv_at hl 2 rfl) ?_
  refine n_imul hx hb dX4_windowAt_48 ?_
  refine lv_iload_n hx hb dX4_windowAt_49 rfl (lv_at hl 3 rfl) ?_
  refine n_iadd hx hb dX4_windowAt_50 ?_
  refine n_iald (g := μ 17) (cA := cI) (n := 20) (j := (10 * 0) + j) hx hb hKK.1 hP 17 0 rfl rfl (by omega) (Nat.le_of_ble_eq_true rfl) dX4_windowAt_51 ?_
  refine lv_goto (tgt := 56) hx hb dX4_windowAt_52 (by decide) ?_
  exact wr_i hx hb hr hlocks (rfl) hP hS dX4_windowAt_56
set_option maxHeartbeats 4000000 in
set_option maxRecDepth 100000 in
theorem r_windowAt_no1 (l : Launch) (D : va_G) (cI cZ : ClassId) (sa : Nat → Nat) (q : Nat → Nat) (μ : ST) (ix : Int32) (A : Nat → Prop) (hD : va_D A (wM q cI cZ μ)) (hz : iw (ix) (nI (0)) (oi (μ 16 1)) = false) : Met l yX4_windowAt (codeW yX4_windowAt cX4_windowAt 4 (some .int)) ({ frames := 2, cells := 0, slots := 0, locals := 42 } : Room) (WrP D cI cZ sa (wM q cI cZ μ) [.ref (q 0), .int (nI (1)), .int (ix)]) (WrQ (some (.int (nI (0)))) D (wM q cI cZ (sv μ 0 2 2)) A) 0 0 A := by
  refine Met.ofW (cc := cX4_windowAt) (maxL := 4) (ret := (some .int)) (by decide) rfl ?_
  intro p e s m args below meth c s₁ B hml hv
  obtain ⟨rfl, hH, hKK⟩ := hv
  have hx := B.exec
  have hb := B.bytes
  have hr := B.returns
  have htA : ∀ w ∈ WA, w.before _ s = true := fun w h => atoms_spec (ws := (codeW yX4_windowAt cX4_windowAt 4 (some .int))) B.pre w (List.mem_cons_of_mem _ h)
  have hown : s.vm.findClass RX4 = some m.cls := findClass_of_methodNamed B.named
  have hlocks := B.notSynchronized
  have hP := hH
  have hS : va_S A s.heap s.heap [] := va_S.rf
  have hl := lv_entry ([.ref (q 0), .int (nI (1)), .int (ix)]) (n := 4) (Nat.le_of_ble_eq_true rfl)
  rw [lg_entry_eq]
  generalize (lg_sl ([.ref (q 0), .int (nI (1)), .int (ix)]) ++ List.replicate (4 - (lg_sl ([.ref (q 0), .int (nI (1)), .int (ix)])).length) Slot.unset).toArray = ls at hl ⊢
  have hl : lv_has ls 4 [(0, .ref (q 0)), (1, .int (nI (1))), (2, .int (ix))] := hl
  refine lv_iload_n hx hb dX4_windowAt_0 rfl (lv_at hl 1 rfl) ?_
  refine roS1 (v := .int (b2i (iw (nI (1)) (nI (0)) (nI (1))))) (As := [.int (nI (1))]) (rest := []) (n := 1) ⟨hx, hb, hml, hown, htA⟩ (m_isClient l D cI cZ sa (nI (1)) s.heap ) (va_cwS 1 htA (gdS wd_873 wd_874 wd_5 wd_875) rfl rfl rfl (by decide +kernel) ⟨Nat.le_of_ble_eq_true rfl, Nat.le_of_ble_eq_true rfl⟩) hKK rfl hl.1 rfl (Nat.le_of_ble_eq_true rfl) dX4_windowAt_1 (Nat.zero_le _) (Nat.zero_le _) ?_
  refine b_ifne (b := iw (nI (1)) (nI (0)) (nI (1))) (tgt := 11) hx hb dX4_windowAt_4 (by decide) (fun c_1 => ?_) (fun c_1 => ?_)
  rotate_left
  · exact absurd (c_1.symm.trans (iw_n (by decide) (by decide) (by decide))) (by decide)
  refine lv_iload_n hx hb dX4_windowAt_11 rfl (lv_at hl 2 rfl) ?_
  refine n_iconst (k := 0) hx hb dX4_windowAt_12 (by decide) ?_
  refine lv_aload_n hx hb dX4_windowAt_13 rfl (lv_at hl 0 rfl) ?_
  refine va_get (D := D) (ci := 4) (v := .ref (q 16)) (C := RX4) (T := TX4) (N := 26) hx hb htA uwX4 hown hKK.1 hP 0 rfl rfl 17 (by decide) (htA _ wd_662) (fun _ h9 => h9) rfl dX4_windowAt_14 ?_
  refine lv_iload_n hx hb dX4_windowAt_17 rfl (lv_at hl 1 rfl) ?_
  refine n_iald (g := μ 16) (cA := cI) (n := 2) (j := 1) hx hb hKK.1 hP 16 0 rfl rfl (by decide) (Nat.le_of_ble_eq_true rfl) dX4_windowAt_18 ?_
  refine n_iconst (k := 1) hx hb dX4_windowAt_19 (by decide) ?_
  refine n_ipred hx hb dX4_windowAt_20 ?_
  refine roS1 (v := .int (b2i (iw (ix) (nI (0)) (oi (μ 16 1))))) (As := [.int (ix), .int (nI (0)), .int (oi (μ 16 1))]) (rest := []) (n := 3) ⟨hx, hb, hml, hown, htA⟩ (m_in l D cI cZ sa (ix) (nI (0)) (oi (μ 16 1)) s.heap ) (va_cwS 3 htA (gdS wd_732 wd_733 wd_5 wd_734) rfl rfl rfl (by decide +kernel) ⟨Nat.le_of_ble_eq_true rfl, Nat.le_of_ble_eq_true rfl⟩) hKK rfl hl.1 rfl (Nat.le_of_ble_eq_true rfl) dX4_windowAt_21 (Nat.zero_le _) (Nat.zero_le _) ?_
  refine b_ifne (b := iw (ix) (nI (0)) (oi (μ 16 1))) (tgt := 31) hx hb dX4_windowAt_24 (by decide) (fun c_2 => ?_) (fun c_2 => ?_)
  · exact absurd (c_2.symm.trans hz) (by decide)
  refine n_iconst (k := 2) hx hb dX4_windowAt_27 (by decide) ?_
  refine lv_goto (tgt := 32) hx hb dX4_windowAt_28 (by decide) ?_
  refine lv_istore_n (lv' := [(3, .int (nI (2))), (0, .ref (q 0)), (1, .int (nI (1))), (2, .int (ix))]) hx hb dX4_windowAt_32 rfl hl (by decide) rfl (fun ls hl => ?_)
  refine lv_aload_n hx hb dX4_windowAt_33 rfl (lv_at hl 1 rfl) ?_
  refine lv_iload_n hx hb dX4_windowAt_34 rfl (lv_at hl 0 rfl) ?_
  refine wrV1 (v := .int (b2i (false))) (As := [.int (nI (2))]) (rest := []) (n := 1) ⟨hx, hb, hml, hown, htA⟩ (m_unfine l D cI cZ sa q μ 2 A (D_addr hD rfl) (by decide) (by decide)) (cwV 1 htA (gdV wd_735 wd_737 wp_9 wd_5 wd_738) rfl rfl rfl (by decide +kernel) ⟨Nat.le_of_ble_eq_true rfl, Nat.le_of_ble_eq_true rfl⟩) hKK hP 0 rfl rfl rfl hl.1 rfl (Nat.le_of_ble_eq_true rfl) dX4_windowAt_35 (Nat.zero_le _) (Nat.zero_le _) hS (fun _ h => h) (fun H1 locs hP1 hz1 hk1 hS => ?_)
  have hP : va_P D vwCl (wM q cI cZ (sv μ 0 2 (2))) H1 := hP1
  generalize H1 = H at hP hS ⊢
  refine b_ifeq (b := false) (tgt := 55) hx hb dX4_windowAt_38 (by decide) (fun c_3 => ?_) (fun c_3 => ?_)
  rotate_left
  · exact absurd c_3 (by decide)
  refine n_iconst (k := 0) hx hb dX4_windowAt_55 (by decide) ?_
  exact wr_i hx hb hr hlocks (rfl) hP hS dX4_windowAt_56
set_option maxHeartbeats 4000000 in
set_option maxRecDepth 100000 in
theorem r_windowAt_ok1 (l : Launch) (D : va_G) (cI cZ : ClassId) (sa : Nat → Nat) (q : Nat → Nat) (μ : ST) (j : Nat) (A : Nat → Prop) (hD : va_D A (wM q cI cZ μ)) (hj : j < μ 16 1) (h10 : μ 16 1 ≤ 10) : Met l yX4_windowAt (codeW yX4_windowAt cX4_windowAt 4 (some .int)) ({ frames := 2, cells := 0, slots := 0, locals := 42 } : Room) (WrP D cI cZ sa (wM q cI cZ μ) [.ref (q 0), .int (nI (1)), .int (nI (j))]) (WrQ (some (.int (nI (μ 17 (10 * 1 + j))))) D (wM q cI cZ (sv μ 0 2 0)) A) 0 0 A := by
  refine Met.ofW (cc := cX4_windowAt) (maxL := 4) (ret := (some .int)) (by decide) rfl ?_
  intro p e s m args below meth c s₁ B hml hv
  obtain ⟨rfl, hH, hKK⟩ := hv
  have hx := B.exec
  have hb := B.bytes
  have hr := B.returns
  have htA : ∀ w ∈ WA, w.before _ s = true := fun w h => atoms_spec (ws := (codeW yX4_windowAt cX4_windowAt 4 (some .int))) B.pre w (List.mem_cons_of_mem _ h)
  have hown : s.vm.findClass RX4 = some m.cls := findClass_of_methodNamed B.named
  have hlocks := B.notSynchronized
  have hP := hH
  have hS : va_S A s.heap s.heap [] := va_S.rf
  have hl := lv_entry ([.ref (q 0), .int (nI (1)), .int (nI (j))]) (n := 4) (Nat.le_of_ble_eq_true rfl)
  rw [lg_entry_eq]
  generalize (lg_sl ([.ref (q 0), .int (nI (1)), .int (nI (j))]) ++ List.replicate (4 - (lg_sl ([.ref (q 0), .int (nI (1)), .int (nI (j))])).length) Slot.unset).toArray = ls at hl ⊢
  have hl : lv_has ls 4 [(0, .ref (q 0)), (1, .int (nI (1))), (2, .int (nI (j)))] := hl
  refine lv_iload_n hx hb dX4_windowAt_0 rfl (lv_at hl 1 rfl) ?_
  refine roS1 (v := .int (b2i (iw (nI (1)) (nI (0)) (nI (1))))) (As := [.int (nI (1))]) (rest := []) (n := 1) ⟨hx, hb, hml, hown, htA⟩ (m_isClient l D cI cZ sa (nI (1)) s.heap ) (va_cwS 1 htA (gdS wd_873 wd_874 wd_5 wd_875) rfl rfl rfl (by decide +kernel) ⟨Nat.le_of_ble_eq_true rfl, Nat.le_of_ble_eq_true rfl⟩) hKK rfl hl.1 rfl (Nat.le_of_ble_eq_true rfl) dX4_windowAt_1 (Nat.zero_le _) (Nat.zero_le _) ?_
  refine b_ifne (b := iw (nI (1)) (nI (0)) (nI (1))) (tgt := 11) hx hb dX4_windowAt_4 (by decide) (fun c_1 => ?_) (fun c_1 => ?_)
  rotate_left
  · exact absurd (c_1.symm.trans (iw_n (by decide) (by decide) (by decide))) (by decide)
  refine lv_iload_n hx hb dX4_windowAt_11 rfl (lv_at hl 2 rfl) ?_
  refine n_iconst (k := 0) hx hb dX4_windowAt_12 (by decide) ?_
  refine lv_aload_n hx hb dX4_windowAt_13 rfl (lv_at hl 0 rfl) ?_
  refine va_get (D := D) (ci := 4) (v := .ref (q 16)) (C := RX4) (T := TX4) (N := 26) hx hb htA uwX4 hown hKK.1 hP 0 rfl rfl 17 (by decide) (htA _ wd_662) (fun _ h9 => h9) rfl dX4_windowAt_14 ?_
  refine lv_iload_n hx hb dX4_windowAt_17 rfl (lv_at hl 1 rfl) ?_
  refine n_iald (g := μ 16) (cA := cI) (n := 2) (j := 1) hx hb hKK.1 hP 16 0 rfl rfl (by decide) (Nat.le_of_ble_eq_true rfl) dX4_windowAt_18 ?_
  refine n_iconst (k := 1) hx hb dX4_windowAt_19 (by decide) ?_
  refine n_ipred hx hb dX4_windowAt_20 ?_
  refine roS1 (v := .int (b2i (iw (nI (j)) (nI (0)) (oi (μ 16 1))))) (As := [.int (nI (j)), .int (nI (0)), .int (oi (μ 16 1))]) (rest := []) (n := 3) ⟨hx, hb, hml, hown, htA⟩ (m_in l D cI cZ sa (nI (j)) (nI (0)) (oi (μ 16 1)) s.heap ) (va_cwS 3 htA (gdS wd_732 wd_733 wd_5 wd_734) rfl rfl rfl (by decide +kernel) ⟨Nat.le_of_ble_eq_true rfl, Nat.le_of_ble_eq_true rfl⟩) hKK rfl hl.1 rfl (Nat.le_of_ble_eq_true rfl) dX4_windowAt_21 (Nat.zero_le _) (Nat.zero_le _) ?_
  refine b_ifne (b := iw (nI (j)) (nI (0)) (oi (μ 16 1))) (tgt := 31) hx hb dX4_windowAt_24 (by decide) (fun c_2 => ?_) (fun c_2 => ?_)
  rotate_left
  · exact absurd (c_2.symm.trans (iw_k hj (by omega))) (by decide)
  refine n_iconst (k := 0) hx hb dX4_windowAt_31 (by decide) ?_
  refine lv_istore_n (lv' := [(3, .int (nI (0))), (0, .ref (q 0)), (1, .int (nI (1))), (2, .int (nI (j)))]) hx hb dX4_windowAt_32 rfl hl (by decide) rfl (fun ls hl => ?_)
  refine lv_aload_n hx hb dX4_windowAt_33 rfl (lv_at hl 1 rfl) ?_
  refine lv_iload_n hx hb dX4_windowAt_34 rfl (lv_at hl 0 rfl) ?_
  refine wrV1 (v := .int (b2i (true))) (As := [.int (nI (0))]) (rest := []) (n := 1) ⟨hx, hb, hml, hown, htA⟩ (m_fine l D cI cZ sa q μ A (D_addr hD rfl) ) (cwV 1 htA (gdV wd_735 wd_737 wp_9 wd_5 wd_738) rfl rfl rfl (by decide +kernel) ⟨Nat.le_of_ble_eq_true rfl, Nat.le_of_ble_eq_true rfl⟩) hKK hP 0 rfl rfl rfl hl.1 rfl (Nat.le_of_ble_eq_true rfl) dX4_windowAt_35 (Nat.zero_le _) (Nat.zero_le _) hS (fun _ h => h) (fun H1 locs hP1 hz1 hk1 hS => ?_)
  have hP : va_P D vwCl (wM q cI cZ (sv μ 0 2 (0))) H1 := hP1
  generalize H1 = H at hP hS ⊢
  refine b_ifeq (b := true) (tgt := 55) hx hb dX4_windowAt_38 (by decide) (fun c_3 => ?_) (fun c_3 => ?_)
  · exact absurd c_3 (by decide)
  refine lv_aload_n hx hb dX4_windowAt_41 rfl (lv_at hl 1 rfl) ?_
  refine va_get (D := D) (ci := 4) (v := .ref (q 17)) (C := RX4) (T := TX4) (N := 26) hx hb htA uwX4 hown hKK.1 hP 0 rfl rfl 18 (by decide) (htA _ wd_663) (fun _ h9 => h9) rfl dX4_windowAt_42 ?_
  refine lv_bipush (v := nI 10) hx hb dX4_windowAt_45 (by decide) ?_
  refine lv_iload_n hx hb dX4_windowAt_47 rfl (lv_at hl 2 rfl) ?_
  refine n_imul hx hb dX4_windowAt_48 ?_
  refine lv_iload_n hx hb dX4_windowAt_49 rfl (lv_at hl 3 rfl) ?_
  refine n_iadd hx hb dX4_windowAt_50 ?_
  refine n_iald (g := μ 17) (cA := cI) (n := 20) (j := (10 * 1) + j) hx hb hKK.1 hP 17 0 rfl rfl (by omega) (Nat.le_of_ble_eq_true rfl) dX4_windowAt_51 ?_
  refine lv_goto (tgt := 56) hx hb dX4_windowAt_52 (by decide) ?_
  exact wr_i hx hb hr hlocks (rfl) hP hS dX4_windowAt_56
set_option maxHeartbeats 4000000 in
set_option maxRecDepth 100000 in
theorem r_known_bad (l : Launch) (D : va_G) (cI cZ : ClassId) (sa : Nat → Nat) (q : Nat → Nat) (μ : ST) (x ix : Int32) (A : Nat → Prop) (hD : va_D A (wM q cI cZ μ)) (hbad : iw (x) (nI (0)) (nI (1)) = false) : Met l yX4_known (codeW yX4_known cX4_known 4 (some .int)) ({ frames := 2, cells := 0, slots := 0, locals := 42 } : Room) (WrP D cI cZ sa (wM q cI cZ μ) [.ref (q 0), .int (x), .int (ix)]) (WrQ (some (.int (nI (0)))) D (wM q cI cZ (sv μ 0 2 1)) A) 0 0 A := by
  refine Met.ofW (cc := cX4_known) (maxL := 4) (ret := (some .int)) (by decide) rfl ?_
  intro p e s m args below meth c s₁ B hml hv
  obtain ⟨rfl, hH, hKK⟩ := hv
  have hx := B.exec
  have hb := B.bytes
  have hr := B.returns
  have htA : ∀ w ∈ WA, w.before _ s = true := fun w h => atoms_spec (ws := (codeW yX4_known cX4_known 4 (some .int))) B.pre w (List.mem_cons_of_mem _ h)
  have hown : s.vm.findClass RX4 = some m.cls := findClass_of_methodNamed B.named
  have hlocks := B.notSynchronized
  have hP := hH
  have hS : va_S A s.heap s.heap [] := va_S.rf
  have hl := lv_entry ([.ref (q 0), .int (x), .int (ix)]) (n := 4) (Nat.le_of_ble_eq_true rfl)
  rw [lg_entry_eq]
  generalize (lg_sl ([.ref (q 0), .int (x), .int (ix)]) ++ List.replicate (4 - (lg_sl ([.ref (q 0), .int (x), .int (ix)])).length) Slot.unset).toArray = ls at hl ⊢
  have hl : lv_has ls 4 [(0, .ref (q 0)), (1, .int (x)), (2, .int (ix))] := hl
  refine lv_iload_n hx hb dX4_known_0 rfl (lv_at hl 1 rfl) ?_
  refine roS1 (v := .int (b2i (iw (x) (nI (0)) (nI (1))))) (As := [.int (x)]) (rest := []) (n := 1) ⟨hx, hb, hml, hown, htA⟩ (m_isClient l D cI cZ sa (x) s.heap ) (va_cwS 1 htA (gdS wd_873 wd_874 wd_5 wd_875) rfl rfl rfl (by decide +kernel) ⟨Nat.le_of_ble_eq_true rfl, Nat.le_of_ble_eq_true rfl⟩) hKK rfl hl.1 rfl (Nat.le_of_ble_eq_true rfl) dX4_known_1 (Nat.zero_le _) (Nat.zero_le _) ?_
  refine b_ifne (b := iw (x) (nI (0)) (nI (1))) (tgt := 11) hx hb dX4_known_4 (by decide) (fun c_1 => ?_) (fun c_1 => ?_)
  · exact absurd (c_1.symm.trans hbad) (by decide)
  refine n_iconst (k := 1) hx hb dX4_known_7 (by decide) ?_
  refine lv_goto (tgt := 32) hx hb dX4_known_8 (by decide) ?_
  refine lv_istore_n (lv' := [(3, .int (nI (1))), (0, .ref (q 0)), (1, .int (x)), (2, .int (ix))]) hx hb dX4_known_32 rfl hl (by decide) rfl (fun ls hl => ?_)
  refine lv_aload_n hx hb dX4_known_33 rfl (lv_at hl 1 rfl) ?_
  refine lv_iload_n hx hb dX4_known_34 rfl (lv_at hl 0 rfl) ?_
  refine wrV1 (v := .int (b2i (false))) (As := [.int (nI (1))]) (rest := []) (n := 1) ⟨hx, hb, hml, hown, htA⟩ (m_unfine l D cI cZ sa q μ 1 A (D_addr hD rfl) (by decide) (by decide)) (cwV 1 htA (gdV wd_735 wd_737 wp_9 wd_5 wd_738) rfl rfl rfl (by decide +kernel) ⟨Nat.le_of_ble_eq_true rfl, Nat.le_of_ble_eq_true rfl⟩) hKK hP 0 rfl rfl rfl hl.1 rfl (Nat.le_of_ble_eq_true rfl) dX4_known_35 (Nat.zero_le _) (Nat.zero_le _) hS (fun _ h => h) (fun H1 locs hP1 hz1 hk1 hS => ?_)
  have hP : va_P D vwCl (wM q cI cZ (sv μ 0 2 (1))) H1 := hP1
  generalize H1 = H at hP hS ⊢
  refine b_ifeq (b := false) (tgt := 55) hx hb dX4_known_38 (by decide) (fun c_2 => ?_) (fun c_2 => ?_)
  rotate_left
  · exact absurd c_2 (by decide)
  refine n_iconst (k := 0) hx hb dX4_known_55 (by decide) ?_
  exact wr_i hx hb hr hlocks (rfl) hP hS dX4_known_56
set_option maxHeartbeats 4000000 in
set_option maxRecDepth 100000 in
theorem r_known_no0 (l : Launch) (D : va_G) (cI cZ : ClassId) (sa : Nat → Nat) (q : Nat → Nat) (μ : ST) (ix : Int32) (A : Nat → Prop) (hD : va_D A (wM q cI cZ μ)) (hz : iw (ix) (nI (0)) (oi (μ 16 0)) = false) : Met l yX4_known (codeW yX4_known cX4_known 4 (some .int)) ({ frames := 2, cells := 0, slots := 0, locals := 42 } : Room) (WrP D cI cZ sa (wM q cI cZ μ) [.ref (q 0), .int (nI (0)), .int (ix)]) (WrQ (some (.int (nI (0)))) D (wM q cI cZ (sv μ 0 2 2)) A) 0 0 A := by
  refine Met.ofW (cc := cX4_known) (maxL := 4) (ret := (some .int)) (by decide) rfl ?_
  intro p e s m args below meth c s₁ B hml hv
  obtain ⟨rfl, hH, hKK⟩ := hv
  have hx := B.exec
  have hb := B.bytes
  have hr := B.returns
  have htA : ∀ w ∈ WA, w.before _ s = true := fun w h => atoms_spec (ws := (codeW yX4_known cX4_known 4 (some .int))) B.pre w (List.mem_cons_of_mem _ h)
  have hown : s.vm.findClass RX4 = some m.cls := findClass_of_methodNamed B.named
  have hlocks := B.notSynchronized
  have hP := hH
  have hS : va_S A s.heap s.heap [] := va_S.rf
  have hl := lv_entry ([.ref (q 0), .int (nI (0)), .int (ix)]) (n := 4) (Nat.le_of_ble_eq_true rfl)
  rw [lg_entry_eq]
  generalize (lg_sl ([.ref (q 0), .int (nI (0)), .int (ix)]) ++ List.replicate (4 - (lg_sl ([.ref (q 0), .int (nI (0)), .int (ix)])).length) Slot.unset).toArray = ls at hl ⊢
  have hl : lv_has ls 4 [(0, .ref (q 0)), (1, .int (nI (0))), (2, .int (ix))] := hl
  refine lv_iload_n hx hb dX4_known_0 rfl (lv_at hl 1 rfl) ?_
  refine roS1 (v := .int (b2i (iw (nI (0)) (nI (0)) (nI (1))))) (As := [.int (nI (0))]) (rest := []) (n := 1) ⟨hx, hb, hml, hown, htA⟩ (m_isClient l D cI cZ sa (nI (0)) s.heap ) (va_cwS 1 htA (gdS wd_873 wd_874 wd_5 wd_875) rfl rfl rfl (by decide +kernel) ⟨Nat.le_of_ble_eq_true rfl, Nat.le_of_ble_eq_true rfl⟩) hKK rfl hl.1 rfl (Nat.le_of_ble_eq_true rfl) dX4_known_1 (Nat.zero_le _) (Nat.zero_le _) ?_
  refine b_ifne (b := iw (nI (0)) (nI (0)) (nI (1))) (tgt := 11) hx hb dX4_known_4 (by decide) (fun c_1 => ?_) (fun c_1 => ?_)
  rotate_left
  · exact absurd (c_1.symm.trans (iw_n (by decide) (by decide) (by decide))) (by decide)
  refine lv_iload_n hx hb dX4_known_11 rfl (lv_at hl 2 rfl) ?_
  refine n_iconst (k := 0) hx hb dX4_known_12 (by decide) ?_
  refine lv_aload_n hx hb dX4_known_13 rfl (lv_at hl 0 rfl) ?_
  refine va_get (D := D) (ci := 4) (v := .ref (q 16)) (C := RX4) (T := TX4) (N := 26) hx hb htA uwX4 hown hKK.1 hP 0 rfl rfl 17 (by decide) (htA _ wd_662) (fun _ h9 => h9) rfl dX4_known_14 ?_
  refine lv_iload_n hx hb dX4_known_17 rfl (lv_at hl 1 rfl) ?_
  refine n_iald (g := μ 16) (cA := cI) (n := 2) (j := 0) hx hb hKK.1 hP 16 0 rfl rfl (by decide) (Nat.le_of_ble_eq_true rfl) dX4_known_18 ?_
  refine n_iconst (k := 1) hx hb dX4_known_19 (by decide) ?_
  refine n_ipred hx hb dX4_known_20 ?_
  refine roS1 (v := .int (b2i (iw (ix) (nI (0)) (oi (μ 16 0))))) (As := [.int (ix), .int (nI (0)), .int (oi (μ 16 0))]) (rest := []) (n := 3) ⟨hx, hb, hml, hown, htA⟩ (m_in l D cI cZ sa (ix) (nI (0)) (oi (μ 16 0)) s.heap ) (va_cwS 3 htA (gdS wd_732 wd_733 wd_5 wd_734) rfl rfl rfl (by decide +kernel) ⟨Nat.le_of_ble_eq_true rfl, Nat.le_of_ble_eq_true rfl⟩) hKK rfl hl.1 rfl (Nat.le_of_ble_eq_true rfl) dX4_known_21 (Nat.zero_le _) (Nat.zero_le _) ?_
  refine b_ifne (b := iw (ix) (nI (0)) (oi (μ 16 0))) (tgt := 31) hx hb dX4_known_24 (by decide) (fun c_2 => ?_) (fun c_2 => ?_)
  · exact absurd (c_2.symm.trans hz) (by decide)
  refine n_iconst (k := 2) hx hb dX4_known_27 (by decide) ?_
  refine lv_goto (tgt := 32) hx hb dX4_known_28 (by decide) ?_
  refine lv_istore_n (lv' := [(3, .int (nI (2))), (0, .ref (q 0)), (1, .int (nI (0))), (2, .int (ix))]) hx hb dX4_known_32 rfl hl (by decide) rfl (fun ls hl => ?_)
  refine lv_aload_n hx hb dX4_known_33 rfl (lv_at hl 1 rfl) ?_
  refine lv_iload_n hx hb dX4_known_34 rfl (lv_at hl 0 rfl) ?_
  refine wrV1 (v := .int (b2i (false))) (As := [.int (nI (2))]) (rest := []) (n := 1) ⟨hx, hb, hml, hown, htA⟩ (m_unfine l D cI cZ sa q μ 2 A (D_addr hD rfl) (by decide) (by decide)) (cwV 1 htA (gdV wd_735 wd_737 wp_9 wd_5 wd_738) rfl rfl rfl (by decide +kernel) ⟨Nat.le_of_ble_eq_true rfl, Nat.le_of_ble_eq_true rfl⟩) hKK hP 0 rfl rfl rfl hl.1 rfl (Nat.le_of_ble_eq_true rfl) dX4_known_35 (Nat.zero_le _) (Nat.zero_le _) hS (fun _ h => h) (fun H1 locs hP1 hz1 hk1 hS => ?_)
  have hP : va_P D vwCl (wM q cI cZ (sv μ 0 2 (2))) H1 := hP1
  generalize H1 = H at hP hS ⊢
  refine b_ifeq (b := false) (tgt := 55) hx hb dX4_known_38 (by decide) (fun c_3 => ?_) (fun c_3 => ?_)
  rotate_left
  · exact absurd c_3 (by decide)
  refine n_iconst (k := 0) hx hb dX4_known_55 (by decide) ?_
  exact wr_i hx hb hr hlocks (rfl) hP hS dX4_known_56
set_option maxHeartbeats 4000000 in
set_option maxRecDepth 100000 in
theorem r_known_ok0 (l : Launch) (D : va_G) (cI cZ : ClassId) (sa : Nat → Nat) (q : Nat → Nat) (μ : ST) (j : Nat) (A : Nat → Prop) (hD : va_D A (wM q cI cZ μ)) (hj : j < μ 16 0) (h10 : μ 16 0 ≤ 10) : Met l yX4_known (codeW yX4_known cX4_known 4 (some .int)) ({ frames := 2, cells := 0, slots := 0, locals := 42 } : Room) (WrP D cI cZ sa (wM q cI cZ μ) [.ref (q 0), .int (nI (0)), .int (nI (j))]) (WrQ (some (.int (nI (μ 18 (10 * 0 + j))))) D (wM q cI cZ (sv μ 0 2 0)) A) 0 0 A := by
  refine Met.ofW (cc := cX4_known) (maxL := 4) (ret := (some .int)) (by decide) rfl ?_
  intro p e s m args below meth c s₁ B hml hv
  obtain ⟨rfl, hH, hKK⟩ := hv
  have hx := B.exec
  have hb := B.bytes
  have hr := B.returns
  have htA : ∀ w ∈ WA, w.before _ s = true := fun w h => atoms_spec (ws := (codeW yX4_known cX4_known 4 (some .int))) B.pre w (List.mem_cons_of_mem _ h)
  have hown : s.vm.findClass RX4 = some m.cls := findClass_of_methodNamed B.named
  have hlocks := B.notSynchronized
  have hP := hH
  have hS : va_S A s.heap s.heap [] := va_S.rf
  have hl := lv_entry ([.ref (q 0), .int (nI (0)), .int (nI (j))]) (n := 4) (Nat.le_of_ble_eq_true rfl)
  rw [lg_entry_eq]
  generalize (lg_sl ([.ref (q 0), .int (nI (0)), .int (nI (j))]) ++ List.replicate (4 - (lg_sl ([.ref (q 0), .int (nI (0)), .int (nI (j))])).length) Slot.unset).toArray = ls at hl ⊢
  have hl : lv_has ls 4 [(0, .ref (q 0)), (1, .int (nI (0))), (2, .int (nI (j)))] := hl
  refine lv_iload_n hx hb dX4_known_0 rfl (lv_at hl 1 rfl) ?_
  refine roS1 (v := .int (b2i (iw (nI (0)) (nI (0)) (nI (1))))) (As := [.int (nI (0))]) (rest := []) (n := 1) ⟨hx, hb, hml, hown, htA⟩ (m_isClient l D cI cZ sa (nI (0)) s.heap ) (va_cwS 1 htA (gdS wd_873 wd_874 wd_5 wd_875) rfl rfl rfl (by decide +kernel) ⟨Nat.le_of_ble_eq_true rfl, Nat.le_of_ble_eq_true rfl⟩) hKK rfl hl.1 rfl (Nat.le_of_ble_eq_true rfl) dX4_known_1 (Nat.zero_le _) (Nat.zero_le _) ?_
  refine b_ifne (b := iw (nI (0)) (nI (0)) (nI (1))) (tgt := 11) hx hb dX4_known_4 (by decide) (fun c_1 => ?_) (fun c_1 => ?_)
  rotate_left
  · exact absurd (c_1.symm.trans (iw_n (by decide) (by decide) (by decide))) (by decide)
  refine lv_iload_n hx hb dX4_known_11 rfl (lv_at hl 2 rfl) ?_
  refine n_iconst (k := 0) hx hb dX4_known_12 (by decide) ?_
  refine lv_aload_n hx hb dX4_known_13 rfl (lv_at hl 0 rfl) ?_
  refine va_get (D := D) (ci := 4) (v := .ref (q 16)) (C := RX4) (T := TX4) (N := 26) hx hb htA uwX4 hown hKK.1 hP 0 rfl rfl 17 (by decide) (htA _ wd_662) (fun _ h9 => h9) rfl dX4_known_14 ?_
  refine lv_iload_n hx hb dX4_known_17 rfl (lv_at hl 1 rfl) ?_
  refine n_iald (g := μ 16) (cA := cI) (n := 2) (j := 0) hx hb hKK.1 hP 16 0 rfl rfl (by decide) (Nat.le_of_ble_eq_true rfl) dX4_known_18 ?_
  refine n_iconst (k := 1) hx hb dX4_known_19 (by decide) ?_
  refine n_ipred hx hb dX4_known_20 ?_
  refine roS1 (v := .int (b2i (iw (nI (j)) (nI (0)) (oi (μ 16 0))))) (As := [.int (nI (j)), .int (nI (0)), .int (oi (μ 16 0))]) (rest := []) (n := 3) ⟨hx, hb, hml, hown, htA⟩ (m_in l D cI cZ sa (nI (j)) (nI (0)) (oi (μ 16 0)) s.heap ) (va_cwS 3 htA (gdS wd_732 wd_733 wd_5 wd_734) rfl rfl rfl (by decide +kernel) ⟨Nat.le_of_ble_eq_true rfl, Nat.le_of_ble_eq_true rfl⟩) hKK rfl hl.1 rfl (Nat.le_of_ble_eq_true rfl) dX4_known_21 (Nat.zero_le _) (Nat.zero_le _) ?_
  refine b_ifne (b := iw (nI (j)) (nI (0)) (oi (μ 16 0))) (tgt := 31) hx hb dX4_known_24 (by decide) (fun c_2 => ?_) (fun c_2 => ?_)
  rotate_left
  · exact absurd (c_2.symm.trans (iw_k hj (by omega))) (by decide)
  refine n_iconst (k := 0) hx hb dX4_known_31 (by decide) ?_
  refine lv_istore_n (lv' := [(3, .int (nI (0))), (0, .ref (q 0)), (1, .int (nI (0))), (2, .int (nI (j)))]) hx hb dX4_known_32 rfl hl (by decide) rfl (fun ls hl => ?_)
  refine lv_aload_n hx hb dX4_known_33 rfl (lv_at hl 1 rfl) ?_
  refine lv_iload_n hx hb dX4_known_34 rfl (lv_at hl 0 rfl) ?_
  refine wrV1 (v := .int (b2i (true))) (As := [.int (nI (0))]) (rest := []) (n := 1) ⟨hx, hb, hml, hown, htA⟩ (m_fine l D cI cZ sa q μ A (D_addr hD rfl) ) (cwV 1 htA (gdV wd_735 wd_737 wp_9 wd_5 wd_738) rfl rfl rfl (by decide +kernel) ⟨Nat.le_of_ble_eq_true rfl, Nat.le_of_ble_eq_true rfl⟩) hKK hP 0 rfl rfl rfl hl.1 rfl (Nat.le_of_ble_eq_true rfl) dX4_known_35 (Nat.zero_le _) (Nat.zero_le _) hS (fun _ h => h) (fun H1 locs hP1 hz1 hk1 hS => ?_)
  have hP : va_P D vwCl (wM q cI cZ (sv μ 0 2 (0))) H1 := hP1
  generalize H1 = H at hP hS ⊢
  refine b_ifeq (b := true) (tgt := 55) hx hb dX4_known_38 (by decide) (fun c_3 => ?_) (fun c_3 => ?_)
  · exact absurd c_3 (by decide)
  refine lv_aload_n hx hb dX4_known_41 rfl (lv_at hl 1 rfl) ?_
  refine va_get (D := D) (ci := 4) (v := .ref (q 18)) (C := RX4) (T := TX4) (N := 26) hx hb htA uwX4 hown hKK.1 hP 0 rfl rfl 19 (by decide) (htA _ wd_664) (fun _ h9 => h9) rfl dX4_known_42 ?_
  refine lv_bipush (v := nI 10) hx hb dX4_known_45 (by decide) ?_
  refine lv_iload_n hx hb dX4_known_47 rfl (lv_at hl 2 rfl) ?_
  refine n_imul hx hb dX4_known_48 ?_
  refine lv_iload_n hx hb dX4_known_49 rfl (lv_at hl 3 rfl) ?_
  refine n_iadd hx hb dX4_known_50 ?_
  refine n_iald (g := μ 18) (cA := cI) (n := 20) (j := (10 * 0) + j) hx hb hKK.1 hP 18 0 rfl rfl (by omega) (Nat.le_of_ble_eq_true rfl) dX4_known_51 ?_
  refine lv_goto (tgt := 56) hx hb dX4_known_52 (by decide) ?_
  exact wr_i hx hb hr hlocks (rfl) hP hS dX4_known_56
set_option maxHeartbeats 4000000 in
set_option maxRecDepth 100000 in
theorem r_known_no1 (l : Launch) (D : va_G) (cI cZ : ClassId) (sa : Nat → Nat) (q : Nat → Nat) (μ : ST) (ix : Int32) (A : Nat → Prop) (hD : va_D A (wM q cI cZ μ)) (hz : iw (ix) (nI (0)) (oi (μ 16 1)) = false) : Met l yX4_known (codeW yX4_known cX4_known 4 (some .int)) ({ frames := 2, cells := 0, slots := 0, locals := 42 } : Room) (WrP D cI cZ sa (wM q cI cZ μ) [.ref (q 0), .int (nI (1)), .int (ix)]) (WrQ (some (.int (nI (0)))) D (wM q cI cZ (sv μ 0 2 2)) A) 0 0 A := by
  refine Met.ofW (cc := cX4_known) (maxL := 4) (ret := (some .int)) (by decide) rfl ?_
  intro p e s m args below meth c s₁ B hml hv
  obtain ⟨rfl, hH, hKK⟩ := hv
  have hx := B.exec
  have hb := B.bytes
  have hr := B.returns
  have htA : ∀ w ∈ WA, w.before _ s = true := fun w h => atoms_spec (ws := (codeW yX4_known cX4_known 4 (some .int))) B.pre w (List.mem_cons_of_mem _ h)
  have hown : s.vm.findClass RX4 = some m.cls := findClass_of_methodNamed B.named
  have hlocks := B.notSynchronized
  have hP := hH
  have hS : va_S A s.heap s.heap [] := va_S.rf
  have hl := lv_entry ([.ref (q 0), .int (nI (1)), .int (ix)]) (n := 4) (Nat.le_of_ble_eq_true rfl)
  rw [lg_entry_eq]
  generalize (lg_sl ([.ref (q 0), .int (nI (1)), .int (ix)]) ++ List.replicate (4 - (lg_sl ([.ref (q 0), .int (nI (1)), .int (ix)])).length) Slot.unset).toArray = ls at hl ⊢
  have hl : lv_has ls 4 [(0, .ref (q 0)), (1, .int (nI (1))), (2, .int (ix))] := hl
  refine lv_iload_n hx hb dX4_known_0 rfl (lv_at hl 1 rfl) ?_
  refine roS1 (v := .int (b2i (iw (nI (1)) (nI (0)) (nI (1))))) (As := [.int (nI (1))]) (rest := []) (n := 1) ⟨hx, hb, hml, hown, htA⟩ (m_isClient l D cI cZ sa (nI (1)) s.heap ) (va_cwS 1 htA (gdS wd_873 wd_874 wd_5 wd_875) rfl rfl rfl (by decide +kernel) ⟨Nat.le_of_ble_eq_true rfl, Nat.le_of_ble_eq_true rfl⟩) hKK rfl hl.1 rfl (Nat.le_of_ble_eq_true rfl) dX4_known_1 (Nat.zero_le _) (Nat.zero_le _) ?_
  refine b_ifne (b := iw (nI (1)) (nI (0)) (nI (1))) (tgt := 11) hx hb dX4_known_4 (by decide) (fun c_1 => ?_) (fun c_1 => ?_)
  rotate_left
  · exact absurd (c_1.symm.trans (iw_n (by decide) (by decide) (by decide))) (by decide)
  refine lv_iload_n hx hb dX4_known_11 rfl (lv_at hl 2 rfl) ?_
  refine n_iconst (k := 0) hx hb dX4_known_12 (by decide) ?_
  refine lv_aload_n hx hb dX4_known_13 rfl (lv_at hl 0 rfl) ?_
  refine va_get (D := D) (ci := 4) (v := .ref (q 16)) (C := RX4) (T := TX4) (N := 26) hx hb htA uwX4 hown hKK.1 hP 0 rfl rfl 17 (by decide) (htA _ wd_662) (fun _ h9 => h9) rfl dX4_known_14 ?_
  refine lv_iload_n hx hb dX4_known_17 rfl (lv_at hl 1 rfl) ?_
  refine n_iald (g := μ 16) (cA := cI) (n := 2) (j := 1) hx hb hKK.1 hP 16 0 rfl rfl (by decide) (Nat.le_of_ble_eq_true rfl) dX4_known_18 ?_
  refine n_iconst (k := 1) hx hb dX4_known_19 (by decide) ?_
  refine n_ipred hx hb dX4_known_20 ?_
  refine roS1 (v := .int (b2i (iw (ix) (nI (0)) (oi (μ 16 1))))) (As := [.int (ix), .int (nI (0)), .int (oi (μ 16 1))]) (rest := []) (n := 3) ⟨hx, hb, hml, hown, htA⟩ (m_in l D cI cZ sa (ix) (nI (0)) (oi (μ 16 1)) s.heap ) (va_cwS 3 htA (gdS wd_732 wd_733 wd_5 wd_734) rfl rfl rfl (by decide +kernel) ⟨Nat.le_of_ble_eq_true rfl, Nat.le_of_ble_eq_true rfl⟩) hKK rfl hl.1 rfl (Nat.le_of_ble_eq_true rfl) dX4_known_21 (Nat.zero_le _) (Nat.zero_le _) ?_
  refine b_ifne (b := iw (ix) (nI (0)) (oi (μ 16 1))) (tgt := 31) hx hb dX4_known_24 (by decide) (fun c_2 => ?_) (fun c_2 => ?_)
  · exact absurd (c_2.symm.trans hz) (by decide)
  refine n_iconst (k := 2) hx hb dX4_known_27 (by decide) ?_
  refine lv_goto (tgt := 32) hx hb dX4_known_28 (by decide) ?_
  refine lv_istore_n (lv' := [(3, .int (nI (2))), (0, .ref (q 0)), (1, .int (nI (1))), (2, .int (ix))]) hx hb dX4_known_32 rfl hl (by decide) rfl (fun ls hl => ?_)
  refine lv_aload_n hx hb dX4_known_33 rfl (lv_at hl 1 rfl) ?_
  refine lv_iload_n hx hb dX4_known_34 rfl (lv_at hl 0 rfl) ?_
  refine wrV1 (v := .int (b2i (false))) (As := [.int (nI (2))]) (rest := []) (n := 1) ⟨hx, hb, hml, hown, htA⟩ (m_unfine l D cI cZ sa q μ 2 A (D_addr hD rfl) (by decide) (by decide)) (cwV 1 htA (gdV wd_735 wd_737 wp_9 wd_5 wd_738) rfl rfl rfl (by decide +kernel) ⟨Nat.le_of_ble_eq_true rfl, Nat.le_of_ble_eq_true rfl⟩) hKK hP 0 rfl rfl rfl hl.1 rfl (Nat.le_of_ble_eq_true rfl) dX4_known_35 (Nat.zero_le _) (Nat.zero_le _) hS (fun _ h => h) (fun H1 locs hP1 hz1 hk1 hS => ?_)
  have hP : va_P D vwCl (wM q cI cZ (sv μ 0 2 (2))) H1 := hP1
  generalize H1 = H at hP hS ⊢
  refine b_ifeq (b := false) (tgt := 55) hx hb dX4_known_38 (by decide) (fun c_3 => ?_) (fun c_3 => ?_)
  rotate_left
  · exact absurd c_3 (by decide)
  refine n_iconst (k := 0) hx hb dX4_known_55 (by decide) ?_
  exact wr_i hx hb hr hlocks (rfl) hP hS dX4_known_56
set_option maxHeartbeats 4000000 in
set_option maxRecDepth 100000 in
theorem r_known_ok1 (l : Launch) (D : va_G) (cI cZ : ClassId) (sa : Nat → Nat) (q : Nat → Nat) (μ : ST) (j : Nat) (A : Nat → Prop) (hD : va_D A (wM q cI cZ μ)) (hj : j < μ 16 1) (h10 : μ 16 1 ≤ 10) : Met l yX4_known (codeW yX4_known cX4_known 4 (some .int)) ({ frames := 2, cells := 0, slots := 0, locals := 42 } : Room) (WrP D cI cZ sa (wM q cI cZ μ) [.ref (q 0), .int (nI (1)), .int (nI (j))]) (WrQ (some (.int (nI (μ 18 (10 * 1 + j))))) D (wM q cI cZ (sv μ 0 2 0)) A) 0 0 A := by
  refine Met.ofW (cc := cX4_known) (maxL := 4) (ret := (some .int)) (by decide) rfl ?_
  intro p e s m args below meth c s₁ B hml hv
  obtain ⟨rfl, hH, hKK⟩ := hv
  have hx := B.exec
  have hb := B.bytes
  have hr := B.returns
  have htA : ∀ w ∈ WA, w.before _ s = true := fun w h => atoms_spec (ws := (codeW yX4_known cX4_known 4 (some .int))) B.pre w (List.mem_cons_of_mem _ h)
  have hown : s.vm.findClass RX4 = some m.cls := findClass_of_methodNamed B.named
  have hlocks := B.notSynchronized
  have hP := hH
  have hS : va_S A s.heap s.heap [] := va_S.rf
  have hl := lv_entry ([.ref (q 0), .int (nI (1)), .int (nI (j))]) (n := 4) (Nat.le_of_ble_eq_true rfl)
  rw [lg_entry_eq]
  generalize (lg_sl ([.ref (q 0), .int (nI (1)), .int (nI (j))]) ++ List.replicate (4 - (lg_sl ([.ref (q 0), .int (nI (1)), .int (nI (j))])).length) Slot.unset).toArray = ls at hl ⊢
  have hl : lv_has ls 4 [(0, .ref (q 0)), (1, .int (nI (1))), (2, .int (nI (j)))] := hl
  refine lv_iload_n hx hb dX4_known_0 rfl (lv_at hl 1 rfl) ?_
  refine roS1 (v := .int (b2i (iw (nI (1)) (nI (0)) (nI (1))))) (As := [.int (nI (1))]) (rest := []) (n := 1) ⟨hx, hb, hml, hown, htA⟩ (m_isClient l D cI cZ sa (nI (1)) s.heap ) (va_cwS 1 htA (gdS wd_873 wd_874 wd_5 wd_875) rfl rfl rfl (by decide +kernel) ⟨Nat.le_of_ble_eq_true rfl, Nat.le_of_ble_eq_true rfl⟩) hKK rfl hl.1 rfl (Nat.le_of_ble_eq_true rfl) dX4_known_1 (Nat.zero_le _) (Nat.zero_le _) ?_
  refine b_ifne (b := iw (nI (1)) (nI (0)) (nI (1))) (tgt := 11) hx hb dX4_known_4 (by decide) (fun c_1 => ?_) (fun c_1 => ?_)
  rotate_left
  · exact absurd (c_1.symm.trans (iw_n (by decide) (by decide) (by decide))) (by decide)
  refine lv_iload_n hx hb dX4_known_11 rfl (lv_at hl 2 rfl) ?_
  refine n_iconst (k := 0) hx hb dX4_known_12 (by decide) ?_
  refine lv_aload_n hx hb dX4_known_13 rfl (lv_at hl 0 rfl) ?_
  refine va_get (D := D) (ci := 4) (v := .ref (q 16)) (C := RX4) (T := TX4) (N := 26) hx hb htA uwX4 hown hKK.1 hP 0 rfl rfl 17 (by decide) (htA _ wd_662) (fun _ h9 => h9) rfl dX4_known_14 ?_
  refine lv_iload_n hx hb dX4_known_17 rfl (lv_at hl 1 rfl) ?_
  refine n_iald (g := μ 16) (cA := cI) (n := 2) (j := 1) hx hb hKK.1 hP 16 0 rfl rfl (by decide) (Nat.le_of_ble_eq_true rfl) dX4_known_18 ?_
  refine n_iconst (k := 1) hx hb dX4_known_19 (by decide) ?_
  refine n_ipred hx hb dX4_known_20 ?_
  refine roS1 (v := .int (b2i (iw (nI (j)) (nI (0)) (oi (μ 16 1))))) (As := [.int (nI (j)), .int (nI (0)), .int (oi (μ 16 1))]) (rest := []) (n := 3) ⟨hx, hb, hml, hown, htA⟩ (m_in l D cI cZ sa (nI (j)) (nI (0)) (oi (μ 16 1)) s.heap ) (va_cwS 3 htA (gdS wd_732 wd_733 wd_5 wd_734) rfl rfl rfl (by decide +kernel) ⟨Nat.le_of_ble_eq_true rfl, Nat.le_of_ble_eq_true rfl⟩) hKK rfl hl.1 rfl (Nat.le_of_ble_eq_true rfl) dX4_known_21 (Nat.zero_le _) (Nat.zero_le _) ?_
  refine b_ifne (b := iw (nI (j)) (nI (0)) (oi (μ 16 1))) (tgt := 31) hx hb dX4_known_24 (by decide) (fun c_2 => ?_) (fun c_2 => ?_)
  rotate_left
  · exact absurd (c_2.symm.trans (iw_k hj (by omega))) (by decide)
  refine n_iconst (k := 0) hx hb dX4_known_31 (by decide) ?_
  refine lv_istore_n (lv' := [(3, .int (nI (0))), (0, .ref (q 0)), (1, .int (nI (1))), (2, .int (nI (j)))]) hx hb dX4_known_32 rfl hl (by decide) rfl (fun ls hl => ?_)
  refine lv_aload_n hx hb dX4_known_33 rfl (lv_at hl 1 rfl) ?_
  refine lv_iload_n hx hb dX4_known_34 rfl (lv_at hl 0 rfl) ?_
  refine wrV1 (v := .int (b2i (true))) (As := [.int (nI (0))]) (rest := []) (n := 1) ⟨hx, hb, hml, hown, htA⟩ (m_fine l D cI cZ sa q μ A (D_addr hD rfl) ) (cwV 1 htA (gdV wd_735 wd_737 wp_9 wd_5 wd_738) rfl rfl rfl (by decide +kernel) ⟨Nat.le_of_ble_eq_true rfl, Nat.le_of_ble_eq_true rfl⟩) hKK hP 0 rfl rfl rfl hl.1 rfl (Nat.le_of_ble_eq_true rfl) dX4_known_35 (Nat.zero_le _) (Nat.zero_le _) hS (fun _ h => h) (fun H1 locs hP1 hz1 hk1 hS => ?_)
  have hP : va_P D vwCl (wM q cI cZ (sv μ 0 2 (0))) H1 := hP1
  generalize H1 = H at hP hS ⊢
  refine b_ifeq (b := true) (tgt := 55) hx hb dX4_known_38 (by decide) (fun c_3 => ?_) (fun c_3 => ?_)
  · exact absurd c_3 (by decide)
  refine lv_aload_n hx hb dX4_known_41 rfl (lv_at hl 1 rfl) ?_
  refine va_get (D := D) (ci := 4) (v := .ref (q 18)) (C := RX4) (T := TX4) (N := 26) hx hb htA uwX4 hown hKK.1 hP 0 rfl rfl 19 (by decide) (htA _ wd_664) (fun _ h9 => h9) rfl dX4_known_42 ?_
  refine lv_bipush (v := nI 10) hx hb dX4_known_45 (by decide) ?_
  refine lv_iload_n hx hb dX4_known_47 rfl (lv_at hl 2 rfl) ?_
  refine n_imul hx hb dX4_known_48 ?_
  refine lv_iload_n hx hb dX4_known_49 rfl (lv_at hl 3 rfl) ?_
  refine n_iadd hx hb dX4_known_50 ?_
  refine n_iald (g := μ 18) (cA := cI) (n := 20) (j := (10 * 1) + j) hx hb hKK.1 hP 18 0 rfl rfl (by omega) (Nat.le_of_ble_eq_true rfl) dX4_known_51 ?_
  refine lv_goto (tgt := 56) hx hb dX4_known_52 (by decide) ?_
  exact wr_i hx hb hr hlocks (rfl) hP hS dX4_known_56
set_option maxHeartbeats 4000000 in
set_option maxRecDepth 100000 in
theorem r_thrown (l : Launch) (D : va_G) (cI cZ : ClassId) (sa : Nat → Nat) (q : Nat → Nat) (μ : ST) (H : Heap) (hP : va_P D vwCl (wM q cI cZ μ) H)  : Met l yX4_thrown (codeW yX4_thrown cX4_thrown 1 (some .int)) ({ frames := 0, cells := 0, slots := 0, locals := 0 } : Room) (RoP D cI cZ sa H [.ref (q 0)]) (RoQ (some (.int (nI (μ 0 2)))) H) 0 0 RoF := by
  refine Met.ofW (cc := cX4_thrown) (maxL := 1) (ret := (some .int)) (by decide) rfl ?_
  intro p e s m args below meth c s₁ B hml hv
  obtain ⟨rfl, hH, hKK⟩ := hv
  subst hH
  have hx := B.exec
  have hb := B.bytes
  have hr := B.returns
  have htA : ∀ w ∈ WA, w.before _ s = true := fun w h => atoms_spec (ws := (codeW yX4_thrown cX4_thrown 1 (some .int))) B.pre w (List.mem_cons_of_mem _ h)
  have hown : s.vm.findClass RX4 = some m.cls := findClass_of_methodNamed B.named
  have hlocks := B.notSynchronized
  have hl := lv_entry ([.ref (q 0)]) (n := 1) (Nat.le_of_ble_eq_true rfl)
  rw [lg_entry_eq]
  generalize (lg_sl ([.ref (q 0)]) ++ List.replicate (1 - (lg_sl ([.ref (q 0)])).length) Slot.unset).toArray = ls at hl ⊢
  have hl : lv_has ls 1 [(0, .ref (q 0))] := hl
  refine lv_aload_n hx hb dX4_thrown_0 rfl (lv_at hl 0 rfl) ?_
  refine va_get (D := D) (ci := 4) (v := .int (nI (μ 0 2))) (C := RX4) (T := TX4) (N := 26) hx hb htA uwX4 hown hKK.1 hP 0 rfl rfl 25 (by decide) (htA _ wd_670) (fun _ h9 => h9) rfl dX4_thrown_1 ?_
  exact ro_i hx hb hr hlocks (rfl) dX4_thrown_4
set_option maxHeartbeats 4000000 in
set_option maxRecDepth 100000 in
theorem m_windowPlace0 (l : Launch) (D : va_G) (cI cZ : ClassId) (sa : Nat → Nat) (q : Nat → Nat) (μ : ST) (x : Int32) (H : Heap) (hP : va_P D vwCl (wM q cI cZ μ) H) (h10 : μ 16 0 ≤ 10) : Met l yX4_windowPlace (codeW yX4_windowPlace cX4_windowPlace 5 (some .int)) ({ frames := 0, cells := 0, slots := 0, locals := 0 } : Room) (RoP D cI cZ sa H [.ref (q 0), .int (nI (0)), .int (x)]) (RoQ (some (.int (oi (wpl μ 0 x (μ 16 0))))) H) 0 0 RoF := by
  refine Met.ofW (cc := cX4_windowPlace) (maxL := 5) (ret := (some .int)) (by decide) rfl ?_
  intro p e s m args below meth c s₁ B hml hv
  obtain ⟨rfl, hH, hKK⟩ := hv
  subst hH
  have hx := B.exec
  have hb := B.bytes
  have hr := B.returns
  have htA : ∀ w ∈ WA, w.before _ s = true := fun w h => atoms_spec (ws := (codeW yX4_windowPlace cX4_windowPlace 5 (some .int))) B.pre w (List.mem_cons_of_mem _ h)
  have hown : s.vm.findClass RX4 = some m.cls := findClass_of_methodNamed B.named
  have hlocks := B.notSynchronized
  have hl := lv_entry ([.ref (q 0), .int (nI (0)), .int (x)]) (n := 5) (Nat.le_of_ble_eq_true rfl)
  rw [lg_entry_eq]
  generalize (lg_sl ([.ref (q 0), .int (nI (0)), .int (x)]) ++ List.replicate (5 - (lg_sl ([.ref (q 0), .int (nI (0)), .int (x)])).length) Slot.unset).toArray = ls at hl ⊢
  have hl : lv_has ls 5 [(0, .ref (q 0)), (1, .int (nI (0))), (2, .int (x))] := hl
  refine lv_iconst (v := oi 0) hx hb dX4_windowPlace_0 (by decide) ?_
  refine lv_istore_n (lv' := [(3, .int (oi (0))), (0, .ref (q 0)), (1, .int (nI (0))), (2, .int (x))]) hx hb dX4_windowPlace_1 rfl hl (by decide) rfl (fun ls hl => ?_)
  refine lv_bipush (v := nI 10) hx hb dX4_windowPlace_2 (by decide) ?_
  refine lv_iload_n hx hb dX4_windowPlace_4 rfl (lv_at hl 2 rfl) ?_
  refine n_imul hx hb dX4_windowPlace_5 ?_
  refine lv_istore (lv' := [(4, .int (nI (10 * 0))), (3, .int (oi (0))), (0, .ref (q 0)), (1, .int (nI (0))), (2, .int (x))]) hx hb dX4_windowPlace_6 hl (by decide) rfl (fun ls hl => ?_)
  have loop_8 : ∀ (n : Nat) (i : Nat), (i + n = μ 16 0) → ∀ (ls : Array Slot), lv_has ls 5 [(0, .ref (q 0)), (1, .int (nI (0))), (2, .int (x)), (3, .int (oi (wpl μ 0 x i))), (4, .int (nI (10 * 0 + i)))] → W p l e (headSpec (codeW yX4_windowPlace cX4_windowPlace 5 (some .int)) ({ frames := 0, cells := 0, slots := 0, locals := 0 } : Room)).room s m ([.ref (q 0), .int (nI (0)), .int (x)] : List Value).toArray below meth c s.heap [] 0 0 (MQ below (RoQ (some (.int (oi (wpl μ 0 x (μ 16 0))))) s.heap) ([.ref (q 0), .int (nI (0)), .int (x)] : List Value).toArray s 0 0 RoF) (F0 m 8 ls []) := by
    intro n
    induction n with
    | zero =>
      intro i hin ls hl
      refine lv_iload hx hb dX4_windowPlace_8 (lv_at hl 4 rfl) ?_
      refine lv_bipush (v := nI 10) hx hb dX4_windowPlace_10 (by decide) ?_
      refine lv_iload_n hx hb dX4_windowPlace_12 rfl (lv_at hl 1 rfl) ?_
      refine n_imul hx hb dX4_windowPlace_13 ?_
      refine lv_aload_n hx hb dX4_windowPlace_14 rfl (lv_at hl 0 rfl) ?_
      refine va_get (D := D) (ci := 4) (v := .ref (q 16)) (C := RX4) (T := TX4) (N := 26) hx hb htA uwX4 hown hKK.1 hP 0 rfl rfl 17 (by decide) (htA _ wd_662) (fun _ h9 => h9) rfl dX4_windowPlace_15 ?_
      refine lv_iload_n hx hb dX4_windowPlace_18 rfl (lv_at hl 1 rfl) ?_
      refine n_iald (g := μ 16) (cA := cI) (n := 2) (j := 0) hx hb hKK.1 hP 16 0 rfl rfl (by decide) (Nat.le_of_ble_eq_true rfl) dX4_windowPlace_19 ?_
      refine n_iadd hx hb dX4_windowPlace_20 ?_
      refine n_icmp_ge (x := 10 * 0 + i) (y := (10 * 0) + (μ 16 0)) (tgt := 48) hx hb dX4_windowPlace_21 (by decide) (by omega) (by omega) (fun c_1 => ?_) (fun c_1 => ?_)
      rotate_left
      · exfalso; omega
      refine lv_iload_n hx hb dX4_windowPlace_48 rfl (lv_at hl 3 rfl) ?_
      exact ro_i hx hb hr hlocks (by rw [show i = μ 16 0 by omega]) dX4_windowPlace_49
    | succ n ih =>
      intro i hin ls hl
      refine lv_iload hx hb dX4_windowPlace_8 (lv_at hl 4 rfl) ?_
      refine lv_bipush (v := nI 10) hx hb dX4_windowPlace_10 (by decide) ?_
      refine lv_iload_n hx hb dX4_windowPlace_12 rfl (lv_at hl 1 rfl) ?_
      refine n_imul hx hb dX4_windowPlace_13 ?_
      refine lv_aload_n hx hb dX4_windowPlace_14 rfl (lv_at hl 0 rfl) ?_
      refine va_get (D := D) (ci := 4) (v := .ref (q 16)) (C := RX4) (T := TX4) (N := 26) hx hb htA uwX4 hown hKK.1 hP 0 rfl rfl 17 (by decide) (htA _ wd_662) (fun _ h9 => h9) rfl dX4_windowPlace_15 ?_
      refine lv_iload_n hx hb dX4_windowPlace_18 rfl (lv_at hl 1 rfl) ?_
      refine n_iald (g := μ 16) (cA := cI) (n := 2) (j := 0) hx hb hKK.1 hP 16 0 rfl rfl (by decide) (Nat.le_of_ble_eq_true rfl) dX4_windowPlace_19 ?_
      refine n_iadd hx hb dX4_windowPlace_20 ?_
      refine n_icmp_ge (x := 10 * 0 + i) (y := (10 * 0) + (μ 16 0)) (tgt := 48) hx hb dX4_windowPlace_21 (by decide) (by omega) (by omega) (fun c_2 => ?_) (fun c_2 => ?_)
      · exfalso; omega
      refine lv_aload_n hx hb dX4_windowPlace_24 rfl (lv_at hl 0 rfl) ?_
      refine va_get (D := D) (ci := 4) (v := .ref (q 17)) (C := RX4) (T := TX4) (N := 26) hx hb htA uwX4 hown hKK.1 hP 0 rfl rfl 18 (by decide) (htA _ wd_663) (fun _ h9 => h9) rfl dX4_windowPlace_25 ?_
      refine lv_iload hx hb dX4_windowPlace_28 (lv_at hl 4 rfl) ?_
      refine n_iald (g := μ 17) (cA := cI) (n := 20) (j := 10 * 0 + i) hx hb hKK.1 hP 17 0 rfl rfl (by omega) (Nat.le_of_ble_eq_true rfl) dX4_windowPlace_30 ?_
      refine lv_iload_n hx hb dX4_windowPlace_31 rfl (lv_at hl 2 rfl) ?_
      refine lv_icmp_ne (x := nI (μ 17 (10 * 0 + i))) (y := x) (tgt := 40) hx hb dX4_windowPlace_32 (by decide) (fun c_3 => ?_) (fun c_3 => ?_)
      · refine lv_iload_n hx hb dX4_windowPlace_40 rfl (lv_at hl 3 rfl) ?_
        refine lv_istore_n (lv' := [(3, .int (oi (wpl μ 0 x i))), (0, .ref (q 0)), (1, .int (nI (0))), (2, .int (x)), (4, .int (nI (10 * 0 + i)))]) hx hb dX4_windowPlace_41 rfl hl (by decide) rfl (fun ls hl => ?_)
        refine lv_iinc (v := nI (10 * 0 + i + 1)) (lv' := [(4, .int (nI (10 * 0 + i + 1))), (3, .int (oi (wpl μ 0 x i))), (0, .ref (q 0)), (1, .int (nI (0))), (2, .int (x))]) hx hb dX4_windowPlace_42 hl (k := 4) rfl (n_inc (10 * 0 + i) 1 rfl) (by decide) rfl (fun ls hl => ?_)
        refine lv_goto (tgt := 8) hx hb dX4_windowPlace_45 (by decide) ?_
        have e : wpl μ 0 x i = wpl μ 0 x (i + 1) := by simp only [wpl]; rw [decide_eq_false c_3]; rfl
        exact ih (i + 1) (by omega) ls (by rw [← e]; exact lv_sub hl [2, 3, 4, 1, 0] rfl)
      · refine lv_iload hx hb dX4_windowPlace_35 (lv_at hl 4 rfl) ?_
        refine lv_goto (tgt := 41) hx hb dX4_windowPlace_37 (by decide) ?_
        refine lv_istore_n (lv' := [(3, .int (nI (10 * 0 + i))), (0, .ref (q 0)), (1, .int (nI (0))), (2, .int (x)), (4, .int (nI (10 * 0 + i)))]) hx hb dX4_windowPlace_41 rfl hl (by decide) rfl (fun ls hl => ?_)
        refine lv_iinc (v := nI (10 * 0 + i + 1)) (lv' := [(4, .int (nI (10 * 0 + i + 1))), (3, .int (nI (10 * 0 + i))), (0, .ref (q 0)), (1, .int (nI (0))), (2, .int (x))]) hx hb dX4_windowPlace_42 hl (k := 4) rfl (n_inc (10 * 0 + i) 1 rfl) (by decide) rfl (fun ls hl => ?_)
        refine lv_goto (tgt := 8) hx hb dX4_windowPlace_45 (by decide) ?_
        have e : 10 * 0 + i + 1 = wpl μ 0 x (i + 1) := by simp only [wpl]; rw [decide_eq_true c_3]; rfl
        exact ih (i + 1) (by omega) ls (by rw [← e]; exact lv_sub hl [2, 3, 4, 1, 0] rfl)
  exact loop_8 (μ 16 0) 0 (by omega) ls (lv_sub hl [2, 3, 4, 1, 0] rfl)
set_option maxHeartbeats 4000000 in
set_option maxRecDepth 100000 in
theorem m_windowPlace1 (l : Launch) (D : va_G) (cI cZ : ClassId) (sa : Nat → Nat) (q : Nat → Nat) (μ : ST) (x : Int32) (H : Heap) (hP : va_P D vwCl (wM q cI cZ μ) H) (h10 : μ 16 1 ≤ 10) : Met l yX4_windowPlace (codeW yX4_windowPlace cX4_windowPlace 5 (some .int)) ({ frames := 0, cells := 0, slots := 0, locals := 0 } : Room) (RoP D cI cZ sa H [.ref (q 0), .int (nI (1)), .int (x)]) (RoQ (some (.int (oi (wpl μ 1 x (μ 16 1))))) H) 0 0 RoF := by
  refine Met.ofW (cc := cX4_windowPlace) (maxL := 5) (ret := (some .int)) (by decide) rfl ?_
  intro p e s m args below meth c s₁ B hml hv
  obtain ⟨rfl, hH, hKK⟩ := hv
  subst hH
  have hx := B.exec
  have hb := B.bytes
  have hr := B.returns
  have htA : ∀ w ∈ WA, w.before _ s = true := fun w h => atoms_spec (ws := (codeW yX4_windowPlace cX4_windowPlace 5 (some .int))) B.pre w (List.mem_cons_of_mem _ h)
  have hown : s.vm.findClass RX4 = some m.cls := findClass_of_methodNamed B.named
  have hlocks := B.notSynchronized
  have hl := lv_entry ([.ref (q 0), .int (nI (1)), .int (x)]) (n := 5) (Nat.le_of_ble_eq_true rfl)
  rw [lg_entry_eq]
  generalize (lg_sl ([.ref (q 0), .int (nI (1)), .int (x)]) ++ List.replicate (5 - (lg_sl ([.ref (q 0), .int (nI (1)), .int (x)])).length) Slot.unset).toArray = ls at hl ⊢
  have hl : lv_has ls 5 [(0, .ref (q 0)), (1, .int (nI (1))), (2, .int (x))] := hl
  refine lv_iconst (v := oi 0) hx hb dX4_windowPlace_0 (by decide) ?_
  refine lv_istore_n (lv' := [(3, .int (oi (0))), (0, .ref (q 0)), (1, .int (nI (1))), (2, .int (x))]) hx hb dX4_windowPlace_1 rfl hl (by decide) rfl (fun ls hl => ?_)
  refine lv_bipush (v := nI 10) hx hb dX4_windowPlace_2 (by decide) ?_
  refine lv_iload_n hx hb dX4_windowPlace_4 rfl (lv_at hl 2 rfl) ?_
  refine n_imul hx hb dX4_windowPlace_5 ?_
  refine lv_istore (lv' := [(4, .int (nI (10 * 1))), (3, .int (oi (0))), (0, .ref (q 0)), (1, .int (nI (1))), (2, .int (x))]) hx hb dX4_windowPlace_6 hl (by decide) rfl (fun ls hl => ?_)
  have loop_8 : ∀ (n : Nat) (i : Nat), (i + n = μ 16 1) → ∀ (ls : Array Slot), lv_has ls 5 [(0, .ref (q 0)), (1, .int (nI (1))), (2, .int (x)), (3, .int (oi (wpl μ 1 x i))), (4, .int (nI (10 * 1 + i)))] → W p l e (headSpec (codeW yX4_windowPlace cX4_windowPlace 5 (some .int)) ({ frames := 0, cells := 0, slots := 0, locals := 0 } : Room)).room s m ([.ref (q 0), .int (nI (1)), .int (x)] : List Value).toArray below meth c s.heap [] 0 0 (MQ below (RoQ (some (.int (oi (wpl μ 1 x (μ 16 1))))) s.heap) ([.ref (q 0), .int (nI (1)), .int (x)] : List Value).toArray s 0 0 RoF) (F0 m 8 ls []) := by
    intro n
    induction n with
    | zero =>
      intro i hin ls hl
      refine lv_iload hx hb dX4_windowPlace_8 (lv_at hl 4 rfl) ?_
      refine lv_bipush (v := nI 10) hx hb dX4_windowPlace_10 (by decide) ?_
      refine lv_iload_n hx hb dX4_windowPlace_12 rfl (lv_at hl 1 rfl) ?_
      refine n_imul hx hb dX4_windowPlace_13 ?_
      refine lv_aload_n hx hb dX4_windowPlace_14 rfl (lv_at hl 0 rfl) ?_
      refine va_get (D := D) (ci := 4) (v := .ref (q 16)) (C := RX4) (T := TX4) (N := 26) hx hb htA uwX4 hown hKK.1 hP 0 rfl rfl 17 (by decide) (htA _ wd_662) (fun _ h9 => h9) rfl dX4_windowPlace_15 ?_
      refine lv_iload_n hx hb dX4_windowPlace_18 rfl (lv_at hl 1 rfl) ?_
      refine n_iald (g := μ 16) (cA := cI) (n := 2) (j := 1) hx hb hKK.1 hP 16 0 rfl rfl (by decide) (Nat.le_of_ble_eq_true rfl) dX4_windowPlace_19 ?_
      refine n_iadd hx hb dX4_windowPlace_20 ?_
      refine n_icmp_ge (x := 10 * 1 + i) (y := (10 * 1) + (μ 16 1)) (tgt := 48) hx hb dX4_windowPlace_21 (by decide) (by omega) (by omega) (fun c_1 => ?_) (fun c_1 => ?_)
      rotate_left
      · exfalso; omega
      refine lv_iload_n hx hb dX4_windowPlace_48 rfl (lv_at hl 3 rfl) ?_
      exact ro_i hx hb hr hlocks (by rw [show i = μ 16 1 by omega]) dX4_windowPlace_49
    | succ n ih =>
      intro i hin ls hl
      refine lv_iload hx hb dX4_windowPlace_8 (lv_at hl 4 rfl) ?_
      refine lv_bipush (v := nI 10) hx hb dX4_windowPlace_10 (by decide) ?_
      refine lv_iload_n hx hb dX4_windowPlace_12 rfl (lv_at hl 1 rfl) ?_
      refine n_imul hx hb dX4_windowPlace_13 ?_
      refine lv_aload_n hx hb dX4_windowPlace_14 rfl (lv_at hl 0 rfl) ?_
      refine va_get (D := D) (ci := 4) (v := .ref (q 16)) (C := RX4) (T := TX4) (N := 26) hx hb htA uwX4 hown hKK.1 hP 0 rfl rfl 17 (by decide) (htA _ wd_662) (fun _ h9 => h9) rfl dX4_windowPlace_15 ?_
      refine lv_iload_n hx hb dX4_windowPlace_18 rfl (lv_at hl 1 rfl) ?_
      refine n_iald (g := μ 16) (cA := cI) (n := 2) (j := 1) hx hb hKK.1 hP 16 0 rfl rfl (by decide) (Nat.le_of_ble_eq_true rfl) dX4_windowPlace_19 ?_
      refine n_iadd hx hb dX4_windowPlace_20 ?_
      refine n_icmp_ge (x := 10 * 1 + i) (y := (10 * 1) + (μ 16 1)) (tgt := 48) hx hb dX4_windowPlace_21 (by decide) (by omega) (by omega) (fun c_2 => ?_) (fun c_2 => ?_)
      · exfalso; omega
      refine lv_aload_n hx hb dX4_windowPlace_24 rfl (lv_at hl 0 rfl) ?_
      refine va_get (D := D) (ci := 4) (v := .ref (q 17)) (C := RX4) (T := TX4) (N := 26) hx hb htA uwX4 hown hKK.1 hP 0 rfl rfl 18 (by decide) (htA _ wd_663) (fun _ h9 => h9) rfl dX4_windowPlace_25 ?_
      refine lv_iload hx hb dX4_windowPlace_28 (lv_at hl 4 rfl) ?_
      refine n_iald (g := μ 17) (cA := cI) (n := 20) (j := 10 * 1 + i) hx hb hKK.1 hP 17 0 rfl rfl (by omega) (Nat.le_of_ble_eq_true rfl) dX4_windowPlace_30 ?_
      refine lv_iload_n hx hb dX4_windowPlace_31 rfl (lv_at hl 2 rfl) ?_
      refine lv_icmp_ne (x := nI (μ 17 (10 * 1 + i))) (y := x) (tgt := 40) hx hb dX4_windowPlace_32 (by decide) (fun c_3 => ?_) (fun c_3 => ?_)
      · refine lv_iload_n hx hb dX4_windowPlace_40 rfl (lv_at hl 3 rfl) ?_
        refine lv_istore_n (lv' := [(3, .int (oi (wpl μ 1 x i))), (0, .ref (q 0)), (1, .int (nI (1))), (2, .int (x)), (4, .int (nI (10 * 1 + i)))]) hx hb dX4_windowPlace_41 rfl hl (by decide) rfl (fun ls hl => ?_)
        refine lv_iinc (v := nI (10 * 1 + i + 1)) (lv' := [(4, .int (nI (10 * 1 + i + 1))), (3, .int (oi (wpl μ 1 x i))), (0, .ref (q 0)), (1, .int (nI (1))), (2, .int (x))]) hx hb dX4_windowPlace_42 hl (k := 4) rfl (n_inc (10 * 1 + i) 1 rfl) (by decide) rfl (fun ls hl => ?_)
        refine lv_goto (tgt := 8) hx hb dX4_windowPlace_45 (by decide) ?_
        have e : wpl μ 1 x i = wpl μ 1 x (i + 1) := by simp only [wpl]; rw [decide_eq_false c_3]; rfl
        exact ih (i + 1) (by omega) ls (by rw [← e]; exact lv_sub hl [2, 3, 4, 1, 0] rfl)
      · refine lv_iload hx hb dX4_windowPlace_35 (lv_at hl 4 rfl) ?_
        refine lv_goto (tgt := 41) hx hb dX4_windowPlace_37 (by decide) ?_
        refine lv_istore_n (lv' := [(3, .int (nI (10 * 1 + i))), (0, .ref (q 0)), (1, .int (nI (1))), (2, .int (x)), (4, .int (nI (10 * 1 + i)))]) hx hb dX4_windowPlace_41 rfl hl (by decide) rfl (fun ls hl => ?_)
        refine lv_iinc (v := nI (10 * 1 + i + 1)) (lv' := [(4, .int (nI (10 * 1 + i + 1))), (3, .int (nI (10 * 1 + i))), (0, .ref (q 0)), (1, .int (nI (1))), (2, .int (x))]) hx hb dX4_windowPlace_42 hl (k := 4) rfl (n_inc (10 * 1 + i) 1 rfl) (by decide) rfl (fun ls hl => ?_)
        refine lv_goto (tgt := 8) hx hb dX4_windowPlace_45 (by decide) ?_
        have e : 10 * 1 + i + 1 = wpl μ 1 x (i + 1) := by simp only [wpl]; rw [decide_eq_true c_3]; rfl
        exact ih (i + 1) (by omega) ls (by rw [← e]; exact lv_sub hl [2, 3, 4, 1, 0] rfl)
  exact loop_8 (μ 16 1) 0 (by omega) ls (lv_sub hl [2, 3, 4, 1, 0] rfl)
