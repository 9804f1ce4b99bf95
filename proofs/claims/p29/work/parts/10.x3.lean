set_option maxHeartbeats 4000000 in
set_option maxRecDepth 100000 in
theorem c_boxesOf_t (l : Launch) (D : va_G) (cI cZ : ClassId) (sa : Nat → Nat) (q : Nat → Nat) (σ : ST) (j : Nat) (H : Heap) (hP : va_P D vwCl (wSS q cI σ) H) (hj : j < 60) : Met l yX2_boxesOf (codeW yX2_boxesOf cX2_boxesOf 2 (some .int)) ({ frames := 1, cells := 0, slots := 0, locals := 22 } : Room) (RoP D cI cZ sa H [.ref (q 1), .int (nI (j))]) (RoQ (some (.int (nI (σ 4 j)))) H) 0 0 RoF := by
  refine Met.ofW (cc := cX2_boxesOf) (maxL := 2) (ret := (some .int)) (by decide) rfl ?_
  intro p e s m args below meth c s₁ B hml hv
  obtain ⟨rfl, hH, hKK⟩ := hv
  subst hH
  have hx := B.exec
  have hb := B.bytes
  have hr := B.returns
  have htA : ∀ w ∈ WA, w.before _ s = true := fun w h => atoms_spec (ws := (codeW yX2_boxesOf cX2_boxesOf 2 (some .int))) B.pre w (List.mem_cons_of_mem _ h)
  have hown : s.vm.findClass RX2 = some m.cls := findClass_of_methodNamed B.named
  have hlocks := B.notSynchronized
  have hl := lv_entry ([.ref (q 1), .int (nI (j))]) (n := 2) (Nat.le_of_ble_eq_true rfl)
  rw [lg_entry_eq]
  generalize (lg_sl ([.ref (q 1), .int (nI (j))]) ++ List.replicate (2 - (lg_sl ([.ref (q 1), .int (nI (j))])).length) Slot.unset).toArray = ls at hl ⊢
  have hl : lv_has ls 2 [(0, .ref (q 1)), (1, .int (nI (j)))] := hl
  have hiw : iw (nI j) (nI 0) (nI 59) = true := iw_n (Nat.zero_le _) (by omega) (by decide)
  refine lv_iload_n hx hb dX2_boxesOf_0 rfl (lv_at hl 1 rfl) ?_
  refine n_iconst (k := 0) hx hb dX2_boxesOf_1 (by decide) ?_
  refine lv_bipush (v := nI 59) hx hb dX2_boxesOf_2 (by decide) ?_
  refine roN1 (v := .int (b2i (iw (nI (j)) (nI (0)) (nI (59))))) (As := [.int (nI (j)), .int (nI (0)), .int (nI (59))]) (rest := []) (n := 3) ⟨hx, hb, hml, hown, htA⟩ (c_isWithin l D cI cZ sa (nI (j)) (nI (0)) (nI (59)) s.heap ) (cnS 3 htA (gd_c wd_141) rfl rfl rfl (ex_RX2_34 hKK.2) wd_1 wd_140 (by decide +kernel) ⟨Nat.le_of_ble_eq_true rfl, Nat.le_of_ble_eq_true rfl⟩) hKK rfl hl.1 rfl (Nat.le_of_ble_eq_true rfl) dX2_boxesOf_4 (Nat.zero_le _) (Nat.zero_le _) ?_
  refine b_ifeq (b := iw (nI (j)) (nI (0)) (nI (59))) (tgt := 19) hx hb dX2_boxesOf_7 (by decide) (fun c_1 => ?_) (fun c_1 => ?_)
  · exact absurd (c_1.symm.trans hiw) (by decide)
  refine lv_aload_n hx hb dX2_boxesOf_10 rfl (lv_at hl 0 rfl) ?_
  refine va_get (D := D) (ci := 2) (v := .ref (q 4)) (C := RX2) (T := TX2) (N := 7) hx hb htA uwX2 hown hKK.1 hP 0 rfl rfl 2 (by decide) (htA _ wd_54) (fun _ h9 => h9) rfl dX2_boxesOf_11 ?_
  refine lv_iload_n hx hb dX2_boxesOf_14 rfl (lv_at hl 1 rfl) ?_
  refine n_iald (g := σ 4) (cA := cI) (n := 60) (j := j) hx hb hKK.1 hP 3 0 rfl rfl (by omega) (Nat.le_of_ble_eq_true rfl) dX2_boxesOf_15 ?_
  refine lv_goto (tgt := 20) hx hb dX2_boxesOf_16 (by decide) ?_
  exact ro_i hx hb hr hlocks (rfl) dX2_boxesOf_20
set_option maxHeartbeats 4000000 in
set_option maxRecDepth 100000 in
theorem c_boxesOf_f (l : Launch) (D : va_G) (cI cZ : ClassId) (sa : Nat → Nat) (q : Nat → Nat) (σ : ST) (x : Int32) (H : Heap) (hP : va_P D vwCl (wSS q cI σ) H) (hj : iw x (nI 0) (nI 59) = false) : Met l yX2_boxesOf (codeW yX2_boxesOf cX2_boxesOf 2 (some .int)) ({ frames := 1, cells := 0, slots := 0, locals := 22 } : Room) (RoP D cI cZ sa H [.ref (q 1), .int (x)]) (RoQ (some (.int (nI (0)))) H) 0 0 RoF := by
  refine Met.ofW (cc := cX2_boxesOf) (maxL := 2) (ret := (some .int)) (by decide) rfl ?_
  intro p e s m args below meth c s₁ B hml hv
  obtain ⟨rfl, hH, hKK⟩ := hv
  subst hH
  have hx := B.exec
  have hb := B.bytes
  have hr := B.returns
  have htA : ∀ w ∈ WA, w.before _ s = true := fun w h => atoms_spec (ws := (codeW yX2_boxesOf cX2_boxesOf 2 (some .int))) B.pre w (List.mem_cons_of_mem _ h)
  have hown : s.vm.findClass RX2 = some m.cls := findClass_of_methodNamed B.named
  have hlocks := B.notSynchronized
  have hl := lv_entry ([.ref (q 1), .int (x)]) (n := 2) (Nat.le_of_ble_eq_true rfl)
  rw [lg_entry_eq]
  generalize (lg_sl ([.ref (q 1), .int (x)]) ++ List.replicate (2 - (lg_sl ([.ref (q 1), .int (x)])).length) Slot.unset).toArray = ls at hl ⊢
  have hl : lv_has ls 2 [(0, .ref (q 1)), (1, .int (x))] := hl
  refine lv_iload_n hx hb dX2_boxesOf_0 rfl (lv_at hl 1 rfl) ?_
  refine n_iconst (k := 0) hx hb dX2_boxesOf_1 (by decide) ?_
  refine lv_bipush (v := nI 59) hx hb dX2_boxesOf_2 (by decide) ?_
  refine roN1 (v := .int (b2i (iw (x) (nI (0)) (nI (59))))) (As := [.int (x), .int (nI (0)), .int (nI (59))]) (rest := []) (n := 3) ⟨hx, hb, hml, hown, htA⟩ (c_isWithin l D cI cZ sa (x) (nI (0)) (nI (59)) s.heap ) (cnS 3 htA (gd_c wd_141) rfl rfl rfl (ex_RX2_34 hKK.2) wd_1 wd_140 (by decide +kernel) ⟨Nat.le_of_ble_eq_true rfl, Nat.le_of_ble_eq_true rfl⟩) hKK rfl hl.1 rfl (Nat.le_of_ble_eq_true rfl) dX2_boxesOf_4 (Nat.zero_le _) (Nat.zero_le _) ?_
  refine b_ifeq (b := iw (x) (nI (0)) (nI (59))) (tgt := 19) hx hb dX2_boxesOf_7 (by decide) (fun c_1 => ?_) (fun c_1 => ?_)
  rotate_left
  · exact absurd (c_1.symm.trans hj) (by decide)
  refine n_iconst (k := 0) hx hb dX2_boxesOf_19 (by decide) ?_
  exact ro_i hx hb hr hlocks (rfl) dX2_boxesOf_20
set_option maxHeartbeats 4000000 in
set_option maxRecDepth 100000 in
theorem c_keywordsOf_t (l : Launch) (D : va_G) (cI cZ : ClassId) (sa : Nat → Nat) (q : Nat → Nat) (σ : ST) (j : Nat) (H : Heap) (hP : va_P D vwCl (wSS q cI σ) H) (hj : j < 60) : Met l yX2_keywordsOf (codeW yX2_keywordsOf cX2_keywordsOf 2 (some .int)) ({ frames := 1, cells := 0, slots := 0, locals := 22 } : Room) (RoP D cI cZ sa H [.ref (q 1), .int (nI (j))]) (RoQ (some (.int (nI (σ 5 j)))) H) 0 0 RoF := by
  refine Met.ofW (cc := cX2_keywordsOf) (maxL := 2) (ret := (some .int)) (by decide) rfl ?_
  intro p e s m args below meth c s₁ B hml hv
  obtain ⟨rfl, hH, hKK⟩ := hv
  subst hH
  have hx := B.exec
  have hb := B.bytes
  have hr := B.returns
  have htA : ∀ w ∈ WA, w.before _ s = true := fun w h => atoms_spec (ws := (codeW yX2_keywordsOf cX2_keywordsOf 2 (some .int))) B.pre w (List.mem_cons_of_mem _ h)
  have hown : s.vm.findClass RX2 = some m.cls := findClass_of_methodNamed B.named
  have hlocks := B.notSynchronized
  have hl := lv_entry ([.ref (q 1), .int (nI (j))]) (n := 2) (Nat.le_of_ble_eq_true rfl)
  rw [lg_entry_eq]
  generalize (lg_sl ([.ref (q 1), .int (nI (j))]) ++ List.replicate (2 - (lg_sl ([.ref (q 1), .int (nI (j))])).length) Slot.unset).toArray = ls at hl ⊢
  have hl : lv_has ls 2 [(0, .ref (q 1)), (1, .int (nI (j)))] := hl
  have hiw : iw (nI j) (nI 0) (nI 59) = true := iw_n (Nat.zero_le _) (by omega) (by decide)
  refine lv_iload_n hx hb dX2_keywordsOf_0 rfl (lv_at hl 1 rfl) ?_
  refine n_iconst (k := 0) hx hb dX2_keywordsOf_1 (by decide) ?_
  refine lv_bipush (v := nI 59) hx hb dX2_keywordsOf_2 (by decide) ?_
  refine roN1 (v := .int (b2i (iw (nI (j)) (nI (0)) (nI (59))))) (As := [.int (nI (j)), .int (nI (0)), .int (nI (59))]) (rest := []) (n := 3) ⟨hx, hb, hml, hown, htA⟩ (c_isWithin l D cI cZ sa (nI (j)) (nI (0)) (nI (59)) s.heap ) (cnS 3 htA (gd_c wd_141) rfl rfl rfl (ex_RX2_34 hKK.2) wd_1 wd_140 (by decide +kernel) ⟨Nat.le_of_ble_eq_true rfl, Nat.le_of_ble_eq_true rfl⟩) hKK rfl hl.1 rfl (Nat.le_of_ble_eq_true rfl) dX2_keywordsOf_4 (Nat.zero_le _) (Nat.zero_le _) ?_
  refine b_ifeq (b := iw (nI (j)) (nI (0)) (nI (59))) (tgt := 19) hx hb dX2_keywordsOf_7 (by decide) (fun c_1 => ?_) (fun c_1 => ?_)
  · exact absurd (c_1.symm.trans hiw) (by decide)
  refine lv_aload_n hx hb dX2_keywordsOf_10 rfl (lv_at hl 0 rfl) ?_
  refine va_get (D := D) (ci := 2) (v := .ref (q 5)) (C := RX2) (T := TX2) (N := 7) hx hb htA uwX2 hown hKK.1 hP 0 rfl rfl 3 (by decide) (htA _ wd_55) (fun _ h9 => h9) rfl dX2_keywordsOf_11 ?_
  refine lv_iload_n hx hb dX2_keywordsOf_14 rfl (lv_at hl 1 rfl) ?_
  refine n_iald (g := σ 5) (cA := cI) (n := 60) (j := j) hx hb hKK.1 hP 4 0 rfl rfl (by omega) (Nat.le_of_ble_eq_true rfl) dX2_keywordsOf_15 ?_
  refine lv_goto (tgt := 20) hx hb dX2_keywordsOf_16 (by decide) ?_
  exact ro_i hx hb hr hlocks (rfl) dX2_keywordsOf_20
set_option maxHeartbeats 4000000 in
set_option maxRecDepth 100000 in
theorem c_keywordsOf_f (l : Launch) (D : va_G) (cI cZ : ClassId) (sa : Nat → Nat) (q : Nat → Nat) (σ : ST) (x : Int32) (H : Heap) (hP : va_P D vwCl (wSS q cI σ) H) (hj : iw x (nI 0) (nI 59) = false) : Met l yX2_keywordsOf (codeW yX2_keywordsOf cX2_keywordsOf 2 (some .int)) ({ frames := 1, cells := 0, slots := 0, locals := 22 } : Room) (RoP D cI cZ sa H [.ref (q 1), .int (x)]) (RoQ (some (.int (nI (0)))) H) 0 0 RoF := by
  refine Met.ofW (cc := cX2_keywordsOf) (maxL := 2) (ret := (some .int)) (by decide) rfl ?_
  intro p e s m args below meth c s₁ B hml hv
  obtain ⟨rfl, hH, hKK⟩ := hv
  subst hH
  have hx := B.exec
  have hb := B.bytes
  have hr := B.returns
  have htA : ∀ w ∈ WA, w.before _ s = true := fun w h => atoms_spec (ws := (codeW yX2_keywordsOf cX2_keywordsOf 2 (some .int))) B.pre w (List.mem_cons_of_mem _ h)
  have hown : s.vm.findClass RX2 = some m.cls := findClass_of_methodNamed B.named
  have hlocks := B.notSynchronized
  have hl := lv_entry ([.ref (q 1), .int (x)]) (n := 2) (Nat.le_of_ble_eq_true rfl)
  rw [lg_entry_eq]
  generalize (lg_sl ([.ref (q 1), .int (x)]) ++ List.replicate (2 - (lg_sl ([.ref (q 1), .int (x)])).length) Slot.unset).toArray = ls at hl ⊢
  have hl : lv_has ls 2 [(0, .ref (q 1)), (1, .int (x))] := hl
  refine lv_iload_n hx hb dX2_keywordsOf_0 rfl (lv_at hl 1 rfl) ?_
  refine n_iconst (k := 0) hx hb dX2_keywordsOf_1 (by decide) ?_
  refine lv_bipush (v := nI 59) hx hb dX2_keywordsOf_2 (by decide) ?_
  refine roN1 (v := .int (b2i (iw (x) (nI (0)) (nI (59))))) (As := [.int (x), .int (nI (0)), .int (nI (59))]) (rest := []) (n := 3) ⟨hx, hb, hml, hown, htA⟩ (c_isWithin l D cI cZ sa (x) (nI (0)) (nI (59)) s.heap ) (cnS 3 htA (gd_c wd_141) rfl rfl rfl (ex_RX2_34 hKK.2) wd_1 wd_140 (by decide +kernel) ⟨Nat.le_of_ble_eq_true rfl, Nat.le_of_ble_eq_true rfl⟩) hKK rfl hl.1 rfl (Nat.le_of_ble_eq_true rfl) dX2_keywordsOf_4 (Nat.zero_le _) (Nat.zero_le _) ?_
  refine b_ifeq (b := iw (x) (nI (0)) (nI (59))) (tgt := 19) hx hb dX2_keywordsOf_7 (by decide) (fun c_1 => ?_) (fun c_1 => ?_)
  rotate_left
  · exact absurd (c_1.symm.trans hj) (by decide)
  refine n_iconst (k := 0) hx hb dX2_keywordsOf_19 (by decide) ?_
  exact ro_i hx hb hr hlocks (rfl) dX2_keywordsOf_20
set_option maxHeartbeats 4000000 in
set_option maxRecDepth 100000 in
theorem c_timeOf_t (l : Launch) (D : va_G) (cI cZ : ClassId) (sa : Nat → Nat) (q : Nat → Nat) (σ : ST) (j : Nat) (H : Heap) (hP : va_P D vwCl (wSS q cI σ) H) (hj : j < 60) : Met l yX2_timeOf (codeW yX2_timeOf cX2_timeOf 2 (some .int)) ({ frames := 1, cells := 0, slots := 0, locals := 22 } : Room) (RoP D cI cZ sa H [.ref (q 1), .int (nI (j))]) (RoQ (some (.int (nI (σ 2 j)))) H) 0 0 RoF := by
  refine Met.ofW (cc := cX2_timeOf) (maxL := 2) (ret := (some .int)) (by decide) rfl ?_
  intro p e s m args below meth c s₁ B hml hv
  obtain ⟨rfl, hH, hKK⟩ := hv
  subst hH
  have hx := B.exec
  have hb := B.bytes
  have hr := B.returns
  have htA : ∀ w ∈ WA, w.before _ s = true := fun w h => atoms_spec (ws := (codeW yX2_timeOf cX2_timeOf 2 (some .int))) B.pre w (List.mem_cons_of_mem _ h)
  have hown : s.vm.findClass RX2 = some m.cls := findClass_of_methodNamed B.named
  have hlocks := B.notSynchronized
  have hl := lv_entry ([.ref (q 1), .int (nI (j))]) (n := 2) (Nat.le_of_ble_eq_true rfl)
  rw [lg_entry_eq]
  generalize (lg_sl ([.ref (q 1), .int (nI (j))]) ++ List.replicate (2 - (lg_sl ([.ref (q 1), .int (nI (j))])).length) Slot.unset).toArray = ls at hl ⊢
  have hl : lv_has ls 2 [(0, .ref (q 1)), (1, .int (nI (j)))] := hl
  have hiw : iw (nI j) (nI 0) (nI 59) = true := iw_n (Nat.zero_le _) (by omega) (by decide)
  refine lv_iload_n hx hb dX2_timeOf_0 rfl (lv_at hl 1 rfl) ?_
  refine n_iconst (k := 0) hx hb dX2_timeOf_1 (by decide) ?_
  refine lv_bipush (v := nI 59) hx hb dX2_timeOf_2 (by decide) ?_
  refine roN1 (v := .int (b2i (iw (nI (j)) (nI (0)) (nI (59))))) (As := [.int (nI (j)), .int (nI (0)), .int (nI (59))]) (rest := []) (n := 3) ⟨hx, hb, hml, hown, htA⟩ (c_isWithin l D cI cZ sa (nI (j)) (nI (0)) (nI (59)) s.heap ) (cnS 3 htA (gd_c wd_141) rfl rfl rfl (ex_RX2_34 hKK.2) wd_1 wd_140 (by decide +kernel) ⟨Nat.le_of_ble_eq_true rfl, Nat.le_of_ble_eq_true rfl⟩) hKK rfl hl.1 rfl (Nat.le_of_ble_eq_true rfl) dX2_timeOf_4 (Nat.zero_le _) (Nat.zero_le _) ?_
  refine b_ifeq (b := iw (nI (j)) (nI (0)) (nI (59))) (tgt := 19) hx hb dX2_timeOf_7 (by decide) (fun c_1 => ?_) (fun c_1 => ?_)
  · exact absurd (c_1.symm.trans hiw) (by decide)
  refine lv_aload_n hx hb dX2_timeOf_10 rfl (lv_at hl 0 rfl) ?_
  refine va_get (D := D) (ci := 2) (v := .ref (q 2)) (C := RX2) (T := TX2) (N := 7) hx hb htA uwX2 hown hKK.1 hP 0 rfl rfl 0 (by decide) (htA _ wd_52) (fun _ h9 => h9) rfl dX2_timeOf_11 ?_
  refine lv_iload_n hx hb dX2_timeOf_14 rfl (lv_at hl 1 rfl) ?_
  refine n_iald (g := σ 2) (cA := cI) (n := 60) (j := j) hx hb hKK.1 hP 1 0 rfl rfl (by omega) (Nat.le_of_ble_eq_true rfl) dX2_timeOf_15 ?_
  refine lv_goto (tgt := 20) hx hb dX2_timeOf_16 (by decide) ?_
  exact ro_i hx hb hr hlocks (rfl) dX2_timeOf_20
set_option maxHeartbeats 4000000 in
set_option maxRecDepth 100000 in
theorem c_timeOf_f (l : Launch) (D : va_G) (cI cZ : ClassId) (sa : Nat → Nat) (q : Nat → Nat) (σ : ST) (x : Int32) (H : Heap) (hP : va_P D vwCl (wSS q cI σ) H) (hj : iw x (nI 0) (nI 59) = false) : Met l yX2_timeOf (codeW yX2_timeOf cX2_timeOf 2 (some .int)) ({ frames := 1, cells := 0, slots := 0, locals := 22 } : Room) (RoP D cI cZ sa H [.ref (q 1), .int (x)]) (RoQ (some (.int (nI (0)))) H) 0 0 RoF := by
  refine Met.ofW (cc := cX2_timeOf) (maxL := 2) (ret := (some .int)) (by decide) rfl ?_
  intro p e s m args below meth c s₁ B hml hv
  obtain ⟨rfl, hH, hKK⟩ := hv
  subst hH
  have hx := B.exec
  have hb := B.bytes
  have hr := B.returns
  have htA : ∀ w ∈ WA, w.before _ s = true := fun w h => atoms_spec (ws := (codeW yX2_timeOf cX2_timeOf 2 (some .int))) B.pre w (List.mem_cons_of_mem _ h)
  have hown : s.vm.findClass RX2 = some m.cls := findClass_of_methodNamed B.named
  have hlocks := B.notSynchronized
  have hl := lv_entry ([.ref (q 1), .int (x)]) (n := 2) (Nat.le_of_ble_eq_true rfl)
  rw [lg_entry_eq]
  generalize (lg_sl ([.ref (q 1), .int (x)]) ++ List.replicate (2 - (lg_sl ([.ref (q 1), .int (x)])).length) Slot.unset).toArray = ls at hl ⊢
  have hl : lv_has ls 2 [(0, .ref (q 1)), (1, .int (x))] := hl
  refine lv_iload_n hx hb dX2_timeOf_0 rfl (lv_at hl 1 rfl) ?_
  refine n_iconst (k := 0) hx hb dX2_timeOf_1 (by decide) ?_
  refine lv_bipush (v := nI 59) hx hb dX2_timeOf_2 (by decide) ?_
  refine roN1 (v := .int (b2i (iw (x) (nI (0)) (nI (59))))) (As := [.int (x), .int (nI (0)), .int (nI (59))]) (rest := []) (n := 3) ⟨hx, hb, hml, hown, htA⟩ (c_isWithin l D cI cZ sa (x) (nI (0)) (nI (59)) s.heap ) (cnS 3 htA (gd_c wd_141) rfl rfl rfl (ex_RX2_34 hKK.2) wd_1 wd_140 (by decide +kernel) ⟨Nat.le_of_ble_eq_true rfl, Nat.le_of_ble_eq_true rfl⟩) hKK rfl hl.1 rfl (Nat.le_of_ble_eq_true rfl) dX2_timeOf_4 (Nat.zero_le _) (Nat.zero_le _) ?_
  refine b_ifeq (b := iw (x) (nI (0)) (nI (59))) (tgt := 19) hx hb dX2_timeOf_7 (by decide) (fun c_1 => ?_) (fun c_1 => ?_)
  rotate_left
  · exact absurd (c_1.symm.trans hj) (by decide)
  refine n_iconst (k := 0) hx hb dX2_timeOf_19 (by decide) ?_
  exact ro_i hx hb hr hlocks (rfl) dX2_timeOf_20
set_option maxHeartbeats 4000000 in
set_option maxRecDepth 100000 in
theorem c_isThere_t (l : Launch) (D : va_G) (cI cZ : ClassId) (sa : Nat → Nat) (q : Nat → Nat) (σ : ST) (j : Nat) (H : Heap) (hP : va_P D vwCl (wSS q cI σ) H) (hj : j < 60) (hB : ∀ k i, σ k i < 1073741824) : Met l yX2_isThere (codeW yX2_isThere cX2_isThere 2 (some .boolean)) ({ frames := 2, cells := 0, slots := 0, locals := 43 } : Room) (RoP D cI cZ sa H [.ref (q 1), .int (nI (j))]) (RoQ (some (.int (b2i (!decide (σ 4 j = 0))))) H) 0 0 RoF := by
  refine Met.ofW (cc := cX2_isThere) (maxL := 2) (ret := (some .boolean)) (by decide) rfl ?_
  intro p e s m args below meth c s₁ B hml hv
  obtain ⟨rfl, hH, hKK⟩ := hv
  subst hH
  have hx := B.exec
  have hb := B.bytes
  have hr := B.returns
  have htA : ∀ w ∈ WA, w.before _ s = true := fun w h => atoms_spec (ws := (codeW yX2_isThere cX2_isThere 2 (some .boolean))) B.pre w (List.mem_cons_of_mem _ h)
  have hown : s.vm.findClass RX2 = some m.cls := findClass_of_methodNamed B.named
  have hlocks := B.notSynchronized
  have hl := lv_entry ([.ref (q 1), .int (nI (j))]) (n := 2) (Nat.le_of_ble_eq_true rfl)
  rw [lg_entry_eq]
  generalize (lg_sl ([.ref (q 1), .int (nI (j))]) ++ List.replicate (2 - (lg_sl ([.ref (q 1), .int (nI (j))])).length) Slot.unset).toArray = ls at hl ⊢
  have hl : lv_has ls 2 [(0, .ref (q 1)), (1, .int (nI (j)))] := hl
  refine lv_aload_n hx hb dX2_isThere_0 rfl (lv_at hl 0 rfl) ?_
  refine lv_iload_n hx hb dX2_isThere_1 rfl (lv_at hl 1 rfl) ?_
  refine roV1 (v := .int (nI (σ 4 j))) (As := [.int (nI (j))]) (rest := []) (n := 1) ⟨hx, hb, hml, hown, htA⟩ (c_boxesOf_t l D cI cZ sa q σ j s.heap hP (by omega)) (cwV 1 htA (gdV wd_270 wd_271 wd_272 wd_2 wd_273) rfl rfl rfl (by decide +kernel) ⟨Nat.le_of_ble_eq_true rfl, Nat.le_of_ble_eq_true rfl⟩) hKK hP 0 rfl rfl rfl hl.1 rfl (Nat.le_of_ble_eq_true rfl) dX2_isThere_2 (Nat.zero_le _) (Nat.zero_le _) ?_
  refine n_ifeq (x := σ 4 j) (tgt := 12) hx hb dX2_isThere_5 (by decide) (Nat.lt_trans (hB 4 j) (by decide)) (fun c_1 => ?_) (fun c_1 => ?_)
  · refine n_iconst (k := 0) hx hb dX2_isThere_12 (by decide) ?_
    exact ro_z (v := false) hx hb hr hlocks (by simp [c_1]) dX2_isThere_13
  · refine n_iconst (k := 1) hx hb dX2_isThere_8 (by decide) ?_
    refine lv_goto (tgt := 13) hx hb dX2_isThere_9 (by decide) ?_
    exact ro_z (v := true) hx hb hr hlocks (by simp [c_1]) dX2_isThere_13
set_option maxHeartbeats 4000000 in
set_option maxRecDepth 100000 in
theorem c_isThere_f (l : Launch) (D : va_G) (cI cZ : ClassId) (sa : Nat → Nat) (q : Nat → Nat) (σ : ST) (x : Int32) (H : Heap) (hP : va_P D vwCl (wSS q cI σ) H) (hj : iw x (nI 0) (nI 59) = false) (hB : ∀ k i, σ k i < 1073741824) : Met l yX2_isThere (codeW yX2_isThere cX2_isThere 2 (some .boolean)) ({ frames := 2, cells := 0, slots := 0, locals := 43 } : Room) (RoP D cI cZ sa H [.ref (q 1), .int (x)]) (RoQ (some (.int (b2i (false)))) H) 0 0 RoF := by
  refine Met.ofW (cc := cX2_isThere) (maxL := 2) (ret := (some .boolean)) (by decide) rfl ?_
  intro p e s m args below meth c s₁ B hml hv
  obtain ⟨rfl, hH, hKK⟩ := hv
  subst hH
  have hx := B.exec
  have hb := B.bytes
  have hr := B.returns
  have htA : ∀ w ∈ WA, w.before _ s = true := fun w h => atoms_spec (ws := (codeW yX2_isThere cX2_isThere 2 (some .boolean))) B.pre w (List.mem_cons_of_mem _ h)
  have hown : s.vm.findClass RX2 = some m.cls := findClass_of_methodNamed B.named
  have hlocks := B.notSynchronized
  have hl := lv_entry ([.ref (q 1), .int (x)]) (n := 2) (Nat.le_of_ble_eq_true rfl)
  rw [lg_entry_eq]
  generalize (lg_sl ([.ref (q 1), .int (x)]) ++ List.replicate (2 - (lg_sl ([.ref (q 1), .int (x)])).length) Slot.unset).toArray = ls at hl ⊢
  have hl : lv_has ls 2 [(0, .ref (q 1)), (1, .int (x))] := hl
  refine lv_aload_n hx hb dX2_isThere_0 rfl (lv_at hl 0 rfl) ?_
  refine lv_iload_n hx hb dX2_isThere_1 rfl (lv_at hl 1 rfl) ?_
  refine roV1 (v := .int (nI (0))) (As := [.int (x)]) (rest := []) (n := 1) ⟨hx, hb, hml, hown, htA⟩ (c_boxesOf_f l D cI cZ sa q σ (x) s.heap hP hj) (cwV 1 htA (gdV wd_270 wd_271 wd_272 wd_2 wd_273) rfl rfl rfl (by decide +kernel) ⟨Nat.le_of_ble_eq_true rfl, Nat.le_of_ble_eq_true rfl⟩) hKK hP 0 rfl rfl rfl hl.1 rfl (Nat.le_of_ble_eq_true rfl) dX2_isThere_2 (Nat.zero_le _) (Nat.zero_le _) ?_
  refine b_ifeq (b := false) (tgt := 12) hx hb dX2_isThere_5 (by decide) (fun c_1 => ?_) (fun c_1 => ?_)
  rotate_left
  · exact absurd c_1 (by decide)
  refine n_iconst (k := 0) hx hb dX2_isThere_12 (by decide) ?_
  exact ro_z (v := false) hx hb hr hlocks (rfl) dX2_isThere_13
set_option maxHeartbeats 4000000 in
set_option maxRecDepth 100000 in
theorem c_matchingAt (l : Launch) (D : va_G) (cI cZ : ClassId) (sa : Nat → Nat) (q : Nat → Nat) (σ : ST) (st any al : Nat) (H : Heap) (hP : va_P D vwCl (wSS q cI σ) H) (hB : ∀ k i, σ k i < 1073741824) (hst : st ≤ σ 7 0) : Met l yX2_matchingAt (codeW yX2_matchingAt cX2_matchingAt 4 (some .long)) ({ frames := 3, cells := 0, slots := 0, locals := 73 } : Room) (RoP D cI cZ sa H [.ref (q 1), .int (nI (st)), .int (nI (any)), .int (nI (al))]) (RoQ (some (.long (und σ any al (ms (fun j => mt (σ 4 j) (σ 5 j) any al) 60) (min (σ 7 0 - st) 40)))) H) 0 0 RoF := by
  refine Met.ofW (cc := cX2_matchingAt) (maxL := 4) (ret := (some .long)) (by decide) rfl ?_
  intro p e s m args below meth c s₁ B hml hv
  obtain ⟨rfl, hH, hKK⟩ := hv
  subst hH
  have hx := B.exec
  have hb := B.bytes
  have hr := B.returns
  have htA : ∀ w ∈ WA, w.before _ s = true := fun w h => atoms_spec (ws := (codeW yX2_matchingAt cX2_matchingAt 4 (some .long))) B.pre w (List.mem_cons_of_mem _ h)
  have hown : s.vm.findClass RX2 = some m.cls := findClass_of_methodNamed B.named
  have hlocks := B.notSynchronized
  have hl := lv_entry ([.ref (q 1), .int (nI (st)), .int (nI (any)), .int (nI (al))]) (n := 4) (Nat.le_of_ble_eq_true rfl)
  rw [lg_entry_eq]
  generalize (lg_sl ([.ref (q 1), .int (nI (st)), .int (nI (any)), .int (nI (al))]) ++ List.replicate (4 - (lg_sl ([.ref (q 1), .int (nI (st)), .int (nI (any)), .int (nI (al))])).length) Slot.unset).toArray = ls at hl ⊢
  have hl : lv_has ls 4 [(0, .ref (q 1)), (1, .int (nI (st))), (2, .int (nI (any))), (3, .int (nI (al)))] := hl
  refine lv_aload_n hx hb dX2_matchingAt_0 rfl (lv_at hl 0 rfl) ?_
  refine va_get (D := D) (ci := 2) (v := .ref (q 7)) (C := RX2) (T := TX2) (N := 7) hx hb htA uwX2 hown hKK.1 hP 0 rfl rfl 5 (by decide) (htA _ wd_57) (fun _ h9 => h9) rfl dX2_matchingAt_1 ?_
  refine lv_iload_n hx hb dX2_matchingAt_4 rfl (lv_at hl 1 rfl) ?_
  refine lv_aload_n hx hb dX2_matchingAt_5 rfl (lv_at hl 0 rfl) ?_
  refine lv_iload_n hx hb dX2_matchingAt_6 rfl (lv_at hl 2 rfl) ?_
  refine lv_iload_n hx hb dX2_matchingAt_7 rfl (lv_at hl 3 rfl) ?_
  refine roV1 (v := .long (ms (fun j => mt (σ 4 j) (σ 5 j) any al) 60)) (As := [.int (nI (any)), .int (nI (al))]) (rest := [.int (nI (st)), .ref (q 7)]) (n := 2) ⟨hx, hb, hml, hown, htA⟩ (c_matching l D cI cZ sa q σ any al s.heap hP ) (cwV 2 htA (gdV wd_514 wd_335 wd_336 wd_2 wd_337) rfl rfl rfl (by decide +kernel) ⟨Nat.le_of_ble_eq_true rfl, Nat.le_of_ble_eq_true rfl⟩) hKK hP 0 rfl rfl rfl hl.1 rfl (Nat.le_of_ble_eq_true rfl) dX2_matchingAt_8 (Nat.zero_le _) (Nat.zero_le _) ?_
  refine lv_iload_n hx hb dX2_matchingAt_11 rfl (lv_at hl 2 rfl) ?_
  refine lv_iload_n hx hb dX2_matchingAt_12 rfl (lv_at hl 3 rfl) ?_
  refine roV1 (v := .long (und σ any al (ms (fun j => mt (σ 4 j) (σ 5 j) any al) 60) (min (σ 7 0 - st) 40))) (As := [.int (nI (st)), .long (ms (fun j => mt (σ 4 j) (σ 5 j) any al) 60), .int (nI (any)), .int (nI (al))]) (rest := []) (n := 4) ⟨hx, hb, hml, hown, htA⟩ (c_undo l D cI cZ sa q σ st (ms (fun j => mt (σ 4 j) (σ 5 j) any al) 60) any al s.heap hP hB (by omega)) (cwV 4 htA (gdV wd_519 wd_520 wd_521 wd_3 wd_522) rfl rfl rfl (by decide +kernel) ⟨Nat.le_of_ble_eq_true rfl, Nat.le_of_ble_eq_true rfl⟩) hKK hP 6 rfl rfl rfl hl.1 rfl (Nat.le_of_ble_eq_true rfl) dX2_matchingAt_13 (Nat.zero_le _) (Nat.zero_le _) ?_
  exact ro_l hx hb hr hlocks (rfl) dX2_matchingAt_16
set_option maxHeartbeats 4000000 in
set_option maxRecDepth 100000 in
theorem c_changedSince (l : Launch) (D : va_G) (cI cZ : ClassId) (sa : Nat → Nat) (q : Nat → Nat) (σ : ST) (st way : Nat) (H : Heap) (hP : va_P D vwCl (wSS q cI σ) H) (hB : ∀ k i, σ k i < 1073741824) (hst : st ≤ σ 7 0) (hw : way < 3) : Met l yX2_changedSince (codeW yX2_changedSince cX2_changedSince 7 (some .long)) ({ frames := 4, cells := 0, slots := 0, locals := 96 } : Room) (RoP D cI cZ sa H [.ref (q 1), .int (nI (st)), .int (nI (way))]) (RoQ (some (.long (chs σ st way))) H) 0 0 RoF := by
  refine Met.ofW (cc := cX2_changedSince) (maxL := 7) (ret := (some .long)) (by decide) rfl ?_
  intro p e s m args below meth c s₁ B hml hv
  obtain ⟨rfl, hH, hKK⟩ := hv
  subst hH
  have hx := B.exec
  have hb := B.bytes
  have hr := B.returns
  have htA : ∀ w ∈ WA, w.before _ s = true := fun w h => atoms_spec (ws := (codeW yX2_changedSince cX2_changedSince 7 (some .long))) B.pre w (List.mem_cons_of_mem _ h)
  have hown : s.vm.findClass RX2 = some m.cls := findClass_of_methodNamed B.named
  have hlocks := B.notSynchronized
  have hl := lv_entry ([.ref (q 1), .int (nI (st)), .int (nI (way))]) (n := 7) (Nat.le_of_ble_eq_true rfl)
  rw [lg_entry_eq]
  generalize (lg_sl ([.ref (q 1), .int (nI (st)), .int (nI (way))]) ++ List.replicate (7 - (lg_sl ([.ref (q 1), .int (nI (st)), .int (nI (way))])).length) Slot.unset).toArray = ls at hl ⊢
  have hl : lv_has ls 7 [(0, .ref (q 1)), (1, .int (nI (st))), (2, .int (nI (way)))] := hl
  refine lv_aload_n hx hb dX2_changedSince_0 rfl (lv_at hl 0 rfl) ?_
  refine lv_bipush (v := nI 63) hx hb dX2_changedSince_1 (by decide) ?_
  refine n_iconst (k := 0) hx hb dX2_changedSince_3 (by decide) ?_
  refine roV1 (v := .long (ms (fun j => mt (σ 4 j) (σ 5 j) 63 0) 60)) (As := [.int (nI (63)), .int (nI (0))]) (rest := []) (n := 2) ⟨hx, hb, hml, hown, htA⟩ (c_matching l D cI cZ sa q σ 63 0 s.heap hP ) (cwV 2 htA (gdV wd_514 wd_335 wd_336 wd_2 wd_337) rfl rfl rfl (by decide +kernel) ⟨Nat.le_of_ble_eq_true rfl, Nat.le_of_ble_eq_true rfl⟩) hKK hP 0 rfl rfl rfl hl.1 rfl (Nat.le_of_ble_eq_true rfl) dX2_changedSince_4 (Nat.zero_le _) (Nat.zero_le _) ?_
  refine lv_lstore_n (lv' := [(3, .long (ms (fun j => mt (σ 4 j) (σ 5 j) 63 0) 60)), (0, .ref (q 1)), (1, .int (nI (st))), (2, .int (nI (way)))]) hx hb dX2_changedSince_7 rfl hl (by decide) rfl (fun ls hl => ?_)
  refine lv_aload_n hx hb dX2_changedSince_8 rfl (lv_at hl 1 rfl) ?_
  refine lv_iload_n hx hb dX2_changedSince_9 rfl (lv_at hl 2 rfl) ?_
  refine lv_bipush (v := nI 63) hx hb dX2_changedSince_10 (by decide) ?_
  refine n_iconst (k := 0) hx hb dX2_changedSince_12 (by decide) ?_
  refine roV1 (v := .long (und σ 63 0 (ms (fun j => mt (σ 4 j) (σ 5 j) 63 0) 60) (min (σ 7 0 - st) 40))) (As := [.int (nI (st)), .int (nI (63)), .int (nI (0))]) (rest := []) (n := 3) ⟨hx, hb, hml, hown, htA⟩ (c_matchingAt l D cI cZ sa q σ st 63 0 s.heap hP hB (by omega)) (cwV 3 htA (gdV wd_515 wd_516 wd_517 wd_2 wd_518) rfl rfl rfl (by decide +kernel) ⟨Nat.le_of_ble_eq_true rfl, Nat.le_of_ble_eq_true rfl⟩) hKK hP 0 rfl rfl rfl hl.1 rfl (Nat.le_of_ble_eq_true rfl) dX2_changedSince_13 (Nat.zero_le _) (Nat.zero_le _) ?_
  refine lv_lstore (lv' := [(5, .long (und σ 63 0 (ms (fun j => mt (σ 4 j) (σ 5 j) 63 0) 60) (min (σ 7 0 - st) 40))), (3, .long (ms (fun j => mt (σ 4 j) (σ 5 j) 63 0) 60)), (0, .ref (q 1)), (1, .int (nI (st))), (2, .int (nI (way)))]) hx hb dX2_changedSince_16 hl (by decide) rfl (fun ls hl => ?_)
  refine lv_iload_n hx hb dX2_changedSince_18 rfl (lv_at hl 4 rfl) ?_
  refine n_ifne (x := way) (tgt := 31) hx hb dX2_changedSince_19 (by decide) (by omega) (fun c_1 => ?_) (fun c_1 => ?_)
  · refine lv_iload_n hx hb dX2_changedSince_31 rfl (lv_at hl 4 rfl) ?_
    refine n_iconst (k := 2) hx hb dX2_changedSince_32 (by decide) ?_
    refine n_icmp_ne (x := way) (y := 2) (tgt := 45) hx hb dX2_changedSince_33 (by decide) (by omega) (by decide) (fun c_2 => ?_) (fun c_2 => ?_)
    · refine lv_lload_n hx hb dX2_changedSince_45 rfl (lv_at hl 1 rfl) ?_
      refine lv_lload hx hb dX2_changedSince_46 (lv_at hl 0 rfl) ?_
      refine lv_land hx hb dX2_changedSince_48 ?_
      refine lv_aload_n hx hb dX2_changedSince_49 rfl (lv_at hl 2 rfl) ?_
      refine va_get (D := D) (ci := 2) (v := .ref (q 7)) (C := RX2) (T := TX2) (N := 7) hx hb htA uwX2 hown hKK.1 hP 0 rfl rfl 5 (by decide) (htA _ wd_57) (fun _ h9 => h9) rfl dX2_changedSince_50 ?_
      refine lv_iload_n hx hb dX2_changedSince_53 rfl (lv_at hl 3 rfl) ?_
      refine roV1 (v := .long (tch σ (min (σ 7 0 - st) 40))) (As := [.int (nI (st))]) (rest := [.long ((ms (fun j => mt (σ 4 j) (σ 5 j) 63 0) 60) &&& (und σ 63 0 (ms (fun j => mt (σ 4 j) (σ 5 j) 63 0) 60) (min (σ 7 0 - st) 40)))]) (n := 1) ⟨hx, hb, hml, hown, htA⟩ (c_touched l D cI cZ sa q σ st s.heap hP hB (by omega)) (cwV 1 htA (gdV wd_526 wd_527 wd_528 wd_3 wd_529) rfl rfl rfl (by decide +kernel) ⟨Nat.le_of_ble_eq_true rfl, Nat.le_of_ble_eq_true rfl⟩) hKK hP 6 rfl rfl rfl hl.1 rfl (Nat.le_of_ble_eq_true rfl) dX2_changedSince_54 (Nat.zero_le _) (Nat.zero_le _) ?_
      refine lv_land hx hb dX2_changedSince_57 ?_
      exact ro_l hx hb hr hlocks (by unfold chs; simp [c_1, c_2]) dX2_changedSince_58
    · refine lv_lload hx hb dX2_changedSince_36 (lv_at hl 0 rfl) ?_
      refine lv_lload_n hx hb dX2_changedSince_38 rfl (lv_at hl 1 rfl) ?_
      refine lv_ldc2 (v := (-1)) hx hb hown (htA _ wd_525) dX2_changedSince_39 ?_
      refine lv_lxor hx hb dX2_changedSince_42 ?_
      refine lv_land hx hb dX2_changedSince_43 ?_
      exact ro_l hx hb hr hlocks (by unfold chs; simp [c_1, c_2]) dX2_changedSince_44
  · refine lv_lload_n hx hb dX2_changedSince_22 rfl (lv_at hl 1 rfl) ?_
    refine lv_lload hx hb dX2_changedSince_23 (lv_at hl 0 rfl) ?_
    refine lv_ldc2 (v := (-1)) hx hb hown (htA _ wd_525) dX2_changedSince_25 ?_
    refine lv_lxor hx hb dX2_changedSince_28 ?_
    refine lv_land hx hb dX2_changedSince_29 ?_
    exact ro_l hx hb hr hlocks (by unfold chs; simp [c_1]) dX2_changedSince_30
set_option maxHeartbeats 4000000 in
set_option maxRecDepth 100000 in
theorem c_latestAt (l : Launch) (D : va_G) (cI cZ : ClassId) (sa : Nat → Nat) (q : Nat → Nat) (σ : ST) (x : Int64) (ix : Int32) (H : Heap) (hP : va_P D vwCl (wSS q cI σ) H) (hB : ∀ k i, σ k i < 1073741824) (hco : σ 1 0 ≤ 60) : Met l yX2_latestAt (codeW yX2_latestAt cX2_latestAt 6 (some .int)) ({ frames := 1, cells := 0, slots := 0, locals := 22 } : Room) (RoP D cI cZ sa H [.ref (q 1), .long (x), .int (ix)]) (RoQ (some (.int (oi (lat σ x ix (σ 1 0) 0 0)))) H) 0 0 RoF := by
  refine Met.ofW (cc := cX2_latestAt) (maxL := 6) (ret := (some .int)) (by decide) rfl ?_
  intro p e s m args below meth c s₁ B hml hv
  obtain ⟨rfl, hH, hKK⟩ := hv
  subst hH
  have hx := B.exec
  have hb := B.bytes
  have hr := B.returns
  have htA : ∀ w ∈ WA, w.before _ s = true := fun w h => atoms_spec (ws := (codeW yX2_latestAt cX2_latestAt 6 (some .int))) B.pre w (List.mem_cons_of_mem _ h)
  have hown : s.vm.findClass RX2 = some m.cls := findClass_of_methodNamed B.named
  have hlocks := B.notSynchronized
  have hl := lv_entry ([.ref (q 1), .long (x), .int (ix)]) (n := 6) (Nat.le_of_ble_eq_true rfl)
  rw [lg_entry_eq]
  generalize (lg_sl ([.ref (q 1), .long (x), .int (ix)]) ++ List.replicate (6 - (lg_sl ([.ref (q 1), .long (x), .int (ix)])).length) Slot.unset).toArray = ls at hl ⊢
  have hl : lv_has ls 6 [(0, .ref (q 1)), (1, .long (x)), (3, .int (ix))] := hl
  refine n_iconst (k := 0) hx hb dX2_latestAt_0 (by decide) ?_
  refine lv_istore (lv' := [(4, .int (nI (0))), (0, .ref (q 1)), (1, .long (x)), (3, .int (ix))]) hx hb dX2_latestAt_1 hl (by decide) rfl (fun ls hl => ?_)
  refine n_iconst (k := 0) hx hb dX2_latestAt_3 (by decide) ?_
  refine lv_istore (lv' := [(5, .int (nI (0))), (4, .int (nI (0))), (0, .ref (q 1)), (1, .long (x)), (3, .int (ix))]) hx hb dX2_latestAt_4 hl (by decide) rfl (fun ls hl => ?_)
  have loop_6 : ∀ (n : Nat) (pl ah : Nat), (pl + n = σ 1 0) → (ah ≤ pl) → (lat σ x ix n pl ah = lat σ x ix (σ 1 0) 0 0) → ∀ (ls : Array Slot), lv_has ls 6 [(0, .ref (q 1)), (1, .long (x)), (3, .int (ix)), (4, .int (nI (ah))), (5, .int (nI (pl)))] → W p l e (headSpec (codeW yX2_latestAt cX2_latestAt 6 (some .int)) ({ frames := 1, cells := 0, slots := 0, locals := 22 } : Room)).room s m ([.ref (q 1), .long (x), .int (ix)] : List Value).toArray below meth c s.heap [] 0 0 (MQ below (RoQ (some (.int (oi (lat σ x ix (σ 1 0) 0 0)))) s.heap) ([.ref (q 1), .long (x), .int (ix)] : List Value).toArray s 0 0 RoF) (F0 m 6 ls []) := by
    intro n
    induction n with
    | zero =>
      intro pl ah hin hah hres ls hl
      refine lv_iload hx hb dX2_latestAt_6 (lv_at hl 4 rfl) ?_
      refine lv_aload_n hx hb dX2_latestAt_8 rfl (lv_at hl 0 rfl) ?_
      refine va_get (D := D) (ci := 2) (v := .int (nI (σ 1 0))) (C := RX2) (T := TX2) (N := 7) hx hb htA uwX2 hown hKK.1 hP 0 rfl rfl 6 (by decide) (htA _ wd_61) (fun _ h9 => h9) rfl dX2_latestAt_9 ?_
      refine n_icmp_ge (x := pl) (y := σ 1 0) (tgt := 59) hx hb dX2_latestAt_12 (by decide) (by omega) (Nat.lt_trans (hB 1 0) (by decide)) (fun c_1 => ?_) (fun c_1 => ?_)
      rotate_left
      · exfalso; omega
      refine lv_iconst (v := oi 0) hx hb dX2_latestAt_59 (by decide) ?_
      exact ro_i hx hb hr hlocks (by rw [← hres]; rfl) dX2_latestAt_60
    | succ n ih =>
      intro pl ah hin hah hres ls hl
      refine lv_iload hx hb dX2_latestAt_6 (lv_at hl 4 rfl) ?_
      refine lv_aload_n hx hb dX2_latestAt_8 rfl (lv_at hl 0 rfl) ?_
      refine va_get (D := D) (ci := 2) (v := .int (nI (σ 1 0))) (C := RX2) (T := TX2) (N := 7) hx hb htA uwX2 hown hKK.1 hP 0 rfl rfl 6 (by decide) (htA _ wd_61) (fun _ h9 => h9) rfl dX2_latestAt_9 ?_
      refine n_icmp_ge (x := pl) (y := σ 1 0) (tgt := 59) hx hb dX2_latestAt_12 (by decide) (by omega) (Nat.lt_trans (hB 1 0) (by decide)) (fun c_2 => ?_) (fun c_2 => ?_)
      · exfalso; omega
      refine lv_iload hx hb dX2_latestAt_15 (lv_at hl 4 rfl) ?_
      refine lv_bipush (v := nI 60) hx hb dX2_latestAt_17 (by decide) ?_
      refine n_icmp_ge (x := pl) (y := 60) (tgt := 59) hx hb dX2_latestAt_19 (by decide) (by omega) (by decide) (fun c_3 => ?_) (fun c_3 => ?_)
      · exfalso; omega
      refine lv_lload_n hx hb dX2_latestAt_22 rfl (lv_at hl 1 rfl) ?_
      refine lv_aload_n hx hb dX2_latestAt_23 rfl (lv_at hl 0 rfl) ?_
      refine va_get (D := D) (ci := 2) (v := .ref (q 6)) (C := RX2) (T := TX2) (N := 7) hx hb htA uwX2 hown hKK.1 hP 0 rfl rfl 4 (by decide) (htA _ wd_56) (fun _ h9 => h9) rfl dX2_latestAt_24 ?_
      refine lv_iload hx hb dX2_latestAt_27 (lv_at hl 4 rfl) ?_
      refine n_iald (g := σ 6) (cA := cI) (n := 60) (j := pl) hx hb hKK.1 hP 5 0 rfl rfl (by omega) (Nat.le_of_ble_eq_true rfl) dX2_latestAt_29 ?_
      refine roN1 (v := .int (b2i (hl64 (x) (σ 6 pl)))) (As := [.long (x), .int (nI (σ 6 pl))]) (rest := []) (n := 2) ⟨hx, hb, hml, hown, htA⟩ (c_holds l D cI cZ sa (x) (σ 6 pl) s.heap ) (cnS 2 htA (gd_c wd_430) rfl rfl rfl (ex_RX2_99 hKK.2) wd_1 wd_429 (by decide +kernel) ⟨Nat.le_of_ble_eq_true rfl, Nat.le_of_ble_eq_true rfl⟩) hKK rfl hl.1 rfl (Nat.le_of_ble_eq_true rfl) dX2_latestAt_30 (Nat.zero_le _) (Nat.zero_le _) ?_
      refine b_ifeq (b := hl64 (x) (σ 6 pl)) (tgt := 53) hx hb dX2_latestAt_33 (by decide) (fun c_4 => ?_) (fun c_4 => ?_)
      · refine lv_iinc (v := nI (pl + 1)) (lv' := [(5, .int (nI (pl + 1))), (0, .ref (q 1)), (1, .long (x)), (3, .int (ix)), (4, .int (nI (ah)))]) hx hb dX2_latestAt_53 hl (k := 4) rfl (n_inc (pl) 1 rfl) (by decide) rfl (fun ls hl => ?_)
        refine lv_goto (tgt := 6) hx hb dX2_latestAt_56 (by decide) ?_
        exact ih (pl + 1) ah (by omega) (by omega) (by rw [← hres]; simp only [lat, c_4, decide_true, decide_false, Bool.true_and, Bool.false_and, Bool.and_true, Bool.and_false, Bool.not_true, Bool.not_false, eq_self, not_true_eq_false, not_false_eq_true, cond_true, cond_false, ne_eq]) ls (lv_sub hl [1, 2, 3, 4, 0] rfl)
      · refine lv_iload hx hb dX2_latestAt_36 (lv_at hl 3 rfl) ?_
        refine lv_iload_n hx hb dX2_latestAt_38 rfl (lv_at hl 2 rfl) ?_
        refine lv_icmp_ne (x := nI (ah)) (y := ix) (tgt := 50) hx hb dX2_latestAt_39 (by decide) (fun c_5 => ?_) (fun c_5 => ?_)
        · refine lv_iinc (v := nI (ah + 1)) (lv' := [(4, .int (nI (ah + 1))), (0, .ref (q 1)), (1, .long (x)), (3, .int (ix)), (5, .int (nI (pl)))]) hx hb dX2_latestAt_50 hl (k := 3) rfl (n_inc (ah) 1 rfl) (by decide) rfl (fun ls hl => ?_)
          refine lv_iinc (v := nI (pl + 1)) (lv' := [(5, .int (nI (pl + 1))), (4, .int (nI (ah + 1))), (0, .ref (q 1)), (1, .long (x)), (3, .int (ix))]) hx hb dX2_latestAt_53 hl (k := 4) rfl (n_inc (pl) 1 rfl) (by decide) rfl (fun ls hl => ?_)
          refine lv_goto (tgt := 6) hx hb dX2_latestAt_56 (by decide) ?_
          exact ih (pl + 1) (ah + 1) (by omega) (by omega) (by rw [← hres]; simp only [lat, c_4, c_5, decide_true, decide_false, Bool.true_and, Bool.false_and, Bool.and_true, Bool.and_false, Bool.not_true, Bool.not_false, eq_self, not_true_eq_false, not_false_eq_true, cond_true, cond_false, ne_eq]) ls (lv_sub hl [2, 3, 4, 1, 0] rfl)
        · refine lv_aload_n hx hb dX2_latestAt_42 rfl (lv_at hl 0 rfl) ?_
          refine va_get (D := D) (ci := 2) (v := .ref (q 6)) (C := RX2) (T := TX2) (N := 7) hx hb htA uwX2 hown hKK.1 hP 0 rfl rfl 4 (by decide) (htA _ wd_56) (fun _ h9 => h9) rfl dX2_latestAt_43 ?_
          refine lv_iload hx hb dX2_latestAt_46 (lv_at hl 4 rfl) ?_
          refine n_iald (g := σ 6) (cA := cI) (n := 60) (j := pl) hx hb hKK.1 hP 5 0 rfl rfl (by omega) (Nat.le_of_ble_eq_true rfl) dX2_latestAt_48 ?_
          exact ro_i hx hb hr hlocks (by rw [← hres]; simp only [lat, c_4, c_5, decide_true, decide_false, Bool.true_and, Bool.false_and, Bool.and_true, Bool.and_false, Bool.not_true, Bool.not_false, eq_self, not_true_eq_false, not_false_eq_true, cond_true, cond_false, ne_eq]; rfl) dX2_latestAt_49
  exact loop_6 (σ 1 0) 0 0 (by omega) (by omega) rfl ls (lv_sub hl [2, 3, 4, 1, 0] rfl)
