set_option maxHeartbeats 4000000 in
set_option maxRecDepth 100000 in
theorem c_isWithin (l : Launch) (D : va_G) (cI cZ : ClassId) (sa : Nat → Nat) (v a b : Int32) (H : Heap)  : Met l yX3_isWithin (codeW yX3_isWithin cX3_isWithin 3 (some .boolean)) ({ frames := 0, cells := 0, slots := 0, locals := 0 } : Room) (RoP D cI cZ sa H [.int (v), .int (a), .int (b)]) (RoQ (some (.int (b2i (iw v a b)))) H) 0 0 RoF := by
  refine Met.ofW (cc := cX3_isWithin) (maxL := 3) (ret := (some .boolean)) (by decide) rfl ?_
  intro p e s m args below meth c s₁ B hml hv
  obtain ⟨rfl, hH, hKK⟩ := hv
  subst hH
  have hx := B.exec
  have hb := B.bytes
  have hr := B.returns
  have htA : ∀ w ∈ WA, w.before _ s = true := fun w h => atoms_spec (ws := (codeW yX3_isWithin cX3_isWithin 3 (some .boolean))) B.pre w (List.mem_cons_of_mem _ h)
  have hown : s.vm.findClass RX3 = some m.cls := findClass_of_methodNamed B.named
  have hlocks := B.notSynchronized
  have hl := lv_entry ([.int (v), .int (a), .int (b)]) (n := 3) (Nat.le_of_ble_eq_true rfl)
  rw [lg_entry_eq]
  generalize (lg_sl ([.int (v), .int (a), .int (b)]) ++ List.replicate (3 - (lg_sl ([.int (v), .int (a), .int (b)])).length) Slot.unset).toArray = ls at hl ⊢
  have hl : lv_has ls 3 [(0, .int (v)), (1, .int (a)), (2, .int (b))] := hl
  refine lv_iload_n hx hb dX3_isWithin_0 rfl (lv_at hl 0 rfl) ?_
  refine lv_iload_n hx hb dX3_isWithin_1 rfl (lv_at hl 1 rfl) ?_
  refine lv_icmp_lt (x := v) (y := a) (tgt := 14) hx hb dX3_isWithin_2 (by decide) (fun c_1 => ?_) (fun c_1 => ?_)
  · refine n_iconst (k := 0) hx hb dX3_isWithin_14 (by decide) ?_
    exact ro_z (v := false) hx hb hr hlocks (by simp [iw, c_1]) dX3_isWithin_15
  · refine lv_iload_n hx hb dX3_isWithin_5 rfl (lv_at hl 0 rfl) ?_
    refine lv_iload_n hx hb dX3_isWithin_6 rfl (lv_at hl 2 rfl) ?_
    refine lv_icmp_gt (x := v) (y := b) (tgt := 14) hx hb dX3_isWithin_7 (by decide) (fun c_2 => ?_) (fun c_2 => ?_)
    · refine n_iconst (k := 0) hx hb dX3_isWithin_14 (by decide) ?_
      exact ro_z (v := false) hx hb hr hlocks (by simp [iw, c_1, c_2]) dX3_isWithin_15
    · refine n_iconst (k := 1) hx hb dX3_isWithin_10 (by decide) ?_
      refine lv_goto (tgt := 15) hx hb dX3_isWithin_11 (by decide) ?_
      exact ro_z (v := true) hx hb hr hlocks (by simp [iw, c_1, c_2]) dX3_isWithin_15
set_option maxHeartbeats 4000000 in
set_option maxRecDepth 100000 in
theorem c_matches (l : Launch) (D : va_G) (cI cZ : ClassId) (sa : Nat → Nat) (a b c1 d : Nat) (H : Heap)  : Met l yX3_matches (codeW yX3_matches cX3_matches 4 (some .boolean)) ({ frames := 0, cells := 0, slots := 0, locals := 0 } : Room) (RoP D cI cZ sa H [.int (nI (a)), .int (nI (b)), .int (nI (c1)), .int (nI (d))]) (RoQ (some (.int (b2i (mt a b c1 d)))) H) 0 0 RoF := by
  refine Met.ofW (cc := cX3_matches) (maxL := 4) (ret := (some .boolean)) (by decide) rfl ?_
  intro p e s m args below meth c s₁ B hml hv
  obtain ⟨rfl, hH, hKK⟩ := hv
  subst hH
  have hx := B.exec
  have hb := B.bytes
  have hr := B.returns
  have htA : ∀ w ∈ WA, w.before _ s = true := fun w h => atoms_spec (ws := (codeW yX3_matches cX3_matches 4 (some .boolean))) B.pre w (List.mem_cons_of_mem _ h)
  have hown : s.vm.findClass RX3 = some m.cls := findClass_of_methodNamed B.named
  have hlocks := B.notSynchronized
  have hl := lv_entry ([.int (nI (a)), .int (nI (b)), .int (nI (c1)), .int (nI (d))]) (n := 4) (Nat.le_of_ble_eq_true rfl)
  rw [lg_entry_eq]
  generalize (lg_sl ([.int (nI (a)), .int (nI (b)), .int (nI (c1)), .int (nI (d))]) ++ List.replicate (4 - (lg_sl ([.int (nI (a)), .int (nI (b)), .int (nI (c1)), .int (nI (d))])).length) Slot.unset).toArray = ls at hl ⊢
  have hl : lv_has ls 4 [(0, .int (nI (a))), (1, .int (nI (b))), (2, .int (nI (c1))), (3, .int (nI (d)))] := hl
  refine lv_iload_n hx hb dX3_matches_0 rfl (lv_at hl 0 rfl) ?_
  refine lv_iload_n hx hb dX3_matches_1 rfl (lv_at hl 2 rfl) ?_
  refine lv_iand hx hb dX3_matches_2 ?_
  refine lv_if_eq (tgt := 17) hx hb dX3_matches_3 (by decide) (fun c_1 => ?_) (fun c_1 => ?_)
  · refine n_iconst (k := 0) hx hb dX3_matches_17 (by decide) ?_
    exact ro_z (v := false) hx hb hr hlocks (by simp [mt, c_1]) dX3_matches_18
  · refine lv_iload_n hx hb dX3_matches_6 rfl (lv_at hl 1 rfl) ?_
    refine lv_iload_n hx hb dX3_matches_7 rfl (lv_at hl 3 rfl) ?_
    refine lv_iand hx hb dX3_matches_8 ?_
    refine lv_iload_n hx hb dX3_matches_9 rfl (lv_at hl 3 rfl) ?_
    refine lv_icmp_ne (x := (nI (b)) &&& (nI (d))) (y := nI (d)) (tgt := 17) hx hb dX3_matches_10 (by decide) (fun c_2 => ?_) (fun c_2 => ?_)
    · refine n_iconst (k := 0) hx hb dX3_matches_17 (by decide) ?_
      exact ro_z (v := false) hx hb hr hlocks (by simp [mt, c_1, c_2]) dX3_matches_18
    · refine n_iconst (k := 1) hx hb dX3_matches_13 (by decide) ?_
      refine lv_goto (tgt := 18) hx hb dX3_matches_14 (by decide) ?_
      exact ro_z (v := true) hx hb hr hlocks (by simp [mt, c_1, c_2]) dX3_matches_18
set_option maxHeartbeats 4000000 in
set_option maxRecDepth 100000 in
theorem c_isBox (l : Launch) (D : va_G) (cI cZ : ClassId) (sa : Nat → Nat) (v : Int32) (H : Heap)  : Met l yX3_isBox (codeW yX3_isBox cX3_isBox 1 (some .boolean)) ({ frames := 1, cells := 0, slots := 0, locals := 22 } : Room) (RoP D cI cZ sa H [.int (v)]) (RoQ (some (.int (b2i (iw v (nI 0) (nI 5))))) H) 0 0 RoF := by
  refine Met.ofW (cc := cX3_isBox) (maxL := 1) (ret := (some .boolean)) (by decide) rfl ?_
  intro p e s m args below meth c s₁ B hml hv
  obtain ⟨rfl, hH, hKK⟩ := hv
  subst hH
  have hx := B.exec
  have hb := B.bytes
  have hr := B.returns
  have htA : ∀ w ∈ WA, w.before _ s = true := fun w h => atoms_spec (ws := (codeW yX3_isBox cX3_isBox 1 (some .boolean))) B.pre w (List.mem_cons_of_mem _ h)
  have hown : s.vm.findClass RX3 = some m.cls := findClass_of_methodNamed B.named
  have hlocks := B.notSynchronized
  have hl := lv_entry ([.int (v)]) (n := 1) (Nat.le_of_ble_eq_true rfl)
  rw [lg_entry_eq]
  generalize (lg_sl ([.int (v)]) ++ List.replicate (1 - (lg_sl ([.int (v)])).length) Slot.unset).toArray = ls at hl ⊢
  have hl : lv_has ls 1 [(0, .int (v))] := hl
  refine lv_iload_n hx hb dX3_isBox_0 rfl (lv_at hl 0 rfl) ?_
  refine n_iconst (k := 0) hx hb dX3_isBox_1 (by decide) ?_
  refine n_iconst (k := 5) hx hb dX3_isBox_2 (by decide) ?_
  refine roS1 (v := .int (b2i (iw (v) (nI (0)) (nI (5))))) (As := [.int (v), .int (nI (0)), .int (nI (5))]) (rest := []) (n := 3) ⟨hx, hb, hml, hown, htA⟩ (c_isWithin l D cI cZ sa (v) (nI (0)) (nI (5)) s.heap ) (va_cwS 3 htA (gdS wd_139 wd_140 wd_1 wd_141) rfl rfl rfl (by decide +kernel) ⟨Nat.le_of_ble_eq_true rfl, Nat.le_of_ble_eq_true rfl⟩) hKK rfl hl.1 rfl (Nat.le_of_ble_eq_true rfl) dX3_isBox_3 (Nat.zero_le _) (Nat.zero_le _) ?_
  exact ro_z (v := iw (v) (nI (0)) (nI (5))) hx hb hr hlocks (rfl) dX3_isBox_6
set_option maxHeartbeats 4000000 in
set_option maxRecDepth 100000 in
theorem c_isBoxSet (l : Launch) (D : va_G) (cI cZ : ClassId) (sa : Nat → Nat) (v : Int32) (H : Heap)  : Met l yX3_isBoxSet (codeW yX3_isBoxSet cX3_isBoxSet 1 (some .boolean)) ({ frames := 1, cells := 0, slots := 0, locals := 22 } : Room) (RoP D cI cZ sa H [.int (v)]) (RoQ (some (.int (b2i (iw v (nI 1) (nI 63))))) H) 0 0 RoF := by
  refine Met.ofW (cc := cX3_isBoxSet) (maxL := 1) (ret := (some .boolean)) (by decide) rfl ?_
  intro p e s m args below meth c s₁ B hml hv
  obtain ⟨rfl, hH, hKK⟩ := hv
  subst hH
  have hx := B.exec
  have hb := B.bytes
  have hr := B.returns
  have htA : ∀ w ∈ WA, w.before _ s = true := fun w h => atoms_spec (ws := (codeW yX3_isBoxSet cX3_isBoxSet 1 (some .boolean))) B.pre w (List.mem_cons_of_mem _ h)
  have hown : s.vm.findClass RX3 = some m.cls := findClass_of_methodNamed B.named
  have hlocks := B.notSynchronized
  have hl := lv_entry ([.int (v)]) (n := 1) (Nat.le_of_ble_eq_true rfl)
  rw [lg_entry_eq]
  generalize (lg_sl ([.int (v)]) ++ List.replicate (1 - (lg_sl ([.int (v)])).length) Slot.unset).toArray = ls at hl ⊢
  have hl : lv_has ls 1 [(0, .int (v))] := hl
  refine lv_iload_n hx hb dX3_isBoxSet_0 rfl (lv_at hl 0 rfl) ?_
  refine n_iconst (k := 1) hx hb dX3_isBoxSet_1 (by decide) ?_
  refine lv_bipush (v := nI 63) hx hb dX3_isBoxSet_2 (by decide) ?_
  refine roS1 (v := .int (b2i (iw (v) (nI (1)) (nI (63))))) (As := [.int (v), .int (nI (1)), .int (nI (63))]) (rest := []) (n := 3) ⟨hx, hb, hml, hown, htA⟩ (c_isWithin l D cI cZ sa (v) (nI (1)) (nI (63)) s.heap ) (va_cwS 3 htA (gdS wd_139 wd_140 wd_1 wd_141) rfl rfl rfl (by decide +kernel) ⟨Nat.le_of_ble_eq_true rfl, Nat.le_of_ble_eq_true rfl⟩) hKK rfl hl.1 rfl (Nat.le_of_ble_eq_true rfl) dX3_isBoxSet_4 (Nat.zero_le _) (Nat.zero_le _) ?_
  exact ro_z (v := iw (v) (nI (1)) (nI (63))) hx hb hr hlocks (rfl) dX3_isBoxSet_7
set_option maxHeartbeats 4000000 in
set_option maxRecDepth 100000 in
theorem c_isThread (l : Launch) (D : va_G) (cI cZ : ClassId) (sa : Nat → Nat) (v : Int32) (H : Heap)  : Met l yX3_isThread (codeW yX3_isThread cX3_isThread 1 (some .boolean)) ({ frames := 1, cells := 0, slots := 0, locals := 22 } : Room) (RoP D cI cZ sa H [.int (v)]) (RoQ (some (.int (b2i (iw v (nI 0) (nI 9))))) H) 0 0 RoF := by
  refine Met.ofW (cc := cX3_isThread) (maxL := 1) (ret := (some .boolean)) (by decide) rfl ?_
  intro p e s m args below meth c s₁ B hml hv
  obtain ⟨rfl, hH, hKK⟩ := hv
  subst hH
  have hx := B.exec
  have hb := B.bytes
  have hr := B.returns
  have htA : ∀ w ∈ WA, w.before _ s = true := fun w h => atoms_spec (ws := (codeW yX3_isThread cX3_isThread 1 (some .boolean))) B.pre w (List.mem_cons_of_mem _ h)
  have hown : s.vm.findClass RX3 = some m.cls := findClass_of_methodNamed B.named
  have hlocks := B.notSynchronized
  have hl := lv_entry ([.int (v)]) (n := 1) (Nat.le_of_ble_eq_true rfl)
  rw [lg_entry_eq]
  generalize (lg_sl ([.int (v)]) ++ List.replicate (1 - (lg_sl ([.int (v)])).length) Slot.unset).toArray = ls at hl ⊢
  have hl : lv_has ls 1 [(0, .int (v))] := hl
  refine lv_iload_n hx hb dX3_isThread_0 rfl (lv_at hl 0 rfl) ?_
  refine n_iconst (k := 0) hx hb dX3_isThread_1 (by decide) ?_
  refine lv_bipush (v := nI 9) hx hb dX3_isThread_2 (by decide) ?_
  refine roS1 (v := .int (b2i (iw (v) (nI (0)) (nI (9))))) (As := [.int (v), .int (nI (0)), .int (nI (9))]) (rest := []) (n := 3) ⟨hx, hb, hml, hown, htA⟩ (c_isWithin l D cI cZ sa (v) (nI (0)) (nI (9)) s.heap ) (va_cwS 3 htA (gdS wd_139 wd_140 wd_1 wd_141) rfl rfl rfl (by decide +kernel) ⟨Nat.le_of_ble_eq_true rfl, Nat.le_of_ble_eq_true rfl⟩) hKK rfl hl.1 rfl (Nat.le_of_ble_eq_true rfl) dX3_isThread_4 (Nat.zero_le _) (Nat.zero_le _) ?_
  exact ro_z (v := iw (v) (nI (0)) (nI (9))) hx hb hr hlocks (rfl) dX3_isThread_7
set_option maxHeartbeats 4000000 in
set_option maxRecDepth 100000 in
theorem c_isKeyword (l : Launch) (D : va_G) (cI cZ : ClassId) (sa : Nat → Nat) (v : Int32) (H : Heap)  : Met l yX3_isKeyword (codeW yX3_isKeyword cX3_isKeyword 1 (some .boolean)) ({ frames := 1, cells := 0, slots := 0, locals := 22 } : Room) (RoP D cI cZ sa H [.int (v)]) (RoQ (some (.int (b2i (iw v (nI 0) (nI 3))))) H) 0 0 RoF := by
  refine Met.ofW (cc := cX3_isKeyword) (maxL := 1) (ret := (some .boolean)) (by decide) rfl ?_
  intro p e s m args below meth c s₁ B hml hv
  obtain ⟨rfl, hH, hKK⟩ := hv
  subst hH
  have hx := B.exec
  have hb := B.bytes
  have hr := B.returns
  have htA : ∀ w ∈ WA, w.before _ s = true := fun w h => atoms_spec (ws := (codeW yX3_isKeyword cX3_isKeyword 1 (some .boolean))) B.pre w (List.mem_cons_of_mem _ h)
  have hown : s.vm.findClass RX3 = some m.cls := findClass_of_methodNamed B.named
  have hlocks := B.notSynchronized
  have hl := lv_entry ([.int (v)]) (n := 1) (Nat.le_of_ble_eq_true rfl)
  rw [lg_entry_eq]
  generalize (lg_sl ([.int (v)]) ++ List.replicate (1 - (lg_sl ([.int (v)])).length) Slot.unset).toArray = ls at hl ⊢
  have hl : lv_has ls 1 [(0, .int (v))] := hl
  refine lv_iload_n hx hb dX3_isKeyword_0 rfl (lv_at hl 0 rfl) ?_
  refine n_iconst (k := 0) hx hb dX3_isKeyword_1 (by decide) ?_
  refine n_iconst (k := 3) hx hb dX3_isKeyword_2 (by decide) ?_
  refine roS1 (v := .int (b2i (iw (v) (nI (0)) (nI (3))))) (As := [.int (v), .int (nI (0)), .int (nI (3))]) (rest := []) (n := 3) ⟨hx, hb, hml, hown, htA⟩ (c_isWithin l D cI cZ sa (v) (nI (0)) (nI (3)) s.heap ) (va_cwS 3 htA (gdS wd_139 wd_140 wd_1 wd_141) rfl rfl rfl (by decide +kernel) ⟨Nat.le_of_ble_eq_true rfl, Nat.le_of_ble_eq_true rfl⟩) hKK rfl hl.1 rfl (Nat.le_of_ble_eq_true rfl) dX3_isKeyword_3 (Nat.zero_le _) (Nat.zero_le _) ?_
  exact ro_z (v := iw (v) (nI (0)) (nI (3))) hx hb hr hlocks (rfl) dX3_isKeyword_6
set_option maxHeartbeats 4000000 in
set_option maxRecDepth 100000 in
theorem c_isWay (l : Launch) (D : va_G) (cI cZ : ClassId) (sa : Nat → Nat) (v : Int32) (H : Heap)  : Met l yX3_isWay (codeW yX3_isWay cX3_isWay 1 (some .boolean)) ({ frames := 1, cells := 0, slots := 0, locals := 22 } : Room) (RoP D cI cZ sa H [.int (v)]) (RoQ (some (.int (b2i (iw v (nI 0) (nI 2))))) H) 0 0 RoF := by
  refine Met.ofW (cc := cX3_isWay) (maxL := 1) (ret := (some .boolean)) (by decide) rfl ?_
  intro p e s m args below meth c s₁ B hml hv
  obtain ⟨rfl, hH, hKK⟩ := hv
  subst hH
  have hx := B.exec
  have hb := B.bytes
  have hr := B.returns
  have htA : ∀ w ∈ WA, w.before _ s = true := fun w h => atoms_spec (ws := (codeW yX3_isWay cX3_isWay 1 (some .boolean))) B.pre w (List.mem_cons_of_mem _ h)
  have hown : s.vm.findClass RX3 = some m.cls := findClass_of_methodNamed B.named
  have hlocks := B.notSynchronized
  have hl := lv_entry ([.int (v)]) (n := 1) (Nat.le_of_ble_eq_true rfl)
  rw [lg_entry_eq]
  generalize (lg_sl ([.int (v)]) ++ List.replicate (1 - (lg_sl ([.int (v)])).length) Slot.unset).toArray = ls at hl ⊢
  have hl : lv_has ls 1 [(0, .int (v))] := hl
  refine lv_iload_n hx hb dX3_isWay_0 rfl (lv_at hl 0 rfl) ?_
  refine n_iconst (k := 0) hx hb dX3_isWay_1 (by decide) ?_
  refine n_iconst (k := 2) hx hb dX3_isWay_2 (by decide) ?_
  refine roS1 (v := .int (b2i (iw (v) (nI (0)) (nI (2))))) (As := [.int (v), .int (nI (0)), .int (nI (2))]) (rest := []) (n := 3) ⟨hx, hb, hml, hown, htA⟩ (c_isWithin l D cI cZ sa (v) (nI (0)) (nI (2)) s.heap ) (va_cwS 3 htA (gdS wd_139 wd_140 wd_1 wd_141) rfl rfl rfl (by decide +kernel) ⟨Nat.le_of_ble_eq_true rfl, Nat.le_of_ble_eq_true rfl⟩) hKK rfl hl.1 rfl (Nat.le_of_ble_eq_true rfl) dX3_isWay_3 (Nat.zero_le _) (Nat.zero_le _) ?_
  exact ro_z (v := iw (v) (nI (0)) (nI (2))) hx hb hr hlocks (rfl) dX3_isWay_6
set_option maxHeartbeats 4000000 in
set_option maxRecDepth 100000 in
theorem c_isClient (l : Launch) (D : va_G) (cI cZ : ClassId) (sa : Nat → Nat) (v : Int32) (H : Heap)  : Met l yX3_isClient (codeW yX3_isClient cX3_isClient 1 (some .boolean)) ({ frames := 1, cells := 0, slots := 0, locals := 22 } : Room) (RoP D cI cZ sa H [.int (v)]) (RoQ (some (.int (b2i (iw v (nI 0) (nI 1))))) H) 0 0 RoF := by
  refine Met.ofW (cc := cX3_isClient) (maxL := 1) (ret := (some .boolean)) (by decide) rfl ?_
  intro p e s m args below meth c s₁ B hml hv
  obtain ⟨rfl, hH, hKK⟩ := hv
  subst hH
  have hx := B.exec
  have hb := B.bytes
  have hr := B.returns
  have htA : ∀ w ∈ WA, w.before _ s = true := fun w h => atoms_spec (ws := (codeW yX3_isClient cX3_isClient 1 (some .boolean))) B.pre w (List.mem_cons_of_mem _ h)
  have hown : s.vm.findClass RX3 = some m.cls := findClass_of_methodNamed B.named
  have hlocks := B.notSynchronized
  have hl := lv_entry ([.int (v)]) (n := 1) (Nat.le_of_ble_eq_true rfl)
  rw [lg_entry_eq]
  generalize (lg_sl ([.int (v)]) ++ List.replicate (1 - (lg_sl ([.int (v)])).length) Slot.unset).toArray = ls at hl ⊢
  have hl : lv_has ls 1 [(0, .int (v))] := hl
  refine lv_iload_n hx hb dX3_isClient_0 rfl (lv_at hl 0 rfl) ?_
  refine n_iconst (k := 0) hx hb dX3_isClient_1 (by decide) ?_
  refine n_iconst (k := 1) hx hb dX3_isClient_2 (by decide) ?_
  refine roS1 (v := .int (b2i (iw (v) (nI (0)) (nI (1))))) (As := [.int (v), .int (nI (0)), .int (nI (1))]) (rest := []) (n := 3) ⟨hx, hb, hml, hown, htA⟩ (c_isWithin l D cI cZ sa (v) (nI (0)) (nI (1)) s.heap ) (va_cwS 3 htA (gdS wd_139 wd_140 wd_1 wd_141) rfl rfl rfl (by decide +kernel) ⟨Nat.le_of_ble_eq_true rfl, Nat.le_of_ble_eq_true rfl⟩) hKK rfl hl.1 rfl (Nat.le_of_ble_eq_true rfl) dX3_isClient_3 (Nat.zero_le _) (Nat.zero_le _) ?_
  exact ro_z (v := iw (v) (nI (0)) (nI (1))) hx hb hr hlocks (rfl) dX3_isClient_6
set_option maxHeartbeats 4000000 in
set_option maxRecDepth 100000 in
theorem c_holds (l : Launch) (D : va_G) (cI cZ : ClassId) (sa : Nat → Nat) (x : Int64) (k : Nat) (H : Heap)  : Met l yX3_holds (codeW yX3_holds cX3_holds 3 (some .boolean)) ({ frames := 0, cells := 0, slots := 0, locals := 0 } : Room) (RoP D cI cZ sa H [.long (x), .int (nI (k))]) (RoQ (some (.int (b2i (hl64 x k)))) H) 0 0 RoF := by
  refine Met.ofW (cc := cX3_holds) (maxL := 3) (ret := (some .boolean)) (by decide) rfl ?_
  intro p e s m args below meth c s₁ B hml hv
  obtain ⟨rfl, hH, hKK⟩ := hv
  subst hH
  have hx := B.exec
  have hb := B.bytes
  have hr := B.returns
  have htA : ∀ w ∈ WA, w.before _ s = true := fun w h => atoms_spec (ws := (codeW yX3_holds cX3_holds 3 (some .boolean))) B.pre w (List.mem_cons_of_mem _ h)
  have hown : s.vm.findClass RX3 = some m.cls := findClass_of_methodNamed B.named
  have hlocks := B.notSynchronized
  have hl := lv_entry ([.long (x), .int (nI (k))]) (n := 3) (Nat.le_of_ble_eq_true rfl)
  rw [lg_entry_eq]
  generalize (lg_sl ([.long (x), .int (nI (k))]) ++ List.replicate (3 - (lg_sl ([.long (x), .int (nI (k))])).length) Slot.unset).toArray = ls at hl ⊢
  have hl : lv_has ls 3 [(0, .long (x)), (2, .int (nI (k)))] := hl
  refine lv_lload_n hx hb dX3_holds_0 rfl (lv_at hl 0 rfl) ?_
  refine lv_iload_n hx hb dX3_holds_1 rfl (lv_at hl 1 rfl) ?_
  refine lv_lshr hx hb dX3_holds_2 rfl ?_
  refine lv_lconst (v := 1) hx hb dX3_holds_3 (by decide) ?_
  refine lv_land hx hb dX3_holds_4 ?_
  refine lv_lconst (v := 1) hx hb dX3_holds_5 (by decide) ?_
  refine W.lcmp hx hb dX3_holds_6 ?_
  refine lv_if_ne (tgt := 14) hx hb dX3_holds_7 (by decide) (fun c_1 => ?_) (fun c_1 => ?_)
  · refine n_iconst (k := 0) hx hb dX3_holds_14 (by decide) ?_
    exact ro_z (v := false) hx hb hr hlocks (by have q : ¬ _ = _ := fun q => c_1 (lg_eq.mpr q); simp [hl64, q]) dX3_holds_15
  · refine n_iconst (k := 1) hx hb dX3_holds_10 (by decide) ?_
    refine lv_goto (tgt := 15) hx hb dX3_holds_11 (by decide) ?_
    exact ro_z (v := true) hx hb hr hlocks (by have q := lg_eq.mp c_1; simp [hl64, q]) dX3_holds_15
set_option maxHeartbeats 4000000 in
set_option maxRecDepth 100000 in
theorem c_with (l : Launch) (D : va_G) (cI cZ : ClassId) (sa : Nat → Nat) (x : Int64) (k : Nat) (v : Bool) (H : Heap)  : Met l yX3_with (codeW yX3_with cX3_with 4 (some .long)) ({ frames := 0, cells := 0, slots := 0, locals := 0 } : Room) (RoP D cI cZ sa H [.long (x), .int (nI (k)), .int (b2i (v))]) (RoQ (some (.long (wi x k v))) H) 0 0 RoF := by
  refine Met.ofW (cc := cX3_with) (maxL := 4) (ret := (some .long)) (by decide) rfl ?_
  intro p e s m args below meth c s₁ B hml hv
  obtain ⟨rfl, hH, hKK⟩ := hv
  subst hH
  have hx := B.exec
  have hb := B.bytes
  have hr := B.returns
  have htA : ∀ w ∈ WA, w.before _ s = true := fun w h => atoms_spec (ws := (codeW yX3_with cX3_with 4 (some .long))) B.pre w (List.mem_cons_of_mem _ h)
  have hown : s.vm.findClass RX3 = some m.cls := findClass_of_methodNamed B.named
  have hlocks := B.notSynchronized
  have hl := lv_entry ([.long (x), .int (nI (k)), .int (b2i (v))]) (n := 4) (Nat.le_of_ble_eq_true rfl)
  rw [lg_entry_eq]
  generalize (lg_sl ([.long (x), .int (nI (k)), .int (b2i (v))]) ++ List.replicate (4 - (lg_sl ([.long (x), .int (nI (k)), .int (b2i (v))])).length) Slot.unset).toArray = ls at hl ⊢
  have hl : lv_has ls 4 [(0, .long (x)), (2, .int (nI (k))), (3, .int (b2i (v)))] := hl
  refine lv_iload_n hx hb dX3_with_0 rfl (lv_at hl 2 rfl) ?_
  refine b_ifeq (b := v) (tgt := 12) hx hb dX3_with_1 (by decide) (fun c_1 => ?_) (fun c_1 => ?_)
  · refine lv_lload_n hx hb dX3_with_12 rfl (lv_at hl 0 rfl) ?_
    refine lv_lconst (v := 1) hx hb dX3_with_13 (by decide) ?_
    refine lv_iload_n hx hb dX3_with_14 rfl (lv_at hl 1 rfl) ?_
    refine lv_lshl hx hb dX3_with_15 rfl ?_
    refine lv_ldc2 (v := (-1)) hx hb hown (htA _ wd_316) dX3_with_16 ?_
    refine lv_lxor hx hb dX3_with_19 ?_
    refine lv_land hx hb dX3_with_20 ?_
    exact ro_l hx hb hr hlocks (by rw [c_1]; rfl) dX3_with_21
  · refine lv_lload_n hx hb dX3_with_4 rfl (lv_at hl 0 rfl) ?_
    refine lv_lconst (v := 1) hx hb dX3_with_5 (by decide) ?_
    refine lv_iload_n hx hb dX3_with_6 rfl (lv_at hl 1 rfl) ?_
    refine lv_lshl hx hb dX3_with_7 rfl ?_
    refine lv_lor hx hb dX3_with_8 ?_
    refine lv_goto (tgt := 21) hx hb dX3_with_9 (by decide) ?_
    exact ro_l hx hb hr hlocks (by rw [c_1]; rfl) dX3_with_21
set_option maxHeartbeats 4000000 in
set_option maxRecDepth 100000 in
theorem c_bitCount (l : Launch) (D : va_G) (cI cZ : ClassId) (sa : Nat → Nat) (x : Int64) (H : Heap)  : Met l yJ13_bitCount_95d88 (codeW yJ13_bitCount_95d88 cJ13_bitCount_95d88 2 (some .int)) ({ frames := 0, cells := 0, slots := 0, locals := 0 } : Room) (RoP D cI cZ sa H [.long (x)]) (RoQ (some (.int (bitc x))) H) 0 0 RoF := by
  refine Met.ofW (cc := cJ13_bitCount_95d88) (maxL := 2) (ret := (some .int)) (by decide) rfl ?_
  intro p e s m args below meth c s₁ B hml hv
  obtain ⟨rfl, hH, hKK⟩ := hv
  subst hH
  have hx := B.exec
  have hb := B.bytes
  have hr := B.returns
  have htA : ∀ w ∈ WA, w.before _ s = true := fun w h => atoms_spec (ws := (codeW yJ13_bitCount_95d88 cJ13_bitCount_95d88 2 (some .int))) B.pre w (List.mem_cons_of_mem _ h)
  have hown : s.vm.findClass RJ13 = some m.cls := findClass_of_methodNamed B.named
  have hlocks := B.notSynchronized
  have hl := lv_entry ([.long (x)]) (n := 2) (Nat.le_of_ble_eq_true rfl)
  rw [lg_entry_eq]
  generalize (lg_sl ([.long (x)]) ++ List.replicate (2 - (lg_sl ([.long (x)])).length) Slot.unset).toArray = ls at hl ⊢
  have hl : lv_has ls 2 [(0, .long (x))] := hl
  refine lv_lload_n hx hb dJ13_bitCount_95d88_0 rfl (lv_at hl 0 rfl) ?_
  refine lv_lload_n hx hb dJ13_bitCount_95d88_1 rfl (lv_at hl 0 rfl) ?_
  refine n_iconst (k := 1) hx hb dJ13_bitCount_95d88_2 (by decide) ?_
  refine lv_lushr hx hb dJ13_bitCount_95d88_3 rfl ?_
  refine lv_ldc2 (v := (6148914691236517205)) hx hb hown (htA _ wd_344) dJ13_bitCount_95d88_4 ?_
  refine lv_land hx hb dJ13_bitCount_95d88_7 ?_
  refine lv_lsub hx hb dJ13_bitCount_95d88_8 ?_
  refine lv_lstore_n (lv' := [(0, .long (x - (((x.toUInt64 >>> ((nI (1)).toInt64.toUInt64 &&& Int64.toUInt64 63)).toInt64) &&& (6148914691236517205 : Int64))))]) hx hb dJ13_bitCount_95d88_9 rfl hl (by decide) rfl (fun ls hl => ?_)
  refine lv_lload_n hx hb dJ13_bitCount_95d88_10 rfl (lv_at hl 0 rfl) ?_
  refine lv_ldc2 (v := (3689348814741910323)) hx hb hown (htA _ wd_345) dJ13_bitCount_95d88_11 ?_
  refine lv_land hx hb dJ13_bitCount_95d88_14 ?_
  refine lv_lload_n hx hb dJ13_bitCount_95d88_15 rfl (lv_at hl 0 rfl) ?_
  refine n_iconst (k := 2) hx hb dJ13_bitCount_95d88_16 (by decide) ?_
  refine lv_lushr hx hb dJ13_bitCount_95d88_17 rfl ?_
  refine lv_ldc2 (v := (3689348814741910323)) hx hb hown (htA _ wd_345) dJ13_bitCount_95d88_18 ?_
  refine lv_land hx hb dJ13_bitCount_95d88_21 ?_
  refine lv_ladd hx hb dJ13_bitCount_95d88_22 ?_
  refine lv_lstore_n (lv' := [(0, .long (((x - (((x.toUInt64 >>> ((nI (1)).toInt64.toUInt64 &&& Int64.toUInt64 63)).toInt64) &&& (6148914691236517205 : Int64))) &&& (3689348814741910323 : Int64)) + ((((x - (((x.toUInt64 >>> ((nI (1)).toInt64.toUInt64 &&& Int64.toUInt64 63)).toInt64) &&& (6148914691236517205 : Int64))).toUInt64 >>> ((nI (2)).toInt64.toUInt64 &&& Int64.toUInt64 63)).toInt64) &&& (3689348814741910323 : Int64))))]) hx hb dJ13_bitCount_95d88_23 rfl hl (by decide) rfl (fun ls hl => ?_)
  refine lv_lload_n hx hb dJ13_bitCount_95d88_24 rfl (lv_at hl 0 rfl) ?_
  refine lv_lload_n hx hb dJ13_bitCount_95d88_25 rfl (lv_at hl 0 rfl) ?_
  refine n_iconst (k := 4) hx hb dJ13_bitCount_95d88_26 (by decide) ?_
  refine lv_lushr hx hb dJ13_bitCount_95d88_27 rfl ?_
  refine lv_ladd hx hb dJ13_bitCount_95d88_28 ?_
  refine lv_ldc2 (v := (1085102592571150095)) hx hb hown (htA _ wd_346) dJ13_bitCount_95d88_29 ?_
  refine lv_land hx hb dJ13_bitCount_95d88_32 ?_
  refine lv_lstore_n (lv' := [(0, .long (((((x - (((x.toUInt64 >>> ((nI (1)).toInt64.toUInt64 &&& Int64.toUInt64 63)).toInt64) &&& (6148914691236517205 : Int64))) &&& (3689348814741910323 : Int64)) + ((((x - (((x.toUInt64 >>> ((nI (1)).toInt64.toUInt64 &&& Int64.toUInt64 63)).toInt64) &&& (6148914691236517205 : Int64))).toUInt64 >>> ((nI (2)).toInt64.toUInt64 &&& Int64.toUInt64 63)).toInt64) &&& (3689348814741910323 : Int64))) + (((((x - (((x.toUInt64 >>> ((nI (1)).toInt64.toUInt64 &&& Int64.toUInt64 63)).toInt64) &&& (6148914691236517205 : Int64))) &&& (3689348814741910323 : Int64)) + ((((x - (((x.toUInt64 >>> ((nI (1)).toInt64.toUInt64 &&& Int64.toUInt64 63)).toInt64) &&& (6148914691236517205 : Int64))).toUInt64 >>> ((nI (2)).toInt64.toUInt64 &&& Int64.toUInt64 63)).toInt64) &&& (3689348814741910323 : Int64))).toUInt64 >>> ((nI (4)).toInt64.toUInt64 &&& Int64.toUInt64 63)).toInt64)) &&& (1085102592571150095 : Int64)))]) hx hb dJ13_bitCount_95d88_33 rfl hl (by decide) rfl (fun ls hl => ?_)
  refine lv_lload_n hx hb dJ13_bitCount_95d88_34 rfl (lv_at hl 0 rfl) ?_
  refine lv_lload_n hx hb dJ13_bitCount_95d88_35 rfl (lv_at hl 0 rfl) ?_
  refine lv_bipush (v := nI 8) hx hb dJ13_bitCount_95d88_36 (by decide) ?_
  refine lv_lushr hx hb dJ13_bitCount_95d88_38 rfl ?_
  refine lv_ladd hx hb dJ13_bitCount_95d88_39 ?_
  refine lv_lstore_n (lv' := [(0, .long ((((((x - (((x.toUInt64 >>> ((nI (1)).toInt64.toUInt64 &&& Int64.toUInt64 63)).toInt64) &&& (6148914691236517205 : Int64))) &&& (3689348814741910323 : Int64)) + ((((x - (((x.toUInt64 >>> ((nI (1)).toInt64.toUInt64 &&& Int64.toUInt64 63)).toInt64) &&& (6148914691236517205 : Int64))).toUInt64 >>> ((nI (2)).toInt64.toUInt64 &&& Int64.toUInt64 63)).toInt64) &&& (3689348814741910323 : Int64))) + (((((x - (((x.toUInt64 >>> ((nI (1)).toInt64.toUInt64 &&& Int64.toUInt64 63)).toInt64) &&& (6148914691236517205 : Int64))) &&& (3689348814741910323 : Int64)) + ((((x - (((x.toUInt64 >>> ((nI (1)).toInt64.toUInt64 &&& Int64.toUInt64 63)).toInt64) &&& (6148914691236517205 : Int64))).toUInt64 >>> ((nI (2)).toInt64.toUInt64 &&& Int64.toUInt64 63)).toInt64) &&& (3689348814741910323 : Int64))).toUInt64 >>> ((nI (4)).toInt64.toUInt64 &&& Int64.toUInt64 63)).toInt64)) &&& (1085102592571150095 : Int64)) + (((((((x - (((x.toUInt64 >>> ((nI (1)).toInt64.toUInt64 &&& Int64.toUInt64 63)).toInt64) &&& (6148914691236517205 : Int64))) &&& (3689348814741910323 : Int64)) + ((((x - (((x.toUInt64 >>> ((nI (1)).toInt64.toUInt64 &&& Int64.toUInt64 63)).toInt64) &&& (6148914691236517205 : Int64))).toUInt64 >>> ((nI (2)).toInt64.toUInt64 &&& Int64.toUInt64 63)).toInt64) &&& (3689348814741910323 : Int64))) + (((((x - (((x.toUInt64 >>> ((nI (1)).toInt64.toUInt64 &&& Int64.toUInt64 63)).toInt64) &&& (6148914691236517205 : Int64))) &&& (3689348814741910323 : Int64)) + ((((x - (((x.toUInt64 >>> ((nI (1)).toInt64.toUInt64 &&& Int64.toUInt64 63)).toInt64) &&& (6148914691236517205 : Int64))).toUInt64 >>> ((nI (2)).toInt64.toUInt64 &&& Int64.toUInt64 63)).toInt64) &&& (3689348814741910323 : Int64))).toUInt64 >>> ((nI (4)).toInt64.toUInt64 &&& Int64.toUInt64 63)).toInt64)) &&& (1085102592571150095 : Int64)).toUInt64 >>> ((nI (8)).toInt64.toUInt64 &&& Int64.toUInt64 63)).toInt64)))]) hx hb dJ13_bitCount_95d88_40 rfl hl (by decide) rfl (fun ls hl => ?_)
  refine lv_lload_n hx hb dJ13_bitCount_95d88_41 rfl (lv_at hl 0 rfl) ?_
  refine lv_lload_n hx hb dJ13_bitCount_95d88_42 rfl (lv_at hl 0 rfl) ?_
  refine lv_bipush (v := nI 16) hx hb dJ13_bitCount_95d88_43 (by decide) ?_
  refine lv_lushr hx hb dJ13_bitCount_95d88_45 rfl ?_
  refine lv_ladd hx hb dJ13_bitCount_95d88_46 ?_
  refine lv_lstore_n (lv' := [(0, .long (((((((x - (((x.toUInt64 >>> ((nI (1)).toInt64.toUInt64 &&& Int64.toUInt64 63)).toInt64) &&& (6148914691236517205 : Int64))) &&& (3689348814741910323 : Int64)) + ((((x - (((x.toUInt64 >>> ((nI (1)).toInt64.toUInt64 &&& Int64.toUInt64 63)).toInt64) &&& (6148914691236517205 : Int64))).toUInt64 >>> ((nI (2)).toInt64.toUInt64 &&& Int64.toUInt64 63)).toInt64) &&& (3689348814741910323 : Int64))) + (((((x - (((x.toUInt64 >>> ((nI (1)).toInt64.toUInt64 &&& Int64.toUInt64 63)).toInt64) &&& (6148914691236517205 : Int64))) &&& (3689348814741910323 : Int64)) + ((((x - (((x.toUInt64 >>> ((nI (1)).toInt64.toUInt64 &&& Int64.toUInt64 63)).toInt64) &&& (6148914691236517205 : Int64))).toUInt64 >>> ((nI (2)).toInt64.toUInt64 &&& Int64.toUInt64 63)).toInt64) &&& (3689348814741910323 : Int64))).toUInt64 >>> ((nI (4)).toInt64.toUInt64 &&& Int64.toUInt64 63)).toInt64)) &&& (1085102592571150095 : Int64)) + (((((((x - (((x.toUInt64 >>> ((nI (1)).toInt64.toUInt64 &&& Int64.toUInt64 63)).toInt64) &&& (6148914691236517205 : Int64))) &&& (3689348814741910323 : Int64)) + ((((x - (((x.toUInt64 >>> ((nI (1)).toInt64.toUInt64 &&& Int64.toUInt64 63)).toInt64) &&& (6148914691236517205 : Int64))).toUInt64 >>> ((nI (2)).toInt64.toUInt64 &&& Int64.toUInt64 63)).toInt64) &&& (3689348814741910323 : Int64))) + (((((x - (((x.toUInt64 >>> ((nI (1)).toInt64.toUInt64 &&& Int64.toUInt64 63)).toInt64) &&& (6148914691236517205 : Int64))) &&& (3689348814741910323 : Int64)) + ((((x - (((x.toUInt64 >>> ((nI (1)).toInt64.toUInt64 &&& Int64.toUInt64 63)).toInt64) &&& (6148914691236517205 : Int64))).toUInt64 >>> ((nI (2)).toInt64.toUInt64 &&& Int64.toUInt64 63)).toInt64) &&& (3689348814741910323 : Int64))).toUInt64 >>> ((nI (4)).toInt64.toUInt64 &&& Int64.toUInt64 63)).toInt64)) &&& (1085102592571150095 : Int64)).toUInt64 >>> ((nI (8)).toInt64.toUInt64 &&& Int64.toUInt64 63)).toInt64)) + ((((((((x - (((x.toUInt64 >>> ((nI (1)).toInt64.toUInt64 &&& Int64.toUInt64 63)).toInt64) &&& (6148914691236517205 : Int64))) &&& (3689348814741910323 : Int64)) + ((((x - (((x.toUInt64 >>> ((nI (1)).toInt64.toUInt64 &&& Int64.toUInt64 63)).toInt64) &&& (6148914691236517205 : Int64))).toUInt64 >>> ((nI (2)).toInt64.toUInt64 &&& Int64.toUInt64 63)).toInt64) &&& (3689348814741910323 : Int64))) + (((((x - (((x.toUInt64 >>> ((nI (1)).toInt64.toUInt64 &&& Int64.toUInt64 63)).toInt64) &&& (6148914691236517205 : Int64))) &&& (3689348814741910323 : Int64)) + ((((x - (((x.toUInt64 >>> ((nI (1)).toInt64.toUInt64 &&& Int64.toUInt64 63)).toInt64) &&& (6148914691236517205 : Int64))).toUInt64 >>> ((nI (2)).toInt64.toUInt64 &&& Int64.toUInt64 63)).toInt64) &&& (3689348814741910323 : Int64))).toUInt64 >>> ((nI (4)).toInt64.toUInt64 &&& Int64.toUInt64 63)).toInt64)) &&& (1085102592571150095 : Int64)) + (((((((x - (((x.toUInt64 >>> ((nI (1)).toInt64.toUInt64 &&& Int64.toUInt64 63)).toInt64) &&& (6148914691236517205 : Int64))) &&& (3689348814741910323 : Int64)) + ((((x - (((x.toUInt64 >>> ((nI (1)).toInt64.toUInt64 &&& Int64.toUInt64 63)).toInt64) &&& (6148914691236517205 : Int64))).toUInt64 >>> ((nI (2)).toInt64.toUInt64 &&& Int64.toUInt64 63)).toInt64) &&& (3689348814741910323 : Int64))) + (((((x - (((x.toUInt64 >>> ((nI (1)).toInt64.toUInt64 &&& Int64.toUInt64 63)).toInt64) &&& (6148914691236517205 : Int64))) &&& (3689348814741910323 : Int64)) + ((((x - (((x.toUInt64 >>> ((nI (1)).toInt64.toUInt64 &&& Int64.toUInt64 63)).toInt64) &&& (6148914691236517205 : Int64))).toUInt64 >>> ((nI (2)).toInt64.toUInt64 &&& Int64.toUInt64 63)).toInt64) &&& (3689348814741910323 : Int64))).toUInt64 >>> ((nI (4)).toInt64.toUInt64 &&& Int64.toUInt64 63)).toInt64)) &&& (1085102592571150095 : Int64)).toUInt64 >>> ((nI (8)).toInt64.toUInt64 &&& Int64.toUInt64 63)).toInt64)).toUInt64 >>> ((nI (16)).toInt64.toUInt64 &&& Int64.toUInt64 63)).toInt64)))]) hx hb dJ13_bitCount_95d88_47 rfl hl (by decide) rfl (fun ls hl => ?_)
  refine lv_lload_n hx hb dJ13_bitCount_95d88_48 rfl (lv_at hl 0 rfl) ?_
  refine lv_lload_n hx hb dJ13_bitCount_95d88_49 rfl (lv_at hl 0 rfl) ?_
  refine lv_bipush (v := nI 32) hx hb dJ13_bitCount_95d88_50 (by decide) ?_
  refine lv_lushr hx hb dJ13_bitCount_95d88_52 rfl ?_
  refine lv_ladd hx hb dJ13_bitCount_95d88_53 ?_
  refine lv_lstore_n (lv' := [(0, .long ((((((((x - (((x.toUInt64 >>> ((nI (1)).toInt64.toUInt64 &&& Int64.toUInt64 63)).toInt64) &&& (6148914691236517205 : Int64))) &&& (3689348814741910323 : Int64)) + ((((x - (((x.toUInt64 >>> ((nI (1)).toInt64.toUInt64 &&& Int64.toUInt64 63)).toInt64) &&& (6148914691236517205 : Int64))).toUInt64 >>> ((nI (2)).toInt64.toUInt64 &&& Int64.toUInt64 63)).toInt64) &&& (3689348814741910323 : Int64))) + (((((x - (((x.toUInt64 >>> ((nI (1)).toInt64.toUInt64 &&& Int64.toUInt64 63)).toInt64) &&& (6148914691236517205 : Int64))) &&& (3689348814741910323 : Int64)) + ((((x - (((x.toUInt64 >>> ((nI (1)).toInt64.toUInt64 &&& Int64.toUInt64 63)).toInt64) &&& (6148914691236517205 : Int64))).toUInt64 >>> ((nI (2)).toInt64.toUInt64 &&& Int64.toUInt64 63)).toInt64) &&& (3689348814741910323 : Int64))).toUInt64 >>> ((nI (4)).toInt64.toUInt64 &&& Int64.toUInt64 63)).toInt64)) &&& (1085102592571150095 : Int64)) + (((((((x - (((x.toUInt64 >>> ((nI (1)).toInt64.toUInt64 &&& Int64.toUInt64 63)).toInt64) &&& (6148914691236517205 : Int64))) &&& (3689348814741910323 : Int64)) + ((((x - (((x.toUInt64 >>> ((nI (1)).toInt64.toUInt64 &&& Int64.toUInt64 63)).toInt64) &&& (6148914691236517205 : Int64))).toUInt64 >>> ((nI (2)).toInt64.toUInt64 &&& Int64.toUInt64 63)).toInt64) &&& (3689348814741910323 : Int64))) + (((((x - (((x.toUInt64 >>> ((nI (1)).toInt64.toUInt64 &&& Int64.toUInt64 63)).toInt64) &&& (6148914691236517205 : Int64))) &&& (3689348814741910323 : Int64)) + ((((x - (((x.toUInt64 >>> ((nI (1)).toInt64.toUInt64 &&& Int64.toUInt64 63)).toInt64) &&& (6148914691236517205 : Int64))).toUInt64 >>> ((nI (2)).toInt64.toUInt64 &&& Int64.toUInt64 63)).toInt64) &&& (3689348814741910323 : Int64))).toUInt64 >>> ((nI (4)).toInt64.toUInt64 &&& Int64.toUInt64 63)).toInt64)) &&& (1085102592571150095 : Int64)).toUInt64 >>> ((nI (8)).toInt64.toUInt64 &&& Int64.toUInt64 63)).toInt64)) + ((((((((x - (((x.toUInt64 >>> ((nI (1)).toInt64.toUInt64 &&& Int64.toUInt64 63)).toInt64) &&& (6148914691236517205 : Int64))) &&& (3689348814741910323 : Int64)) + ((((x - (((x.toUInt64 >>> ((nI (1)).toInt64.toUInt64 &&& Int64.toUInt64 63)).toInt64) &&& (6148914691236517205 : Int64))).toUInt64 >>> ((nI (2)).toInt64.toUInt64 &&& Int64.toUInt64 63)).toInt64) &&& (3689348814741910323 : Int64))) + (((((x - (((x.toUInt64 >>> ((nI (1)).toInt64.toUInt64 &&& Int64.toUInt64 63)).toInt64) &&& (6148914691236517205 : Int64))) &&& (3689348814741910323 : Int64)) + ((((x - (((x.toUInt64 >>> ((nI (1)).toInt64.toUInt64 &&& Int64.toUInt64 63)).toInt64) &&& (6148914691236517205 : Int64))).toUInt64 >>> ((nI (2)).toInt64.toUInt64 &&& Int64.toUInt64 63)).toInt64) &&& (3689348814741910323 : Int64))).toUInt64 >>> ((nI (4)).toInt64.toUInt64 &&& Int64.toUInt64 63)).toInt64)) &&& (1085102592571150095 : Int64)) + (((((((x - (((x.toUInt64 >>> ((nI (1)).toInt64.toUInt64 &&& Int64.toUInt64 63)).toInt64) &&& (6148914691236517205 : Int64))) &&& (3689348814741910323 : Int64)) + ((((x - (((x.toUInt64 >>> ((nI (1)).toInt64.toUInt64 &&& Int64.toUInt64 63)).toInt64) &&& (6148914691236517205 : Int64))).toUInt64 >>> ((nI (2)).toInt64.toUInt64 &&& Int64.toUInt64 63)).toInt64) &&& (3689348814741910323 : Int64))) + (((((x - (((x.toUInt64 >>> ((nI (1)).toInt64.toUInt64 &&& Int64.toUInt64 63)).toInt64) &&& (6148914691236517205 : Int64))) &&& (3689348814741910323 : Int64)) + ((((x - (((x.toUInt64 >>> ((nI (1)).toInt64.toUInt64 &&& Int64.toUInt64 63)).toInt64) &&& (6148914691236517205 : Int64))).toUInt64 >>> ((nI (2)).toInt64.toUInt64 &&& Int64.toUInt64 63)).toInt64) &&& (3689348814741910323 : Int64))).toUInt64 >>> ((nI (4)).toInt64.toUInt64 &&& Int64.toUInt64 63)).toInt64)) &&& (1085102592571150095 : Int64)).toUInt64 >>> ((nI (8)).toInt64.toUInt64 &&& Int64.toUInt64 63)).toInt64)).toUInt64 >>> ((nI (16)).toInt64.toUInt64 &&& Int64.toUInt64 63)).toInt64)) + (((((((((x - (((x.toUInt64 >>> ((nI (1)).toInt64.toUInt64 &&& Int64.toUInt64 63)).toInt64) &&& (6148914691236517205 : Int64))) &&& (3689348814741910323 : Int64)) + ((((x - (((x.toUInt64 >>> ((nI (1)).toInt64.toUInt64 &&& Int64.toUInt64 63)).toInt64) &&& (6148914691236517205 : Int64))).toUInt64 >>> ((nI (2)).toInt64.toUInt64 &&& Int64.toUInt64 63)).toInt64) &&& (3689348814741910323 : Int64))) + (((((x - (((x.toUInt64 >>> ((nI (1)).toInt64.toUInt64 &&& Int64.toUInt64 63)).toInt64) &&& (6148914691236517205 : Int64))) &&& (3689348814741910323 : Int64)) + ((((x - (((x.toUInt64 >>> ((nI (1)).toInt64.toUInt64 &&& Int64.toUInt64 63)).toInt64) &&& (6148914691236517205 : Int64))).toUInt64 >>> ((nI (2)).toInt64.toUInt64 &&& Int64.toUInt64 63)).toInt64) &&& (3689348814741910323 : Int64))).toUInt64 >>> ((nI (4)).toInt64.toUInt64 &&& Int64.toUInt64 63)).toInt64)) &&& (1085102592571150095 : Int64)) + (((((((x - (((x.toUInt64 >>> ((nI (1)).toInt64.toUInt64 &&& Int64.toUInt64 63)).toInt64) &&& (6148914691236517205 : Int64))) &&& (3689348814741910323 : Int64)) + ((((x - (((x.toUInt64 >>> ((nI (1)).toInt64.toUInt64 &&& Int64.toUInt64 63)).toInt64) &&& (6148914691236517205 : Int64))).toUInt64 >>> ((nI (2)).toInt64.toUInt64 &&& Int64.toUInt64 63)).toInt64) &&& (3689348814741910323 : Int64))) + (((((x - (((x.toUInt64 >>> ((nI (1)).toInt64.toUInt64 &&& Int64.toUInt64 63)).toInt64) &&& (6148914691236517205 : Int64))) &&& (3689348814741910323 : Int64)) + ((((x - (((x.toUInt64 >>> ((nI (1)).toInt64.toUInt64 &&& Int64.toUInt64 63)).toInt64) &&& (6148914691236517205 : Int64))).toUInt64 >>> ((nI (2)).toInt64.toUInt64 &&& Int64.toUInt64 63)).toInt64) &&& (3689348814741910323 : Int64))).toUInt64 >>> ((nI (4)).toInt64.toUInt64 &&& Int64.toUInt64 63)).toInt64)) &&& (1085102592571150095 : Int64)).toUInt64 >>> ((nI (8)).toInt64.toUInt64 &&& Int64.toUInt64 63)).toInt64)) + ((((((((x - (((x.toUInt64 >>> ((nI (1)).toInt64.toUInt64 &&& Int64.toUInt64 63)).toInt64) &&& (6148914691236517205 : Int64))) &&& (3689348814741910323 : Int64)) + ((((x - (((x.toUInt64 >>> ((nI (1)).toInt64.toUInt64 &&& Int64.toUInt64 63)).toInt64) &&& (6148914691236517205 : Int64))).toUInt64 >>> ((nI (2)).toInt64.toUInt64 &&& Int64.toUInt64 63)).toInt64) &&& (3689348814741910323 : Int64))) + (((((x - (((x.toUInt64 >>> ((nI (1)).toInt64.toUInt64 &&& Int64.toUInt64 63)).toInt64) &&& (6148914691236517205 : Int64))) &&& (3689348814741910323 : Int64)) + ((((x - (((x.toUInt64 >>> ((nI (1)).toInt64.toUInt64 &&& Int64.toUInt64 63)).toInt64) &&& (6148914691236517205 : Int64))).toUInt64 >>> ((nI (2)).toInt64.toUInt64 &&& Int64.toUInt64 63)).toInt64) &&& (3689348814741910323 : Int64))).toUInt64 >>> ((nI (4)).toInt64.toUInt64 &&& Int64.toUInt64 63)).toInt64)) &&& (1085102592571150095 : Int64)) + (((((((x - (((x.toUInt64 >>> ((nI (1)).toInt64.toUInt64 &&& Int64.toUInt64 63)).toInt64) &&& (6148914691236517205 : Int64))) &&& (3689348814741910323 : Int64)) + ((((x - (((x.toUInt64 >>> ((nI (1)).toInt64.toUInt64 &&& Int64.toUInt64 63)).toInt64) &&& (6148914691236517205 : Int64))).toUInt64 >>> ((nI (2)).toInt64.toUInt64 &&& Int64.toUInt64 63)).toInt64) &&& (3689348814741910323 : Int64))) + (((((x - (((x.toUInt64 >>> ((nI (1)).toInt64.toUInt64 &&& Int64.toUInt64 63)).toInt64) &&& (6148914691236517205 : Int64))) &&& (3689348814741910323 : Int64)) + ((((x - (((x.toUInt64 >>> ((nI (1)).toInt64.toUInt64 &&& Int64.toUInt64 63)).toInt64) &&& (6148914691236517205 : Int64))).toUInt64 >>> ((nI (2)).toInt64.toUInt64 &&& Int64.toUInt64 63)).toInt64) &&& (3689348814741910323 : Int64))).toUInt64 >>> ((nI (4)).toInt64.toUInt64 &&& Int64.toUInt64 63)).toInt64)) &&& (1085102592571150095 : Int64)).toUInt64 >>> ((nI (8)).toInt64.toUInt64 &&& Int64.toUInt64 63)).toInt64)).toUInt64 >>> ((nI (16)).toInt64.toUInt64 &&& Int64.toUInt64 63)).toInt64)).toUInt64 >>> ((nI (32)).toInt64.toUInt64 &&& Int64.toUInt64 63)).toInt64)))]) hx hb dJ13_bitCount_95d88_54 rfl hl (by decide) rfl (fun ls hl => ?_)
  refine lv_lload_n hx hb dJ13_bitCount_95d88_55 rfl (lv_at hl 0 rfl) ?_
  refine lv_l2i hx hb dJ13_bitCount_95d88_56 rfl ?_
  refine lv_bipush (v := nI 127) hx hb dJ13_bitCount_95d88_57 (by decide) ?_
  refine lv_iand hx hb dJ13_bitCount_95d88_59 ?_
  exact ro_i hx hb hr hlocks (rfl) dJ13_bitCount_95d88_60
set_option maxHeartbeats 4000000 in
set_option maxRecDepth 100000 in
theorem c_matching (l : Launch) (D : va_G) (cI cZ : ClassId) (sa : Nat → Nat) (q : Nat → Nat) (σ : ST) (any al : Nat) (H : Heap) (hP : va_P D vwCl (wSS q cI σ) H)  : Met l yX2_matching (codeW yX2_matching cX2_matching 6 (some .long)) ({ frames := 1, cells := 0, slots := 0, locals := 23 } : Room) (RoP D cI cZ sa H [.ref (q 1), .int (nI (any)), .int (nI (al))]) (RoQ (some (.long (ms (fun j => mt (σ 4 j) (σ 5 j) any al) 60))) H) 0 0 RoF := by
  refine Met.ofW (cc := cX2_matching) (maxL := 6) (ret := (some .long)) (by decide) rfl ?_
  intro p e s m args below meth c s₁ B hml hv
  obtain ⟨rfl, hH, hKK⟩ := hv
  subst hH
  have hx := B.exec
  have hb := B.bytes
  have hr := B.returns
  have htA : ∀ w ∈ WA, w.before _ s = true := fun w h => atoms_spec (ws := (codeW yX2_matching cX2_matching 6 (some .long))) B.pre w (List.mem_cons_of_mem _ h)
  have hown : s.vm.findClass RX2 = some m.cls := findClass_of_methodNamed B.named
  have hlocks := B.notSynchronized
  have hl := lv_entry ([.ref (q 1), .int (nI (any)), .int (nI (al))]) (n := 6) (Nat.le_of_ble_eq_true rfl)
  rw [lg_entry_eq]
  generalize (lg_sl ([.ref (q 1), .int (nI (any)), .int (nI (al))]) ++ List.replicate (6 - (lg_sl ([.ref (q 1), .int (nI (any)), .int (nI (al))])).length) Slot.unset).toArray = ls at hl ⊢
  have hl : lv_has ls 6 [(0, .ref (q 1)), (1, .int (nI (any))), (2, .int (nI (al)))] := hl
  refine lv_lconst (v := 0) hx hb dX2_matching_0 (by decide) ?_
  refine lv_lstore_n (lv' := [(3, .long ((0 : Int64))), (0, .ref (q 1)), (1, .int (nI (any))), (2, .int (nI (al)))]) hx hb dX2_matching_1 rfl hl (by decide) rfl (fun ls hl => ?_)
  refine n_iconst (k := 0) hx hb dX2_matching_2 (by decide) ?_
  refine lv_istore (lv' := [(5, .int (nI (0))), (3, .long ((0 : Int64))), (0, .ref (q 1)), (1, .int (nI (any))), (2, .int (nI (al)))]) hx hb dX2_matching_3 hl (by decide) rfl (fun ls hl => ?_)
  have loop_5 : ∀ (n : Nat) (i : Nat), (i + n = 60) → ∀ (ls : Array Slot), lv_has ls 6 [(0, .ref (q 1)), (1, .int (nI (any))), (2, .int (nI (al))), (3, .long (ms (fun j => mt (σ 4 j) (σ 5 j) any al) i)), (5, .int (nI (i)))] → W p l e (headSpec (codeW yX2_matching cX2_matching 6 (some .long)) ({ frames := 1, cells := 0, slots := 0, locals := 23 } : Room)).room s m ([.ref (q 1), .int (nI (any)), .int (nI (al))] : List Value).toArray below meth c s.heap [] 0 0 (MQ below (RoQ (some (.long (ms (fun j => mt (σ 4 j) (σ 5 j) any al) 60))) s.heap) ([.ref (q 1), .int (nI (any)), .int (nI (al))] : List Value).toArray s 0 0 RoF) (F0 m 5 ls []) := by
    intro n
    induction n with
    | zero =>
      intro i hin ls hl
      refine lv_iload hx hb dX2_matching_5 (lv_at hl 4 rfl) ?_
      refine lv_bipush (v := nI 60) hx hb dX2_matching_7 (by decide) ?_
      refine n_icmp_ge (x := i) (y := 60) (tgt := 44) hx hb dX2_matching_9 (by decide) (by omega) (by decide) (fun c_1 => ?_) (fun c_1 => ?_)
      rotate_left
      · exfalso; omega
      refine lv_lload_n hx hb dX2_matching_44 rfl (lv_at hl 3 rfl) ?_
      exact ro_l hx hb hr hlocks (by rw [show i = 60 by omega]) dX2_matching_45
    | succ n ih =>
      intro i hin ls hl
      refine lv_iload hx hb dX2_matching_5 (lv_at hl 4 rfl) ?_
      refine lv_bipush (v := nI 60) hx hb dX2_matching_7 (by decide) ?_
      refine n_icmp_ge (x := i) (y := 60) (tgt := 44) hx hb dX2_matching_9 (by decide) (by omega) (by decide) (fun c_2 => ?_) (fun c_2 => ?_)
      · exfalso; omega
      refine lv_lload_n hx hb dX2_matching_12 rfl (lv_at hl 3 rfl) ?_
      refine lv_iload hx hb dX2_matching_13 (lv_at hl 4 rfl) ?_
      refine lv_aload_n hx hb dX2_matching_15 rfl (lv_at hl 0 rfl) ?_
      refine va_get (D := D) (ci := 2) (v := .ref (q 4)) (C := RX2) (T := TX2) (N := 7) hx hb htA uwX2 hown hKK.1 hP 0 rfl rfl 2 (by decide) (htA _ wd_54) (fun _ h9 => h9) rfl dX2_matching_16 ?_
      refine lv_iload hx hb dX2_matching_19 (lv_at hl 4 rfl) ?_
      refine n_iald (g := σ 4) (cA := cI) (n := 60) (j := i) hx hb hKK.1 hP 3 0 rfl rfl (by omega) (Nat.le_of_ble_eq_true rfl) dX2_matching_21 ?_
      refine lv_aload_n hx hb dX2_matching_22 rfl (lv_at hl 0 rfl) ?_
      refine va_get (D := D) (ci := 2) (v := .ref (q 5)) (C := RX2) (T := TX2) (N := 7) hx hb htA uwX2 hown hKK.1 hP 0 rfl rfl 3 (by decide) (htA _ wd_55) (fun _ h9 => h9) rfl dX2_matching_23 ?_
      refine lv_iload hx hb dX2_matching_26 (lv_at hl 4 rfl) ?_
      refine n_iald (g := σ 5) (cA := cI) (n := 60) (j := i) hx hb hKK.1 hP 4 0 rfl rfl (by omega) (Nat.le_of_ble_eq_true rfl) dX2_matching_28 ?_
      refine lv_iload_n hx hb dX2_matching_29 rfl (lv_at hl 1 rfl) ?_
      refine lv_iload_n hx hb dX2_matching_30 rfl (lv_at hl 2 rfl) ?_
      refine roN1 (v := .int (b2i (mt (σ 4 i) (σ 5 i) any al))) (As := [.int (nI (σ 4 i)), .int (nI (σ 5 i)), .int (nI (any)), .int (nI (al))]) (rest := [.int (nI (i)), .long (ms (fun j => mt (σ 4 j) (σ 5 j) any al) i)]) (n := 4) ⟨hx, hb, hml, hown, htA⟩ (c_matches l D cI cZ sa (σ 4 i) (σ 5 i) any al s.heap ) (cnS 4 htA (gd_c wd_340) rfl rfl rfl (ex_RX2_77 hKK.2) wd_1 wd_339 (by decide +kernel) ⟨Nat.le_of_ble_eq_true rfl, Nat.le_of_ble_eq_true rfl⟩) hKK rfl hl.1 rfl (Nat.le_of_ble_eq_true rfl) dX2_matching_31 (Nat.zero_le _) (Nat.zero_le _) ?_
      refine roN1 (v := .long (wi (ms (fun j => mt (σ 4 j) (σ 5 j) any al) i) (i) (mt (σ 4 i) (σ 5 i) any al))) (As := [.long (ms (fun j => mt (σ 4 j) (σ 5 j) any al) i), .int (nI (i)), .int (b2i (mt (σ 4 i) (σ 5 i) any al))]) (rest := []) (n := 3) ⟨hx, hb, hml, hown, htA⟩ (c_with l D cI cZ sa (ms (fun j => mt (σ 4 j) (σ 5 j) any al) i) (i) (mt (σ 4 i) (σ 5 i) any al) s.heap ) (cnS 3 htA (gd_c wd_315) rfl rfl rfl (ex_RX2_65 hKK.2) wd_1 wd_314 (by decide +kernel) ⟨Nat.le_of_ble_eq_true rfl, Nat.le_of_ble_eq_true rfl⟩) hKK rfl hl.1 rfl (Nat.le_of_ble_eq_true rfl) dX2_matching_34 (Nat.zero_le _) (Nat.zero_le _) ?_
      refine lv_lstore_n (lv' := [(3, .long (wi (ms (fun j => mt (σ 4 j) (σ 5 j) any al) i) (i) (mt (σ 4 i) (σ 5 i) any al))), (0, .ref (q 1)), (1, .int (nI (any))), (2, .int (nI (al))), (5, .int (nI (i)))]) hx hb dX2_matching_37 rfl hl (by decide) rfl (fun ls hl => ?_)
      refine lv_iinc (v := nI (i + 1)) (lv' := [(5, .int (nI (i + 1))), (3, .long (wi (ms (fun j => mt (σ 4 j) (σ 5 j) any al) i) (i) (mt (σ 4 i) (σ 5 i) any al))), (0, .ref (q 1)), (1, .int (nI (any))), (2, .int (nI (al)))]) hx hb dX2_matching_38 hl (k := 4) rfl (n_inc (i) 1 rfl) (by decide) rfl (fun ls hl => ?_)
      refine lv_goto (tgt := 5) hx hb dX2_matching_41 (by decide) ?_
      exact ih (i + 1) (by omega) ls (lv_sub hl [2, 3, 4, 1, 0] rfl)
  exact loop_5 60 0 rfl ls (lv_sub hl [2, 3, 4, 1, 0] rfl)
