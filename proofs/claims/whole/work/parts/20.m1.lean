set_option maxHeartbeats 4000000 in
set_option maxRecDepth 100000 in
theorem m_in (l : Launch) (D : va_G) (cI cZ : ClassId) (sa : Nat → Nat) (v a b : Int32) (H : Heap)  : Met l yX4_in (codeW yX4_in cX4_in 3 (some .boolean)) ({ frames := 0, cells := 0, slots := 0, locals := 0 } : Room) (RoP D cI cZ sa H [.int (v), .int (a), .int (b)]) (RoQ (some (.int (b2i (iw v a b)))) H) 0 0 RoF := by
  refine Met.ofW (cc := cX4_in) (maxL := 3) (ret := (some .boolean)) (by decide) rfl ?_
  intro p e s m args below meth c s₁ B hml hv
  obtain ⟨rfl, hH, hKK⟩ := hv
  subst hH
  have hx := B.exec
  have hb := B.bytes
  have hr := B.returns
  have htA : ∀ w ∈ WA, w.before _ s = true := fun w h => atoms_spec (ws := (codeW yX4_in cX4_in 3 (some .boolean))) B.pre w (List.mem_cons_of_mem _ h)
  have hown : s.vm.findClass RX4 = some m.cls := findClass_of_methodNamed B.named
  have hlocks := B.notSynchronized
  have hl := lv_entry ([.int (v), .int (a), .int (b)]) (n := 3) (Nat.le_of_ble_eq_true rfl)
  rw [lg_entry_eq]
  generalize (lg_sl ([.int (v), .int (a), .int (b)]) ++ List.replicate (3 - (lg_sl ([.int (v), .int (a), .int (b)])).length) Slot.unset).toArray = ls at hl ⊢
  have hl : lv_has ls 3 [(0, .int (v)), (1, .int (a)), (2, .int (b))] := hl
  refine lv_iload_n hx hb dX4_in_0 rfl (lv_at hl 0 rfl) ?_
  refine lv_iload_n hx hb dX4_in_1 rfl (lv_at hl 1 rfl) ?_
  refine lv_icmp_lt (x := v) (y := a) (tgt := 14) hx hb dX4_in_2 (by decide) (fun c_1 => ?_) (fun c_1 => ?_)
  · refine n_iconst (k := 0) hx hb dX4_in_14 (by decide) ?_
    exact ro_z (v := false) hx hb hr hlocks (by simp [iw, c_1]) dX4_in_15
  · refine lv_iload_n hx hb dX4_in_5 rfl (lv_at hl 0 rfl) ?_
    refine lv_iload_n hx hb dX4_in_6 rfl (lv_at hl 2 rfl) ?_
    refine lv_icmp_gt (x := v) (y := b) (tgt := 14) hx hb dX4_in_7 (by decide) (fun c_2 => ?_) (fun c_2 => ?_)
    · refine n_iconst (k := 0) hx hb dX4_in_14 (by decide) ?_
      exact ro_z (v := false) hx hb hr hlocks (by simp [iw, c_1, c_2]) dX4_in_15
    · refine n_iconst (k := 1) hx hb dX4_in_10 (by decide) ?_
      refine lv_goto (tgt := 15) hx hb dX4_in_11 (by decide) ?_
      exact ro_z (v := true) hx hb hr hlocks (by simp [iw, c_1, c_2]) dX4_in_15
set_option maxHeartbeats 4000000 in
set_option maxRecDepth 100000 in
theorem m_has (l : Launch) (D : va_G) (cI cZ : ClassId) (sa : Nat → Nat) (v i : Nat) (H : Heap)  : Met l yX4_has (codeW yX4_has cX4_has 2 (some .boolean)) ({ frames := 0, cells := 0, slots := 0, locals := 0 } : Room) (RoP D cI cZ sa H [.int (nI (v)), .int (nI (i))]) (RoQ (some (.int (b2i (hs v i)))) H) 0 0 RoF := by
  refine Met.ofW (cc := cX4_has) (maxL := 2) (ret := (some .boolean)) (by decide) rfl ?_
  intro p e s m args below meth c s₁ B hml hv
  obtain ⟨rfl, hH, hKK⟩ := hv
  subst hH
  have hx := B.exec
  have hb := B.bytes
  have hr := B.returns
  have htA : ∀ w ∈ WA, w.before _ s = true := fun w h => atoms_spec (ws := (codeW yX4_has cX4_has 2 (some .boolean))) B.pre w (List.mem_cons_of_mem _ h)
  have hown : s.vm.findClass RX4 = some m.cls := findClass_of_methodNamed B.named
  have hlocks := B.notSynchronized
  have hl := lv_entry ([.int (nI (v)), .int (nI (i))]) (n := 2) (Nat.le_of_ble_eq_true rfl)
  rw [lg_entry_eq]
  generalize (lg_sl ([.int (nI (v)), .int (nI (i))]) ++ List.replicate (2 - (lg_sl ([.int (nI (v)), .int (nI (i))])).length) Slot.unset).toArray = ls at hl ⊢
  have hl : lv_has ls 2 [(0, .int (nI (v))), (1, .int (nI (i)))] := hl
  refine lv_iload_n hx hb dX4_has_0 rfl (lv_at hl 0 rfl) ?_
  refine lv_iload_n hx hb dX4_has_1 rfl (lv_at hl 1 rfl) ?_
  refine lv_ishr hx hb dX4_has_2 ?_
  refine n_iconst (k := 1) hx hb dX4_has_3 (by decide) ?_
  refine lv_iand hx hb dX4_has_4 ?_
  refine n_iconst (k := 1) hx hb dX4_has_5 (by decide) ?_
  refine lv_icmp_ne (x := ((nI (v)) >>> ((nI (i)) &&& 31)) &&& (nI (1))) (y := nI (1)) (tgt := 13) hx hb dX4_has_6 (by decide) (fun c_1 => ?_) (fun c_1 => ?_)
  · refine n_iconst (k := 0) hx hb dX4_has_13 (by decide) ?_
    exact ro_z (v := false) hx hb hr hlocks (by unfold hs; rw [decide_eq_false c_1]) dX4_has_14
  · refine n_iconst (k := 1) hx hb dX4_has_9 (by decide) ?_
    refine lv_goto (tgt := 14) hx hb dX4_has_10 (by decide) ?_
    exact ro_z (v := true) hx hb hr hlocks (by unfold hs; rw [decide_eq_true c_1]) dX4_has_14
set_option maxHeartbeats 4000000 in
set_option maxRecDepth 100000 in
theorem m_isClient (l : Launch) (D : va_G) (cI cZ : ClassId) (sa : Nat → Nat) (v : Int32) (H : Heap)  : Met l yX4_isClient (codeW yX4_isClient cX4_isClient 1 (some .boolean)) ({ frames := 1, cells := 0, slots := 0, locals := 22 } : Room) (RoP D cI cZ sa H [.int (v)]) (RoQ (some (.int (b2i (iw (v) (nI (0)) (nI (1)))))) H) 0 0 RoF := by
  refine Met.ofW (cc := cX4_isClient) (maxL := 1) (ret := (some .boolean)) (by decide) rfl ?_
  intro p e s m args below meth c s₁ B hml hv
  obtain ⟨rfl, hH, hKK⟩ := hv
  subst hH
  have hx := B.exec
  have hb := B.bytes
  have hr := B.returns
  have htA : ∀ w ∈ WA, w.before _ s = true := fun w h => atoms_spec (ws := (codeW yX4_isClient cX4_isClient 1 (some .boolean))) B.pre w (List.mem_cons_of_mem _ h)
  have hown : s.vm.findClass RX4 = some m.cls := findClass_of_methodNamed B.named
  have hlocks := B.notSynchronized
  have hl := lv_entry ([.int (v)]) (n := 1) (Nat.le_of_ble_eq_true rfl)
  rw [lg_entry_eq]
  generalize (lg_sl ([.int (v)]) ++ List.replicate (1 - (lg_sl ([.int (v)])).length) Slot.unset).toArray = ls at hl ⊢
  have hl : lv_has ls 1 [(0, .int (v))] := hl
  refine lv_iload_n hx hb dX4_isClient_0 rfl (lv_at hl 0 rfl) ?_
  refine n_iconst (k := 0) hx hb dX4_isClient_1 (by decide) ?_
  refine n_iconst (k := 1) hx hb dX4_isClient_2 (by decide) ?_
  refine roS1 (v := .int (b2i (iw (v) (nI (0)) (nI (1))))) (As := [.int (v), .int (nI (0)), .int (nI (1))]) (rest := []) (n := 3) ⟨hx, hb, hml, hown, htA⟩ (m_in l D cI cZ sa (v) (nI (0)) (nI (1)) s.heap ) (va_cwS 3 htA (gdS wd_732 wd_733 wd_5 wd_734) rfl rfl rfl (by decide +kernel) ⟨Nat.le_of_ble_eq_true rfl, Nat.le_of_ble_eq_true rfl⟩) hKK rfl hl.1 rfl (Nat.le_of_ble_eq_true rfl) dX4_isClient_3 (Nat.zero_le _) (Nat.zero_le _) ?_
  exact ro_z (v := iw (v) (nI (0)) (nI (1))) hx hb hr hlocks (rfl) dX4_isClient_6
set_option maxHeartbeats 4000000 in
set_option maxRecDepth 100000 in
theorem m_isQuery (l : Launch) (D : va_G) (cI cZ : ClassId) (sa : Nat → Nat) (x y9 : Int32) (H : Heap)  : Met l yX4_isQuery (codeW yX4_isQuery cX4_isQuery 2 (some .boolean)) ({ frames := 1, cells := 0, slots := 0, locals := 22 } : Room) (RoP D cI cZ sa H [.int (x), .int (y9)]) (RoQ (some (.int (b2i (iqm x y9)))) H) 0 0 RoF := by
  refine Met.ofW (cc := cX4_isQuery) (maxL := 2) (ret := (some .boolean)) (by decide) rfl ?_
  intro p e s m args below meth c s₁ B hml hv
  obtain ⟨rfl, hH, hKK⟩ := hv
  subst hH
  have hx := B.exec
  have hb := B.bytes
  have hr := B.returns
  have htA : ∀ w ∈ WA, w.before _ s = true := fun w h => atoms_spec (ws := (codeW yX4_isQuery cX4_isQuery 2 (some .boolean))) B.pre w (List.mem_cons_of_mem _ h)
  have hown : s.vm.findClass RX4 = some m.cls := findClass_of_methodNamed B.named
  have hlocks := B.notSynchronized
  have hl := lv_entry ([.int (x), .int (y9)]) (n := 2) (Nat.le_of_ble_eq_true rfl)
  rw [lg_entry_eq]
  generalize (lg_sl ([.int (x), .int (y9)]) ++ List.replicate (2 - (lg_sl ([.int (x), .int (y9)])).length) Slot.unset).toArray = ls at hl ⊢
  have hl : lv_has ls 2 [(0, .int (x)), (1, .int (y9))] := hl
  refine lv_iload_n hx hb dX4_isQuery_0 rfl (lv_at hl 0 rfl) ?_
  refine n_iconst (k := 0) hx hb dX4_isQuery_1 (by decide) ?_
  refine n_iconst (k := 5) hx hb dX4_isQuery_2 (by decide) ?_
  refine roS1 (v := .int (b2i (iw (x) (nI (0)) (nI (5))))) (As := [.int (x), .int (nI (0)), .int (nI (5))]) (rest := []) (n := 3) ⟨hx, hb, hml, hown, htA⟩ (m_in l D cI cZ sa (x) (nI (0)) (nI (5)) s.heap ) (va_cwS 3 htA (gdS wd_732 wd_733 wd_5 wd_734) rfl rfl rfl (by decide +kernel) ⟨Nat.le_of_ble_eq_true rfl, Nat.le_of_ble_eq_true rfl⟩) hKK rfl hl.1 rfl (Nat.le_of_ble_eq_true rfl) dX4_isQuery_3 (Nat.zero_le _) (Nat.zero_le _) ?_
  refine b_ifeq (b := iw (x) (nI (0)) (nI (5))) (tgt := 22) hx hb dX4_isQuery_6 (by decide) (fun c_1 => ?_) (fun c_1 => ?_)
  · refine n_iconst (k := 0) hx hb dX4_isQuery_22 (by decide) ?_
    exact ro_z (v := false) hx hb hr hlocks (by unfold iqm; rw [c_1]; rfl) dX4_isQuery_23
  · refine lv_iload_n hx hb dX4_isQuery_9 rfl (lv_at hl 1 rfl) ?_
    refine lv_iconst (v := oi 0) hx hb dX4_isQuery_10 (by decide) ?_
    refine n_iconst (k := 3) hx hb dX4_isQuery_11 (by decide) ?_
    refine roS1 (v := .int (b2i (iw (y9) (oi (0)) (nI (3))))) (As := [.int (y9), .int (oi (0)), .int (nI (3))]) (rest := []) (n := 3) ⟨hx, hb, hml, hown, htA⟩ (m_in l D cI cZ sa (y9) (oi (0)) (nI (3)) s.heap ) (va_cwS 3 htA (gdS wd_732 wd_733 wd_5 wd_734) rfl rfl rfl (by decide +kernel) ⟨Nat.le_of_ble_eq_true rfl, Nat.le_of_ble_eq_true rfl⟩) hKK rfl hl.1 rfl (Nat.le_of_ble_eq_true rfl) dX4_isQuery_12 (Nat.zero_le _) (Nat.zero_le _) ?_
    refine b_ifeq (b := iw (y9) (oi (0)) (nI (3))) (tgt := 22) hx hb dX4_isQuery_15 (by decide) (fun c_2 => ?_) (fun c_2 => ?_)
    · refine n_iconst (k := 0) hx hb dX4_isQuery_22 (by decide) ?_
      exact ro_z (v := false) hx hb hr hlocks (by unfold iqm; rw [c_1, c_2]; rfl) dX4_isQuery_23
    · refine n_iconst (k := 1) hx hb dX4_isQuery_18 (by decide) ?_
      refine lv_goto (tgt := 23) hx hb dX4_isQuery_19 (by decide) ?_
      exact ro_z (v := true) hx hb hr hlocks (by unfold iqm; rw [c_1, c_2]; rfl) dX4_isQuery_23
set_option maxHeartbeats 4000000 in
set_option maxRecDepth 100000 in
theorem m_fine (l : Launch) (D : va_G) (cI cZ : ClassId) (sa : Nat → Nat) (q : Nat → Nat) (μ : ST) (A : Nat → Prop) (hD : va_D A (wM q cI cZ μ))  : Met l yX4_isFine (codeW yX4_isFine cX4_isFine 2 (some .boolean)) ({ frames := 0, cells := 0, slots := 0, locals := 0 } : Room) (WrP D cI cZ sa (wM q cI cZ μ) [.ref (q 0), .int (nI (0))]) (WrQ (some (.int (b2i (true)))) D (wM q cI cZ (sv μ 0 2 0)) A) 0 0 A := by
  refine Met.ofW (cc := cX4_isFine) (maxL := 2) (ret := (some .boolean)) (by decide) rfl ?_
  intro p e s m args below meth c s₁ B hml hv
  obtain ⟨rfl, hH, hKK⟩ := hv
  have hx := B.exec
  have hb := B.bytes
  have hr := B.returns
  have htA : ∀ w ∈ WA, w.before _ s = true := fun w h => atoms_spec (ws := (codeW yX4_isFine cX4_isFine 2 (some .boolean))) B.pre w (List.mem_cons_of_mem _ h)
  have hown : s.vm.findClass RX4 = some m.cls := findClass_of_methodNamed B.named
  have hlocks := B.notSynchronized
  have hP := hH
  have hS : va_S A s.heap s.heap [] := va_S.rf
  have hl := lv_entry ([.ref (q 0), .int (nI (0))]) (n := 2) (Nat.le_of_ble_eq_true rfl)
  rw [lg_entry_eq]
  generalize (lg_sl ([.ref (q 0), .int (nI (0))]) ++ List.replicate (2 - (lg_sl ([.ref (q 0), .int (nI (0))])).length) Slot.unset).toArray = ls at hl ⊢
  have hl : lv_has ls 2 [(0, .ref (q 0)), (1, .int (nI (0)))] := hl
  refine lv_aload_n hx hb dX4_isFine_0 rfl (lv_at hl 0 rfl) ?_
  refine lv_iload_n hx hb dX4_isFine_1 rfl (lv_at hl 1 rfl) ?_
  refine va_put (D := D) (ci := 4) (v := .int (nI (0))) (ty := .int) (C := RX4) (T := TX4) (N := 26) hx hb htA uwX4 tyX4 tyX4_ok nmX4 hown hKK.1 hP (D_addr hD rfl) hS 0 rfl rfl 25 (by decide) (htA _ wd_670) (fun _ h9 => h9) rfl (by decide +kernel) rfl rfl (Nat.le_of_ble_eq_true rfl) dX4_isFine_2 (fun H locs hP _ hS => ?_)
  have hP : va_P D vwCl (wM q cI cZ (sv μ 0 2 (0))) H := hP
  refine lv_iload_n hx hb dX4_isFine_5 rfl (lv_at hl 1 rfl) ?_
  refine b_ifne (b := false) (tgt := 13) hx hb dX4_isFine_6 (by decide) (fun c_1 => ?_) (fun c_1 => ?_)
  · exact absurd c_1 (by decide)
  refine n_iconst (k := 1) hx hb dX4_isFine_9 (by decide) ?_
  refine lv_goto (tgt := 14) hx hb dX4_isFine_10 (by decide) ?_
  exact wr_z (v := true) hx hb hr hlocks (rfl) hP hS dX4_isFine_14
set_option maxHeartbeats 4000000 in
set_option maxRecDepth 100000 in
theorem m_unfine (l : Launch) (D : va_G) (cI cZ : ClassId) (sa : Nat → Nat) (q : Nat → Nat) (μ : ST) (pl : Nat) (A : Nat → Prop) (hD : va_D A (wM q cI cZ μ)) (hp0 : pl ≠ 0) (hp3 : pl < 4) : Met l yX4_isFine (codeW yX4_isFine cX4_isFine 2 (some .boolean)) ({ frames := 0, cells := 0, slots := 0, locals := 0 } : Room) (WrP D cI cZ sa (wM q cI cZ μ) [.ref (q 0), .int (nI (pl))]) (WrQ (some (.int (b2i (false)))) D (wM q cI cZ (sv μ 0 2 pl)) A) 0 0 A := by
  refine Met.ofW (cc := cX4_isFine) (maxL := 2) (ret := (some .boolean)) (by decide) rfl ?_
  intro p e s m args below meth c s₁ B hml hv
  obtain ⟨rfl, hH, hKK⟩ := hv
  have hx := B.exec
  have hb := B.bytes
  have hr := B.returns
  have htA : ∀ w ∈ WA, w.before _ s = true := fun w h => atoms_spec (ws := (codeW yX4_isFine cX4_isFine 2 (some .boolean))) B.pre w (List.mem_cons_of_mem _ h)
  have hown : s.vm.findClass RX4 = some m.cls := findClass_of_methodNamed B.named
  have hlocks := B.notSynchronized
  have hP := hH
  have hS : va_S A s.heap s.heap [] := va_S.rf
  have hl := lv_entry ([.ref (q 0), .int (nI (pl))]) (n := 2) (Nat.le_of_ble_eq_true rfl)
  rw [lg_entry_eq]
  generalize (lg_sl ([.ref (q 0), .int (nI (pl))]) ++ List.replicate (2 - (lg_sl ([.ref (q 0), .int (nI (pl))])).length) Slot.unset).toArray = ls at hl ⊢
  have hl : lv_has ls 2 [(0, .ref (q 0)), (1, .int (nI (pl)))] := hl
  refine lv_aload_n hx hb dX4_isFine_0 rfl (lv_at hl 0 rfl) ?_
  refine lv_iload_n hx hb dX4_isFine_1 rfl (lv_at hl 1 rfl) ?_
  refine va_put (D := D) (ci := 4) (v := .int (nI (pl))) (ty := .int) (C := RX4) (T := TX4) (N := 26) hx hb htA uwX4 tyX4 tyX4_ok nmX4 hown hKK.1 hP (D_addr hD rfl) hS 0 rfl rfl 25 (by decide) (htA _ wd_670) (fun _ h9 => h9) rfl (by decide +kernel) rfl rfl (Nat.le_of_ble_eq_true rfl) dX4_isFine_2 (fun H locs hP _ hS => ?_)
  have hP : va_P D vwCl (wM q cI cZ (sv μ 0 2 (pl))) H := hP
  refine lv_iload_n hx hb dX4_isFine_5 rfl (lv_at hl 1 rfl) ?_
  refine n_ifne (x := pl) (tgt := 13) hx hb dX4_isFine_6 (by decide) (by omega) (fun c_1 => ?_) (fun c_1 => ?_)
  rotate_left
  · exfalso; omega
  refine n_iconst (k := 0) hx hb dX4_isFine_13 (by decide) ?_
  exact wr_z (v := false) hx hb hr hlocks (rfl) hP hS dX4_isFine_14
set_option maxHeartbeats 4000000 in
set_option maxRecDepth 100000 in
theorem m_isThere_f (l : Launch) (D : va_G) (cI cZ : ClassId) (sa : Nat → Nat) (q : Nat → Nat) (μ : ST) (x : Int32) (H : Heap) (hP : va_P D vwCl (wM q cI cZ μ) H) (hx9 : iw (x) (nI (0)) (oi (μ 0 0)) = false) : Met l yX4_isThere (codeW yX4_isThere cX4_isThere 2 (some .boolean)) ({ frames := 1, cells := 0, slots := 0, locals := 22 } : Room) (RoP D cI cZ sa H [.ref (q 0), .int (x)]) (RoQ (some (.int (b2i (false)))) H) 0 0 RoF := by
  refine Met.ofW (cc := cX4_isThere) (maxL := 2) (ret := (some .boolean)) (by decide) rfl ?_
  intro p e s m args below meth c s₁ B hml hv
  obtain ⟨rfl, hH, hKK⟩ := hv
  subst hH
  have hx := B.exec
  have hb := B.bytes
  have hr := B.returns
  have htA : ∀ w ∈ WA, w.before _ s = true := fun w h => atoms_spec (ws := (codeW yX4_isThere cX4_isThere 2 (some .boolean))) B.pre w (List.mem_cons_of_mem _ h)
  have hown : s.vm.findClass RX4 = some m.cls := findClass_of_methodNamed B.named
  have hlocks := B.notSynchronized
  have hl := lv_entry ([.ref (q 0), .int (x)]) (n := 2) (Nat.le_of_ble_eq_true rfl)
  rw [lg_entry_eq]
  generalize (lg_sl ([.ref (q 0), .int (x)]) ++ List.replicate (2 - (lg_sl ([.ref (q 0), .int (x)])).length) Slot.unset).toArray = ls at hl ⊢
  have hl : lv_has ls 2 [(0, .ref (q 0)), (1, .int (x))] := hl
  refine lv_iload_n hx hb dX4_isThere_0 rfl (lv_at hl 1 rfl) ?_
  refine n_iconst (k := 0) hx hb dX4_isThere_1 (by decide) ?_
  refine lv_aload_n hx hb dX4_isThere_2 rfl (lv_at hl 0 rfl) ?_
  refine va_get (D := D) (ci := 4) (v := .int (nI (μ 0 0))) (C := RX4) (T := TX4) (N := 26) hx hb htA uwX4 hown hKK.1 hP 0 rfl rfl 6 (by decide) (htA _ wd_651) (fun _ h9 => h9) rfl dX4_isThere_3 ?_
  refine n_iconst (k := 1) hx hb dX4_isThere_6 (by decide) ?_
  refine n_ipred hx hb dX4_isThere_7 ?_
  refine roS1 (v := .int (b2i (iw (x) (nI (0)) (oi (μ 0 0))))) (As := [.int (x), .int (nI (0)), .int (oi (μ 0 0))]) (rest := []) (n := 3) ⟨hx, hb, hml, hown, htA⟩ (m_in l D cI cZ sa (x) (nI (0)) (oi (μ 0 0)) s.heap ) (va_cwS 3 htA (gdS wd_732 wd_733 wd_5 wd_734) rfl rfl rfl (by decide +kernel) ⟨Nat.le_of_ble_eq_true rfl, Nat.le_of_ble_eq_true rfl⟩) hKK rfl hl.1 rfl (Nat.le_of_ble_eq_true rfl) dX4_isThere_8 (Nat.zero_le _) (Nat.zero_le _) ?_
  refine b_ifeq (b := iw (x) (nI (0)) (oi (μ 0 0))) (tgt := 27) hx hb dX4_isThere_11 (by decide) (fun c_1 => ?_) (fun c_1 => ?_)
  rotate_left
  · exact absurd (c_1.symm.trans hx9) (by decide)
  refine n_iconst (k := 0) hx hb dX4_isThere_27 (by decide) ?_
  exact ro_z (v := false) hx hb hr hlocks (rfl) dX4_isThere_28
set_option maxHeartbeats 4000000 in
set_option maxRecDepth 100000 in
theorem m_isThere_t (l : Launch) (D : va_G) (cI cZ : ClassId) (sa : Nat → Nat) (q : Nat → Nat) (μ : ST) (j : Nat) (H : Heap) (hP : va_P D vwCl (wM q cI cZ μ) H) (hB : ∀ k i, μ k i < 1073741824) (hm0 : μ 0 0 ≤ 60) (hj : j < μ 0 0) : Met l yX4_isThere (codeW yX4_isThere cX4_isThere 2 (some .boolean)) ({ frames := 1, cells := 0, slots := 0, locals := 22 } : Room) (RoP D cI cZ sa H [.ref (q 0), .int (nI (j))]) (RoQ (some (.int (b2i (decide (μ 6 j = 0))))) H) 0 0 RoF := by
  refine Met.ofW (cc := cX4_isThere) (maxL := 2) (ret := (some .boolean)) (by decide) rfl ?_
  intro p e s m args below meth c s₁ B hml hv
  obtain ⟨rfl, hH, hKK⟩ := hv
  subst hH
  have hx := B.exec
  have hb := B.bytes
  have hr := B.returns
  have htA : ∀ w ∈ WA, w.before _ s = true := fun w h => atoms_spec (ws := (codeW yX4_isThere cX4_isThere 2 (some .boolean))) B.pre w (List.mem_cons_of_mem _ h)
  have hown : s.vm.findClass RX4 = some m.cls := findClass_of_methodNamed B.named
  have hlocks := B.notSynchronized
  have hl := lv_entry ([.ref (q 0), .int (nI (j))]) (n := 2) (Nat.le_of_ble_eq_true rfl)
  rw [lg_entry_eq]
  generalize (lg_sl ([.ref (q 0), .int (nI (j))]) ++ List.replicate (2 - (lg_sl ([.ref (q 0), .int (nI (j))])).length) Slot.unset).toArray = ls at hl ⊢
  have hl : lv_has ls 2 [(0, .ref (q 0)), (1, .int (nI (j)))] := hl
  refine lv_iload_n hx hb dX4_isThere_0 rfl (lv_at hl 1 rfl) ?_
  refine n_iconst (k := 0) hx hb dX4_isThere_1 (by decide) ?_
  refine lv_aload_n hx hb dX4_isThere_2 rfl (lv_at hl 0 rfl) ?_
  refine va_get (D := D) (ci := 4) (v := .int (nI (μ 0 0))) (C := RX4) (T := TX4) (N := 26) hx hb htA uwX4 hown hKK.1 hP 0 rfl rfl 6 (by decide) (htA _ wd_651) (fun _ h9 => h9) rfl dX4_isThere_3 ?_
  refine n_iconst (k := 1) hx hb dX4_isThere_6 (by decide) ?_
  refine n_ipred hx hb dX4_isThere_7 ?_
  refine roS1 (v := .int (b2i (iw (nI (j)) (nI (0)) (oi (μ 0 0))))) (As := [.int (nI (j)), .int (nI (0)), .int (oi (μ 0 0))]) (rest := []) (n := 3) ⟨hx, hb, hml, hown, htA⟩ (m_in l D cI cZ sa (nI (j)) (nI (0)) (oi (μ 0 0)) s.heap ) (va_cwS 3 htA (gdS wd_732 wd_733 wd_5 wd_734) rfl rfl rfl (by decide +kernel) ⟨Nat.le_of_ble_eq_true rfl, Nat.le_of_ble_eq_true rfl⟩) hKK rfl hl.1 rfl (Nat.le_of_ble_eq_true rfl) dX4_isThere_8 (Nat.zero_le _) (Nat.zero_le _) ?_
  refine b_ifeq (b := iw (nI (j)) (nI (0)) (oi (μ 0 0))) (tgt := 27) hx hb dX4_isThere_11 (by decide) (fun c_1 => ?_) (fun c_1 => ?_)
  · exact absurd (c_1.symm.trans (iw_k hj (by omega))) (by decide)
  refine lv_aload_n hx hb dX4_isThere_14 rfl (lv_at hl 0 rfl) ?_
  refine va_get (D := D) (ci := 4) (v := .ref (q 6)) (C := RX4) (T := TX4) (N := 26) hx hb htA uwX4 hown hKK.1 hP 0 rfl rfl 5 (by decide) (htA _ wd_650) (fun _ h9 => h9) rfl dX4_isThere_15 ?_
  refine lv_iload_n hx hb dX4_isThere_18 rfl (lv_at hl 1 rfl) ?_
  refine n_iald (g := μ 6) (cA := cI) (n := 60) (j := j) hx hb hKK.1 hP 6 0 rfl rfl (by omega) (Nat.le_of_ble_eq_true rfl) dX4_isThere_19 ?_
  refine n_ifne (x := μ 6 j) (tgt := 27) hx hb dX4_isThere_20 (by decide) (Nat.lt_trans (hB 6 j) (by decide)) (fun c_2 => ?_) (fun c_2 => ?_)
  · refine n_iconst (k := 0) hx hb dX4_isThere_27 (by decide) ?_
    exact ro_z (v := false) hx hb hr hlocks (by simp [c_2]) dX4_isThere_28
  · refine n_iconst (k := 1) hx hb dX4_isThere_23 (by decide) ?_
    refine lv_goto (tgt := 28) hx hb dX4_isThere_24 (by decide) ?_
    exact ro_z (v := true) hx hb hr hlocks (by simp [c_2]) dX4_isThere_28
set_option maxHeartbeats 4000000 in
set_option maxRecDepth 100000 in
theorem m_wasThere (l : Launch) (D : va_G) (cI cZ : ClassId) (sa : Nat → Nat) (q : Nat → Nat) (μ : ST) (mm t : Nat) (H : Heap) (hP : va_P D vwCl (wM q cI cZ μ) H) (hB : ∀ k i, μ k i < 1073741824) (hm0 : μ 0 0 ≤ 60) (hm : mm < 60) (ht : t < 2 ^ 31) : Met l yX4_wasThere (codeW yX4_wasThere cX4_wasThere 3 (some .boolean)) ({ frames := 0, cells := 0, slots := 0, locals := 0 } : Room) (RoP D cI cZ sa H [.ref (q 0), .int (nI (mm)), .int (nI (t))]) (RoQ (some (.int (b2i (wth μ mm t)))) H) 0 0 RoF := by
  refine Met.ofW (cc := cX4_wasThere) (maxL := 3) (ret := (some .boolean)) (by decide) rfl ?_
  intro p e s m args below meth c s₁ B hml hv
  obtain ⟨rfl, hH, hKK⟩ := hv
  subst hH
  have hx := B.exec
  have hb := B.bytes
  have hr := B.returns
  have htA : ∀ w ∈ WA, w.before _ s = true := fun w h => atoms_spec (ws := (codeW yX4_wasThere cX4_wasThere 3 (some .boolean))) B.pre w (List.mem_cons_of_mem _ h)
  have hown : s.vm.findClass RX4 = some m.cls := findClass_of_methodNamed B.named
  have hlocks := B.notSynchronized
  have hl := lv_entry ([.ref (q 0), .int (nI (mm)), .int (nI (t))]) (n := 3) (Nat.le_of_ble_eq_true rfl)
  rw [lg_entry_eq]
  generalize (lg_sl ([.ref (q 0), .int (nI (mm)), .int (nI (t))]) ++ List.replicate (3 - (lg_sl ([.ref (q 0), .int (nI (mm)), .int (nI (t))])).length) Slot.unset).toArray = ls at hl ⊢
  have hl : lv_has ls 3 [(0, .ref (q 0)), (1, .int (nI (mm))), (2, .int (nI (t)))] := hl
  refine lv_aload_n hx hb dX4_wasThere_0 rfl (lv_at hl 0 rfl) ?_
  refine va_get (D := D) (ci := 4) (v := .ref (q 5)) (C := RX4) (T := TX4) (N := 26) hx hb htA uwX4 hown hKK.1 hP 0 rfl rfl 4 (by decide) (htA _ wd_649) (fun _ h9 => h9) rfl dX4_wasThere_1 ?_
  refine lv_iload_n hx hb dX4_wasThere_4 rfl (lv_at hl 1 rfl) ?_
  refine n_iald (g := μ 5) (cA := cI) (n := 60) (j := mm) hx hb hKK.1 hP 5 0 rfl rfl (by omega) (Nat.le_of_ble_eq_true rfl) dX4_wasThere_5 ?_
  refine lv_iload_n hx hb dX4_wasThere_6 rfl (lv_at hl 2 rfl) ?_
  refine n_icmp_gt (x := μ 5 mm) (y := t) (tgt := 33) hx hb dX4_wasThere_7 (by decide) (Nat.lt_trans (hB 5 mm) (by decide)) ht (fun c_1 => ?_) (fun c_1 => ?_)
  · refine n_iconst (k := 0) hx hb dX4_wasThere_33 (by decide) ?_
    exact ro_z (v := false) hx hb hr hlocks (by simp [wth, c_1]) dX4_wasThere_34
  · refine lv_aload_n hx hb dX4_wasThere_10 rfl (lv_at hl 0 rfl) ?_
    refine va_get (D := D) (ci := 4) (v := .ref (q 6)) (C := RX4) (T := TX4) (N := 26) hx hb htA uwX4 hown hKK.1 hP 0 rfl rfl 5 (by decide) (htA _ wd_650) (fun _ h9 => h9) rfl dX4_wasThere_11 ?_
    refine lv_iload_n hx hb dX4_wasThere_14 rfl (lv_at hl 1 rfl) ?_
    refine n_iald (g := μ 6) (cA := cI) (n := 60) (j := mm) hx hb hKK.1 hP 6 0 rfl rfl (by omega) (Nat.le_of_ble_eq_true rfl) dX4_wasThere_15 ?_
    refine n_ifeq (x := μ 6 mm) (tgt := 29) hx hb dX4_wasThere_16 (by decide) (Nat.lt_trans (hB 6 mm) (by decide)) (fun c_2 => ?_) (fun c_2 => ?_)
    · refine n_iconst (k := 1) hx hb dX4_wasThere_29 (by decide) ?_
      refine lv_goto (tgt := 34) hx hb dX4_wasThere_30 (by decide) ?_
      exact ro_z (v := true) hx hb hr hlocks (by simp [wth, c_1, c_2]) dX4_wasThere_34
    · refine lv_aload_n hx hb dX4_wasThere_19 rfl (lv_at hl 0 rfl) ?_
      refine va_get (D := D) (ci := 4) (v := .ref (q 6)) (C := RX4) (T := TX4) (N := 26) hx hb htA uwX4 hown hKK.1 hP 0 rfl rfl 5 (by decide) (htA _ wd_650) (fun _ h9 => h9) rfl dX4_wasThere_20 ?_
      refine lv_iload_n hx hb dX4_wasThere_23 rfl (lv_at hl 1 rfl) ?_
      refine n_iald (g := μ 6) (cA := cI) (n := 60) (j := mm) hx hb hKK.1 hP 6 0 rfl rfl (by omega) (Nat.le_of_ble_eq_true rfl) dX4_wasThere_24 ?_
      refine lv_iload_n hx hb dX4_wasThere_25 rfl (lv_at hl 2 rfl) ?_
      refine n_icmp_le (x := μ 6 mm) (y := t) (tgt := 33) hx hb dX4_wasThere_26 (by decide) (Nat.lt_trans (hB 6 mm) (by decide)) ht (fun c_3 => ?_) (fun c_3 => ?_)
      · refine n_iconst (k := 0) hx hb dX4_wasThere_33 (by decide) ?_
        exact ro_z (v := false) hx hb hr hlocks (by simp [wth, c_1, c_2, c_3]) dX4_wasThere_34
      · refine n_iconst (k := 1) hx hb dX4_wasThere_29 (by decide) ?_
        refine lv_goto (tgt := 34) hx hb dX4_wasThere_30 (by decide) ?_
        exact ro_z (v := true) hx hb hr hlocks (by simp [wth, c_1, c_2, c_3]) dX4_wasThere_34
set_option maxHeartbeats 4000000 in
set_option maxRecDepth 100000 in
theorem m_notes (l : Launch) (D : va_G) (cI cZ : ClassId) (sa : Nat → Nat) (q : Nat → Nat) (μ : ST) (its mm wd w0 : Nat) (A : Nat → Prop) (hD : va_D A (wM q cI cZ μ)) (hB : ∀ k i, μ k i < 1073741824) (hm0 : μ 0 0 ≤ 60) (hs9 : μ 0 1 < 2048) (hm : mm < 60) (hw : w0 < 2) : Met l yX4_notes (codeW yX4_notes cX4_notes 5 none) ({ frames := 0, cells := 0, slots := 0, locals := 0 } : Room) (WrP D cI cZ sa (wM q cI cZ μ) [.ref (q 0), .int (nI (its)), .int (nI (mm)), .int (oi (wd)), .int (nI (w0))]) (WrQ none D (wM q cI cZ (nts μ its mm wd w0)) A) 0 0 A := by
  refine Met.ofW (cc := cX4_notes) (maxL := 5) (ret := none) (by decide) rfl ?_
  intro p e s m args below meth c s₁ B hml hv
  obtain ⟨rfl, hH, hKK⟩ := hv
  have hx := B.exec
  have hb := B.bytes
  have hr := B.returns
  have htA : ∀ w ∈ WA, w.before _ s = true := fun w h => atoms_spec (ws := (codeW yX4_notes cX4_notes 5 none)) B.pre w (List.mem_cons_of_mem _ h)
  have hown : s.vm.findClass RX4 = some m.cls := findClass_of_methodNamed B.named
  have hlocks := B.notSynchronized
  have hP := hH
  have hS : va_S A s.heap s.heap [] := va_S.rf
  have hl := lv_entry ([.ref (q 0), .int (nI (its)), .int (nI (mm)), .int (oi (wd)), .int (nI (w0))]) (n := 5) (Nat.le_of_ble_eq_true rfl)
  rw [lg_entry_eq]
  generalize (lg_sl ([.ref (q 0), .int (nI (its)), .int (nI (mm)), .int (oi (wd)), .int (nI (w0))]) ++ List.replicate (5 - (lg_sl ([.ref (q 0), .int (nI (its)), .int (nI (mm)), .int (oi (wd)), .int (nI (w0))])).length) Slot.unset).toArray = ls at hl ⊢
  have hl : lv_has ls 5 [(0, .ref (q 0)), (1, .int (nI (its))), (2, .int (nI (mm))), (3, .int (oi (wd))), (4, .int (nI (w0)))] := hl
  refine lv_aload_n hx hb dX4_notes_0 rfl (lv_at hl 0 rfl) ?_
  refine va_get (D := D) (ci := 4) (v := .ref (q 7)) (C := RX4) (T := TX4) (N := 26) hx hb htA uwX4 hown hKK.1 hP 0 rfl rfl 7 (by decide) (htA _ wd_652) (fun _ h9 => h9) rfl dX4_notes_1 ?_
  refine lv_aload_n hx hb dX4_notes_4 rfl (lv_at hl 0 rfl) ?_
  refine va_get (D := D) (ci := 4) (v := .int (nI (μ 0 1))) (C := RX4) (T := TX4) (N := 26) hx hb htA uwX4 hown hKK.1 hP 0 rfl rfl 13 (by decide) (htA _ wd_658) (fun _ h9 => h9) rfl dX4_notes_5 ?_
  refine lv_iload_n hx hb dX4_notes_8 rfl (lv_at hl 1 rfl) ?_
  refine n_iast (g := μ 7) (cA := cI) (n := 2048) (j := μ 0 1) (v := its) hx hb hKK.1 hP (D_addr hD rfl) hS 7 0 rfl rfl (by omega) (Nat.le_of_ble_eq_true rfl) dX4_notes_9 (fun H locs hP hS => ?_)
  have hP : va_P D vwCl (wM q cI cZ (su μ 7 (upN (μ 7) (μ 0 1) (its)))) H := hP
  refine lv_aload_n hx hb dX4_notes_10 rfl (lv_at hl 0 rfl) ?_
  refine va_get (D := D) (ci := 4) (v := .ref (q 8)) (C := RX4) (T := TX4) (N := 26) hx hb htA uwX4 hown hKK.1 hP 0 rfl rfl 8 (by decide) (htA _ wd_653) (fun _ h9 => h9) rfl dX4_notes_11 ?_
  refine lv_aload_n hx hb dX4_notes_14 rfl (lv_at hl 0 rfl) ?_
  refine va_get (D := D) (ci := 4) (v := .int (nI (μ 0 1))) (C := RX4) (T := TX4) (N := 26) hx hb htA uwX4 hown hKK.1 hP 0 rfl rfl 13 (by decide) (htA _ wd_658) (fun _ h9 => h9) rfl dX4_notes_15 ?_
  refine lv_iload_n hx hb dX4_notes_18 rfl (lv_at hl 2 rfl) ?_
  refine n_iast (g := μ 8) (cA := cI) (n := 2048) (j := μ 0 1) (v := mm) hx hb hKK.1 hP (D_addr hD rfl) hS 8 0 rfl rfl (by omega) (Nat.le_of_ble_eq_true rfl) dX4_notes_19 (fun H locs hP hS => ?_)
  have hP : va_P D vwCl (wM q cI cZ (su (su μ 7 (upN (μ 7) (μ 0 1) (its))) 8 (upN (μ 8) (μ 0 1) (mm)))) H := hP
  refine lv_aload_n hx hb dX4_notes_20 rfl (lv_at hl 0 rfl) ?_
  refine va_get (D := D) (ci := 4) (v := .ref (q 9)) (C := RX4) (T := TX4) (N := 26) hx hb htA uwX4 hown hKK.1 hP 0 rfl rfl 9 (by decide) (htA _ wd_654) (fun _ h9 => h9) rfl dX4_notes_21 ?_
  refine lv_aload_n hx hb dX4_notes_24 rfl (lv_at hl 0 rfl) ?_
  refine va_get (D := D) (ci := 4) (v := .int (nI (μ 0 1))) (C := RX4) (T := TX4) (N := 26) hx hb htA uwX4 hown hKK.1 hP 0 rfl rfl 13 (by decide) (htA _ wd_658) (fun _ h9 => h9) rfl dX4_notes_25 ?_
  refine lv_aload_n hx hb dX4_notes_28 rfl (lv_at hl 0 rfl) ?_
  refine va_get (D := D) (ci := 4) (v := .ref (q 2)) (C := RX4) (T := TX4) (N := 26) hx hb htA uwX4 hown hKK.1 hP 0 rfl rfl 1 (by decide) (htA _ wd_646) (fun _ h9 => h9) rfl dX4_notes_29 ?_
  refine lv_iload_n hx hb dX4_notes_32 rfl (lv_at hl 2 rfl) ?_
  refine n_iald (g := μ 2) (cA := cI) (n := 60) (j := mm) hx hb hKK.1 hP 2 0 rfl rfl (by omega) (Nat.le_of_ble_eq_true rfl) dX4_notes_33 ?_
  refine n_iast (g := μ 9) (cA := cI) (n := 2048) (j := μ 0 1) (v := μ 2 mm) hx hb hKK.1 hP (D_addr hD rfl) hS 9 0 rfl rfl (by omega) (Nat.le_of_ble_eq_true rfl) dX4_notes_34 (fun H locs hP hS => ?_)
  have hP : va_P D vwCl (wM q cI cZ (su (su (su μ 7 (upN (μ 7) (μ 0 1) (its))) 8 (upN (μ 8) (μ 0 1) (mm))) 9 (upN (μ 9) (μ 0 1) (μ 2 mm)))) H := hP
  refine lv_aload_n hx hb dX4_notes_35 rfl (lv_at hl 0 rfl) ?_
  refine va_get (D := D) (ci := 4) (v := .ref (q 10)) (C := RX4) (T := TX4) (N := 26) hx hb htA uwX4 hown hKK.1 hP 0 rfl rfl 10 (by decide) (htA _ wd_655) (fun _ h9 => h9) rfl dX4_notes_36 ?_
  refine lv_aload_n hx hb dX4_notes_39 rfl (lv_at hl 0 rfl) ?_
  refine va_get (D := D) (ci := 4) (v := .int (nI (μ 0 1))) (C := RX4) (T := TX4) (N := 26) hx hb htA uwX4 hown hKK.1 hP 0 rfl rfl 13 (by decide) (htA _ wd_658) (fun _ h9 => h9) rfl dX4_notes_40 ?_
  refine lv_aload_n hx hb dX4_notes_43 rfl (lv_at hl 0 rfl) ?_
  refine va_get (D := D) (ci := 4) (v := .ref (q 3)) (C := RX4) (T := TX4) (N := 26) hx hb htA uwX4 hown hKK.1 hP 0 rfl rfl 2 (by decide) (htA _ wd_647) (fun _ h9 => h9) rfl dX4_notes_44 ?_
  refine lv_iload_n hx hb dX4_notes_47 rfl (lv_at hl 2 rfl) ?_
  refine n_iald (g := μ 3) (cA := cI) (n := 60) (j := mm) hx hb hKK.1 hP 3 0 rfl rfl (by omega) (Nat.le_of_ble_eq_true rfl) dX4_notes_48 ?_
  refine n_iast (g := μ 10) (cA := cI) (n := 2048) (j := μ 0 1) (v := μ 3 mm) hx hb hKK.1 hP (D_addr hD rfl) hS 10 0 rfl rfl (by omega) (Nat.le_of_ble_eq_true rfl) dX4_notes_49 (fun H locs hP hS => ?_)
  have hP : va_P D vwCl (wM q cI cZ (su (su (su (su μ 7 (upN (μ 7) (μ 0 1) (its))) 8 (upN (μ 8) (μ 0 1) (mm))) 9 (upN (μ 9) (μ 0 1) (μ 2 mm))) 10 (upN (μ 10) (μ 0 1) (μ 3 mm)))) H := hP
  refine lv_aload_n hx hb dX4_notes_50 rfl (lv_at hl 0 rfl) ?_
  refine va_get (D := D) (ci := 4) (v := .ref (q 11)) (C := RX4) (T := TX4) (N := 26) hx hb htA uwX4 hown hKK.1 hP 0 rfl rfl 11 (by decide) (htA _ wd_656) (fun _ h9 => h9) rfl dX4_notes_51 ?_
  refine lv_aload_n hx hb dX4_notes_54 rfl (lv_at hl 0 rfl) ?_
  refine va_get (D := D) (ci := 4) (v := .int (nI (μ 0 1))) (C := RX4) (T := TX4) (N := 26) hx hb htA uwX4 hown hKK.1 hP 0 rfl rfl 13 (by decide) (htA _ wd_658) (fun _ h9 => h9) rfl dX4_notes_55 ?_
  refine lv_iload_n hx hb dX4_notes_58 rfl (lv_at hl 3 rfl) ?_
  refine n_kast (g := μ 11) (cA := cI) (n := 2048) (j := μ 0 1) (v := wd) hx hb hKK.1 hP (D_addr hD rfl) hS 11 0 rfl rfl (by omega) (Nat.le_of_ble_eq_true rfl) dX4_notes_59 (fun H locs hP hS => ?_)
  have hP : va_P D vwCl (wM q cI cZ (su (su (su (su (su μ 7 (upN (μ 7) (μ 0 1) (its))) 8 (upN (μ 8) (μ 0 1) (mm))) 9 (upN (μ 9) (μ 0 1) (μ 2 mm))) 10 (upN (μ 10) (μ 0 1) (μ 3 mm))) 11 (upN (μ 11) (μ 0 1) (wd)))) H := hP
  refine lv_aload_n hx hb dX4_notes_60 rfl (lv_at hl 0 rfl) ?_
  refine va_get (D := D) (ci := 4) (v := .ref (q 12)) (C := RX4) (T := TX4) (N := 26) hx hb htA uwX4 hown hKK.1 hP 0 rfl rfl 12 (by decide) (htA _ wd_657) (fun _ h9 => h9) rfl dX4_notes_61 ?_
  refine lv_aload_n hx hb dX4_notes_64 rfl (lv_at hl 0 rfl) ?_
  refine va_get (D := D) (ci := 4) (v := .int (nI (μ 0 1))) (C := RX4) (T := TX4) (N := 26) hx hb htA uwX4 hown hKK.1 hP 0 rfl rfl 13 (by decide) (htA _ wd_658) (fun _ h9 => h9) rfl dX4_notes_65 ?_
  refine lv_iload hx hb dX4_notes_68 (lv_at hl 4 rfl) ?_
  refine n_zast (g := μ 12) (cA := cZ) (n := 2048) (j := μ 0 1) (v := w0) hx hb hKK.1 hP (D_addr hD rfl) hS 12 1 rfl rfl (by omega) (by omega) (Nat.le_of_ble_eq_true rfl) dX4_notes_70 (fun H locs hP hS => ?_)
  have hP : va_P D vwCl (wM q cI cZ (su (su (su (su (su (su μ 7 (upN (μ 7) (μ 0 1) (its))) 8 (upN (μ 8) (μ 0 1) (mm))) 9 (upN (μ 9) (μ 0 1) (μ 2 mm))) 10 (upN (μ 10) (μ 0 1) (μ 3 mm))) 11 (upN (μ 11) (μ 0 1) (wd))) 12 (upN (μ 12) (μ 0 1) (w0)))) H := hP
  refine lv_aload_n hx hb dX4_notes_71 rfl (lv_at hl 0 rfl) ?_
  refine lv_dup hx hb dX4_notes_72 rfl ?_
  refine va_get (D := D) (ci := 4) (v := .int (nI (μ 0 1))) (C := RX4) (T := TX4) (N := 26) hx hb htA uwX4 hown hKK.1 hP 0 rfl rfl 13 (by decide) (htA _ wd_658) (fun _ h9 => h9) rfl dX4_notes_73 ?_
  refine n_iconst (k := 1) hx hb dX4_notes_76 (by decide) ?_
  refine n_iadd hx hb dX4_notes_77 ?_
  refine va_put (D := D) (ci := 4) (v := .int (nI ((μ 0 1) + 1))) (ty := .int) (C := RX4) (T := TX4) (N := 26) hx hb htA uwX4 tyX4 tyX4_ok nmX4 hown hKK.1 hP (D_addr hD rfl) hS 0 rfl rfl 13 (by decide) (htA _ wd_658) (fun _ h9 => h9) rfl (by decide +kernel) rfl rfl (Nat.le_of_ble_eq_true rfl) dX4_notes_78 (fun H locs hP _ hS => ?_)
  have hP : va_P D vwCl (wM q cI cZ (sv (su (su (su (su (su (su μ 7 (upN (μ 7) (μ 0 1) (its))) 8 (upN (μ 8) (μ 0 1) (mm))) 9 (upN (μ 9) (μ 0 1) (μ 2 mm))) 10 (upN (μ 10) (μ 0 1) (μ 3 mm))) 11 (upN (μ 11) (μ 0 1) (wd))) 12 (upN (μ 12) (μ 0 1) (w0))) 0 1 ((μ 0 1) + 1))) H := hP
  exact wr_v hx hb hr hlocks hP hS dX4_notes_81
set_option maxHeartbeats 4000000 in
set_option maxRecDepth 100000 in
theorem m_flags_d (l : Launch) (D : va_G) (cI cZ : ClassId) (sa : Nat → Nat) (q : Nat → Nat) (μ : ST) (mm k9 w0 : Nat) (A : Nat → Prop) (hD : va_D A (wM q cI cZ μ)) (hB : ∀ k i, μ k i < 1073741824) (hm0 : μ 0 0 ≤ 60) (hs9 : μ 0 1 < 2048) (hm : mm < 60) (hw : w0 < 2) (hk : k9 < 31) (he : hs (μ 3 mm) k9 ≠ nb w0) : Met l yX4_flags (codeW yX4_flags cX4_flags 4 (some .boolean)) ({ frames := 1, cells := 0, slots := 0, locals := 24 } : Room) (WrP D cI cZ sa (wM q cI cZ μ) [.ref (q 0), .int (nI (mm)), .int (nI (k9)), .int (nI (w0))]) (WrQ (some (.int (b2i (true)))) D (wM q cI cZ (fls μ mm k9 w0)) A) 0 0 A := by
  refine Met.ofW (cc := cX4_flags) (maxL := 4) (ret := (some .boolean)) (by decide) rfl ?_
  intro p e s m args below meth c s₁ B hml hv
  obtain ⟨rfl, hH, hKK⟩ := hv
  have hx := B.exec
  have hb := B.bytes
  have hr := B.returns
  have htA : ∀ w ∈ WA, w.before _ s = true := fun w h => atoms_spec (ws := (codeW yX4_flags cX4_flags 4 (some .boolean))) B.pre w (List.mem_cons_of_mem _ h)
  have hown : s.vm.findClass RX4 = some m.cls := findClass_of_methodNamed B.named
  have hlocks := B.notSynchronized
  have hP := hH
  have hS : va_S A s.heap s.heap [] := va_S.rf
  have hl := lv_entry ([.ref (q 0), .int (nI (mm)), .int (nI (k9)), .int (nI (w0))]) (n := 4) (Nat.le_of_ble_eq_true rfl)
  rw [lg_entry_eq]
  generalize (lg_sl ([.ref (q 0), .int (nI (mm)), .int (nI (k9)), .int (nI (w0))]) ++ List.replicate (4 - (lg_sl ([.ref (q 0), .int (nI (mm)), .int (nI (k9)), .int (nI (w0))])).length) Slot.unset).toArray = ls at hl ⊢
  have hl : lv_has ls 4 [(0, .ref (q 0)), (1, .int (nI (mm))), (2, .int (nI (k9))), (3, .int (nI (w0)))] := hl
  refine lv_aload_n hx hb dX4_flags_0 rfl (lv_at hl 0 rfl) ?_
  refine va_get (D := D) (ci := 4) (v := .ref (q 3)) (C := RX4) (T := TX4) (N := 26) hx hb htA uwX4 hown hKK.1 hP 0 rfl rfl 2 (by decide) (htA _ wd_647) (fun _ h9 => h9) rfl dX4_flags_1 ?_
  refine lv_iload_n hx hb dX4_flags_4 rfl (lv_at hl 1 rfl) ?_
  refine n_iald (g := μ 3) (cA := cI) (n := 60) (j := mm) hx hb hKK.1 hP 3 0 rfl rfl (by omega) (Nat.le_of_ble_eq_true rfl) dX4_flags_5 ?_
  refine lv_iload_n hx hb dX4_flags_6 rfl (lv_at hl 2 rfl) ?_
  refine roS1 (v := .int (b2i (hs (μ 3 mm) k9))) (As := [.int (nI (μ 3 mm)), .int (nI (k9))]) (rest := []) (n := 2) ⟨hx, hb, hml, hown, htA⟩ (m_has l D cI cZ sa (μ 3 mm) k9 s.heap ) (va_cwS 2 htA (gdS wd_759 wd_760 wd_5 wd_761) rfl rfl rfl (by decide +kernel) ⟨Nat.le_of_ble_eq_true rfl, Nat.le_of_ble_eq_true rfl⟩) hKK rfl hl.1 rfl (Nat.le_of_ble_eq_true rfl) dX4_flags_7 (Nat.zero_le _) (Nat.zero_le _) ?_
  refine lv_iload_n hx hb dX4_flags_10 rfl (lv_at hl 3 rfl) ?_
  refine bn_icmp_ne (b := hs (μ 3 mm) k9) (w := w0) (tgt := 16) hx hb hw dX4_flags_11 (by decide) (fun c_1 => ?_) (fun c_1 => ?_)
  rotate_left
  · exact absurd c_1 he
  refine lv_aload_n hx hb dX4_flags_16 rfl (lv_at hl 0 rfl) ?_
  refine n_iconst (k := 2) hx hb dX4_flags_17 (by decide) ?_
  refine lv_iload_n hx hb dX4_flags_18 rfl (lv_at hl 1 rfl) ?_
  refine lv_iload_n hx hb dX4_flags_19 rfl (lv_at hl 2 rfl) ?_
  refine lv_iload_n hx hb dX4_flags_20 rfl (lv_at hl 3 rfl) ?_
  refine wrV0 (As := [.int (nI (2)), .int (nI (mm)), .int (oi (k9 + 1)), .int (nI (w0))]) (rest := []) (n := 4) ⟨hx, hb, hml, hown, htA⟩ (m_notes l D cI cZ sa q μ 2 mm (k9 + 1) w0 A (D_addr hD rfl) hB hm0 hs9 hm hw) (cwV 4 htA (gdV wd_739 wd_741 wp_10 wd_5 wd_742) rfl rfl rfl (by decide +kernel) ⟨Nat.le_of_ble_eq_true rfl, Nat.le_of_ble_eq_true rfl⟩) hKK hP 0 rfl rfl rfl hl.1 rfl (Nat.le_of_ble_eq_true rfl) dX4_flags_21 (Nat.zero_le _) (Nat.zero_le _) hS (fun _ h => h) (fun H1 locs hP1 hz1 hk1 hS => ?_)
  have hP : va_P D vwCl (wM q cI cZ (nts μ 2 mm (k9 + 1) w0)) H1 := hP1
  generalize H1 = H at hP hS ⊢
  refine lv_aload_n hx hb dX4_flags_24 rfl (lv_at hl 0 rfl) ?_
  refine va_get (D := D) (ci := 4) (v := .ref (q 3)) (C := RX4) (T := TX4) (N := 26) hx hb htA uwX4 hown hKK.1 hP 0 rfl rfl 2 (by decide) (htA _ wd_647) (fun _ h9 => h9) rfl dX4_flags_25 ?_
  refine lv_iload_n hx hb dX4_flags_28 rfl (lv_at hl 1 rfl) ?_
  refine lv_dup2_11 hx hb dX4_flags_29 rfl rfl ?_
  refine n_iald (g := (nts μ 2 mm (k9 + 1) w0) 3) (cA := cI) (n := 60) (j := mm) hx hb hKK.1 hP 3 0 rfl rfl (by omega) (Nat.le_of_ble_eq_true rfl) dX4_flags_30 ?_
  refine n_iconst (k := 1) hx hb dX4_flags_31 (by decide) ?_
  refine lv_iload_n hx hb dX4_flags_32 rfl (lv_at hl 2 rfl) ?_
  refine n_ishl1 hx hb (y := k9) hk dX4_flags_33 ?_
  refine n_ixor hx hb dX4_flags_34 ?_
  refine n_iast (g := (nts μ 2 mm (k9 + 1) w0) 3) (cA := cI) (n := 60) (j := mm) (v := ((nts μ 2 mm (k9 + 1) w0) 3 mm) ^^^ (2 ^ k9)) hx hb hKK.1 hP (D_addr hD rfl) hS 3 0 rfl rfl (by omega) (Nat.le_of_ble_eq_true rfl) dX4_flags_35 (fun H locs hP hS => ?_)
  have hP : va_P D vwCl (wM q cI cZ (su ((nts μ 2 mm (k9 + 1) w0)) 3 (upN ((nts μ 2 mm (k9 + 1) w0) 3) (mm) (((nts μ 2 mm (k9 + 1) w0) 3 mm) ^^^ (2 ^ k9))))) H := hP
  refine n_iconst (k := 1) hx hb dX4_flags_36 (by decide) ?_
  exact wr_z (v := true) hx hb hr hlocks (rfl) hP hS dX4_flags_37
set_option maxHeartbeats 4000000 in
set_option maxRecDepth 100000 in
theorem m_flags_s (l : Launch) (D : va_G) (cI cZ : ClassId) (sa : Nat → Nat) (q : Nat → Nat) (μ : ST) (mm k9 w0 : Nat) (H : Heap) (hP : va_P D vwCl (wM q cI cZ μ) H) (hB : ∀ k i, μ k i < 1073741824) (hm0 : μ 0 0 ≤ 60) (hs9 : μ 0 1 < 2048) (hm : mm < 60) (hw : w0 < 2) (hk : k9 < 31) (he : hs (μ 3 mm) k9 = nb w0) : Met l yX4_flags (codeW yX4_flags cX4_flags 4 (some .boolean)) ({ frames := 1, cells := 0, slots := 0, locals := 24 } : Room) (RoP D cI cZ sa H [.ref (q 0), .int (nI (mm)), .int (nI (k9)), .int (nI (w0))]) (RoQ (some (.int (b2i (false)))) H) 0 0 RoF := by
  refine Met.ofW (cc := cX4_flags) (maxL := 4) (ret := (some .boolean)) (by decide) rfl ?_
  intro p e s m args below meth c s₁ B hml hv
  obtain ⟨rfl, hH, hKK⟩ := hv
  subst hH
  have hx := B.exec
  have hb := B.bytes
  have hr := B.returns
  have htA : ∀ w ∈ WA, w.before _ s = true := fun w h => atoms_spec (ws := (codeW yX4_flags cX4_flags 4 (some .boolean))) B.pre w (List.mem_cons_of_mem _ h)
  have hown : s.vm.findClass RX4 = some m.cls := findClass_of_methodNamed B.named
  have hlocks := B.notSynchronized
  have hl := lv_entry ([.ref (q 0), .int (nI (mm)), .int (nI (k9)), .int (nI (w0))]) (n := 4) (Nat.le_of_ble_eq_true rfl)
  rw [lg_entry_eq]
  generalize (lg_sl ([.ref (q 0), .int (nI (mm)), .int (nI (k9)), .int (nI (w0))]) ++ List.replicate (4 - (lg_sl ([.ref (q 0), .int (nI (mm)), .int (nI (k9)), .int (nI (w0))])).length) Slot.unset).toArray = ls at hl ⊢
  have hl : lv_has ls 4 [(0, .ref (q 0)), (1, .int (nI (mm))), (2, .int (nI (k9))), (3, .int (nI (w0)))] := hl
  refine lv_aload_n hx hb dX4_flags_0 rfl (lv_at hl 0 rfl) ?_
  refine va_get (D := D) (ci := 4) (v := .ref (q 3)) (C := RX4) (T := TX4) (N := 26) hx hb htA uwX4 hown hKK.1 hP 0 rfl rfl 2 (by decide) (htA _ wd_647) (fun _ h9 => h9) rfl dX4_flags_1 ?_
  refine lv_iload_n hx hb dX4_flags_4 rfl (lv_at hl 1 rfl) ?_
  refine n_iald (g := μ 3) (cA := cI) (n := 60) (j := mm) hx hb hKK.1 hP 3 0 rfl rfl (by omega) (Nat.le_of_ble_eq_true rfl) dX4_flags_5 ?_
  refine lv_iload_n hx hb dX4_flags_6 rfl (lv_at hl 2 rfl) ?_
  refine roS1 (v := .int (b2i (hs (μ 3 mm) k9))) (As := [.int (nI (μ 3 mm)), .int (nI (k9))]) (rest := []) (n := 2) ⟨hx, hb, hml, hown, htA⟩ (m_has l D cI cZ sa (μ 3 mm) k9 s.heap ) (va_cwS 2 htA (gdS wd_759 wd_760 wd_5 wd_761) rfl rfl rfl (by decide +kernel) ⟨Nat.le_of_ble_eq_true rfl, Nat.le_of_ble_eq_true rfl⟩) hKK rfl hl.1 rfl (Nat.le_of_ble_eq_true rfl) dX4_flags_7 (Nat.zero_le _) (Nat.zero_le _) ?_
  refine lv_iload_n hx hb dX4_flags_10 rfl (lv_at hl 3 rfl) ?_
  refine bn_icmp_ne (b := hs (μ 3 mm) k9) (w := w0) (tgt := 16) hx hb hw dX4_flags_11 (by decide) (fun c_1 => ?_) (fun c_1 => ?_)
  · exact absurd he c_1
  refine n_iconst (k := 0) hx hb dX4_flags_14 (by decide) ?_
  exact ro_z (v := false) hx hb hr hlocks (rfl) dX4_flags_15
set_option maxHeartbeats 4000000 in
set_option maxRecDepth 100000 in
theorem m_isFound (l : Launch) (D : va_G) (cI cZ : ClassId) (sa : Nat → Nat) (q : Nat → Nat) (μ : ST) (mm b0 w0 : Nat) (H : Heap) (hP : va_P D vwCl (wM q cI cZ μ) H) (hB : ∀ k i, μ k i < 1073741824) (hm0 : μ 0 0 ≤ 60) (hm : mm < 60) (hw : w0 ≤ 2 ^ 31) : Met l yX4_isFound (codeW yX4_isFound cX4_isFound 4 (some .boolean)) ({ frames := 1, cells := 0, slots := 0, locals := 21 } : Room) (RoP D cI cZ sa H [.ref (q 0), .int (nI (mm)), .int (nI (b0)), .int (oi (w0))]) (RoQ (some (.int (b2i (ifd μ b0 w0 mm)))) H) 0 0 RoF := by
  refine Met.ofW (cc := cX4_isFound) (maxL := 4) (ret := (some .boolean)) (by decide) rfl ?_
  intro p e s m args below meth c s₁ B hml hv
  obtain ⟨rfl, hH, hKK⟩ := hv
  subst hH
  have hx := B.exec
  have hb := B.bytes
  have hr := B.returns
  have htA : ∀ w ∈ WA, w.before _ s = true := fun w h => atoms_spec (ws := (codeW yX4_isFound cX4_isFound 4 (some .boolean))) B.pre w (List.mem_cons_of_mem _ h)
  have hown : s.vm.findClass RX4 = some m.cls := findClass_of_methodNamed B.named
  have hlocks := B.notSynchronized
  have hl := lv_entry ([.ref (q 0), .int (nI (mm)), .int (nI (b0)), .int (oi (w0))]) (n := 4) (Nat.le_of_ble_eq_true rfl)
  rw [lg_entry_eq]
  generalize (lg_sl ([.ref (q 0), .int (nI (mm)), .int (nI (b0)), .int (oi (w0))]) ++ List.replicate (4 - (lg_sl ([.ref (q 0), .int (nI (mm)), .int (nI (b0)), .int (oi (w0))])).length) Slot.unset).toArray = ls at hl ⊢
  have hl : lv_has ls 4 [(0, .ref (q 0)), (1, .int (nI (mm))), (2, .int (nI (b0))), (3, .int (oi (w0)))] := hl
  refine lv_aload_n hx hb dX4_isFound_0 rfl (lv_at hl 0 rfl) ?_
  refine va_get (D := D) (ci := 4) (v := .ref (q 6)) (C := RX4) (T := TX4) (N := 26) hx hb htA uwX4 hown hKK.1 hP 0 rfl rfl 5 (by decide) (htA _ wd_650) (fun _ h9 => h9) rfl dX4_isFound_1 ?_
  refine lv_iload_n hx hb dX4_isFound_4 rfl (lv_at hl 1 rfl) ?_
  refine n_iald (g := μ 6) (cA := cI) (n := 60) (j := mm) hx hb hKK.1 hP 6 0 rfl rfl (by omega) (Nat.le_of_ble_eq_true rfl) dX4_isFound_5 ?_
  refine n_ifne (x := μ 6 mm) (tgt := 44) hx hb dX4_isFound_6 (by decide) (Nat.lt_trans (hB 6 mm) (by decide)) (fun c_1 => ?_) (fun c_1 => ?_)
  · refine n_iconst (k := 0) hx hb dX4_isFound_44 (by decide) ?_
    exact ro_z (v := false) hx hb hr hlocks (by simp [ifd, c_1]) dX4_isFound_45
  · refine lv_aload_n hx hb dX4_isFound_9 rfl (lv_at hl 0 rfl) ?_
    refine va_get (D := D) (ci := 4) (v := .ref (q 2)) (C := RX4) (T := TX4) (N := 26) hx hb htA uwX4 hown hKK.1 hP 0 rfl rfl 1 (by decide) (htA _ wd_646) (fun _ h9 => h9) rfl dX4_isFound_10 ?_
    refine lv_iload_n hx hb dX4_isFound_13 rfl (lv_at hl 1 rfl) ?_
    refine n_iald (g := μ 2) (cA := cI) (n := 60) (j := mm) hx hb hKK.1 hP 2 0 rfl rfl (by omega) (Nat.le_of_ble_eq_true rfl) dX4_isFound_14 ?_
    refine lv_iload_n hx hb dX4_isFound_15 rfl (lv_at hl 2 rfl) ?_
    refine roS1 (v := .int (b2i (hs (μ 2 mm) b0))) (As := [.int (nI (μ 2 mm)), .int (nI (b0))]) (rest := []) (n := 2) ⟨hx, hb, hml, hown, htA⟩ (m_has l D cI cZ sa (μ 2 mm) b0 s.heap ) (va_cwS 2 htA (gdS wd_759 wd_760 wd_5 wd_761) rfl rfl rfl (by decide +kernel) ⟨Nat.le_of_ble_eq_true rfl, Nat.le_of_ble_eq_true rfl⟩) hKK rfl hl.1 rfl (Nat.le_of_ble_eq_true rfl) dX4_isFound_16 (Nat.zero_le _) (Nat.zero_le _) ?_
    refine b_ifeq (b := hs (μ 2 mm) b0) (tgt := 44) hx hb dX4_isFound_19 (by decide) (fun c_2 => ?_) (fun c_2 => ?_)
    · refine n_iconst (k := 0) hx hb dX4_isFound_44 (by decide) ?_
      exact ro_z (v := false) hx hb hr hlocks (by simp [ifd, c_1, c_2]) dX4_isFound_45
    · refine lv_iload_n hx hb dX4_isFound_22 rfl (lv_at hl 3 rfl) ?_
      refine lv_iconst (v := oi 0) hx hb dX4_isFound_23 (by decide) ?_
      refine k_icmp_eq (x := w0) (y := 0) (tgt := 40) hx hb dX4_isFound_24 (by decide) hw (by decide) (fun c_3 => ?_) (fun c_3 => ?_)
      · refine n_iconst (k := 1) hx hb dX4_isFound_40 (by decide) ?_
        refine lv_goto (tgt := 45) hx hb dX4_isFound_41 (by decide) ?_
        exact ro_z (v := true) hx hb hr hlocks (by simp [ifd, c_1, c_2, c_3]) dX4_isFound_45
      · refine lv_aload_n hx hb dX4_isFound_27 rfl (lv_at hl 0 rfl) ?_
        refine va_get (D := D) (ci := 4) (v := .ref (q 3)) (C := RX4) (T := TX4) (N := 26) hx hb htA uwX4 hown hKK.1 hP 0 rfl rfl 2 (by decide) (htA _ wd_647) (fun _ h9 => h9) rfl dX4_isFound_28 ?_
        refine lv_iload_n hx hb dX4_isFound_31 rfl (lv_at hl 1 rfl) ?_
        refine n_iald (g := μ 3) (cA := cI) (n := 60) (j := mm) hx hb hKK.1 hP 3 0 rfl rfl (by omega) (Nat.le_of_ble_eq_true rfl) dX4_isFound_32 ?_
        refine lv_iload_n hx hb dX4_isFound_33 rfl (lv_at hl 3 rfl) ?_
        refine k_top (x := w0) c_3 ?_
        refine roS1 (v := .int (b2i (hs (μ 3 mm) (w0 - 1)))) (As := [.int (nI (μ 3 mm)), .int (nI (w0 - 1))]) (rest := []) (n := 2) ⟨hx, hb, hml, hown, htA⟩ (m_has l D cI cZ sa (μ 3 mm) (w0 - 1) s.heap ) (va_cwS 2 htA (gdS wd_759 wd_760 wd_5 wd_761) rfl rfl rfl (by decide +kernel) ⟨Nat.le_of_ble_eq_true rfl, Nat.le_of_ble_eq_true rfl⟩) hKK rfl hl.1 rfl (Nat.le_of_ble_eq_true rfl) dX4_isFound_34 (Nat.zero_le _) (Nat.zero_le _) ?_
        refine b_ifeq (b := hs (μ 3 mm) (w0 - 1)) (tgt := 44) hx hb dX4_isFound_37 (by decide) (fun c_4 => ?_) (fun c_4 => ?_)
        · refine n_iconst (k := 0) hx hb dX4_isFound_44 (by decide) ?_
          exact ro_z (v := false) hx hb hr hlocks (by simp [ifd, c_1, c_2, c_3, c_4]) dX4_isFound_45
        · refine n_iconst (k := 1) hx hb dX4_isFound_40 (by decide) ?_
          refine lv_goto (tgt := 45) hx hb dX4_isFound_41 (by decide) ?_
          exact ro_z (v := true) hx hb hr hlocks (by simp [ifd, c_1, c_2, c_3, c_4]) dX4_isFound_45
