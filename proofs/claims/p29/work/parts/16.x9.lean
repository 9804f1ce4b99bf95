set_option maxHeartbeats 4000000 in
set_option maxRecDepth 100000 in
theorem c_isState (l : Launch) (D : va_G) (cI cZ : ClassId) (sa : Nat → Nat) (q : Nat → Nat) (σ κ0 κ1 : ST) (x : Int32) (H : Heap) (hP : va_P D vwCl (wX q cI cZ σ κ0 κ1) H)  : Met l yX3_isState (codeW yX3_isState cX3_isState 2 (some .boolean)) ({ frames := 1, cells := 0, slots := 0, locals := 22 } : Room) (RoP D cI cZ sa H [.ref (q 0), .int (x)]) (RoQ (some (.int (b2i (iw (x) (nI (0)) (nI (σ 7 0)))))) H) 0 0 RoF := by
  refine Met.ofW (cc := cX3_isState) (maxL := 2) (ret := (some .boolean)) (by decide) rfl ?_
  intro p e s m args below meth c s₁ B hml hv
  obtain ⟨rfl, hH, hKK⟩ := hv
  subst hH
  have hx := B.exec
  have hb := B.bytes
  have hr := B.returns
  have htA : ∀ w ∈ WA, w.before _ s = true := fun w h => atoms_spec (ws := (codeW yX3_isState cX3_isState 2 (some .boolean))) B.pre w (List.mem_cons_of_mem _ h)
  have hown : s.vm.findClass RX3 = some m.cls := findClass_of_methodNamed B.named
  have hlocks := B.notSynchronized
  have hl := lv_entry ([.ref (q 0), .int (x)]) (n := 2) (Nat.le_of_ble_eq_true rfl)
  rw [lg_entry_eq]
  generalize (lg_sl ([.ref (q 0), .int (x)]) ++ List.replicate (2 - (lg_sl ([.ref (q 0), .int (x)])).length) Slot.unset).toArray = ls at hl ⊢
  have hl : lv_has ls 2 [(0, .ref (q 0)), (1, .int (x))] := hl
  refine lv_iload_n hx hb dX3_isState_0 rfl (lv_at hl 1 rfl) ?_
  refine n_iconst (k := 0) hx hb dX3_isState_1 (by decide) ?_
  refine lv_aload_n hx hb dX3_isState_2 rfl (lv_at hl 0 rfl) ?_
  refine va_get (D := D) (ci := 3) (v := .ref (q 1)) (C := RX3) (T := TX3) (N := 3) hx hb htA uwX3 hown hKK.1 hP 0 rfl rfl 0 (by decide) (htA _ wd_125) (fun _ h9 => h9) rfl dX3_isState_3 ?_
  refine va_getN (D := D) (ci := 2) (v := .ref (q 7)) (C := RX2) (T := TX2) (N := 7) hx hb htA uwX2 hown hKK.1 hP 1 rfl rfl 5 (by decide) (va_Nw.use rfl (ex_RX3_85 hKK.2)) (fun _ h9 => h9) rfl dX3_isState_6 ?_
  refine va_getN (D := D) (ci := 0) (v := .int (nI (σ 7 0))) (C := RX0) (T := TX0) (N := 5) hx hb htA uwX0 hown hKK.1 hP 7 rfl rfl 4 (by decide) (va_Nw.use rfl (ex_RX3_89 hKK.2)) (fun _ h9 => h9) rfl dX3_isState_9 ?_
  refine roS1 (v := .int (b2i (iw (x) (nI (0)) (nI (σ 7 0))))) (As := [.int (x), .int (nI (0)), .int (nI (σ 7 0))]) (rest := []) (n := 3) ⟨hx, hb, hml, hown, htA⟩ (c_isWithin l D cI cZ sa (x) (nI (0)) (nI (σ 7 0)) s.heap ) (va_cwS 3 htA (gdS wd_139 wd_140 wd_1 wd_141) rfl rfl rfl (by decide +kernel) ⟨Nat.le_of_ble_eq_true rfl, Nat.le_of_ble_eq_true rfl⟩) hKK rfl hl.1 rfl (Nat.le_of_ble_eq_true rfl) dX3_isState_12 (Nat.zero_le _) (Nat.zero_le _) ?_
  exact ro_z (v := iw (x) (nI (0)) (nI (σ 7 0))) hx hb hr hlocks (rfl) dX3_isState_15
set_option maxHeartbeats 4000000 in
set_option maxRecDepth 100000 in
theorem c_isQK (l : Launch) (D : va_G) (cI cZ : ClassId) (sa : Nat → Nat) (x : Int32) (H : Heap)  : Met l yX3_isQueryKeyword (codeW yX3_isQueryKeyword cX3_isQueryKeyword 1 (some .boolean)) ({ frames := 2, cells := 0, slots := 0, locals := 42 } : Room) (RoP D cI cZ sa H [.int (x)]) (RoQ (some (.int (b2i (iq x)))) H) 0 0 RoF := by
  refine Met.ofW (cc := cX3_isQueryKeyword) (maxL := 1) (ret := (some .boolean)) (by decide) rfl ?_
  intro p e s m args below meth c s₁ B hml hv
  obtain ⟨rfl, hH, hKK⟩ := hv
  subst hH
  have hx := B.exec
  have hb := B.bytes
  have hr := B.returns
  have htA : ∀ w ∈ WA, w.before _ s = true := fun w h => atoms_spec (ws := (codeW yX3_isQueryKeyword cX3_isQueryKeyword 1 (some .boolean))) B.pre w (List.mem_cons_of_mem _ h)
  have hown : s.vm.findClass RX3 = some m.cls := findClass_of_methodNamed B.named
  have hlocks := B.notSynchronized
  have hl := lv_entry ([.int (x)]) (n := 1) (Nat.le_of_ble_eq_true rfl)
  rw [lg_entry_eq]
  generalize (lg_sl ([.int (x)]) ++ List.replicate (1 - (lg_sl ([.int (x)])).length) Slot.unset).toArray = ls at hl ⊢
  have hl : lv_has ls 1 [(0, .int (x))] := hl
  refine lv_iload_n hx hb dX3_isQueryKeyword_0 rfl (lv_at hl 0 rfl) ?_
  refine lv_iconst (v := oi 0) hx hb dX3_isQueryKeyword_1 (by decide) ?_
  refine lv_icmp_eq (x := x) (y := oi (0)) (tgt := 12) hx hb dX3_isQueryKeyword_2 (by decide) (fun c_1 => ?_) (fun c_1 => ?_)
  · refine n_iconst (k := 1) hx hb dX3_isQueryKeyword_12 (by decide) ?_
    refine lv_goto (tgt := 17) hx hb dX3_isQueryKeyword_13 (by decide) ?_
    exact ro_z (v := true) hx hb hr hlocks (by simp only [iq, c_1, Bool.true_or, Bool.false_or, Bool.or_true, Bool.or_false, decide_true, decide_false, Bool.true_and, Bool.false_and, Bool.and_true, Bool.and_false, Bool.not_true, Bool.not_false, eq_self, not_true_eq_false, not_false_eq_true, cond_true, cond_false, ne_eq]) dX3_isQueryKeyword_17
  · refine lv_iload_n hx hb dX3_isQueryKeyword_5 rfl (lv_at hl 0 rfl) ?_
    refine roS1 (v := .int (b2i (iw (x) (nI (0)) (nI (3))))) (As := [.int (x)]) (rest := []) (n := 1) ⟨hx, hb, hml, hown, htA⟩ (c_isKeyword l D cI cZ sa (x) s.heap ) (va_cwS 1 htA (gdS wd_304 wd_305 wd_1 wd_306) rfl rfl rfl (by decide +kernel) ⟨Nat.le_of_ble_eq_true rfl, Nat.le_of_ble_eq_true rfl⟩) hKK rfl hl.1 rfl (Nat.le_of_ble_eq_true rfl) dX3_isQueryKeyword_6 (Nat.zero_le _) (Nat.zero_le _) ?_
    refine b_ifeq (b := iw (x) (nI (0)) (nI (3))) (tgt := 16) hx hb dX3_isQueryKeyword_9 (by decide) (fun c_2 => ?_) (fun c_2 => ?_)
    · refine n_iconst (k := 0) hx hb dX3_isQueryKeyword_16 (by decide) ?_
      exact ro_z (v := false) hx hb hr hlocks (by simp only [iq, c_1, c_2, Bool.true_or, Bool.false_or, Bool.or_true, Bool.or_false, decide_true, decide_false, Bool.true_and, Bool.false_and, Bool.and_true, Bool.and_false, Bool.not_true, Bool.not_false, eq_self, not_true_eq_false, not_false_eq_true, cond_true, cond_false, ne_eq]) dX3_isQueryKeyword_17
    · refine n_iconst (k := 1) hx hb dX3_isQueryKeyword_12 (by decide) ?_
      refine lv_goto (tgt := 17) hx hb dX3_isQueryKeyword_13 (by decide) ?_
      exact ro_z (v := true) hx hb hr hlocks (by simp only [iq, c_1, c_2, Bool.true_or, Bool.false_or, Bool.or_true, Bool.or_false, decide_true, decide_false, Bool.true_and, Bool.false_and, Bool.and_true, Bool.and_false, Bool.not_true, Bool.not_false, eq_self, not_true_eq_false, not_false_eq_true, cond_true, cond_false, ne_eq]) dX3_isQueryKeyword_17
set_option maxHeartbeats 4000000 in
set_option maxRecDepth 100000 in
theorem c_asked_0 (l : Launch) (D : va_G) (cI cZ : ClassId) (sa : Nat → Nat)  (H : Heap)  : Met l yX3_asked (codeW yX3_asked cX3_asked 1 (some .int)) ({ frames := 0, cells := 0, slots := 0, locals := 0 } : Room) (RoP D cI cZ sa H [.int (oi (0))]) (RoQ (some (.int (nI (0)))) H) 0 0 RoF := by
  refine Met.ofW (cc := cX3_asked) (maxL := 1) (ret := (some .int)) (by decide) rfl ?_
  intro p e s m args below meth c s₁ B hml hv
  obtain ⟨rfl, hH, hKK⟩ := hv
  subst hH
  have hx := B.exec
  have hb := B.bytes
  have hr := B.returns
  have htA : ∀ w ∈ WA, w.before _ s = true := fun w h => atoms_spec (ws := (codeW yX3_asked cX3_asked 1 (some .int))) B.pre w (List.mem_cons_of_mem _ h)
  have hown : s.vm.findClass RX3 = some m.cls := findClass_of_methodNamed B.named
  have hlocks := B.notSynchronized
  have hl := lv_entry ([.int (oi (0))]) (n := 1) (Nat.le_of_ble_eq_true rfl)
  rw [lg_entry_eq]
  generalize (lg_sl ([.int (oi (0))]) ++ List.replicate (1 - (lg_sl ([.int (oi (0))])).length) Slot.unset).toArray = ls at hl ⊢
  have hl : lv_has ls 1 [(0, .int (oi (0)))] := hl
  refine lv_iload_n hx hb dX3_asked_0 rfl (lv_at hl 0 rfl) ?_
  refine lv_iconst (v := oi 0) hx hb dX3_asked_1 (by decide) ?_
  refine k_icmp_ne (x := 0) (y := 0) (tgt := 9) hx hb dX3_asked_2 (by decide) (by decide) (by decide) (fun c_1 => ?_) (fun c_1 => ?_)
  · exact absurd rfl c_1
  refine n_iconst (k := 0) hx hb dX3_asked_5 (by decide) ?_
  refine lv_goto (tgt := 12) hx hb dX3_asked_6 (by decide) ?_
  exact ro_i hx hb hr hlocks (rfl) dX3_asked_12
set_option maxHeartbeats 4000000 in
set_option maxRecDepth 100000 in
theorem c_asked_k (l : Launch) (D : va_G) (cI cZ : ClassId) (sa : Nat → Nat) (j : Nat) (H : Heap) (hj : j < 31) : Met l yX3_asked (codeW yX3_asked cX3_asked 1 (some .int)) ({ frames := 0, cells := 0, slots := 0, locals := 0 } : Room) (RoP D cI cZ sa H [.int (nI (j))]) (RoQ (some (.int (nI (2 ^ j)))) H) 0 0 RoF := by
  refine Met.ofW (cc := cX3_asked) (maxL := 1) (ret := (some .int)) (by decide) rfl ?_
  intro p e s m args below meth c s₁ B hml hv
  obtain ⟨rfl, hH, hKK⟩ := hv
  subst hH
  have hx := B.exec
  have hb := B.bytes
  have hr := B.returns
  have htA : ∀ w ∈ WA, w.before _ s = true := fun w h => atoms_spec (ws := (codeW yX3_asked cX3_asked 1 (some .int))) B.pre w (List.mem_cons_of_mem _ h)
  have hown : s.vm.findClass RX3 = some m.cls := findClass_of_methodNamed B.named
  have hlocks := B.notSynchronized
  have hl := lv_entry ([.int (nI (j))]) (n := 1) (Nat.le_of_ble_eq_true rfl)
  rw [lg_entry_eq]
  generalize (lg_sl ([.int (nI (j))]) ++ List.replicate (1 - (lg_sl ([.int (nI (j))])).length) Slot.unset).toArray = ls at hl ⊢
  have hl : lv_has ls 1 [(0, .int (nI (j)))] := hl
  refine lv_iload_n hx hb dX3_asked_0 rfl (lv_at hl 0 rfl) ?_
  refine lv_iconst (v := oi 0) hx hb dX3_asked_1 (by decide) ?_
  refine k_icmp_ne (x := j + 1) (y := 0) (tgt := 9) hx hb dX3_asked_2 (by decide) (by omega) (by decide) (fun c_1 => ?_) (fun c_1 => ?_)
  rotate_left
  · exact absurd c_1 (by omega)
  refine n_iconst (k := 1) hx hb dX3_asked_9 (by decide) ?_
  refine lv_iload_n hx hb dX3_asked_10 rfl (lv_at hl 0 rfl) ?_
  refine n_ishl1 hx hb (y := j) hj dX3_asked_11 ?_
  exact ro_i hx hb hr hlocks (rfl) dX3_asked_12
theorem c_asked (l : Launch) (D : va_G) (cI cZ : ClassId) (sa : Nat → Nat) (k9 : Nat) (H : Heap) (h : k9 ≤ 31) : Met l yX3_asked (codeW yX3_asked cX3_asked 1 (some .int)) ({ frames := 0, cells := 0, slots := 0, locals := 0 } : Room) (RoP D cI cZ sa H [.int (oi k9)]) (RoQ (some (.int (nI (askq k9)))) H) 0 0 RoF := by
  cases k9 with
  | zero => exact c_asked_0 l D cI cZ sa H
  | succ j => exact c_asked_k l D cI cZ sa j H (by omega)
set_option maxHeartbeats 4000000 in
set_option maxRecDepth 100000 in
theorem c_clientOf0 (l : Launch) (D : va_G) (cI cZ : ClassId) (sa : Nat → Nat) (q : Nat → Nat) (σ κ0 κ1 : ST) (H : Heap) (hP : va_P D vwCl (wX q cI cZ σ κ0 κ1) H)  : Met l yX3_clientOf (codeW yX3_clientOf cX3_clientOf 2 (some (.object "MailFollower$Client"))) ({ frames := 0, cells := 0, slots := 0, locals := 0 } : Room) (RoP D cI cZ sa H [.ref (q 0), .int (nI (0))]) (RoQ (some (.ref (q 12))) H) 0 0 RoF := by
  refine Met.ofW (cc := cX3_clientOf) (maxL := 2) (ret := (some (.object "MailFollower$Client"))) (by decide) rfl ?_
  intro p e s m args below meth c s₁ B hml hv
  obtain ⟨rfl, hH, hKK⟩ := hv
  subst hH
  have hx := B.exec
  have hb := B.bytes
  have hr := B.returns
  have htA : ∀ w ∈ WA, w.before _ s = true := fun w h => atoms_spec (ws := (codeW yX3_clientOf cX3_clientOf 2 (some (.object "MailFollower$Client")))) B.pre w (List.mem_cons_of_mem _ h)
  have hown : s.vm.findClass RX3 = some m.cls := findClass_of_methodNamed B.named
  have hlocks := B.notSynchronized
  have hl := lv_entry ([.ref (q 0), .int (nI (0))]) (n := 2) (Nat.le_of_ble_eq_true rfl)
  rw [lg_entry_eq]
  generalize (lg_sl ([.ref (q 0), .int (nI (0))]) ++ List.replicate (2 - (lg_sl ([.ref (q 0), .int (nI (0))])).length) Slot.unset).toArray = ls at hl ⊢
  have hl : lv_has ls 2 [(0, .ref (q 0)), (1, .int (nI (0)))] := hl
  refine lv_iload_n hx hb dX3_clientOf_0 rfl (lv_at hl 1 rfl) ?_
  refine b_ifne (b := false) (tgt := 11) hx hb dX3_clientOf_1 (by decide) (fun c_1 => ?_) (fun c_1 => ?_)
  · exact absurd c_1 (by decide)
  refine lv_aload_n hx hb dX3_clientOf_4 rfl (lv_at hl 0 rfl) ?_
  refine va_get (D := D) (ci := 3) (v := .ref (q 12)) (C := RX3) (T := TX3) (N := 3) hx hb htA uwX3 hown hKK.1 hP 0 rfl rfl 1 (by decide) (htA _ wd_126) (fun _ h9 => h9) rfl dX3_clientOf_5 ?_
  refine lv_goto (tgt := 15) hx hb dX3_clientOf_8 (by decide) ?_
  exact ro_r hx hb hr hlocks (rfl) dX3_clientOf_15
set_option maxHeartbeats 4000000 in
set_option maxRecDepth 100000 in
theorem c_clientOf1 (l : Launch) (D : va_G) (cI cZ : ClassId) (sa : Nat → Nat) (q : Nat → Nat) (σ κ0 κ1 : ST) (H : Heap) (hP : va_P D vwCl (wX q cI cZ σ κ0 κ1) H)  : Met l yX3_clientOf (codeW yX3_clientOf cX3_clientOf 2 (some (.object "MailFollower$Client"))) ({ frames := 0, cells := 0, slots := 0, locals := 0 } : Room) (RoP D cI cZ sa H [.ref (q 0), .int (nI (1))]) (RoQ (some (.ref (q 18))) H) 0 0 RoF := by
  refine Met.ofW (cc := cX3_clientOf) (maxL := 2) (ret := (some (.object "MailFollower$Client"))) (by decide) rfl ?_
  intro p e s m args below meth c s₁ B hml hv
  obtain ⟨rfl, hH, hKK⟩ := hv
  subst hH
  have hx := B.exec
  have hb := B.bytes
  have hr := B.returns
  have htA : ∀ w ∈ WA, w.before _ s = true := fun w h => atoms_spec (ws := (codeW yX3_clientOf cX3_clientOf 2 (some (.object "MailFollower$Client")))) B.pre w (List.mem_cons_of_mem _ h)
  have hown : s.vm.findClass RX3 = some m.cls := findClass_of_methodNamed B.named
  have hlocks := B.notSynchronized
  have hl := lv_entry ([.ref (q 0), .int (nI (1))]) (n := 2) (Nat.le_of_ble_eq_true rfl)
  rw [lg_entry_eq]
  generalize (lg_sl ([.ref (q 0), .int (nI (1))]) ++ List.replicate (2 - (lg_sl ([.ref (q 0), .int (nI (1))])).length) Slot.unset).toArray = ls at hl ⊢
  have hl : lv_has ls 2 [(0, .ref (q 0)), (1, .int (nI (1)))] := hl
  refine lv_iload_n hx hb dX3_clientOf_0 rfl (lv_at hl 1 rfl) ?_
  refine b_ifne (b := true) (tgt := 11) hx hb dX3_clientOf_1 (by decide) (fun c_1 => ?_) (fun c_1 => ?_)
  rotate_left
  · exact absurd c_1 (by decide)
  refine lv_aload_n hx hb dX3_clientOf_11 rfl (lv_at hl 0 rfl) ?_
  refine va_get (D := D) (ci := 3) (v := .ref (q 18)) (C := RX3) (T := TX3) (N := 3) hx hb htA uwX3 hown hKK.1 hP 0 rfl rfl 2 (by decide) (htA _ wd_127) (fun _ h9 => h9) rfl dX3_clientOf_12 ?_
  exact ro_r hx hb hr hlocks (rfl) dX3_clientOf_15
set_option maxHeartbeats 4000000 in
set_option maxRecDepth 100000 in
theorem c_reqMail_t (l : Launch) (D : va_G) (cI cZ : ClassId) (sa : Nat → Nat) (v : Bool) (H : Heap) (hv9 : v = true) : Met l yX3_requireMail (codeW yX3_requireMail cX3_requireMail 1 none) ({ frames := 0, cells := 0, slots := 0, locals := 0 } : Room) (RoP D cI cZ sa H [.int (b2i (v))]) (RoQ none H) 0 0 RoF := by
  refine Met.ofW (cc := cX3_requireMail) (maxL := 1) (ret := none) (by decide) rfl ?_
  intro p e s m args below meth c s₁ B hml hv
  obtain ⟨rfl, hH, hKK⟩ := hv
  subst hH
  have hx := B.exec
  have hb := B.bytes
  have hr := B.returns
  have htA : ∀ w ∈ WA, w.before _ s = true := fun w h => atoms_spec (ws := (codeW yX3_requireMail cX3_requireMail 1 none)) B.pre w (List.mem_cons_of_mem _ h)
  have hown : s.vm.findClass RX3 = some m.cls := findClass_of_methodNamed B.named
  have hlocks := B.notSynchronized
  have hl := lv_entry ([.int (b2i (v))]) (n := 1) (Nat.le_of_ble_eq_true rfl)
  rw [lg_entry_eq]
  generalize (lg_sl ([.int (b2i (v))]) ++ List.replicate (1 - (lg_sl ([.int (b2i (v))])).length) Slot.unset).toArray = ls at hl ⊢
  have hl : lv_has ls 1 [(0, .int (b2i (v)))] := hl
  refine lv_iload_n hx hb dX3_requireMail_0 rfl (lv_at hl 0 rfl) ?_
  refine b_ifne (b := v) (tgt := 14) hx hb dX3_requireMail_1 (by decide) (fun c_1 => ?_) (fun c_1 => ?_)
  rotate_left
  · exact absurd (c_1.symm.trans hv9) (by decide)
  exact ro_v hx hb hr hlocks dX3_requireMail_14
set_option maxHeartbeats 4000000 in
set_option maxRecDepth 100000 in
theorem c_reqClient_t (l : Launch) (D : va_G) (cI cZ : ClassId) (sa : Nat → Nat) (x : Int32) (H : Heap) (hv9 : iw (x) (nI (0)) (nI (1)) = true) : Met l yX3_requireClient (codeW yX3_requireClient cX3_requireClient 1 none) ({ frames := 2, cells := 0, slots := 0, locals := 42 } : Room) (RoP D cI cZ sa H [.int (x)]) (RoQ none H) 0 0 RoF := by
  refine Met.ofW (cc := cX3_requireClient) (maxL := 1) (ret := none) (by decide) rfl ?_
  intro p e s m args below meth c s₁ B hml hv
  obtain ⟨rfl, hH, hKK⟩ := hv
  subst hH
  have hx := B.exec
  have hb := B.bytes
  have hr := B.returns
  have htA : ∀ w ∈ WA, w.before _ s = true := fun w h => atoms_spec (ws := (codeW yX3_requireClient cX3_requireClient 1 none)) B.pre w (List.mem_cons_of_mem _ h)
  have hown : s.vm.findClass RX3 = some m.cls := findClass_of_methodNamed B.named
  have hlocks := B.notSynchronized
  have hl := lv_entry ([.int (x)]) (n := 1) (Nat.le_of_ble_eq_true rfl)
  rw [lg_entry_eq]
  generalize (lg_sl ([.int (x)]) ++ List.replicate (1 - (lg_sl ([.int (x)])).length) Slot.unset).toArray = ls at hl ⊢
  have hl : lv_has ls 1 [(0, .int (x))] := hl
  refine lv_iload_n hx hb dX3_requireClient_0 rfl (lv_at hl 0 rfl) ?_
  refine roS1 (v := .int (b2i (iw (x) (nI (0)) (nI (1))))) (As := [.int (x)]) (rest := []) (n := 1) ⟨hx, hb, hml, hown, htA⟩ (c_isClient l D cI cZ sa (x) s.heap ) (va_cwS 1 htA (gdS wd_365 wd_366 wd_1 wd_367) rfl rfl rfl (by decide +kernel) ⟨Nat.le_of_ble_eq_true rfl, Nat.le_of_ble_eq_true rfl⟩) hKK rfl hl.1 rfl (Nat.le_of_ble_eq_true rfl) dX3_requireClient_1 (Nat.zero_le _) (Nat.zero_le _) ?_
  refine b_ifne (b := iw (x) (nI (0)) (nI (1))) (tgt := 17) hx hb dX3_requireClient_4 (by decide) (fun c_1 => ?_) (fun c_1 => ?_)
  rotate_left
  · exact absurd (c_1.symm.trans hv9) (by decide)
  exact ro_v hx hb hr hlocks dX3_requireClient_17
set_option maxHeartbeats 4000000 in
set_option maxRecDepth 100000 in
theorem c_reqTell_t (l : Launch) (D : va_G) (cI cZ : ClassId) (sa : Nat → Nat) (q : Nat → Nat) (σ κ0 κ1 : ST) (st : Nat) (H : Heap) (hP : va_P D vwCl (wX q cI cZ σ κ0 κ1) H) (hB : ∀ k i, σ k i < 1073741824) (hst : st ≤ σ 7 0) (hv9 : decide (σ 7 0 - st ≤ 40) = true) : Met l yX3_requireTelling (codeW yX3_requireTelling cX3_requireTelling 2 none) ({ frames := 1, cells := 0, slots := 0, locals := 21 } : Room) (RoP D cI cZ sa H [.ref (q 0), .int (nI (st))]) (RoQ none H) 0 0 RoF := by
  refine Met.ofW (cc := cX3_requireTelling) (maxL := 2) (ret := none) (by decide) rfl ?_
  intro p e s m args below meth c s₁ B hml hv
  obtain ⟨rfl, hH, hKK⟩ := hv
  subst hH
  have hx := B.exec
  have hb := B.bytes
  have hr := B.returns
  have htA : ∀ w ∈ WA, w.before _ s = true := fun w h => atoms_spec (ws := (codeW yX3_requireTelling cX3_requireTelling 2 none)) B.pre w (List.mem_cons_of_mem _ h)
  have hown : s.vm.findClass RX3 = some m.cls := findClass_of_methodNamed B.named
  have hlocks := B.notSynchronized
  have hl := lv_entry ([.ref (q 0), .int (nI (st))]) (n := 2) (Nat.le_of_ble_eq_true rfl)
  rw [lg_entry_eq]
  generalize (lg_sl ([.ref (q 0), .int (nI (st))]) ++ List.replicate (2 - (lg_sl ([.ref (q 0), .int (nI (st))])).length) Slot.unset).toArray = ls at hl ⊢
  have hl : lv_has ls 2 [(0, .ref (q 0)), (1, .int (nI (st)))] := hl
  refine lv_aload_n hx hb dX3_requireTelling_0 rfl (lv_at hl 0 rfl) ?_
  refine va_get (D := D) (ci := 3) (v := .ref (q 1)) (C := RX3) (T := TX3) (N := 3) hx hb htA uwX3 hown hKK.1 hP 0 rfl rfl 0 (by decide) (htA _ wd_125) (fun _ h9 => h9) rfl dX3_requireTelling_1 ?_
  refine va_getN (D := D) (ci := 2) (v := .ref (q 7)) (C := RX2) (T := TX2) (N := 7) hx hb htA uwX2 hown hKK.1 hP 1 rfl rfl 5 (by decide) (va_Nw.use rfl (ex_RX3_85 hKK.2)) (fun _ h9 => h9) rfl dX3_requireTelling_4 ?_
  refine lv_iload_n hx hb dX3_requireTelling_7 rfl (lv_at hl 1 rfl) ?_
  refine roV1 (v := .int (b2i (decide (σ 7 0 - st ≤ 40)))) (As := [.int (nI (st))]) (rest := []) (n := 1) ⟨hx, hb, hml, hown, htA⟩ (c_reach l D cI cZ sa q σ st s.heap (X_SS hP) hB hst) (cwV 1 htA (gdV wd_405 wd_406 wd_407 wd_3 wd_408) rfl rfl rfl (by decide +kernel) ⟨Nat.le_of_ble_eq_true rfl, Nat.le_of_ble_eq_true rfl⟩) hKK hP 7 rfl rfl rfl hl.1 rfl (Nat.le_of_ble_eq_true rfl) dX3_requireTelling_8 (Nat.zero_le _) (Nat.zero_le _) ?_
  refine b_ifne (b := decide (σ 7 0 - st ≤ 40)) (tgt := 24) hx hb dX3_requireTelling_11 (by decide) (fun c_1 => ?_) (fun c_1 => ?_)
  rotate_left
  · exact absurd (c_1.symm.trans hv9) (by decide)
  exact ro_v hx hb hr hlocks dX3_requireTelling_24
