set_option maxHeartbeats 4000000 in
set_option maxRecDepth 100000 in
theorem c_isState (l : Launch) (D : va_G) (cI cZ : ClassId) (sa : Nat → Nat) (q : Nat → Nat) (σ κ0 κ1 : ST) (x : Int32) (H : Heap) (hP : va_P D vwCl (wX q cI cZ σ κ0 κ1) H)  : Met l yX3_isState (codeW yX3_isState cX3_isState 2 (some .boolean)) ({ frames := 1, cells := 0, slots := 0, locals := 22 } : Room) (RoP D cI cZ sa H [.ref (q 0), .int (x)]) (RoQ (some (.int (b2i (iw (x) (nI (0)) (nI (σ 7 0)))))) H) 0 0 RoF := by
  refine Met.ofW (cc := cX3_isState) (maxL := 2) (ret := (some .boolean)) (by decide) rfl ?_
  intro p e s m args below meth c s₁ B hml hv
  obtain ⟨rfl, hH, hKK⟩ := hv
  subst hH
  have hx := B.exec
  have hb := B.bytes
  have hr := B.returns
  have htA : ∀ w ∈ WA, w.before _ s = true := fun w h => atoms_spec (ws := (codeW yX3_isState cX3_isState 2 (some .boolean))) B.pre w (List.mem_cons_of_mem _ h)
  have hown : s.vm.findClass RX3 = some m.cls := findClass_of_methodNamed B.named
  have hlocks := B.notSynchronized
  have hl := lv_entry ([.ref (q 0), .int (x)]) (n := 2) (Nat.le_of_ble_eq_true rfl)
  rw [lg_entry_eq]
  generalize (lg_sl ([.ref (q 0), .int (x)]) ++ List.replicate (2 - (lg_sl ([.ref (q 0), .int (x)])).length) Slot.unset).toArray = ls at hl ⊢
  have hl : lv_has ls 2 [(0, .ref (q 0)), (1, .int (x))] := hl
  refine lv_iload_n hx hb dX3_isState_0 rfl (lv_at hl 1 rfl) ?_
  refine n_iconst (k := 0) hx hb dX3_isState_1 (by decide) ?_
  refine lv_aload_n hx hb dX3_isState_2 rfl (lv_at hl 0 rfl) ?_
  refine va_get (D := D) (ci := 3) (v := .ref (q 1)) (C := RX3) (T := TX3) (N := 3) hx hb htA uwX3 hown hKK.1 hP 0 rfl rfl 0 (by decide) (htA _ wd_126) (fun _ h9 => h9) rfl dX3_isState_3 ?_
  refine va_getN (D := D) (ci := 2) (v := .ref (q 7)) (C := RX2) (T := TX2) (N := 7) hx hb htA uwX2 hown hKK.1 hP 1 rfl rfl 5 (by decide) (va_Nw.use rfl (ex_RX3_85 hKK.2)) (fun _ h9 => h9) rfl dX3_isState_6 ?_
  refine va_getN (D := D) (ci := 0) (v := .int (nI (σ 7 0))) (C := RX0) (T := TX0) (N := 5) hx hb htA uwX0 hown hKK.1 hP 7 rfl rfl 4 (by decide) (va_Nw.use rfl (ex_RX3_89 hKK.2)) (fun _ h9 => h9) rfl dX3_isState_9 ?_
  refine roS1 (v := .int (b2i (iw (x) (nI (0)) (nI (σ 7 0))))) (As := [.int (x), .int (nI (0)), .int (nI (σ 7 0))]) (rest := []) (n := 3) ⟨hx, hb, hml, hown, htA⟩ (c_isWithin l D cI cZ sa (x) (nI (0)) (nI (σ 7 0)) s.heap ) (va_cwS 3 htA (gdS wd_170 wd_171 wd_1 wd_172) rfl rfl rfl (by decide +kernel) ⟨Nat.le_of_ble_eq_true rfl, Nat.le_of_ble_eq_true rfl⟩) hKK rfl hl.1 rfl (Nat.le_of_ble_eq_true rfl) dX3_isState_12 (Nat.zero_le _) (Nat.zero_le _) ?_
  exact ro_z (v := iw (x) (nI (0)) (nI (σ 7 0))) hx hb hr hlocks (rfl) dX3_isState_15
set_option maxHeartbeats 4000000 in
set_option maxRecDepth 100000 in
theorem c_isQK (l : Launch) (D : va_G) (cI cZ : ClassId) (sa : Nat → Nat) (x : Int32) (H : Heap)  : Met l yX3_isQueryKeyword (codeW yX3_isQueryKeyword cX3_isQueryKeyword 1 (some .boolean)) ({ frames := 2, cells := 0, slots := 0, locals := 42 } : Room) (RoP D cI cZ sa H [.int (x)]) (RoQ (some (.int (b2i (iq x)))) H) 0 0 RoF := by
  refine Met.ofW (cc := cX3_isQueryKeyword) (maxL := 1) (ret := (some .boolean)) (by decide) rfl ?_
  intro p e s m args below meth c s₁ B hml hv
  obtain ⟨rfl, hH, hKK⟩ := hv
  subst hH
  have hx := B.exec
  have hb := B.bytes
  have hr := B.returns
  have htA : ∀ w ∈ WA, w.before _ s = true := fun w h => atoms_spec (ws := (codeW yX3_isQueryKeyword cX3_isQueryKeyword 1 (some .boolean))) B.pre w (List.mem_cons_of_mem _ h)
  have hown : s.vm.findClass RX3 = some m.cls := findClass_of_methodNamed B.named
  have hlocks := B.notSynchronized
  have hl := lv_entry ([.int (x)]) (n := 1) (Nat.le_of_ble_eq_true rfl)
  rw [lg_entry_eq]
  generalize (lg_sl ([.int (x)]) ++ List.replicate (1 - (lg_sl ([.int (x)])).length) Slot.unset).toArray = ls at hl ⊢
  have hl : lv_has ls 1 [(0, .int (x))] := hl
  refine lv_iload_n hx hb dX3_isQueryKeyword_0 rfl (lv_at hl 0 rfl) ?_
  refine lv_iconst (v := oi 0) hx hb dX3_isQueryKeyword_1 (by decide) ?_
  refine lv_icmp_eq (x := x) (y := oi (0)) (tgt := 12) hx hb dX3_isQueryKeyword_2 (by decide) (fun c_1 => ?_) (fun c_1 => ?_)
  · refine n_iconst (k := 1) hx hb dX3_isQueryKeyword_12 (by decide) ?_
    refine lv_goto (tgt := 17) hx hb dX3_isQueryKeyword_13 (by decide) ?_
    exact ro_z (v := true) hx hb hr hlocks (by simp only [iq, c_1, Bool.true_or, Bool.false_or, Bool.or_true, Bool.or_false, decide_true, decide_false, Bool.true_and, Bool.false_and, Bool.and_true, Bool.and_false, Bool.not_true, Bool.not_false, eq_self, not_true_eq_false, not_false_eq_true, cond_true, cond_false, ne_eq]) dX3_isQueryKeyword_17
  · refine lv_iload_n hx hb dX3_isQueryKeyword_5 rfl (lv_at hl 0 rfl) ?_
    refine roS1 (v := .int (b2i (iw (x) (nI (0)) (nI (3))))) (As := [.int (x)]) (rest := []) (n := 1) ⟨hx, hb, hml, hown, htA⟩ (c_isKeyword l D cI cZ sa (x) s.heap ) (va_cwS 1 htA (gdS wd_342 wd_343 wd_1 wd_344) rfl rfl rfl (by decide +kernel) ⟨Nat.le_of_ble_eq_true rfl, Nat.le_of_ble_eq_true rfl⟩) hKK rfl hl.1 rfl (Nat.le_of_ble_eq_true rfl) dX3_isQueryKeyword_6 (Nat.zero_le _) (Nat.zero_le _) ?_
    refine b_ifeq (b := iw (x) (nI (0)) (nI (3))) (tgt := 16) hx hb dX3_isQueryKeyword_9 (by decide) (fun c_2 => ?_) (fun c_2 => ?_)
    · refine n_iconst (k := 0) hx hb dX3_isQueryKeyword_16 (by decide) ?_
      exact ro_z (v := false) hx hb hr hlocks (by simp only [iq, c_1, c_2, Bool.true_or, Bool.false_or, Bool.or_true, Bool.or_false, decide_true, decide_false, Bool.true_and, Bool.false_and, Bool.and_true, Bool.and_false, Bool.not_true, Bool.not_false, eq_self, not_true_eq_false, not_false_eq_true, cond_true, cond_false, ne_eq]) dX3_isQueryKeyword_17
    · refine n_iconst (k := 1) hx hb dX3_isQueryKeyword_12 (by decide) ?_
      refine lv_goto (tgt := 17) hx hb dX3_isQueryKeyword_13 (by decide) ?_
      exact ro_z (v := true) hx hb hr hlocks (by simp only [iq, c_1, c_2, Bool.true_or, Bool.false_or, Bool.or_true, Bool.or_false, decide_true, decide_false, Bool.true_and, Bool.false_and, Bool.and_true, Bool.and_false, Bool.not_true, Bool.not_false, eq_self, not_true_eq_false, not_false_eq_true, cond_true, cond_false, ne_eq]) dX3_isQueryKeyword_17
set_option maxHeartbeats 4000000 in
set_option maxRecDepth 100000 in
theorem c_asked_0 (l : Launch) (D : va_G) (cI cZ : ClassId) (sa : Nat → Nat)  (H : Heap)  : Met l yX3_asked (codeW yX3_asked cX3_asked 1 (some .int)) ({ frames := 0, cells := 0, slots := 0, locals := 0 } : Room) (RoP D cI cZ sa H [.int (oi (0))]) (RoQ (some (.int (nI (0)))) H) 0 0 RoF := by
  refine Met.ofW (cc := cX3_asked) (maxL := 1) (ret := (some .int)) (by decide) rfl ?_
  intro p e s m args below meth c s₁ B hml hv
  obtain ⟨rfl, hH, hKK⟩ := hv
  subst hH
  have hx := B.exec
  have hb := B.bytes
  have hr := B.returns
  have htA : ∀ w ∈ WA, w.before _ s = true := fun w h => atoms_spec (ws := (codeW yX3_asked cX3_asked 1 (some .int))) B.pre w (List.mem_cons_of_mem _ h)
  have hown : s.vm.findClass RX3 = some m.cls := findClass_of_methodNamed B.named
  have hlocks := B.notSynchronized
  have hl := lv_entry ([.int (oi (0))]) (n := 1) (Nat.le_of_ble_eq_true rfl)
  rw [lg_entry_eq]
  generalize (lg_sl ([.int (oi (0))]) ++ List.replicate (1 - (lg_sl ([.int (oi (0))])).length) Slot.unset).toArray = ls at hl ⊢
  have hl : lv_has ls 1 [(0, .int (oi (0)))] := hl
  refine lv_iload_n hx hb dX3_asked_0 rfl (lv_at hl 0 rfl) ?_
  refine lv_iconst (v := oi 0) hx hb dX3_asked_1 (by decide) ?_
  refine k_icmp_ne (x := 0) (y := 0) (tgt := 9) hx hb dX3_asked_2 (by decide) (by decide) (by decide) (fun c_1 => ?_) (fun c_1 => ?_)
  · exact absurd rfl c_1
  refine n_iconst (k := 0) hx hb dX3_asked_5 (by decide) ?_
  refine lv_goto (tgt := 12) hx hb dX3_asked_6 (by decide) ?_
  exact ro_i hx hb hr hlocks (rfl) dX3_asked_12
set_option maxHeartbeats 4000000 in
set_option maxRecDepth 100000 in
theorem c_asked_k (l : Launch) (D : va_G) (cI cZ : ClassId) (sa : Nat → Nat) (j : Nat) (H : Heap) (hj : j < 31) : Met l yX3_asked (codeW yX3_asked cX3_asked 1 (some .int)) ({ frames := 0, cells := 0, slots := 0, locals := 0 } : Room) (RoP D cI cZ sa H [.int (nI (j))]) (RoQ (some (.int (nI (2 ^ j)))) H) 0 0 RoF := by
  refine Met.ofW (cc := cX3_asked) (maxL := 1) (ret := (some .int)) (by decide) rfl ?_
  intro p e s m args below meth c s₁ B hml hv
  obtain ⟨rfl, hH, hKK⟩ := hv
  subst hH
  have hx := B.exec
  have hb := B.bytes
  have hr := B.returns
  have htA : ∀ w ∈ WA, w.before _ s = true := fun w h => atoms_spec (ws := (codeW yX3_asked cX3_asked 1 (some .int))) B.pre w (List.mem_cons_of_mem _ h)
  have hown : s.vm.findClass RX3 = some m.cls := findClass_of_methodNamed B.named
  have hlocks := B.notSynchronized
  have hl := lv_entry ([.int (nI (j))]) (n := 1) (Nat.le_of_ble_eq_true rfl)
  rw [lg_entry_eq]
  generalize (lg_sl ([.int (nI (j))]) ++ List.replicate (1 - (lg_sl ([.int (nI (j))])).length) Slot.unset).toArray = ls at hl ⊢
  have hl : lv_has ls 1 [(0, .int (nI (j)))] := hl
  refine lv_iload_n hx hb dX3_asked_0 rfl (lv_at hl 0 rfl) ?_
  refine lv_iconst (v := oi 0) hx hb dX3_asked_1 (by decide) ?_
  refine k_icmp_ne (x := j + 1) (y := 0) (tgt := 9) hx hb dX3_asked_2 (by decide) (by omega) (by decide) (fun c_1 => ?_) (fun c_1 => ?_)
  rotate_left
  · exact absurd c_1 (by omega)
  refine n_iconst (k := 1) hx hb dX3_asked_9 (by decide) ?_
  refine lv_iload_n hx hb dX3_asked_10 rfl (lv_at hl 0 rfl) ?_
  refine n_ishl1 hx hb (y := j) hj dX3_asked_11 ?_
  exact ro_i hx hb hr hlocks (rfl) dX3_asked_12
theorem c_asked (l : Launch) (D : va_G) (cI cZ : ClassId) (sa : Nat → Nat) (k9 : Nat) (H : Heap) (h : k9 ≤ 31) : Met l yX3_asked (codeW yX3_asked cX3_asked 1 (some .int)) ({ frames := 0, cells := 0, slots := 0, locals := 0 } : Room) (RoP D cI cZ sa H [.int (oi k9)]) (RoQ (some (.int (nI (askq k9)))) H) 0 0 RoF := by
  cases k9 with
  | zero => exact c_asked_0 l D cI cZ sa H
  | succ j => exact c_asked_k l D cI cZ sa j H (by omega)
set_option maxHeartbeats 4000000 in
set_option maxRecDepth 100000 in
theorem c_lowestAt (l : Launch) (D : va_G) (cI cZ : ClassId) (sa : Nat → Nat) (x : Int64) (ix : Int32) (H : Heap)  : Met l yX3_lowestAt (codeW yX3_lowestAt cX3_lowestAt 5 (some .int)) ({ frames := 1, cells := 0, slots := 0, locals := 22 } : Room) (RoP D cI cZ sa H [.long (x), .int (ix)]) (RoQ (some (.int (oi (low x ix 60 0 0)))) H) 0 0 RoF := by
  refine Met.ofW (cc := cX3_lowestAt) (maxL := 5) (ret := (some .int)) (by decide) rfl ?_
  intro p e s m args below meth c s₁ B hml hv
  obtain ⟨rfl, hH, hKK⟩ := hv
  subst hH
  have hx := B.exec
  have hb := B.bytes
  have hr := B.returns
  have htA : ∀ w ∈ WA, w.before _ s = true := fun w h => atoms_spec (ws := (codeW yX3_lowestAt cX3_lowestAt 5 (some .int))) B.pre w (List.mem_cons_of_mem _ h)
  have hown : s.vm.findClass RX3 = some m.cls := findClass_of_methodNamed B.named
  have hlocks := B.notSynchronized
  have hl := lv_entry ([.long (x), .int (ix)]) (n := 5) (Nat.le_of_ble_eq_true rfl)
  rw [lg_entry_eq]
  generalize (lg_sl ([.long (x), .int (ix)]) ++ List.replicate (5 - (lg_sl ([.long (x), .int (ix)])).length) Slot.unset).toArray = ls at hl ⊢
  have hl : lv_has ls 5 [(0, .long (x)), (2, .int (ix))] := hl
  refine n_iconst (k := 0) hx hb dX3_lowestAt_0 (by decide) ?_
  refine lv_istore_n (lv' := [(3, .int (nI (0))), (0, .long (x)), (2, .int (ix))]) hx hb dX3_lowestAt_1 rfl hl (by decide) rfl (fun ls hl => ?_)
  refine n_iconst (k := 0) hx hb dX3_lowestAt_2 (by decide) ?_
  refine lv_istore (lv' := [(4, .int (nI (0))), (3, .int (nI (0))), (0, .long (x)), (2, .int (ix))]) hx hb dX3_lowestAt_3 hl (by decide) rfl (fun ls hl => ?_)
  have loop_5 : ∀ (n : Nat) (i ah : Nat), (i + n = 60) → (ah ≤ i) → (low x ix n i ah = low x ix 60 0 0) → ∀ (ls : Array Slot), lv_has ls 5 [(0, .long (x)), (2, .int (ix)), (3, .int (nI (ah))), (4, .int (nI (i)))] → W p l e (headSpec (codeW yX3_lowestAt cX3_lowestAt 5 (some .int)) ({ frames := 1, cells := 0, slots := 0, locals := 22 } : Room)).room s m ([.long (x), .int (ix)] : List Value).toArray below meth c s.heap [] 0 0 (MQ below (RoQ (some (.int (oi (low x ix 60 0 0)))) s.heap) ([.long (x), .int (ix)] : List Value).toArray s 0 0 RoF) (F0 m 5 ls []) := by
    intro n
    induction n with
    | zero =>
      intro i ah hin hah hres ls hl
      refine lv_iload hx hb dX3_lowestAt_5 (lv_at hl 3 rfl) ?_
      refine lv_bipush (v := nI 60) hx hb dX3_lowestAt_7 (by decide) ?_
      refine n_icmp_ge (x := i) (y := 60) (tgt := 38) hx hb dX3_lowestAt_9 (by decide) (by omega) (by decide) (fun c_1 => ?_) (fun c_1 => ?_)
      rotate_left
      · exfalso; omega
      refine lv_iconst (v := oi 0) hx hb dX3_lowestAt_38 (by decide) ?_
      exact ro_i hx hb hr hlocks (by rw [← hres]; rfl) dX3_lowestAt_39
    | succ n ih =>
      intro i ah hin hah hres ls hl
      refine lv_iload hx hb dX3_lowestAt_5 (lv_at hl 3 rfl) ?_
      refine lv_bipush (v := nI 60) hx hb dX3_lowestAt_7 (by decide) ?_
      refine n_icmp_ge (x := i) (y := 60) (tgt := 38) hx hb dX3_lowestAt_9 (by decide) (by omega) (by decide) (fun c_2 => ?_) (fun c_2 => ?_)
      · exfalso; omega
      refine lv_lload_n hx hb dX3_lowestAt_12 rfl (lv_at hl 0 rfl) ?_
      refine lv_iload hx hb dX3_lowestAt_13 (lv_at hl 3 rfl) ?_
      refine roS1 (v := .int (b2i (hl64 (x) (i)))) (As := [.long (x), .int (nI (i))]) (rest := []) (n := 2) ⟨hx, hb, hml, hown, htA⟩ (c_holds l D cI cZ sa (x) (i) s.heap ) (va_cwS 2 htA (gdS wd_464 wd_465 wd_1 wd_466) rfl rfl rfl (by decide +kernel) ⟨Nat.le_of_ble_eq_true rfl, Nat.le_of_ble_eq_true rfl⟩) hKK rfl hl.1 rfl (Nat.le_of_ble_eq_true rfl) dX3_lowestAt_15 (Nat.zero_le _) (Nat.zero_le _) ?_
      refine b_ifeq (b := hl64 (x) (i)) (tgt := 32) hx hb dX3_lowestAt_18 (by decide) (fun c_3 => ?_) (fun c_3 => ?_)
      · refine lv_iinc (v := nI (i + 1)) (lv' := [(4, .int (nI (i + 1))), (0, .long (x)), (2, .int (ix)), (3, .int (nI (ah)))]) hx hb dX3_lowestAt_32 hl (k := 3) rfl (n_inc (i) 1 rfl) (by decide) rfl (fun ls hl => ?_)
        refine lv_goto (tgt := 5) hx hb dX3_lowestAt_35 (by decide) ?_
        exact ih (i + 1) ah (by omega) (by omega) (by rw [← hres]; simp only [low, c_3, decide_true, decide_false, Bool.true_and, Bool.false_and, Bool.and_true, Bool.and_false, Bool.not_true, Bool.not_false, eq_self, not_true_eq_false, not_false_eq_true, cond_true, cond_false, ne_eq]) ls (lv_sub hl [1, 2, 3, 0] rfl)
      · refine lv_iload_n hx hb dX3_lowestAt_21 rfl (lv_at hl 2 rfl) ?_
        refine lv_iload_n hx hb dX3_lowestAt_22 rfl (lv_at hl 1 rfl) ?_
        refine lv_icmp_ne (x := nI (ah)) (y := ix) (tgt := 29) hx hb dX3_lowestAt_23 (by decide) (fun c_4 => ?_) (fun c_4 => ?_)
        · refine lv_iinc (v := nI (ah + 1)) (lv' := [(3, .int (nI (ah + 1))), (0, .long (x)), (2, .int (ix)), (4, .int (nI (i)))]) hx hb dX3_lowestAt_29 hl (k := 2) rfl (n_inc (ah) 1 rfl) (by decide) rfl (fun ls hl => ?_)
          refine lv_iinc (v := nI (i + 1)) (lv' := [(4, .int (nI (i + 1))), (3, .int (nI (ah + 1))), (0, .long (x)), (2, .int (ix))]) hx hb dX3_lowestAt_32 hl (k := 3) rfl (n_inc (i) 1 rfl) (by decide) rfl (fun ls hl => ?_)
          refine lv_goto (tgt := 5) hx hb dX3_lowestAt_35 (by decide) ?_
          exact ih (i + 1) (ah + 1) (by omega) (by omega) (by rw [← hres]; simp only [low, c_3, c_4, decide_true, decide_false, Bool.true_and, Bool.false_and, Bool.and_true, Bool.and_false, Bool.not_true, Bool.not_false, eq_self, not_true_eq_false, not_false_eq_true, cond_true, cond_false, ne_eq]) ls (lv_sub hl [2, 3, 1, 0] rfl)
        · refine lv_iload hx hb dX3_lowestAt_26 (lv_at hl 3 rfl) ?_
          exact ro_i hx hb hr hlocks (by rw [← hres]; simp only [low, c_3, c_4, decide_true, decide_false, Bool.true_and, Bool.false_and, Bool.and_true, Bool.and_false, Bool.not_true, Bool.not_false, eq_self, not_true_eq_false, not_false_eq_true, cond_true, cond_false, ne_eq]; rfl) dX3_lowestAt_28
  exact loop_5 60 0 0 (by omega) (by omega) rfl ls (lv_sub hl [2, 3, 1, 0] rfl)
set_option maxHeartbeats 4000000 in
set_option maxRecDepth 100000 in
theorem c_clientOf0 (l : Launch) (D : va_G) (cI cZ : ClassId) (sa : Nat → Nat) (q : Nat → Nat) (σ κ0 κ1 : ST) (H : Heap) (hP : va_P D vwCl (wX q cI cZ σ κ0 κ1) H)  : Met l yX3_clientOf (codeW yX3_clientOf cX3_clientOf 2 (some (.object "MailFollower$Client"))) ({ frames := 0, cells := 0, slots := 0, locals := 0 } : Room) (RoP D cI cZ sa H [.ref (q 0), .int (nI (0))]) (RoQ (some (.ref (q 12))) H) 0 0 RoF := by
  refine Met.ofW (cc := cX3_clientOf) (maxL := 2) (ret := (some (.object "MailFollower$Client"))) (by decide) rfl ?_
  intro p e s m args below meth c s₁ B hml hv
  obtain ⟨rfl, hH, hKK⟩ := hv
  subst hH
  have hx := B.exec
  have hb := B.bytes
  have hr := B.returns
  have htA : ∀ w ∈ WA, w.before _ s = true := fun w h => atoms_spec (ws := (codeW yX3_clientOf cX3_clientOf 2 (some (.object "MailFollower$Client")))) B.pre w (List.mem_cons_of_mem _ h)
  have hown : s.vm.findClass RX3 = some m.cls := findClass_of_methodNamed B.named
  have hlocks := B.notSynchronized
  have hl := lv_entry ([.ref (q 0), .int (nI (0))]) (n := 2) (Nat.le_of_ble_eq_true rfl)
  rw [lg_entry_eq]
  generalize (lg_sl ([.ref (q 0), .int (nI (0))]) ++ List.replicate (2 - (lg_sl ([.ref (q 0), .int (nI (0))])).length) Slot.unset).toArray = ls at hl ⊢
  have hl : lv_has ls 2 [(0, .ref (q 0)), (1, .int (nI (0)))] := hl
  refine lv_iload_n hx hb dX3_clientOf_0 rfl (lv_at hl 1 rfl) ?_
  refine b_ifne (b := false) (tgt := 11) hx hb dX3_clientOf_1 (by decide) (fun c_1 => ?_) (fun c_1 => ?_)
  · exact absurd c_1 (by decide)
  refine lv_aload_n hx hb dX3_clientOf_4 rfl (lv_at hl 0 rfl) ?_
  refine va_get (D := D) (ci := 3) (v := .ref (q 12)) (C := RX3) (T := TX3) (N := 3) hx hb htA uwX3 hown hKK.1 hP 0 rfl rfl 1 (by decide) (htA _ wd_127) (fun _ h9 => h9) rfl dX3_clientOf_5 ?_
  refine lv_goto (tgt := 15) hx hb dX3_clientOf_8 (by decide) ?_
  exact ro_r hx hb hr hlocks (rfl) dX3_clientOf_15
set_option maxHeartbeats 4000000 in
set_option maxRecDepth 100000 in
theorem c_clientOf1 (l : Launch) (D : va_G) (cI cZ : ClassId) (sa : Nat → Nat) (q : Nat → Nat) (σ κ0 κ1 : ST) (H : Heap) (hP : va_P D vwCl (wX q cI cZ σ κ0 κ1) H)  : Met l yX3_clientOf (codeW yX3_clientOf cX3_clientOf 2 (some (.object "MailFollower$Client"))) ({ frames := 0, cells := 0, slots := 0, locals := 0 } : Room) (RoP D cI cZ sa H [.ref (q 0), .int (nI (1))]) (RoQ (some (.ref (q 18))) H) 0 0 RoF := by
  refine Met.ofW (cc := cX3_clientOf) (maxL := 2) (ret := (some (.object "MailFollower$Client"))) (by decide) rfl ?_
  intro p e s m args below meth c s₁ B hml hv
  obtain ⟨rfl, hH, hKK⟩ := hv
  subst hH
  have hx := B.exec
  have hb := B.bytes
  have hr := B.returns
  have htA : ∀ w ∈ WA, w.before _ s = true := fun w h => atoms_spec (ws := (codeW yX3_clientOf cX3_clientOf 2 (some (.object "MailFollower$Client")))) B.pre w (List.mem_cons_of_mem _ h)
  have hown : s.vm.findClass RX3 = some m.cls := findClass_of_methodNamed B.named
  have hlocks := B.notSynchronized
  have hl := lv_entry ([.ref (q 0), .int (nI (1))]) (n := 2) (Nat.le_of_ble_eq_true rfl)
  rw [lg_entry_eq]
  generalize (lg_sl ([.ref (q 0), .int (nI (1))]) ++ List.replicate (2 - (lg_sl ([.ref (q 0), .int (nI (1))])).length) Slot.unset).toArray = ls at hl ⊢
  have hl : lv_has ls 2 [(0, .ref (q 0)), (1, .int (nI (1)))] := hl
  refine lv_iload_n hx hb dX3_clientOf_0 rfl (lv_at hl 1 rfl) ?_
  refine b_ifne (b := true) (tgt := 11) hx hb dX3_clientOf_1 (by decide) (fun c_1 => ?_) (fun c_1 => ?_)
  rotate_left
  · exact absurd c_1 (by decide)
  refine lv_aload_n hx hb dX3_clientOf_11 rfl (lv_at hl 0 rfl) ?_
  refine va_get (D := D) (ci := 3) (v := .ref (q 18)) (C := RX3) (T := TX3) (N := 3) hx hb htA uwX3 hown hKK.1 hP 0 rfl rfl 2 (by decide) (htA _ wd_128) (fun _ h9 => h9) rfl dX3_clientOf_12 ?_
  exact ro_r hx hb hr hlocks (rfl) dX3_clientOf_15
set_option maxHeartbeats 4000000 in
set_option maxRecDepth 100000 in
theorem c_reqMail_t (l : Launch) (D : va_G) (cI cZ : ClassId) (sa : Nat → Nat) (v : Bool) (H : Heap) (hv9 : v = true) : Met l yX3_requireMail (codeW yX3_requireMail cX3_requireMail 1 none) ({ frames := 0, cells := 0, slots := 0, locals := 0 } : Room) (RoP D cI cZ sa H [.int (b2i (v))]) (RoQ none H) 0 0 RoF := by
  refine Met.ofW (cc := cX3_requireMail) (maxL := 1) (ret := none) (by decide) rfl ?_
  intro p e s m args below meth c s₁ B hml hv
  obtain ⟨rfl, hH, hKK⟩ := hv
  subst hH
  have hx := B.exec
  have hb := B.bytes
  have hr := B.returns
  have htA : ∀ w ∈ WA, w.before _ s = true := fun w h => atoms_spec (ws := (codeW yX3_requireMail cX3_requireMail 1 none)) B.pre w (List.mem_cons_of_mem _ h)
  have hown : s.vm.findClass RX3 = some m.cls := findClass_of_methodNamed B.named
  have hlocks := B.notSynchronized
  have hl := lv_entry ([.int (b2i (v))]) (n := 1) (Nat.le_of_ble_eq_true rfl)
  rw [lg_entry_eq]
  generalize (lg_sl ([.int (b2i (v))]) ++ List.replicate (1 - (lg_sl ([.int (b2i (v))])).length) Slot.unset).toArray = ls at hl ⊢
  have hl : lv_has ls 1 [(0, .int (b2i (v)))] := hl
  refine lv_iload_n hx hb dX3_requireMail_0 rfl (lv_at hl 0 rfl) ?_
  refine b_ifne (b := v) (tgt := 14) hx hb dX3_requireMail_1 (by decide) (fun c_1 => ?_) (fun c_1 => ?_)
  rotate_left
  · exact absurd (c_1.symm.trans hv9) (by decide)
  exact ro_v hx hb hr hlocks dX3_requireMail_14
set_option maxHeartbeats 4000000 in
set_option maxRecDepth 100000 in
theorem c_reqMail_f (l : Launch) (D : va_G) (cI cZ : ClassId) (sa : Nat → Nat) (hst9 : l.stackTraces = false) (v : Bool) (H : Heap) (hv9 : v = false) : vx_Met l yX3_requireMail (codeW yX3_requireMail cX3_requireMail 1 none) ({ frames := 6, cells := 1, slots := 6, locals := 82 } : Room) (ThP D cI cZ sa H [.int (b2i (v))]) NoQ (ThX "java/lang/IndexOutOfBoundsException" H) 1 6 RoF := by
  refine vx_ofW (cc := cX3_requireMail) (maxL := 1) (ret := none) (by decide) rfl ?_
  intro p e s m args below meth c s₁ B hml hnt hv
  obtain ⟨rfl, hH, hKK, hZ⟩ := hv
  subst hH
  have hx := B.exec
  have hb := B.bytes
  have hr := B.returns
  have htA : ∀ w ∈ WA, w.before _ s = true := fun w h => atoms_spec (ws := (codeW yX3_requireMail cX3_requireMail 1 none)) B.pre w (List.mem_cons_of_mem _ h)
  have hown : s.vm.findClass RX3 = some m.cls := findClass_of_methodNamed B.named
  have hlocks := B.notSynchronized
  have hl := lv_entry ([.int (b2i (v))]) (n := 1) (Nat.le_of_ble_eq_true rfl)
  rw [lg_entry_eq]
  generalize (lg_sl ([.int (b2i (v))]) ++ List.replicate (1 - (lg_sl ([.int (b2i (v))])).length) Slot.unset).toArray = ls at hl ⊢
  have hl : lv_has ls 1 [(0, .int (b2i (v)))] := hl
  refine lv_iload_n hx hb dX3_requireMail_0 rfl (lv_at hl 0 rfl) ?_
  refine b_ifne (b := v) (tgt := 14) hx hb dX3_requireMail_1 (by decide) (fun c_1 => ?_) (fun c_1 => ?_)
  · exact absurd (c_1.symm.trans hv9) (by decide)
  exact thI_throw (pc := 4) (is := 222) (text := "there is no such mail") (sa := sa 2) hx hb hst9 hown hKK hZ htA (ex_s222 hKK.2) (hl.1.trans hml.symm) dX3_requireMail_4 dX3_requireMail_7 dX3_requireMail_8 dX3_requireMail_10 dX3_requireMail_13 hnt hlocks (Nat.le_of_ble_eq_true rfl) (Nat.le_of_ble_eq_true rfl) (Nat.le_of_ble_eq_true rfl) (Nat.le_of_ble_eq_true rfl)
set_option maxHeartbeats 4000000 in
set_option maxRecDepth 100000 in
theorem c_reqClient_t (l : Launch) (D : va_G) (cI cZ : ClassId) (sa : Nat → Nat) (x : Int32) (H : Heap) (hv9 : iw (x) (nI (0)) (nI (1)) = true) : Met l yX3_requireClient (codeW yX3_requireClient cX3_requireClient 1 none) ({ frames := 2, cells := 0, slots := 0, locals := 42 } : Room) (RoP D cI cZ sa H [.int (x)]) (RoQ none H) 0 0 RoF := by
  refine Met.ofW (cc := cX3_requireClient) (maxL := 1) (ret := none) (by decide) rfl ?_
  intro p e s m args below meth c s₁ B hml hv
  obtain ⟨rfl, hH, hKK⟩ := hv
  subst hH
  have hx := B.exec
  have hb := B.bytes
  have hr := B.returns
  have htA : ∀ w ∈ WA, w.before _ s = true := fun w h => atoms_spec (ws := (codeW yX3_requireClient cX3_requireClient 1 none)) B.pre w (List.mem_cons_of_mem _ h)
  have hown : s.vm.findClass RX3 = some m.cls := findClass_of_methodNamed B.named
  have hlocks := B.notSynchronized
  have hl := lv_entry ([.int (x)]) (n := 1) (Nat.le_of_ble_eq_true rfl)
  rw [lg_entry_eq]
  generalize (lg_sl ([.int (x)]) ++ List.replicate (1 - (lg_sl ([.int (x)])).length) Slot.unset).toArray = ls at hl ⊢
  have hl : lv_has ls 1 [(0, .int (x))] := hl
  refine lv_iload_n hx hb dX3_requireClient_0 rfl (lv_at hl 0 rfl) ?_
  refine roS1 (v := .int (b2i (iw (x) (nI (0)) (nI (1))))) (As := [.int (x)]) (rest := []) (n := 1) ⟨hx, hb, hml, hown, htA⟩ (c_isClient l D cI cZ sa (x) s.heap ) (va_cwS 1 htA (gdS wd_529 wd_530 wd_1 wd_531) rfl rfl rfl (by decide +kernel) ⟨Nat.le_of_ble_eq_true rfl, Nat.le_of_ble_eq_true rfl⟩) hKK rfl hl.1 rfl (Nat.le_of_ble_eq_true rfl) dX3_requireClient_1 (Nat.zero_le _) (Nat.zero_le _) ?_
  refine b_ifne (b := iw (x) (nI (0)) (nI (1))) (tgt := 17) hx hb dX3_requireClient_4 (by decide) (fun c_1 => ?_) (fun c_1 => ?_)
  rotate_left
  · exact absurd (c_1.symm.trans hv9) (by decide)
  exact ro_v hx hb hr hlocks dX3_requireClient_17
set_option maxHeartbeats 4000000 in
set_option maxRecDepth 100000 in
theorem c_reqClient_f (l : Launch) (D : va_G) (cI cZ : ClassId) (sa : Nat → Nat) (hst9 : l.stackTraces = false) (x : Int32) (H : Heap) (hv9 : iw (x) (nI (0)) (nI (1)) = false) : vx_Met l yX3_requireClient (codeW yX3_requireClient cX3_requireClient 1 none) ({ frames := 6, cells := 1, slots := 6, locals := 82 } : Room) (ThP D cI cZ sa H [.int (x)]) NoQ (ThX "java/lang/IllegalArgumentException" H) 1 6 RoF := by
  refine vx_ofW (cc := cX3_requireClient) (maxL := 1) (ret := none) (by decide) rfl ?_
  intro p e s m args below meth c s₁ B hml hnt hv
  obtain ⟨rfl, hH, hKK, hZ⟩ := hv
  subst hH
  have hx := B.exec
  have hb := B.bytes
  have hr := B.returns
  have htA : ∀ w ∈ WA, w.before _ s = true := fun w h => atoms_spec (ws := (codeW yX3_requireClient cX3_requireClient 1 none)) B.pre w (List.mem_cons_of_mem _ h)
  have hown : s.vm.findClass RX3 = some m.cls := findClass_of_methodNamed B.named
  have hlocks := B.notSynchronized
  have hl := lv_entry ([.int (x)]) (n := 1) (Nat.le_of_ble_eq_true rfl)
  rw [lg_entry_eq]
  generalize (lg_sl ([.int (x)]) ++ List.replicate (1 - (lg_sl ([.int (x)])).length) Slot.unset).toArray = ls at hl ⊢
  have hl : lv_has ls 1 [(0, .int (x))] := hl
  refine lv_iload_n hx hb dX3_requireClient_0 rfl (lv_at hl 0 rfl) ?_
  refine roS1 (v := .int (b2i (iw (x) (nI (0)) (nI (1))))) (As := [.int (x)]) (rest := []) (n := 1) ⟨hx, hb, hml, hown, htA⟩ (c_isClient l D cI cZ sa (x) s.heap ) (va_cwS 1 htA (gdS wd_529 wd_530 wd_1 wd_531) rfl rfl rfl (by decide +kernel) ⟨Nat.le_of_ble_eq_true rfl, Nat.le_of_ble_eq_true rfl⟩) hKK rfl hl.1 rfl (Nat.le_of_ble_eq_true rfl) dX3_requireClient_1 (Nat.zero_le _) (Nat.zero_le _) ?_
  refine b_ifne (b := iw (x) (nI (0)) (nI (1))) (tgt := 17) hx hb dX3_requireClient_4 (by decide) (fun c_1 => ?_) (fun c_1 => ?_)
  · exact absurd (c_1.symm.trans hv9) (by decide)
  exact thA_throw (pc := 7) (is := 232) (text := "client is out of range") (sa := sa 17) hx hb hst9 hown hKK hZ htA (ex_s232 hKK.2) (hl.1.trans hml.symm) dX3_requireClient_7 dX3_requireClient_10 dX3_requireClient_11 dX3_requireClient_13 dX3_requireClient_16 hnt hlocks (Nat.le_of_ble_eq_true rfl) (Nat.le_of_ble_eq_true rfl) (Nat.le_of_ble_eq_true rfl) (Nat.le_of_ble_eq_true rfl)
set_option maxHeartbeats 4000000 in
set_option maxRecDepth 100000 in
theorem c_reqTell_t (l : Launch) (D : va_G) (cI cZ : ClassId) (sa : Nat → Nat) (q : Nat → Nat) (σ κ0 κ1 : ST) (st : Nat) (H : Heap) (hP : va_P D vwCl (wX q cI cZ σ κ0 κ1) H) (hB : ∀ k i, σ k i < 1073741824) (hst : st ≤ σ 7 0) (hv9 : decide (σ 7 0 - st ≤ 40) = true) : Met l yX3_requireTelling (codeW yX3_requireTelling cX3_requireTelling 2 none) ({ frames := 1, cells := 0, slots := 0, locals := 21 } : Room) (RoP D cI cZ sa H [.ref (q 0), .int (nI (st))]) (RoQ none H) 0 0 RoF := by
  refine Met.ofW (cc := cX3_requireTelling) (maxL := 2) (ret := none) (by decide) rfl ?_
  intro p e s m args below meth c s₁ B hml hv
  obtain ⟨rfl, hH, hKK⟩ := hv
  subst hH
  have hx := B.exec
  have hb := B.bytes
  have hr := B.returns
  have htA : ∀ w ∈ WA, w.before _ s = true := fun w h => atoms_spec (ws := (codeW yX3_requireTelling cX3_requireTelling 2 none)) B.pre w (List.mem_cons_of_mem _ h)
  have hown : s.vm.findClass RX3 = some m.cls := findClass_of_methodNamed B.named
  have hlocks := B.notSynchronized
  have hl := lv_entry ([.ref (q 0), .int (nI (st))]) (n := 2) (Nat.le_of_ble_eq_true rfl)
  rw [lg_entry_eq]
  generalize (lg_sl ([.ref (q 0), .int (nI (st))]) ++ List.replicate (2 - (lg_sl ([.ref (q 0), .int (nI (st))])).length) Slot.unset).toArray = ls at hl ⊢
  have hl : lv_has ls 2 [(0, .ref (q 0)), (1, .int (nI (st)))] := hl
  refine lv_aload_n hx hb dX3_requireTelling_0 rfl (lv_at hl 0 rfl) ?_
  refine va_get (D := D) (ci := 3) (v := .ref (q 1)) (C := RX3) (T := TX3) (N := 3) hx hb htA uwX3 hown hKK.1 hP 0 rfl rfl 0 (by decide) (htA _ wd_126) (fun _ h9 => h9) rfl dX3_requireTelling_1 ?_
  refine va_getN (D := D) (ci := 2) (v := .ref (q 7)) (C := RX2) (T := TX2) (N := 7) hx hb htA uwX2 hown hKK.1 hP 1 rfl rfl 5 (by decide) (va_Nw.use rfl (ex_RX3_85 hKK.2)) (fun _ h9 => h9) rfl dX3_requireTelling_4 ?_
  refine lv_iload_n hx hb dX3_requireTelling_7 rfl (lv_at hl 1 rfl) ?_
  refine roV1 (v := .int (b2i (decide (σ 7 0 - st ≤ 40)))) (As := [.int (nI (st))]) (rest := []) (n := 1) ⟨hx, hb, hml, hown, htA⟩ (c_reach l D cI cZ sa q σ st s.heap (X_SS hP) hB hst) (cwV 1 htA (gdV wd_409 wd_410 wd_411 wd_3 wd_412) rfl rfl rfl (by decide +kernel) ⟨Nat.le_of_ble_eq_true rfl, Nat.le_of_ble_eq_true rfl⟩) hKK hP 7 rfl rfl rfl hl.1 rfl (Nat.le_of_ble_eq_true rfl) dX3_requireTelling_8 (Nat.zero_le _) (Nat.zero_le _) ?_
  refine b_ifne (b := decide (σ 7 0 - st ≤ 40)) (tgt := 24) hx hb dX3_requireTelling_11 (by decide) (fun c_1 => ?_) (fun c_1 => ?_)
  rotate_left
  · exact absurd (c_1.symm.trans hv9) (by decide)
  exact ro_v hx hb hr hlocks dX3_requireTelling_24
set_option maxHeartbeats 4000000 in
set_option maxRecDepth 100000 in
theorem c_reqTell_f (l : Launch) (D : va_G) (cI cZ : ClassId) (sa : Nat → Nat) (hst9 : l.stackTraces = false) (q : Nat → Nat) (σ κ0 κ1 : ST) (st : Nat) (H : Heap) (hP : va_P D vwCl (wX q cI cZ σ κ0 κ1) H) (hB : ∀ k i, σ k i < 1073741824) (hst : st ≤ σ 7 0) (hv9 : decide (σ 7 0 - st ≤ 40) = false) : vx_Met l yX3_requireTelling (codeW yX3_requireTelling cX3_requireTelling 2 none) ({ frames := 6, cells := 1, slots := 6, locals := 82 } : Room) (ThP D cI cZ sa H [.ref (q 0), .int (nI (st))]) NoQ (ThX "java/lang/IllegalStateException" H) 1 6 RoF := by
  refine vx_ofW (cc := cX3_requireTelling) (maxL := 2) (ret := none) (by decide) rfl ?_
  intro p e s m args below meth c s₁ B hml hnt hv
  obtain ⟨rfl, hH, hKK, hZ⟩ := hv
  subst hH
  have hx := B.exec
  have hb := B.bytes
  have hr := B.returns
  have htA : ∀ w ∈ WA, w.before _ s = true := fun w h => atoms_spec (ws := (codeW yX3_requireTelling cX3_requireTelling 2 none)) B.pre w (List.mem_cons_of_mem _ h)
  have hown : s.vm.findClass RX3 = some m.cls := findClass_of_methodNamed B.named
  have hlocks := B.notSynchronized
  have hl := lv_entry ([.ref (q 0), .int (nI (st))]) (n := 2) (Nat.le_of_ble_eq_true rfl)
  rw [lg_entry_eq]
  generalize (lg_sl ([.ref (q 0), .int (nI (st))]) ++ List.replicate (2 - (lg_sl ([.ref (q 0), .int (nI (st))])).length) Slot.unset).toArray = ls at hl ⊢
  have hl : lv_has ls 2 [(0, .ref (q 0)), (1, .int (nI (st)))] := hl
  refine lv_aload_n hx hb dX3_requireTelling_0 rfl (lv_at hl 0 rfl) ?_
  refine va_get (D := D) (ci := 3) (v := .ref (q 1)) (C := RX3) (T := TX3) (N := 3) hx hb htA uwX3 hown hKK.1 hP 0 rfl rfl 0 (by decide) (htA _ wd_126) (fun _ h9 => h9) rfl dX3_requireTelling_1 ?_
  refine va_getN (D := D) (ci := 2) (v := .ref (q 7)) (C := RX2) (T := TX2) (N := 7) hx hb htA uwX2 hown hKK.1 hP 1 rfl rfl 5 (by decide) (va_Nw.use rfl (ex_RX3_85 hKK.2)) (fun _ h9 => h9) rfl dX3_requireTelling_4 ?_
  refine lv_iload_n hx hb dX3_requireTelling_7 rfl (lv_at hl 1 rfl) ?_
  refine roV1 (v := .int (b2i (decide (σ 7 0 - st ≤ 40)))) (As := [.int (nI (st))]) (rest := []) (n := 1) ⟨hx, hb, hml, hown, htA⟩ (c_reach l D cI cZ sa q σ st s.heap (X_SS hP) hB hst) (cwV 1 htA (gdV wd_409 wd_410 wd_411 wd_3 wd_412) rfl rfl rfl (by decide +kernel) ⟨Nat.le_of_ble_eq_true rfl, Nat.le_of_ble_eq_true rfl⟩) hKK hP 7 rfl rfl rfl hl.1 rfl (Nat.le_of_ble_eq_true rfl) dX3_requireTelling_8 (Nat.zero_le _) (Nat.zero_le _) ?_
  refine b_ifne (b := decide (σ 7 0 - st ≤ 40)) (tgt := 24) hx hb dX3_requireTelling_11 (by decide) (fun c_1 => ?_) (fun c_1 => ?_)
  · exact absurd (c_1.symm.trans hv9) (by decide)
  exact thS_throw (pc := 14) (is := 234) (text := "the server cannot tell what changed") (sa := sa 10) hx hb hst9 hown hKK hZ htA (ex_s234 hKK.2) (hl.1.trans hml.symm) dX3_requireTelling_14 dX3_requireTelling_17 dX3_requireTelling_18 dX3_requireTelling_20 dX3_requireTelling_23 hnt hlocks (Nat.le_of_ble_eq_true rfl) (Nat.le_of_ble_eq_true rfl) (Nat.le_of_ble_eq_true rfl) (Nat.le_of_ble_eq_true rfl)
