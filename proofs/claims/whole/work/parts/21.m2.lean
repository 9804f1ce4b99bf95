set_option maxHeartbeats 4000000 in
set_option maxRecDepth 100000 in
theorem m_count (l : Launch) (D : va_G) (cI cZ : ClassId) (sa : Nat → Nat) (q : Nat → Nat) (μ : ST) (b0 w0 : Nat) (H : Heap) (hP : va_P D vwCl (wM q cI cZ μ) H) (hB : ∀ k i, μ k i < 1073741824) (hm0 : μ 0 0 ≤ 60) (hw : w0 ≤ 2 ^ 31) : Met l yX4_count (codeW yX4_count cX4_count 5 (some .int)) ({ frames := 2, cells := 0, slots := 0, locals := 44 } : Room) (RoP D cI cZ sa H [.ref (q 0), .int (nI (b0)), .int (oi (w0))]) (RoQ (some (.int (nI (cnt (fun m9 => ifd μ b0 w0 m9) (μ 0 0))))) H) 0 0 RoF := by
  refine Met.ofW (cc := cX4_count) (maxL := 5) (ret := (some .int)) (by decide) rfl ?_
  intro p e s m args below meth c s₁ B hml hv
  obtain ⟨rfl, hH, hKK⟩ := hv
  subst hH
  have hx := B.exec
  have hb := B.bytes
  have hr := B.returns
  have htA : ∀ w ∈ WA, w.before _ s = true := fun w h => atoms_spec (ws := (codeW yX4_count cX4_count 5 (some .int))) B.pre w (List.mem_cons_of_mem _ h)
  have hown : s.vm.findClass RX4 = some m.cls := findClass_of_methodNamed B.named
  have hlocks := B.notSynchronized
  have hl := lv_entry ([.ref (q 0), .int (nI (b0)), .int (oi (w0))]) (n := 5) (Nat.le_of_ble_eq_true rfl)
  rw [lg_entry_eq]
  generalize (lg_sl ([.ref (q 0), .int (nI (b0)), .int (oi (w0))]) ++ List.replicate (5 - (lg_sl ([.ref (q 0), .int (nI (b0)), .int (oi (w0))])).length) Slot.unset).toArray = ls at hl ⊢
  have hl : lv_has ls 5 [(0, .ref (q 0)), (1, .int (nI (b0))), (2, .int (oi (w0)))] := hl
  refine n_iconst (k := 0) hx hb dX4_count_0 (by decide) ?_
  refine lv_istore_n (lv' := [(3, .int (nI (0))), (0, .ref (q 0)), (1, .int (nI (b0))), (2, .int (oi (w0)))]) hx hb dX4_count_1 rfl hl (by decide) rfl (fun ls hl => ?_)
  refine n_iconst (k := 0) hx hb dX4_count_2 (by decide) ?_
  refine lv_istore (lv' := [(4, .int (nI (0))), (3, .int (nI (0))), (0, .ref (q 0)), (1, .int (nI (b0))), (2, .int (oi (w0)))]) hx hb dX4_count_3 hl (by decide) rfl (fun ls hl => ?_)
  have loop_5 : ∀ (n : Nat) (i : Nat), (i + n = μ 0 0) → ∀ (ls : Array Slot), lv_has ls 5 [(0, .ref (q 0)), (1, .int (nI (b0))), (2, .int (oi (w0))), (3, .int (nI (cnt (fun m9 => ifd μ b0 w0 m9) i))), (4, .int (nI (i)))] → W p l e (headSpec (codeW yX4_count cX4_count 5 (some .int)) ({ frames := 2, cells := 0, slots := 0, locals := 44 } : Room)).room s m ([.ref (q 0), .int (nI (b0)), .int (oi (w0))] : List Value).toArray below meth c s.heap [] 0 0 (MQ below (RoQ (some (.int (nI (cnt (fun m9 => ifd μ b0 w0 m9) (μ 0 0))))) s.heap) ([.ref (q 0), .int (nI (b0)), .int (oi (w0))] : List Value).toArray s 0 0 RoF) (F0 m 5 ls []) := by
    intro n
    induction n with
    | zero =>
      intro i hin ls hl
      refine lv_iload hx hb dX4_count_5 (lv_at hl 4 rfl) ?_
      refine lv_aload_n hx hb dX4_count_7 rfl (lv_at hl 0 rfl) ?_
      refine va_get (D := D) (ci := 4) (v := .int (nI (μ 0 0))) (C := RX4) (T := TX4) (N := 26) hx hb htA uwX4 hown hKK.1 hP 0 rfl rfl 6 (by decide) (htA _ wd_651) (fun _ h9 => h9) rfl dX4_count_8 ?_
      refine n_icmp_ge (x := i) (y := μ 0 0) (tgt := 39) hx hb dX4_count_11 (by decide) (by omega) (Nat.lt_trans (hB 0 0) (by decide)) (fun c_1 => ?_) (fun c_1 => ?_)
      rotate_left
      · exfalso; omega
      refine lv_iload_n hx hb dX4_count_39 rfl (lv_at hl 3 rfl) ?_
      exact ro_i hx hb hr hlocks (by rw [show i = μ 0 0 by omega]) dX4_count_40
    | succ n ih =>
      intro i hin ls hl
      refine lv_iload hx hb dX4_count_5 (lv_at hl 4 rfl) ?_
      refine lv_aload_n hx hb dX4_count_7 rfl (lv_at hl 0 rfl) ?_
      refine va_get (D := D) (ci := 4) (v := .int (nI (μ 0 0))) (C := RX4) (T := TX4) (N := 26) hx hb htA uwX4 hown hKK.1 hP 0 rfl rfl 6 (by decide) (htA _ wd_651) (fun _ h9 => h9) rfl dX4_count_8 ?_
      refine n_icmp_ge (x := i) (y := μ 0 0) (tgt := 39) hx hb dX4_count_11 (by decide) (by omega) (Nat.lt_trans (hB 0 0) (by decide)) (fun c_2 => ?_) (fun c_2 => ?_)
      · exfalso; omega
      refine lv_iload_n hx hb dX4_count_14 rfl (lv_at hl 3 rfl) ?_
      refine lv_aload_n hx hb dX4_count_15 rfl (lv_at hl 0 rfl) ?_
      refine lv_iload hx hb dX4_count_16 (lv_at hl 4 rfl) ?_
      refine lv_iload_n hx hb dX4_count_18 rfl (lv_at hl 1 rfl) ?_
      refine lv_iload_n hx hb dX4_count_19 rfl (lv_at hl 2 rfl) ?_
      refine roV1 (v := .int (b2i (ifd μ b0 w0 i))) (As := [.int (nI (i)), .int (nI (b0)), .int (oi (w0))]) (rest := [.int (nI (cnt (fun m9 => ifd μ b0 w0 m9) i))]) (n := 3) ⟨hx, hb, hml, hown, htA⟩ (m_isFound l D cI cZ sa q μ i b0 w0 s.heap hP hB hm0 (by omega) hw) (cwV 3 htA (gdV wd_794 wd_796 wp_14 wd_5 wd_797) rfl rfl rfl (by decide +kernel) ⟨Nat.le_of_ble_eq_true rfl, Nat.le_of_ble_eq_true rfl⟩) hKK hP 0 rfl rfl rfl hl.1 rfl (Nat.le_of_ble_eq_true rfl) dX4_count_20 (Nat.zero_le _) (Nat.zero_le _) ?_
      refine b_ifeq (b := ifd μ b0 w0 i) (tgt := 30) hx hb dX4_count_23 (by decide) (fun c_3 => ?_) (fun c_3 => ?_)
      · refine n_iconst (k := 0) hx hb dX4_count_30 (by decide) ?_
        refine n_iadd hx hb dX4_count_31 ?_
        refine lv_istore_n (lv' := [(3, .int (nI ((cnt (fun m9 => ifd μ b0 w0 m9) i) + 0))), (0, .ref (q 0)), (1, .int (nI (b0))), (2, .int (oi (w0))), (4, .int (nI (i)))]) hx hb dX4_count_32 rfl hl (by decide) rfl (fun ls hl => ?_)
        refine lv_iinc (v := nI (i + 1)) (lv' := [(4, .int (nI (i + 1))), (3, .int (nI ((cnt (fun m9 => ifd μ b0 w0 m9) i) + 0))), (0, .ref (q 0)), (1, .int (nI (b0))), (2, .int (oi (w0)))]) hx hb dX4_count_33 hl (k := 4) rfl (n_inc (i) 1 rfl) (by decide) rfl (fun ls hl => ?_)
        refine lv_goto (tgt := 5) hx hb dX4_count_36 (by decide) ?_
        have e : cnt (fun m9 => ifd μ b0 w0 m9) i = cnt (fun m9 => ifd μ b0 w0 m9) (i + 1) := cnt_f (by simp only [c_2, c_3, decide_true, decide_false, Bool.true_and, Bool.false_and, Bool.and_true, Bool.and_false, Bool.not_true, Bool.not_false, eq_self, not_true_eq_false, not_false_eq_true, cond_true, cond_false, ne_eq])
        have hl : lv_has ls _ _ := hl
        rw [e] at hl
        exact ih (i + 1) (by omega) ls (lv_sub hl [2, 3, 4, 1, 0] rfl)
      · refine n_iconst (k := 1) hx hb dX4_count_26 (by decide) ?_
        refine lv_goto (tgt := 31) hx hb dX4_count_27 (by decide) ?_
        refine n_iadd hx hb dX4_count_31 ?_
        refine lv_istore_n (lv' := [(3, .int (nI ((cnt (fun m9 => ifd μ b0 w0 m9) i) + 1))), (0, .ref (q 0)), (1, .int (nI (b0))), (2, .int (oi (w0))), (4, .int (nI (i)))]) hx hb dX4_count_32 rfl hl (by decide) rfl (fun ls hl => ?_)
        refine lv_iinc (v := nI (i + 1)) (lv' := [(4, .int (nI (i + 1))), (3, .int (nI ((cnt (fun m9 => ifd μ b0 w0 m9) i) + 1))), (0, .ref (q 0)), (1, .int (nI (b0))), (2, .int (oi (w0)))]) hx hb dX4_count_33 hl (k := 4) rfl (n_inc (i) 1 rfl) (by decide) rfl (fun ls hl => ?_)
        refine lv_goto (tgt := 5) hx hb dX4_count_36 (by decide) ?_
        have e : cnt (fun m9 => ifd μ b0 w0 m9) i + 1 = cnt (fun m9 => ifd μ b0 w0 m9) (i + 1) := cnt_t (by simp only [c_2, c_3, decide_true, decide_false, Bool.true_and, Bool.false_and, Bool.and_true, Bool.and_false, Bool.not_true, Bool.not_false, eq_self, not_true_eq_false, not_false_eq_true, cond_true, cond_false, ne_eq])
        rw [e] at hl
        exact ih (i + 1) (by omega) ls (lv_sub hl [2, 3, 4, 1, 0] rfl)
  exact loop_5 (μ 0 0) 0 (by omega) ls (lv_sub hl [2, 3, 4, 1, 0] rfl)
set_option maxHeartbeats 4000000 in
set_option maxRecDepth 100000 in
theorem m_isState (l : Launch) (D : va_G) (cI cZ : ClassId) (sa : Nat → Nat) (q : Nat → Nat) (μ : ST) (x : Int32) (H : Heap) (hP : va_P D vwCl (wM q cI cZ μ) H)  : Met l yX4_isState (codeW yX4_isState cX4_isState 2 (some .boolean)) ({ frames := 1, cells := 0, slots := 0, locals := 22 } : Room) (RoP D cI cZ sa H [.ref (q 0), .int (x)]) (RoQ (some (.int (b2i (iw (x) (nI (0)) (nI (μ 0 1)))))) H) 0 0 RoF := by
  refine Met.ofW (cc := cX4_isState) (maxL := 2) (ret := (some .boolean)) (by decide) rfl ?_
  intro p e s m args below meth c s₁ B hml hv
  obtain ⟨rfl, hH, hKK⟩ := hv
  subst hH
  have hx := B.exec
  have hb := B.bytes
  have hr := B.returns
  have htA : ∀ w ∈ WA, w.before _ s = true := fun w h => atoms_spec (ws := (codeW yX4_isState cX4_isState 2 (some .boolean))) B.pre w (List.mem_cons_of_mem _ h)
  have hown : s.vm.findClass RX4 = some m.cls := findClass_of_methodNamed B.named
  have hlocks := B.notSynchronized
  have hl := lv_entry ([.ref (q 0), .int (x)]) (n := 2) (Nat.le_of_ble_eq_true rfl)
  rw [lg_entry_eq]
  generalize (lg_sl ([.ref (q 0), .int (x)]) ++ List.replicate (2 - (lg_sl ([.ref (q 0), .int (x)])).length) Slot.unset).toArray = ls at hl ⊢
  have hl : lv_has ls 2 [(0, .ref (q 0)), (1, .int (x))] := hl
  refine lv_iload_n hx hb dX4_isState_0 rfl (lv_at hl 1 rfl) ?_
  refine n_iconst (k := 0) hx hb dX4_isState_1 (by decide) ?_
  refine lv_aload_n hx hb dX4_isState_2 rfl (lv_at hl 0 rfl) ?_
  refine va_get (D := D) (ci := 4) (v := .int (nI (μ 0 1))) (C := RX4) (T := TX4) (N := 26) hx hb htA uwX4 hown hKK.1 hP 0 rfl rfl 13 (by decide) (htA _ wd_658) (fun _ h9 => h9) rfl dX4_isState_3 ?_
  refine roS1 (v := .int (b2i (iw (x) (nI (0)) (nI (μ 0 1))))) (As := [.int (x), .int (nI (0)), .int (nI (μ 0 1))]) (rest := []) (n := 3) ⟨hx, hb, hml, hown, htA⟩ (m_in l D cI cZ sa (x) (nI (0)) (nI (μ 0 1)) s.heap ) (va_cwS 3 htA (gdS wd_732 wd_733 wd_5 wd_734) rfl rfl rfl (by decide +kernel) ⟨Nat.le_of_ble_eq_true rfl, Nat.le_of_ble_eq_true rfl⟩) hKK rfl hl.1 rfl (Nat.le_of_ble_eq_true rfl) dX4_isState_6 (Nat.zero_le _) (Nat.zero_le _) ?_
  exact ro_z (v := iw (x) (nI (0)) (nI (μ 0 1))) hx hb hr hlocks (rfl) dX4_isState_9
set_option maxHeartbeats 4000000 in
set_option maxRecDepth 100000 in
theorem m_tells (l : Launch) (D : va_G) (cI cZ : ClassId) (sa : Nat → Nat) (q : Nat → Nat) (μ : ST) (t : Nat) (H : Heap) (hP : va_P D vwCl (wM q cI cZ μ) H) (hB : ∀ k i, μ k i < 1073741824) (hm0 : μ 0 0 ≤ 60) (ht : t ≤ μ 0 1) : Met l yX4_tells (codeW yX4_tells cX4_tells 2 (some .boolean)) ({ frames := 0, cells := 0, slots := 0, locals := 0 } : Room) (RoP D cI cZ sa H [.ref (q 0), .int (nI (t))]) (RoQ (some (.int (b2i (decide (μ 0 1 - t ≤ 40))))) H) 0 0 RoF := by
  refine Met.ofW (cc := cX4_tells) (maxL := 2) (ret := (some .boolean)) (by decide) rfl ?_
  intro p e s m args below meth c s₁ B hml hv
  obtain ⟨rfl, hH, hKK⟩ := hv
  subst hH
  have hx := B.exec
  have hb := B.bytes
  have hr := B.returns
  have htA : ∀ w ∈ WA, w.before _ s = true := fun w h => atoms_spec (ws := (codeW yX4_tells cX4_tells 2 (some .boolean))) B.pre w (List.mem_cons_of_mem _ h)
  have hown : s.vm.findClass RX4 = some m.cls := findClass_of_methodNamed B.named
  have hlocks := B.notSynchronized
  have hl := lv_entry ([.ref (q 0), .int (nI (t))]) (n := 2) (Nat.le_of_ble_eq_true rfl)
  rw [lg_entry_eq]
  generalize (lg_sl ([.ref (q 0), .int (nI (t))]) ++ List.replicate (2 - (lg_sl ([.ref (q 0), .int (nI (t))])).length) Slot.unset).toArray = ls at hl ⊢
  have hl : lv_has ls 2 [(0, .ref (q 0)), (1, .int (nI (t)))] := hl
  refine lv_aload_n hx hb dX4_tells_0 rfl (lv_at hl 0 rfl) ?_
  refine va_get (D := D) (ci := 4) (v := .int (nI (μ 0 1))) (C := RX4) (T := TX4) (N := 26) hx hb htA uwX4 hown hKK.1 hP 0 rfl rfl 13 (by decide) (htA _ wd_658) (fun _ h9 => h9) rfl dX4_tells_1 ?_
  refine lv_iload_n hx hb dX4_tells_4 rfl (lv_at hl 1 rfl) ?_
  refine n_isub hx hb (by omega) dX4_tells_5 ?_
  refine lv_bipush (v := nI 40) hx hb dX4_tells_6 (by decide) ?_
  refine n_icmp_gt (x := (μ 0 1) - t) (y := 40) (tgt := 15) hx hb dX4_tells_8 (by decide) (by have := hB 0 1; omega) (by decide) (fun c_1 => ?_) (fun c_1 => ?_)
  · refine n_iconst (k := 0) hx hb dX4_tells_15 (by decide) ?_
    exact ro_z (v := false) hx hb hr hlocks (by simp; omega) dX4_tells_16
  · refine n_iconst (k := 1) hx hb dX4_tells_11 (by decide) ?_
    refine lv_goto (tgt := 16) hx hb dX4_tells_12 (by decide) ?_
    exact ro_z (v := true) hx hb hr hlocks (by simp; omega) dX4_tells_16
set_option maxHeartbeats 4000000 in
set_option maxRecDepth 100000 in
theorem m_isChanged (l : Launch) (D : va_G) (cI cZ : ClassId) (sa : Nat → Nat) (q : Nat → Nat) (μ : ST) (mm t : Nat) (H : Heap) (hP : va_P D vwCl (wM q cI cZ μ) H) (hB : ∀ k i, μ k i < 1073741824) (hm0 : μ 0 0 ≤ 60) (hst9 : μ 0 1 ≤ 2048) (hm : mm < 2 ^ 31) (ht : t ≤ μ 0 1) : Met l yX4_isChanged (codeW yX4_isChanged cX4_isChanged 5 (some .boolean)) ({ frames := 0, cells := 0, slots := 0, locals := 0 } : Room) (RoP D cI cZ sa H [.ref (q 0), .int (nI (mm)), .int (nI (t))]) (RoQ (some (.int (b2i (ich μ mm t)))) H) 0 0 RoF := by
  refine Met.ofW (cc := cX4_isChanged) (maxL := 5) (ret := (some .boolean)) (by decide) rfl ?_
  intro p e s m args below meth c s₁ B hml hv
  obtain ⟨rfl, hH, hKK⟩ := hv
  subst hH
  have hx := B.exec
  have hb := B.bytes
  have hr := B.returns
  have htA : ∀ w ∈ WA, w.before _ s = true := fun w h => atoms_spec (ws := (codeW yX4_isChanged cX4_isChanged 5 (some .boolean))) B.pre w (List.mem_cons_of_mem _ h)
  have hown : s.vm.findClass RX4 = some m.cls := findClass_of_methodNamed B.named
  have hlocks := B.notSynchronized
  have hl := lv_entry ([.ref (q 0), .int (nI (mm)), .int (nI (t))]) (n := 5) (Nat.le_of_ble_eq_true rfl)
  rw [lg_entry_eq]
  generalize (lg_sl ([.ref (q 0), .int (nI (mm)), .int (nI (t))]) ++ List.replicate (5 - (lg_sl ([.ref (q 0), .int (nI (mm)), .int (nI (t))])).length) Slot.unset).toArray = ls at hl ⊢
  have hl : lv_has ls 5 [(0, .ref (q 0)), (1, .int (nI (mm))), (2, .int (nI (t)))] := hl
  refine n_iconst (k := 0) hx hb dX4_isChanged_0 (by decide) ?_
  refine lv_istore_n (lv' := [(3, .int (nI (0))), (0, .ref (q 0)), (1, .int (nI (mm))), (2, .int (nI (t)))]) hx hb dX4_isChanged_1 rfl hl (by decide) rfl (fun ls hl => ?_)
  refine lv_iload_n hx hb dX4_isChanged_2 rfl (lv_at hl 3 rfl) ?_
  refine lv_istore (lv' := [(4, .int (nI (t))), (3, .int (nI (0))), (0, .ref (q 0)), (1, .int (nI (mm))), (2, .int (nI (t)))]) hx hb dX4_isChanged_3 hl (by decide) rfl (fun ls hl => ?_)
  have loop_5 : ∀ (n : Nat) (i : Nat), (t + i + n = μ 0 1) → ∀ (ls : Array Slot), lv_has ls 5 [(0, .ref (q 0)), (1, .int (nI (mm))), (2, .int (nI (t))), (3, .int (b2i (exn (fun k9 => decide (μ 8 k9 = mm)) t i))), (4, .int (nI (t + i)))] → W p l e (headSpec (codeW yX4_isChanged cX4_isChanged 5 (some .boolean)) ({ frames := 0, cells := 0, slots := 0, locals := 0 } : Room)).room s m ([.ref (q 0), .int (nI (mm)), .int (nI (t))] : List Value).toArray below meth c s.heap [] 0 0 (MQ below (RoQ (some (.int (b2i (ich μ mm t)))) s.heap) ([.ref (q 0), .int (nI (mm)), .int (nI (t))] : List Value).toArray s 0 0 RoF) (F0 m 5 ls []) := by
    intro n
    induction n with
    | zero =>
      intro i hin ls hl
      refine lv_iload hx hb dX4_isChanged_5 (lv_at hl 4 rfl) ?_
      refine lv_aload_n hx hb dX4_isChanged_7 rfl (lv_at hl 0 rfl) ?_
      refine va_get (D := D) (ci := 4) (v := .int (nI (μ 0 1))) (C := RX4) (T := TX4) (N := 26) hx hb htA uwX4 hown hKK.1 hP 0 rfl rfl 13 (by decide) (htA _ wd_658) (fun _ h9 => h9) rfl dX4_isChanged_8 ?_
      refine n_icmp_ge (x := t + i) (y := μ 0 1) (tgt := 41) hx hb dX4_isChanged_11 (by decide) (by omega) (Nat.lt_trans (hB 0 1) (by decide)) (fun c_1 => ?_) (fun c_1 => ?_)
      rotate_left
      · exfalso; omega
      refine lv_iload_n hx hb dX4_isChanged_41 rfl (lv_at hl 3 rfl) ?_
      exact ro_z (v := exn (fun k9 => decide (μ 8 k9 = mm)) t i) hx hb hr hlocks (by unfold ich; rw [show μ 0 1 - t = i by omega]) dX4_isChanged_42
    | succ n ih =>
      intro i hin ls hl
      refine lv_iload hx hb dX4_isChanged_5 (lv_at hl 4 rfl) ?_
      refine lv_aload_n hx hb dX4_isChanged_7 rfl (lv_at hl 0 rfl) ?_
      refine va_get (D := D) (ci := 4) (v := .int (nI (μ 0 1))) (C := RX4) (T := TX4) (N := 26) hx hb htA uwX4 hown hKK.1 hP 0 rfl rfl 13 (by decide) (htA _ wd_658) (fun _ h9 => h9) rfl dX4_isChanged_8 ?_
      refine n_icmp_ge (x := t + i) (y := μ 0 1) (tgt := 41) hx hb dX4_isChanged_11 (by decide) (by omega) (Nat.lt_trans (hB 0 1) (by decide)) (fun c_2 => ?_) (fun c_2 => ?_)
      · exfalso; omega
      refine lv_iload_n hx hb dX4_isChanged_14 rfl (lv_at hl 3 rfl) ?_
      refine b_ifne (b := exn (fun k9 => decide (μ 8 k9 = mm)) t i) (tgt := 29) hx hb dX4_isChanged_15 (by decide) (fun c_3 => ?_) (fun c_3 => ?_)
      · refine n_iconst (k := 1) hx hb dX4_isChanged_29 (by decide) ?_
        refine lv_goto (tgt := 34) hx hb dX4_isChanged_30 (by decide) ?_
        refine lv_istore_n (lv' := [(3, .int (nI (1))), (0, .ref (q 0)), (1, .int (nI (mm))), (2, .int (nI (t))), (4, .int (nI (t + i)))]) hx hb dX4_isChanged_34 rfl hl (by decide) rfl (fun ls hl => ?_)
        refine lv_iinc (v := nI (t + i + 1)) (lv' := [(4, .int (nI (t + i + 1))), (3, .int (nI (1))), (0, .ref (q 0)), (1, .int (nI (mm))), (2, .int (nI (t)))]) hx hb dX4_isChanged_35 hl (k := 4) rfl (n_inc (t + i) 1 rfl) (by decide) rfl (fun ls hl => ?_)
        refine lv_goto (tgt := 5) hx hb dX4_isChanged_38 (by decide) ?_
        have e : exn (fun k9 => decide (μ 8 k9 = mm)) t (i + 1) = true := by simp only [exn, c_2, c_3, Bool.or_false, Bool.or_true, Bool.false_or, Bool.true_or, Bool.or_self, decide_true, decide_false, Bool.true_and, Bool.false_and, Bool.and_true, Bool.and_false, Bool.not_true, Bool.not_false, eq_self, not_true_eq_false, not_false_eq_true, cond_true, cond_false, ne_eq]
        exact ih (i + 1) (by omega) ls (by rw [e]; exact lv_sub hl [2, 3, 4, 1, 0] rfl)
      · refine lv_aload_n hx hb dX4_isChanged_18 rfl (lv_at hl 0 rfl) ?_
        refine va_get (D := D) (ci := 4) (v := .ref (q 8)) (C := RX4) (T := TX4) (N := 26) hx hb htA uwX4 hown hKK.1 hP 0 rfl rfl 8 (by decide) (htA _ wd_653) (fun _ h9 => h9) rfl dX4_isChanged_19 ?_
        refine lv_iload hx hb dX4_isChanged_22 (lv_at hl 4 rfl) ?_
        refine n_iald (g := μ 8) (cA := cI) (n := 2048) (j := t + i) hx hb hKK.1 hP 8 0 rfl rfl (by omega) (Nat.le_of_ble_eq_true rfl) dX4_isChanged_24 ?_
        refine lv_iload_n hx hb dX4_isChanged_25 rfl (lv_at hl 1 rfl) ?_
        refine n_icmp_ne (x := μ 8 (t + i)) (y := mm) (tgt := 33) hx hb dX4_isChanged_26 (by decide) (Nat.lt_trans (hB 8 (t + i)) (by decide)) hm (fun c_4 => ?_) (fun c_4 => ?_)
        · refine n_iconst (k := 0) hx hb dX4_isChanged_33 (by decide) ?_
          refine lv_istore_n (lv' := [(3, .int (nI (0))), (0, .ref (q 0)), (1, .int (nI (mm))), (2, .int (nI (t))), (4, .int (nI (t + i)))]) hx hb dX4_isChanged_34 rfl hl (by decide) rfl (fun ls hl => ?_)
          refine lv_iinc (v := nI (t + i + 1)) (lv' := [(4, .int (nI (t + i + 1))), (3, .int (nI (0))), (0, .ref (q 0)), (1, .int (nI (mm))), (2, .int (nI (t)))]) hx hb dX4_isChanged_35 hl (k := 4) rfl (n_inc (t + i) 1 rfl) (by decide) rfl (fun ls hl => ?_)
          refine lv_goto (tgt := 5) hx hb dX4_isChanged_38 (by decide) ?_
          have e : exn (fun k9 => decide (μ 8 k9 = mm)) t (i + 1) = false := by simp only [exn, c_2, c_3, c_4, Bool.or_false, Bool.or_true, Bool.false_or, Bool.true_or, Bool.or_self, decide_true, decide_false, Bool.true_and, Bool.false_and, Bool.and_true, Bool.and_false, Bool.not_true, Bool.not_false, eq_self, not_true_eq_false, not_false_eq_true, cond_true, cond_false, ne_eq]
          exact ih (i + 1) (by omega) ls (by rw [e]; exact lv_sub hl [2, 3, 4, 1, 0] rfl)
        · refine n_iconst (k := 1) hx hb dX4_isChanged_29 (by decide) ?_
          refine lv_goto (tgt := 34) hx hb dX4_isChanged_30 (by decide) ?_
          refine lv_istore_n (lv' := [(3, .int (nI (1))), (0, .ref (q 0)), (1, .int (nI (mm))), (2, .int (nI (t))), (4, .int (nI (t + i)))]) hx hb dX4_isChanged_34 rfl hl (by decide) rfl (fun ls hl => ?_)
          refine lv_iinc (v := nI (t + i + 1)) (lv' := [(4, .int (nI (t + i + 1))), (3, .int (nI (1))), (0, .ref (q 0)), (1, .int (nI (mm))), (2, .int (nI (t)))]) hx hb dX4_isChanged_35 hl (k := 4) rfl (n_inc (t + i) 1 rfl) (by decide) rfl (fun ls hl => ?_)
          refine lv_goto (tgt := 5) hx hb dX4_isChanged_38 (by decide) ?_
          have e : exn (fun k9 => decide (μ 8 k9 = mm)) t (i + 1) = true := by simp only [exn, c_2, c_3, c_4, Bool.or_false, Bool.or_true, Bool.false_or, Bool.true_or, Bool.or_self, decide_true, decide_false, Bool.true_and, Bool.false_and, Bool.and_true, Bool.and_false, Bool.not_true, Bool.not_false, eq_self, not_true_eq_false, not_false_eq_true, cond_true, cond_false, ne_eq]
          exact ih (i + 1) (by omega) ls (by rw [e]; exact lv_sub hl [2, 3, 4, 1, 0] rfl)
  exact loop_5 (μ 0 1 - t) 0 (by omega) ls (lv_sub hl [2, 3, 4, 1, 0] rfl)
set_option maxHeartbeats 4000000 in
set_option maxRecDepth 100000 in
theorem m_changedSo (l : Launch) (D : va_G) (cI cZ : ClassId) (sa : Nat → Nat) (q : Nat → Nat) (μ : ST) (mm t way : Nat) (H : Heap) (hP : va_P D vwCl (wM q cI cZ μ) H) (hB : ∀ k i, μ k i < 1073741824) (hm0 : μ 0 0 ≤ 60) (hst9 : μ 0 1 ≤ 2048) (hm : mm < 60) (ht : t ≤ μ 0 1) (hw3 : way < 3) : Met l yX4_changedSo (codeW yX4_changedSo cX4_changedSo 6 (some .boolean)) ({ frames := 1, cells := 0, slots := 0, locals := 24 } : Room) (RoP D cI cZ sa H [.ref (q 0), .int (nI (mm)), .int (nI (t)), .int (nI (way))]) (RoQ (some (.int (b2i (chm μ t way mm)))) H) 0 0 RoF := by
  refine Met.ofW (cc := cX4_changedSo) (maxL := 6) (ret := (some .boolean)) (by decide) rfl ?_
  intro p e s m args below meth c s₁ B hml hv
  obtain ⟨rfl, hH, hKK⟩ := hv
  subst hH
  have hx := B.exec
  have hb := B.bytes
  have hr := B.returns
  have htA : ∀ w ∈ WA, w.before _ s = true := fun w h => atoms_spec (ws := (codeW yX4_changedSo cX4_changedSo 6 (some .boolean))) B.pre w (List.mem_cons_of_mem _ h)
  have hown : s.vm.findClass RX4 = some m.cls := findClass_of_methodNamed B.named
  have hlocks := B.notSynchronized
  have hl := lv_entry ([.ref (q 0), .int (nI (mm)), .int (nI (t)), .int (nI (way))]) (n := 6) (Nat.le_of_ble_eq_true rfl)
  rw [lg_entry_eq]
  generalize (lg_sl ([.ref (q 0), .int (nI (mm)), .int (nI (t)), .int (nI (way))]) ++ List.replicate (6 - (lg_sl ([.ref (q 0), .int (nI (mm)), .int (nI (t)), .int (nI (way))])).length) Slot.unset).toArray = ls at hl ⊢
  have hl : lv_has ls 6 [(0, .ref (q 0)), (1, .int (nI (mm))), (2, .int (nI (t))), (3, .int (nI (way)))] := hl
  refine lv_aload_n hx hb dX4_changedSo_0 rfl (lv_at hl 0 rfl) ?_
  refine lv_iload_n hx hb dX4_changedSo_1 rfl (lv_at hl 1 rfl) ?_
  refine lv_iload_n hx hb dX4_changedSo_2 rfl (lv_at hl 2 rfl) ?_
  refine roV1 (v := .int (b2i (wth μ mm t))) (As := [.int (nI (mm)), .int (nI (t))]) (rest := []) (n := 2) ⟨hx, hb, hml, hown, htA⟩ (m_wasThere l D cI cZ sa q μ mm t s.heap hP hB hm0 (by omega) (by omega)) (cwV 2 htA (gdV wd_826 wd_828 wp_20 wd_5 wd_829) rfl rfl rfl (by decide +kernel) ⟨Nat.le_of_ble_eq_true rfl, Nat.le_of_ble_eq_true rfl⟩) hKK hP 0 rfl rfl rfl hl.1 rfl (Nat.le_of_ble_eq_true rfl) dX4_changedSo_3 (Nat.zero_le _) (Nat.zero_le _) ?_
  refine lv_istore (lv' := [(4, .int (b2i (wth μ mm t))), (0, .ref (q 0)), (1, .int (nI (mm))), (2, .int (nI (t))), (3, .int (nI (way)))]) hx hb dX4_changedSo_6 hl (by decide) rfl (fun ls hl => ?_)
  refine lv_aload_n hx hb dX4_changedSo_8 rfl (lv_at hl 1 rfl) ?_
  refine va_get (D := D) (ci := 4) (v := .ref (q 6)) (C := RX4) (T := TX4) (N := 26) hx hb htA uwX4 hown hKK.1 hP 0 rfl rfl 5 (by decide) (htA _ wd_650) (fun _ h9 => h9) rfl dX4_changedSo_9 ?_
  refine lv_iload_n hx hb dX4_changedSo_12 rfl (lv_at hl 2 rfl) ?_
  refine n_iald (g := μ 6) (cA := cI) (n := 60) (j := mm) hx hb hKK.1 hP 6 0 rfl rfl (by omega) (Nat.le_of_ble_eq_true rfl) dX4_changedSo_13 ?_
  refine n_ifne (x := μ 6 mm) (tgt := 21) hx hb dX4_changedSo_14 (by decide) (Nat.lt_trans (hB 6 mm) (by decide)) (fun c_1 => ?_) (fun c_1 => ?_)
  · refine n_iconst (k := 0) hx hb dX4_changedSo_21 (by decide) ?_
    refine lv_istore (lv' := [(5, .int (nI (0))), (4, .int (b2i (wth μ mm t))), (0, .ref (q 0)), (1, .int (nI (mm))), (2, .int (nI (t))), (3, .int (nI (way)))]) hx hb dX4_changedSo_22 hl (by decide) rfl (fun ls hl => ?_)
    refine lv_iload_n hx hb dX4_changedSo_24 rfl (lv_at hl 5 rfl) ?_
    refine n_ifne (x := way) (tgt := 46) hx hb dX4_changedSo_25 (by decide) (by omega) (fun c_2 => ?_) (fun c_2 => ?_)
    · refine lv_iload_n hx hb dX4_changedSo_46 rfl (lv_at hl 5 rfl) ?_
      refine n_iconst (k := 2) hx hb dX4_changedSo_47 (by decide) ?_
      refine n_icmp_ne (x := way) (y := 2) (tgt := 69) hx hb dX4_changedSo_48 (by decide) (by omega) (by decide) (fun c_3 => ?_) (fun c_3 => ?_)
      · refine lv_iload hx hb dX4_changedSo_69 (lv_at hl 1 rfl) ?_
        refine b_ifeq (b := wth μ mm t) (tgt := 92) hx hb dX4_changedSo_71 (by decide) (fun c_4 => ?_) (fun c_4 => ?_)
        · refine n_iconst (k := 0) hx hb dX4_changedSo_92 (by decide) ?_
          exact ro_z (v := false) hx hb hr hlocks (by simp [chm, c_1, c_2, c_3, c_4]) dX4_changedSo_93
        · refine lv_iload hx hb dX4_changedSo_74 (lv_at hl 0 rfl) ?_
          refine b_ifeq (b := false) (tgt := 92) hx hb dX4_changedSo_76 (by decide) (fun c_5 => ?_) (fun c_5 => ?_)
          rotate_left
          · exact absurd c_5 (by decide)
          refine n_iconst (k := 0) hx hb dX4_changedSo_92 (by decide) ?_
          exact ro_z (v := false) hx hb hr hlocks (by simp [chm, c_1, c_2, c_3, c_4, c_5]) dX4_changedSo_93
      · refine lv_iload hx hb dX4_changedSo_51 (lv_at hl 1 rfl) ?_
        refine b_ifeq (b := wth μ mm t) (tgt := 65) hx hb dX4_changedSo_53 (by decide) (fun c_6 => ?_) (fun c_6 => ?_)
        · refine n_iconst (k := 0) hx hb dX4_changedSo_65 (by decide) ?_
          refine lv_goto (tgt := 93) hx hb dX4_changedSo_66 (by decide) ?_
          exact ro_z (v := false) hx hb hr hlocks (by simp [chm, c_1, c_2, c_3, c_6]) dX4_changedSo_93
        · refine lv_iload hx hb dX4_changedSo_56 (lv_at hl 0 rfl) ?_
          refine b_ifne (b := false) (tgt := 65) hx hb dX4_changedSo_58 (by decide) (fun c_7 => ?_) (fun c_7 => ?_)
          · exact absurd c_7 (by decide)
          refine n_iconst (k := 1) hx hb dX4_changedSo_61 (by decide) ?_
          refine lv_goto (tgt := 93) hx hb dX4_changedSo_62 (by decide) ?_
          exact ro_z (v := true) hx hb hr hlocks (by simp [chm, c_1, c_2, c_3, c_6, c_7]) dX4_changedSo_93
    · refine lv_iload hx hb dX4_changedSo_28 (lv_at hl 0 rfl) ?_
      refine b_ifeq (b := false) (tgt := 42) hx hb dX4_changedSo_30 (by decide) (fun c_8 => ?_) (fun c_8 => ?_)
      rotate_left
      · exact absurd c_8 (by decide)
      refine n_iconst (k := 0) hx hb dX4_changedSo_42 (by decide) ?_
      refine lv_goto (tgt := 93) hx hb dX4_changedSo_43 (by decide) ?_
      exact ro_z (v := false) hx hb hr hlocks (by simp [chm, c_1, c_2, c_8]) dX4_changedSo_93
  · refine n_iconst (k := 1) hx hb dX4_changedSo_17 (by decide) ?_
    refine lv_goto (tgt := 22) hx hb dX4_changedSo_18 (by decide) ?_
    refine lv_istore (lv' := [(5, .int (nI (1))), (4, .int (b2i (wth μ mm t))), (0, .ref (q 0)), (1, .int (nI (mm))), (2, .int (nI (t))), (3, .int (nI (way)))]) hx hb dX4_changedSo_22 hl (by decide) rfl (fun ls hl => ?_)
    refine lv_iload_n hx hb dX4_changedSo_24 rfl (lv_at hl 5 rfl) ?_
    refine n_ifne (x := way) (tgt := 46) hx hb dX4_changedSo_25 (by decide) (by omega) (fun c_9 => ?_) (fun c_9 => ?_)
    · refine lv_iload_n hx hb dX4_changedSo_46 rfl (lv_at hl 5 rfl) ?_
      refine n_iconst (k := 2) hx hb dX4_changedSo_47 (by decide) ?_
      refine n_icmp_ne (x := way) (y := 2) (tgt := 69) hx hb dX4_changedSo_48 (by decide) (by omega) (by decide) (fun c_10 => ?_) (fun c_10 => ?_)
      · refine lv_iload hx hb dX4_changedSo_69 (lv_at hl 1 rfl) ?_
        refine b_ifeq (b := wth μ mm t) (tgt := 92) hx hb dX4_changedSo_71 (by decide) (fun c_11 => ?_) (fun c_11 => ?_)
        · refine n_iconst (k := 0) hx hb dX4_changedSo_92 (by decide) ?_
          exact ro_z (v := false) hx hb hr hlocks (by simp [chm, c_1, c_9, c_10, c_11]) dX4_changedSo_93
        · refine lv_iload hx hb dX4_changedSo_74 (lv_at hl 0 rfl) ?_
          refine b_ifeq (b := true) (tgt := 92) hx hb dX4_changedSo_76 (by decide) (fun c_12 => ?_) (fun c_12 => ?_)
          · exact absurd c_12 (by decide)
          refine lv_aload_n hx hb dX4_changedSo_79 rfl (lv_at hl 2 rfl) ?_
          refine lv_iload_n hx hb dX4_changedSo_80 rfl (lv_at hl 3 rfl) ?_
          refine lv_iload_n hx hb dX4_changedSo_81 rfl (lv_at hl 4 rfl) ?_
          refine roV1 (v := .int (b2i (ich μ mm t))) (As := [.int (nI (mm)), .int (nI (t))]) (rest := []) (n := 2) ⟨hx, hb, hml, hown, htA⟩ (m_isChanged l D cI cZ sa q μ mm t s.heap hP hB hm0 hst9 (by omega) ht) (cwV 2 htA (gdV wd_830 wd_832 wp_21 wd_5 wd_833) rfl rfl rfl (by decide +kernel) ⟨Nat.le_of_ble_eq_true rfl, Nat.le_of_ble_eq_true rfl⟩) hKK hP 0 rfl rfl rfl hl.1 rfl (Nat.le_of_ble_eq_true rfl) dX4_changedSo_82 (Nat.zero_le _) (Nat.zero_le _) ?_
          refine b_ifeq (b := ich μ mm t) (tgt := 92) hx hb dX4_changedSo_85 (by decide) (fun c_13 => ?_) (fun c_13 => ?_)
          · refine n_iconst (k := 0) hx hb dX4_changedSo_92 (by decide) ?_
            exact ro_z (v := false) hx hb hr hlocks (by simp [chm, c_1, c_9, c_10, c_11, c_12, c_13]) dX4_changedSo_93
          · refine n_iconst (k := 1) hx hb dX4_changedSo_88 (by decide) ?_
            refine lv_goto (tgt := 93) hx hb dX4_changedSo_89 (by decide) ?_
            exact ro_z (v := true) hx hb hr hlocks (by simp [chm, c_1, c_9, c_10, c_11, c_12, c_13]) dX4_changedSo_93
      · refine lv_iload hx hb dX4_changedSo_51 (lv_at hl 1 rfl) ?_
        refine b_ifeq (b := wth μ mm t) (tgt := 65) hx hb dX4_changedSo_53 (by decide) (fun c_14 => ?_) (fun c_14 => ?_)
        · refine n_iconst (k := 0) hx hb dX4_changedSo_65 (by decide) ?_
          refine lv_goto (tgt := 93) hx hb dX4_changedSo_66 (by decide) ?_
          exact ro_z (v := false) hx hb hr hlocks (by simp [chm, c_1, c_9, c_10, c_14]) dX4_changedSo_93
        · refine lv_iload hx hb dX4_changedSo_56 (lv_at hl 0 rfl) ?_
          refine b_ifne (b := true) (tgt := 65) hx hb dX4_changedSo_58 (by decide) (fun c_15 => ?_) (fun c_15 => ?_)
          rotate_left
          · exact absurd c_15 (by decide)
          refine n_iconst (k := 0) hx hb dX4_changedSo_65 (by decide) ?_
          refine lv_goto (tgt := 93) hx hb dX4_changedSo_66 (by decide) ?_
          exact ro_z (v := false) hx hb hr hlocks (by simp [chm, c_1, c_9, c_10, c_14, c_15]) dX4_changedSo_93
    · refine lv_iload hx hb dX4_changedSo_28 (lv_at hl 0 rfl) ?_
      refine b_ifeq (b := true) (tgt := 42) hx hb dX4_changedSo_30 (by decide) (fun c_16 => ?_) (fun c_16 => ?_)
      · exact absurd c_16 (by decide)
      refine lv_iload hx hb dX4_changedSo_33 (lv_at hl 1 rfl) ?_
      refine b_ifne (b := wth μ mm t) (tgt := 42) hx hb dX4_changedSo_35 (by decide) (fun c_17 => ?_) (fun c_17 => ?_)
      · refine n_iconst (k := 0) hx hb dX4_changedSo_42 (by decide) ?_
        refine lv_goto (tgt := 93) hx hb dX4_changedSo_43 (by decide) ?_
        exact ro_z (v := false) hx hb hr hlocks (by simp [chm, c_1, c_9, c_16, c_17]) dX4_changedSo_93
      · refine n_iconst (k := 1) hx hb dX4_changedSo_38 (by decide) ?_
        refine lv_goto (tgt := 93) hx hb dX4_changedSo_39 (by decide) ?_
        exact ro_z (v := true) hx hb hr hlocks (by simp [chm, c_1, c_9, c_16, c_17]) dX4_changedSo_93
set_option maxHeartbeats 4000000 in
set_option maxRecDepth 100000 in
theorem m_countChanged (l : Launch) (D : va_G) (cI cZ : ClassId) (sa : Nat → Nat) (q : Nat → Nat) (μ : ST) (t way : Nat) (H : Heap) (hP : va_P D vwCl (wM q cI cZ μ) H) (hB : ∀ k i, μ k i < 1073741824) (hm0 : μ 0 0 ≤ 60) (hst9 : μ 0 1 ≤ 2048) (ht : t ≤ μ 0 1) (hw3 : way < 3) : Met l yX4_countChanged (codeW yX4_countChanged cX4_countChanged 5 (some .int)) ({ frames := 2, cells := 0, slots := 0, locals := 49 } : Room) (RoP D cI cZ sa H [.ref (q 0), .int (nI (t)), .int (nI (way))]) (RoQ (some (.int (nI (cnt (fun m9 => chm μ t way m9) (μ 0 0))))) H) 0 0 RoF := by
  refine Met.ofW (cc := cX4_countChanged) (maxL := 5) (ret := (some .int)) (by decide) rfl ?_
  intro p e s m args below meth c s₁ B hml hv
  obtain ⟨rfl, hH, hKK⟩ := hv
  subst hH
  have hx := B.exec
  have hb := B.bytes
  have hr := B.returns
  have htA : ∀ w ∈ WA, w.before _ s = true := fun w h => atoms_spec (ws := (codeW yX4_countChanged cX4_countChanged 5 (some .int))) B.pre w (List.mem_cons_of_mem _ h)
  have hown : s.vm.findClass RX4 = some m.cls := findClass_of_methodNamed B.named
  have hlocks := B.notSynchronized
  have hl := lv_entry ([.ref (q 0), .int (nI (t)), .int (nI (way))]) (n := 5) (Nat.le_of_ble_eq_true rfl)
  rw [lg_entry_eq]
  generalize (lg_sl ([.ref (q 0), .int (nI (t)), .int (nI (way))]) ++ List.replicate (5 - (lg_sl ([.ref (q 0), .int (nI (t)), .int (nI (way))])).length) Slot.unset).toArray = ls at hl ⊢
  have hl : lv_has ls 5 [(0, .ref (q 0)), (1, .int (nI (t))), (2, .int (nI (way)))] := hl
  refine n_iconst (k := 0) hx hb dX4_countChanged_0 (by decide) ?_
  refine lv_istore_n (lv' := [(3, .int (nI (0))), (0, .ref (q 0)), (1, .int (nI (t))), (2, .int (nI (way)))]) hx hb dX4_countChanged_1 rfl hl (by decide) rfl (fun ls hl => ?_)
  refine n_iconst (k := 0) hx hb dX4_countChanged_2 (by decide) ?_
  refine lv_istore (lv' := [(4, .int (nI (0))), (3, .int (nI (0))), (0, .ref (q 0)), (1, .int (nI (t))), (2, .int (nI (way)))]) hx hb dX4_countChanged_3 hl (by decide) rfl (fun ls hl => ?_)
  have loop_5 : ∀ (n : Nat) (i : Nat), (i + n = μ 0 0) → ∀ (ls : Array Slot), lv_has ls 5 [(0, .ref (q 0)), (1, .int (nI (t))), (2, .int (nI (way))), (3, .int (nI (cnt (fun m9 => chm μ t way m9) i))), (4, .int (nI (i)))] → W p l e (headSpec (codeW yX4_countChanged cX4_countChanged 5 (some .int)) ({ frames := 2, cells := 0, slots := 0, locals := 49 } : Room)).room s m ([.ref (q 0), .int (nI (t)), .int (nI (way))] : List Value).toArray below meth c s.heap [] 0 0 (MQ below (RoQ (some (.int (nI (cnt (fun m9 => chm μ t way m9) (μ 0 0))))) s.heap) ([.ref (q 0), .int (nI (t)), .int (nI (way))] : List Value).toArray s 0 0 RoF) (F0 m 5 ls []) := by
    intro n
    induction n with
    | zero =>
      intro i hin ls hl
      refine lv_iload hx hb dX4_countChanged_5 (lv_at hl 4 rfl) ?_
      refine lv_aload_n hx hb dX4_countChanged_7 rfl (lv_at hl 0 rfl) ?_
      refine va_get (D := D) (ci := 4) (v := .int (nI (μ 0 0))) (C := RX4) (T := TX4) (N := 26) hx hb htA uwX4 hown hKK.1 hP 0 rfl rfl 6 (by decide) (htA _ wd_651) (fun _ h9 => h9) rfl dX4_countChanged_8 ?_
      refine n_icmp_ge (x := i) (y := μ 0 0) (tgt := 39) hx hb dX4_countChanged_11 (by decide) (by omega) (Nat.lt_trans (hB 0 0) (by decide)) (fun c_1 => ?_) (fun c_1 => ?_)
      rotate_left
      · exfalso; omega
      refine lv_iload_n hx hb dX4_countChanged_39 rfl (lv_at hl 3 rfl) ?_
      exact ro_i hx hb hr hlocks (by rw [show i = μ 0 0 by omega]) dX4_countChanged_40
    | succ n ih =>
      intro i hin ls hl
      refine lv_iload hx hb dX4_countChanged_5 (lv_at hl 4 rfl) ?_
      refine lv_aload_n hx hb dX4_countChanged_7 rfl (lv_at hl 0 rfl) ?_
      refine va_get (D := D) (ci := 4) (v := .int (nI (μ 0 0))) (C := RX4) (T := TX4) (N := 26) hx hb htA uwX4 hown hKK.1 hP 0 rfl rfl 6 (by decide) (htA _ wd_651) (fun _ h9 => h9) rfl dX4_countChanged_8 ?_
      refine n_icmp_ge (x := i) (y := μ 0 0) (tgt := 39) hx hb dX4_countChanged_11 (by decide) (by omega) (Nat.lt_trans (hB 0 0) (by decide)) (fun c_2 => ?_) (fun c_2 => ?_)
      · exfalso; omega
      refine lv_iload_n hx hb dX4_countChanged_14 rfl (lv_at hl 3 rfl) ?_
      refine lv_aload_n hx hb dX4_countChanged_15 rfl (lv_at hl 0 rfl) ?_
      refine lv_iload hx hb dX4_countChanged_16 (lv_at hl 4 rfl) ?_
      refine lv_iload_n hx hb dX4_countChanged_18 rfl (lv_at hl 1 rfl) ?_
      refine lv_iload_n hx hb dX4_countChanged_19 rfl (lv_at hl 2 rfl) ?_
      refine roV1 (v := .int (b2i (chm μ t way i))) (As := [.int (nI (i)), .int (nI (t)), .int (nI (way))]) (rest := [.int (nI (cnt (fun m9 => chm μ t way m9) i))]) (n := 3) ⟨hx, hb, hml, hown, htA⟩ (m_changedSo l D cI cZ sa q μ i t way s.heap hP hB hm0 hst9 (by omega) ht hw3) (cwV 3 htA (gdV wd_822 wd_824 wp_19 wd_5 wd_825) rfl rfl rfl (by decide +kernel) ⟨Nat.le_of_ble_eq_true rfl, Nat.le_of_ble_eq_true rfl⟩) hKK hP 0 rfl rfl rfl hl.1 rfl (Nat.le_of_ble_eq_true rfl) dX4_countChanged_20 (Nat.zero_le _) (Nat.zero_le _) ?_
      refine b_ifeq (b := chm μ t way i) (tgt := 30) hx hb dX4_countChanged_23 (by decide) (fun c_3 => ?_) (fun c_3 => ?_)
      · refine n_iconst (k := 0) hx hb dX4_countChanged_30 (by decide) ?_
        refine n_iadd hx hb dX4_countChanged_31 ?_
        refine lv_istore_n (lv' := [(3, .int (nI ((cnt (fun m9 => chm μ t way m9) i) + 0))), (0, .ref (q 0)), (1, .int (nI (t))), (2, .int (nI (way))), (4, .int (nI (i)))]) hx hb dX4_countChanged_32 rfl hl (by decide) rfl (fun ls hl => ?_)
        refine lv_iinc (v := nI (i + 1)) (lv' := [(4, .int (nI (i + 1))), (3, .int (nI ((cnt (fun m9 => chm μ t way m9) i) + 0))), (0, .ref (q 0)), (1, .int (nI (t))), (2, .int (nI (way)))]) hx hb dX4_countChanged_33 hl (k := 4) rfl (n_inc (i) 1 rfl) (by decide) rfl (fun ls hl => ?_)
        refine lv_goto (tgt := 5) hx hb dX4_countChanged_36 (by decide) ?_
        have e : cnt (fun m9 => chm μ t way m9) i = cnt (fun m9 => chm μ t way m9) (i + 1) := cnt_f (by simp only [c_2, c_3, decide_true, decide_false, Bool.true_and, Bool.false_and, Bool.and_true, Bool.and_false, Bool.not_true, Bool.not_false, eq_self, not_true_eq_false, not_false_eq_true, cond_true, cond_false, ne_eq])
        have hl : lv_has ls _ _ := hl
        rw [e] at hl
        exact ih (i + 1) (by omega) ls (lv_sub hl [2, 3, 4, 1, 0] rfl)
      · refine n_iconst (k := 1) hx hb dX4_countChanged_26 (by decide) ?_
        refine lv_goto (tgt := 31) hx hb dX4_countChanged_27 (by decide) ?_
        refine n_iadd hx hb dX4_countChanged_31 ?_
        refine lv_istore_n (lv' := [(3, .int (nI ((cnt (fun m9 => chm μ t way m9) i) + 1))), (0, .ref (q 0)), (1, .int (nI (t))), (2, .int (nI (way))), (4, .int (nI (i)))]) hx hb dX4_countChanged_32 rfl hl (by decide) rfl (fun ls hl => ?_)
        refine lv_iinc (v := nI (i + 1)) (lv' := [(4, .int (nI (i + 1))), (3, .int (nI ((cnt (fun m9 => chm μ t way m9) i) + 1))), (0, .ref (q 0)), (1, .int (nI (t))), (2, .int (nI (way)))]) hx hb dX4_countChanged_33 hl (k := 4) rfl (n_inc (i) 1 rfl) (by decide) rfl (fun ls hl => ?_)
        refine lv_goto (tgt := 5) hx hb dX4_countChanged_36 (by decide) ?_
        have e : cnt (fun m9 => chm μ t way m9) i + 1 = cnt (fun m9 => chm μ t way m9) (i + 1) := cnt_t (by simp only [c_2, c_3, decide_true, decide_false, Bool.true_and, Bool.false_and, Bool.and_true, Bool.and_false, Bool.not_true, Bool.not_false, eq_self, not_true_eq_false, not_false_eq_true, cond_true, cond_false, ne_eq])
        rw [e] at hl
        exact ih (i + 1) (by omega) ls (lv_sub hl [2, 3, 4, 1, 0] rfl)
  exact loop_5 (μ 0 0) 0 (by omega) ls (lv_sub hl [2, 3, 4, 1, 0] rfl)
set_option maxHeartbeats 4000000 in
set_option maxRecDepth 100000 in
theorem m_placeOf_1 (l : Launch) (D : va_G) (cI cZ : ClassId) (sa : Nat → Nat) (q : Nat → Nat) (μ : ST) (x y9 : Int32) (H : Heap) (hP : va_P D vwCl (wM q cI cZ μ) H) (hbad : (iw (x) (nI (0)) (nI (μ 0 1)) && iw (y9) (nI (0)) (nI (2))) = false) : Met l yX4_placeOf (codeW yX4_placeOf cX4_placeOf 3 (some .int)) ({ frames := 2, cells := 0, slots := 0, locals := 43 } : Room) (RoP D cI cZ sa H [.ref (q 0), .int (x), .int (y9)]) (RoQ (some (.int (nI (1)))) H) 0 0 RoF := by
  refine Met.ofW (cc := cX4_placeOf) (maxL := 3) (ret := (some .int)) (by decide) rfl ?_
  intro p e s m args below meth c s₁ B hml hv
  obtain ⟨rfl, hH, hKK⟩ := hv
  subst hH
  have hx := B.exec
  have hb := B.bytes
  have hr := B.returns
  have htA : ∀ w ∈ WA, w.before _ s = true := fun w h => atoms_spec (ws := (codeW yX4_placeOf cX4_placeOf 3 (some .int))) B.pre w (List.mem_cons_of_mem _ h)
  have hown : s.vm.findClass RX4 = some m.cls := findClass_of_methodNamed B.named
  have hlocks := B.notSynchronized
  have hl := lv_entry ([.ref (q 0), .int (x), .int (y9)]) (n := 3) (Nat.le_of_ble_eq_true rfl)
  rw [lg_entry_eq]
  generalize (lg_sl ([.ref (q 0), .int (x), .int (y9)]) ++ List.replicate (3 - (lg_sl ([.ref (q 0), .int (x), .int (y9)])).length) Slot.unset).toArray = ls at hl ⊢
  have hl : lv_has ls 3 [(0, .ref (q 0)), (1, .int (x)), (2, .int (y9))] := hl
  refine lv_aload_n hx hb dX4_placeOf_0 rfl (lv_at hl 0 rfl) ?_
  refine lv_iload_n hx hb dX4_placeOf_1 rfl (lv_at hl 1 rfl) ?_
  refine roV1 (v := .int (b2i (iw (x) (nI (0)) (nI (μ 0 1))))) (As := [.int (x)]) (rest := []) (n := 1) ⟨hx, hb, hml, hown, htA⟩ (m_isState l D cI cZ sa q μ (x) s.heap hP ) (cwV 1 htA (gdV wd_802 wd_804 wp_15 wd_5 wd_805) rfl rfl rfl (by decide +kernel) ⟨Nat.le_of_ble_eq_true rfl, Nat.le_of_ble_eq_true rfl⟩) hKK hP 0 rfl rfl rfl hl.1 rfl (Nat.le_of_ble_eq_true rfl) dX4_placeOf_2 (Nat.zero_le _) (Nat.zero_le _) ?_
  refine b_ifeq (b := iw (x) (nI (0)) (nI (μ 0 1))) (tgt := 17) hx hb dX4_placeOf_5 (by decide) (fun c_1 => ?_) (fun c_1 => ?_)
  · refine n_iconst (k := 1) hx hb dX4_placeOf_17 (by decide) ?_
    refine lv_goto (tgt := 34) hx hb dX4_placeOf_18 (by decide) ?_
    exact ro_i hx hb hr hlocks (rfl) dX4_placeOf_34
  · refine lv_iload_n hx hb dX4_placeOf_8 rfl (lv_at hl 2 rfl) ?_
    refine n_iconst (k := 0) hx hb dX4_placeOf_9 (by decide) ?_
    refine n_iconst (k := 2) hx hb dX4_placeOf_10 (by decide) ?_
    refine roS1 (v := .int (b2i (iw (y9) (nI (0)) (nI (2))))) (As := [.int (y9), .int (nI (0)), .int (nI (2))]) (rest := []) (n := 3) ⟨hx, hb, hml, hown, htA⟩ (m_in l D cI cZ sa (y9) (nI (0)) (nI (2)) s.heap ) (va_cwS 3 htA (gdS wd_732 wd_733 wd_5 wd_734) rfl rfl rfl (by decide +kernel) ⟨Nat.le_of_ble_eq_true rfl, Nat.le_of_ble_eq_true rfl⟩) hKK rfl hl.1 rfl (Nat.le_of_ble_eq_true rfl) dX4_placeOf_11 (Nat.zero_le _) (Nat.zero_le _) ?_
    refine b_ifne (b := iw (y9) (nI (0)) (nI (2))) (tgt := 21) hx hb dX4_placeOf_14 (by decide) (fun c_2 => ?_) (fun c_2 => ?_)
    · exact absurd hbad (by rw [c_1, c_2]; decide)
    refine n_iconst (k := 1) hx hb dX4_placeOf_17 (by decide) ?_
    refine lv_goto (tgt := 34) hx hb dX4_placeOf_18 (by decide) ?_
    exact ro_i hx hb hr hlocks (rfl) dX4_placeOf_34
set_option maxHeartbeats 4000000 in
set_option maxRecDepth 100000 in
theorem m_placeOf_2 (l : Launch) (D : va_G) (cI cZ : ClassId) (sa : Nat → Nat) (q : Nat → Nat) (μ : ST) (t way : Nat) (H : Heap) (hP : va_P D vwCl (wM q cI cZ μ) H) (hB : ∀ k i, μ k i < 1073741824) (hm0 : μ 0 0 ≤ 60) (ht : t ≤ μ 0 1) (hw3 : way < 3) (hv9 : decide (μ 0 1 - t ≤ 40) = false) : Met l yX4_placeOf (codeW yX4_placeOf cX4_placeOf 3 (some .int)) ({ frames := 2, cells := 0, slots := 0, locals := 43 } : Room) (RoP D cI cZ sa H [.ref (q 0), .int (nI (t)), .int (nI (way))]) (RoQ (some (.int (nI (2)))) H) 0 0 RoF := by
  refine Met.ofW (cc := cX4_placeOf) (maxL := 3) (ret := (some .int)) (by decide) rfl ?_
  intro p e s m args below meth c s₁ B hml hv
  obtain ⟨rfl, hH, hKK⟩ := hv
  subst hH
  have hx := B.exec
  have hb := B.bytes
  have hr := B.returns
  have htA : ∀ w ∈ WA, w.before _ s = true := fun w h => atoms_spec (ws := (codeW yX4_placeOf cX4_placeOf 3 (some .int))) B.pre w (List.mem_cons_of_mem _ h)
  have hown : s.vm.findClass RX4 = some m.cls := findClass_of_methodNamed B.named
  have hlocks := B.notSynchronized
  have hl := lv_entry ([.ref (q 0), .int (nI (t)), .int (nI (way))]) (n := 3) (Nat.le_of_ble_eq_true rfl)
  rw [lg_entry_eq]
  generalize (lg_sl ([.ref (q 0), .int (nI (t)), .int (nI (way))]) ++ List.replicate (3 - (lg_sl ([.ref (q 0), .int (nI (t)), .int (nI (way))])).length) Slot.unset).toArray = ls at hl ⊢
  have hl : lv_has ls 3 [(0, .ref (q 0)), (1, .int (nI (t))), (2, .int (nI (way)))] := hl
  refine lv_aload_n hx hb dX4_placeOf_0 rfl (lv_at hl 0 rfl) ?_
  refine lv_iload_n hx hb dX4_placeOf_1 rfl (lv_at hl 1 rfl) ?_
  refine roV1 (v := .int (b2i (iw (nI (t)) (nI (0)) (nI (μ 0 1))))) (As := [.int (nI (t))]) (rest := []) (n := 1) ⟨hx, hb, hml, hown, htA⟩ (m_isState l D cI cZ sa q μ (nI (t)) s.heap hP ) (cwV 1 htA (gdV wd_802 wd_804 wp_15 wd_5 wd_805) rfl rfl rfl (by decide +kernel) ⟨Nat.le_of_ble_eq_true rfl, Nat.le_of_ble_eq_true rfl⟩) hKK hP 0 rfl rfl rfl hl.1 rfl (Nat.le_of_ble_eq_true rfl) dX4_placeOf_2 (Nat.zero_le _) (Nat.zero_le _) ?_
  refine b_ifeq (b := iw (nI (t)) (nI (0)) (nI (μ 0 1))) (tgt := 17) hx hb dX4_placeOf_5 (by decide) (fun c_1 => ?_) (fun c_1 => ?_)
  · exact absurd (c_1.symm.trans (iw_n (Nat.zero_le _) ht (Nat.lt_trans (hB 0 1) (by decide)))) (by decide)
  refine lv_iload_n hx hb dX4_placeOf_8 rfl (lv_at hl 2 rfl) ?_
  refine n_iconst (k := 0) hx hb dX4_placeOf_9 (by decide) ?_
  refine n_iconst (k := 2) hx hb dX4_placeOf_10 (by decide) ?_
  refine roS1 (v := .int (b2i (iw (nI (way)) (nI (0)) (nI (2))))) (As := [.int (nI (way)), .int (nI (0)), .int (nI (2))]) (rest := []) (n := 3) ⟨hx, hb, hml, hown, htA⟩ (m_in l D cI cZ sa (nI (way)) (nI (0)) (nI (2)) s.heap ) (va_cwS 3 htA (gdS wd_732 wd_733 wd_5 wd_734) rfl rfl rfl (by decide +kernel) ⟨Nat.le_of_ble_eq_true rfl, Nat.le_of_ble_eq_true rfl⟩) hKK rfl hl.1 rfl (Nat.le_of_ble_eq_true rfl) dX4_placeOf_11 (Nat.zero_le _) (Nat.zero_le _) ?_
  refine b_ifne (b := iw (nI (way)) (nI (0)) (nI (2))) (tgt := 21) hx hb dX4_placeOf_14 (by decide) (fun c_2 => ?_) (fun c_2 => ?_)
  rotate_left
  · exact absurd (c_2.symm.trans (iw_n (Nat.zero_le _) (by omega) (by decide))) (by decide)
  refine lv_aload_n hx hb dX4_placeOf_21 rfl (lv_at hl 0 rfl) ?_
  refine lv_iload_n hx hb dX4_placeOf_22 rfl (lv_at hl 1 rfl) ?_
  refine roV1 (v := .int (b2i (decide (μ 0 1 - t ≤ 40)))) (As := [.int (nI (t))]) (rest := []) (n := 1) ⟨hx, hb, hml, hown, htA⟩ (m_tells l D cI cZ sa q μ t s.heap hP hB hm0 ht) (cwV 1 htA (gdV wd_806 wd_808 wp_16 wd_5 wd_809) rfl rfl rfl (by decide +kernel) ⟨Nat.le_of_ble_eq_true rfl, Nat.le_of_ble_eq_true rfl⟩) hKK hP 0 rfl rfl rfl hl.1 rfl (Nat.le_of_ble_eq_true rfl) dX4_placeOf_23 (Nat.zero_le _) (Nat.zero_le _) ?_
  refine b_ifne (b := decide (μ 0 1 - t ≤ 40)) (tgt := 33) hx hb dX4_placeOf_26 (by decide) (fun c_3 => ?_) (fun c_3 => ?_)
  · exact absurd (c_3.symm.trans hv9) (by decide)
  refine n_iconst (k := 2) hx hb dX4_placeOf_29 (by decide) ?_
  refine lv_goto (tgt := 34) hx hb dX4_placeOf_30 (by decide) ?_
  exact ro_i hx hb hr hlocks (rfl) dX4_placeOf_34
set_option maxHeartbeats 4000000 in
set_option maxRecDepth 100000 in
theorem m_placeOf_0 (l : Launch) (D : va_G) (cI cZ : ClassId) (sa : Nat → Nat) (q : Nat → Nat) (μ : ST) (t way : Nat) (H : Heap) (hP : va_P D vwCl (wM q cI cZ μ) H) (hB : ∀ k i, μ k i < 1073741824) (hm0 : μ 0 0 ≤ 60) (ht : t ≤ μ 0 1) (hw3 : way < 3) (hv9 : decide (μ 0 1 - t ≤ 40) = true) : Met l yX4_placeOf (codeW yX4_placeOf cX4_placeOf 3 (some .int)) ({ frames := 2, cells := 0, slots := 0, locals := 43 } : Room) (RoP D cI cZ sa H [.ref (q 0), .int (nI (t)), .int (nI (way))]) (RoQ (some (.int (nI (0)))) H) 0 0 RoF := by
  refine Met.ofW (cc := cX4_placeOf) (maxL := 3) (ret := (some .int)) (by decide) rfl ?_
  intro p e s m args below meth c s₁ B hml hv
  obtain ⟨rfl, hH, hKK⟩ := hv
  subst hH
  have hx := B.exec
  have hb := B.bytes
  have hr := B.returns
  have htA : ∀ w ∈ WA, w.before _ s = true := fun w h => atoms_spec (ws := (codeW yX4_placeOf cX4_placeOf 3 (some .int))) B.pre w (List.mem_cons_of_mem _ h)
  have hown : s.vm.findClass RX4 = some m.cls := findClass_of_methodNamed B.named
  have hlocks := B.notSynchronized
  have hl := lv_entry ([.ref (q 0), .int (nI (t)), .int (nI (way))]) (n := 3) (Nat.le_of_ble_eq_true rfl)
  rw [lg_entry_eq]
  generalize (lg_sl ([.ref (q 0), .int (nI (t)), .int (nI (way))]) ++ List.replicate (3 - (lg_sl ([.ref (q 0), .int (nI (t)), .int (nI (way))])).length) Slot.unset).toArray = ls at hl ⊢
  have hl : lv_has ls 3 [(0, .ref (q 0)), (1, .int (nI (t))), (2, .int (nI (way)))] := hl
  refine lv_aload_n hx hb dX4_placeOf_0 rfl (lv_at hl 0 rfl) ?_
  refine lv_iload_n hx hb dX4_placeOf_1 rfl (lv_at hl 1 rfl) ?_
  refine roV1 (v := .int (b2i (iw (nI (t)) (nI (0)) (nI (μ 0 1))))) (As := [.int (nI (t))]) (rest := []) (n := 1) ⟨hx, hb, hml, hown, htA⟩ (m_isState l D cI cZ sa q μ (nI (t)) s.heap hP ) (cwV 1 htA (gdV wd_802 wd_804 wp_15 wd_5 wd_805) rfl rfl rfl (by decide +kernel) ⟨Nat.le_of_ble_eq_true rfl, Nat.le_of_ble_eq_true rfl⟩) hKK hP 0 rfl rfl rfl hl.1 rfl (Nat.le_of_ble_eq_true rfl) dX4_placeOf_2 (Nat.zero_le _) (Nat.zero_le _) ?_
  refine b_ifeq (b := iw (nI (t)) (nI (0)) (nI (μ 0 1))) (tgt := 17) hx hb dX4_placeOf_5 (by decide) (fun c_1 => ?_) (fun c_1 => ?_)
  · exact absurd (c_1.symm.trans (iw_n (Nat.zero_le _) ht (Nat.lt_trans (hB 0 1) (by decide)))) (by decide)
  refine lv_iload_n hx hb dX4_placeOf_8 rfl (lv_at hl 2 rfl) ?_
  refine n_iconst (k := 0) hx hb dX4_placeOf_9 (by decide) ?_
  refine n_iconst (k := 2) hx hb dX4_placeOf_10 (by decide) ?_
  refine roS1 (v := .int (b2i (iw (nI (way)) (nI (0)) (nI (2))))) (As := [.int (nI (way)), .int (nI (0)), .int (nI (2))]) (rest := []) (n := 3) ⟨hx, hb, hml, hown, htA⟩ (m_in l D cI cZ sa (nI (way)) (nI (0)) (nI (2)) s.heap ) (va_cwS 3 htA (gdS wd_732 wd_733 wd_5 wd_734) rfl rfl rfl (by decide +kernel) ⟨Nat.le_of_ble_eq_true rfl, Nat.le_of_ble_eq_true rfl⟩) hKK rfl hl.1 rfl (Nat.le_of_ble_eq_true rfl) dX4_placeOf_11 (Nat.zero_le _) (Nat.zero_le _) ?_
  refine b_ifne (b := iw (nI (way)) (nI (0)) (nI (2))) (tgt := 21) hx hb dX4_placeOf_14 (by decide) (fun c_2 => ?_) (fun c_2 => ?_)
  rotate_left
  · exact absurd (c_2.symm.trans (iw_n (Nat.zero_le _) (by omega) (by decide))) (by decide)
  refine lv_aload_n hx hb dX4_placeOf_21 rfl (lv_at hl 0 rfl) ?_
  refine lv_iload_n hx hb dX4_placeOf_22 rfl (lv_at hl 1 rfl) ?_
  refine roV1 (v := .int (b2i (decide (μ 0 1 - t ≤ 40)))) (As := [.int (nI (t))]) (rest := []) (n := 1) ⟨hx, hb, hml, hown, htA⟩ (m_tells l D cI cZ sa q μ t s.heap hP hB hm0 ht) (cwV 1 htA (gdV wd_806 wd_808 wp_16 wd_5 wd_809) rfl rfl rfl (by decide +kernel) ⟨Nat.le_of_ble_eq_true rfl, Nat.le_of_ble_eq_true rfl⟩) hKK hP 0 rfl rfl rfl hl.1 rfl (Nat.le_of_ble_eq_true rfl) dX4_placeOf_23 (Nat.zero_le _) (Nat.zero_le _) ?_
  refine b_ifne (b := decide (μ 0 1 - t ≤ 40)) (tgt := 33) hx hb dX4_placeOf_26 (by decide) (fun c_3 => ?_) (fun c_3 => ?_)
  rotate_left
  · exact absurd (c_3.symm.trans hv9) (by decide)
  refine n_iconst (k := 0) hx hb dX4_placeOf_33 (by decide) ?_
  exact ro_i hx hb hr hlocks (rfl) dX4_placeOf_34
set_option maxHeartbeats 4000000 in
set_option maxRecDepth 100000 in
theorem m_wasFound (l : Launch) (D : va_G) (cI cZ : ClassId) (sa : Nat → Nat) (q : Nat → Nat) (μ : ST) (mm t b0 w0 : Nat) (H : Heap) (hP : va_P D vwCl (wM q cI cZ μ) H) (hB : ∀ k i, μ k i < 1073741824) (hm0 : μ 0 0 ≤ 60) (hst9 : μ 0 1 ≤ 2048) (hm : mm < 60) (ht : t ≤ μ 0 1) (hw : w0 ≤ 2 ^ 31) : Met l yX4_wasFound (codeW yX4_wasFound cX4_wasFound 8 (some .boolean)) ({ frames := 1, cells := 0, slots := 0, locals := 22 } : Room) (RoP D cI cZ sa H [.ref (q 0), .int (nI (mm)), .int (nI (t)), .int (nI (b0)), .int (oi (w0))]) (RoQ (some (.int (b2i (wfd μ t b0 w0 mm)))) H) 0 0 RoF := by
  refine Met.ofW (cc := cX4_wasFound) (maxL := 8) (ret := (some .boolean)) (by decide) rfl ?_
  intro p e s m args below meth c s₁ B hml hv
  obtain ⟨rfl, hH, hKK⟩ := hv
  subst hH
  have hx := B.exec
  have hb := B.bytes
  have hr := B.returns
  have htA : ∀ w ∈ WA, w.before _ s = true := fun w h => atoms_spec (ws := (codeW yX4_wasFound cX4_wasFound 8 (some .boolean))) B.pre w (List.mem_cons_of_mem _ h)
  have hown : s.vm.findClass RX4 = some m.cls := findClass_of_methodNamed B.named
  have hlocks := B.notSynchronized
  have hl := lv_entry ([.ref (q 0), .int (nI (mm)), .int (nI (t)), .int (nI (b0)), .int (oi (w0))]) (n := 8) (Nat.le_of_ble_eq_true rfl)
  rw [lg_entry_eq]
  generalize (lg_sl ([.ref (q 0), .int (nI (mm)), .int (nI (t)), .int (nI (b0)), .int (oi (w0))]) ++ List.replicate (8 - (lg_sl ([.ref (q 0), .int (nI (mm)), .int (nI (t)), .int (nI (b0)), .int (oi (w0))])).length) Slot.unset).toArray = ls at hl ⊢
  have hl : lv_has ls 8 [(0, .ref (q 0)), (1, .int (nI (mm))), (2, .int (nI (t))), (3, .int (nI (b0))), (4, .int (oi (w0)))] := hl
  refine lv_aload_n hx hb dX4_wasFound_0 rfl (lv_at hl 0 rfl) ?_
  refine va_get (D := D) (ci := 4) (v := .ref (q 2)) (C := RX4) (T := TX4) (N := 26) hx hb htA uwX4 hown hKK.1 hP 0 rfl rfl 1 (by decide) (htA _ wd_646) (fun _ h9 => h9) rfl dX4_wasFound_1 ?_
  refine lv_iload_n hx hb dX4_wasFound_4 rfl (lv_at hl 1 rfl) ?_
  refine n_iald (g := μ 2) (cA := cI) (n := 60) (j := mm) hx hb hKK.1 hP 2 0 rfl rfl (by omega) (Nat.le_of_ble_eq_true rfl) dX4_wasFound_5 ?_
  refine lv_istore (lv' := [(5, .int (nI (μ 2 mm))), (0, .ref (q 0)), (1, .int (nI (mm))), (2, .int (nI (t))), (3, .int (nI (b0))), (4, .int (oi (w0)))]) hx hb dX4_wasFound_6 hl (by decide) rfl (fun ls hl => ?_)
  refine lv_aload_n hx hb dX4_wasFound_8 rfl (lv_at hl 1 rfl) ?_
  refine va_get (D := D) (ci := 4) (v := .ref (q 3)) (C := RX4) (T := TX4) (N := 26) hx hb htA uwX4 hown hKK.1 hP 0 rfl rfl 2 (by decide) (htA _ wd_647) (fun _ h9 => h9) rfl dX4_wasFound_9 ?_
  refine lv_iload_n hx hb dX4_wasFound_12 rfl (lv_at hl 2 rfl) ?_
  refine n_iald (g := μ 3) (cA := cI) (n := 60) (j := mm) hx hb hKK.1 hP 3 0 rfl rfl (by omega) (Nat.le_of_ble_eq_true rfl) dX4_wasFound_13 ?_
  refine lv_istore (lv' := [(6, .int (nI (μ 3 mm))), (5, .int (nI (μ 2 mm))), (0, .ref (q 0)), (1, .int (nI (mm))), (2, .int (nI (t))), (3, .int (nI (b0))), (4, .int (oi (w0)))]) hx hb dX4_wasFound_14 hl (by decide) rfl (fun ls hl => ?_)
  refine lv_aload_n hx hb dX4_wasFound_16 rfl (lv_at hl 2 rfl) ?_
  refine va_get (D := D) (ci := 4) (v := .int (nI (μ 0 1))) (C := RX4) (T := TX4) (N := 26) hx hb htA uwX4 hown hKK.1 hP 0 rfl rfl 13 (by decide) (htA _ wd_658) (fun _ h9 => h9) rfl dX4_wasFound_17 ?_
  refine n_iconst (k := 1) hx hb dX4_wasFound_20 (by decide) ?_
  refine n_ipred hx hb dX4_wasFound_21 ?_
  refine lv_istore (lv' := [(7, .int (oi (μ 0 1))), (6, .int (nI (μ 3 mm))), (5, .int (nI (μ 2 mm))), (0, .ref (q 0)), (1, .int (nI (mm))), (2, .int (nI (t))), (3, .int (nI (b0))), (4, .int (oi (w0)))]) hx hb dX4_wasFound_22 hl (by decide) rfl (fun ls hl => ?_)
  have loop_24 : ∀ (n : Nat) (a1 a2 : Nat), (t + n ≤ μ 0 1) → (bk μ 9 mm t n a1 = bk μ 9 mm t (μ 0 1 - t) (μ 2 mm)) → (bk μ 10 mm t n a2 = bk μ 10 mm t (μ 0 1 - t) (μ 3 mm)) → ∀ (ls : Array Slot), lv_has ls 8 [(0, .ref (q 0)), (1, .int (nI (mm))), (2, .int (nI (t))), (3, .int (nI (b0))), (4, .int (oi (w0))), (5, .int (nI (a1))), (6, .int (nI (a2))), (7, .int (oi (t + n)))] → W p l e (headSpec (codeW yX4_wasFound cX4_wasFound 8 (some .boolean)) ({ frames := 1, cells := 0, slots := 0, locals := 22 } : Room)).room s m ([.ref (q 0), .int (nI (mm)), .int (nI (t)), .int (nI (b0)), .int (oi (w0))] : List Value).toArray below meth c s.heap [] 0 0 (MQ below (RoQ (some (.int (b2i (wfd μ t b0 w0 mm)))) s.heap) ([.ref (q 0), .int (nI (mm)), .int (nI (t)), .int (nI (b0)), .int (oi (w0))] : List Value).toArray s 0 0 RoF) (F0 m 24 ls []) := by
    intro n
    induction n with
    | zero =>
      intro a1 a2 hin h1 h2 ls hl
      refine lv_iload hx hb dX4_wasFound_24 (lv_at hl 7 rfl) ?_
      refine lv_iload_n hx hb dX4_wasFound_26 rfl (lv_at hl 2 rfl) ?_
      refine kn_icmp_lt (x := t + 0) (y := t) (tgt := 65) hx hb dX4_wasFound_27 (by decide) (by have := hB 0 1; omega) (by have := hB 0 1; omega) (fun c_1 => ?_) (fun c_1 => ?_)
      rotate_left
      · exfalso; omega
      refine lv_aload_n hx hb dX4_wasFound_65 rfl (lv_at hl 0 rfl) ?_
      refine lv_iload_n hx hb dX4_wasFound_66 rfl (lv_at hl 1 rfl) ?_
      refine lv_iload_n hx hb dX4_wasFound_67 rfl (lv_at hl 2 rfl) ?_
      refine roV1 (v := .int (b2i (wth μ mm t))) (As := [.int (nI (mm)), .int (nI (t))]) (rest := []) (n := 2) ⟨hx, hb, hml, hown, htA⟩ (m_wasThere l D cI cZ sa q μ mm t s.heap hP hB hm0 (by omega) (by have := hB 0 1; omega)) (cwV 2 htA (gdV wd_826 wd_828 wp_20 wd_5 wd_829) rfl rfl rfl (by decide +kernel) ⟨Nat.le_of_ble_eq_true rfl, Nat.le_of_ble_eq_true rfl⟩) hKK hP 0 rfl rfl rfl hl.1 rfl (Nat.le_of_ble_eq_true rfl) dX4_wasFound_68 (Nat.zero_le _) (Nat.zero_le _) ?_
      refine b_ifeq (b := wth μ mm t) (tgt := 103) hx hb dX4_wasFound_71 (by decide) (fun c_2 => ?_) (fun c_2 => ?_)
      · refine n_iconst (k := 0) hx hb dX4_wasFound_103 (by decide) ?_
        exact ro_z (v := false) hx hb hr hlocks (by unfold wfd; rw [← h1, ← h2]; simp only [bk]; simp [c_2]) dX4_wasFound_104
      · refine lv_iload hx hb dX4_wasFound_74 (lv_at hl 5 rfl) ?_
        refine lv_iload_n hx hb dX4_wasFound_76 rfl (lv_at hl 3 rfl) ?_
        refine roS1 (v := .int (b2i (hs a1 b0))) (As := [.int (nI (a1)), .int (nI (b0))]) (rest := []) (n := 2) ⟨hx, hb, hml, hown, htA⟩ (m_has l D cI cZ sa a1 b0 s.heap ) (va_cwS 2 htA (gdS wd_759 wd_760 wd_5 wd_761) rfl rfl rfl (by decide +kernel) ⟨Nat.le_of_ble_eq_true rfl, Nat.le_of_ble_eq_true rfl⟩) hKK rfl hl.1 rfl (Nat.le_of_ble_eq_true rfl) dX4_wasFound_77 (Nat.zero_le _) (Nat.zero_le _) ?_
        refine b_ifeq (b := hs a1 b0) (tgt := 103) hx hb dX4_wasFound_80 (by decide) (fun c_3 => ?_) (fun c_3 => ?_)
        · refine n_iconst (k := 0) hx hb dX4_wasFound_103 (by decide) ?_
          exact ro_z (v := false) hx hb hr hlocks (by unfold wfd; rw [← h1, ← h2]; simp only [bk]; simp [c_2, c_3]) dX4_wasFound_104
        · refine lv_iload hx hb dX4_wasFound_83 (lv_at hl 4 rfl) ?_
          refine lv_iconst (v := oi 0) hx hb dX4_wasFound_85 (by decide) ?_
          refine k_icmp_eq (x := w0) (y := 0) (tgt := 99) hx hb dX4_wasFound_86 (by decide) hw (by decide) (fun c_4 => ?_) (fun c_4 => ?_)
          · refine n_iconst (k := 1) hx hb dX4_wasFound_99 (by decide) ?_
            refine lv_goto (tgt := 104) hx hb dX4_wasFound_100 (by decide) ?_
            exact ro_z (v := true) hx hb hr hlocks (by unfold wfd; rw [← h1, ← h2]; simp only [bk]; simp [c_2, c_3, c_4]) dX4_wasFound_104
          · refine lv_iload hx hb dX4_wasFound_89 (lv_at hl 6 rfl) ?_
            refine lv_iload hx hb dX4_wasFound_91 (lv_at hl 4 rfl) ?_
            refine k_top (x := w0) c_4 ?_
            refine roS1 (v := .int (b2i (hs a2 (w0 - 1)))) (As := [.int (nI (a2)), .int (nI (w0 - 1))]) (rest := []) (n := 2) ⟨hx, hb, hml, hown, htA⟩ (m_has l D cI cZ sa a2 (w0 - 1) s.heap ) (va_cwS 2 htA (gdS wd_759 wd_760 wd_5 wd_761) rfl rfl rfl (by decide +kernel) ⟨Nat.le_of_ble_eq_true rfl, Nat.le_of_ble_eq_true rfl⟩) hKK rfl hl.1 rfl (Nat.le_of_ble_eq_true rfl) dX4_wasFound_93 (Nat.zero_le _) (Nat.zero_le _) ?_
            refine b_ifeq (b := hs a2 (w0 - 1)) (tgt := 103) hx hb dX4_wasFound_96 (by decide) (fun c_5 => ?_) (fun c_5 => ?_)
            · refine n_iconst (k := 0) hx hb dX4_wasFound_103 (by decide) ?_
              exact ro_z (v := false) hx hb hr hlocks (by unfold wfd; rw [← h1, ← h2]; simp only [bk]; simp [c_2, c_3, c_4, c_5]) dX4_wasFound_104
            · refine n_iconst (k := 1) hx hb dX4_wasFound_99 (by decide) ?_
              refine lv_goto (tgt := 104) hx hb dX4_wasFound_100 (by decide) ?_
              exact ro_z (v := true) hx hb hr hlocks (by unfold wfd; rw [← h1, ← h2]; simp only [bk]; simp [c_2, c_3, c_4, c_5]) dX4_wasFound_104
    | succ n ih =>
      intro a1 a2 hin h1 h2 ls hl
      refine lv_iload hx hb dX4_wasFound_24 (lv_at hl 7 rfl) ?_
      refine lv_iload_n hx hb dX4_wasFound_26 rfl (lv_at hl 2 rfl) ?_
      refine n_icmp_lt (x := t + n) (y := t) (tgt := 65) hx hb dX4_wasFound_27 (by decide) (by have := hB 0 1; omega) (by have := hB 0 1; omega) (fun c_6 => ?_) (fun c_6 => ?_)
      · exfalso; omega
      refine lv_aload_n hx hb dX4_wasFound_30 rfl (lv_at hl 0 rfl) ?_
      refine va_get (D := D) (ci := 4) (v := .ref (q 8)) (C := RX4) (T := TX4) (N := 26) hx hb htA uwX4 hown hKK.1 hP 0 rfl rfl 8 (by decide) (htA _ wd_653) (fun _ h9 => h9) rfl dX4_wasFound_31 ?_
      refine lv_iload hx hb dX4_wasFound_34 (lv_at hl 7 rfl) ?_
      refine n_iald (g := μ 8) (cA := cI) (n := 2048) (j := t + n) hx hb hKK.1 hP 8 0 rfl rfl (by omega) (Nat.le_of_ble_eq_true rfl) dX4_wasFound_36 ?_
      refine lv_iload_n hx hb dX4_wasFound_37 rfl (lv_at hl 1 rfl) ?_
      refine n_icmp_ne (x := μ 8 (t + n)) (y := mm) (tgt := 59) hx hb dX4_wasFound_38 (by decide) (Nat.lt_trans (hB 8 (t + n)) (by decide)) (by have := hB 0 1; omega) (fun c_7 => ?_) (fun c_7 => ?_)
      · refine lv_iinc (v := oi (t + n)) (lv' := [(7, .int (oi (t + n))), (0, .ref (q 0)), (1, .int (nI (mm))), (2, .int (nI (t))), (3, .int (nI (b0))), (4, .int (oi (w0))), (5, .int (nI (a1))), (6, .int (nI (a2)))]) hx hb dX4_wasFound_59 hl (k := 7) rfl (n_deck (t + n)) (by decide) rfl (fun ls hl => ?_)
        refine lv_goto (tgt := 24) hx hb dX4_wasFound_62 (by decide) ?_
        exact ih a1 a2 (by omega) (by rw [← h1]; simp only [bk]; rw [decide_eq_false c_7]; rfl) (by rw [← h2]; simp only [bk]; rw [decide_eq_false c_7]; rfl) ls (lv_sub hl [1, 2, 3, 4, 5, 6, 7, 0] rfl)
      · refine lv_aload_n hx hb dX4_wasFound_41 rfl (lv_at hl 0 rfl) ?_
        refine va_get (D := D) (ci := 4) (v := .ref (q 9)) (C := RX4) (T := TX4) (N := 26) hx hb htA uwX4 hown hKK.1 hP 0 rfl rfl 9 (by decide) (htA _ wd_654) (fun _ h9 => h9) rfl dX4_wasFound_42 ?_
        refine lv_iload hx hb dX4_wasFound_45 (lv_at hl 7 rfl) ?_
        refine n_iald (g := μ 9) (cA := cI) (n := 2048) (j := t + n) hx hb hKK.1 hP 9 0 rfl rfl (by omega) (Nat.le_of_ble_eq_true rfl) dX4_wasFound_47 ?_
        refine lv_istore (lv' := [(5, .int (nI (μ 9 (t + n)))), (0, .ref (q 0)), (1, .int (nI (mm))), (2, .int (nI (t))), (3, .int (nI (b0))), (4, .int (oi (w0))), (6, .int (nI (a2))), (7, .int (nI (t + n)))]) hx hb dX4_wasFound_48 hl (by decide) rfl (fun ls hl => ?_)
        refine lv_aload_n hx hb dX4_wasFound_50 rfl (lv_at hl 1 rfl) ?_
        refine va_get (D := D) (ci := 4) (v := .ref (q 10)) (C := RX4) (T := TX4) (N := 26) hx hb htA uwX4 hown hKK.1 hP 0 rfl rfl 10 (by decide) (htA _ wd_655) (fun _ h9 => h9) rfl dX4_wasFound_51 ?_
        refine lv_iload hx hb dX4_wasFound_54 (lv_at hl 7 rfl) ?_
        refine n_iald (g := μ 10) (cA := cI) (n := 2048) (j := t + n) hx hb hKK.1 hP 10 0 rfl rfl (by omega) (Nat.le_of_ble_eq_true rfl) dX4_wasFound_56 ?_
        refine lv_istore (lv' := [(6, .int (nI (μ 10 (t + n)))), (5, .int (nI (μ 9 (t + n)))), (0, .ref (q 0)), (1, .int (nI (mm))), (2, .int (nI (t))), (3, .int (nI (b0))), (4, .int (oi (w0))), (7, .int (nI (t + n)))]) hx hb dX4_wasFound_57 hl (by decide) rfl (fun ls hl => ?_)
        refine lv_iinc (v := oi (t + n)) (lv' := [(7, .int (oi (t + n))), (6, .int (nI (μ 10 (t + n)))), (5, .int (nI (μ 9 (t + n)))), (0, .ref (q 0)), (1, .int (nI (mm))), (2, .int (nI (t))), (3, .int (nI (b0))), (4, .int (oi (w0)))]) hx hb dX4_wasFound_59 hl (k := 7) rfl (n_deck (t + n)) (by decide) rfl (fun ls hl => ?_)
        refine lv_goto (tgt := 24) hx hb dX4_wasFound_62 (by decide) ?_
        exact ih (μ 9 (t + n)) (μ 10 (t + n)) (by omega) (by rw [← h1]; simp only [bk]; rw [decide_eq_true c_7]; rfl) (by rw [← h2]; simp only [bk]; rw [decide_eq_true c_7]; rfl) ls (lv_sub hl [3, 4, 5, 6, 7, 2, 1, 0] rfl)
  have e7 : μ 0 1 = t + (μ 0 1 - t) := by omega
  exact loop_24 (μ 0 1 - t) (μ 2 mm) (μ 3 mm) (by omega) rfl rfl ls (by rw [← e7]; exact lv_sub hl [3, 4, 5, 6, 7, 2, 1, 0] rfl)
set_option maxHeartbeats 4000000 in
set_option maxRecDepth 100000 in
theorem m_foundOne (l : Launch) (D : va_G) (cI cZ : ClassId) (sa : Nat → Nat) (q : Nat → Nat) (μ : ST) (b0 w0 ix : Nat) (H : Heap) (hP : va_P D vwCl (wM q cI cZ μ) H) (hB : ∀ k i, μ k i < 1073741824) (hm0 : μ 0 0 ≤ 60) (hw : w0 ≤ 2 ^ 31) (hix : ix < 2 ^ 31) : Met l yX4_foundOne (codeW yX4_foundOne cX4_foundOne 8 (some .int)) ({ frames := 2, cells := 0, slots := 0, locals := 44 } : Room) (RoP D cI cZ sa H [.ref (q 0), .int (nI (b0)), .int (oi (w0)), .int (nI (ix))]) (RoQ (some (.int (oi (fo μ b0 w0 ix (μ 0 0) 0)))) H) 0 0 RoF := by
  refine Met.ofW (cc := cX4_foundOne) (maxL := 8) (ret := (some .int)) (by decide) rfl ?_
  intro p e s m args below meth c s₁ B hml hv
  obtain ⟨rfl, hH, hKK⟩ := hv
  subst hH
  have hx := B.exec
  have hb := B.bytes
  have hr := B.returns
  have htA : ∀ w ∈ WA, w.before _ s = true := fun w h => atoms_spec (ws := (codeW yX4_foundOne cX4_foundOne 8 (some .int))) B.pre w (List.mem_cons_of_mem _ h)
  have hown : s.vm.findClass RX4 = some m.cls := findClass_of_methodNamed B.named
  have hlocks := B.notSynchronized
  have hl := lv_entry ([.ref (q 0), .int (nI (b0)), .int (oi (w0)), .int (nI (ix))]) (n := 8) (Nat.le_of_ble_eq_true rfl)
  rw [lg_entry_eq]
  generalize (lg_sl ([.ref (q 0), .int (nI (b0)), .int (oi (w0)), .int (nI (ix))]) ++ List.replicate (8 - (lg_sl ([.ref (q 0), .int (nI (b0)), .int (oi (w0)), .int (nI (ix))])).length) Slot.unset).toArray = ls at hl ⊢
  have hl : lv_has ls 8 [(0, .ref (q 0)), (1, .int (nI (b0))), (2, .int (oi (w0))), (3, .int (nI (ix)))] := hl
  refine n_iconst (k := 0) hx hb dX4_foundOne_0 (by decide) ?_
  refine lv_istore (lv' := [(4, .int (nI (0))), (0, .ref (q 0)), (1, .int (nI (b0))), (2, .int (oi (w0))), (3, .int (nI (ix)))]) hx hb dX4_foundOne_1 hl (by decide) rfl (fun ls hl => ?_)
  have loop_3 : ∀ (n : Nat) (m9 : Nat), (m9 + n = μ 0 0) → (fo μ b0 w0 ix n m9 = fo μ b0 w0 ix (μ 0 0) 0) → ∀ (ls : Array Slot), lv_has ls 8 [(0, .ref (q 0)), (1, .int (nI (b0))), (2, .int (oi (w0))), (3, .int (nI (ix))), (4, .int (nI (m9)))] → W p l e (headSpec (codeW yX4_foundOne cX4_foundOne 8 (some .int)) ({ frames := 2, cells := 0, slots := 0, locals := 44 } : Room)).room s m ([.ref (q 0), .int (nI (b0)), .int (oi (w0)), .int (nI (ix))] : List Value).toArray below meth c s.heap [] 0 0 (MQ below (RoQ (some (.int (oi (fo μ b0 w0 ix (μ 0 0) 0)))) s.heap) ([.ref (q 0), .int (nI (b0)), .int (oi (w0)), .int (nI (ix))] : List Value).toArray s 0 0 RoF) (F0 m 3 ls []) := by
    intro n
    induction n with
    | zero =>
      intro m9 hin hres ls hl
      refine lv_iload hx hb dX4_foundOne_3 (lv_at hl 4 rfl) ?_
      refine lv_aload_n hx hb dX4_foundOne_5 rfl (lv_at hl 0 rfl) ?_
      refine va_get (D := D) (ci := 4) (v := .int (nI (μ 0 0))) (C := RX4) (T := TX4) (N := 26) hx hb htA uwX4 hown hKK.1 hP 0 rfl rfl 6 (by decide) (htA _ wd_651) (fun _ h9 => h9) rfl dX4_foundOne_6 ?_
      refine n_icmp_ge (x := m9) (y := μ 0 0) (tgt := 133) hx hb dX4_foundOne_9 (by decide) (by omega) (Nat.lt_trans (hB 0 0) (by decide)) (fun c_1 => ?_) (fun c_1 => ?_)
      rotate_left
      · exfalso; omega
      refine lv_iconst (v := oi 0) hx hb dX4_foundOne_133 (by decide) ?_
      exact ro_i hx hb hr hlocks (by rw [← hres]; rfl) dX4_foundOne_134
    | succ n ih =>
      intro m9 hin hres ls hl
      refine lv_iload hx hb dX4_foundOne_3 (lv_at hl 4 rfl) ?_
      refine lv_aload_n hx hb dX4_foundOne_5 rfl (lv_at hl 0 rfl) ?_
      refine va_get (D := D) (ci := 4) (v := .int (nI (μ 0 0))) (C := RX4) (T := TX4) (N := 26) hx hb htA uwX4 hown hKK.1 hP 0 rfl rfl 6 (by decide) (htA _ wd_651) (fun _ h9 => h9) rfl dX4_foundOne_6 ?_
      refine n_icmp_ge (x := m9) (y := μ 0 0) (tgt := 133) hx hb dX4_foundOne_9 (by decide) (by omega) (Nat.lt_trans (hB 0 0) (by decide)) (fun c_2 => ?_) (fun c_2 => ?_)
      · exfalso; omega
      refine n_iconst (k := 0) hx hb dX4_foundOne_12 (by decide) ?_
      refine lv_istore (lv' := [(5, .int (nI (0))), (0, .ref (q 0)), (1, .int (nI (b0))), (2, .int (oi (w0))), (3, .int (nI (ix))), (4, .int (nI (m9)))]) hx hb dX4_foundOne_13 hl (by decide) rfl (fun ls hl => ?_)
      refine n_iconst (k := 0) hx hb dX4_foundOne_15 (by decide) ?_
      refine lv_istore (lv' := [(6, .int (nI (0))), (5, .int (nI (0))), (0, .ref (q 0)), (1, .int (nI (b0))), (2, .int (oi (w0))), (3, .int (nI (ix))), (4, .int (nI (m9)))]) hx hb dX4_foundOne_16 hl (by decide) rfl (fun ls hl => ?_)
      have loop_18 : ∀ (n2 : Nat) (i : Nat), (i + n2 = μ 0 0) → ∀ (ls : Array Slot), lv_has ls 8 [(0, .ref (q 0)), (1, .int (nI (b0))), (2, .int (oi (w0))), (3, .int (nI (ix))), (4, .int (nI (m9))), (5, .int (nI (cnt (fun o9 => ifd μ b0 w0 o9 && ahd μ m9 o9) i))), (6, .int (nI (i)))] → W p l e (headSpec (codeW yX4_foundOne cX4_foundOne 8 (some .int)) ({ frames := 2, cells := 0, slots := 0, locals := 44 } : Room)).room s m ([.ref (q 0), .int (nI (b0)), .int (oi (w0)), .int (nI (ix))] : List Value).toArray below meth c s.heap [] 0 0 (MQ below (RoQ (some (.int (oi (fo μ b0 w0 ix (μ 0 0) 0)))) s.heap) ([.ref (q 0), .int (nI (b0)), .int (oi (w0)), .int (nI (ix))] : List Value).toArray s 0 0 RoF) (F0 m 18 ls []) := by
        intro n2
        induction n2 with
        | zero =>
          intro i hii ls hl
          refine lv_iload hx hb dX4_foundOne_18 (lv_at hl 6 rfl) ?_
          refine lv_aload_n hx hb dX4_foundOne_20 rfl (lv_at hl 0 rfl) ?_
          refine va_get (D := D) (ci := 4) (v := .int (nI (μ 0 0))) (C := RX4) (T := TX4) (N := 26) hx hb htA uwX4 hown hKK.1 hP 0 rfl rfl 6 (by decide) (htA _ wd_651) (fun _ h9 => h9) rfl dX4_foundOne_21 ?_
          refine n_icmp_ge (x := i) (y := μ 0 0) (tgt := 107) hx hb dX4_foundOne_24 (by decide) (by omega) (Nat.lt_trans (hB 0 0) (by decide)) (fun c_3 => ?_) (fun c_3 => ?_)
          rotate_left
          · exfalso; omega
          refine lv_aload_n hx hb dX4_foundOne_107 rfl (lv_at hl 0 rfl) ?_
          refine lv_iload hx hb dX4_foundOne_108 (lv_at hl 4 rfl) ?_
          refine lv_iload_n hx hb dX4_foundOne_110 rfl (lv_at hl 1 rfl) ?_
          refine lv_iload_n hx hb dX4_foundOne_111 rfl (lv_at hl 2 rfl) ?_
          refine roV1 (v := .int (b2i (ifd μ b0 w0 m9))) (As := [.int (nI (m9)), .int (nI (b0)), .int (oi (w0))]) (rest := []) (n := 3) ⟨hx, hb, hml, hown, htA⟩ (m_isFound l D cI cZ sa q μ m9 b0 w0 s.heap hP hB hm0 (by omega) hw) (cwV 3 htA (gdV wd_794 wd_796 wp_14 wd_5 wd_797) rfl rfl rfl (by decide +kernel) ⟨Nat.le_of_ble_eq_true rfl, Nat.le_of_ble_eq_true rfl⟩) hKK hP 0 rfl rfl rfl hl.1 rfl (Nat.le_of_ble_eq_true rfl) dX4_foundOne_112 (Nat.zero_le _) (Nat.zero_le _) ?_
          refine b_ifeq (b := ifd μ b0 w0 m9) (tgt := 127) hx hb dX4_foundOne_115 (by decide) (fun c_4 => ?_) (fun c_4 => ?_)
          · refine lv_iinc (v := nI (m9 + 1)) (lv' := [(4, .int (nI (m9 + 1))), (0, .ref (q 0)), (1, .int (nI (b0))), (2, .int (oi (w0))), (3, .int (nI (ix))), (5, .int (nI (cnt (fun o9 => ifd μ b0 w0 o9 && ahd μ m9 o9) i))), (6, .int (nI (i)))]) hx hb dX4_foundOne_127 hl (k := 4) rfl (n_inc (m9) 1 rfl) (by decide) rfl (fun ls hl => ?_)
            refine lv_goto (tgt := 3) hx hb dX4_foundOne_130 (by decide) ?_
            exact ih (m9 + 1) (by omega) (by rw [← hres]; simp only [fo]; rw [show rnk μ b0 w0 m9 (μ 0 0) = cnt (fun o9 => ifd μ b0 w0 o9 && ahd μ m9 o9) i from by rw [show i = μ 0 0 by omega]; rfl]; simp [c_4]) ls (lv_sub hl [1, 2, 3, 4, 0] rfl)
          · refine lv_iload hx hb dX4_foundOne_118 (lv_at hl 5 rfl) ?_
            refine lv_iload_n hx hb dX4_foundOne_120 rfl (lv_at hl 3 rfl) ?_
            refine n_icmp_ne (x := cnt (fun o9 => ifd μ b0 w0 o9 && ahd μ m9 o9) i) (y := ix) (tgt := 127) hx hb dX4_foundOne_121 (by decide) (Nat.lt_of_le_of_lt (cnt_le _ _) (by omega)) hix (fun c_5 => ?_) (fun c_5 => ?_)
            · refine lv_iinc (v := nI (m9 + 1)) (lv' := [(4, .int (nI (m9 + 1))), (0, .ref (q 0)), (1, .int (nI (b0))), (2, .int (oi (w0))), (3, .int (nI (ix))), (5, .int (nI (cnt (fun o9 => ifd μ b0 w0 o9 && ahd μ m9 o9) i))), (6, .int (nI (i)))]) hx hb dX4_foundOne_127 hl (k := 4) rfl (n_inc (m9) 1 rfl) (by decide) rfl (fun ls hl => ?_)
              refine lv_goto (tgt := 3) hx hb dX4_foundOne_130 (by decide) ?_
              exact ih (m9 + 1) (by omega) (by rw [← hres]; simp only [fo]; rw [show rnk μ b0 w0 m9 (μ 0 0) = cnt (fun o9 => ifd μ b0 w0 o9 && ahd μ m9 o9) i from by rw [show i = μ 0 0 by omega]; rfl]; simp [c_4, c_5]) ls (lv_sub hl [1, 2, 3, 4, 0] rfl)
            · refine lv_iload hx hb dX4_foundOne_124 (lv_at hl 4 rfl) ?_
              exact ro_i hx hb hr hlocks (by rw [← hres]; simp only [fo]; rw [show rnk μ b0 w0 m9 (μ 0 0) = cnt (fun o9 => ifd μ b0 w0 o9 && ahd μ m9 o9) i from by rw [show i = μ 0 0 by omega]; rfl]; simp [c_4, c_5]; rfl) dX4_foundOne_126
        | succ n2 ih2 =>
          intro i hii ls hl
          refine lv_iload hx hb dX4_foundOne_18 (lv_at hl 6 rfl) ?_
          refine lv_aload_n hx hb dX4_foundOne_20 rfl (lv_at hl 0 rfl) ?_
          refine va_get (D := D) (ci := 4) (v := .int (nI (μ 0 0))) (C := RX4) (T := TX4) (N := 26) hx hb htA uwX4 hown hKK.1 hP 0 rfl rfl 6 (by decide) (htA _ wd_651) (fun _ h9 => h9) rfl dX4_foundOne_21 ?_
          refine n_icmp_ge (x := i) (y := μ 0 0) (tgt := 107) hx hb dX4_foundOne_24 (by decide) (by omega) (Nat.lt_trans (hB 0 0) (by decide)) (fun c_6 => ?_) (fun c_6 => ?_)
          · exfalso; omega
          refine lv_aload_n hx hb dX4_foundOne_27 rfl (lv_at hl 0 rfl) ?_
          refine va_get (D := D) (ci := 4) (v := .ref (q 1)) (C := RX4) (T := TX4) (N := 26) hx hb htA uwX4 hown hKK.1 hP 0 rfl rfl 0 (by decide) (htA _ wd_645) (fun _ h9 => h9) rfl dX4_foundOne_28 ?_
          refine lv_iload hx hb dX4_foundOne_31 (lv_at hl 6 rfl) ?_
          refine n_iald (g := μ 1) (cA := cI) (n := 60) (j := i) hx hb hKK.1 hP 1 0 rfl rfl (by omega) (Nat.le_of_ble_eq_true rfl) dX4_foundOne_33 ?_
          refine lv_aload_n hx hb dX4_foundOne_34 rfl (lv_at hl 0 rfl) ?_
          refine va_get (D := D) (ci := 4) (v := .ref (q 1)) (C := RX4) (T := TX4) (N := 26) hx hb htA uwX4 hown hKK.1 hP 0 rfl rfl 0 (by decide) (htA _ wd_645) (fun _ h9 => h9) rfl dX4_foundOne_35 ?_
          refine lv_iload hx hb dX4_foundOne_38 (lv_at hl 4 rfl) ?_
          refine n_iald (g := μ 1) (cA := cI) (n := 60) (j := m9) hx hb hKK.1 hP 1 0 rfl rfl (by omega) (Nat.le_of_ble_eq_true rfl) dX4_foundOne_40 ?_
          refine n_icmp_gt (x := μ 1 i) (y := μ 1 m9) (tgt := 68) hx hb dX4_foundOne_41 (by decide) (Nat.lt_trans (hB 1 i) (by decide)) (Nat.lt_trans (hB 1 m9) (by decide)) (fun c_7 => ?_) (fun c_7 => ?_)
          · refine n_iconst (k := 1) hx hb dX4_foundOne_68 (by decide) ?_
            refine lv_goto (tgt := 73) hx hb dX4_foundOne_69 (by decide) ?_
            refine lv_istore (lv' := [(7, .int (nI (1))), (0, .ref (q 0)), (1, .int (nI (b0))), (2, .int (oi (w0))), (3, .int (nI (ix))), (4, .int (nI (m9))), (5, .int (nI (cnt (fun o9 => ifd μ b0 w0 o9 && ahd μ m9 o9) i))), (6, .int (nI (i)))]) hx hb dX4_foundOne_73 hl (by decide) rfl (fun ls hl => ?_)
            refine lv_iload hx hb dX4_foundOne_75 (lv_at hl 6 rfl) ?_
            refine lv_aload_n hx hb dX4_foundOne_77 rfl (lv_at hl 1 rfl) ?_
            refine lv_iload hx hb dX4_foundOne_78 (lv_at hl 7 rfl) ?_
            refine lv_iload_n hx hb dX4_foundOne_80 rfl (lv_at hl 2 rfl) ?_
            refine lv_iload_n hx hb dX4_foundOne_81 rfl (lv_at hl 3 rfl) ?_
            refine roV1 (v := .int (b2i (ifd μ b0 w0 i))) (As := [.int (nI (i)), .int (nI (b0)), .int (oi (w0))]) (rest := [.int (nI (cnt (fun o9 => ifd μ b0 w0 o9 && ahd μ m9 o9) i))]) (n := 3) ⟨hx, hb, hml, hown, htA⟩ (m_isFound l D cI cZ sa q μ i b0 w0 s.heap hP hB hm0 (by omega) hw) (cwV 3 htA (gdV wd_794 wd_796 wp_14 wd_5 wd_797) rfl rfl rfl (by decide +kernel) ⟨Nat.le_of_ble_eq_true rfl, Nat.le_of_ble_eq_true rfl⟩) hKK hP 0 rfl rfl rfl hl.1 rfl (Nat.le_of_ble_eq_true rfl) dX4_foundOne_82 (Nat.zero_le _) (Nat.zero_le _) ?_
            refine b_ifeq (b := ifd μ b0 w0 i) (tgt := 97) hx hb dX4_foundOne_85 (by decide) (fun c_8 => ?_) (fun c_8 => ?_)
            · refine n_iconst (k := 0) hx hb dX4_foundOne_97 (by decide) ?_
              refine n_iadd hx hb dX4_foundOne_98 ?_
              refine lv_istore (lv' := [(5, .int (nI ((cnt (fun o9 => ifd μ b0 w0 o9 && ahd μ m9 o9) i) + 0))), (7, .int (nI (1))), (0, .ref (q 0)), (1, .int (nI (b0))), (2, .int (oi (w0))), (3, .int (nI (ix))), (4, .int (nI (m9))), (6, .int (nI (i)))]) hx hb dX4_foundOne_99 hl (by decide) rfl (fun ls hl => ?_)
              refine lv_iinc (v := nI (i + 1)) (lv' := [(6, .int (nI (i + 1))), (5, .int (nI ((cnt (fun o9 => ifd μ b0 w0 o9 && ahd μ m9 o9) i) + 0))), (7, .int (nI (1))), (0, .ref (q 0)), (1, .int (nI (b0))), (2, .int (oi (w0))), (3, .int (nI (ix))), (4, .int (nI (m9)))]) hx hb dX4_foundOne_101 hl (k := 7) rfl (n_inc (i) 1 rfl) (by decide) rfl (fun ls hl => ?_)
              refine lv_goto (tgt := 18) hx hb dX4_foundOne_104 (by decide) ?_
              have e : cnt (fun o9 => ifd μ b0 w0 o9 && ahd μ m9 o9) i = cnt (fun o9 => ifd μ b0 w0 o9 && ahd μ m9 o9) (i + 1) := cnt_f (by simp [ahd, c_6, c_7, c_8])
              rw [e] at hl
              exact ih2 (i + 1) (by omega) ls (lv_sub hl [3, 4, 5, 6, 7, 1, 0] rfl)
            · refine lv_iload hx hb dX4_foundOne_88 (lv_at hl 0 rfl) ?_
              refine b_ifeq (b := true) (tgt := 97) hx hb dX4_foundOne_90 (by decide) (fun c_9 => ?_) (fun c_9 => ?_)
              · exact absurd c_9 (by decide)
              refine n_iconst (k := 1) hx hb dX4_foundOne_93 (by decide) ?_
              refine lv_goto (tgt := 98) hx hb dX4_foundOne_94 (by decide) ?_
              refine n_iadd hx hb dX4_foundOne_98 ?_
              refine lv_istore (lv' := [(5, .int (nI ((cnt (fun o9 => ifd μ b0 w0 o9 && ahd μ m9 o9) i) + 1))), (7, .int (nI (1))), (0, .ref (q 0)), (1, .int (nI (b0))), (2, .int (oi (w0))), (3, .int (nI (ix))), (4, .int (nI (m9))), (6, .int (nI (i)))]) hx hb dX4_foundOne_99 hl (by decide) rfl (fun ls hl => ?_)
              refine lv_iinc (v := nI (i + 1)) (lv' := [(6, .int (nI (i + 1))), (5, .int (nI ((cnt (fun o9 => ifd μ b0 w0 o9 && ahd μ m9 o9) i) + 1))), (7, .int (nI (1))), (0, .ref (q 0)), (1, .int (nI (b0))), (2, .int (oi (w0))), (3, .int (nI (ix))), (4, .int (nI (m9)))]) hx hb dX4_foundOne_101 hl (k := 7) rfl (n_inc (i) 1 rfl) (by decide) rfl (fun ls hl => ?_)
              refine lv_goto (tgt := 18) hx hb dX4_foundOne_104 (by decide) ?_
              have e : cnt (fun o9 => ifd μ b0 w0 o9 && ahd μ m9 o9) i + 1 = cnt (fun o9 => ifd μ b0 w0 o9 && ahd μ m9 o9) (i + 1) := cnt_t (by simp [ahd, c_6, c_7, c_8, c_9])
              rw [e] at hl
              exact ih2 (i + 1) (by omega) ls (lv_sub hl [3, 4, 5, 6, 7, 1, 0] rfl)
          · refine lv_aload_n hx hb dX4_foundOne_44 rfl (lv_at hl 0 rfl) ?_
            refine va_get (D := D) (ci := 4) (v := .ref (q 1)) (C := RX4) (T := TX4) (N := 26) hx hb htA uwX4 hown hKK.1 hP 0 rfl rfl 0 (by decide) (htA _ wd_645) (fun _ h9 => h9) rfl dX4_foundOne_45 ?_
            refine lv_iload hx hb dX4_foundOne_48 (lv_at hl 6 rfl) ?_
            refine n_iald (g := μ 1) (cA := cI) (n := 60) (j := i) hx hb hKK.1 hP 1 0 rfl rfl (by omega) (Nat.le_of_ble_eq_true rfl) dX4_foundOne_50 ?_
            refine lv_aload_n hx hb dX4_foundOne_51 rfl (lv_at hl 0 rfl) ?_
            refine va_get (D := D) (ci := 4) (v := .ref (q 1)) (C := RX4) (T := TX4) (N := 26) hx hb htA uwX4 hown hKK.1 hP 0 rfl rfl 0 (by decide) (htA _ wd_645) (fun _ h9 => h9) rfl dX4_foundOne_52 ?_
            refine lv_iload hx hb dX4_foundOne_55 (lv_at hl 4 rfl) ?_
            refine n_iald (g := μ 1) (cA := cI) (n := 60) (j := m9) hx hb hKK.1 hP 1 0 rfl rfl (by omega) (Nat.le_of_ble_eq_true rfl) dX4_foundOne_57 ?_
            refine n_icmp_ne (x := μ 1 i) (y := μ 1 m9) (tgt := 72) hx hb dX4_foundOne_58 (by decide) (Nat.lt_trans (hB 1 i) (by decide)) (Nat.lt_trans (hB 1 m9) (by decide)) (fun c_10 => ?_) (fun c_10 => ?_)
            · refine n_iconst (k := 0) hx hb dX4_foundOne_72 (by decide) ?_
              refine lv_istore (lv' := [(7, .int (nI (0))), (0, .ref (q 0)), (1, .int (nI (b0))), (2, .int (oi (w0))), (3, .int (nI (ix))), (4, .int (nI (m9))), (5, .int (nI (cnt (fun o9 => ifd μ b0 w0 o9 && ahd μ m9 o9) i))), (6, .int (nI (i)))]) hx hb dX4_foundOne_73 hl (by decide) rfl (fun ls hl => ?_)
              refine lv_iload hx hb dX4_foundOne_75 (lv_at hl 6 rfl) ?_
              refine lv_aload_n hx hb dX4_foundOne_77 rfl (lv_at hl 1 rfl) ?_
              refine lv_iload hx hb dX4_foundOne_78 (lv_at hl 7 rfl) ?_
              refine lv_iload_n hx hb dX4_foundOne_80 rfl (lv_at hl 2 rfl) ?_
              refine lv_iload_n hx hb dX4_foundOne_81 rfl (lv_at hl 3 rfl) ?_
              refine roV1 (v := .int (b2i (ifd μ b0 w0 i))) (As := [.int (nI (i)), .int (nI (b0)), .int (oi (w0))]) (rest := [.int (nI (cnt (fun o9 => ifd μ b0 w0 o9 && ahd μ m9 o9) i))]) (n := 3) ⟨hx, hb, hml, hown, htA⟩ (m_isFound l D cI cZ sa q μ i b0 w0 s.heap hP hB hm0 (by omega) hw) (cwV 3 htA (gdV wd_794 wd_796 wp_14 wd_5 wd_797) rfl rfl rfl (by decide +kernel) ⟨Nat.le_of_ble_eq_true rfl, Nat.le_of_ble_eq_true rfl⟩) hKK hP 0 rfl rfl rfl hl.1 rfl (Nat.le_of_ble_eq_true rfl) dX4_foundOne_82 (Nat.zero_le _) (Nat.zero_le _) ?_
              refine b_ifeq (b := ifd μ b0 w0 i) (tgt := 97) hx hb dX4_foundOne_85 (by decide) (fun c_11 => ?_) (fun c_11 => ?_)
              · refine n_iconst (k := 0) hx hb dX4_foundOne_97 (by decide) ?_
                refine n_iadd hx hb dX4_foundOne_98 ?_
                refine lv_istore (lv' := [(5, .int (nI ((cnt (fun o9 => ifd μ b0 w0 o9 && ahd μ m9 o9) i) + 0))), (7, .int (nI (0))), (0, .ref (q 0)), (1, .int (nI (b0))), (2, .int (oi (w0))), (3, .int (nI (ix))), (4, .int (nI (m9))), (6, .int (nI (i)))]) hx hb dX4_foundOne_99 hl (by decide) rfl (fun ls hl => ?_)
                refine lv_iinc (v := nI (i + 1)) (lv' := [(6, .int (nI (i + 1))), (5, .int (nI ((cnt (fun o9 => ifd μ b0 w0 o9 && ahd μ m9 o9) i) + 0))), (7, .int (nI (0))), (0, .ref (q 0)), (1, .int (nI (b0))), (2, .int (oi (w0))), (3, .int (nI (ix))), (4, .int (nI (m9)))]) hx hb dX4_foundOne_101 hl (k := 7) rfl (n_inc (i) 1 rfl) (by decide) rfl (fun ls hl => ?_)
                refine lv_goto (tgt := 18) hx hb dX4_foundOne_104 (by decide) ?_
                have e : cnt (fun o9 => ifd μ b0 w0 o9 && ahd μ m9 o9) i = cnt (fun o9 => ifd μ b0 w0 o9 && ahd μ m9 o9) (i + 1) := cnt_f (by simp [ahd, c_6, c_7, c_10, c_11])
                rw [e] at hl
                exact ih2 (i + 1) (by omega) ls (lv_sub hl [3, 4, 5, 6, 7, 1, 0] rfl)
              · refine lv_iload hx hb dX4_foundOne_88 (lv_at hl 0 rfl) ?_
                refine b_ifeq (b := false) (tgt := 97) hx hb dX4_foundOne_90 (by decide) (fun c_12 => ?_) (fun c_12 => ?_)
                rotate_left
                · exact absurd c_12 (by decide)
                refine n_iconst (k := 0) hx hb dX4_foundOne_97 (by decide) ?_
                refine n_iadd hx hb dX4_foundOne_98 ?_
                refine lv_istore (lv' := [(5, .int (nI ((cnt (fun o9 => ifd μ b0 w0 o9 && ahd μ m9 o9) i) + 0))), (7, .int (nI (0))), (0, .ref (q 0)), (1, .int (nI (b0))), (2, .int (oi (w0))), (3, .int (nI (ix))), (4, .int (nI (m9))), (6, .int (nI (i)))]) hx hb dX4_foundOne_99 hl (by decide) rfl (fun ls hl => ?_)
                refine lv_iinc (v := nI (i + 1)) (lv' := [(6, .int (nI (i + 1))), (5, .int (nI ((cnt (fun o9 => ifd μ b0 w0 o9 && ahd μ m9 o9) i) + 0))), (7, .int (nI (0))), (0, .ref (q 0)), (1, .int (nI (b0))), (2, .int (oi (w0))), (3, .int (nI (ix))), (4, .int (nI (m9)))]) hx hb dX4_foundOne_101 hl (k := 7) rfl (n_inc (i) 1 rfl) (by decide) rfl (fun ls hl => ?_)
                refine lv_goto (tgt := 18) hx hb dX4_foundOne_104 (by decide) ?_
                have e : cnt (fun o9 => ifd μ b0 w0 o9 && ahd μ m9 o9) i = cnt (fun o9 => ifd μ b0 w0 o9 && ahd μ m9 o9) (i + 1) := cnt_f (by simp [ahd, c_6, c_7, c_10, c_11, c_12])
                rw [e] at hl
                exact ih2 (i + 1) (by omega) ls (lv_sub hl [3, 4, 5, 6, 7, 1, 0] rfl)
            · refine lv_iload hx hb dX4_foundOne_61 (lv_at hl 6 rfl) ?_
              refine lv_iload hx hb dX4_foundOne_63 (lv_at hl 4 rfl) ?_
              refine n_icmp_le (x := i) (y := m9) (tgt := 72) hx hb dX4_foundOne_65 (by decide) (by omega) (by omega) (fun c_13 => ?_) (fun c_13 => ?_)
              · refine n_iconst (k := 0) hx hb dX4_foundOne_72 (by decide) ?_
                refine lv_istore (lv' := [(7, .int (nI (0))), (0, .ref (q 0)), (1, .int (nI (b0))), (2, .int (oi (w0))), (3, .int (nI (ix))), (4, .int (nI (m9))), (5, .int (nI (cnt (fun o9 => ifd μ b0 w0 o9 && ahd μ m9 o9) i))), (6, .int (nI (i)))]) hx hb dX4_foundOne_73 hl (by decide) rfl (fun ls hl => ?_)
                refine lv_iload hx hb dX4_foundOne_75 (lv_at hl 6 rfl) ?_
                refine lv_aload_n hx hb dX4_foundOne_77 rfl (lv_at hl 1 rfl) ?_
                refine lv_iload hx hb dX4_foundOne_78 (lv_at hl 7 rfl) ?_
                refine lv_iload_n hx hb dX4_foundOne_80 rfl (lv_at hl 2 rfl) ?_
                refine lv_iload_n hx hb dX4_foundOne_81 rfl (lv_at hl 3 rfl) ?_
                refine roV1 (v := .int (b2i (ifd μ b0 w0 i))) (As := [.int (nI (i)), .int (nI (b0)), .int (oi (w0))]) (rest := [.int (nI (cnt (fun o9 => ifd μ b0 w0 o9 && ahd μ m9 o9) i))]) (n := 3) ⟨hx, hb, hml, hown, htA⟩ (m_isFound l D cI cZ sa q μ i b0 w0 s.heap hP hB hm0 (by omega) hw) (cwV 3 htA (gdV wd_794 wd_796 wp_14 wd_5 wd_797) rfl rfl rfl (by decide +kernel) ⟨Nat.le_of_ble_eq_true rfl, Nat.le_of_ble_eq_true rfl⟩) hKK hP 0 rfl rfl rfl hl.1 rfl (Nat.le_of_ble_eq_true rfl) dX4_foundOne_82 (Nat.zero_le _) (Nat.zero_le _) ?_
                refine b_ifeq (b := ifd μ b0 w0 i) (tgt := 97) hx hb dX4_foundOne_85 (by decide) (fun c_14 => ?_) (fun c_14 => ?_)
                · refine n_iconst (k := 0) hx hb dX4_foundOne_97 (by decide) ?_
                  refine n_iadd hx hb dX4_foundOne_98 ?_
                  refine lv_istore (lv' := [(5, .int (nI ((cnt (fun o9 => ifd μ b0 w0 o9 && ahd μ m9 o9) i) + 0))), (7, .int (nI (0))), (0, .ref (q 0)), (1, .int (nI (b0))), (2, .int (oi (w0))), (3, .int (nI (ix))), (4, .int (nI (m9))), (6, .int (nI (i)))]) hx hb dX4_foundOne_99 hl (by decide) rfl (fun ls hl => ?_)
                  refine lv_iinc (v := nI (i + 1)) (lv' := [(6, .int (nI (i + 1))), (5, .int (nI ((cnt (fun o9 => ifd μ b0 w0 o9 && ahd μ m9 o9) i) + 0))), (7, .int (nI (0))), (0, .ref (q 0)), (1, .int (nI (b0))), (2, .int (oi (w0))), (3, .int (nI (ix))), (4, .int (nI (m9)))]) hx hb dX4_foundOne_101 hl (k := 7) rfl (n_inc (i) 1 rfl) (by decide) rfl (fun ls hl => ?_)
                  refine lv_goto (tgt := 18) hx hb dX4_foundOne_104 (by decide) ?_
                  have e : cnt (fun o9 => ifd μ b0 w0 o9 && ahd μ m9 o9) i = cnt (fun o9 => ifd μ b0 w0 o9 && ahd μ m9 o9) (i + 1) := cnt_f (by simp [ahd, c_6, c_7, c_10, c_13, c_14])
                  rw [e] at hl
                  exact ih2 (i + 1) (by omega) ls (lv_sub hl [3, 4, 5, 6, 7, 1, 0] rfl)
                · refine lv_iload hx hb dX4_foundOne_88 (lv_at hl 0 rfl) ?_
                  refine b_ifeq (b := false) (tgt := 97) hx hb dX4_foundOne_90 (by decide) (fun c_15 => ?_) (fun c_15 => ?_)
                  rotate_left
                  · exact absurd c_15 (by decide)
                  refine n_iconst (k := 0) hx hb dX4_foundOne_97 (by decide) ?_
                  refine n_iadd hx hb dX4_foundOne_98 ?_
                  refine lv_istore (lv' := [(5, .int (nI ((cnt (fun o9 => ifd μ b0 w0 o9 && ahd μ m9 o9) i) + 0))), (7, .int (nI (0))), (0, .ref (q 0)), (1, .int (nI (b0))), (2, .int (oi (w0))), (3, .int (nI (ix))), (4, .int (nI (m9))), (6, .int (nI (i)))]) hx hb dX4_foundOne_99 hl (by decide) rfl (fun ls hl => ?_)
                  refine lv_iinc (v := nI (i + 1)) (lv' := [(6, .int (nI (i + 1))), (5, .int (nI ((cnt (fun o9 => ifd μ b0 w0 o9 && ahd μ m9 o9) i) + 0))), (7, .int (nI (0))), (0, .ref (q 0)), (1, .int (nI (b0))), (2, .int (oi (w0))), (3, .int (nI (ix))), (4, .int (nI (m9)))]) hx hb dX4_foundOne_101 hl (k := 7) rfl (n_inc (i) 1 rfl) (by decide) rfl (fun ls hl => ?_)
                  refine lv_goto (tgt := 18) hx hb dX4_foundOne_104 (by decide) ?_
                  have e : cnt (fun o9 => ifd μ b0 w0 o9 && ahd μ m9 o9) i = cnt (fun o9 => ifd μ b0 w0 o9 && ahd μ m9 o9) (i + 1) := cnt_f (by simp [ahd, c_6, c_7, c_10, c_13, c_14, c_15])
                  rw [e] at hl
                  exact ih2 (i + 1) (by omega) ls (lv_sub hl [3, 4, 5, 6, 7, 1, 0] rfl)
              · refine n_iconst (k := 1) hx hb dX4_foundOne_68 (by decide) ?_
                refine lv_goto (tgt := 73) hx hb dX4_foundOne_69 (by decide) ?_
                refine lv_istore (lv' := [(7, .int (nI (1))), (0, .ref (q 0)), (1, .int (nI (b0))), (2, .int (oi (w0))), (3, .int (nI (ix))), (4, .int (nI (m9))), (5, .int (nI (cnt (fun o9 => ifd μ b0 w0 o9 && ahd μ m9 o9) i))), (6, .int (nI (i)))]) hx hb dX4_foundOne_73 hl (by decide) rfl (fun ls hl => ?_)
                refine lv_iload hx hb dX4_foundOne_75 (lv_at hl 6 rfl) ?_
                refine lv_aload_n hx hb dX4_foundOne_77 rfl (lv_at hl 1 rfl) ?_
                refine lv_iload hx hb dX4_foundOne_78 (lv_at hl 7 rfl) ?_
                refine lv_iload_n hx hb dX4_foundOne_80 rfl (lv_at hl 2 rfl) ?_
                refine lv_iload_n hx hb dX4_foundOne_81 rfl (lv_at hl 3 rfl) ?_
                refine roV1 (v := .int (b2i (ifd μ b0 w0 i))) (As := [.int (nI (i)), .int (nI (b0)), .int (oi (w0))]) (rest := [.int (nI (cnt (fun o9 => ifd μ b0 w0 o9 && ahd μ m9 o9) i))]) (n := 3) ⟨hx, hb, hml, hown, htA⟩ (m_isFound l D cI cZ sa q μ i b0 w0 s.heap hP hB hm0 (by omega) hw) (cwV 3 htA (gdV wd_794 wd_796 wp_14 wd_5 wd_797) rfl rfl rfl (by decide +kernel) ⟨Nat.le_of_ble_eq_true rfl, Nat.le_of_ble_eq_true rfl⟩) hKK hP 0 rfl rfl rfl hl.1 rfl (Nat.le_of_ble_eq_true rfl) dX4_foundOne_82 (Nat.zero_le _) (Nat.zero_le _) ?_
                refine b_ifeq (b := ifd μ b0 w0 i) (tgt := 97) hx hb dX4_foundOne_85 (by decide) (fun c_16 => ?_) (fun c_16 => ?_)
                · refine n_iconst (k := 0) hx hb dX4_foundOne_97 (by decide) ?_
                  refine n_iadd hx hb dX4_foundOne_98 ?_
                  refine lv_istore (lv' := [(5, .int (nI ((cnt (fun o9 => ifd μ b0 w0 o9 && ahd μ m9 o9) i) + 0))), (7, .int (nI (1))), (0, .ref (q 0)), (1, .int (nI (b0))), (2, .int (oi (w0))), (3, .int (nI (ix))), (4, .int (nI (m9))), (6, .int (nI (i)))]) hx hb dX4_foundOne_99 hl (by decide) rfl (fun ls hl => ?_)
                  refine lv_iinc (v := nI (i + 1)) (lv' := [(6, .int (nI (i + 1))), (5, .int (nI ((cnt (fun o9 => ifd μ b0 w0 o9 && ahd μ m9 o9) i) + 0))), (7, .int (nI (1))), (0, .ref (q 0)), (1, .int (nI (b0))), (2, .int (oi (w0))), (3, .int (nI (ix))), (4, .int (nI (m9)))]) hx hb dX4_foundOne_101 hl (k := 7) rfl (n_inc (i) 1 rfl) (by decide) rfl (fun ls hl => ?_)
                  refine lv_goto (tgt := 18) hx hb dX4_foundOne_104 (by decide) ?_
                  have e : cnt (fun o9 => ifd μ b0 w0 o9 && ahd μ m9 o9) i = cnt (fun o9 => ifd μ b0 w0 o9 && ahd μ m9 o9) (i + 1) := cnt_f (by simp [ahd, c_6, c_7, c_10, c_13, c_16])
                  rw [e] at hl
                  exact ih2 (i + 1) (by omega) ls (lv_sub hl [3, 4, 5, 6, 7, 1, 0] rfl)
                · refine lv_iload hx hb dX4_foundOne_88 (lv_at hl 0 rfl) ?_
                  refine b_ifeq (b := true) (tgt := 97) hx hb dX4_foundOne_90 (by decide) (fun c_17 => ?_) (fun c_17 => ?_)
                  · exact absurd c_17 (by decide)
                  refine n_iconst (k := 1) hx hb dX4_foundOne_93 (by decide) ?_
                  refine lv_goto (tgt := 98) hx hb dX4_foundOne_94 (by decide) ?_
                  refine n_iadd hx hb dX4_foundOne_98 ?_
                  refine lv_istore (lv' := [(5, .int (nI ((cnt (fun o9 => ifd μ b0 w0 o9 && ahd μ m9 o9) i) + 1))), (7, .int (nI (1))), (0, .ref (q 0)), (1, .int (nI (b0))), (2, .int (oi (w0))), (3, .int (nI (ix))), (4, .int (nI (m9))), (6, .int (nI (i)))]) hx hb dX4_foundOne_99 hl (by decide) rfl (fun ls hl => ?_)
                  refine lv_iinc (v := nI (i + 1)) (lv' := [(6, .int (nI (i + 1))), (5, .int (nI ((cnt (fun o9 => ifd μ b0 w0 o9 && ahd μ m9 o9) i) + 1))), (7, .int (nI (1))), (0, .ref (q 0)), (1, .int (nI (b0))), (2, .int (oi (w0))), (3, .int (nI (ix))), (4, .int (nI (m9)))]) hx hb dX4_foundOne_101 hl (k := 7) rfl (n_inc (i) 1 rfl) (by decide) rfl (fun ls hl => ?_)
                  refine lv_goto (tgt := 18) hx hb dX4_foundOne_104 (by decide) ?_
                  have e : cnt (fun o9 => ifd μ b0 w0 o9 && ahd μ m9 o9) i + 1 = cnt (fun o9 => ifd μ b0 w0 o9 && ahd μ m9 o9) (i + 1) := cnt_t (by simp [ahd, c_6, c_7, c_10, c_13, c_16, c_17])
                  rw [e] at hl
                  exact ih2 (i + 1) (by omega) ls (lv_sub hl [3, 4, 5, 6, 7, 1, 0] rfl)
      exact loop_18 (μ 0 0) 0 (by omega) ls (lv_sub hl [2, 3, 4, 5, 6, 1, 0] rfl)
  exact loop_3 (μ 0 0) 0 (by omega) rfl ls (lv_sub hl [1, 2, 3, 4, 0] rfl)
