/-! the reference: what is asked of it -/
set_option maxHeartbeats 4000000 in
set_option maxRecDepth 100000 in
theorem r_add_bad (l : Launch) (D : va_G) (cI cZ : ClassId) (sa : Nat → Nat) (q : Nat → Nat) (μ : ST) (x y9 z : Int32) (A : Nat → Prop) (hD : va_D A (wM q cI cZ μ)) (hbad : (iw (x) (nI (0)) (nI (9999)) && iw (y9) (nI (1)) (nI (63)) && iw (z) (nI (0)) (nI (9))) = false) : Met l yX4_add (codeW yX4_add cX4_add 4 (some .int)) ({ frames := 1, cells := 0, slots := 0, locals := 22 } : Room) (WrP D cI cZ sa (wM q cI cZ μ) [.ref (q 0), .int (x), .int (y9), .int (z)]) (WrQ (some (.int (nI (0)))) D (wM q cI cZ (sv μ 0 2 1)) A) 0 0 A := by
  refine Met.ofW (cc := cX4_add) (maxL := 4) (ret := (some .int)) (by decide) rfl ?_
  intro p e s m args below meth c s₁ B hml hv
  obtain ⟨rfl, hH, hKK⟩ := hv
  have hx := B.exec
  have hb := B.bytes
  have hr := B.returns
  have htA : ∀ w ∈ WA, w.before _ s = true := fun w h => atoms_spec (ws := (codeW yX4_add cX4_add 4 (some .int))) B.pre w (List.mem_cons_of_mem _ h)
  have hown : s.vm.findClass RX4 = some m.cls := findClass_of_methodNamed B.named
  have hlocks := B.notSynchronized
  have hP := hH
  have hS : va_S A s.heap s.heap [] := va_S.rf
  have hl := lv_entry ([.ref (q 0), .int (x), .int (y9), .int (z)]) (n := 4) (Nat.le_of_ble_eq_true rfl)
  rw [lg_entry_eq]
  generalize (lg_sl ([.ref (q 0), .int (x), .int (y9), .int (z)]) ++ List.replicate (4 - (lg_sl ([.ref (q 0), .int (x), .int (y9), .int (z)])).length) Slot.unset).toArray = ls at hl ⊢
  have hl : lv_has ls 4 [(0, .ref (q 0)), (1, .int (x)), (2, .int (y9)), (3, .int (z))] := hl
  refine lv_aload_n hx hb dX4_add_0 rfl (lv_at hl 0 rfl) ?_
  refine lv_iload_n hx hb dX4_add_1 rfl (lv_at hl 1 rfl) ?_
  refine n_iconst (k := 0) hx hb dX4_add_2 (by decide) ?_
  refine lv_sipush (v := nI 9999) hx hb dX4_add_3 (by decide) ?_
  refine roS1 (v := .int (b2i (iw (x) (nI (0)) (nI (9999))))) (As := [.int (x), .int (nI (0)), .int (nI (9999))]) (rest := [.ref (q 0)]) (n := 3) ⟨hx, hb, hml, hown, htA⟩ (m_in l D cI cZ sa (x) (nI (0)) (nI (9999)) s.heap ) (va_cwS 3 htA (gdS wd_732 wd_733 wd_5 wd_734) rfl rfl rfl (by decide +kernel) ⟨Nat.le_of_ble_eq_true rfl, Nat.le_of_ble_eq_true rfl⟩) hKK rfl hl.1 rfl (Nat.le_of_ble_eq_true rfl) dX4_add_6 (Nat.zero_le _) (Nat.zero_le _) ?_
  refine b_ifeq (b := iw (x) (nI (0)) (nI (9999))) (tgt := 32) hx hb dX4_add_9 (by decide) (fun c_1 => ?_) (fun c_1 => ?_)
  · refine n_iconst (k := 1) hx hb dX4_add_32 (by decide) ?_
    refine lv_goto (tgt := 50) hx hb dX4_add_33 (by decide) ?_
    refine wrV1 (v := .int (b2i (false))) (As := [.int (nI (1))]) (rest := []) (n := 1) ⟨hx, hb, hml, hown, htA⟩ (m_unfine l D cI cZ sa q μ 1 A (D_addr hD rfl) (by decide) (by decide)) (cwV 1 htA (gdV wd_735 wd_737 wp_9 wd_5 wd_738) rfl rfl rfl (by decide +kernel) ⟨Nat.le_of_ble_eq_true rfl, Nat.le_of_ble_eq_true rfl⟩) hKK hP 0 rfl rfl rfl hl.1 rfl (Nat.le_of_ble_eq_true rfl) dX4_add_50 (Nat.zero_le _) (Nat.zero_le _) hS (fun _ h => h) (fun H1 locs hP1 hz1 hk1 hS => ?_)
    have hP : va_P D vwCl (wM q cI cZ (sv μ 0 2 (1))) H1 := hP1
    generalize H1 = H at hP hS ⊢
    refine b_ifne (b := false) (tgt := 58) hx hb dX4_add_53 (by decide) (fun c_2 => ?_) (fun c_2 => ?_)
    · exact absurd c_2 (by decide)
    refine n_iconst (k := 0) hx hb dX4_add_56 (by decide) ?_
    exact wr_i hx hb hr hlocks (rfl) hP hS dX4_add_57
  · refine lv_iload_n hx hb dX4_add_12 rfl (lv_at hl 2 rfl) ?_
    refine n_iconst (k := 1) hx hb dX4_add_13 (by decide) ?_
    refine lv_bipush (v := nI 63) hx hb dX4_add_14 (by decide) ?_
    refine roS1 (v := .int (b2i (iw (y9) (nI (1)) (nI (63))))) (As := [.int (y9), .int (nI (1)), .int (nI (63))]) (rest := [.ref (q 0)]) (n := 3) ⟨hx, hb, hml, hown, htA⟩ (m_in l D cI cZ sa (y9) (nI (1)) (nI (63)) s.heap ) (va_cwS 3 htA (gdS wd_732 wd_733 wd_5 wd_734) rfl rfl rfl (by decide +kernel) ⟨Nat.le_of_ble_eq_true rfl, Nat.le_of_ble_eq_true rfl⟩) hKK rfl hl.1 rfl (Nat.le_of_ble_eq_true rfl) dX4_add_16 (Nat.zero_le _) (Nat.zero_le _) ?_
    refine b_ifeq (b := iw (y9) (nI (1)) (nI (63))) (tgt := 32) hx hb dX4_add_19 (by decide) (fun c_3 => ?_) (fun c_3 => ?_)
    · refine n_iconst (k := 1) hx hb dX4_add_32 (by decide) ?_
      refine lv_goto (tgt := 50) hx hb dX4_add_33 (by decide) ?_
      refine wrV1 (v := .int (b2i (false))) (As := [.int (nI (1))]) (rest := []) (n := 1) ⟨hx, hb, hml, hown, htA⟩ (m_unfine l D cI cZ sa q μ 1 A (D_addr hD rfl) (by decide) (by decide)) (cwV 1 htA (gdV wd_735 wd_737 wp_9 wd_5 wd_738) rfl rfl rfl (by decide +kernel) ⟨Nat.le_of_ble_eq_true rfl, Nat.le_of_ble_eq_true rfl⟩) hKK hP 0 rfl rfl rfl hl.1 rfl (Nat.le_of_ble_eq_true rfl) dX4_add_50 (Nat.zero_le _) (Nat.zero_le _) hS (fun _ h => h) (fun H1 locs hP1 hz1 hk1 hS => ?_)
      have hP : va_P D vwCl (wM q cI cZ (sv μ 0 2 (1))) H1 := hP1
      generalize H1 = H at hP hS ⊢
      refine b_ifne (b := false) (tgt := 58) hx hb dX4_add_53 (by decide) (fun c_4 => ?_) (fun c_4 => ?_)
      · exact absurd c_4 (by decide)
      refine n_iconst (k := 0) hx hb dX4_add_56 (by decide) ?_
      exact wr_i hx hb hr hlocks (rfl) hP hS dX4_add_57
    · refine lv_iload_n hx hb dX4_add_22 rfl (lv_at hl 3 rfl) ?_
      refine n_iconst (k := 0) hx hb dX4_add_23 (by decide) ?_
      refine lv_bipush (v := nI 9) hx hb dX4_add_24 (by decide) ?_
      refine roS1 (v := .int (b2i (iw (z) (nI (0)) (nI (9))))) (As := [.int (z), .int (nI (0)), .int (nI (9))]) (rest := [.ref (q 0)]) (n := 3) ⟨hx, hb, hml, hown, htA⟩ (m_in l D cI cZ sa (z) (nI (0)) (nI (9)) s.heap ) (va_cwS 3 htA (gdS wd_732 wd_733 wd_5 wd_734) rfl rfl rfl (by decide +kernel) ⟨Nat.le_of_ble_eq_true rfl, Nat.le_of_ble_eq_true rfl⟩) hKK rfl hl.1 rfl (Nat.le_of_ble_eq_true rfl) dX4_add_26 (Nat.zero_le _) (Nat.zero_le _) ?_
      refine b_ifne (b := iw (z) (nI (0)) (nI (9))) (tgt := 36) hx hb dX4_add_29 (by decide) (fun c_5 => ?_) (fun c_5 => ?_)
      · exact absurd hbad (by rw [c_1, c_3, c_5]; decide)
      refine n_iconst (k := 1) hx hb dX4_add_32 (by decide) ?_
      refine lv_goto (tgt := 50) hx hb dX4_add_33 (by decide) ?_
      refine wrV1 (v := .int (b2i (false))) (As := [.int (nI (1))]) (rest := []) (n := 1) ⟨hx, hb, hml, hown, htA⟩ (m_unfine l D cI cZ sa q μ 1 A (D_addr hD rfl) (by decide) (by decide)) (cwV 1 htA (gdV wd_735 wd_737 wp_9 wd_5 wd_738) rfl rfl rfl (by decide +kernel) ⟨Nat.le_of_ble_eq_true rfl, Nat.le_of_ble_eq_true rfl⟩) hKK hP 0 rfl rfl rfl hl.1 rfl (Nat.le_of_ble_eq_true rfl) dX4_add_50 (Nat.zero_le _) (Nat.zero_le _) hS (fun _ h => h) (fun H1 locs hP1 hz1 hk1 hS => ?_)
      have hP : va_P D vwCl (wM q cI cZ (sv μ 0 2 (1))) H1 := hP1
      generalize H1 = H at hP hS ⊢
      refine b_ifne (b := false) (tgt := 58) hx hb dX4_add_53 (by decide) (fun c_6 => ?_) (fun c_6 => ?_)
      · exact absurd c_6 (by decide)
      refine n_iconst (k := 0) hx hb dX4_add_56 (by decide) ?_
      exact wr_i hx hb hr hlocks (rfl) hP hS dX4_add_57
set_option maxHeartbeats 4000000 in
set_option maxRecDepth 100000 in
theorem r_add_full (l : Launch) (D : va_G) (cI cZ : ClassId) (sa : Nat → Nat) (q : Nat → Nat) (μ : ST) (t b0 th : Nat) (A : Nat → Prop) (hD : va_D A (wM q cI cZ μ)) (hB : ∀ k i, μ k i < 1073741824) (hm0 : μ 0 0 ≤ 60) (ht : t ≤ 9999) (hb1 : 1 ≤ b0) (hb2 : b0 ≤ 63) (hth : th ≤ 9) (hmm : μ 0 0 = 60) : Met l yX4_add (codeW yX4_add cX4_add 4 (some .int)) ({ frames := 1, cells := 0, slots := 0, locals := 22 } : Room) (WrP D cI cZ sa (wM q cI cZ μ) [.ref (q 0), .int (nI (t)), .int (nI (b0)), .int (nI (th))]) (WrQ (some (.int (nI (0)))) D (wM q cI cZ (sv μ 0 2 2)) A) 0 0 A := by
  refine Met.ofW (cc := cX4_add) (maxL := 4) (ret := (some .int)) (by decide) rfl ?_
  intro p e s m args below meth c s₁ B hml hv
  obtain ⟨rfl, hH, hKK⟩ := hv
  have hx := B.exec
  have hb := B.bytes
  have hr := B.returns
  have htA : ∀ w ∈ WA, w.before _ s = true := fun w h => atoms_spec (ws := (codeW yX4_add cX4_add 4 (some .int))) B.pre w (List.mem_cons_of_mem _ h)
  have hown : s.vm.findClass RX4 = some m.cls := findClass_of_methodNamed B.named
  have hlocks := B.notSynchronized
  have hP := hH
  have hS : va_S A s.heap s.heap [] := va_S.rf
  have hl := lv_entry ([.ref (q 0), .int (nI (t)), .int (nI (b0)), .int (nI (th))]) (n := 4) (Nat.le_of_ble_eq_true rfl)
  rw [lg_entry_eq]
  generalize (lg_sl ([.ref (q 0), .int (nI (t)), .int (nI (b0)), .int (nI (th))]) ++ List.replicate (4 - (lg_sl ([.ref (q 0), .int (nI (t)), .int (nI (b0)), .int (nI (th))])).length) Slot.unset).toArray = ls at hl ⊢
  have hl : lv_has ls 4 [(0, .ref (q 0)), (1, .int (nI (t))), (2, .int (nI (b0))), (3, .int (nI (th)))] := hl
  refine lv_aload_n hx hb dX4_add_0 rfl (lv_at hl 0 rfl) ?_
  refine lv_iload_n hx hb dX4_add_1 rfl (lv_at hl 1 rfl) ?_
  refine n_iconst (k := 0) hx hb dX4_add_2 (by decide) ?_
  refine lv_sipush (v := nI 9999) hx hb dX4_add_3 (by decide) ?_
  refine roS1 (v := .int (b2i (iw (nI (t)) (nI (0)) (nI (9999))))) (As := [.int (nI (t)), .int (nI (0)), .int (nI (9999))]) (rest := [.ref (q 0)]) (n := 3) ⟨hx, hb, hml, hown, htA⟩ (m_in l D cI cZ sa (nI (t)) (nI (0)) (nI (9999)) s.heap ) (va_cwS 3 htA (gdS wd_732 wd_733 wd_5 wd_734) rfl rfl rfl (by decide +kernel) ⟨Nat.le_of_ble_eq_true rfl, Nat.le_of_ble_eq_true rfl⟩) hKK rfl hl.1 rfl (Nat.le_of_ble_eq_true rfl) dX4_add_6 (Nat.zero_le _) (Nat.zero_le _) ?_
  refine b_ifeq (b := iw (nI (t)) (nI (0)) (nI (9999))) (tgt := 32) hx hb dX4_add_9 (by decide) (fun c_1 => ?_) (fun c_1 => ?_)
  · exact absurd (c_1.symm.trans (iw_n (Nat.zero_le _) ht (by decide))) (by decide)
  refine lv_iload_n hx hb dX4_add_12 rfl (lv_at hl 2 rfl) ?_
  refine n_iconst (k := 1) hx hb dX4_add_13 (by decide) ?_
  refine lv_bipush (v := nI 63) hx hb dX4_add_14 (by decide) ?_
  refine roS1 (v := .int (b2i (iw (nI (b0)) (nI (1)) (nI (63))))) (As := [.int (nI (b0)), .int (nI (1)), .int (nI (63))]) (rest := [.ref (q 0)]) (n := 3) ⟨hx, hb, hml, hown, htA⟩ (m_in l D cI cZ sa (nI (b0)) (nI (1)) (nI (63)) s.heap ) (va_cwS 3 htA (gdS wd_732 wd_733 wd_5 wd_734) rfl rfl rfl (by decide +kernel) ⟨Nat.le_of_ble_eq_true rfl, Nat.le_of_ble_eq_true rfl⟩) hKK rfl hl.1 rfl (Nat.le_of_ble_eq_true rfl) dX4_add_16 (Nat.zero_le _) (Nat.zero_le _) ?_
  refine b_ifeq (b := iw (nI (b0)) (nI (1)) (nI (63))) (tgt := 32) hx hb dX4_add_19 (by decide) (fun c_2 => ?_) (fun c_2 => ?_)
  · exact absurd (c_2.symm.trans (iw_n hb1 hb2 (by decide))) (by decide)
  refine lv_iload_n hx hb dX4_add_22 rfl (lv_at hl 3 rfl) ?_
  refine n_iconst (k := 0) hx hb dX4_add_23 (by decide) ?_
  refine lv_bipush (v := nI 9) hx hb dX4_add_24 (by decide) ?_
  refine roS1 (v := .int (b2i (iw (nI (th)) (nI (0)) (nI (9))))) (As := [.int (nI (th)), .int (nI (0)), .int (nI (9))]) (rest := [.ref (q 0)]) (n := 3) ⟨hx, hb, hml, hown, htA⟩ (m_in l D cI cZ sa (nI (th)) (nI (0)) (nI (9)) s.heap ) (va_cwS 3 htA (gdS wd_732 wd_733 wd_5 wd_734) rfl rfl rfl (by decide +kernel) ⟨Nat.le_of_ble_eq_true rfl, Nat.le_of_ble_eq_true rfl⟩) hKK rfl hl.1 rfl (Nat.le_of_ble_eq_true rfl) dX4_add_26 (Nat.zero_le _) (Nat.zero_le _) ?_
  refine b_ifne (b := iw (nI (th)) (nI (0)) (nI (9))) (tgt := 36) hx hb dX4_add_29 (by decide) (fun c_3 => ?_) (fun c_3 => ?_)
  rotate_left
  · exact absurd (c_3.symm.trans (iw_n (Nat.zero_le _) hth (by decide))) (by decide)
  refine lv_aload_n hx hb dX4_add_36 rfl (lv_at hl 0 rfl) ?_
  refine va_get (D := D) (ci := 4) (v := .int (nI (μ 0 0))) (C := RX4) (T := TX4) (N := 26) hx hb htA uwX4 hown hKK.1 hP 0 rfl rfl 6 (by decide) (htA _ wd_651) (fun _ h9 => h9) rfl dX4_add_37 ?_
  refine lv_bipush (v := nI 60) hx hb dX4_add_40 (by decide) ?_
  refine n_icmp_ne (x := μ 0 0) (y := 60) (tgt := 49) hx hb dX4_add_42 (by decide) (Nat.lt_trans (hB 0 0) (by decide)) (by decide) (fun c_4 => ?_) (fun c_4 => ?_)
  · exfalso; omega
  refine n_iconst (k := 2) hx hb dX4_add_45 (by decide) ?_
  refine lv_goto (tgt := 50) hx hb dX4_add_46 (by decide) ?_
  refine wrV1 (v := .int (b2i (false))) (As := [.int (nI (2))]) (rest := []) (n := 1) ⟨hx, hb, hml, hown, htA⟩ (m_unfine l D cI cZ sa q μ 2 A (D_addr hD rfl) (by decide) (by decide)) (cwV 1 htA (gdV wd_735 wd_737 wp_9 wd_5 wd_738) rfl rfl rfl (by decide +kernel) ⟨Nat.le_of_ble_eq_true rfl, Nat.le_of_ble_eq_true rfl⟩) hKK hP 0 rfl rfl rfl hl.1 rfl (Nat.le_of_ble_eq_true rfl) dX4_add_50 (Nat.zero_le _) (Nat.zero_le _) hS (fun _ h => h) (fun H1 locs hP1 hz1 hk1 hS => ?_)
  have hP : va_P D vwCl (wM q cI cZ (sv μ 0 2 (2))) H1 := hP1
  generalize H1 = H at hP hS ⊢
  refine b_ifne (b := false) (tgt := 58) hx hb dX4_add_53 (by decide) (fun c_5 => ?_) (fun c_5 => ?_)
  · exact absurd c_5 (by decide)
  refine n_iconst (k := 0) hx hb dX4_add_56 (by decide) ?_
  exact wr_i hx hb hr hlocks (rfl) hP hS dX4_add_57
set_option maxHeartbeats 4000000 in
set_option maxRecDepth 100000 in
theorem r_add_ok (l : Launch) (D : va_G) (cI cZ : ClassId) (sa : Nat → Nat) (q : Nat → Nat) (μ : ST) (t b0 th : Nat) (A : Nat → Prop) (hD : va_D A (wM q cI cZ μ)) (hB : ∀ k i, μ k i < 1073741824) (hm0 : μ 0 0 ≤ 60) (ht : t ≤ 9999) (hb1 : 1 ≤ b0) (hb2 : b0 ≤ 63) (hth : th ≤ 9) (hm : μ 0 0 < 60) (hs9 : μ 0 1 < 2048) : Met l yX4_add (codeW yX4_add cX4_add 4 (some .int)) ({ frames := 1, cells := 0, slots := 0, locals := 24 } : Room) (WrP D cI cZ sa (wM q cI cZ μ) [.ref (q 0), .int (nI (t)), .int (nI (b0)), .int (nI (th))]) (WrQ (some (.int (nI (μ 0 0)))) D (wM q cI cZ (ada μ t b0 th)) A) 0 0 A := by
  refine Met.ofW (cc := cX4_add) (maxL := 4) (ret := (some .int)) (by decide) rfl ?_
  intro p e s m args below meth c s₁ B hml hv
  obtain ⟨rfl, hH, hKK⟩ := hv
  have hx := B.exec
  have hb := B.bytes
  have hr := B.returns
  have htA : ∀ w ∈ WA, w.before _ s = true := fun w h => atoms_spec (ws := (codeW yX4_add cX4_add 4 (some .int))) B.pre w (List.mem_cons_of_mem _ h)
  have hown : s.vm.findClass RX4 = some m.cls := findClass_of_methodNamed B.named
  have hlocks := B.notSynchronized
  have hP := hH
  have hS : va_S A s.heap s.heap [] := va_S.rf
  have hl := lv_entry ([.ref (q 0), .int (nI (t)), .int (nI (b0)), .int (nI (th))]) (n := 4) (Nat.le_of_ble_eq_true rfl)
  rw [lg_entry_eq]
  generalize (lg_sl ([.ref (q 0), .int (nI (t)), .int (nI (b0)), .int (nI (th))]) ++ List.replicate (4 - (lg_sl ([.ref (q 0), .int (nI (t)), .int (nI (b0)), .int (nI (th))])).length) Slot.unset).toArray = ls at hl ⊢
  have hl : lv_has ls 4 [(0, .ref (q 0)), (1, .int (nI (t))), (2, .int (nI (b0))), (3, .int (nI (th)))] := hl
  refine lv_aload_n hx hb dX4_add_0 rfl (lv_at hl 0 rfl) ?_
  refine lv_iload_n hx hb dX4_add_1 rfl (lv_at hl 1 rfl) ?_
  refine n_iconst (k := 0) hx hb dX4_add_2 (by decide) ?_
  refine lv_sipush (v := nI 9999) hx hb dX4_add_3 (by decide) ?_
  refine roS1 (v := .int (b2i (iw (nI (t)) (nI (0)) (nI (9999))))) (As := [.int (nI (t)), .int (nI (0)), .int (nI (9999))]) (rest := [.ref (q 0)]) (n := 3) ⟨hx, hb, hml, hown, htA⟩ (m_in l D cI cZ sa (nI (t)) (nI (0)) (nI (9999)) s.heap ) (va_cwS 3 htA (gdS wd_732 wd_733 wd_5 wd_734) rfl rfl rfl (by decide +kernel) ⟨Nat.le_of_ble_eq_true rfl, Nat.le_of_ble_eq_true rfl⟩) hKK rfl hl.1 rfl (Nat.le_of_ble_eq_true rfl) dX4_add_6 (Nat.zero_le _) (Nat.zero_le _) ?_
  refine b_ifeq (b := iw (nI (t)) (nI (0)) (nI (9999))) (tgt := 32) hx hb dX4_add_9 (by decide) (fun c_1 => ?_) (fun c_1 => ?_)
  · exact absurd (c_1.symm.trans (iw_n (Nat.zero_le _) ht (by decide))) (by decide)
  refine lv_iload_n hx hb dX4_add_12 rfl (lv_at hl 2 rfl) ?_
  refine n_iconst (k := 1) hx hb dX4_add_13 (by decide) ?_
  refine lv_bipush (v := nI 63) hx hb dX4_add_14 (by decide) ?_
  refine roS1 (v := .int (b2i (iw (nI (b0)) (nI (1)) (nI (63))))) (As := [.int (nI (b0)), .int (nI (1)), .int (nI (63))]) (rest := [.ref (q 0)]) (n := 3) ⟨hx, hb, hml, hown, htA⟩ (m_in l D cI cZ sa (nI (b0)) (nI (1)) (nI (63)) s.heap ) (va_cwS 3 htA (gdS wd_732 wd_733 wd_5 wd_734) rfl rfl rfl (by decide +kernel) ⟨Nat.le_of_ble_eq_true rfl, Nat.le_of_ble_eq_true rfl⟩) hKK rfl hl.1 rfl (Nat.le_of_ble_eq_true rfl) dX4_add_16 (Nat.zero_le _) (Nat.zero_le _) ?_
  refine b_ifeq (b := iw (nI (b0)) (nI (1)) (nI (63))) (tgt := 32) hx hb dX4_add_19 (by decide) (fun c_2 => ?_) (fun c_2 => ?_)
  · exact absurd (c_2.symm.trans (iw_n hb1 hb2 (by decide))) (by decide)
  refine lv_iload_n hx hb dX4_add_22 rfl (lv_at hl 3 rfl) ?_
  refine n_iconst (k := 0) hx hb dX4_add_23 (by decide) ?_
  refine lv_bipush (v := nI 9) hx hb dX4_add_24 (by decide) ?_
  refine roS1 (v := .int (b2i (iw (nI (th)) (nI (0)) (nI (9))))) (As := [.int (nI (th)), .int (nI (0)), .int (nI (9))]) (rest := [.ref (q 0)]) (n := 3) ⟨hx, hb, hml, hown, htA⟩ (m_in l D cI cZ sa (nI (th)) (nI (0)) (nI (9)) s.heap ) (va_cwS 3 htA (gdS wd_732 wd_733 wd_5 wd_734) rfl rfl rfl (by decide +kernel) ⟨Nat.le_of_ble_eq_true rfl, Nat.le_of_ble_eq_true rfl⟩) hKK rfl hl.1 rfl (Nat.le_of_ble_eq_true rfl) dX4_add_26 (Nat.zero_le _) (Nat.zero_le _) ?_
  refine b_ifne (b := iw (nI (th)) (nI (0)) (nI (9))) (tgt := 36) hx hb dX4_add_29 (by decide) (fun c_3 => ?_) (fun c_3 => ?_)
  rotate_left
  · exact absurd (c_3.symm.trans (iw_n (Nat.zero_le _) hth (by decide))) (by decide)
  refine lv_aload_n hx hb dX4_add_36 rfl (lv_at hl 0 rfl) ?_
  refine va_get (D := D) (ci := 4) (v := .int (nI (μ 0 0))) (C := RX4) (T := TX4) (N := 26) hx hb htA uwX4 hown hKK.1 hP 0 rfl rfl 6 (by decide) (htA _ wd_651) (fun _ h9 => h9) rfl dX4_add_37 ?_
  refine lv_bipush (v := nI 60) hx hb dX4_add_40 (by decide) ?_
  refine n_icmp_ne (x := μ 0 0) (y := 60) (tgt := 49) hx hb dX4_add_42 (by decide) (Nat.lt_trans (hB 0 0) (by decide)) (by decide) (fun c_4 => ?_) (fun c_4 => ?_)
  rotate_left
  · exfalso; omega
  refine n_iconst (k := 0) hx hb dX4_add_49 (by decide) ?_
  refine wrV1 (v := .int (b2i (true))) (As := [.int (nI (0))]) (rest := []) (n := 1) ⟨hx, hb, hml, hown, htA⟩ (m_fine l D cI cZ sa q μ A (D_addr hD rfl) ) (cwV 1 htA (gdV wd_735 wd_737 wp_9 wd_5 wd_738) rfl rfl rfl (by decide +kernel) ⟨Nat.le_of_ble_eq_true rfl, Nat.le_of_ble_eq_true rfl⟩) hKK hP 0 rfl rfl rfl hl.1 rfl (Nat.le_of_ble_eq_true rfl) dX4_add_50 (Nat.zero_le _) (Nat.zero_le _) hS (fun _ h => h) (fun H1 locs hP1 hz1 hk1 hS => ?_)
  have hP : va_P D vwCl (wM q cI cZ (sv μ 0 2 (0))) H1 := hP1
  generalize H1 = H at hP hS ⊢
  refine b_ifne (b := true) (tgt := 58) hx hb dX4_add_53 (by decide) (fun c_5 => ?_) (fun c_5 => ?_)
  rotate_left
  · exact absurd c_5 (by decide)
  refine lv_aload_n hx hb dX4_add_58 rfl (lv_at hl 0 rfl) ?_
  refine n_iconst (k := 0) hx hb dX4_add_59 (by decide) ?_
  refine lv_aload_n hx hb dX4_add_60 rfl (lv_at hl 0 rfl) ?_
  refine va_get (D := D) (ci := 4) (v := .int (nI (μ 0 0))) (C := RX4) (T := TX4) (N := 26) hx hb htA uwX4 hown hKK.1 hP 0 rfl rfl 6 (by decide) (htA _ wd_651) (fun _ h9 => h9) rfl dX4_add_61 ?_
  refine lv_iconst (v := oi 0) hx hb dX4_add_64 (by decide) ?_
  refine n_iconst (k := 0) hx hb dX4_add_65 (by decide) ?_
  refine wrV0 (As := [.int (nI (0)), .int (nI (μ 0 0)), .int (oi (0)), .int (nI (0))]) (rest := []) (n := 4) ⟨hx, hb, hml, hown, htA⟩ (m_notes l D cI cZ sa q (sv μ 0 2 (0)) 0 (μ 0 0) 0 0 A (D_addr hD rfl) (sv_lt hB (by decide)) hm0 hs9 hm (by omega)) (cwV 4 htA (gdV wd_739 wd_741 wp_10 wd_5 wd_742) rfl rfl rfl (by decide +kernel) ⟨Nat.le_of_ble_eq_true rfl, Nat.le_of_ble_eq_true rfl⟩) hKK hP 0 rfl rfl rfl hl.1 rfl (Nat.le_of_ble_eq_true rfl) dX4_add_66 (Nat.zero_le _) (Nat.zero_le _) hS (fun _ h => h) (fun H1 locs hP1 hz1 hk1 hS => ?_)
  have hP : va_P D vwCl (wM q cI cZ (nts (sv μ 0 2 (0)) 0 (μ 0 0) 0 0)) H1 := hP1
  generalize H1 = H at hP hS ⊢
  refine lv_aload_n hx hb dX4_add_69 rfl (lv_at hl 0 rfl) ?_
  refine va_get (D := D) (ci := 4) (v := .ref (q 1)) (C := RX4) (T := TX4) (N := 26) hx hb htA uwX4 hown hKK.1 hP 0 rfl rfl 0 (by decide) (htA _ wd_645) (fun _ h9 => h9) rfl dX4_add_70 ?_
  refine lv_aload_n hx hb dX4_add_73 rfl (lv_at hl 0 rfl) ?_
  refine va_get (D := D) (ci := 4) (v := .int (nI ((nts (sv μ 0 2 (0)) 0 (μ 0 0) 0 0) 0 0))) (C := RX4) (T := TX4) (N := 26) hx hb htA uwX4 hown hKK.1 hP 0 rfl rfl 6 (by decide) (htA _ wd_651) (fun _ h9 => h9) rfl dX4_add_74 ?_
  refine lv_iload_n hx hb dX4_add_77 rfl (lv_at hl 1 rfl) ?_
  refine n_iast (g := (nts (sv μ 0 2 (0)) 0 (μ 0 0) 0 0) 1) (cA := cI) (n := 60) (j := (nts (sv μ 0 2 (0)) 0 (μ 0 0) 0 0) 0 0) (v := t) hx hb hKK.1 hP (D_addr hD rfl) hS 1 0 rfl rfl hm (Nat.le_of_ble_eq_true rfl) dX4_add_78 (fun H locs hP hS => ?_)
  have hP : va_P D vwCl (wM q cI cZ (su ((nts (sv μ 0 2 (0)) 0 (μ 0 0) 0 0)) 1 (upN ((nts (sv μ 0 2 (0)) 0 (μ 0 0) 0 0) 1) ((nts (sv μ 0 2 (0)) 0 (μ 0 0) 0 0) 0 0) (t)))) H := hP
  refine lv_aload_n hx hb dX4_add_79 rfl (lv_at hl 0 rfl) ?_
  refine va_get (D := D) (ci := 4) (v := .ref (q 2)) (C := RX4) (T := TX4) (N := 26) hx hb htA uwX4 hown hKK.1 hP 0 rfl rfl 1 (by decide) (htA _ wd_646) (fun _ h9 => h9) rfl dX4_add_80 ?_
  refine lv_aload_n hx hb dX4_add_83 rfl (lv_at hl 0 rfl) ?_
  refine va_get (D := D) (ci := 4) (v := .int (nI ((nts (sv μ 0 2 (0)) 0 (μ 0 0) 0 0) 0 0))) (C := RX4) (T := TX4) (N := 26) hx hb htA uwX4 hown hKK.1 hP 0 rfl rfl 6 (by decide) (htA _ wd_651) (fun _ h9 => h9) rfl dX4_add_84 ?_
  refine lv_iload_n hx hb dX4_add_87 rfl (lv_at hl 2 rfl) ?_
  refine n_iast (g := (nts (sv μ 0 2 (0)) 0 (μ 0 0) 0 0) 2) (cA := cI) (n := 60) (j := (nts (sv μ 0 2 (0)) 0 (μ 0 0) 0 0) 0 0) (v := b0) hx hb hKK.1 hP (D_addr hD rfl) hS 2 0 rfl rfl hm (Nat.le_of_ble_eq_true rfl) dX4_add_88 (fun H locs hP hS => ?_)
  have hP : va_P D vwCl (wM q cI cZ (su (su ((nts (sv μ 0 2 (0)) 0 (μ 0 0) 0 0)) 1 (upN ((nts (sv μ 0 2 (0)) 0 (μ 0 0) 0 0) 1) ((nts (sv μ 0 2 (0)) 0 (μ 0 0) 0 0) 0 0) (t))) 2 (upN ((nts (sv μ 0 2 (0)) 0 (μ 0 0) 0 0) 2) ((nts (sv μ 0 2 (0)) 0 (μ 0 0) 0 0) 0 0) (b0)))) H := hP
  refine lv_aload_n hx hb dX4_add_89 rfl (lv_at hl 0 rfl) ?_
  refine va_get (D := D) (ci := 4) (v := .ref (q 4)) (C := RX4) (T := TX4) (N := 26) hx hb htA uwX4 hown hKK.1 hP 0 rfl rfl 3 (by decide) (htA _ wd_648) (fun _ h9 => h9) rfl dX4_add_90 ?_
  refine lv_aload_n hx hb dX4_add_93 rfl (lv_at hl 0 rfl) ?_
  refine va_get (D := D) (ci := 4) (v := .int (nI ((nts (sv μ 0 2 (0)) 0 (μ 0 0) 0 0) 0 0))) (C := RX4) (T := TX4) (N := 26) hx hb htA uwX4 hown hKK.1 hP 0 rfl rfl 6 (by decide) (htA _ wd_651) (fun _ h9 => h9) rfl dX4_add_94 ?_
  refine lv_iload_n hx hb dX4_add_97 rfl (lv_at hl 3 rfl) ?_
  refine n_iast (g := (nts (sv μ 0 2 (0)) 0 (μ 0 0) 0 0) 4) (cA := cI) (n := 60) (j := (nts (sv μ 0 2 (0)) 0 (μ 0 0) 0 0) 0 0) (v := th) hx hb hKK.1 hP (D_addr hD rfl) hS 4 0 rfl rfl hm (Nat.le_of_ble_eq_true rfl) dX4_add_98 (fun H locs hP hS => ?_)
  have hP : va_P D vwCl (wM q cI cZ (su (su (su ((nts (sv μ 0 2 (0)) 0 (μ 0 0) 0 0)) 1 (upN ((nts (sv μ 0 2 (0)) 0 (μ 0 0) 0 0) 1) ((nts (sv μ 0 2 (0)) 0 (μ 0 0) 0 0) 0 0) (t))) 2 (upN ((nts (sv μ 0 2 (0)) 0 (μ 0 0) 0 0) 2) ((nts (sv μ 0 2 (0)) 0 (μ 0 0) 0 0) 0 0) (b0))) 4 (upN ((nts (sv μ 0 2 (0)) 0 (μ 0 0) 0 0) 4) ((nts (sv μ 0 2 (0)) 0 (μ 0 0) 0 0) 0 0) (th)))) H := hP
  refine lv_aload_n hx hb dX4_add_99 rfl (lv_at hl 0 rfl) ?_
  refine va_get (D := D) (ci := 4) (v := .ref (q 5)) (C := RX4) (T := TX4) (N := 26) hx hb htA uwX4 hown hKK.1 hP 0 rfl rfl 4 (by decide) (htA _ wd_649) (fun _ h9 => h9) rfl dX4_add_100 ?_
  refine lv_aload_n hx hb dX4_add_103 rfl (lv_at hl 0 rfl) ?_
  refine va_get (D := D) (ci := 4) (v := .int (nI ((nts (sv μ 0 2 (0)) 0 (μ 0 0) 0 0) 0 0))) (C := RX4) (T := TX4) (N := 26) hx hb htA uwX4 hown hKK.1 hP 0 rfl rfl 6 (by decide) (htA _ wd_651) (fun _ h9 => h9) rfl dX4_add_104 ?_
  refine lv_aload_n hx hb dX4_add_107 rfl (lv_at hl 0 rfl) ?_
  refine va_get (D := D) (ci := 4) (v := .int (nI ((nts (sv μ 0 2 (0)) 0 (μ 0 0) 0 0) 0 1))) (C := RX4) (T := TX4) (N := 26) hx hb htA uwX4 hown hKK.1 hP 0 rfl rfl 13 (by decide) (htA _ wd_658) (fun _ h9 => h9) rfl dX4_add_108 ?_
  refine n_iast (g := (nts (sv μ 0 2 (0)) 0 (μ 0 0) 0 0) 5) (cA := cI) (n := 60) (j := (nts (sv μ 0 2 (0)) 0 (μ 0 0) 0 0) 0 0) (v := (nts (sv μ 0 2 (0)) 0 (μ 0 0) 0 0) 0 1) hx hb hKK.1 hP (D_addr hD rfl) hS 5 0 rfl rfl hm (Nat.le_of_ble_eq_true rfl) dX4_add_111 (fun H locs hP hS => ?_)
  have hP : va_P D vwCl (wM q cI cZ (su (su (su (su ((nts (sv μ 0 2 (0)) 0 (μ 0 0) 0 0)) 1 (upN ((nts (sv μ 0 2 (0)) 0 (μ 0 0) 0 0) 1) ((nts (sv μ 0 2 (0)) 0 (μ 0 0) 0 0) 0 0) (t))) 2 (upN ((nts (sv μ 0 2 (0)) 0 (μ 0 0) 0 0) 2) ((nts (sv μ 0 2 (0)) 0 (μ 0 0) 0 0) 0 0) (b0))) 4 (upN ((nts (sv μ 0 2 (0)) 0 (μ 0 0) 0 0) 4) ((nts (sv μ 0 2 (0)) 0 (μ 0 0) 0 0) 0 0) (th))) 5 (upN ((nts (sv μ 0 2 (0)) 0 (μ 0 0) 0 0) 5) ((nts (sv μ 0 2 (0)) 0 (μ 0 0) 0 0) 0 0) ((nts (sv μ 0 2 (0)) 0 (μ 0 0) 0 0) 0 1)))) H := hP
  refine lv_aload_n hx hb dX4_add_112 rfl (lv_at hl 0 rfl) ?_
  refine lv_dup hx hb dX4_add_113 rfl ?_
  refine va_get (D := D) (ci := 4) (v := .int (nI ((nts (sv μ 0 2 (0)) 0 (μ 0 0) 0 0) 0 0))) (C := RX4) (T := TX4) (N := 26) hx hb htA uwX4 hown hKK.1 hP 0 rfl rfl 6 (by decide) (htA _ wd_651) (fun _ h9 => h9) rfl dX4_add_114 ?_
  refine n_iconst (k := 1) hx hb dX4_add_117 (by decide) ?_
  refine n_iadd hx hb dX4_add_118 ?_
  refine va_put (D := D) (ci := 4) (v := .int (nI (((nts (sv μ 0 2 (0)) 0 (μ 0 0) 0 0) 0 0) + 1))) (ty := .int) (C := RX4) (T := TX4) (N := 26) hx hb htA uwX4 tyX4 tyX4_ok nmX4 hown hKK.1 hP (D_addr hD rfl) hS 0 rfl rfl 6 (by decide) (htA _ wd_651) (fun _ h9 => h9) rfl (by decide +kernel) rfl rfl (Nat.le_of_ble_eq_true rfl) dX4_add_119 (fun H locs hP _ hS => ?_)
  have hP : va_P D vwCl (wM q cI cZ (sv (su (su (su (su ((nts (sv μ 0 2 (0)) 0 (μ 0 0) 0 0)) 1 (upN ((nts (sv μ 0 2 (0)) 0 (μ 0 0) 0 0) 1) ((nts (sv μ 0 2 (0)) 0 (μ 0 0) 0 0) 0 0) (t))) 2 (upN ((nts (sv μ 0 2 (0)) 0 (μ 0 0) 0 0) 2) ((nts (sv μ 0 2 (0)) 0 (μ 0 0) 0 0) 0 0) (b0))) 4 (upN ((nts (sv μ 0 2 (0)) 0 (μ 0 0) 0 0) 4) ((nts (sv μ 0 2 (0)) 0 (μ 0 0) 0 0) 0 0) (th))) 5 (upN ((nts (sv μ 0 2 (0)) 0 (μ 0 0) 0 0) 5) ((nts (sv μ 0 2 (0)) 0 (μ 0 0) 0 0) 0 0) ((nts (sv μ 0 2 (0)) 0 (μ 0 0) 0 0) 0 1))) 0 0 (((nts (sv μ 0 2 (0)) 0 (μ 0 0) 0 0) 0 0) + 1))) H := hP
  refine lv_aload_n hx hb dX4_add_122 rfl (lv_at hl 0 rfl) ?_
  refine va_get (D := D) (ci := 4) (v := .int (nI (((nts (sv μ 0 2 (0)) 0 (μ 0 0) 0 0) 0 0) + 1))) (C := RX4) (T := TX4) (N := 26) hx hb htA uwX4 hown hKK.1 hP 0 rfl rfl 6 (by decide) (htA _ wd_651) (fun _ h9 => h9) rfl dX4_add_123 ?_
  refine n_iconst (k := 1) hx hb dX4_add_126 (by decide) ?_
  refine n_ipreds hx hb dX4_add_127 ?_
  exact wr_i hx hb hr hlocks (rfl) hP hS dX4_add_128
set_option maxHeartbeats 4000000 in
set_option maxRecDepth 100000 in
theorem r_move_nr (l : Launch) (D : va_G) (cI cZ : ClassId) (sa : Nat → Nat) (q : Nat → Nat) (μ : ST) (x : Int32) (y9 : Int32) (A : Nat → Prop) (hD : va_D A (wM q cI cZ μ)) (hx9 : iw (x) (nI (0)) (oi (μ 0 0)) = false) : Met l yX4_move (codeW yX4_move cX4_move 4 (some .int)) ({ frames := 2, cells := 0, slots := 0, locals := 43 } : Room) (WrP D cI cZ sa (wM q cI cZ μ) [.ref (q 0), .int (x), .int (y9)]) (WrQ (some (.int (nI (0)))) D (wM q cI cZ (sv μ 0 2 1)) A) 0 0 A := by
  refine Met.ofW (cc := cX4_move) (maxL := 4) (ret := (some .int)) (by decide) rfl ?_
  intro p e s m args below meth c s₁ B hml hv
  obtain ⟨rfl, hH, hKK⟩ := hv
  have hx := B.exec
  have hb := B.bytes
  have hr := B.returns
  have htA : ∀ w ∈ WA, w.before _ s = true := fun w h => atoms_spec (ws := (codeW yX4_move cX4_move 4 (some .int))) B.pre w (List.mem_cons_of_mem _ h)
  have hown : s.vm.findClass RX4 = some m.cls := findClass_of_methodNamed B.named
  have hlocks := B.notSynchronized
  have hP := hH
  have hS : va_S A s.heap s.heap [] := va_S.rf
  have hl := lv_entry ([.ref (q 0), .int (x), .int (y9)]) (n := 4) (Nat.le_of_ble_eq_true rfl)
  rw [lg_entry_eq]
  generalize (lg_sl ([.ref (q 0), .int (x), .int (y9)]) ++ List.replicate (4 - (lg_sl ([.ref (q 0), .int (x), .int (y9)])).length) Slot.unset).toArray = ls at hl ⊢
  have hl : lv_has ls 4 [(0, .ref (q 0)), (1, .int (x)), (2, .int (y9))] := hl
  refine lv_aload_n hx hb dX4_move_0 rfl (lv_at hl 0 rfl) ?_
  refine lv_aload_n hx hb dX4_move_1 rfl (lv_at hl 0 rfl) ?_
  refine lv_iload_n hx hb dX4_move_2 rfl (lv_at hl 1 rfl) ?_
  refine roV1 (v := .int (b2i (false))) (As := [.int (x)]) (rest := [.ref (q 0)]) (n := 1) ⟨hx, hb, hml, hown, htA⟩ (m_isThere_f l D cI cZ sa q μ (x) s.heap hP hx9) (cwV 1 htA (gdV wd_747 wd_749 wp_11 wd_5 wd_750) rfl rfl rfl (by decide +kernel) ⟨Nat.le_of_ble_eq_true rfl, Nat.le_of_ble_eq_true rfl⟩) hKK hP 0 rfl rfl rfl hl.1 rfl (Nat.le_of_ble_eq_true rfl) dX4_move_3 (Nat.zero_le _) (Nat.zero_le _) ?_
  refine b_ifne (b := false) (tgt := 13) hx hb dX4_move_6 (by decide) (fun c_1 => ?_) (fun c_1 => ?_)
  · exact absurd c_1 (by decide)
  refine n_iconst (k := 1) hx hb dX4_move_9 (by decide) ?_
  refine lv_goto (tgt := 28) hx hb dX4_move_10 (by decide) ?_
  refine wrV1 (v := .int (b2i (false))) (As := [.int (nI (1))]) (rest := []) (n := 1) ⟨hx, hb, hml, hown, htA⟩ (m_unfine l D cI cZ sa q μ 1 A (D_addr hD rfl) (by decide) (by decide)) (cwV 1 htA (gdV wd_735 wd_737 wp_9 wd_5 wd_738) rfl rfl rfl (by decide +kernel) ⟨Nat.le_of_ble_eq_true rfl, Nat.le_of_ble_eq_true rfl⟩) hKK hP 0 rfl rfl rfl hl.1 rfl (Nat.le_of_ble_eq_true rfl) dX4_move_28 (Nat.zero_le _) (Nat.zero_le _) hS (fun _ h => h) (fun H1 locs hP1 hz1 hk1 hS => ?_)
  have hP : va_P D vwCl (wM q cI cZ (sv μ 0 2 (1))) H1 := hP1
  generalize H1 = H at hP hS ⊢
  refine b_ifne (b := false) (tgt := 36) hx hb dX4_move_31 (by decide) (fun c_2 => ?_) (fun c_2 => ?_)
  · exact absurd c_2 (by decide)
  refine n_iconst (k := 0) hx hb dX4_move_34 (by decide) ?_
  exact wr_i hx hb hr hlocks (rfl) hP hS dX4_move_35
set_option maxHeartbeats 4000000 in
set_option maxRecDepth 100000 in
theorem r_move_nz (l : Launch) (D : va_G) (cI cZ : ClassId) (sa : Nat → Nat) (q : Nat → Nat) (μ : ST) (j : Nat) (y9 : Int32) (A : Nat → Prop) (hD : va_D A (wM q cI cZ μ)) (hB : ∀ k i, μ k i < 1073741824) (hm0 : μ 0 0 ≤ 60) (hj : j < μ 0 0) (h6 : μ 6 j ≠ 0) : Met l yX4_move (codeW yX4_move cX4_move 4 (some .int)) ({ frames := 2, cells := 0, slots := 0, locals := 43 } : Room) (WrP D cI cZ sa (wM q cI cZ μ) [.ref (q 0), .int (nI (j)), .int (y9)]) (WrQ (some (.int (nI (0)))) D (wM q cI cZ (sv μ 0 2 1)) A) 0 0 A := by
  refine Met.ofW (cc := cX4_move) (maxL := 4) (ret := (some .int)) (by decide) rfl ?_
  intro p e s m args below meth c s₁ B hml hv
  obtain ⟨rfl, hH, hKK⟩ := hv
  have hx := B.exec
  have hb := B.bytes
  have hr := B.returns
  have htA : ∀ w ∈ WA, w.before _ s = true := fun w h => atoms_spec (ws := (codeW yX4_move cX4_move 4 (some .int))) B.pre w (List.mem_cons_of_mem _ h)
  have hown : s.vm.findClass RX4 = some m.cls := findClass_of_methodNamed B.named
  have hlocks := B.notSynchronized
  have hP := hH
  have hS : va_S A s.heap s.heap [] := va_S.rf
  have hl := lv_entry ([.ref (q 0), .int (nI (j)), .int (y9)]) (n := 4) (Nat.le_of_ble_eq_true rfl)
  rw [lg_entry_eq]
  generalize (lg_sl ([.ref (q 0), .int (nI (j)), .int (y9)]) ++ List.replicate (4 - (lg_sl ([.ref (q 0), .int (nI (j)), .int (y9)])).length) Slot.unset).toArray = ls at hl ⊢
  have hl : lv_has ls 4 [(0, .ref (q 0)), (1, .int (nI (j))), (2, .int (y9))] := hl
  refine lv_aload_n hx hb dX4_move_0 rfl (lv_at hl 0 rfl) ?_
  refine lv_aload_n hx hb dX4_move_1 rfl (lv_at hl 0 rfl) ?_
  refine lv_iload_n hx hb dX4_move_2 rfl (lv_at hl 1 rfl) ?_
  refine roV1 (v := .int (b2i (decide (μ 6 j = 0)))) (As := [.int (nI (j))]) (rest := [.ref (q 0)]) (n := 1) ⟨hx, hb, hml, hown, htA⟩ (m_isThere_t l D cI cZ sa q μ j s.heap hP hB hm0 (by omega)) (cwV 1 htA (gdV wd_747 wd_749 wp_11 wd_5 wd_750) rfl rfl rfl (by decide +kernel) ⟨Nat.le_of_ble_eq_true rfl, Nat.le_of_ble_eq_true rfl⟩) hKK hP 0 rfl rfl rfl hl.1 rfl (Nat.le_of_ble_eq_true rfl) dX4_move_3 (Nat.zero_le _) (Nat.zero_le _) ?_
  refine b_ifne (b := decide (μ 6 j = 0)) (tgt := 13) hx hb dX4_move_6 (by decide) (fun c_1 => ?_) (fun c_1 => ?_)
  · exact absurd (c_1.symm.trans (decide_eq_false h6)) (by decide)
  refine n_iconst (k := 1) hx hb dX4_move_9 (by decide) ?_
  refine lv_goto (tgt := 28) hx hb dX4_move_10 (by decide) ?_
  refine wrV1 (v := .int (b2i (false))) (As := [.int (nI (1))]) (rest := []) (n := 1) ⟨hx, hb, hml, hown, htA⟩ (m_unfine l D cI cZ sa q μ 1 A (D_addr hD rfl) (by decide) (by decide)) (cwV 1 htA (gdV wd_735 wd_737 wp_9 wd_5 wd_738) rfl rfl rfl (by decide +kernel) ⟨Nat.le_of_ble_eq_true rfl, Nat.le_of_ble_eq_true rfl⟩) hKK hP 0 rfl rfl rfl hl.1 rfl (Nat.le_of_ble_eq_true rfl) dX4_move_28 (Nat.zero_le _) (Nat.zero_le _) hS (fun _ h => h) (fun H1 locs hP1 hz1 hk1 hS => ?_)
  have hP : va_P D vwCl (wM q cI cZ (sv μ 0 2 (1))) H1 := hP1
  generalize H1 = H at hP hS ⊢
  refine b_ifne (b := false) (tgt := 36) hx hb dX4_move_31 (by decide) (fun c_2 => ?_) (fun c_2 => ?_)
  · exact absurd c_2 (by decide)
  refine n_iconst (k := 0) hx hb dX4_move_34 (by decide) ?_
  exact wr_i hx hb hr hlocks (rfl) hP hS dX4_move_35
set_option maxHeartbeats 4000000 in
set_option maxRecDepth 100000 in
theorem r_move_bad (l : Launch) (D : va_G) (cI cZ : ClassId) (sa : Nat → Nat) (q : Nat → Nat) (μ : ST) (j : Nat) (y9 : Int32) (A : Nat → Prop) (hD : va_D A (wM q cI cZ μ)) (hB : ∀ k i, μ k i < 1073741824) (hm0 : μ 0 0 ≤ 60) (hj : j < μ 0 0) (h6 : μ 6 j = 0) (hbad : iw (y9) (nI (1)) (nI (63)) = false) : Met l yX4_move (codeW yX4_move cX4_move 4 (some .int)) ({ frames := 2, cells := 0, slots := 0, locals := 43 } : Room) (WrP D cI cZ sa (wM q cI cZ μ) [.ref (q 0), .int (nI (j)), .int (y9)]) (WrQ (some (.int (nI (0)))) D (wM q cI cZ (sv μ 0 2 2)) A) 0 0 A := by
  refine Met.ofW (cc := cX4_move) (maxL := 4) (ret := (some .int)) (by decide) rfl ?_
  intro p e s m args below meth c s₁ B hml hv
  obtain ⟨rfl, hH, hKK⟩ := hv
  have hx := B.exec
  have hb := B.bytes
  have hr := B.returns
  have htA : ∀ w ∈ WA, w.before _ s = true := fun w h => atoms_spec (ws := (codeW yX4_move cX4_move 4 (some .int))) B.pre w (List.mem_cons_of_mem _ h)
  have hown : s.vm.findClass RX4 = some m.cls := findClass_of_methodNamed B.named
  have hlocks := B.notSynchronized
  have hP := hH
  have hS : va_S A s.heap s.heap [] := va_S.rf
  have hl := lv_entry ([.ref (q 0), .int (nI (j)), .int (y9)]) (n := 4) (Nat.le_of_ble_eq_true rfl)
  rw [lg_entry_eq]
  generalize (lg_sl ([.ref (q 0), .int (nI (j)), .int (y9)]) ++ List.replicate (4 - (lg_sl ([.ref (q 0), .int (nI (j)), .int (y9)])).length) Slot.unset).toArray = ls at hl ⊢
  have hl : lv_has ls 4 [(0, .ref (q 0)), (1, .int (nI (j))), (2, .int (y9))] := hl
  refine lv_aload_n hx hb dX4_move_0 rfl (lv_at hl 0 rfl) ?_
  refine lv_aload_n hx hb dX4_move_1 rfl (lv_at hl 0 rfl) ?_
  refine lv_iload_n hx hb dX4_move_2 rfl (lv_at hl 1 rfl) ?_
  refine roV1 (v := .int (b2i (decide (μ 6 j = 0)))) (As := [.int (nI (j))]) (rest := [.ref (q 0)]) (n := 1) ⟨hx, hb, hml, hown, htA⟩ (m_isThere_t l D cI cZ sa q μ j s.heap hP hB hm0 (by omega)) (cwV 1 htA (gdV wd_747 wd_749 wp_11 wd_5 wd_750) rfl rfl rfl (by decide +kernel) ⟨Nat.le_of_ble_eq_true rfl, Nat.le_of_ble_eq_true rfl⟩) hKK hP 0 rfl rfl rfl hl.1 rfl (Nat.le_of_ble_eq_true rfl) dX4_move_3 (Nat.zero_le _) (Nat.zero_le _) ?_
  refine b_ifne (b := decide (μ 6 j = 0)) (tgt := 13) hx hb dX4_move_6 (by decide) (fun c_1 => ?_) (fun c_1 => ?_)
  rotate_left
  · exact absurd (c_1.symm.trans (decide_eq_true h6)) (by decide)
  refine lv_iload_n hx hb dX4_move_13 rfl (lv_at hl 2 rfl) ?_
  refine n_iconst (k := 1) hx hb dX4_move_14 (by decide) ?_
  refine lv_bipush (v := nI 63) hx hb dX4_move_15 (by decide) ?_
  refine roS1 (v := .int (b2i (iw (y9) (nI (1)) (nI (63))))) (As := [.int (y9), .int (nI (1)), .int (nI (63))]) (rest := [.ref (q 0)]) (n := 3) ⟨hx, hb, hml, hown, htA⟩ (m_in l D cI cZ sa (y9) (nI (1)) (nI (63)) s.heap ) (va_cwS 3 htA (gdS wd_732 wd_733 wd_5 wd_734) rfl rfl rfl (by decide +kernel) ⟨Nat.le_of_ble_eq_true rfl, Nat.le_of_ble_eq_true rfl⟩) hKK rfl hl.1 rfl (Nat.le_of_ble_eq_true rfl) dX4_move_17 (Nat.zero_le _) (Nat.zero_le _) ?_
  refine b_ifne (b := iw (y9) (nI (1)) (nI (63))) (tgt := 27) hx hb dX4_move_20 (by decide) (fun c_2 => ?_) (fun c_2 => ?_)
  · exact absurd (c_2.symm.trans hbad) (by decide)
  refine n_iconst (k := 2) hx hb dX4_move_23 (by decide) ?_
  refine lv_goto (tgt := 28) hx hb dX4_move_24 (by decide) ?_
  refine wrV1 (v := .int (b2i (false))) (As := [.int (nI (2))]) (rest := []) (n := 1) ⟨hx, hb, hml, hown, htA⟩ (m_unfine l D cI cZ sa q μ 2 A (D_addr hD rfl) (by decide) (by decide)) (cwV 1 htA (gdV wd_735 wd_737 wp_9 wd_5 wd_738) rfl rfl rfl (by decide +kernel) ⟨Nat.le_of_ble_eq_true rfl, Nat.le_of_ble_eq_true rfl⟩) hKK hP 0 rfl rfl rfl hl.1 rfl (Nat.le_of_ble_eq_true rfl) dX4_move_28 (Nat.zero_le _) (Nat.zero_le _) hS (fun _ h => h) (fun H1 locs hP1 hz1 hk1 hS => ?_)
  have hP : va_P D vwCl (wM q cI cZ (sv μ 0 2 (2))) H1 := hP1
  generalize H1 = H at hP hS ⊢
  refine b_ifne (b := false) (tgt := 36) hx hb dX4_move_31 (by decide) (fun c_3 => ?_) (fun c_3 => ?_)
  · exact absurd c_3 (by decide)
  refine n_iconst (k := 0) hx hb dX4_move_34 (by decide) ?_
  exact wr_i hx hb hr hlocks (rfl) hP hS dX4_move_35
set_option maxHeartbeats 4000000 in
set_option maxRecDepth 100000 in
theorem r_move_s (l : Launch) (D : va_G) (cI cZ : ClassId) (sa : Nat → Nat) (q : Nat → Nat) (μ : ST) (j b0 : Nat) (A : Nat → Prop) (hD : va_D A (wM q cI cZ μ)) (hB : ∀ k i, μ k i < 1073741824) (hm0 : μ 0 0 ≤ 60) (hj : j < μ 0 0) (h6 : μ 6 j = 0) (hb1 : 1 ≤ b0) (hb2 : b0 ≤ 63) (he : μ 2 j = b0) : Met l yX4_move (codeW yX4_move cX4_move 4 (some .int)) ({ frames := 2, cells := 0, slots := 0, locals := 43 } : Room) (WrP D cI cZ sa (wM q cI cZ μ) [.ref (q 0), .int (nI (j)), .int (nI (b0))]) (WrQ (some (.int (nI (μ 2 j)))) D (wM q cI cZ (sv μ 0 2 0)) A) 0 0 A := by
  refine Met.ofW (cc := cX4_move) (maxL := 4) (ret := (some .int)) (by decide) rfl ?_
  intro p e s m args below meth c s₁ B hml hv
  obtain ⟨rfl, hH, hKK⟩ := hv
  have hx := B.exec
  have hb := B.bytes
  have hr := B.returns
  have htA : ∀ w ∈ WA, w.before _ s = true := fun w h => atoms_spec (ws := (codeW yX4_move cX4_move 4 (some .int))) B.pre w (List.mem_cons_of_mem _ h)
  have hown : s.vm.findClass RX4 = some m.cls := findClass_of_methodNamed B.named
  have hlocks := B.notSynchronized
  have hP := hH
  have hS : va_S A s.heap s.heap [] := va_S.rf
  have hl := lv_entry ([.ref (q 0), .int (nI (j)), .int (nI (b0))]) (n := 4) (Nat.le_of_ble_eq_true rfl)
  rw [lg_entry_eq]
  generalize (lg_sl ([.ref (q 0), .int (nI (j)), .int (nI (b0))]) ++ List.replicate (4 - (lg_sl ([.ref (q 0), .int (nI (j)), .int (nI (b0))])).length) Slot.unset).toArray = ls at hl ⊢
  have hl : lv_has ls 4 [(0, .ref (q 0)), (1, .int (nI (j))), (2, .int (nI (b0)))] := hl
  refine lv_aload_n hx hb dX4_move_0 rfl (lv_at hl 0 rfl) ?_
  refine lv_aload_n hx hb dX4_move_1 rfl (lv_at hl 0 rfl) ?_
  refine lv_iload_n hx hb dX4_move_2 rfl (lv_at hl 1 rfl) ?_
  refine roV1 (v := .int (b2i (decide (μ 6 j = 0)))) (As := [.int (nI (j))]) (rest := [.ref (q 0)]) (n := 1) ⟨hx, hb, hml, hown, htA⟩ (m_isThere_t l D cI cZ sa q μ j s.heap hP hB hm0 (by omega)) (cwV 1 htA (gdV wd_747 wd_749 wp_11 wd_5 wd_750) rfl rfl rfl (by decide +kernel) ⟨Nat.le_of_ble_eq_true rfl, Nat.le_of_ble_eq_true rfl⟩) hKK hP 0 rfl rfl rfl hl.1 rfl (Nat.le_of_ble_eq_true rfl) dX4_move_3 (Nat.zero_le _) (Nat.zero_le _) ?_
  refine b_ifne (b := decide (μ 6 j = 0)) (tgt := 13) hx hb dX4_move_6 (by decide) (fun c_1 => ?_) (fun c_1 => ?_)
  rotate_left
  · exact absurd (c_1.symm.trans (decide_eq_true h6)) (by decide)
  refine lv_iload_n hx hb dX4_move_13 rfl (lv_at hl 2 rfl) ?_
  refine n_iconst (k := 1) hx hb dX4_move_14 (by decide) ?_
  refine lv_bipush (v := nI 63) hx hb dX4_move_15 (by decide) ?_
  refine roS1 (v := .int (b2i (iw (nI (b0)) (nI (1)) (nI (63))))) (As := [.int (nI (b0)), .int (nI (1)), .int (nI (63))]) (rest := [.ref (q 0)]) (n := 3) ⟨hx, hb, hml, hown, htA⟩ (m_in l D cI cZ sa (nI (b0)) (nI (1)) (nI (63)) s.heap ) (va_cwS 3 htA (gdS wd_732 wd_733 wd_5 wd_734) rfl rfl rfl (by decide +kernel) ⟨Nat.le_of_ble_eq_true rfl, Nat.le_of_ble_eq_true rfl⟩) hKK rfl hl.1 rfl (Nat.le_of_ble_eq_true rfl) dX4_move_17 (Nat.zero_le _) (Nat.zero_le _) ?_
  refine b_ifne (b := iw (nI (b0)) (nI (1)) (nI (63))) (tgt := 27) hx hb dX4_move_20 (by decide) (fun c_2 => ?_) (fun c_2 => ?_)
  rotate_left
  · exact absurd (c_2.symm.trans (iw_n hb1 hb2 (by decide))) (by decide)
  refine n_iconst (k := 0) hx hb dX4_move_27 (by decide) ?_
  refine wrV1 (v := .int (b2i (true))) (As := [.int (nI (0))]) (rest := []) (n := 1) ⟨hx, hb, hml, hown, htA⟩ (m_fine l D cI cZ sa q μ A (D_addr hD rfl) ) (cwV 1 htA (gdV wd_735 wd_737 wp_9 wd_5 wd_738) rfl rfl rfl (by decide +kernel) ⟨Nat.le_of_ble_eq_true rfl, Nat.le_of_ble_eq_true rfl⟩) hKK hP 0 rfl rfl rfl hl.1 rfl (Nat.le_of_ble_eq_true rfl) dX4_move_28 (Nat.zero_le _) (Nat.zero_le _) hS (fun _ h => h) (fun H1 locs hP1 hz1 hk1 hS => ?_)
  have hP : va_P D vwCl (wM q cI cZ (sv μ 0 2 (0))) H1 := hP1
  generalize H1 = H at hP hS ⊢
  refine b_ifne (b := true) (tgt := 36) hx hb dX4_move_31 (by decide) (fun c_3 => ?_) (fun c_3 => ?_)
  rotate_left
  · exact absurd c_3 (by decide)
  refine lv_aload_n hx hb dX4_move_36 rfl (lv_at hl 0 rfl) ?_
  refine va_get (D := D) (ci := 4) (v := .ref (q 2)) (C := RX4) (T := TX4) (N := 26) hx hb htA uwX4 hown hKK.1 hP 0 rfl rfl 1 (by decide) (htA _ wd_646) (fun _ h9 => h9) rfl dX4_move_37 ?_
  refine lv_iload_n hx hb dX4_move_40 rfl (lv_at hl 1 rfl) ?_
  refine n_iald (g := μ 2) (cA := cI) (n := 60) (j := j) hx hb hKK.1 hP 2 0 rfl rfl (by omega) (Nat.le_of_ble_eq_true rfl) dX4_move_41 ?_
  refine lv_istore_n (lv' := [(3, .int (nI (μ 2 j))), (0, .ref (q 0)), (1, .int (nI (j))), (2, .int (nI (b0)))]) hx hb dX4_move_42 rfl hl (by decide) rfl (fun ls hl => ?_)
  refine lv_iload_n hx hb dX4_move_43 rfl (lv_at hl 0 rfl) ?_
  refine lv_iload_n hx hb dX4_move_44 rfl (lv_at hl 3 rfl) ?_
  refine n_icmp_eq (x := μ 2 j) (y := b0) (tgt := 63) hx hb dX4_move_45 (by decide) (Nat.lt_trans (hB 2 j) (by decide)) (by omega) (fun c_4 => ?_) (fun c_4 => ?_)
  rotate_left
  · exact absurd he c_4
  refine lv_iload_n hx hb dX4_move_63 rfl (lv_at hl 0 rfl) ?_
  exact wr_i hx hb hr hlocks (rfl) hP hS dX4_move_64
set_option maxHeartbeats 4000000 in
set_option maxRecDepth 100000 in
theorem r_move_d (l : Launch) (D : va_G) (cI cZ : ClassId) (sa : Nat → Nat) (q : Nat → Nat) (μ : ST) (j b0 : Nat) (A : Nat → Prop) (hD : va_D A (wM q cI cZ μ)) (hB : ∀ k i, μ k i < 1073741824) (hm0 : μ 0 0 ≤ 60) (hj : j < μ 0 0) (h6 : μ 6 j = 0) (hb1 : 1 ≤ b0) (hb2 : b0 ≤ 63) (hm : j < 60) (hs9 : μ 0 1 < 2048) (he : μ 2 j ≠ b0) : Met l yX4_move (codeW yX4_move cX4_move 4 (some .int)) ({ frames := 2, cells := 0, slots := 0, locals := 43 } : Room) (WrP D cI cZ sa (wM q cI cZ μ) [.ref (q 0), .int (nI (j)), .int (nI (b0))]) (WrQ (some (.int (nI (μ 2 j)))) D (wM q cI cZ (su (nts (sv μ 0 2 0) 1 j 0 0) 2 (upN (μ 2) j b0))) A) 0 0 A := by
  refine Met.ofW (cc := cX4_move) (maxL := 4) (ret := (some .int)) (by decide) rfl ?_
  intro p e s m args below meth c s₁ B hml hv
  obtain ⟨rfl, hH, hKK⟩ := hv
  have hx := B.exec
  have hb := B.bytes
  have hr := B.returns
  have htA : ∀ w ∈ WA, w.before _ s = true := fun w h => atoms_spec (ws := (codeW yX4_move cX4_move 4 (some .int))) B.pre w (List.mem_cons_of_mem _ h)
  have hown : s.vm.findClass RX4 = some m.cls := findClass_of_methodNamed B.named
  have hlocks := B.notSynchronized
  have hP := hH
  have hS : va_S A s.heap s.heap [] := va_S.rf
  have hl := lv_entry ([.ref (q 0), .int (nI (j)), .int (nI (b0))]) (n := 4) (Nat.le_of_ble_eq_true rfl)
  rw [lg_entry_eq]
  generalize (lg_sl ([.ref (q 0), .int (nI (j)), .int (nI (b0))]) ++ List.replicate (4 - (lg_sl ([.ref (q 0), .int (nI (j)), .int (nI (b0))])).length) Slot.unset).toArray = ls at hl ⊢
  have hl : lv_has ls 4 [(0, .ref (q 0)), (1, .int (nI (j))), (2, .int (nI (b0)))] := hl
  refine lv_aload_n hx hb dX4_move_0 rfl (lv_at hl 0 rfl) ?_
  refine lv_aload_n hx hb dX4_move_1 rfl (lv_at hl 0 rfl) ?_
  refine lv_iload_n hx hb dX4_move_2 rfl (lv_at hl 1 rfl) ?_
  refine roV1 (v := .int (b2i (decide (μ 6 j = 0)))) (As := [.int (nI (j))]) (rest := [.ref (q 0)]) (n := 1) ⟨hx, hb, hml, hown, htA⟩ (m_isThere_t l D cI cZ sa q μ j s.heap hP hB hm0 (by omega)) (cwV 1 htA (gdV wd_747 wd_749 wp_11 wd_5 wd_750) rfl rfl rfl (by decide +kernel) ⟨Nat.le_of_ble_eq_true rfl, Nat.le_of_ble_eq_true rfl⟩) hKK hP 0 rfl rfl rfl hl.1 rfl (Nat.le_of_ble_eq_true rfl) dX4_move_3 (Nat.zero_le _) (Nat.zero_le _) ?_
  refine b_ifne (b := decide (μ 6 j = 0)) (tgt := 13) hx hb dX4_move_6 (by decide) (fun c_1 => ?_) (fun c_1 => ?_)
  rotate_left
  · exact absurd (c_1.symm.trans (decide_eq_true h6)) (by decide)
  refine lv_iload_n hx hb dX4_move_13 rfl (lv_at hl 2 rfl) ?_
  refine n_iconst (k := 1) hx hb dX4_move_14 (by decide) ?_
  refine lv_bipush (v := nI 63) hx hb dX4_move_15 (by decide) ?_
  refine roS1 (v := .int (b2i (iw (nI (b0)) (nI (1)) (nI (63))))) (As := [.int (nI (b0)), .int (nI (1)), .int (nI (63))]) (rest := [.ref (q 0)]) (n := 3) ⟨hx, hb, hml, hown, htA⟩ (m_in l D cI cZ sa (nI (b0)) (nI (1)) (nI (63)) s.heap ) (va_cwS 3 htA (gdS wd_732 wd_733 wd_5 wd_734) rfl rfl rfl (by decide +kernel) ⟨Nat.le_of_ble_eq_true rfl, Nat.le_of_ble_eq_true rfl⟩) hKK rfl hl.1 rfl (Nat.le_of_ble_eq_true rfl) dX4_move_17 (Nat.zero_le _) (Nat.zero_le _) ?_
  refine b_ifne (b := iw (nI (b0)) (nI (1)) (nI (63))) (tgt := 27) hx hb dX4_move_20 (by decide) (fun c_2 => ?_) (fun c_2 => ?_)
  rotate_left
  · exact absurd (c_2.symm.trans (iw_n hb1 hb2 (by decide))) (by decide)
  refine n_iconst (k := 0) hx hb dX4_move_27 (by decide) ?_
  refine wrV1 (v := .int (b2i (true))) (As := [.int (nI (0))]) (rest := []) (n := 1) ⟨hx, hb, hml, hown, htA⟩ (m_fine l D cI cZ sa q μ A (D_addr hD rfl) ) (cwV 1 htA (gdV wd_735 wd_737 wp_9 wd_5 wd_738) rfl rfl rfl (by decide +kernel) ⟨Nat.le_of_ble_eq_true rfl, Nat.le_of_ble_eq_true rfl⟩) hKK hP 0 rfl rfl rfl hl.1 rfl (Nat.le_of_ble_eq_true rfl) dX4_move_28 (Nat.zero_le _) (Nat.zero_le _) hS (fun _ h => h) (fun H1 locs hP1 hz1 hk1 hS => ?_)
  have hP : va_P D vwCl (wM q cI cZ (sv μ 0 2 (0))) H1 := hP1
  generalize H1 = H at hP hS ⊢
  refine b_ifne (b := true) (tgt := 36) hx hb dX4_move_31 (by decide) (fun c_3 => ?_) (fun c_3 => ?_)
  rotate_left
  · exact absurd c_3 (by decide)
  refine lv_aload_n hx hb dX4_move_36 rfl (lv_at hl 0 rfl) ?_
  refine va_get (D := D) (ci := 4) (v := .ref (q 2)) (C := RX4) (T := TX4) (N := 26) hx hb htA uwX4 hown hKK.1 hP 0 rfl rfl 1 (by decide) (htA _ wd_646) (fun _ h9 => h9) rfl dX4_move_37 ?_
  refine lv_iload_n hx hb dX4_move_40 rfl (lv_at hl 1 rfl) ?_
  refine n_iald (g := μ 2) (cA := cI) (n := 60) (j := j) hx hb hKK.1 hP 2 0 rfl rfl (by omega) (Nat.le_of_ble_eq_true rfl) dX4_move_41 ?_
  refine lv_istore_n (lv' := [(3, .int (nI (μ 2 j))), (0, .ref (q 0)), (1, .int (nI (j))), (2, .int (nI (b0)))]) hx hb dX4_move_42 rfl hl (by decide) rfl (fun ls hl => ?_)
  refine lv_iload_n hx hb dX4_move_43 rfl (lv_at hl 0 rfl) ?_
  refine lv_iload_n hx hb dX4_move_44 rfl (lv_at hl 3 rfl) ?_
  refine n_icmp_eq (x := μ 2 j) (y := b0) (tgt := 63) hx hb dX4_move_45 (by decide) (Nat.lt_trans (hB 2 j) (by decide)) (by omega) (fun c_4 => ?_) (fun c_4 => ?_)
  · exact absurd c_4 he
  refine lv_aload_n hx hb dX4_move_48 rfl (lv_at hl 1 rfl) ?_
  refine n_iconst (k := 1) hx hb dX4_move_49 (by decide) ?_
  refine lv_iload_n hx hb dX4_move_50 rfl (lv_at hl 2 rfl) ?_
  refine lv_iconst (v := oi 0) hx hb dX4_move_51 (by decide) ?_
  refine n_iconst (k := 0) hx hb dX4_move_52 (by decide) ?_
  refine wrV0 (As := [.int (nI (1)), .int (nI (j)), .int (oi (0)), .int (nI (0))]) (rest := []) (n := 4) ⟨hx, hb, hml, hown, htA⟩ (m_notes l D cI cZ sa q (sv μ 0 2 (0)) 1 j 0 0 A (D_addr hD rfl) (sv_lt hB (by decide)) hm0 hs9 hm (by omega)) (cwV 4 htA (gdV wd_739 wd_741 wp_10 wd_5 wd_742) rfl rfl rfl (by decide +kernel) ⟨Nat.le_of_ble_eq_true rfl, Nat.le_of_ble_eq_true rfl⟩) hKK hP 0 rfl rfl rfl hl.1 rfl (Nat.le_of_ble_eq_true rfl) dX4_move_53 (Nat.zero_le _) (Nat.zero_le _) hS (fun _ h => h) (fun H1 locs hP1 hz1 hk1 hS => ?_)
  have hP : va_P D vwCl (wM q cI cZ (nts (sv μ 0 2 (0)) 1 j 0 0)) H1 := hP1
  generalize H1 = H at hP hS ⊢
  refine lv_aload_n hx hb dX4_move_56 rfl (lv_at hl 1 rfl) ?_
  refine va_get (D := D) (ci := 4) (v := .ref (q 2)) (C := RX4) (T := TX4) (N := 26) hx hb htA uwX4 hown hKK.1 hP 0 rfl rfl 1 (by decide) (htA _ wd_646) (fun _ h9 => h9) rfl dX4_move_57 ?_
  refine lv_iload_n hx hb dX4_move_60 rfl (lv_at hl 2 rfl) ?_
  refine lv_iload_n hx hb dX4_move_61 rfl (lv_at hl 3 rfl) ?_
  refine n_iast (g := (nts (sv μ 0 2 (0)) 1 j 0 0) 2) (cA := cI) (n := 60) (j := j) (v := b0) hx hb hKK.1 hP (D_addr hD rfl) hS 2 0 rfl rfl (by omega) (Nat.le_of_ble_eq_true rfl) dX4_move_62 (fun H locs hP hS => ?_)
  have hP : va_P D vwCl (wM q cI cZ (su ((nts (sv μ 0 2 (0)) 1 j 0 0)) 2 (upN ((nts (sv μ 0 2 (0)) 1 j 0 0) 2) (j) (b0)))) H := hP
  refine lv_iload_n hx hb dX4_move_63 rfl (lv_at hl 0 rfl) ?_
  exact wr_i hx hb hr hlocks (rfl) hP hS dX4_move_64
set_option maxHeartbeats 4000000 in
set_option maxRecDepth 100000 in
theorem r_flag_nr (l : Launch) (D : va_G) (cI cZ : ClassId) (sa : Nat → Nat) (q : Nat → Nat) (μ : ST) (x y9 : Int32) (w0 : Nat) (A : Nat → Prop) (hD : va_D A (wM q cI cZ μ)) (hx9 : iw (x) (nI (0)) (oi (μ 0 0)) = false) : Met l yX4_flag (codeW yX4_flag cX4_flag 4 (some .boolean)) ({ frames := 2, cells := 0, slots := 0, locals := 43 } : Room) (WrP D cI cZ sa (wM q cI cZ μ) [.ref (q 0), .int (x), .int (y9), .int (nI (w0))]) (WrQ (some (.int (b2i (false)))) D (wM q cI cZ (sv μ 0 2 1)) A) 0 0 A := by
  refine Met.ofW (cc := cX4_flag) (maxL := 4) (ret := (some .boolean)) (by decide) rfl ?_
  intro p e s m args below meth c s₁ B hml hv
  obtain ⟨rfl, hH, hKK⟩ := hv
  have hx := B.exec
  have hb := B.bytes
  have hr := B.returns
  have htA : ∀ w ∈ WA, w.before _ s = true := fun w h => atoms_spec (ws := (codeW yX4_flag cX4_flag 4 (some .boolean))) B.pre w (List.mem_cons_of_mem _ h)
  have hown : s.vm.findClass RX4 = some m.cls := findClass_of_methodNamed B.named
  have hlocks := B.notSynchronized
  have hP := hH
  have hS : va_S A s.heap s.heap [] := va_S.rf
  have hl := lv_entry ([.ref (q 0), .int (x), .int (y9), .int (nI (w0))]) (n := 4) (Nat.le_of_ble_eq_true rfl)
  rw [lg_entry_eq]
  generalize (lg_sl ([.ref (q 0), .int (x), .int (y9), .int (nI (w0))]) ++ List.replicate (4 - (lg_sl ([.ref (q 0), .int (x), .int (y9), .int (nI (w0))])).length) Slot.unset).toArray = ls at hl ⊢
  have hl : lv_has ls 4 [(0, .ref (q 0)), (1, .int (x)), (2, .int (y9)), (3, .int (nI (w0)))] := hl
  refine lv_aload_n hx hb dX4_flag_0 rfl (lv_at hl 0 rfl) ?_
  refine lv_aload_n hx hb dX4_flag_1 rfl (lv_at hl 0 rfl) ?_
  refine lv_iload_n hx hb dX4_flag_2 rfl (lv_at hl 1 rfl) ?_
  refine roV1 (v := .int (b2i (false))) (As := [.int (x)]) (rest := [.ref (q 0)]) (n := 1) ⟨hx, hb, hml, hown, htA⟩ (m_isThere_f l D cI cZ sa q μ (x) s.heap hP hx9) (cwV 1 htA (gdV wd_747 wd_749 wp_11 wd_5 wd_750) rfl rfl rfl (by decide +kernel) ⟨Nat.le_of_ble_eq_true rfl, Nat.le_of_ble_eq_true rfl⟩) hKK hP 0 rfl rfl rfl hl.1 rfl (Nat.le_of_ble_eq_true rfl) dX4_flag_3 (Nat.zero_le _) (Nat.zero_le _) ?_
  refine b_ifne (b := false) (tgt := 13) hx hb dX4_flag_6 (by decide) (fun c_1 => ?_) (fun c_1 => ?_)
  · exact absurd c_1 (by decide)
  refine n_iconst (k := 1) hx hb dX4_flag_9 (by decide) ?_
  refine lv_goto (tgt := 27) hx hb dX4_flag_10 (by decide) ?_
  refine wrV1 (v := .int (b2i (false))) (As := [.int (nI (1))]) (rest := []) (n := 1) ⟨hx, hb, hml, hown, htA⟩ (m_unfine l D cI cZ sa q μ 1 A (D_addr hD rfl) (by decide) (by decide)) (cwV 1 htA (gdV wd_735 wd_737 wp_9 wd_5 wd_738) rfl rfl rfl (by decide +kernel) ⟨Nat.le_of_ble_eq_true rfl, Nat.le_of_ble_eq_true rfl⟩) hKK hP 0 rfl rfl rfl hl.1 rfl (Nat.le_of_ble_eq_true rfl) dX4_flag_27 (Nat.zero_le _) (Nat.zero_le _) hS (fun _ h => h) (fun H1 locs hP1 hz1 hk1 hS => ?_)
  have hP : va_P D vwCl (wM q cI cZ (sv μ 0 2 (1))) H1 := hP1
  generalize H1 = H at hP hS ⊢
  refine b_ifeq (b := false) (tgt := 47) hx hb dX4_flag_30 (by decide) (fun c_2 => ?_) (fun c_2 => ?_)
  rotate_left
  · exact absurd c_2 (by decide)
  refine n_iconst (k := 0) hx hb dX4_flag_47 (by decide) ?_
  exact wr_z (v := false) hx hb hr hlocks (rfl) hP hS dX4_flag_48
set_option maxHeartbeats 4000000 in
set_option maxRecDepth 100000 in
theorem r_flag_nz (l : Launch) (D : va_G) (cI cZ : ClassId) (sa : Nat → Nat) (q : Nat → Nat) (μ : ST) (j : Nat) (y9 : Int32) (w0 : Nat) (A : Nat → Prop) (hD : va_D A (wM q cI cZ μ)) (hB : ∀ k i, μ k i < 1073741824) (hm0 : μ 0 0 ≤ 60) (hj : j < μ 0 0) (h6 : μ 6 j ≠ 0) : Met l yX4_flag (codeW yX4_flag cX4_flag 4 (some .boolean)) ({ frames := 2, cells := 0, slots := 0, locals := 43 } : Room) (WrP D cI cZ sa (wM q cI cZ μ) [.ref (q 0), .int (nI (j)), .int (y9), .int (nI (w0))]) (WrQ (some (.int (b2i (false)))) D (wM q cI cZ (sv μ 0 2 1)) A) 0 0 A := by
  refine Met.ofW (cc := cX4_flag) (maxL := 4) (ret := (some .boolean)) (by decide) rfl ?_
  intro p e s m args below meth c s₁ B hml hv
  obtain ⟨rfl, hH, hKK⟩ := hv
  have hx := B.exec
  have hb := B.bytes
  have hr := B.returns
  have htA : ∀ w ∈ WA, w.before _ s = true := fun w h => atoms_spec (ws := (codeW yX4_flag cX4_flag 4 (some .boolean))) B.pre w (List.mem_cons_of_mem _ h)
  have hown : s.vm.findClass RX4 = some m.cls := findClass_of_methodNamed B.named
  have hlocks := B.notSynchronized
  have hP := hH
  have hS : va_S A s.heap s.heap [] := va_S.rf
  have hl := lv_entry ([.ref (q 0), .int (nI (j)), .int (y9), .int (nI (w0))]) (n := 4) (Nat.le_of_ble_eq_true rfl)
  rw [lg_entry_eq]
  generalize (lg_sl ([.ref (q 0), .int (nI (j)), .int (y9), .int (nI (w0))]) ++ List.replicate (4 - (lg_sl ([.ref (q 0), .int (nI (j)), .int (y9), .int (nI (w0))])).length) Slot.unset).toArray = ls at hl ⊢
  have hl : lv_has ls 4 [(0, .ref (q 0)), (1, .int (nI (j))), (2, .int (y9)), (3, .int (nI (w0)))] := hl
  refine lv_aload_n hx hb dX4_flag_0 rfl (lv_at hl 0 rfl) ?_
  refine lv_aload_n hx hb dX4_flag_1 rfl (lv_at hl 0 rfl) ?_
  refine lv_iload_n hx hb dX4_flag_2 rfl (lv_at hl 1 rfl) ?_
  refine roV1 (v := .int (b2i (decide (μ 6 j = 0)))) (As := [.int (nI (j))]) (rest := [.ref (q 0)]) (n := 1) ⟨hx, hb, hml, hown, htA⟩ (m_isThere_t l D cI cZ sa q μ j s.heap hP hB hm0 (by omega)) (cwV 1 htA (gdV wd_747 wd_749 wp_11 wd_5 wd_750) rfl rfl rfl (by decide +kernel) ⟨Nat.le_of_ble_eq_true rfl, Nat.le_of_ble_eq_true rfl⟩) hKK hP 0 rfl rfl rfl hl.1 rfl (Nat.le_of_ble_eq_true rfl) dX4_flag_3 (Nat.zero_le _) (Nat.zero_le _) ?_
  refine b_ifne (b := decide (μ 6 j = 0)) (tgt := 13) hx hb dX4_flag_6 (by decide) (fun c_1 => ?_) (fun c_1 => ?_)
  · exact absurd (c_1.symm.trans (decide_eq_false h6)) (by decide)
  refine n_iconst (k := 1) hx hb dX4_flag_9 (by decide) ?_
  refine lv_goto (tgt := 27) hx hb dX4_flag_10 (by decide) ?_
  refine wrV1 (v := .int (b2i (false))) (As := [.int (nI (1))]) (rest := []) (n := 1) ⟨hx, hb, hml, hown, htA⟩ (m_unfine l D cI cZ sa q μ 1 A (D_addr hD rfl) (by decide) (by decide)) (cwV 1 htA (gdV wd_735 wd_737 wp_9 wd_5 wd_738) rfl rfl rfl (by decide +kernel) ⟨Nat.le_of_ble_eq_true rfl, Nat.le_of_ble_eq_true rfl⟩) hKK hP 0 rfl rfl rfl hl.1 rfl (Nat.le_of_ble_eq_true rfl) dX4_flag_27 (Nat.zero_le _) (Nat.zero_le _) hS (fun _ h => h) (fun H1 locs hP1 hz1 hk1 hS => ?_)
  have hP : va_P D vwCl (wM q cI cZ (sv μ 0 2 (1))) H1 := hP1
  generalize H1 = H at hP hS ⊢
  refine b_ifeq (b := false) (tgt := 47) hx hb dX4_flag_30 (by decide) (fun c_2 => ?_) (fun c_2 => ?_)
  rotate_left
  · exact absurd c_2 (by decide)
  refine n_iconst (k := 0) hx hb dX4_flag_47 (by decide) ?_
  exact wr_z (v := false) hx hb hr hlocks (rfl) hP hS dX4_flag_48
set_option maxHeartbeats 4000000 in
set_option maxRecDepth 100000 in
theorem r_flag_bad (l : Launch) (D : va_G) (cI cZ : ClassId) (sa : Nat → Nat) (q : Nat → Nat) (μ : ST) (j : Nat) (y9 : Int32) (w0 : Nat) (A : Nat → Prop) (hD : va_D A (wM q cI cZ μ)) (hB : ∀ k i, μ k i < 1073741824) (hm0 : μ 0 0 ≤ 60) (hj : j < μ 0 0) (h6 : μ 6 j = 0) (hbad : iw (y9) (nI (0)) (nI (3)) = false) : Met l yX4_flag (codeW yX4_flag cX4_flag 4 (some .boolean)) ({ frames := 2, cells := 0, slots := 0, locals := 43 } : Room) (WrP D cI cZ sa (wM q cI cZ μ) [.ref (q 0), .int (nI (j)), .int (y9), .int (nI (w0))]) (WrQ (some (.int (b2i (false)))) D (wM q cI cZ (sv μ 0 2 2)) A) 0 0 A := by
  refine Met.ofW (cc := cX4_flag) (maxL := 4) (ret := (some .boolean)) (by decide) rfl ?_
  intro p e s m args below meth c s₁ B hml hv
  obtain ⟨rfl, hH, hKK⟩ := hv
  have hx := B.exec
  have hb := B.bytes
  have hr := B.returns
  have htA : ∀ w ∈ WA, w.before _ s = true := fun w h => atoms_spec (ws := (codeW yX4_flag cX4_flag 4 (some .boolean))) B.pre w (List.mem_cons_of_mem _ h)
  have hown : s.vm.findClass RX4 = some m.cls := findClass_of_methodNamed B.named
  have hlocks := B.notSynchronized
  have hP := hH
  have hS : va_S A s.heap s.heap [] := va_S.rf
  have hl := lv_entry ([.ref (q 0), .int (nI (j)), .int (y9), .int (nI (w0))]) (n := 4) (Nat.le_of_ble_eq_true rfl)
  rw [lg_entry_eq]
  generalize (lg_sl ([.ref (q 0), .int (nI (j)), .int (y9), .int (nI (w0))]) ++ List.replicate (4 - (lg_sl ([.ref (q 0), .int (nI (j)), .int (y9), .int (nI (w0))])).length) Slot.unset).toArray = ls at hl ⊢
  have hl : lv_has ls 4 [(0, .ref (q 0)), (1, .int (nI (j))), (2, .int (y9)), (3, .int (nI (w0)))] := hl
  refine lv_aload_n hx hb dX4_flag_0 rfl (lv_at hl 0 rfl) ?_
  refine lv_aload_n hx hb dX4_flag_1 rfl (lv_at hl 0 rfl) ?_
  refine lv_iload_n hx hb dX4_flag_2 rfl (lv_at hl 1 rfl) ?_
  refine roV1 (v := .int (b2i (decide (μ 6 j = 0)))) (As := [.int (nI (j))]) (rest := [.ref (q 0)]) (n := 1) ⟨hx, hb, hml, hown, htA⟩ (m_isThere_t l D cI cZ sa q μ j s.heap hP hB hm0 (by omega)) (cwV 1 htA (gdV wd_747 wd_749 wp_11 wd_5 wd_750) rfl rfl rfl (by decide +kernel) ⟨Nat.le_of_ble_eq_true rfl, Nat.le_of_ble_eq_true rfl⟩) hKK hP 0 rfl rfl rfl hl.1 rfl (Nat.le_of_ble_eq_true rfl) dX4_flag_3 (Nat.zero_le _) (Nat.zero_le _) ?_
  refine b_ifne (b := decide (μ 6 j = 0)) (tgt := 13) hx hb dX4_flag_6 (by decide) (fun c_1 => ?_) (fun c_1 => ?_)
  rotate_left
  · exact absurd (c_1.symm.trans (decide_eq_true h6)) (by decide)
  refine lv_iload_n hx hb dX4_flag_13 rfl (lv_at hl 2 rfl) ?_
  refine n_iconst (k := 0) hx hb dX4_flag_14 (by decide) ?_
  refine n_iconst (k := 3) hx hb dX4_flag_15 (by decide) ?_
  refine roS1 (v := .int (b2i (iw (y9) (nI (0)) (nI (3))))) (As := [.int (y9), .int (nI (0)), .int (nI (3))]) (rest := [.ref (q 0)]) (n := 3) ⟨hx, hb, hml, hown, htA⟩ (m_in l D cI cZ sa (y9) (nI (0)) (nI (3)) s.heap ) (va_cwS 3 htA (gdS wd_732 wd_733 wd_5 wd_734) rfl rfl rfl (by decide +kernel) ⟨Nat.le_of_ble_eq_true rfl, Nat.le_of_ble_eq_true rfl⟩) hKK rfl hl.1 rfl (Nat.le_of_ble_eq_true rfl) dX4_flag_16 (Nat.zero_le _) (Nat.zero_le _) ?_
  refine b_ifne (b := iw (y9) (nI (0)) (nI (3))) (tgt := 26) hx hb dX4_flag_19 (by decide) (fun c_2 => ?_) (fun c_2 => ?_)
  · exact absurd (c_2.symm.trans hbad) (by decide)
  refine n_iconst (k := 2) hx hb dX4_flag_22 (by decide) ?_
  refine lv_goto (tgt := 27) hx hb dX4_flag_23 (by decide) ?_
  refine wrV1 (v := .int (b2i (false))) (As := [.int (nI (2))]) (rest := []) (n := 1) ⟨hx, hb, hml, hown, htA⟩ (m_unfine l D cI cZ sa q μ 2 A (D_addr hD rfl) (by decide) (by decide)) (cwV 1 htA (gdV wd_735 wd_737 wp_9 wd_5 wd_738) rfl rfl rfl (by decide +kernel) ⟨Nat.le_of_ble_eq_true rfl, Nat.le_of_ble_eq_true rfl⟩) hKK hP 0 rfl rfl rfl hl.1 rfl (Nat.le_of_ble_eq_true rfl) dX4_flag_27 (Nat.zero_le _) (Nat.zero_le _) hS (fun _ h => h) (fun H1 locs hP1 hz1 hk1 hS => ?_)
  have hP : va_P D vwCl (wM q cI cZ (sv μ 0 2 (2))) H1 := hP1
  generalize H1 = H at hP hS ⊢
  refine b_ifeq (b := false) (tgt := 47) hx hb dX4_flag_30 (by decide) (fun c_3 => ?_) (fun c_3 => ?_)
  rotate_left
  · exact absurd c_3 (by decide)
  refine n_iconst (k := 0) hx hb dX4_flag_47 (by decide) ?_
  exact wr_z (v := false) hx hb hr hlocks (rfl) hP hS dX4_flag_48
set_option maxHeartbeats 4000000 in
set_option maxRecDepth 100000 in
theorem r_flag_s (l : Launch) (D : va_G) (cI cZ : ClassId) (sa : Nat → Nat) (q : Nat → Nat) (μ : ST) (j k9 w0 : Nat) (A : Nat → Prop) (hD : va_D A (wM q cI cZ μ)) (hB : ∀ k i, μ k i < 1073741824) (hm0 : μ 0 0 ≤ 60) (hj : j < μ 0 0) (h6 : μ 6 j = 0) (hm : j < 60) (hs9 : μ 0 1 < 2048) (hw : w0 < 2) (hk9 : k9 < 4) (hk : k9 < 31) (he : hs (μ 3 j) k9 = nb w0) : Met l yX4_flag (codeW yX4_flag cX4_flag 4 (some .boolean)) ({ frames := 2, cells := 0, slots := 0, locals := 47 } : Room) (WrP D cI cZ sa (wM q cI cZ μ) [.ref (q 0), .int (nI (j)), .int (nI (k9)), .int (nI (w0))]) (WrQ (some (.int (b2i (false)))) D (wM q cI cZ (sv μ 0 2 0)) A) 0 0 A := by
  refine Met.ofW (cc := cX4_flag) (maxL := 4) (ret := (some .boolean)) (by decide) rfl ?_
  intro p e s m args below meth c s₁ B hml hv
  obtain ⟨rfl, hH, hKK⟩ := hv
  have hx := B.exec
  have hb := B.bytes
  have hr := B.returns
  have htA : ∀ w ∈ WA, w.before _ s = true := fun w h => atoms_spec (ws := (codeW yX4_flag cX4_flag 4 (some .boolean))) B.pre w (List.mem_cons_of_mem _ h)
  have hown : s.vm.findClass RX4 = some m.cls := findClass_of_methodNamed B.named
  have hlocks := B.notSynchronized
  have hP := hH
  have hS : va_S A s.heap s.heap [] := va_S.rf
  have hl := lv_entry ([.ref (q 0), .int (nI (j)), .int (nI (k9)), .int (nI (w0))]) (n := 4) (Nat.le_of_ble_eq_true rfl)
  rw [lg_entry_eq]
  generalize (lg_sl ([.ref (q 0), .int (nI (j)), .int (nI (k9)), .int (nI (w0))]) ++ List.replicate (4 - (lg_sl ([.ref (q 0), .int (nI (j)), .int (nI (k9)), .int (nI (w0))])).length) Slot.unset).toArray = ls at hl ⊢
  have hl : lv_has ls 4 [(0, .ref (q 0)), (1, .int (nI (j))), (2, .int (nI (k9))), (3, .int (nI (w0)))] := hl
  refine lv_aload_n hx hb dX4_flag_0 rfl (lv_at hl 0 rfl) ?_
  refine lv_aload_n hx hb dX4_flag_1 rfl (lv_at hl 0 rfl) ?_
  refine lv_iload_n hx hb dX4_flag_2 rfl (lv_at hl 1 rfl) ?_
  refine roV1 (v := .int (b2i (decide (μ 6 j = 0)))) (As := [.int (nI (j))]) (rest := [.ref (q 0)]) (n := 1) ⟨hx, hb, hml, hown, htA⟩ (m_isThere_t l D cI cZ sa q μ j s.heap hP hB hm0 (by omega)) (cwV 1 htA (gdV wd_747 wd_749 wp_11 wd_5 wd_750) rfl rfl rfl (by decide +kernel) ⟨Nat.le_of_ble_eq_true rfl, Nat.le_of_ble_eq_true rfl⟩) hKK hP 0 rfl rfl rfl hl.1 rfl (Nat.le_of_ble_eq_true rfl) dX4_flag_3 (Nat.zero_le _) (Nat.zero_le _) ?_
  refine b_ifne (b := decide (μ 6 j = 0)) (tgt := 13) hx hb dX4_flag_6 (by decide) (fun c_1 => ?_) (fun c_1 => ?_)
  rotate_left
  · exact absurd (c_1.symm.trans (decide_eq_true h6)) (by decide)
  refine lv_iload_n hx hb dX4_flag_13 rfl (lv_at hl 2 rfl) ?_
  refine n_iconst (k := 0) hx hb dX4_flag_14 (by decide) ?_
  refine n_iconst (k := 3) hx hb dX4_flag_15 (by decide) ?_
  refine roS1 (v := .int (b2i (iw (nI (k9)) (nI (0)) (nI (3))))) (As := [.int (nI (k9)), .int (nI (0)), .int (nI (3))]) (rest := [.ref (q 0)]) (n := 3) ⟨hx, hb, hml, hown, htA⟩ (m_in l D cI cZ sa (nI (k9)) (nI (0)) (nI (3)) s.heap ) (va_cwS 3 htA (gdS wd_732 wd_733 wd_5 wd_734) rfl rfl rfl (by decide +kernel) ⟨Nat.le_of_ble_eq_true rfl, Nat.le_of_ble_eq_true rfl⟩) hKK rfl hl.1 rfl (Nat.le_of_ble_eq_true rfl) dX4_flag_16 (Nat.zero_le _) (Nat.zero_le _) ?_
  refine b_ifne (b := iw (nI (k9)) (nI (0)) (nI (3))) (tgt := 26) hx hb dX4_flag_19 (by decide) (fun c_2 => ?_) (fun c_2 => ?_)
  rotate_left
  · exact absurd (c_2.symm.trans (iw_n (Nat.zero_le _) (by omega) (by decide))) (by decide)
  refine n_iconst (k := 0) hx hb dX4_flag_26 (by decide) ?_
  refine wrV1 (v := .int (b2i (true))) (As := [.int (nI (0))]) (rest := []) (n := 1) ⟨hx, hb, hml, hown, htA⟩ (m_fine l D cI cZ sa q μ A (D_addr hD rfl) ) (cwV 1 htA (gdV wd_735 wd_737 wp_9 wd_5 wd_738) rfl rfl rfl (by decide +kernel) ⟨Nat.le_of_ble_eq_true rfl, Nat.le_of_ble_eq_true rfl⟩) hKK hP 0 rfl rfl rfl hl.1 rfl (Nat.le_of_ble_eq_true rfl) dX4_flag_27 (Nat.zero_le _) (Nat.zero_le _) hS (fun _ h => h) (fun H1 locs hP1 hz1 hk1 hS => ?_)
  have hP : va_P D vwCl (wM q cI cZ (sv μ 0 2 (0))) H1 := hP1
  generalize H1 = H at hP hS ⊢
  refine b_ifeq (b := true) (tgt := 47) hx hb dX4_flag_30 (by decide) (fun c_3 => ?_) (fun c_3 => ?_)
  · exact absurd c_3 (by decide)
  refine lv_aload_n hx hb dX4_flag_33 rfl (lv_at hl 0 rfl) ?_
  refine lv_iload_n hx hb dX4_flag_34 rfl (lv_at hl 1 rfl) ?_
  refine lv_iload_n hx hb dX4_flag_35 rfl (lv_at hl 2 rfl) ?_
  refine lv_iload_n hx hb dX4_flag_36 rfl (lv_at hl 3 rfl) ?_
  refine roV1 (v := .int (b2i (false))) (As := [.int (nI (j)), .int (nI (k9)), .int (nI (w0))]) (rest := []) (n := 3) ⟨hx, hb, hml, hown, htA⟩ (m_flags_s l D cI cZ sa q (sv μ 0 2 (0)) j k9 w0 H hP (sv_lt hB (by decide)) hm0 hs9 hm hw hk he) (cwV 3 htA (gdV wd_755 wd_757 wp_12 wd_5 wd_758) rfl rfl rfl (by decide +kernel) ⟨Nat.le_of_ble_eq_true rfl, Nat.le_of_ble_eq_true rfl⟩) hKK hP 0 rfl rfl rfl hl.1 rfl (Nat.le_of_ble_eq_true rfl) dX4_flag_37 (Nat.zero_le _) (Nat.zero_le _) ?_
  refine b_ifeq (b := false) (tgt := 47) hx hb dX4_flag_40 (by decide) (fun c_4 => ?_) (fun c_4 => ?_)
  rotate_left
  · exact absurd c_4 (by decide)
  refine n_iconst (k := 0) hx hb dX4_flag_47 (by decide) ?_
  exact wr_z (v := false) hx hb hr hlocks (rfl) hP hS dX4_flag_48
set_option maxHeartbeats 4000000 in
set_option maxRecDepth 100000 in
theorem r_flag_d (l : Launch) (D : va_G) (cI cZ : ClassId) (sa : Nat → Nat) (q : Nat → Nat) (μ : ST) (j k9 w0 : Nat) (A : Nat → Prop) (hD : va_D A (wM q cI cZ μ)) (hB : ∀ k i, μ k i < 1073741824) (hm0 : μ 0 0 ≤ 60) (hj : j < μ 0 0) (h6 : μ 6 j = 0) (hm : j < 60) (hs9 : μ 0 1 < 2048) (hw : w0 < 2) (hk9 : k9 < 4) (hk : k9 < 31) (he : hs (μ 3 j) k9 ≠ nb w0) : Met l yX4_flag (codeW yX4_flag cX4_flag 4 (some .boolean)) ({ frames := 2, cells := 0, slots := 0, locals := 47 } : Room) (WrP D cI cZ sa (wM q cI cZ μ) [.ref (q 0), .int (nI (j)), .int (nI (k9)), .int (nI (w0))]) (WrQ (some (.int (b2i (true)))) D (wM q cI cZ (fls (sv μ 0 2 0) j k9 w0)) A) 0 0 A := by
  refine Met.ofW (cc := cX4_flag) (maxL := 4) (ret := (some .boolean)) (by decide) rfl ?_
  intro p e s m args below meth c s₁ B hml hv
  obtain ⟨rfl, hH, hKK⟩ := hv
  have hx := B.exec
  have hb := B.bytes
  have hr := B.returns
  have htA : ∀ w ∈ WA, w.before _ s = true := fun w h => atoms_spec (ws := (codeW yX4_flag cX4_flag 4 (some .boolean))) B.pre w (List.mem_cons_of_mem _ h)
  have hown : s.vm.findClass RX4 = some m.cls := findClass_of_methodNamed B.named
  have hlocks := B.notSynchronized
  have hP := hH
  have hS : va_S A s.heap s.heap [] := va_S.rf
  have hl := lv_entry ([.ref (q 0), .int (nI (j)), .int (nI (k9)), .int (nI (w0))]) (n := 4) (Nat.le_of_ble_eq_true rfl)
  rw [lg_entry_eq]
  generalize (lg_sl ([.ref (q 0), .int (nI (j)), .int (nI (k9)), .int (nI (w0))]) ++ List.replicate (4 - (lg_sl ([.ref (q 0), .int (nI (j)), .int (nI (k9)), .int (nI (w0))])).length) Slot.unset).toArray = ls at hl ⊢
  have hl : lv_has ls 4 [(0, .ref (q 0)), (1, .int (nI (j))), (2, .int (nI (k9))), (3, .int (nI (w0)))] := hl
  refine lv_aload_n hx hb dX4_flag_0 rfl (lv_at hl 0 rfl) ?_
  refine lv_aload_n hx hb dX4_flag_1 rfl (lv_at hl 0 rfl) ?_
  refine lv_iload_n hx hb dX4_flag_2 rfl (lv_at hl 1 rfl) ?_
  refine roV1 (v := .int (b2i (decide (μ 6 j = 0)))) (As := [.int (nI (j))]) (rest := [.ref (q 0)]) (n := 1) ⟨hx, hb, hml, hown, htA⟩ (m_isThere_t l D cI cZ sa q μ j s.heap hP hB hm0 (by omega)) (cwV 1 htA (gdV wd_747 wd_749 wp_11 wd_5 wd_750) rfl rfl rfl (by decide +kernel) ⟨Nat.le_of_ble_eq_true rfl, Nat.le_of_ble_eq_true rfl⟩) hKK hP 0 rfl rfl rfl hl.1 rfl (Nat.le_of_ble_eq_true rfl) dX4_flag_3 (Nat.zero_le _) (Nat.zero_le _) ?_
  refine b_ifne (b := decide (μ 6 j = 0)) (tgt := 13) hx hb dX4_flag_6 (by decide) (fun c_1 => ?_) (fun c_1 => ?_)
  rotate_left
  · exact absurd (c_1.symm.trans (decide_eq_true h6)) (by decide)
  refine lv_iload_n hx hb dX4_flag_13 rfl (lv_at hl 2 rfl) ?_
  refine n_iconst (k := 0) hx hb dX4_flag_14 (by decide) ?_
  refine n_iconst (k := 3) hx hb dX4_flag_15 (by decide) ?_
  refine roS1 (v := .int (b2i (iw (nI (k9)) (nI (0)) (nI (3))))) (As := [.int (nI (k9)), .int (nI (0)), .int (nI (3))]) (rest := [.ref (q 0)]) (n := 3) ⟨hx, hb, hml, hown, htA⟩ (m_in l D cI cZ sa (nI (k9)) (nI (0)) (nI (3)) s.heap ) (va_cwS 3 htA (gdS wd_732 wd_733 wd_5 wd_734) rfl rfl rfl (by decide +kernel) ⟨Nat.le_of_ble_eq_true rfl, Nat.le_of_ble_eq_true rfl⟩) hKK rfl hl.1 rfl (Nat.le_of_ble_eq_true rfl) dX4_flag_16 (Nat.zero_le _) (Nat.zero_le _) ?_
  refine b_ifne (b := iw (nI (k9)) (nI (0)) (nI (3))) (tgt := 26) hx hb dX4_flag_19 (by decide) (fun c_2 => ?_) (fun c_2 => ?_)
  rotate_left
  · exact absurd (c_2.symm.trans (iw_n (Nat.zero_le _) (by omega) (by decide))) (by decide)
  refine n_iconst (k := 0) hx hb dX4_flag_26 (by decide) ?_
  refine wrV1 (v := .int (b2i (true))) (As := [.int (nI (0))]) (rest := []) (n := 1) ⟨hx, hb, hml, hown, htA⟩ (m_fine l D cI cZ sa q μ A (D_addr hD rfl) ) (cwV 1 htA (gdV wd_735 wd_737 wp_9 wd_5 wd_738) rfl rfl rfl (by decide +kernel) ⟨Nat.le_of_ble_eq_true rfl, Nat.le_of_ble_eq_true rfl⟩) hKK hP 0 rfl rfl rfl hl.1 rfl (Nat.le_of_ble_eq_true rfl) dX4_flag_27 (Nat.zero_le _) (Nat.zero_le _) hS (fun _ h => h) (fun H1 locs hP1 hz1 hk1 hS => ?_)
  have hP : va_P D vwCl (wM q cI cZ (sv μ 0 2 (0))) H1 := hP1
  generalize H1 = H at hP hS ⊢
  refine b_ifeq (b := true) (tgt := 47) hx hb dX4_flag_30 (by decide) (fun c_3 => ?_) (fun c_3 => ?_)
  · exact absurd c_3 (by decide)
  refine lv_aload_n hx hb dX4_flag_33 rfl (lv_at hl 0 rfl) ?_
  refine lv_iload_n hx hb dX4_flag_34 rfl (lv_at hl 1 rfl) ?_
  refine lv_iload_n hx hb dX4_flag_35 rfl (lv_at hl 2 rfl) ?_
  refine lv_iload_n hx hb dX4_flag_36 rfl (lv_at hl 3 rfl) ?_
  refine wrV1 (v := .int (b2i (true))) (As := [.int (nI (j)), .int (nI (k9)), .int (nI (w0))]) (rest := []) (n := 3) ⟨hx, hb, hml, hown, htA⟩ (m_flags_d l D cI cZ sa q (sv μ 0 2 (0)) j k9 w0 A (D_addr hD rfl) (sv_lt hB (by decide)) hm0 hs9 hm hw hk he) (cwV 3 htA (gdV wd_755 wd_757 wp_12 wd_5 wd_758) rfl rfl rfl (by decide +kernel) ⟨Nat.le_of_ble_eq_true rfl, Nat.le_of_ble_eq_true rfl⟩) hKK hP 0 rfl rfl rfl hl.1 rfl (Nat.le_of_ble_eq_true rfl) dX4_flag_37 (Nat.zero_le _) (Nat.zero_le _) hS (fun _ h => h) (fun H1 locs hP1 hz1 hk1 hS => ?_)
  have hP : va_P D vwCl (wM q cI cZ (fls (sv μ 0 2 (0)) j k9 w0)) H1 := hP1
  generalize H1 = H at hP hS ⊢
  refine b_ifeq (b := true) (tgt := 47) hx hb dX4_flag_40 (by decide) (fun c_4 => ?_) (fun c_4 => ?_)
  · exact absurd c_4 (by decide)
  refine n_iconst (k := 1) hx hb dX4_flag_43 (by decide) ?_
  refine lv_goto (tgt := 48) hx hb dX4_flag_44 (by decide) ?_
  exact wr_z (v := true) hx hb hr hlocks (rfl) hP hS dX4_flag_48
set_option maxHeartbeats 4000000 in
set_option maxRecDepth 100000 in
theorem r_flagIf_nr (l : Launch) (D : va_G) (cI cZ : ClassId) (sa : Nat → Nat) (q : Nat → Nat) (μ : ST) (x y9 : Int32) (w0 : Nat) (z : Int32) (A : Nat → Prop) (hD : va_D A (wM q cI cZ μ)) (hx9 : iw (x) (nI (0)) (oi (μ 0 0)) = false) : Met l yX4_flagIf (codeW yX4_flagIf cX4_flagIf 6 (some .boolean)) ({ frames := 2, cells := 0, slots := 0, locals := 43 } : Room) (WrP D cI cZ sa (wM q cI cZ μ) [.ref (q 0), .int (x), .int (y9), .int (nI (w0)), .int (z)]) (WrQ (some (.int (b2i (false)))) D (wM q cI cZ (sv μ 0 2 1)) A) 0 0 A := by
  refine Met.ofW (cc := cX4_flagIf) (maxL := 6) (ret := (some .boolean)) (by decide) rfl ?_
  intro p e s m args below meth c s₁ B hml hv
  obtain ⟨rfl, hH, hKK⟩ := hv
  have hx := B.exec
  have hb := B.bytes
  have hr := B.returns
  have htA : ∀ w ∈ WA, w.before _ s = true := fun w h => atoms_spec (ws := (codeW yX4_flagIf cX4_flagIf 6 (some .boolean))) B.pre w (List.mem_cons_of_mem _ h)
  have hown : s.vm.findClass RX4 = some m.cls := findClass_of_methodNamed B.named
  have hlocks := B.notSynchronized
  have hP := hH
  have hS : va_S A s.heap s.heap [] := va_S.rf
  have hl := lv_entry ([.ref (q 0), .int (x), .int (y9), .int (nI (w0)), .int (z)]) (n := 6) (Nat.le_of_ble_eq_true rfl)
  rw [lg_entry_eq]
  generalize (lg_sl ([.ref (q 0), .int (x), .int (y9), .int (nI (w0)), .int (z)]) ++ List.replicate (6 - (lg_sl ([.ref (q 0), .int (x), .int (y9), .int (nI (w0)), .int (z)])).length) Slot.unset).toArray = ls at hl ⊢
  have hl : lv_has ls 6 [(0, .ref (q 0)), (1, .int (x)), (2, .int (y9)), (3, .int (nI (w0))), (4, .int (z))] := hl
  refine lv_aload_n hx hb dX4_flagIf_0 rfl (lv_at hl 0 rfl) ?_
  refine lv_iload_n hx hb dX4_flagIf_1 rfl (lv_at hl 1 rfl) ?_
  refine roV1 (v := .int (b2i (false))) (As := [.int (x)]) (rest := []) (n := 1) ⟨hx, hb, hml, hown, htA⟩ (m_isThere_f l D cI cZ sa q μ (x) s.heap hP hx9) (cwV 1 htA (gdV wd_747 wd_749 wp_11 wd_5 wd_750) rfl rfl rfl (by decide +kernel) ⟨Nat.le_of_ble_eq_true rfl, Nat.le_of_ble_eq_true rfl⟩) hKK hP 0 rfl rfl rfl hl.1 rfl (Nat.le_of_ble_eq_true rfl) dX4_flagIf_2 (Nat.zero_le _) (Nat.zero_le _) ?_
  refine b_ifne (b := false) (tgt := 12) hx hb dX4_flagIf_5 (by decide) (fun c_1 => ?_) (fun c_1 => ?_)
  · exact absurd c_1 (by decide)
  refine n_iconst (k := 1) hx hb dX4_flagIf_8 (by decide) ?_
  refine lv_goto (tgt := 39) hx hb dX4_flagIf_9 (by decide) ?_
  refine lv_istore (lv' := [(5, .int (nI (1))), (0, .ref (q 0)), (1, .int (x)), (2, .int (y9)), (3, .int (nI (w0))), (4, .int (z))]) hx hb dX4_flagIf_39 hl (by decide) rfl (fun ls hl => ?_)
  refine lv_aload_n hx hb dX4_flagIf_41 rfl (lv_at hl 1 rfl) ?_
  refine lv_iload hx hb dX4_flagIf_42 (lv_at hl 0 rfl) ?_
  refine wrV1 (v := .int (b2i (false))) (As := [.int (nI (1))]) (rest := []) (n := 1) ⟨hx, hb, hml, hown, htA⟩ (m_unfine l D cI cZ sa q μ 1 A (D_addr hD rfl) (by decide) (by decide)) (cwV 1 htA (gdV wd_735 wd_737 wp_9 wd_5 wd_738) rfl rfl rfl (by decide +kernel) ⟨Nat.le_of_ble_eq_true rfl, Nat.le_of_ble_eq_true rfl⟩) hKK hP 0 rfl rfl rfl hl.1 rfl (Nat.le_of_ble_eq_true rfl) dX4_flagIf_44 (Nat.zero_le _) (Nat.zero_le _) hS (fun _ h => h) (fun H1 locs hP1 hz1 hk1 hS => ?_)
  have hP : va_P D vwCl (wM q cI cZ (sv μ 0 2 (1))) H1 := hP1
  generalize H1 = H at hP hS ⊢
  refine b_ifeq (b := false) (tgt := 64) hx hb dX4_flagIf_47 (by decide) (fun c_2 => ?_) (fun c_2 => ?_)
  rotate_left
  · exact absurd c_2 (by decide)
  refine n_iconst (k := 0) hx hb dX4_flagIf_64 (by decide) ?_
  exact wr_z (v := false) hx hb hr hlocks (rfl) hP hS dX4_flagIf_65
set_option maxHeartbeats 4000000 in
set_option maxRecDepth 100000 in
theorem r_flagIf_nz (l : Launch) (D : va_G) (cI cZ : ClassId) (sa : Nat → Nat) (q : Nat → Nat) (μ : ST) (j : Nat) (y9 : Int32) (w0 : Nat) (z : Int32) (A : Nat → Prop) (hD : va_D A (wM q cI cZ μ)) (hB : ∀ k i, μ k i < 1073741824) (hm0 : μ 0 0 ≤ 60) (hj : j < μ 0 0) (h6 : μ 6 j ≠ 0) : Met l yX4_flagIf (codeW yX4_flagIf cX4_flagIf 6 (some .boolean)) ({ frames := 2, cells := 0, slots := 0, locals := 43 } : Room) (WrP D cI cZ sa (wM q cI cZ μ) [.ref (q 0), .int (nI (j)), .int (y9), .int (nI (w0)), .int (z)]) (WrQ (some (.int (b2i (false)))) D (wM q cI cZ (sv μ 0 2 1)) A) 0 0 A := by
  refine Met.ofW (cc := cX4_flagIf) (maxL := 6) (ret := (some .boolean)) (by decide) rfl ?_
  intro p e s m args below meth c s₁ B hml hv
  obtain ⟨rfl, hH, hKK⟩ := hv
  have hx := B.exec
  have hb := B.bytes
  have hr := B.returns
  have htA : ∀ w ∈ WA, w.before _ s = true := fun w h => atoms_spec (ws := (codeW yX4_flagIf cX4_flagIf 6 (some .boolean))) B.pre w (List.mem_cons_of_mem _ h)
  have hown : s.vm.findClass RX4 = some m.cls := findClass_of_methodNamed B.named
  have hlocks := B.notSynchronized
  have hP := hH
  have hS : va_S A s.heap s.heap [] := va_S.rf
  have hl := lv_entry ([.ref (q 0), .int (nI (j)), .int (y9), .int (nI (w0)), .int (z)]) (n := 6) (Nat.le_of_ble_eq_true rfl)
  rw [lg_entry_eq]
  generalize (lg_sl ([.ref (q 0), .int (nI (j)), .int (y9), .int (nI (w0)), .int (z)]) ++ List.replicate (6 - (lg_sl ([.ref (q 0), .int (nI (j)), .int (y9), .int (nI (w0)), .int (z)])).length) Slot.unset).toArray = ls at hl ⊢
  have hl : lv_has ls 6 [(0, .ref (q 0)), (1, .int (nI (j))), (2, .int (y9)), (3, .int (nI (w0))), (4, .int (z))] := hl
  refine lv_aload_n hx hb dX4_flagIf_0 rfl (lv_at hl 0 rfl) ?_
  refine lv_iload_n hx hb dX4_flagIf_1 rfl (lv_at hl 1 rfl) ?_
  refine roV1 (v := .int (b2i (decide (μ 6 j = 0)))) (As := [.int (nI (j))]) (rest := []) (n := 1) ⟨hx, hb, hml, hown, htA⟩ (m_isThere_t l D cI cZ sa q μ j s.heap hP hB hm0 (by omega)) (cwV 1 htA (gdV wd_747 wd_749 wp_11 wd_5 wd_750) rfl rfl rfl (by decide +kernel) ⟨Nat.le_of_ble_eq_true rfl, Nat.le_of_ble_eq_true rfl⟩) hKK hP 0 rfl rfl rfl hl.1 rfl (Nat.le_of_ble_eq_true rfl) dX4_flagIf_2 (Nat.zero_le _) (Nat.zero_le _) ?_
  refine b_ifne (b := decide (μ 6 j = 0)) (tgt := 12) hx hb dX4_flagIf_5 (by decide) (fun c_1 => ?_) (fun c_1 => ?_)
  · exact absurd (c_1.symm.trans (decide_eq_false h6)) (by decide)
  refine n_iconst (k := 1) hx hb dX4_flagIf_8 (by decide) ?_
  refine lv_goto (tgt := 39) hx hb dX4_flagIf_9 (by decide) ?_
  refine lv_istore (lv' := [(5, .int (nI (1))), (0, .ref (q 0)), (1, .int (nI (j))), (2, .int (y9)), (3, .int (nI (w0))), (4, .int (z))]) hx hb dX4_flagIf_39 hl (by decide) rfl (fun ls hl => ?_)
  refine lv_aload_n hx hb dX4_flagIf_41 rfl (lv_at hl 1 rfl) ?_
  refine lv_iload hx hb dX4_flagIf_42 (lv_at hl 0 rfl) ?_
  refine wrV1 (v := .int (b2i (false))) (As := [.int (nI (1))]) (rest := []) (n := 1) ⟨hx, hb, hml, hown, htA⟩ (m_unfine l D cI cZ sa q μ 1 A (D_addr hD rfl) (by decide) (by decide)) (cwV 1 htA (gdV wd_735 wd_737 wp_9 wd_5 wd_738) rfl rfl rfl (by decide +kernel) ⟨Nat.le_of_ble_eq_true rfl, Nat.le_of_ble_eq_true rfl⟩) hKK hP 0 rfl rfl rfl hl.1 rfl (Nat.le_of_ble_eq_true rfl) dX4_flagIf_44 (Nat.zero_le _) (Nat.zero_le _) hS (fun _ h => h) (fun H1 locs hP1 hz1 hk1 hS => ?_)
  have hP : va_P D vwCl (wM q cI cZ (sv μ 0 2 (1))) H1 := hP1
  generalize H1 = H at hP hS ⊢
  refine b_ifeq (b := false) (tgt := 64) hx hb dX4_flagIf_47 (by decide) (fun c_2 => ?_) (fun c_2 => ?_)
  rotate_left
  · exact absurd c_2 (by decide)
  refine n_iconst (k := 0) hx hb dX4_flagIf_64 (by decide) ?_
  exact wr_z (v := false) hx hb hr hlocks (rfl) hP hS dX4_flagIf_65
set_option maxHeartbeats 4000000 in
set_option maxRecDepth 100000 in
theorem r_flagIf_bad (l : Launch) (D : va_G) (cI cZ : ClassId) (sa : Nat → Nat) (q : Nat → Nat) (μ : ST) (j : Nat) (y9 : Int32) (w0 : Nat) (z : Int32) (A : Nat → Prop) (hD : va_D A (wM q cI cZ μ)) (hB : ∀ k i, μ k i < 1073741824) (hm0 : μ 0 0 ≤ 60) (hj : j < μ 0 0) (h6 : μ 6 j = 0) (hbad : iw (y9) (nI (0)) (nI (3)) = false) : Met l yX4_flagIf (codeW yX4_flagIf cX4_flagIf 6 (some .boolean)) ({ frames := 2, cells := 0, slots := 0, locals := 43 } : Room) (WrP D cI cZ sa (wM q cI cZ μ) [.ref (q 0), .int (nI (j)), .int (y9), .int (nI (w0)), .int (z)]) (WrQ (some (.int (b2i (false)))) D (wM q cI cZ (sv μ 0 2 2)) A) 0 0 A := by
  refine Met.ofW (cc := cX4_flagIf) (maxL := 6) (ret := (some .boolean)) (by decide) rfl ?_
  intro p e s m args below meth c s₁ B hml hv
  obtain ⟨rfl, hH, hKK⟩ := hv
  have hx := B.exec
  have hb := B.bytes
  have hr := B.returns
  have htA : ∀ w ∈ WA, w.before _ s = true := fun w h => atoms_spec (ws := (codeW yX4_flagIf cX4_flagIf 6 (some .boolean))) B.pre w (List.mem_cons_of_mem _ h)
  have hown : s.vm.findClass RX4 = some m.cls := findClass_of_methodNamed B.named
  have hlocks := B.notSynchronized
  have hP := hH
  have hS : va_S A s.heap s.heap [] := va_S.rf
  have hl := lv_entry ([.ref (q 0), .int (nI (j)), .int (y9), .int (nI (w0)), .int (z)]) (n := 6) (Nat.le_of_ble_eq_true rfl)
  rw [lg_entry_eq]
  generalize (lg_sl ([.ref (q 0), .int (nI (j)), .int (y9), .int (nI (w0)), .int (z)]) ++ List.replicate (6 - (lg_sl ([.ref (q 0), .int (nI (j)), .int (y9), .int (nI (w0)), .int (z)])).length) Slot.unset).toArray = ls at hl ⊢
  have hl : lv_has ls 6 [(0, .ref (q 0)), (1, .int (nI (j))), (2, .int (y9)), (3, .int (nI (w0))), (4, .int (z))] := hl
  refine lv_aload_n hx hb dX4_flagIf_0 rfl (lv_at hl 0 rfl) ?_
  refine lv_iload_n hx hb dX4_flagIf_1 rfl (lv_at hl 1 rfl) ?_
  refine roV1 (v := .int (b2i (decide (μ 6 j = 0)))) (As := [.int (nI (j))]) (rest := []) (n := 1) ⟨hx, hb, hml, hown, htA⟩ (m_isThere_t l D cI cZ sa q μ j s.heap hP hB hm0 (by omega)) (cwV 1 htA (gdV wd_747 wd_749 wp_11 wd_5 wd_750) rfl rfl rfl (by decide +kernel) ⟨Nat.le_of_ble_eq_true rfl, Nat.le_of_ble_eq_true rfl⟩) hKK hP 0 rfl rfl rfl hl.1 rfl (Nat.le_of_ble_eq_true rfl) dX4_flagIf_2 (Nat.zero_le _) (Nat.zero_le _) ?_
  refine b_ifne (b := decide (μ 6 j = 0)) (tgt := 12) hx hb dX4_flagIf_5 (by decide) (fun c_1 => ?_) (fun c_1 => ?_)
  rotate_left
  · exact absurd (c_1.symm.trans (decide_eq_true h6)) (by decide)
  refine lv_iload_n hx hb dX4_flagIf_12 rfl (lv_at hl 2 rfl) ?_
  refine n_iconst (k := 0) hx hb dX4_flagIf_13 (by decide) ?_
  refine n_iconst (k := 3) hx hb dX4_flagIf_14 (by decide) ?_
  refine roS1 (v := .int (b2i (iw (y9) (nI (0)) (nI (3))))) (As := [.int (y9), .int (nI (0)), .int (nI (3))]) (rest := []) (n := 3) ⟨hx, hb, hml, hown, htA⟩ (m_in l D cI cZ sa (y9) (nI (0)) (nI (3)) s.heap ) (va_cwS 3 htA (gdS wd_732 wd_733 wd_5 wd_734) rfl rfl rfl (by decide +kernel) ⟨Nat.le_of_ble_eq_true rfl, Nat.le_of_ble_eq_true rfl⟩) hKK rfl hl.1 rfl (Nat.le_of_ble_eq_true rfl) dX4_flagIf_15 (Nat.zero_le _) (Nat.zero_le _) ?_
  refine b_ifne (b := iw (y9) (nI (0)) (nI (3))) (tgt := 25) hx hb dX4_flagIf_18 (by decide) (fun c_2 => ?_) (fun c_2 => ?_)
  · exact absurd (c_2.symm.trans hbad) (by decide)
  refine n_iconst (k := 2) hx hb dX4_flagIf_21 (by decide) ?_
  refine lv_goto (tgt := 39) hx hb dX4_flagIf_22 (by decide) ?_
  refine lv_istore (lv' := [(5, .int (nI (2))), (0, .ref (q 0)), (1, .int (nI (j))), (2, .int (y9)), (3, .int (nI (w0))), (4, .int (z))]) hx hb dX4_flagIf_39 hl (by decide) rfl (fun ls hl => ?_)
  refine lv_aload_n hx hb dX4_flagIf_41 rfl (lv_at hl 1 rfl) ?_
  refine lv_iload hx hb dX4_flagIf_42 (lv_at hl 0 rfl) ?_
  refine wrV1 (v := .int (b2i (false))) (As := [.int (nI (2))]) (rest := []) (n := 1) ⟨hx, hb, hml, hown, htA⟩ (m_unfine l D cI cZ sa q μ 2 A (D_addr hD rfl) (by decide) (by decide)) (cwV 1 htA (gdV wd_735 wd_737 wp_9 wd_5 wd_738) rfl rfl rfl (by decide +kernel) ⟨Nat.le_of_ble_eq_true rfl, Nat.le_of_ble_eq_true rfl⟩) hKK hP 0 rfl rfl rfl hl.1 rfl (Nat.le_of_ble_eq_true rfl) dX4_flagIf_44 (Nat.zero_le _) (Nat.zero_le _) hS (fun _ h => h) (fun H1 locs hP1 hz1 hk1 hS => ?_)
  have hP : va_P D vwCl (wM q cI cZ (sv μ 0 2 (2))) H1 := hP1
  generalize H1 = H at hP hS ⊢
  refine b_ifeq (b := false) (tgt := 64) hx hb dX4_flagIf_47 (by decide) (fun c_3 => ?_) (fun c_3 => ?_)
  rotate_left
  · exact absurd c_3 (by decide)
  refine n_iconst (k := 0) hx hb dX4_flagIf_64 (by decide) ?_
  exact wr_z (v := false) hx hb hr hlocks (rfl) hP hS dX4_flagIf_65
set_option maxHeartbeats 4000000 in
set_option maxRecDepth 100000 in
theorem r_flagIf_st (l : Launch) (D : va_G) (cI cZ : ClassId) (sa : Nat → Nat) (q : Nat → Nat) (μ : ST) (j k9 w0 : Nat) (z : Int32) (A : Nat → Prop) (hD : va_D A (wM q cI cZ μ)) (hB : ∀ k i, μ k i < 1073741824) (hm0 : μ 0 0 ≤ 60) (hj : j < μ 0 0) (h6 : μ 6 j = 0) (hk9 : k9 < 4) (hz9 : z ≠ nI (μ 0 1)) : Met l yX4_flagIf (codeW yX4_flagIf cX4_flagIf 6 (some .boolean)) ({ frames := 2, cells := 0, slots := 0, locals := 43 } : Room) (WrP D cI cZ sa (wM q cI cZ μ) [.ref (q 0), .int (nI (j)), .int (nI (k9)), .int (nI (w0)), .int (z)]) (WrQ (some (.int (b2i (false)))) D (wM q cI cZ (sv μ 0 2 3)) A) 0 0 A := by
  refine Met.ofW (cc := cX4_flagIf) (maxL := 6) (ret := (some .boolean)) (by decide) rfl ?_
  intro p e s m args below meth c s₁ B hml hv
  obtain ⟨rfl, hH, hKK⟩ := hv
  have hx := B.exec
  have hb := B.bytes
  have hr := B.returns
  have htA : ∀ w ∈ WA, w.before _ s = true := fun w h => atoms_spec (ws := (codeW yX4_flagIf cX4_flagIf 6 (some .boolean))) B.pre w (List.mem_cons_of_mem _ h)
  have hown : s.vm.findClass RX4 = some m.cls := findClass_of_methodNamed B.named
  have hlocks := B.notSynchronized
  have hP := hH
  have hS : va_S A s.heap s.heap [] := va_S.rf
  have hl := lv_entry ([.ref (q 0), .int (nI (j)), .int (nI (k9)), .int (nI (w0)), .int (z)]) (n := 6) (Nat.le_of_ble_eq_true rfl)
  rw [lg_entry_eq]
  generalize (lg_sl ([.ref (q 0), .int (nI (j)), .int (nI (k9)), .int (nI (w0)), .int (z)]) ++ List.replicate (6 - (lg_sl ([.ref (q 0), .int (nI (j)), .int (nI (k9)), .int (nI (w0)), .int (z)])).length) Slot.unset).toArray = ls at hl ⊢
  have hl : lv_has ls 6 [(0, .ref (q 0)), (1, .int (nI (j))), (2, .int (nI (k9))), (3, .int (nI (w0))), (4, .int (z))] := hl
  refine lv_aload_n hx hb dX4_flagIf_0 rfl (lv_at hl 0 rfl) ?_
  refine lv_iload_n hx hb dX4_flagIf_1 rfl (lv_at hl 1 rfl) ?_
  refine roV1 (v := .int (b2i (decide (μ 6 j = 0)))) (As := [.int (nI (j))]) (rest := []) (n := 1) ⟨hx, hb, hml, hown, htA⟩ (m_isThere_t l D cI cZ sa q μ j s.heap hP hB hm0 (by omega)) (cwV 1 htA (gdV wd_747 wd_749 wp_11 wd_5 wd_750) rfl rfl rfl (by decide +kernel) ⟨Nat.le_of_ble_eq_true rfl, Nat.le_of_ble_eq_true rfl⟩) hKK hP 0 rfl rfl rfl hl.1 rfl (Nat.le_of_ble_eq_true rfl) dX4_flagIf_2 (Nat.zero_le _) (Nat.zero_le _) ?_
  refine b_ifne (b := decide (μ 6 j = 0)) (tgt := 12) hx hb dX4_flagIf_5 (by decide) (fun c_1 => ?_) (fun c_1 => ?_)
  rotate_left
  · exact absurd (c_1.symm.trans (decide_eq_true h6)) (by decide)
  refine lv_iload_n hx hb dX4_flagIf_12 rfl (lv_at hl 2 rfl) ?_
  refine n_iconst (k := 0) hx hb dX4_flagIf_13 (by decide) ?_
  refine n_iconst (k := 3) hx hb dX4_flagIf_14 (by decide) ?_
  refine roS1 (v := .int (b2i (iw (nI (k9)) (nI (0)) (nI (3))))) (As := [.int (nI (k9)), .int (nI (0)), .int (nI (3))]) (rest := []) (n := 3) ⟨hx, hb, hml, hown, htA⟩ (m_in l D cI cZ sa (nI (k9)) (nI (0)) (nI (3)) s.heap ) (va_cwS 3 htA (gdS wd_732 wd_733 wd_5 wd_734) rfl rfl rfl (by decide +kernel) ⟨Nat.le_of_ble_eq_true rfl, Nat.le_of_ble_eq_true rfl⟩) hKK rfl hl.1 rfl (Nat.le_of_ble_eq_true rfl) dX4_flagIf_15 (Nat.zero_le _) (Nat.zero_le _) ?_
  refine b_ifne (b := iw (nI (k9)) (nI (0)) (nI (3))) (tgt := 25) hx hb dX4_flagIf_18 (by decide) (fun c_2 => ?_) (fun c_2 => ?_)
  rotate_left
  · exact absurd (c_2.symm.trans (iw_n (Nat.zero_le _) (by omega) (by decide))) (by decide)
  refine lv_iload hx hb dX4_flagIf_25 (lv_at hl 4 rfl) ?_
  refine lv_aload_n hx hb dX4_flagIf_27 rfl (lv_at hl 0 rfl) ?_
  refine va_get (D := D) (ci := 4) (v := .int (nI (μ 0 1))) (C := RX4) (T := TX4) (N := 26) hx hb htA uwX4 hown hKK.1 hP 0 rfl rfl 13 (by decide) (htA _ wd_658) (fun _ h9 => h9) rfl dX4_flagIf_28 ?_
  refine lv_icmp_eq (x := z) (y := nI (μ 0 1)) (tgt := 38) hx hb dX4_flagIf_31 (by decide) (fun c_3 => ?_) (fun c_3 => ?_)
  · exact absurd c_3 hz9
  refine n_iconst (k := 3) hx hb dX4_flagIf_34 (by decide) ?_
  refine lv_goto (tgt := 39) hx hb dX4_flagIf_35 (by decide) ?_
  refine lv_istore (lv' := [(5, .int (nI (3))), (0, .ref (q 0)), (1, .int (nI (j))), (2, .int (nI (k9))), (3, .int (nI (w0))), (4, .int (z))]) hx hb dX4_flagIf_39 hl (by decide) rfl (fun ls hl => ?_)
  refine lv_aload_n hx hb dX4_flagIf_41 rfl (lv_at hl 1 rfl) ?_
  refine lv_iload hx hb dX4_flagIf_42 (lv_at hl 0 rfl) ?_
  refine wrV1 (v := .int (b2i (false))) (As := [.int (nI (3))]) (rest := []) (n := 1) ⟨hx, hb, hml, hown, htA⟩ (m_unfine l D cI cZ sa q μ 3 A (D_addr hD rfl) (by decide) (by decide)) (cwV 1 htA (gdV wd_735 wd_737 wp_9 wd_5 wd_738) rfl rfl rfl (by decide +kernel) ⟨Nat.le_of_ble_eq_true rfl, Nat.le_of_ble_eq_true rfl⟩) hKK hP 0 rfl rfl rfl hl.1 rfl (Nat.le_of_ble_eq_true rfl) dX4_flagIf_44 (Nat.zero_le _) (Nat.zero_le _) hS (fun _ h => h) (fun H1 locs hP1 hz1 hk1 hS => ?_)
  have hP : va_P D vwCl (wM q cI cZ (sv μ 0 2 (3))) H1 := hP1
  generalize H1 = H at hP hS ⊢
  refine b_ifeq (b := false) (tgt := 64) hx hb dX4_flagIf_47 (by decide) (fun c_4 => ?_) (fun c_4 => ?_)
  rotate_left
  · exact absurd c_4 (by decide)
  refine n_iconst (k := 0) hx hb dX4_flagIf_64 (by decide) ?_
  exact wr_z (v := false) hx hb hr hlocks (rfl) hP hS dX4_flagIf_65
set_option maxHeartbeats 4000000 in
set_option maxRecDepth 100000 in
theorem r_flagIf_s (l : Launch) (D : va_G) (cI cZ : ClassId) (sa : Nat → Nat) (q : Nat → Nat) (μ : ST) (j k9 w0 : Nat) (A : Nat → Prop) (hD : va_D A (wM q cI cZ μ)) (hB : ∀ k i, μ k i < 1073741824) (hm0 : μ 0 0 ≤ 60) (hj : j < μ 0 0) (h6 : μ 6 j = 0) (hm : j < 60) (hs9 : μ 0 1 < 2048) (hw : w0 < 2) (hk9 : k9 < 4) (hk : k9 < 31) (he : hs (μ 3 j) k9 = nb w0) : Met l yX4_flagIf (codeW yX4_flagIf cX4_flagIf 6 (some .boolean)) ({ frames := 2, cells := 0, slots := 0, locals := 47 } : Room) (WrP D cI cZ sa (wM q cI cZ μ) [.ref (q 0), .int (nI (j)), .int (nI (k9)), .int (nI (w0)), .int (nI (μ 0 1))]) (WrQ (some (.int (b2i (false)))) D (wM q cI cZ (sv μ 0 2 0)) A) 0 0 A := by
  refine Met.ofW (cc := cX4_flagIf) (maxL := 6) (ret := (some .boolean)) (by decide) rfl ?_
  intro p e s m args below meth c s₁ B hml hv
  obtain ⟨rfl, hH, hKK⟩ := hv
  have hx := B.exec
  have hb := B.bytes
  have hr := B.returns
  have htA : ∀ w ∈ WA, w.before _ s = true := fun w h => atoms_spec (ws := (codeW yX4_flagIf cX4_flagIf 6 (some .boolean))) B.pre w (List.mem_cons_of_mem _ h)
  have hown : s.vm.findClass RX4 = some m.cls := findClass_of_methodNamed B.named
  have hlocks := B.notSynchronized
  have hP := hH
  have hS : va_S A s.heap s.heap [] := va_S.rf
  have hl := lv_entry ([.ref (q 0), .int (nI (j)), .int (nI (k9)), .int (nI (w0)), .int (nI (μ 0 1))]) (n := 6) (Nat.le_of_ble_eq_true rfl)
  rw [lg_entry_eq]
  generalize (lg_sl ([.ref (q 0), .int (nI (j)), .int (nI (k9)), .int (nI (w0)), .int (nI (μ 0 1))]) ++ List.replicate (6 - (lg_sl ([.ref (q 0), .int (nI (j)), .int (nI (k9)), .int (nI (w0)), .int (nI (μ 0 1))])).length) Slot.unset).toArray = ls at hl ⊢
  have hl : lv_has ls 6 [(0, .ref (q 0)), (1, .int (nI (j))), (2, .int (nI (k9))), (3, .int (nI (w0))), (4, .int (nI (μ 0 1)))] := hl
  refine lv_aload_n hx hb dX4_flagIf_0 rfl (lv_at hl 0 rfl) ?_
  refine lv_iload_n hx hb dX4_flagIf_1 rfl (lv_at hl 1 rfl) ?_
  refine roV1 (v := .int (b2i (decide (μ 6 j = 0)))) (As := [.int (nI (j))]) (rest := []) (n := 1) ⟨hx, hb, hml, hown, htA⟩ (m_isThere_t l D cI cZ sa q μ j s.heap hP hB hm0 (by omega)) (cwV 1 htA (gdV wd_747 wd_749 wp_11 wd_5 wd_750) rfl rfl rfl (by decide +kernel) ⟨Nat.le_of_ble_eq_true rfl, Nat.le_of_ble_eq_true rfl⟩) hKK hP 0 rfl rfl rfl hl.1 rfl (Nat.le_of_ble_eq_true rfl) dX4_flagIf_2 (Nat.zero_le _) (Nat.zero_le _) ?_
  refine b_ifne (b := decide (μ 6 j = 0)) (tgt := 12) hx hb dX4_flagIf_5 (by decide) (fun c_1 => ?_) (fun c_1 => ?_)
  rotate_left
  · exact absurd (c_1.symm.trans (decide_eq_true h6)) (by decide)
  refine lv_iload_n hx hb dX4_flagIf_12 rfl (lv_at hl 2 rfl) ?_
  refine n_iconst (k := 0) hx hb dX4_flagIf_13 (by decide) ?_
  refine n_iconst (k := 3) hx hb dX4_flagIf_14 (by decide) ?_
  refine roS1 (v := .int (b2i (iw (nI (k9)) (nI (0)) (nI (3))))) (As := [.int (nI (k9)), .int (nI (0)), .int (nI (3))]) (rest := []) (n := 3) ⟨hx, hb, hml, hown, htA⟩ (m_in l D cI cZ sa (nI (k9)) (nI (0)) (nI (3)) s.heap ) (va_cwS 3 htA (gdS wd_732 wd_733 wd_5 wd_734) rfl rfl rfl (by decide +kernel) ⟨Nat.le_of_ble_eq_true rfl, Nat.le_of_ble_eq_true rfl⟩) hKK rfl hl.1 rfl (Nat.le_of_ble_eq_true rfl) dX4_flagIf_15 (Nat.zero_le _) (Nat.zero_le _) ?_
  refine b_ifne (b := iw (nI (k9)) (nI (0)) (nI (3))) (tgt := 25) hx hb dX4_flagIf_18 (by decide) (fun c_2 => ?_) (fun c_2 => ?_)
  rotate_left
  · exact absurd (c_2.symm.trans (iw_n (Nat.zero_le _) (by omega) (by decide))) (by decide)
  refine lv_iload hx hb dX4_flagIf_25 (lv_at hl 4 rfl) ?_
  refine lv_aload_n hx hb dX4_flagIf_27 rfl (lv_at hl 0 rfl) ?_
  refine va_get (D := D) (ci := 4) (v := .int (nI (μ 0 1))) (C := RX4) (T := TX4) (N := 26) hx hb htA uwX4 hown hKK.1 hP 0 rfl rfl 13 (by decide) (htA _ wd_658) (fun _ h9 => h9) rfl dX4_flagIf_28 ?_
  refine n_icmp_eq (x := μ 0 1) (y := μ 0 1) (tgt := 38) hx hb dX4_flagIf_31 (by decide) (Nat.lt_trans (hB 0 1) (by decide)) (Nat.lt_trans (hB 0 1) (by decide)) (fun c_3 => ?_) (fun c_3 => ?_)
  rotate_left
  · exfalso; omega
  refine n_iconst (k := 0) hx hb dX4_flagIf_38 (by decide) ?_
  refine lv_istore (lv' := [(5, .int (nI (0))), (0, .ref (q 0)), (1, .int (nI (j))), (2, .int (nI (k9))), (3, .int (nI (w0))), (4, .int (nI (μ 0 1)))]) hx hb dX4_flagIf_39 hl (by decide) rfl (fun ls hl => ?_)
  refine lv_aload_n hx hb dX4_flagIf_41 rfl (lv_at hl 1 rfl) ?_
  refine lv_iload hx hb dX4_flagIf_42 (lv_at hl 0 rfl) ?_
  refine wrV1 (v := .int (b2i (true))) (As := [.int (nI (0))]) (rest := []) (n := 1) ⟨hx, hb, hml, hown, htA⟩ (m_fine l D cI cZ sa q μ A (D_addr hD rfl) ) (cwV 1 htA (gdV wd_735 wd_737 wp_9 wd_5 wd_738) rfl rfl rfl (by decide +kernel) ⟨Nat.le_of_ble_eq_true rfl, Nat.le_of_ble_eq_true rfl⟩) hKK hP 0 rfl rfl rfl hl.1 rfl (Nat.le_of_ble_eq_true rfl) dX4_flagIf_44 (Nat.zero_le _) (Nat.zero_le _) hS (fun _ h => h) (fun H1 locs hP1 hz1 hk1 hS => ?_)
  have hP : va_P D vwCl (wM q cI cZ (sv μ 0 2 (0))) H1 := hP1
  generalize H1 = H at hP hS ⊢
  refine b_ifeq (b := true) (tgt := 64) hx hb dX4_flagIf_47 (by decide) (fun c_4 => ?_) (fun c_4 => ?_)
  · exact absurd c_4 (by decide)
  refine lv_aload_n hx hb dX4_flagIf_50 rfl (lv_at hl 1 rfl) ?_
  refine lv_iload_n hx hb dX4_flagIf_51 rfl (lv_at hl 2 rfl) ?_
  refine lv_iload_n hx hb dX4_flagIf_52 rfl (lv_at hl 3 rfl) ?_
  refine lv_iload_n hx hb dX4_flagIf_53 rfl (lv_at hl 4 rfl) ?_
  refine roV1 (v := .int (b2i (false))) (As := [.int (nI (j)), .int (nI (k9)), .int (nI (w0))]) (rest := []) (n := 3) ⟨hx, hb, hml, hown, htA⟩ (m_flags_s l D cI cZ sa q (sv μ 0 2 (0)) j k9 w0 H hP (sv_lt hB (by decide)) hm0 hs9 hm hw hk he) (cwV 3 htA (gdV wd_755 wd_757 wp_12 wd_5 wd_758) rfl rfl rfl (by decide +kernel) ⟨Nat.le_of_ble_eq_true rfl, Nat.le_of_ble_eq_true rfl⟩) hKK hP 0 rfl rfl rfl hl.1 rfl (Nat.le_of_ble_eq_true rfl) dX4_flagIf_54 (Nat.zero_le _) (Nat.zero_le _) ?_
  refine b_ifeq (b := false) (tgt := 64) hx hb dX4_flagIf_57 (by decide) (fun c_5 => ?_) (fun c_5 => ?_)
  rotate_left
  · exact absurd c_5 (by decide)
  refine n_iconst (k := 0) hx hb dX4_flagIf_64 (by decide) ?_
  exact wr_z (v := false) hx hb hr hlocks (rfl) hP hS dX4_flagIf_65
set_option maxHeartbeats 4000000 in
set_option maxRecDepth 100000 in
theorem r_flagIf_d (l : Launch) (D : va_G) (cI cZ : ClassId) (sa : Nat → Nat) (q : Nat → Nat) (μ : ST) (j k9 w0 : Nat) (A : Nat → Prop) (hD : va_D A (wM q cI cZ μ)) (hB : ∀ k i, μ k i < 1073741824) (hm0 : μ 0 0 ≤ 60) (hj : j < μ 0 0) (h6 : μ 6 j = 0) (hm : j < 60) (hs9 : μ 0 1 < 2048) (hw : w0 < 2) (hk9 : k9 < 4) (hk : k9 < 31) (he : hs (μ 3 j) k9 ≠ nb w0) : Met l yX4_flagIf (codeW yX4_flagIf cX4_flagIf 6 (some .boolean)) ({ frames := 2, cells := 0, slots := 0, locals := 47 } : Room) (WrP D cI cZ sa (wM q cI cZ μ) [.ref (q 0), .int (nI (j)), .int (nI (k9)), .int (nI (w0)), .int (nI (μ 0 1))]) (WrQ (some (.int (b2i (true)))) D (wM q cI cZ (fls (sv μ 0 2 0) j k9 w0)) A) 0 0 A := by
  refine Met.ofW (cc := cX4_flagIf) (maxL := 6) (ret := (some .boolean)) (by decide) rfl ?_
  intro p e s m args below meth c s₁ B hml hv
  obtain ⟨rfl, hH, hKK⟩ := hv
  have hx := B.exec
  have hb := B.bytes
  have hr := B.returns
  have htA : ∀ w ∈ WA, w.before _ s = true := fun w h => atoms_spec (ws := (codeW yX4_flagIf cX4_flagIf 6 (some .boolean))) B.pre w (List.mem_cons_of_mem _ h)
  have hown : s.vm.findClass RX4 = some m.cls := findClass_of_methodNamed B.named
  have hlocks := B.notSynchronized
  have hP := hH
  have hS : va_S A s.heap s.heap [] := va_S.rf
  have hl := lv_entry ([.ref (q 0), .int (nI (j)), .int (nI (k9)), .int (nI (w0)), .int (nI (μ 0 1))]) (n := 6) (Nat.le_of_ble_eq_true rfl)
  rw [lg_entry_eq]
  generalize (lg_sl ([.ref (q 0), .int (nI (j)), .int (nI (k9)), .int (nI (w0)), .int (nI (μ 0 1))]) ++ List.replicate (6 - (lg_sl ([.ref (q 0), .int (nI (j)), .int (nI (k9)), .int (nI (w0)), .int (nI (μ 0 1))])).length) Slot.unset).toArray = ls at hl ⊢
  have hl : lv_has ls 6 [(0, .ref (q 0)), (1, .int (nI (j))), (2, .int (nI (k9))), (3, .int (nI (w0))), (4, .int (nI (μ 0 1)))] := hl
  refine lv_aload_n hx hb dX4_flagIf_0 rfl (lv_at hl 0 rfl) ?_
  refine lv_iload_n hx hb dX4_flagIf_1 rfl (lv_at hl 1 rfl) ?_
  refine roV1 (v := .int (b2i (decide (μ 6 j = 0)))) (As := [.int (nI (j))]) (rest := []) (n := 1) ⟨hx, hb, hml, hown, htA⟩ (m_isThere_t l D cI cZ sa q μ j s.heap hP hB hm0 (by omega)) (cwV 1 htA (gdV wd_747 wd_749 wp_11 wd_5 wd_750) rfl rfl rfl (by decide +kernel) ⟨Nat.le_of_ble_eq_true rfl, Nat.le_of_ble_eq_true rfl⟩) hKK hP 0 rfl rfl rfl hl.1 rfl (Nat.le_of_ble_eq_true rfl) dX4_flagIf_2 (Nat.zero_le _) (Nat.zero_le _) ?_
  refine b_ifne (b := decide (μ 6 j = 0)) (tgt := 12) hx hb dX4_flagIf_5 (by decide) (fun c_1 => ?_) (fun c_1 => ?_)
  rotate_left
  · exact absurd (c_1.symm.trans (decide_eq_true h6)) (by decide)
  refine lv_iload_n hx hb dX4_flagIf_12 rfl (lv_at hl 2 rfl) ?_
  refine n_iconst (k := 0) hx hb dX4_flagIf_13 (by decide) ?_
  refine n_iconst (k := 3) hx hb dX4_flagIf_14 (by decide) ?_
  refine roS1 (v := .int (b2i (iw (nI (k9)) (nI (0)) (nI (3))))) (As := [.int (nI (k9)), .int (nI (0)), .int (nI (3))]) (rest := []) (n := 3) ⟨hx, hb, hml, hown, htA⟩ (m_in l D cI cZ sa (nI (k9)) (nI (0)) (nI (3)) s.heap ) (va_cwS 3 htA (gdS wd_732 wd_733 wd_5 wd_734) rfl rfl rfl (by decide +kernel) ⟨Nat.le_of_ble_eq_true rfl, Nat.le_of_ble_eq_true rfl⟩) hKK rfl hl.1 rfl (Nat.le_of_ble_eq_true rfl) dX4_flagIf_15 (Nat.zero_le _) (Nat.zero_le _) ?_
  refine b_ifne (b := iw (nI (k9)) (nI (0)) (nI (3))) (tgt := 25) hx hb dX4_flagIf_18 (by decide) (fun c_2 => ?_) (fun c_2 => ?_)
  rotate_left
  · exact absurd (c_2.symm.trans (iw_n (Nat.zero_le _) (by omega) (by decide))) (by decide)
  refine lv_iload hx hb dX4_flagIf_25 (lv_at hl 4 rfl) ?_
  refine lv_aload_n hx hb dX4_flagIf_27 rfl (lv_at hl 0 rfl) ?_
  refine va_get (D := D) (ci := 4) (v := .int (nI (μ 0 1))) (C := RX4) (T := TX4) (N := 26) hx hb htA uwX4 hown hKK.1 hP 0 rfl rfl 13 (by decide) (htA _ wd_658) (fun _ h9 => h9) rfl dX4_flagIf_28 ?_
  refine n_icmp_eq (x := μ 0 1) (y := μ 0 1) (tgt := 38) hx hb dX4_flagIf_31 (by decide) (Nat.lt_trans (hB 0 1) (by decide)) (Nat.lt_trans (hB 0 1) (by decide)) (fun c_3 => ?_) (fun c_3 => ?_)
  rotate_left
  · exfalso; omega
  refine n_iconst (k := 0) hx hb dX4_flagIf_38 (by decide) ?_
  refine lv_istore (lv' := [(5, .int (nI (0))), (0, .ref (q 0)), (1, .int (nI (j))), (2, .int (nI (k9))), (3, .int (nI (w0))), (4, .int (nI (μ 0 1)))]) hx hb dX4_flagIf_39 hl (by decide) rfl (fun ls hl => ?_)
  refine lv_aload_n hx hb dX4_flagIf_41 rfl (lv_at hl 1 rfl) ?_
  refine lv_iload hx hb dX4_flagIf_42 (lv_at hl 0 rfl) ?_
  refine wrV1 (v := .int (b2i (true))) (As := [.int (nI (0))]) (rest := []) (n := 1) ⟨hx, hb, hml, hown, htA⟩ (m_fine l D cI cZ sa q μ A (D_addr hD rfl) ) (cwV 1 htA (gdV wd_735 wd_737 wp_9 wd_5 wd_738) rfl rfl rfl (by decide +kernel) ⟨Nat.le_of_ble_eq_true rfl, Nat.le_of_ble_eq_true rfl⟩) hKK hP 0 rfl rfl rfl hl.1 rfl (Nat.le_of_ble_eq_true rfl) dX4_flagIf_44 (Nat.zero_le _) (Nat.zero_le _) hS (fun _ h => h) (fun H1 locs hP1 hz1 hk1 hS => ?_)
  have hP : va_P D vwCl (wM q cI cZ (sv μ 0 2 (0))) H1 := hP1
  generalize H1 = H at hP hS ⊢
  refine b_ifeq (b := true) (tgt := 64) hx hb dX4_flagIf_47 (by decide) (fun c_4 => ?_) (fun c_4 => ?_)
  · exact absurd c_4 (by decide)
  refine lv_aload_n hx hb dX4_flagIf_50 rfl (lv_at hl 1 rfl) ?_
  refine lv_iload_n hx hb dX4_flagIf_51 rfl (lv_at hl 2 rfl) ?_
  refine lv_iload_n hx hb dX4_flagIf_52 rfl (lv_at hl 3 rfl) ?_
  refine lv_iload_n hx hb dX4_flagIf_53 rfl (lv_at hl 4 rfl) ?_
  refine wrV1 (v := .int (b2i (true))) (As := [.int (nI (j)), .int (nI (k9)), .int (nI (w0))]) (rest := []) (n := 3) ⟨hx, hb, hml, hown, htA⟩ (m_flags_d l D cI cZ sa q (sv μ 0 2 (0)) j k9 w0 A (D_addr hD rfl) (sv_lt hB (by decide)) hm0 hs9 hm hw hk he) (cwV 3 htA (gdV wd_755 wd_757 wp_12 wd_5 wd_758) rfl rfl rfl (by decide +kernel) ⟨Nat.le_of_ble_eq_true rfl, Nat.le_of_ble_eq_true rfl⟩) hKK hP 0 rfl rfl rfl hl.1 rfl (Nat.le_of_ble_eq_true rfl) dX4_flagIf_54 (Nat.zero_le _) (Nat.zero_le _) hS (fun _ h => h) (fun H1 locs hP1 hz1 hk1 hS => ?_)
  have hP : va_P D vwCl (wM q cI cZ (fls (sv μ 0 2 (0)) j k9 w0)) H1 := hP1
  generalize H1 = H at hP hS ⊢
  refine b_ifeq (b := true) (tgt := 64) hx hb dX4_flagIf_57 (by decide) (fun c_5 => ?_) (fun c_5 => ?_)
  · exact absurd c_5 (by decide)
  refine n_iconst (k := 1) hx hb dX4_flagIf_60 (by decide) ?_
  refine lv_goto (tgt := 65) hx hb dX4_flagIf_61 (by decide) ?_
  exact wr_z (v := true) hx hb hr hlocks (rfl) hP hS dX4_flagIf_65
set_option maxHeartbeats 4000000 in
set_option maxRecDepth 100000 in
theorem r_destroy_nr (l : Launch) (D : va_G) (cI cZ : ClassId) (sa : Nat → Nat) (q : Nat → Nat) (μ : ST) (x : Int32) (A : Nat → Prop) (hD : va_D A (wM q cI cZ μ)) (hx9 : iw (x) (nI (0)) (oi (μ 0 0)) = false) : Met l yX4_destroy (codeW yX4_destroy cX4_destroy 2 (some .int)) ({ frames := 2, cells := 0, slots := 0, locals := 43 } : Room) (WrP D cI cZ sa (wM q cI cZ μ) [.ref (q 0), .int (x)]) (WrQ (some (.int (nI (0)))) D (wM q cI cZ (sv μ 0 2 1)) A) 0 0 A := by
  refine Met.ofW (cc := cX4_destroy) (maxL := 2) (ret := (some .int)) (by decide) rfl ?_
  intro p e s m args below meth c s₁ B hml hv
  obtain ⟨rfl, hH, hKK⟩ := hv
  have hx := B.exec
  have hb := B.bytes
  have hr := B.returns
  have htA : ∀ w ∈ WA, w.before _ s = true := fun w h => atoms_spec (ws := (codeW yX4_destroy cX4_destroy 2 (some .int))) B.pre w (List.mem_cons_of_mem _ h)
  have hown : s.vm.findClass RX4 = some m.cls := findClass_of_methodNamed B.named
  have hlocks := B.notSynchronized
  have hP := hH
  have hS : va_S A s.heap s.heap [] := va_S.rf
  have hl := lv_entry ([.ref (q 0), .int (x)]) (n := 2) (Nat.le_of_ble_eq_true rfl)
  rw [lg_entry_eq]
  generalize (lg_sl ([.ref (q 0), .int (x)]) ++ List.replicate (2 - (lg_sl ([.ref (q 0), .int (x)])).length) Slot.unset).toArray = ls at hl ⊢
  have hl : lv_has ls 2 [(0, .ref (q 0)), (1, .int (x))] := hl
  refine lv_aload_n hx hb dX4_destroy_0 rfl (lv_at hl 0 rfl) ?_
  refine lv_aload_n hx hb dX4_destroy_1 rfl (lv_at hl 0 rfl) ?_
  refine lv_iload_n hx hb dX4_destroy_2 rfl (lv_at hl 1 rfl) ?_
  refine roV1 (v := .int (b2i (false))) (As := [.int (x)]) (rest := [.ref (q 0)]) (n := 1) ⟨hx, hb, hml, hown, htA⟩ (m_isThere_f l D cI cZ sa q μ (x) s.heap hP hx9) (cwV 1 htA (gdV wd_747 wd_749 wp_11 wd_5 wd_750) rfl rfl rfl (by decide +kernel) ⟨Nat.le_of_ble_eq_true rfl, Nat.le_of_ble_eq_true rfl⟩) hKK hP 0 rfl rfl rfl hl.1 rfl (Nat.le_of_ble_eq_true rfl) dX4_destroy_3 (Nat.zero_le _) (Nat.zero_le _) ?_
  refine b_ifeq (b := false) (tgt := 13) hx hb dX4_destroy_6 (by decide) (fun c_1 => ?_) (fun c_1 => ?_)
  rotate_left
  · exact absurd c_1 (by decide)
  refine n_iconst (k := 1) hx hb dX4_destroy_13 (by decide) ?_
  refine wrV1 (v := .int (b2i (false))) (As := [.int (nI (1))]) (rest := []) (n := 1) ⟨hx, hb, hml, hown, htA⟩ (m_unfine l D cI cZ sa q μ 1 A (D_addr hD rfl) (by decide) (by decide)) (cwV 1 htA (gdV wd_735 wd_737 wp_9 wd_5 wd_738) rfl rfl rfl (by decide +kernel) ⟨Nat.le_of_ble_eq_true rfl, Nat.le_of_ble_eq_true rfl⟩) hKK hP 0 rfl rfl rfl hl.1 rfl (Nat.le_of_ble_eq_true rfl) dX4_destroy_14 (Nat.zero_le _) (Nat.zero_le _) hS (fun _ h => h) (fun H1 locs hP1 hz1 hk1 hS => ?_)
  have hP : va_P D vwCl (wM q cI cZ (sv μ 0 2 (1))) H1 := hP1
  generalize H1 = H at hP hS ⊢
  refine b_ifne (b := false) (tgt := 22) hx hb dX4_destroy_17 (by decide) (fun c_2 => ?_) (fun c_2 => ?_)
  · exact absurd c_2 (by decide)
  refine n_iconst (k := 0) hx hb dX4_destroy_20 (by decide) ?_
  exact wr_i hx hb hr hlocks (rfl) hP hS dX4_destroy_21
set_option maxHeartbeats 4000000 in
set_option maxRecDepth 100000 in
theorem r_destroy_nz (l : Launch) (D : va_G) (cI cZ : ClassId) (sa : Nat → Nat) (q : Nat → Nat) (μ : ST) (j : Nat) (A : Nat → Prop) (hD : va_D A (wM q cI cZ μ)) (hB : ∀ k i, μ k i < 1073741824) (hm0 : μ 0 0 ≤ 60) (hj : j < μ 0 0) (h6 : μ 6 j ≠ 0) : Met l yX4_destroy (codeW yX4_destroy cX4_destroy 2 (some .int)) ({ frames := 2, cells := 0, slots := 0, locals := 43 } : Room) (WrP D cI cZ sa (wM q cI cZ μ) [.ref (q 0), .int (nI (j))]) (WrQ (some (.int (nI (0)))) D (wM q cI cZ (sv μ 0 2 1)) A) 0 0 A := by
  refine Met.ofW (cc := cX4_destroy) (maxL := 2) (ret := (some .int)) (by decide) rfl ?_
  intro p e s m args below meth c s₁ B hml hv
  obtain ⟨rfl, hH, hKK⟩ := hv
  have hx := B.exec
  have hb := B.bytes
  have hr := B.returns
  have htA : ∀ w ∈ WA, w.before _ s = true := fun w h => atoms_spec (ws := (codeW yX4_destroy cX4_destroy 2 (some .int))) B.pre w (List.mem_cons_of_mem _ h)
  have hown : s.vm.findClass RX4 = some m.cls := findClass_of_methodNamed B.named
  have hlocks := B.notSynchronized
  have hP := hH
  have hS : va_S A s.heap s.heap [] := va_S.rf
  have hl := lv_entry ([.ref (q 0), .int (nI (j))]) (n := 2) (Nat.le_of_ble_eq_true rfl)
  rw [lg_entry_eq]
  generalize (lg_sl ([.ref (q 0), .int (nI (j))]) ++ List.replicate (2 - (lg_sl ([.ref (q 0), .int (nI (j))])).length) Slot.unset).toArray = ls at hl ⊢
  have hl : lv_has ls 2 [(0, .ref (q 0)), (1, .int (nI (j)))] := hl
  refine lv_aload_n hx hb dX4_destroy_0 rfl (lv_at hl 0 rfl) ?_
  refine lv_aload_n hx hb dX4_destroy_1 rfl (lv_at hl 0 rfl) ?_
  refine lv_iload_n hx hb dX4_destroy_2 rfl (lv_at hl 1 rfl) ?_
  refine roV1 (v := .int (b2i (decide (μ 6 j = 0)))) (As := [.int (nI (j))]) (rest := [.ref (q 0)]) (n := 1) ⟨hx, hb, hml, hown, htA⟩ (m_isThere_t l D cI cZ sa q μ j s.heap hP hB hm0 (by omega)) (cwV 1 htA (gdV wd_747 wd_749 wp_11 wd_5 wd_750) rfl rfl rfl (by decide +kernel) ⟨Nat.le_of_ble_eq_true rfl, Nat.le_of_ble_eq_true rfl⟩) hKK hP 0 rfl rfl rfl hl.1 rfl (Nat.le_of_ble_eq_true rfl) dX4_destroy_3 (Nat.zero_le _) (Nat.zero_le _) ?_
  refine b_ifeq (b := decide (μ 6 j = 0)) (tgt := 13) hx hb dX4_destroy_6 (by decide) (fun c_1 => ?_) (fun c_1 => ?_)
  rotate_left
  · exact absurd (c_1.symm.trans (decide_eq_false h6)) (by decide)
  refine n_iconst (k := 1) hx hb dX4_destroy_13 (by decide) ?_
  refine wrV1 (v := .int (b2i (false))) (As := [.int (nI (1))]) (rest := []) (n := 1) ⟨hx, hb, hml, hown, htA⟩ (m_unfine l D cI cZ sa q μ 1 A (D_addr hD rfl) (by decide) (by decide)) (cwV 1 htA (gdV wd_735 wd_737 wp_9 wd_5 wd_738) rfl rfl rfl (by decide +kernel) ⟨Nat.le_of_ble_eq_true rfl, Nat.le_of_ble_eq_true rfl⟩) hKK hP 0 rfl rfl rfl hl.1 rfl (Nat.le_of_ble_eq_true rfl) dX4_destroy_14 (Nat.zero_le _) (Nat.zero_le _) hS (fun _ h => h) (fun H1 locs hP1 hz1 hk1 hS => ?_)
  have hP : va_P D vwCl (wM q cI cZ (sv μ 0 2 (1))) H1 := hP1
  generalize H1 = H at hP hS ⊢
  refine b_ifne (b := false) (tgt := 22) hx hb dX4_destroy_17 (by decide) (fun c_2 => ?_) (fun c_2 => ?_)
  · exact absurd c_2 (by decide)
  refine n_iconst (k := 0) hx hb dX4_destroy_20 (by decide) ?_
  exact wr_i hx hb hr hlocks (rfl) hP hS dX4_destroy_21
set_option maxHeartbeats 4000000 in
set_option maxRecDepth 100000 in
theorem r_destroy_ok (l : Launch) (D : va_G) (cI cZ : ClassId) (sa : Nat → Nat) (q : Nat → Nat) (μ : ST) (j : Nat) (A : Nat → Prop) (hD : va_D A (wM q cI cZ μ)) (hB : ∀ k i, μ k i < 1073741824) (hm0 : μ 0 0 ≤ 60) (hj : j < μ 0 0) (h6 : μ 6 j = 0) (hm : j < 60) (hs9 : μ 0 1 < 2048) : Met l yX4_destroy (codeW yX4_destroy cX4_destroy 2 (some .int)) ({ frames := 2, cells := 0, slots := 0, locals := 43 } : Room) (WrP D cI cZ sa (wM q cI cZ μ) [.ref (q 0), .int (nI (j))]) (WrQ (some (.int (nI (μ 0 1 + 1)))) D (wM q cI cZ (su (nts (sv μ 0 2 0) 3 j 0 0) 6 (upN (μ 6) j (μ 0 1 + 1)))) A) 0 0 A := by
  refine Met.ofW (cc := cX4_destroy) (maxL := 2) (ret := (some .int)) (by decide) rfl ?_
  intro p e s m args below meth c s₁ B hml hv
  obtain ⟨rfl, hH, hKK⟩ := hv
  have hx := B.exec
  have hb := B.bytes
  have hr := B.returns
  have htA : ∀ w ∈ WA, w.before _ s = true := fun w h => atoms_spec (ws := (codeW yX4_destroy cX4_destroy 2 (some .int))) B.pre w (List.mem_cons_of_mem _ h)
  have hown : s.vm.findClass RX4 = some m.cls := findClass_of_methodNamed B.named
  have hlocks := B.notSynchronized
  have hP := hH
  have hS : va_S A s.heap s.heap [] := va_S.rf
  have hl := lv_entry ([.ref (q 0), .int (nI (j))]) (n := 2) (Nat.le_of_ble_eq_true rfl)
  rw [lg_entry_eq]
  generalize (lg_sl ([.ref (q 0), .int (nI (j))]) ++ List.replicate (2 - (lg_sl ([.ref (q 0), .int (nI (j))])).length) Slot.unset).toArray = ls at hl ⊢
  have hl : lv_has ls 2 [(0, .ref (q 0)), (1, .int (nI (j)))] := hl
  refine lv_aload_n hx hb dX4_destroy_0 rfl (lv_at hl 0 rfl) ?_
  refine lv_aload_n hx hb dX4_destroy_1 rfl (lv_at hl 0 rfl) ?_
  refine lv_iload_n hx hb dX4_destroy_2 rfl (lv_at hl 1 rfl) ?_
  refine roV1 (v := .int (b2i (decide (μ 6 j = 0)))) (As := [.int (nI (j))]) (rest := [.ref (q 0)]) (n := 1) ⟨hx, hb, hml, hown, htA⟩ (m_isThere_t l D cI cZ sa q μ j s.heap hP hB hm0 (by omega)) (cwV 1 htA (gdV wd_747 wd_749 wp_11 wd_5 wd_750) rfl rfl rfl (by decide +kernel) ⟨Nat.le_of_ble_eq_true rfl, Nat.le_of_ble_eq_true rfl⟩) hKK hP 0 rfl rfl rfl hl.1 rfl (Nat.le_of_ble_eq_true rfl) dX4_destroy_3 (Nat.zero_le _) (Nat.zero_le _) ?_
  refine b_ifeq (b := decide (μ 6 j = 0)) (tgt := 13) hx hb dX4_destroy_6 (by decide) (fun c_1 => ?_) (fun c_1 => ?_)
  · exact absurd (c_1.symm.trans (decide_eq_true h6)) (by decide)
  refine n_iconst (k := 0) hx hb dX4_destroy_9 (by decide) ?_
  refine lv_goto (tgt := 14) hx hb dX4_destroy_10 (by decide) ?_
  refine wrV1 (v := .int (b2i (true))) (As := [.int (nI (0))]) (rest := []) (n := 1) ⟨hx, hb, hml, hown, htA⟩ (m_fine l D cI cZ sa q μ A (D_addr hD rfl) ) (cwV 1 htA (gdV wd_735 wd_737 wp_9 wd_5 wd_738) rfl rfl rfl (by decide +kernel) ⟨Nat.le_of_ble_eq_true rfl, Nat.le_of_ble_eq_true rfl⟩) hKK hP 0 rfl rfl rfl hl.1 rfl (Nat.le_of_ble_eq_true rfl) dX4_destroy_14 (Nat.zero_le _) (Nat.zero_le _) hS (fun _ h => h) (fun H1 locs hP1 hz1 hk1 hS => ?_)
  have hP : va_P D vwCl (wM q cI cZ (sv μ 0 2 (0))) H1 := hP1
  generalize H1 = H at hP hS ⊢
  refine b_ifne (b := true) (tgt := 22) hx hb dX4_destroy_17 (by decide) (fun c_2 => ?_) (fun c_2 => ?_)
  rotate_left
  · exact absurd c_2 (by decide)
  refine lv_aload_n hx hb dX4_destroy_22 rfl (lv_at hl 0 rfl) ?_
  refine n_iconst (k := 3) hx hb dX4_destroy_23 (by decide) ?_
  refine lv_iload_n hx hb dX4_destroy_24 rfl (lv_at hl 1 rfl) ?_
  refine lv_iconst (v := oi 0) hx hb dX4_destroy_25 (by decide) ?_
  refine n_iconst (k := 0) hx hb dX4_destroy_26 (by decide) ?_
  refine wrV0 (As := [.int (nI (3)), .int (nI (j)), .int (oi (0)), .int (nI (0))]) (rest := []) (n := 4) ⟨hx, hb, hml, hown, htA⟩ (m_notes l D cI cZ sa q (sv μ 0 2 (0)) 3 j 0 0 A (D_addr hD rfl) (sv_lt hB (by decide)) hm0 hs9 hm (by omega)) (cwV 4 htA (gdV wd_739 wd_741 wp_10 wd_5 wd_742) rfl rfl rfl (by decide +kernel) ⟨Nat.le_of_ble_eq_true rfl, Nat.le_of_ble_eq_true rfl⟩) hKK hP 0 rfl rfl rfl hl.1 rfl (Nat.le_of_ble_eq_true rfl) dX4_destroy_27 (Nat.zero_le _) (Nat.zero_le _) hS (fun _ h => h) (fun H1 locs hP1 hz1 hk1 hS => ?_)
  have hP : va_P D vwCl (wM q cI cZ (nts (sv μ 0 2 (0)) 3 j 0 0)) H1 := hP1
  generalize H1 = H at hP hS ⊢
  refine lv_aload_n hx hb dX4_destroy_30 rfl (lv_at hl 0 rfl) ?_
  refine va_get (D := D) (ci := 4) (v := .ref (q 6)) (C := RX4) (T := TX4) (N := 26) hx hb htA uwX4 hown hKK.1 hP 0 rfl rfl 5 (by decide) (htA _ wd_650) (fun _ h9 => h9) rfl dX4_destroy_31 ?_
  refine lv_iload_n hx hb dX4_destroy_34 rfl (lv_at hl 1 rfl) ?_
  refine lv_aload_n hx hb dX4_destroy_35 rfl (lv_at hl 0 rfl) ?_
  refine va_get (D := D) (ci := 4) (v := .int (nI ((nts (sv μ 0 2 (0)) 3 j 0 0) 0 1))) (C := RX4) (T := TX4) (N := 26) hx hb htA uwX4 hown hKK.1 hP 0 rfl rfl 13 (by decide) (htA _ wd_658) (fun _ h9 => h9) rfl dX4_destroy_36 ?_
  refine n_iast (g := (nts (sv μ 0 2 (0)) 3 j 0 0) 6) (cA := cI) (n := 60) (j := j) (v := (nts (sv μ 0 2 (0)) 3 j 0 0) 0 1) hx hb hKK.1 hP (D_addr hD rfl) hS 6 0 rfl rfl (by omega) (Nat.le_of_ble_eq_true rfl) dX4_destroy_39 (fun H locs hP hS => ?_)
  have hP : va_P D vwCl (wM q cI cZ (su ((nts (sv μ 0 2 (0)) 3 j 0 0)) 6 (upN ((nts (sv μ 0 2 (0)) 3 j 0 0) 6) (j) ((nts (sv μ 0 2 (0)) 3 j 0 0) 0 1)))) H := hP
  refine lv_aload_n hx hb dX4_destroy_40 rfl (lv_at hl 0 rfl) ?_
  refine va_get (D := D) (ci := 4) (v := .int (nI ((nts (sv μ 0 2 (0)) 3 j 0 0) 0 1))) (C := RX4) (T := TX4) (N := 26) hx hb htA uwX4 hown hKK.1 hP 0 rfl rfl 13 (by decide) (htA _ wd_658) (fun _ h9 => h9) rfl dX4_destroy_41 ?_
  exact wr_i hx hb hr hlocks (rfl) hP hS dX4_destroy_44
set_option maxHeartbeats 4000000 in
set_option maxRecDepth 100000 in
theorem r_state (l : Launch) (D : va_G) (cI cZ : ClassId) (sa : Nat → Nat) (q : Nat → Nat) (μ : ST)  (A : Nat → Prop) (hD : va_D A (wM q cI cZ μ))  : Met l yX4_state (codeW yX4_state cX4_state 1 (some .int)) ({ frames := 0, cells := 0, slots := 0, locals := 0 } : Room) (WrP D cI cZ sa (wM q cI cZ μ) [.ref (q 0)]) (WrQ (some (.int (nI (μ 0 1)))) D (wM q cI cZ (sv μ 0 2 0)) A) 0 0 A := by
  refine Met.ofW (cc := cX4_state) (maxL := 1) (ret := (some .int)) (by decide) rfl ?_
  intro p e s m args below meth c s₁ B hml hv
  obtain ⟨rfl, hH, hKK⟩ := hv
  have hx := B.exec
  have hb := B.bytes
  have hr := B.returns
  have htA : ∀ w ∈ WA, w.before _ s = true := fun w h => atoms_spec (ws := (codeW yX4_state cX4_state 1 (some .int))) B.pre w (List.mem_cons_of_mem _ h)
  have hown : s.vm.findClass RX4 = some m.cls := findClass_of_methodNamed B.named
  have hlocks := B.notSynchronized
  have hP := hH
  have hS : va_S A s.heap s.heap [] := va_S.rf
  have hl := lv_entry ([.ref (q 0)]) (n := 1) (Nat.le_of_ble_eq_true rfl)
  rw [lg_entry_eq]
  generalize (lg_sl ([.ref (q 0)]) ++ List.replicate (1 - (lg_sl ([.ref (q 0)])).length) Slot.unset).toArray = ls at hl ⊢
  have hl : lv_has ls 1 [(0, .ref (q 0))] := hl
  refine lv_aload_n hx hb dX4_state_0 rfl (lv_at hl 0 rfl) ?_
  refine n_iconst (k := 0) hx hb dX4_state_1 (by decide) ?_
  refine va_put (D := D) (ci := 4) (v := .int (nI (0))) (ty := .int) (C := RX4) (T := TX4) (N := 26) hx hb htA uwX4 tyX4 tyX4_ok nmX4 hown hKK.1 hP (D_addr hD rfl) hS 0 rfl rfl 25 (by decide) (htA _ wd_670) (fun _ h9 => h9) rfl (by decide +kernel) rfl rfl (Nat.le_of_ble_eq_true rfl) dX4_state_2 (fun H locs hP _ hS => ?_)
  have hP : va_P D vwCl (wM q cI cZ (sv μ 0 2 (0))) H := hP
  refine lv_aload_n hx hb dX4_state_5 rfl (lv_at hl 0 rfl) ?_
  refine va_get (D := D) (ci := 4) (v := .int (nI (μ 0 1))) (C := RX4) (T := TX4) (N := 26) hx hb htA uwX4 hown hKK.1 hP 0 rfl rfl 13 (by decide) (htA _ wd_658) (fun _ h9 => h9) rfl dX4_state_6 ?_
  exact wr_i hx hb hr hlocks (rfl) hP hS dX4_state_9
set_option maxHeartbeats 4000000 in
set_option maxRecDepth 100000 in
theorem r_mails (l : Launch) (D : va_G) (cI cZ : ClassId) (sa : Nat → Nat) (q : Nat → Nat) (μ : ST)  (A : Nat → Prop) (hD : va_D A (wM q cI cZ μ)) (hB : ∀ k i, μ k i < 1073741824) (hm0 : μ 0 0 ≤ 60) : Met l yX4_mails (codeW yX4_mails cX4_mails 3 (some .int)) ({ frames := 0, cells := 0, slots := 0, locals := 0 } : Room) (WrP D cI cZ sa (wM q cI cZ μ) [.ref (q 0)]) (WrQ (some (.int (nI (cnt (fun m9 => decide (μ 6 m9 = 0)) (μ 0 0))))) D (wM q cI cZ (sv μ 0 2 0)) A) 0 0 A := by
  refine Met.ofW (cc := cX4_mails) (maxL := 3) (ret := (some .int)) (by decide) rfl ?_
  intro p e s m args below meth c s₁ B hml hv
  obtain ⟨rfl, hH, hKK⟩ := hv
  have hx := B.exec
  have hb := B.bytes
  have hr := B.returns
  have htA : ∀ w ∈ WA, w.before _ s = true := fun w h => atoms_spec (ws := (codeW yX4_mails cX4_mails 3 (some .int))) B.pre w (List.mem_cons_of_mem _ h)
  have hown : s.vm.findClass RX4 = some m.cls := findClass_of_methodNamed B.named
  have hlocks := B.notSynchronized
  have hP := hH
  have hS : va_S A s.heap s.heap [] := va_S.rf
  have hl := lv_entry ([.ref (q 0)]) (n := 3) (Nat.le_of_ble_eq_true rfl)
  rw [lg_entry_eq]
  generalize (lg_sl ([.ref (q 0)]) ++ List.replicate (3 - (lg_sl ([.ref (q 0)])).length) Slot.unset).toArray = ls at hl ⊢
  have hl : lv_has ls 3 [(0, .ref (q 0))] := hl
  refine lv_aload_n hx hb dX4_mails_0 rfl (lv_at hl 0 rfl) ?_
  refine n_iconst (k := 0) hx hb dX4_mails_1 (by decide) ?_
  refine va_put (D := D) (ci := 4) (v := .int (nI (0))) (ty := .int) (C := RX4) (T := TX4) (N := 26) hx hb htA uwX4 tyX4 tyX4_ok nmX4 hown hKK.1 hP (D_addr hD rfl) hS 0 rfl rfl 25 (by decide) (htA _ wd_670) (fun _ h9 => h9) rfl (by decide +kernel) rfl rfl (Nat.le_of_ble_eq_true rfl) dX4_mails_2 (fun H locs hP _ hS => ?_)
  have hP : va_P D vwCl (wM q cI cZ (sv μ 0 2 (0))) H := hP
  refine n_iconst (k := 0) hx hb dX4_mails_5 (by decide) ?_
  refine lv_istore_n (lv' := [(1, .int (nI (0))), (0, .ref (q 0))]) hx hb dX4_mails_6 rfl hl (by decide) rfl (fun ls hl => ?_)
  refine n_iconst (k := 0) hx hb dX4_mails_7 (by decide) ?_
  refine lv_istore_n (lv' := [(2, .int (nI (0))), (1, .int (nI (0))), (0, .ref (q 0))]) hx hb dX4_mails_8 rfl hl (by decide) rfl (fun ls hl => ?_)
  have loop_9 : ∀ (n : Nat) (i : Nat) (H : Heap) (locs : List Loc), (i + n = μ 0 0) → va_P D vwCl (wM q cI cZ (sv μ 0 2 (0))) H → va_S A s.heap H locs → ∀ (ls : Array Slot), lv_has ls 3 [(0, .ref (q 0)), (1, .int (nI (cnt (fun m9 => decide (μ 6 m9 = 0)) i))), (2, .int (nI (i)))] → W p l e (headSpec (codeW yX4_mails cX4_mails 3 (some .int)) ({ frames := 0, cells := 0, slots := 0, locals := 0 } : Room)).room s m ([.ref (q 0)] : List Value).toArray below meth c H locs 0 0 (MQ below (WrQ (some (.int (nI (cnt (fun m9 => decide (μ 6 m9 = 0)) (μ 0 0))))) D (wM q cI cZ (sv μ 0 2 0)) A) ([.ref (q 0)] : List Value).toArray s 0 0 A) (F0 m 9 ls []) := by
    intro n
    induction n with
    | zero =>
      intro i H locs hin hP hS ls hl
      refine lv_iload_n hx hb dX4_mails_9 rfl (lv_at hl 2 rfl) ?_
      refine lv_aload_n hx hb dX4_mails_10 rfl (lv_at hl 0 rfl) ?_
      refine va_get (D := D) (ci := 4) (v := .int (nI (μ 0 0))) (C := RX4) (T := TX4) (N := 26) hx hb htA uwX4 hown hKK.1 hP 0 rfl rfl 6 (by decide) (htA _ wd_651) (fun _ h9 => h9) rfl dX4_mails_11 ?_
      refine n_icmp_ge (x := i) (y := μ 0 0) (tgt := 40) hx hb dX4_mails_14 (by decide) (by omega) (Nat.lt_trans (hB 0 0) (by decide)) (fun c_1 => ?_) (fun c_1 => ?_)
      rotate_left
      · exfalso; omega
      refine lv_iload_n hx hb dX4_mails_40 rfl (lv_at hl 1 rfl) ?_
      exact wr_i hx hb hr hlocks (by rw [show i = μ 0 0 by omega]) hP hS dX4_mails_41
    | succ n ih =>
      intro i H locs hin hP hS ls hl
      refine lv_iload_n hx hb dX4_mails_9 rfl (lv_at hl 2 rfl) ?_
      refine lv_aload_n hx hb dX4_mails_10 rfl (lv_at hl 0 rfl) ?_
      refine va_get (D := D) (ci := 4) (v := .int (nI (μ 0 0))) (C := RX4) (T := TX4) (N := 26) hx hb htA uwX4 hown hKK.1 hP 0 rfl rfl 6 (by decide) (htA _ wd_651) (fun _ h9 => h9) rfl dX4_mails_11 ?_
      refine n_icmp_ge (x := i) (y := μ 0 0) (tgt := 40) hx hb dX4_mails_14 (by decide) (by omega) (Nat.lt_trans (hB 0 0) (by decide)) (fun c_2 => ?_) (fun c_2 => ?_)
      · exfalso; omega
      refine lv_iload_n hx hb dX4_mails_17 rfl (lv_at hl 1 rfl) ?_
      refine lv_aload_n hx hb dX4_mails_18 rfl (lv_at hl 0 rfl) ?_
      refine va_get (D := D) (ci := 4) (v := .ref (q 6)) (C := RX4) (T := TX4) (N := 26) hx hb htA uwX4 hown hKK.1 hP 0 rfl rfl 5 (by decide) (htA _ wd_650) (fun _ h9 => h9) rfl dX4_mails_19 ?_
      refine lv_iload_n hx hb dX4_mails_22 rfl (lv_at hl 2 rfl) ?_
      refine n_iald (g := μ 6) (cA := cI) (n := 60) (j := i) hx hb hKK.1 hP 6 0 rfl rfl (by omega) (Nat.le_of_ble_eq_true rfl) dX4_mails_23 ?_
      refine n_ifne (x := μ 6 i) (tgt := 31) hx hb dX4_mails_24 (by decide) (Nat.lt_trans (hB 6 i) (by decide)) (fun c_3 => ?_) (fun c_3 => ?_)
      · refine n_iconst (k := 0) hx hb dX4_mails_31 (by decide) ?_
        refine n_iadd hx hb dX4_mails_32 ?_
        refine lv_istore_n (lv' := [(1, .int (nI ((cnt (fun m9 => decide (μ 6 m9 = 0)) i) + 0))), (0, .ref (q 0)), (2, .int (nI (i)))]) hx hb dX4_mails_33 rfl hl (by decide) rfl (fun ls hl => ?_)
        refine lv_iinc (v := nI (i + 1)) (lv' := [(2, .int (nI (i + 1))), (1, .int (nI ((cnt (fun m9 => decide (μ 6 m9 = 0)) i) + 0))), (0, .ref (q 0))]) hx hb dX4_mails_34 hl (k := 2) rfl (n_inc (i) 1 rfl) (by decide) rfl (fun ls hl => ?_)
        refine lv_goto (tgt := 9) hx hb dX4_mails_37 (by decide) ?_
        have e : cnt (fun m9 => decide (μ 6 m9 = 0)) i = cnt (fun m9 => decide (μ 6 m9 = 0)) (i + 1) := cnt_f (by simp [c_2, c_3])
        have hl : lv_has ls _ _ := hl
        rw [e] at hl
        exact ih (i + 1) _ _ (by omega) hP hS ls (lv_sub hl [2, 1, 0] rfl)
      · refine n_iconst (k := 1) hx hb dX4_mails_27 (by decide) ?_
        refine lv_goto (tgt := 32) hx hb dX4_mails_28 (by decide) ?_
        refine n_iadd hx hb dX4_mails_32 ?_
        refine lv_istore_n (lv' := [(1, .int (nI ((cnt (fun m9 => decide (μ 6 m9 = 0)) i) + 1))), (0, .ref (q 0)), (2, .int (nI (i)))]) hx hb dX4_mails_33 rfl hl (by decide) rfl (fun ls hl => ?_)
        refine lv_iinc (v := nI (i + 1)) (lv' := [(2, .int (nI (i + 1))), (1, .int (nI ((cnt (fun m9 => decide (μ 6 m9 = 0)) i) + 1))), (0, .ref (q 0))]) hx hb dX4_mails_34 hl (k := 2) rfl (n_inc (i) 1 rfl) (by decide) rfl (fun ls hl => ?_)
        refine lv_goto (tgt := 9) hx hb dX4_mails_37 (by decide) ?_
        have e : cnt (fun m9 => decide (μ 6 m9 = 0)) i + 1 = cnt (fun m9 => decide (μ 6 m9 = 0)) (i + 1) := cnt_t (by simp [c_2, c_3])
        rw [e] at hl
        exact ih (i + 1) _ _ (by omega) hP hS ls (lv_sub hl [2, 1, 0] rfl)
  exact loop_9 (μ 0 0) 0 _ _ (by omega) hP hS ls (lv_sub hl [2, 1, 0] rfl)
set_option maxHeartbeats 4000000 in
set_option maxRecDepth 100000 in
theorem r_keywords_nr (l : Launch) (D : va_G) (cI cZ : ClassId) (sa : Nat → Nat) (q : Nat → Nat) (μ : ST) (x : Int32) (A : Nat → Prop) (hD : va_D A (wM q cI cZ μ)) (hx9 : iw (x) (nI (0)) (oi (μ 0 0)) = false) : Met l yX4_keywords (codeW yX4_keywords cX4_keywords 2 (some .int)) ({ frames := 2, cells := 0, slots := 0, locals := 43 } : Room) (WrP D cI cZ sa (wM q cI cZ μ) [.ref (q 0), .int (x)]) (WrQ (some (.int (nI (0)))) D (wM q cI cZ (sv μ 0 2 1)) A) 0 0 A := by
  refine Met.ofW (cc := cX4_keywords) (maxL := 2) (ret := (some .int)) (by decide) rfl ?_
  intro p e s m args below meth c s₁ B hml hv
  obtain ⟨rfl, hH, hKK⟩ := hv
  have hx := B.exec
  have hb := B.bytes
  have hr := B.returns
  have htA : ∀ w ∈ WA, w.before _ s = true := fun w h => atoms_spec (ws := (codeW yX4_keywords cX4_keywords 2 (some .int))) B.pre w (List.mem_cons_of_mem _ h)
  have hown : s.vm.findClass RX4 = some m.cls := findClass_of_methodNamed B.named
  have hlocks := B.notSynchronized
  have hP := hH
  have hS : va_S A s.heap s.heap [] := va_S.rf
  have hl := lv_entry ([.ref (q 0), .int (x)]) (n := 2) (Nat.le_of_ble_eq_true rfl)
  rw [lg_entry_eq]
  generalize (lg_sl ([.ref (q 0), .int (x)]) ++ List.replicate (2 - (lg_sl ([.ref (q 0), .int (x)])).length) Slot.unset).toArray = ls at hl ⊢
  have hl : lv_has ls 2 [(0, .ref (q 0)), (1, .int (x))] := hl
  refine lv_aload_n hx hb dX4_keywords_0 rfl (lv_at hl 0 rfl) ?_
  refine lv_aload_n hx hb dX4_keywords_1 rfl (lv_at hl 0 rfl) ?_
  refine lv_iload_n hx hb dX4_keywords_2 rfl (lv_at hl 1 rfl) ?_
  refine roV1 (v := .int (b2i (false))) (As := [.int (x)]) (rest := [.ref (q 0)]) (n := 1) ⟨hx, hb, hml, hown, htA⟩ (m_isThere_f l D cI cZ sa q μ (x) s.heap hP hx9) (cwV 1 htA (gdV wd_747 wd_749 wp_11 wd_5 wd_750) rfl rfl rfl (by decide +kernel) ⟨Nat.le_of_ble_eq_true rfl, Nat.le_of_ble_eq_true rfl⟩) hKK hP 0 rfl rfl rfl hl.1 rfl (Nat.le_of_ble_eq_true rfl) dX4_keywords_3 (Nat.zero_le _) (Nat.zero_le _) ?_
  refine b_ifeq (b := false) (tgt := 13) hx hb dX4_keywords_6 (by decide) (fun c_1 => ?_) (fun c_1 => ?_)
  rotate_left
  · exact absurd c_1 (by decide)
  refine n_iconst (k := 1) hx hb dX4_keywords_13 (by decide) ?_
  refine wrV1 (v := .int (b2i (false))) (As := [.int (nI (1))]) (rest := []) (n := 1) ⟨hx, hb, hml, hown, htA⟩ (m_unfine l D cI cZ sa q μ 1 A (D_addr hD rfl) (by decide) (by decide)) (cwV 1 htA (gdV wd_735 wd_737 wp_9 wd_5 wd_738) rfl rfl rfl (by decide +kernel) ⟨Nat.le_of_ble_eq_true rfl, Nat.le_of_ble_eq_true rfl⟩) hKK hP 0 rfl rfl rfl hl.1 rfl (Nat.le_of_ble_eq_true rfl) dX4_keywords_14 (Nat.zero_le _) (Nat.zero_le _) hS (fun _ h => h) (fun H1 locs hP1 hz1 hk1 hS => ?_)
  have hP : va_P D vwCl (wM q cI cZ (sv μ 0 2 (1))) H1 := hP1
  generalize H1 = H at hP hS ⊢
  refine b_ifeq (b := false) (tgt := 29) hx hb dX4_keywords_17 (by decide) (fun c_2 => ?_) (fun c_2 => ?_)
  rotate_left
  · exact absurd c_2 (by decide)
  refine n_iconst (k := 0) hx hb dX4_keywords_29 (by decide) ?_
  exact wr_i hx hb hr hlocks (rfl) hP hS dX4_keywords_30
set_option maxHeartbeats 4000000 in
set_option maxRecDepth 100000 in
theorem r_keywords_nz (l : Launch) (D : va_G) (cI cZ : ClassId) (sa : Nat → Nat) (q : Nat → Nat) (μ : ST) (j : Nat) (A : Nat → Prop) (hD : va_D A (wM q cI cZ μ)) (hB : ∀ k i, μ k i < 1073741824) (hm0 : μ 0 0 ≤ 60) (hj : j < μ 0 0) (h6 : μ 6 j ≠ 0) : Met l yX4_keywords (codeW yX4_keywords cX4_keywords 2 (some .int)) ({ frames := 2, cells := 0, slots := 0, locals := 43 } : Room) (WrP D cI cZ sa (wM q cI cZ μ) [.ref (q 0), .int (nI (j))]) (WrQ (some (.int (nI (0)))) D (wM q cI cZ (sv μ 0 2 1)) A) 0 0 A := by
  refine Met.ofW (cc := cX4_keywords) (maxL := 2) (ret := (some .int)) (by decide) rfl ?_
  intro p e s m args below meth c s₁ B hml hv
  obtain ⟨rfl, hH, hKK⟩ := hv
  have hx := B.exec
  have hb := B.bytes
  have hr := B.returns
  have htA : ∀ w ∈ WA, w.before _ s = true := fun w h => atoms_spec (ws := (codeW yX4_keywords cX4_keywords 2 (some .int))) B.pre w (List.mem_cons_of_mem _ h)
  have hown : s.vm.findClass RX4 = some m.cls := findClass_of_methodNamed B.named
  have hlocks := B.notSynchronized
  have hP := hH
  have hS : va_S A s.heap s.heap [] := va_S.rf
  have hl := lv_entry ([.ref (q 0), .int (nI (j))]) (n := 2) (Nat.le_of_ble_eq_true rfl)
  rw [lg_entry_eq]
  generalize (lg_sl ([.ref (q 0), .int (nI (j))]) ++ List.replicate (2 - (lg_sl ([.ref (q 0), .int (nI (j))])).length) Slot.unset).toArray = ls at hl ⊢
  have hl : lv_has ls 2 [(0, .ref (q 0)), (1, .int (nI (j)))] := hl
  refine lv_aload_n hx hb dX4_keywords_0 rfl (lv_at hl 0 rfl) ?_
  refine lv_aload_n hx hb dX4_keywords_1 rfl (lv_at hl 0 rfl) ?_
  refine lv_iload_n hx hb dX4_keywords_2 rfl (lv_at hl 1 rfl) ?_
  refine roV1 (v := .int (b2i (decide (μ 6 j = 0)))) (As := [.int (nI (j))]) (rest := [.ref (q 0)]) (n := 1) ⟨hx, hb, hml, hown, htA⟩ (m_isThere_t l D cI cZ sa q μ j s.heap hP hB hm0 (by omega)) (cwV 1 htA (gdV wd_747 wd_749 wp_11 wd_5 wd_750) rfl rfl rfl (by decide +kernel) ⟨Nat.le_of_ble_eq_true rfl, Nat.le_of_ble_eq_true rfl⟩) hKK hP 0 rfl rfl rfl hl.1 rfl (Nat.le_of_ble_eq_true rfl) dX4_keywords_3 (Nat.zero_le _) (Nat.zero_le _) ?_
  refine b_ifeq (b := decide (μ 6 j = 0)) (tgt := 13) hx hb dX4_keywords_6 (by decide) (fun c_1 => ?_) (fun c_1 => ?_)
  rotate_left
  · exact absurd (c_1.symm.trans (decide_eq_false h6)) (by decide)
  refine n_iconst (k := 1) hx hb dX4_keywords_13 (by decide) ?_
  refine wrV1 (v := .int (b2i (false))) (As := [.int (nI (1))]) (rest := []) (n := 1) ⟨hx, hb, hml, hown, htA⟩ (m_unfine l D cI cZ sa q μ 1 A (D_addr hD rfl) (by decide) (by decide)) (cwV 1 htA (gdV wd_735 wd_737 wp_9 wd_5 wd_738) rfl rfl rfl (by decide +kernel) ⟨Nat.le_of_ble_eq_true rfl, Nat.le_of_ble_eq_true rfl⟩) hKK hP 0 rfl rfl rfl hl.1 rfl (Nat.le_of_ble_eq_true rfl) dX4_keywords_14 (Nat.zero_le _) (Nat.zero_le _) hS (fun _ h => h) (fun H1 locs hP1 hz1 hk1 hS => ?_)
  have hP : va_P D vwCl (wM q cI cZ (sv μ 0 2 (1))) H1 := hP1
  generalize H1 = H at hP hS ⊢
  refine b_ifeq (b := false) (tgt := 29) hx hb dX4_keywords_17 (by decide) (fun c_2 => ?_) (fun c_2 => ?_)
  rotate_left
  · exact absurd c_2 (by decide)
  refine n_iconst (k := 0) hx hb dX4_keywords_29 (by decide) ?_
  exact wr_i hx hb hr hlocks (rfl) hP hS dX4_keywords_30
set_option maxHeartbeats 4000000 in
set_option maxRecDepth 100000 in
theorem r_keywords_ok (l : Launch) (D : va_G) (cI cZ : ClassId) (sa : Nat → Nat) (q : Nat → Nat) (μ : ST) (j : Nat) (A : Nat → Prop) (hD : va_D A (wM q cI cZ μ)) (hB : ∀ k i, μ k i < 1073741824) (hm0 : μ 0 0 ≤ 60) (hj : j < μ 0 0) (h6 : μ 6 j = 0) (hm : j < 60) : Met l yX4_keywords (codeW yX4_keywords cX4_keywords 2 (some .int)) ({ frames := 2, cells := 0, slots := 0, locals := 43 } : Room) (WrP D cI cZ sa (wM q cI cZ μ) [.ref (q 0), .int (nI (j))]) (WrQ (some (.int (nI (μ 3 j)))) D (wM q cI cZ (sv μ 0 2 0)) A) 0 0 A := by
  refine Met.ofW (cc := cX4_keywords) (maxL := 2) (ret := (some .int)) (by decide) rfl ?_
  intro p e s m args below meth c s₁ B hml hv
  obtain ⟨rfl, hH, hKK⟩ := hv
  have hx := B.exec
  have hb := B.bytes
  have hr := B.returns
  have htA : ∀ w ∈ WA, w.before _ s = true := fun w h => atoms_spec (ws := (codeW yX4_keywords cX4_keywords 2 (some .int))) B.pre w (List.mem_cons_of_mem _ h)
  have hown : s.vm.findClass RX4 = some m.cls := findClass_of_methodNamed B.named
  have hlocks := B.notSynchronized
  have hP := hH
  have hS : va_S A s.heap s.heap [] := va_S.rf
  have hl := lv_entry ([.ref (q 0), .int (nI (j))]) (n := 2) (Nat.le_of_ble_eq_true rfl)
  rw [lg_entry_eq]
  generalize (lg_sl ([.ref (q 0), .int (nI (j))]) ++ List.replicate (2 - (lg_sl ([.ref (q 0), .int (nI (j))])).length) Slot.unset).toArray = ls at hl ⊢
  have hl : lv_has ls 2 [(0, .ref (q 0)), (1, .int (nI (j)))] := hl
  refine lv_aload_n hx hb dX4_keywords_0 rfl (lv_at hl 0 rfl) ?_
  refine lv_aload_n hx hb dX4_keywords_1 rfl (lv_at hl 0 rfl) ?_
  refine lv_iload_n hx hb dX4_keywords_2 rfl (lv_at hl 1 rfl) ?_
  refine roV1 (v := .int (b2i (decide (μ 6 j = 0)))) (As := [.int (nI (j))]) (rest := [.ref (q 0)]) (n := 1) ⟨hx, hb, hml, hown, htA⟩ (m_isThere_t l D cI cZ sa q μ j s.heap hP hB hm0 (by omega)) (cwV 1 htA (gdV wd_747 wd_749 wp_11 wd_5 wd_750) rfl rfl rfl (by decide +kernel) ⟨Nat.le_of_ble_eq_true rfl, Nat.le_of_ble_eq_true rfl⟩) hKK hP 0 rfl rfl rfl hl.1 rfl (Nat.le_of_ble_eq_true rfl) dX4_keywords_3 (Nat.zero_le _) (Nat.zero_le _) ?_
  refine b_ifeq (b := decide (μ 6 j = 0)) (tgt := 13) hx hb dX4_keywords_6 (by decide) (fun c_1 => ?_) (fun c_1 => ?_)
  · exact absurd (c_1.symm.trans (decide_eq_true h6)) (by decide)
  refine n_iconst (k := 0) hx hb dX4_keywords_9 (by decide) ?_
  refine lv_goto (tgt := 14) hx hb dX4_keywords_10 (by decide) ?_
  refine wrV1 (v := .int (b2i (true))) (As := [.int (nI (0))]) (rest := []) (n := 1) ⟨hx, hb, hml, hown, htA⟩ (m_fine l D cI cZ sa q μ A (D_addr hD rfl) ) (cwV 1 htA (gdV wd_735 wd_737 wp_9 wd_5 wd_738) rfl rfl rfl (by decide +kernel) ⟨Nat.le_of_ble_eq_true rfl, Nat.le_of_ble_eq_true rfl⟩) hKK hP 0 rfl rfl rfl hl.1 rfl (Nat.le_of_ble_eq_true rfl) dX4_keywords_14 (Nat.zero_le _) (Nat.zero_le _) hS (fun _ h => h) (fun H1 locs hP1 hz1 hk1 hS => ?_)
  have hP : va_P D vwCl (wM q cI cZ (sv μ 0 2 (0))) H1 := hP1
  generalize H1 = H at hP hS ⊢
  refine b_ifeq (b := true) (tgt := 29) hx hb dX4_keywords_17 (by decide) (fun c_2 => ?_) (fun c_2 => ?_)
  · exact absurd c_2 (by decide)
  refine lv_aload_n hx hb dX4_keywords_20 rfl (lv_at hl 0 rfl) ?_
  refine va_get (D := D) (ci := 4) (v := .ref (q 3)) (C := RX4) (T := TX4) (N := 26) hx hb htA uwX4 hown hKK.1 hP 0 rfl rfl 2 (by decide) (htA _ wd_647) (fun _ h9 => h9) rfl dX4_keywords_21 ?_
  refine lv_iload_n hx hb dX4_keywords_24 rfl (lv_at hl 1 rfl) ?_
  refine n_iald (g := μ 3) (cA := cI) (n := 60) (j := j) hx hb hKK.1 hP 3 0 rfl rfl (by omega) (Nat.le_of_ble_eq_true rfl) dX4_keywords_25 ?_
  refine lv_goto (tgt := 30) hx hb dX4_keywords_26 (by decide) ?_
  exact wr_i hx hb hr hlocks (rfl) hP hS dX4_keywords_30
set_option maxHeartbeats 4000000 in
set_option maxRecDepth 100000 in
theorem r_inThread_bad (l : Launch) (D : va_G) (cI cZ : ClassId) (sa : Nat → Nat) (q : Nat → Nat) (μ : ST) (x : Int32) (A : Nat → Prop) (hD : va_D A (wM q cI cZ μ)) (hbad : iw (x) (nI (0)) (nI (9)) = false) : Met l yX4_inThread (codeW yX4_inThread cX4_inThread 4 (some .int)) ({ frames := 1, cells := 0, slots := 0, locals := 22 } : Room) (WrP D cI cZ sa (wM q cI cZ μ) [.ref (q 0), .int (x)]) (WrQ (some (.int (nI (0)))) D (wM q cI cZ (sv μ 0 2 1)) A) 0 0 A := by
  refine Met.ofW (cc := cX4_inThread) (maxL := 4) (ret := (some .int)) (by decide) rfl ?_
  intro p e s m args below meth c s₁ B hml hv
  obtain ⟨rfl, hH, hKK⟩ := hv
  have hx := B.exec
  have hb := B.bytes
  have hr := B.returns
  have htA : ∀ w ∈ WA, w.before _ s = true := fun w h => atoms_spec (ws := (codeW yX4_inThread cX4_inThread 4 (some .int))) B.pre w (List.mem_cons_of_mem _ h)
  have hown : s.vm.findClass RX4 = some m.cls := findClass_of_methodNamed B.named
  have hlocks := B.notSynchronized
  have hP := hH
  have hS : va_S A s.heap s.heap [] := va_S.rf
  have hl := lv_entry ([.ref (q 0), .int (x)]) (n := 4) (Nat.le_of_ble_eq_true rfl)
  rw [lg_entry_eq]
  generalize (lg_sl ([.ref (q 0), .int (x)]) ++ List.replicate (4 - (lg_sl ([.ref (q 0), .int (x)])).length) Slot.unset).toArray = ls at hl ⊢
  have hl : lv_has ls 4 [(0, .ref (q 0)), (1, .int (x))] := hl
  refine n_iconst (k := 0) hx hb dX4_inThread_0 (by decide) ?_
  refine lv_istore_n (lv' := [(2, .int (nI (0))), (0, .ref (q 0)), (1, .int (x))]) hx hb dX4_inThread_1 rfl hl (by decide) rfl (fun ls hl => ?_)
  refine lv_aload_n hx hb dX4_inThread_2 rfl (lv_at hl 1 rfl) ?_
  refine lv_iload_n hx hb dX4_inThread_3 rfl (lv_at hl 2 rfl) ?_
  refine n_iconst (k := 0) hx hb dX4_inThread_4 (by decide) ?_
  refine lv_bipush (v := nI 9) hx hb dX4_inThread_5 (by decide) ?_
  refine roS1 (v := .int (b2i (iw (x) (nI (0)) (nI (9))))) (As := [.int (x), .int (nI (0)), .int (nI (9))]) (rest := [.ref (q 0)]) (n := 3) ⟨hx, hb, hml, hown, htA⟩ (m_in l D cI cZ sa (x) (nI (0)) (nI (9)) s.heap ) (va_cwS 3 htA (gdS wd_732 wd_733 wd_5 wd_734) rfl rfl rfl (by decide +kernel) ⟨Nat.le_of_ble_eq_true rfl, Nat.le_of_ble_eq_true rfl⟩) hKK rfl hl.1 rfl (Nat.le_of_ble_eq_true rfl) dX4_inThread_7 (Nat.zero_le _) (Nat.zero_le _) ?_
  refine b_ifeq (b := iw (x) (nI (0)) (nI (9))) (tgt := 17) hx hb dX4_inThread_10 (by decide) (fun c_1 => ?_) (fun c_1 => ?_)
  rotate_left
  · exact absurd (c_1.symm.trans hbad) (by decide)
  refine n_iconst (k := 1) hx hb dX4_inThread_17 (by decide) ?_
  refine wrV1 (v := .int (b2i (false))) (As := [.int (nI (1))]) (rest := []) (n := 1) ⟨hx, hb, hml, hown, htA⟩ (m_unfine l D cI cZ sa q μ 1 A (D_addr hD rfl) (by decide) (by decide)) (cwV 1 htA (gdV wd_735 wd_737 wp_9 wd_5 wd_738) rfl rfl rfl (by decide +kernel) ⟨Nat.le_of_ble_eq_true rfl, Nat.le_of_ble_eq_true rfl⟩) hKK hP 0 rfl rfl rfl hl.1 rfl (Nat.le_of_ble_eq_true rfl) dX4_inThread_18 (Nat.zero_le _) (Nat.zero_le _) hS (fun _ h => h) (fun H1 locs hP1 hz1 hk1 hS => ?_)
  have hP : va_P D vwCl (wM q cI cZ (sv μ 0 2 (1))) H1 := hP1
  generalize H1 = H at hP hS ⊢
  refine b_ifeq (b := false) (tgt := 67) hx hb dX4_inThread_21 (by decide) (fun c_2 => ?_) (fun c_2 => ?_)
  rotate_left
  · exact absurd c_2 (by decide)
  refine lv_iload_n hx hb dX4_inThread_67 rfl (lv_at hl 0 rfl) ?_
  exact wr_i hx hb hr hlocks (rfl) hP hS dX4_inThread_68
set_option maxHeartbeats 4000000 in
set_option maxRecDepth 100000 in
theorem r_inThread_ok (l : Launch) (D : va_G) (cI cZ : ClassId) (sa : Nat → Nat) (q : Nat → Nat) (μ : ST) (th : Nat) (A : Nat → Prop) (hD : va_D A (wM q cI cZ μ)) (hB : ∀ k i, μ k i < 1073741824) (hm0 : μ 0 0 ≤ 60) (hth : th ≤ 9) : Met l yX4_inThread (codeW yX4_inThread cX4_inThread 4 (some .int)) ({ frames := 1, cells := 0, slots := 0, locals := 22 } : Room) (WrP D cI cZ sa (wM q cI cZ μ) [.ref (q 0), .int (nI (th))]) (WrQ (some (.int (nI (cnt (fun m9 => decide (μ 6 m9 = 0) && decide (μ 4 m9 = th)) (μ 0 0))))) D (wM q cI cZ (sv μ 0 2 0)) A) 0 0 A := by
  refine Met.ofW (cc := cX4_inThread) (maxL := 4) (ret := (some .int)) (by decide) rfl ?_
  intro p e s m args below meth c s₁ B hml hv
  obtain ⟨rfl, hH, hKK⟩ := hv
  have hx := B.exec
  have hb := B.bytes
  have hr := B.returns
  have htA : ∀ w ∈ WA, w.before _ s = true := fun w h => atoms_spec (ws := (codeW yX4_inThread cX4_inThread 4 (some .int))) B.pre w (List.mem_cons_of_mem _ h)
  have hown : s.vm.findClass RX4 = some m.cls := findClass_of_methodNamed B.named
  have hlocks := B.notSynchronized
  have hP := hH
  have hS : va_S A s.heap s.heap [] := va_S.rf
  have hl := lv_entry ([.ref (q 0), .int (nI (th))]) (n := 4) (Nat.le_of_ble_eq_true rfl)
  rw [lg_entry_eq]
  generalize (lg_sl ([.ref (q 0), .int (nI (th))]) ++ List.replicate (4 - (lg_sl ([.ref (q 0), .int (nI (th))])).length) Slot.unset).toArray = ls at hl ⊢
  have hl : lv_has ls 4 [(0, .ref (q 0)), (1, .int (nI (th)))] := hl
  refine n_iconst (k := 0) hx hb dX4_inThread_0 (by decide) ?_
  refine lv_istore_n (lv' := [(2, .int (nI (0))), (0, .ref (q 0)), (1, .int (nI (th)))]) hx hb dX4_inThread_1 rfl hl (by decide) rfl (fun ls hl => ?_)
  refine lv_aload_n hx hb dX4_inThread_2 rfl (lv_at hl 1 rfl) ?_
  refine lv_iload_n hx hb dX4_inThread_3 rfl (lv_at hl 2 rfl) ?_
  refine n_iconst (k := 0) hx hb dX4_inThread_4 (by decide) ?_
  refine lv_bipush (v := nI 9) hx hb dX4_inThread_5 (by decide) ?_
  refine roS1 (v := .int (b2i (iw (nI (th)) (nI (0)) (nI (9))))) (As := [.int (nI (th)), .int (nI (0)), .int (nI (9))]) (rest := [.ref (q 0)]) (n := 3) ⟨hx, hb, hml, hown, htA⟩ (m_in l D cI cZ sa (nI (th)) (nI (0)) (nI (9)) s.heap ) (va_cwS 3 htA (gdS wd_732 wd_733 wd_5 wd_734) rfl rfl rfl (by decide +kernel) ⟨Nat.le_of_ble_eq_true rfl, Nat.le_of_ble_eq_true rfl⟩) hKK rfl hl.1 rfl (Nat.le_of_ble_eq_true rfl) dX4_inThread_7 (Nat.zero_le _) (Nat.zero_le _) ?_
  refine b_ifeq (b := iw (nI (th)) (nI (0)) (nI (9))) (tgt := 17) hx hb dX4_inThread_10 (by decide) (fun c_1 => ?_) (fun c_1 => ?_)
  · exact absurd (c_1.symm.trans (iw_n (Nat.zero_le _) hth (by decide))) (by decide)
  refine n_iconst (k := 0) hx hb dX4_inThread_13 (by decide) ?_
  refine lv_goto (tgt := 18) hx hb dX4_inThread_14 (by decide) ?_
  refine wrV1 (v := .int (b2i (true))) (As := [.int (nI (0))]) (rest := []) (n := 1) ⟨hx, hb, hml, hown, htA⟩ (m_fine l D cI cZ sa q μ A (D_addr hD rfl) ) (cwV 1 htA (gdV wd_735 wd_737 wp_9 wd_5 wd_738) rfl rfl rfl (by decide +kernel) ⟨Nat.le_of_ble_eq_true rfl, Nat.le_of_ble_eq_true rfl⟩) hKK hP 0 rfl rfl rfl hl.1 rfl (Nat.le_of_ble_eq_true rfl) dX4_inThread_18 (Nat.zero_le _) (Nat.zero_le _) hS (fun _ h => h) (fun H1 locs hP1 hz1 hk1 hS => ?_)
  have hP : va_P D vwCl (wM q cI cZ (sv μ 0 2 (0))) H1 := hP1
  generalize H1 = H at hP hS ⊢
  refine b_ifeq (b := true) (tgt := 67) hx hb dX4_inThread_21 (by decide) (fun c_2 => ?_) (fun c_2 => ?_)
  · exact absurd c_2 (by decide)
  refine n_iconst (k := 0) hx hb dX4_inThread_24 (by decide) ?_
  refine lv_istore_n (lv' := [(3, .int (nI (0))), (2, .int (nI (0))), (0, .ref (q 0)), (1, .int (nI (th)))]) hx hb dX4_inThread_25 rfl hl (by decide) rfl (fun ls hl => ?_)
  have loop_26 : ∀ (n : Nat) (i : Nat) (H : Heap) (locs : List Loc), (i + n = μ 0 0) → va_P D vwCl (wM q cI cZ (sv μ 0 2 (0))) H → va_S A s.heap H locs → ∀ (ls : Array Slot), lv_has ls 4 [(0, .ref (q 0)), (1, .int (nI (th))), (2, .int (nI (cnt (fun m9 => decide (μ 6 m9 = 0) && decide (μ 4 m9 = th)) i))), (3, .int (nI (i)))] → W p l e (headSpec (codeW yX4_inThread cX4_inThread 4 (some .int)) ({ frames := 1, cells := 0, slots := 0, locals := 22 } : Room)).room s m ([.ref (q 0), .int (nI (th))] : List Value).toArray below meth c H locs 0 0 (MQ below (WrQ (some (.int (nI (cnt (fun m9 => decide (μ 6 m9 = 0) && decide (μ 4 m9 = th)) (μ 0 0))))) D (wM q cI cZ (sv μ 0 2 0)) A) ([.ref (q 0), .int (nI (th))] : List Value).toArray s 0 0 A) (F0 m 26 ls []) := by
    intro n
    induction n with
    | zero =>
      intro i H locs hin hP hS ls hl
      refine lv_iload_n hx hb dX4_inThread_26 rfl (lv_at hl 3 rfl) ?_
      refine lv_aload_n hx hb dX4_inThread_27 rfl (lv_at hl 0 rfl) ?_
      refine va_get (D := D) (ci := 4) (v := .int (nI (μ 0 0))) (C := RX4) (T := TX4) (N := 26) hx hb htA uwX4 hown hKK.1 hP 0 rfl rfl 6 (by decide) (htA _ wd_651) (fun _ h9 => h9) rfl dX4_inThread_28 ?_
      refine n_icmp_ge (x := i) (y := μ 0 0) (tgt := 67) hx hb dX4_inThread_31 (by decide) (by omega) (Nat.lt_trans (hB 0 0) (by decide)) (fun c_3 => ?_) (fun c_3 => ?_)
      rotate_left
      · exfalso; omega
      refine lv_iload_n hx hb dX4_inThread_67 rfl (lv_at hl 2 rfl) ?_
      exact wr_i hx hb hr hlocks (by rw [show i = μ 0 0 by omega]) hP hS dX4_inThread_68
    | succ n ih =>
      intro i H locs hin hP hS ls hl
      refine lv_iload_n hx hb dX4_inThread_26 rfl (lv_at hl 3 rfl) ?_
      refine lv_aload_n hx hb dX4_inThread_27 rfl (lv_at hl 0 rfl) ?_
      refine va_get (D := D) (ci := 4) (v := .int (nI (μ 0 0))) (C := RX4) (T := TX4) (N := 26) hx hb htA uwX4 hown hKK.1 hP 0 rfl rfl 6 (by decide) (htA _ wd_651) (fun _ h9 => h9) rfl dX4_inThread_28 ?_
      refine n_icmp_ge (x := i) (y := μ 0 0) (tgt := 67) hx hb dX4_inThread_31 (by decide) (by omega) (Nat.lt_trans (hB 0 0) (by decide)) (fun c_4 => ?_) (fun c_4 => ?_)
      · exfalso; omega
      refine lv_iload_n hx hb dX4_inThread_34 rfl (lv_at hl 2 rfl) ?_
      refine lv_aload_n hx hb dX4_inThread_35 rfl (lv_at hl 0 rfl) ?_
      refine va_get (D := D) (ci := 4) (v := .ref (q 6)) (C := RX4) (T := TX4) (N := 26) hx hb htA uwX4 hown hKK.1 hP 0 rfl rfl 5 (by decide) (htA _ wd_650) (fun _ h9 => h9) rfl dX4_inThread_36 ?_
      refine lv_iload_n hx hb dX4_inThread_39 rfl (lv_at hl 3 rfl) ?_
      refine n_iald (g := μ 6) (cA := cI) (n := 60) (j := i) hx hb hKK.1 hP 6 0 rfl rfl (by omega) (Nat.le_of_ble_eq_true rfl) dX4_inThread_40 ?_
      refine n_ifne (x := μ 6 i) (tgt := 58) hx hb dX4_inThread_41 (by decide) (Nat.lt_trans (hB 6 i) (by decide)) (fun c_5 => ?_) (fun c_5 => ?_)
      · refine n_iconst (k := 0) hx hb dX4_inThread_58 (by decide) ?_
        refine n_iadd hx hb dX4_inThread_59 ?_
        refine lv_istore_n (lv' := [(2, .int (nI ((cnt (fun m9 => decide (μ 6 m9 = 0) && decide (μ 4 m9 = th)) i) + 0))), (0, .ref (q 0)), (1, .int (nI (th))), (3, .int (nI (i)))]) hx hb dX4_inThread_60 rfl hl (by decide) rfl (fun ls hl => ?_)
        refine lv_iinc (v := nI (i + 1)) (lv' := [(3, .int (nI (i + 1))), (2, .int (nI ((cnt (fun m9 => decide (μ 6 m9 = 0) && decide (μ 4 m9 = th)) i) + 0))), (0, .ref (q 0)), (1, .int (nI (th)))]) hx hb dX4_inThread_61 hl (k := 3) rfl (n_inc (i) 1 rfl) (by decide) rfl (fun ls hl => ?_)
        refine lv_goto (tgt := 26) hx hb dX4_inThread_64 (by decide) ?_
        have e : cnt (fun m9 => decide (μ 6 m9 = 0) && decide (μ 4 m9 = th)) i = cnt (fun m9 => decide (μ 6 m9 = 0) && decide (μ 4 m9 = th)) (i + 1) := cnt_f (by simp [c_1, c_2, c_4, c_5])
        have hl : lv_has ls _ _ := hl
        rw [e] at hl
        exact ih (i + 1) _ _ (by omega) hP hS ls (lv_sub hl [2, 3, 1, 0] rfl)
      · refine lv_aload_n hx hb dX4_inThread_44 rfl (lv_at hl 0 rfl) ?_
        refine va_get (D := D) (ci := 4) (v := .ref (q 4)) (C := RX4) (T := TX4) (N := 26) hx hb htA uwX4 hown hKK.1 hP 0 rfl rfl 3 (by decide) (htA _ wd_648) (fun _ h9 => h9) rfl dX4_inThread_45 ?_
        refine lv_iload_n hx hb dX4_inThread_48 rfl (lv_at hl 3 rfl) ?_
        refine n_iald (g := μ 4) (cA := cI) (n := 60) (j := i) hx hb hKK.1 hP 4 0 rfl rfl (by omega) (Nat.le_of_ble_eq_true rfl) dX4_inThread_49 ?_
        refine lv_iload_n hx hb dX4_inThread_50 rfl (lv_at hl 1 rfl) ?_
        refine n_icmp_ne (x := μ 4 i) (y := th) (tgt := 58) hx hb dX4_inThread_51 (by decide) (Nat.lt_trans (hB 4 i) (by decide)) (by omega) (fun c_6 => ?_) (fun c_6 => ?_)
        · refine n_iconst (k := 0) hx hb dX4_inThread_58 (by decide) ?_
          refine n_iadd hx hb dX4_inThread_59 ?_
          refine lv_istore_n (lv' := [(2, .int (nI ((cnt (fun m9 => decide (μ 6 m9 = 0) && decide (μ 4 m9 = th)) i) + 0))), (0, .ref (q 0)), (1, .int (nI (th))), (3, .int (nI (i)))]) hx hb dX4_inThread_60 rfl hl (by decide) rfl (fun ls hl => ?_)
          refine lv_iinc (v := nI (i + 1)) (lv' := [(3, .int (nI (i + 1))), (2, .int (nI ((cnt (fun m9 => decide (μ 6 m9 = 0) && decide (μ 4 m9 = th)) i) + 0))), (0, .ref (q 0)), (1, .int (nI (th)))]) hx hb dX4_inThread_61 hl (k := 3) rfl (n_inc (i) 1 rfl) (by decide) rfl (fun ls hl => ?_)
          refine lv_goto (tgt := 26) hx hb dX4_inThread_64 (by decide) ?_
          have e : cnt (fun m9 => decide (μ 6 m9 = 0) && decide (μ 4 m9 = th)) i = cnt (fun m9 => decide (μ 6 m9 = 0) && decide (μ 4 m9 = th)) (i + 1) := cnt_f (by simp [c_1, c_2, c_4, c_5, c_6])
          have hl : lv_has ls _ _ := hl
          rw [e] at hl
          exact ih (i + 1) _ _ (by omega) hP hS ls (lv_sub hl [2, 3, 1, 0] rfl)
        · refine n_iconst (k := 1) hx hb dX4_inThread_54 (by decide) ?_
          refine lv_goto (tgt := 59) hx hb dX4_inThread_55 (by decide) ?_
          refine n_iadd hx hb dX4_inThread_59 ?_
          refine lv_istore_n (lv' := [(2, .int (nI ((cnt (fun m9 => decide (μ 6 m9 = 0) && decide (μ 4 m9 = th)) i) + 1))), (0, .ref (q 0)), (1, .int (nI (th))), (3, .int (nI (i)))]) hx hb dX4_inThread_60 rfl hl (by decide) rfl (fun ls hl => ?_)
          refine lv_iinc (v := nI (i + 1)) (lv' := [(3, .int (nI (i + 1))), (2, .int (nI ((cnt (fun m9 => decide (μ 6 m9 = 0) && decide (μ 4 m9 = th)) i) + 1))), (0, .ref (q 0)), (1, .int (nI (th)))]) hx hb dX4_inThread_61 hl (k := 3) rfl (n_inc (i) 1 rfl) (by decide) rfl (fun ls hl => ?_)
          refine lv_goto (tgt := 26) hx hb dX4_inThread_64 (by decide) ?_
          have e : cnt (fun m9 => decide (μ 6 m9 = 0) && decide (μ 4 m9 = th)) i + 1 = cnt (fun m9 => decide (μ 6 m9 = 0) && decide (μ 4 m9 = th)) (i + 1) := cnt_t (by simp [c_1, c_2, c_4, c_5, c_6])
          rw [e] at hl
          exact ih (i + 1) _ _ (by omega) hP hS ls (lv_sub hl [2, 3, 1, 0] rfl)
  exact loop_26 (μ 0 0) 0 _ _ (by omega) hP hS ls (lv_sub hl [2, 3, 1, 0] rfl)
