set_option maxHeartbeats 4000000 in
set_option maxRecDepth 100000 in
theorem r_flagOffline_bad (l : Launch) (D : va_G) (cI cZ : ClassId) (sa : Nat → Nat) (q : Nat → Nat) (μ : ST) (x y9 z : Int32) (w0 : Nat) (A : Nat → Prop) (hD : va_D A (wM q cI cZ μ)) (hbad : (iw (x) (nI (0)) (nI (1)) && iw (z) (nI (0)) (nI (3))) = false) : Met l yX4_flagOffline (codeW yX4_flagOffline cX4_flagOffline 8 (some .int)) ({ frames := 2, cells := 0, slots := 0, locals := 42 } : Room) (WrP D cI cZ sa (wM q cI cZ μ) [.ref (q 0), .int (x), .int (y9), .int (z), .int (nI (w0))]) (WrQ (some (.int (nI (0)))) D (wM q cI cZ (sv μ 0 2 1)) A) 0 0 A := by
  refine Met.ofW (cc := cX4_flagOffline) (maxL := 8) (ret := (some .int)) (by decide) rfl ?_
  intro p e s m args below meth c s₁ B hml hv
  obtain ⟨rfl, hH, hKK⟩ := hv
  have hx := B.exec
  have hb := B.bytes
  have hr := B.returns
  have htA : ∀ w ∈ WA, w.before _ s = true := fun w h => atoms_spec (ws := (codeW yX4_flagOffline cX4_flagOffline 8 (some .int))) B.pre w (List.mem_cons_of_mem _ h)
  have hown : s.vm.findClass RX4 = some m.cls := findClass_of_methodNamed B.named
  have hlocks := B.notSynchronized
  have hP := hH
  have hS : va_S A s.heap s.heap [] := va_S.rf
  have hl := lv_entry ([.ref (q 0), .int (x), .int (y9), .int (z), .int (nI (w0))]) (n := 8) (Nat.le_of_ble_eq_true rfl)
  rw [lg_entry_eq]
  generalize (lg_sl ([.ref (q 0), .int (x), .int (y9), .int (z), .int (nI (w0))]) ++ List.replicate (8 - (lg_sl ([.ref (q 0), .int (x), .int (y9), .int (z), .int (nI (w0))])).length) Slot.unset).toArray = ls at hl ⊢
  have hl : lv_has ls 8 [(0, .ref (q 0)), (1, .int (x)), (2, .int (y9)), (3, .int (z)), (4, .int (nI (w0)))] := hl
  refine lv_iload_n hx hb dX4_flagOffline_0 rfl (lv_at hl 1 rfl) ?_
  refine roS1 (v := .int (b2i (iw (x) (nI (0)) (nI (1))))) (As := [.int (x)]) (rest := []) (n := 1) ⟨hx, hb, hml, hown, htA⟩ (m_isClient l D cI cZ sa (x) s.heap ) (va_cwS 1 htA (gdS wd_873 wd_874 wd_5 wd_875) rfl rfl rfl (by decide +kernel) ⟨Nat.le_of_ble_eq_true rfl, Nat.le_of_ble_eq_true rfl⟩) hKK rfl hl.1 rfl (Nat.le_of_ble_eq_true rfl) dX4_flagOffline_1 (Nat.zero_le _) (Nat.zero_le _) ?_
  refine b_ifeq (b := iw (x) (nI (0)) (nI (1))) (tgt := 26) hx hb dX4_flagOffline_4 (by decide) (fun c_1 => ?_) (fun c_1 => ?_)
  · refine n_iconst (k := 1) hx hb dX4_flagOffline_26 (by decide) ?_
    refine lv_goto (tgt := 46) hx hb dX4_flagOffline_27 (by decide) ?_
    refine lv_istore (lv' := [(5, .int (nI (1))), (0, .ref (q 0)), (1, .int (x)), (2, .int (y9)), (3, .int (z)), (4, .int (nI (w0)))]) hx hb dX4_flagOffline_46 hl (by decide) rfl (fun ls hl => ?_)
    refine lv_aload_n hx hb dX4_flagOffline_48 rfl (lv_at hl 1 rfl) ?_
    refine lv_iload hx hb dX4_flagOffline_49 (lv_at hl 0 rfl) ?_
    refine wrV1 (v := .int (b2i (false))) (As := [.int (nI (1))]) (rest := []) (n := 1) ⟨hx, hb, hml, hown, htA⟩ (m_unfine l D cI cZ sa q μ 1 A (D_addr hD rfl) (by decide) (by decide)) (cwV 1 htA (gdV wd_735 wd_737 wp_9 wd_5 wd_738) rfl rfl rfl (by decide +kernel) ⟨Nat.le_of_ble_eq_true rfl, Nat.le_of_ble_eq_true rfl⟩) hKK hP 0 rfl rfl rfl hl.1 rfl (Nat.le_of_ble_eq_true rfl) dX4_flagOffline_51 (Nat.zero_le _) (Nat.zero_le _) hS (fun _ h => h) (fun H1 locs hP1 hz1 hk1 hS => ?_)
    have hP : va_P D vwCl (wM q cI cZ (sv μ 0 2 (1))) H1 := hP1
    generalize H1 = H at hP hS ⊢
    refine b_ifne (b := false) (tgt := 59) hx hb dX4_flagOffline_54 (by decide) (fun c_2 => ?_) (fun c_2 => ?_)
    · exact absurd c_2 (by decide)
    refine n_iconst (k := 0) hx hb dX4_flagOffline_57 (by decide) ?_
    exact wr_i hx hb hr hlocks (rfl) hP hS dX4_flagOffline_58
  · refine lv_iload_n hx hb dX4_flagOffline_7 rfl (lv_at hl 3 rfl) ?_
    refine n_iconst (k := 0) hx hb dX4_flagOffline_8 (by decide) ?_
    refine n_iconst (k := 3) hx hb dX4_flagOffline_9 (by decide) ?_
    refine roS1 (v := .int (b2i (iw (z) (nI (0)) (nI (3))))) (As := [.int (z), .int (nI (0)), .int (nI (3))]) (rest := []) (n := 3) ⟨hx, hb, hml, hown, htA⟩ (m_in l D cI cZ sa (z) (nI (0)) (nI (3)) s.heap ) (va_cwS 3 htA (gdS wd_732 wd_733 wd_5 wd_734) rfl rfl rfl (by decide +kernel) ⟨Nat.le_of_ble_eq_true rfl, Nat.le_of_ble_eq_true rfl⟩) hKK rfl hl.1 rfl (Nat.le_of_ble_eq_true rfl) dX4_flagOffline_10 (Nat.zero_le _) (Nat.zero_le _) ?_
    refine b_ifeq (b := iw (z) (nI (0)) (nI (3))) (tgt := 26) hx hb dX4_flagOffline_13 (by decide) (fun c_3 => ?_) (fun c_3 => ?_)
    rotate_left
    · exact absurd hbad (by rw [c_1, c_3]; decide)
    refine n_iconst (k := 1) hx hb dX4_flagOffline_26 (by decide) ?_
    refine lv_goto (tgt := 46) hx hb dX4_flagOffline_27 (by decide) ?_
    refine lv_istore (lv' := [(5, .int (nI (1))), (0, .ref (q 0)), (1, .int (x)), (2, .int (y9)), (3, .int (z)), (4, .int (nI (w0)))]) hx hb dX4_flagOffline_46 hl (by decide) rfl (fun ls hl => ?_)
    refine lv_aload_n hx hb dX4_flagOffline_48 rfl (lv_at hl 1 rfl) ?_
    refine lv_iload hx hb dX4_flagOffline_49 (lv_at hl 0 rfl) ?_
    refine wrV1 (v := .int (b2i (false))) (As := [.int (nI (1))]) (rest := []) (n := 1) ⟨hx, hb, hml, hown, htA⟩ (m_unfine l D cI cZ sa q μ 1 A (D_addr hD rfl) (by decide) (by decide)) (cwV 1 htA (gdV wd_735 wd_737 wp_9 wd_5 wd_738) rfl rfl rfl (by decide +kernel) ⟨Nat.le_of_ble_eq_true rfl, Nat.le_of_ble_eq_true rfl⟩) hKK hP 0 rfl rfl rfl hl.1 rfl (Nat.le_of_ble_eq_true rfl) dX4_flagOffline_51 (Nat.zero_le _) (Nat.zero_le _) hS (fun _ h => h) (fun H1 locs hP1 hz1 hk1 hS => ?_)
    have hP : va_P D vwCl (wM q cI cZ (sv μ 0 2 (1))) H1 := hP1
    generalize H1 = H at hP hS ⊢
    refine b_ifne (b := false) (tgt := 59) hx hb dX4_flagOffline_54 (by decide) (fun c_4 => ?_) (fun c_4 => ?_)
    · exact absurd c_4 (by decide)
    refine n_iconst (k := 0) hx hb dX4_flagOffline_57 (by decide) ?_
    exact wr_i hx hb hr hlocks (rfl) hP hS dX4_flagOffline_58
set_option maxHeartbeats 4000000 in
set_option maxRecDepth 100000 in
theorem r_flagOffline_no0 (l : Launch) (D : va_G) (cI cZ : ClassId) (sa : Nat → Nat) (q : Nat → Nat) (μ : ST) (x : Int32) (k9 w0 : Nat) (A : Nat → Prop) (hD : va_D A (wM q cI cZ μ)) (hk9 : k9 < 4) (h10 : μ 16 0 ≤ 10) (hz : wpl μ 0 (x) (μ 16 0) = 0) : Met l yX4_flagOffline (codeW yX4_flagOffline cX4_flagOffline 8 (some .int)) ({ frames := 2, cells := 0, slots := 0, locals := 42 } : Room) (WrP D cI cZ sa (wM q cI cZ μ) [.ref (q 0), .int (nI (0)), .int (x), .int (nI (k9)), .int (nI (w0))]) (WrQ (some (.int (nI (0)))) D (wM q cI cZ (sv μ 0 2 1)) A) 0 0 A := by
  refine Met.ofW (cc := cX4_flagOffline) (maxL := 8) (ret := (some .int)) (by decide) rfl ?_
  intro p e s m args below meth c s₁ B hml hv
  obtain ⟨rfl, hH, hKK⟩ := hv
  have hx := B.exec
  have hb := B.bytes
  have hr := B.returns
  have htA : ∀ w ∈ WA, w.before _ s = true := fun w h => atoms_spec (ws := (codeW yX4_flagOffline cX4_flagOffline 8 (some .int))) B.pre w (List.mem_cons_of_mem _ h)
  have hown : s.vm.findClass RX4 = some m.cls := findClass_of_methodNamed B.named
  have hlocks := B.notSynchronized
  have hP := hH
  have hS : va_S A s.heap s.heap [] := va_S.rf
  have hl := lv_entry ([.ref (q 0), .int (nI (0)), .int (x), .int (nI (k9)), .int (nI (w0))]) (n := 8) (Nat.le_of_ble_eq_true rfl)
  rw [lg_entry_eq]
  generalize (lg_sl ([.ref (q 0), .int (nI (0)), .int (x), .int (nI (k9)), .int (nI (w0))]) ++ List.replicate (8 - (lg_sl ([.ref (q 0), .int (nI (0)), .int (x), .int (nI (k9)), .int (nI (w0))])).length) Slot.unset).toArray = ls at hl ⊢
  have hl : lv_has ls 8 [(0, .ref (q 0)), (1, .int (nI (0))), (2, .int (x)), (3, .int (nI (k9))), (4, .int (nI (w0)))] := hl
  refine lv_iload_n hx hb dX4_flagOffline_0 rfl (lv_at hl 1 rfl) ?_
  refine roS1 (v := .int (b2i (iw (nI (0)) (nI (0)) (nI (1))))) (As := [.int (nI (0))]) (rest := []) (n := 1) ⟨hx, hb, hml, hown, htA⟩ (m_isClient l D cI cZ sa (nI (0)) s.heap ) (va_cwS 1 htA (gdS wd_873 wd_874 wd_5 wd_875) rfl rfl rfl (by decide +kernel) ⟨Nat.le_of_ble_eq_true rfl, Nat.le_of_ble_eq_true rfl⟩) hKK rfl hl.1 rfl (Nat.le_of_ble_eq_true rfl) dX4_flagOffline_1 (Nat.zero_le _) (Nat.zero_le _) ?_
  refine b_ifeq (b := iw (nI (0)) (nI (0)) (nI (1))) (tgt := 26) hx hb dX4_flagOffline_4 (by decide) (fun c_1 => ?_) (fun c_1 => ?_)
  · exact absurd (c_1.symm.trans (iw_n (by decide) (by decide) (by decide))) (by decide)
  refine lv_iload_n hx hb dX4_flagOffline_7 rfl (lv_at hl 3 rfl) ?_
  refine n_iconst (k := 0) hx hb dX4_flagOffline_8 (by decide) ?_
  refine n_iconst (k := 3) hx hb dX4_flagOffline_9 (by decide) ?_
  refine roS1 (v := .int (b2i (iw (nI (k9)) (nI (0)) (nI (3))))) (As := [.int (nI (k9)), .int (nI (0)), .int (nI (3))]) (rest := []) (n := 3) ⟨hx, hb, hml, hown, htA⟩ (m_in l D cI cZ sa (nI (k9)) (nI (0)) (nI (3)) s.heap ) (va_cwS 3 htA (gdS wd_732 wd_733 wd_5 wd_734) rfl rfl rfl (by decide +kernel) ⟨Nat.le_of_ble_eq_true rfl, Nat.le_of_ble_eq_true rfl⟩) hKK rfl hl.1 rfl (Nat.le_of_ble_eq_true rfl) dX4_flagOffline_10 (Nat.zero_le _) (Nat.zero_le _) ?_
  refine b_ifeq (b := iw (nI (k9)) (nI (0)) (nI (3))) (tgt := 26) hx hb dX4_flagOffline_13 (by decide) (fun c_2 => ?_) (fun c_2 => ?_)
  · exact absurd (c_2.symm.trans (iw_n (Nat.zero_le _) (by omega) (by decide))) (by decide)
  refine lv_aload_n hx hb dX4_flagOffline_16 rfl (lv_at hl 0 rfl) ?_
  refine lv_iload_n hx hb dX4_flagOffline_17 rfl (lv_at hl 1 rfl) ?_
  refine lv_iload_n hx hb dX4_flagOffline_18 rfl (lv_at hl 2 rfl) ?_
  refine roV1 (v := .int (oi (wpl μ 0 (x) (μ 16 0)))) (As := [.int (nI (0)), .int (x)]) (rest := []) (n := 2) ⟨hx, hb, hml, hown, htA⟩ (m_windowPlace0 l D cI cZ sa q μ (x) s.heap hP h10) (cwV 2 htA (gdV wd_880 wd_882 wp_24 wd_5 wd_883) rfl rfl rfl (by decide +kernel) ⟨Nat.le_of_ble_eq_true rfl, Nat.le_of_ble_eq_true rfl⟩) hKK hP 0 rfl rfl rfl hl.1 rfl (Nat.le_of_ble_eq_true rfl) dX4_flagOffline_19 (Nat.zero_le _) (Nat.zero_le _) ?_
  refine lv_iconst (v := oi 0) hx hb dX4_flagOffline_22 (by decide) ?_
  refine k_icmp_ne (x := wpl μ 0 (x) (μ 16 0)) (y := 0) (tgt := 30) hx hb dX4_flagOffline_23 (by decide) (Nat.le_trans (wpl_le _) (by omega)) (by decide) (fun c_3 => ?_) (fun c_3 => ?_)
  · exact absurd hz c_3
  refine n_iconst (k := 1) hx hb dX4_flagOffline_26 (by decide) ?_
  refine lv_goto (tgt := 46) hx hb dX4_flagOffline_27 (by decide) ?_
  refine lv_istore (lv' := [(5, .int (nI (1))), (0, .ref (q 0)), (1, .int (nI (0))), (2, .int (x)), (3, .int (nI (k9))), (4, .int (nI (w0)))]) hx hb dX4_flagOffline_46 hl (by decide) rfl (fun ls hl => ?_)
  refine lv_aload_n hx hb dX4_flagOffline_48 rfl (lv_at hl 1 rfl) ?_
  refine lv_iload hx hb dX4_flagOffline_49 (lv_at hl 0 rfl) ?_
  refine wrV1 (v := .int (b2i (false))) (As := [.int (nI (1))]) (rest := []) (n := 1) ⟨hx, hb, hml, hown, htA⟩ (m_unfine l D cI cZ sa q μ 1 A (D_addr hD rfl) (by decide) (by decide)) (cwV 1 htA (gdV wd_735 wd_737 wp_9 wd_5 wd_738) rfl rfl rfl (by decide +kernel) ⟨Nat.le_of_ble_eq_true rfl, Nat.le_of_ble_eq_true rfl⟩) hKK hP 0 rfl rfl rfl hl.1 rfl (Nat.le_of_ble_eq_true rfl) dX4_flagOffline_51 (Nat.zero_le _) (Nat.zero_le _) hS (fun _ h => h) (fun H1 locs hP1 hz1 hk1 hS => ?_)
  have hP : va_P D vwCl (wM q cI cZ (sv μ 0 2 (1))) H1 := hP1
  generalize H1 = H at hP hS ⊢
  refine b_ifne (b := false) (tgt := 59) hx hb dX4_flagOffline_54 (by decide) (fun c_4 => ?_) (fun c_4 => ?_)
  · exact absurd c_4 (by decide)
  refine n_iconst (k := 0) hx hb dX4_flagOffline_57 (by decide) ?_
  exact wr_i hx hb hr hlocks (rfl) hP hS dX4_flagOffline_58
set_option maxHeartbeats 4000000 in
set_option maxRecDepth 100000 in
theorem r_flagOffline_full0 (l : Launch) (D : va_G) (cI cZ : ClassId) (sa : Nat → Nat) (q : Nat → Nat) (μ : ST) (x : Int32) (k9 w0 : Nat) (A : Nat → Prop) (hD : va_D A (wM q cI cZ μ)) (hk9 : k9 < 4) (h10 : μ 16 0 ≤ 10) (hz : wpl μ 0 (x) (μ 16 0) ≠ 0) (hfl : μ 19 0 = 10) : Met l yX4_flagOffline (codeW yX4_flagOffline cX4_flagOffline 8 (some .int)) ({ frames := 2, cells := 0, slots := 0, locals := 42 } : Room) (WrP D cI cZ sa (wM q cI cZ μ) [.ref (q 0), .int (nI (0)), .int (x), .int (nI (k9)), .int (nI (w0))]) (WrQ (some (.int (nI (0)))) D (wM q cI cZ (sv μ 0 2 2)) A) 0 0 A := by
  refine Met.ofW (cc := cX4_flagOffline) (maxL := 8) (ret := (some .int)) (by decide) rfl ?_
  intro p e s m args below meth c s₁ B hml hv
  obtain ⟨rfl, hH, hKK⟩ := hv
  have hx := B.exec
  have hb := B.bytes
  have hr := B.returns
  have htA : ∀ w ∈ WA, w.before _ s = true := fun w h => atoms_spec (ws := (codeW yX4_flagOffline cX4_flagOffline 8 (some .int))) B.pre w (List.mem_cons_of_mem _ h)
  have hown : s.vm.findClass RX4 = some m.cls := findClass_of_methodNamed B.named
  have hlocks := B.notSynchronized
  have hP := hH
  have hS : va_S A s.heap s.heap [] := va_S.rf
  have hl := lv_entry ([.ref (q 0), .int (nI (0)), .int (x), .int (nI (k9)), .int (nI (w0))]) (n := 8) (Nat.le_of_ble_eq_true rfl)
  rw [lg_entry_eq]
  generalize (lg_sl ([.ref (q 0), .int (nI (0)), .int (x), .int (nI (k9)), .int (nI (w0))]) ++ List.replicate (8 - (lg_sl ([.ref (q 0), .int (nI (0)), .int (x), .int (nI (k9)), .int (nI (w0))])).length) Slot.unset).toArray = ls at hl ⊢
  have hl : lv_has ls 8 [(0, .ref (q 0)), (1, .int (nI (0))), (2, .int (x)), (3, .int (nI (k9))), (4, .int (nI (w0)))] := hl
  refine lv_iload_n hx hb dX4_flagOffline_0 rfl (lv_at hl 1 rfl) ?_
  refine roS1 (v := .int (b2i (iw (nI (0)) (nI (0)) (nI (1))))) (As := [.int (nI (0))]) (rest := []) (n := 1) ⟨hx, hb, hml, hown, htA⟩ (m_isClient l D cI cZ sa (nI (0)) s.heap ) (va_cwS 1 htA (gdS wd_873 wd_874 wd_5 wd_875) rfl rfl rfl (by decide +kernel) ⟨Nat.le_of_ble_eq_true rfl, Nat.le_of_ble_eq_true rfl⟩) hKK rfl hl.1 rfl (Nat.le_of_ble_eq_true rfl) dX4_flagOffline_1 (Nat.zero_le _) (Nat.zero_le _) ?_
  refine b_ifeq (b := iw (nI (0)) (nI (0)) (nI (1))) (tgt := 26) hx hb dX4_flagOffline_4 (by decide) (fun c_1 => ?_) (fun c_1 => ?_)
  · exact absurd (c_1.symm.trans (iw_n (by decide) (by decide) (by decide))) (by decide)
  refine lv_iload_n hx hb dX4_flagOffline_7 rfl (lv_at hl 3 rfl) ?_
  refine n_iconst (k := 0) hx hb dX4_flagOffline_8 (by decide) ?_
  refine n_iconst (k := 3) hx hb dX4_flagOffline_9 (by decide) ?_
  refine roS1 (v := .int (b2i (iw (nI (k9)) (nI (0)) (nI (3))))) (As := [.int (nI (k9)), .int (nI (0)), .int (nI (3))]) (rest := []) (n := 3) ⟨hx, hb, hml, hown, htA⟩ (m_in l D cI cZ sa (nI (k9)) (nI (0)) (nI (3)) s.heap ) (va_cwS 3 htA (gdS wd_732 wd_733 wd_5 wd_734) rfl rfl rfl (by decide +kernel) ⟨Nat.le_of_ble_eq_true rfl, Nat.le_of_ble_eq_true rfl⟩) hKK rfl hl.1 rfl (Nat.le_of_ble_eq_true rfl) dX4_flagOffline_10 (Nat.zero_le _) (Nat.zero_le _) ?_
  refine b_ifeq (b := iw (nI (k9)) (nI (0)) (nI (3))) (tgt := 26) hx hb dX4_flagOffline_13 (by decide) (fun c_2 => ?_) (fun c_2 => ?_)
  · exact absurd (c_2.symm.trans (iw_n (Nat.zero_le _) (by omega) (by decide))) (by decide)
  refine lv_aload_n hx hb dX4_flagOffline_16 rfl (lv_at hl 0 rfl) ?_
  refine lv_iload_n hx hb dX4_flagOffline_17 rfl (lv_at hl 1 rfl) ?_
  refine lv_iload_n hx hb dX4_flagOffline_18 rfl (lv_at hl 2 rfl) ?_
  refine roV1 (v := .int (oi (wpl μ 0 (x) (μ 16 0)))) (As := [.int (nI (0)), .int (x)]) (rest := []) (n := 2) ⟨hx, hb, hml, hown, htA⟩ (m_windowPlace0 l D cI cZ sa q μ (x) s.heap hP h10) (cwV 2 htA (gdV wd_880 wd_882 wp_24 wd_5 wd_883) rfl rfl rfl (by decide +kernel) ⟨Nat.le_of_ble_eq_true rfl, Nat.le_of_ble_eq_true rfl⟩) hKK hP 0 rfl rfl rfl hl.1 rfl (Nat.le_of_ble_eq_true rfl) dX4_flagOffline_19 (Nat.zero_le _) (Nat.zero_le _) ?_
  refine lv_iconst (v := oi 0) hx hb dX4_flagOffline_22 (by decide) ?_
  refine k_icmp_ne (x := wpl μ 0 (x) (μ 16 0)) (y := 0) (tgt := 30) hx hb dX4_flagOffline_23 (by decide) (Nat.le_trans (wpl_le _) (by omega)) (by decide) (fun c_3 => ?_) (fun c_3 => ?_)
  rotate_left
  · exact absurd c_3 hz
  refine lv_aload_n hx hb dX4_flagOffline_30 rfl (lv_at hl 0 rfl) ?_
  refine va_get (D := D) (ci := 4) (v := .ref (q 19)) (C := RX4) (T := TX4) (N := 26) hx hb htA uwX4 hown hKK.1 hP 0 rfl rfl 20 (by decide) (htA _ wd_665) (fun _ h9 => h9) rfl dX4_flagOffline_31 ?_
  refine lv_iload_n hx hb dX4_flagOffline_34 rfl (lv_at hl 1 rfl) ?_
  refine n_iald (g := μ 19) (cA := cI) (n := 2) (j := 0) hx hb hKK.1 hP 19 0 rfl rfl (by decide) (Nat.le_of_ble_eq_true rfl) dX4_flagOffline_35 ?_
  refine lv_bipush (v := nI 10) hx hb dX4_flagOffline_36 (by decide) ?_
  refine n_icmp_ne (x := μ 19 0) (y := 10) (tgt := 45) hx hb dX4_flagOffline_38 (by decide) (by omega) (by decide) (fun c_4 => ?_) (fun c_4 => ?_)
  · exfalso; omega
  refine n_iconst (k := 2) hx hb dX4_flagOffline_41 (by decide) ?_
  refine lv_goto (tgt := 46) hx hb dX4_flagOffline_42 (by decide) ?_
  refine lv_istore (lv' := [(5, .int (nI (2))), (0, .ref (q 0)), (1, .int (nI (0))), (2, .int (x)), (3, .int (nI (k9))), (4, .int (nI (w0)))]) hx hb dX4_flagOffline_46 hl (by decide) rfl (fun ls hl => ?_)
  refine lv_aload_n hx hb dX4_flagOffline_48 rfl (lv_at hl 1 rfl) ?_
  refine lv_iload hx hb dX4_flagOffline_49 (lv_at hl 0 rfl) ?_
  refine wrV1 (v := .int (b2i (false))) (As := [.int (nI (2))]) (rest := []) (n := 1) ⟨hx, hb, hml, hown, htA⟩ (m_unfine l D cI cZ sa q μ 2 A (D_addr hD rfl) (by decide) (by decide)) (cwV 1 htA (gdV wd_735 wd_737 wp_9 wd_5 wd_738) rfl rfl rfl (by decide +kernel) ⟨Nat.le_of_ble_eq_true rfl, Nat.le_of_ble_eq_true rfl⟩) hKK hP 0 rfl rfl rfl hl.1 rfl (Nat.le_of_ble_eq_true rfl) dX4_flagOffline_51 (Nat.zero_le _) (Nat.zero_le _) hS (fun _ h => h) (fun H1 locs hP1 hz1 hk1 hS => ?_)
  have hP : va_P D vwCl (wM q cI cZ (sv μ 0 2 (2))) H1 := hP1
  generalize H1 = H at hP hS ⊢
  refine b_ifne (b := false) (tgt := 59) hx hb dX4_flagOffline_54 (by decide) (fun c_5 => ?_) (fun c_5 => ?_)
  · exact absurd c_5 (by decide)
  refine n_iconst (k := 0) hx hb dX4_flagOffline_57 (by decide) ?_
  exact wr_i hx hb hr hlocks (rfl) hP hS dX4_flagOffline_58
set_option maxHeartbeats 4000000 in
set_option maxRecDepth 100000 in
theorem r_flagOffline_ok0 (l : Launch) (D : va_G) (cI cZ : ClassId) (sa : Nat → Nat) (q : Nat → Nat) (μ : ST) (j k9 w0 : Nat) (A : Nat → Prop) (hD : va_D A (wM q cI cZ μ)) (hk9 : k9 < 4) (h10 : μ 16 0 ≤ 10) (hz : wpl μ 0 (nI (j)) (μ 16 0) ≠ 0) (hfl : μ 19 0 < 10) (h15 : ∀ i, μ 18 i < 16) (hw : w0 < 2) : Met l yX4_flagOffline (codeW yX4_flagOffline cX4_flagOffline 8 (some .int)) ({ frames := 2, cells := 0, slots := 0, locals := 42 } : Room) (WrP D cI cZ sa (wM q cI cZ μ) [.ref (q 0), .int (nI (0)), .int (nI (j)), .int (nI (k9)), .int (nI (w0))]) (WrQ (some (.int (nI (μ 19 0 + 1)))) D (wM q cI cZ (flo μ 0 j k9 w0 (wpl μ 0 (nI (j)) (μ 16 0) - 1))) A) 0 0 A := by
  refine Met.ofW (cc := cX4_flagOffline) (maxL := 8) (ret := (some .int)) (by decide) rfl ?_
  intro p e s m args below meth c s₁ B hml hv
  obtain ⟨rfl, hH, hKK⟩ := hv
  have hx := B.exec
  have hb := B.bytes
  have hr := B.returns
  have htA : ∀ w ∈ WA, w.before _ s = true := fun w h => atoms_spec (ws := (codeW yX4_flagOffline cX4_flagOffline 8 (some .int))) B.pre w (List.mem_cons_of_mem _ h)
  have hown : s.vm.findClass RX4 = some m.cls := findClass_of_methodNamed B.named
  have hlocks := B.notSynchronized
  have hP := hH
  have hS : va_S A s.heap s.heap [] := va_S.rf
  have hl := lv_entry ([.ref (q 0), .int (nI (0)), .int (nI (j)), .int (nI (k9)), .int (nI (w0))]) (n := 8) (Nat.le_of_ble_eq_true rfl)
  rw [lg_entry_eq]
  generalize (lg_sl ([.ref (q 0), .int (nI (0)), .int (nI (j)), .int (nI (k9)), .int (nI (w0))]) ++ List.replicate (8 - (lg_sl ([.ref (q 0), .int (nI (0)), .int (nI (j)), .int (nI (k9)), .int (nI (w0))])).length) Slot.unset).toArray = ls at hl ⊢
  have hl : lv_has ls 8 [(0, .ref (q 0)), (1, .int (nI (0))), (2, .int (nI (j))), (3, .int (nI (k9))), (4, .int (nI (w0)))] := hl
  have hpl9 := wpl_le (μ := μ) (cl := 0) (x := nI (j)) (μ 16 0)
  refine lv_iload_n hx hb dX4_flagOffline_0 rfl (lv_at hl 1 rfl) ?_
  refine roS1 (v := .int (b2i (iw (nI (0)) (nI (0)) (nI (1))))) (As := [.int (nI (0))]) (rest := []) (n := 1) ⟨hx, hb, hml, hown, htA⟩ (m_isClient l D cI cZ sa (nI (0)) s.heap ) (va_cwS 1 htA (gdS wd_873 wd_874 wd_5 wd_875) rfl rfl rfl (by decide +kernel) ⟨Nat.le_of_ble_eq_true rfl, Nat.le_of_ble_eq_true rfl⟩) hKK rfl hl.1 rfl (Nat.le_of_ble_eq_true rfl) dX4_flagOffline_1 (Nat.zero_le _) (Nat.zero_le _) ?_
  refine b_ifeq (b := iw (nI (0)) (nI (0)) (nI (1))) (tgt := 26) hx hb dX4_flagOffline_4 (by decide) (fun c_1 => ?_) (fun c_1 => ?_)
  · exact absurd (c_1.symm.trans (iw_n (by decide) (by decide) (by decide))) (by decide)
  refine lv_iload_n hx hb dX4_flagOffline_7 rfl (lv_at hl 3 rfl) ?_
  refine n_iconst (k := 0) hx hb dX4_flagOffline_8 (by decide) ?_
  refine n_iconst (k := 3) hx hb dX4_flagOffline_9 (by decide) ?_
  refine roS1 (v := .int (b2i (iw (nI (k9)) (nI (0)) (nI (3))))) (As := [.int (nI (k9)), .int (nI (0)), .int (nI (3))]) (rest := []) (n := 3) ⟨hx, hb, hml, hown, htA⟩ (m_in l D cI cZ sa (nI (k9)) (nI (0)) (nI (3)) s.heap ) (va_cwS 3 htA (gdS wd_732 wd_733 wd_5 wd_734) rfl rfl rfl (by decide +kernel) ⟨Nat.le_of_ble_eq_true rfl, Nat.le_of_ble_eq_true rfl⟩) hKK rfl hl.1 rfl (Nat.le_of_ble_eq_true rfl) dX4_flagOffline_10 (Nat.zero_le _) (Nat.zero_le _) ?_
  refine b_ifeq (b := iw (nI (k9)) (nI (0)) (nI (3))) (tgt := 26) hx hb dX4_flagOffline_13 (by decide) (fun c_2 => ?_) (fun c_2 => ?_)
  · exact absurd (c_2.symm.trans (iw_n (Nat.zero_le _) (by omega) (by decide))) (by decide)
  refine lv_aload_n hx hb dX4_flagOffline_16 rfl (lv_at hl 0 rfl) ?_
  refine lv_iload_n hx hb dX4_flagOffline_17 rfl (lv_at hl 1 rfl) ?_
  refine lv_iload_n hx hb dX4_flagOffline_18 rfl (lv_at hl 2 rfl) ?_
  refine roV1 (v := .int (oi (wpl μ 0 (nI (j)) (μ 16 0)))) (As := [.int (nI (0)), .int (nI (j))]) (rest := []) (n := 2) ⟨hx, hb, hml, hown, htA⟩ (m_windowPlace0 l D cI cZ sa q μ (nI (j)) s.heap hP h10) (cwV 2 htA (gdV wd_880 wd_882 wp_24 wd_5 wd_883) rfl rfl rfl (by decide +kernel) ⟨Nat.le_of_ble_eq_true rfl, Nat.le_of_ble_eq_true rfl⟩) hKK hP 0 rfl rfl rfl hl.1 rfl (Nat.le_of_ble_eq_true rfl) dX4_flagOffline_19 (Nat.zero_le _) (Nat.zero_le _) ?_
  refine lv_iconst (v := oi 0) hx hb dX4_flagOffline_22 (by decide) ?_
  refine k_icmp_ne (x := wpl μ 0 (nI (j)) (μ 16 0)) (y := 0) (tgt := 30) hx hb dX4_flagOffline_23 (by decide) (Nat.le_trans (wpl_le _) (by omega)) (by decide) (fun c_3 => ?_) (fun c_3 => ?_)
  rotate_left
  · exact absurd c_3 hz
  refine lv_aload_n hx hb dX4_flagOffline_30 rfl (lv_at hl 0 rfl) ?_
  refine va_get (D := D) (ci := 4) (v := .ref (q 19)) (C := RX4) (T := TX4) (N := 26) hx hb htA uwX4 hown hKK.1 hP 0 rfl rfl 20 (by decide) (htA _ wd_665) (fun _ h9 => h9) rfl dX4_flagOffline_31 ?_
  refine lv_iload_n hx hb dX4_flagOffline_34 rfl (lv_at hl 1 rfl) ?_
  refine n_iald (g := μ 19) (cA := cI) (n := 2) (j := 0) hx hb hKK.1 hP 19 0 rfl rfl (by decide) (Nat.le_of_ble_eq_true rfl) dX4_flagOffline_35 ?_
  refine lv_bipush (v := nI 10) hx hb dX4_flagOffline_36 (by decide) ?_
  refine n_icmp_ne (x := μ 19 0) (y := 10) (tgt := 45) hx hb dX4_flagOffline_38 (by decide) (by omega) (by decide) (fun c_4 => ?_) (fun c_4 => ?_)
  rotate_left
  · exfalso; omega
  refine n_iconst (k := 0) hx hb dX4_flagOffline_45 (by decide) ?_
  refine lv_istore (lv' := [(5, .int (nI (0))), (0, .ref (q 0)), (1, .int (nI (0))), (2, .int (nI (j))), (3, .int (nI (k9))), (4, .int (nI (w0)))]) hx hb dX4_flagOffline_46 hl (by decide) rfl (fun ls hl => ?_)
  refine lv_aload_n hx hb dX4_flagOffline_48 rfl (lv_at hl 1 rfl) ?_
  refine lv_iload hx hb dX4_flagOffline_49 (lv_at hl 0 rfl) ?_
  refine wrV1 (v := .int (b2i (true))) (As := [.int (nI (0))]) (rest := []) (n := 1) ⟨hx, hb, hml, hown, htA⟩ (m_fine l D cI cZ sa q μ A (D_addr hD rfl) ) (cwV 1 htA (gdV wd_735 wd_737 wp_9 wd_5 wd_738) rfl rfl rfl (by decide +kernel) ⟨Nat.le_of_ble_eq_true rfl, Nat.le_of_ble_eq_true rfl⟩) hKK hP 0 rfl rfl rfl hl.1 rfl (Nat.le_of_ble_eq_true rfl) dX4_flagOffline_51 (Nat.zero_le _) (Nat.zero_le _) hS (fun _ h => h) (fun H1 locs hP1 hz1 hk1 hS => ?_)
  have hP : va_P D vwCl (wM q cI cZ (sv μ 0 2 (0))) H1 := hP1
  generalize H1 = H at hP hS ⊢
  refine b_ifne (b := true) (tgt := 59) hx hb dX4_flagOffline_54 (by decide) (fun c_5 => ?_) (fun c_5 => ?_)
  rotate_left
  · exact absurd c_5 (by decide)
  refine lv_bipush (v := nI 10) hx hb dX4_flagOffline_59 (by decide) ?_
  refine lv_iload_n hx hb dX4_flagOffline_61 rfl (lv_at hl 2 rfl) ?_
  refine n_imul hx hb dX4_flagOffline_62 ?_
  refine lv_aload_n hx hb dX4_flagOffline_63 rfl (lv_at hl 1 rfl) ?_
  refine va_get (D := D) (ci := 4) (v := .ref (q 19)) (C := RX4) (T := TX4) (N := 26) hx hb htA uwX4 hown hKK.1 hP 0 rfl rfl 20 (by decide) (htA _ wd_665) (fun _ h9 => h9) rfl dX4_flagOffline_64 ?_
  refine lv_iload_n hx hb dX4_flagOffline_67 rfl (lv_at hl 2 rfl) ?_
  refine n_iald (g := μ 19) (cA := cI) (n := 2) (j := 0) hx hb hKK.1 hP 19 0 rfl rfl (by decide) (Nat.le_of_ble_eq_true rfl) dX4_flagOffline_68 ?_
  refine n_iadd hx hb dX4_flagOffline_69 ?_
  refine lv_istore (lv' := [(6, .int (nI ((10 * 0) + (μ 19 0)))), (5, .int (nI (0))), (0, .ref (q 0)), (1, .int (nI (0))), (2, .int (nI (j))), (3, .int (nI (k9))), (4, .int (nI (w0)))]) hx hb dX4_flagOffline_70 hl (by decide) rfl (fun ls hl => ?_)
  refine lv_aload_n hx hb dX4_flagOffline_72 rfl (lv_at hl 2 rfl) ?_
  refine va_get (D := D) (ci := 4) (v := .ref (q 20)) (C := RX4) (T := TX4) (N := 26) hx hb htA uwX4 hown hKK.1 hP 0 rfl rfl 21 (by decide) (htA _ wd_666) (fun _ h9 => h9) rfl dX4_flagOffline_73 ?_
  refine lv_iload hx hb dX4_flagOffline_76 (lv_at hl 0 rfl) ?_
  refine lv_iload_n hx hb dX4_flagOffline_78 rfl (lv_at hl 4 rfl) ?_
  refine n_iast (g := μ 20) (cA := cI) (n := 20) (j := (10 * 0) + (μ 19 0)) (v := j) hx hb hKK.1 hP (D_addr hD rfl) hS 20 0 rfl rfl (by omega) (Nat.le_of_ble_eq_true rfl) dX4_flagOffline_79 (fun H locs hP hS => ?_)
  have hP : va_P D vwCl (wM q cI cZ (su (sv μ 0 2 (0)) 20 (upN (μ 20) ((10 * 0) + (μ 19 0)) (j)))) H := hP
  refine lv_aload_n hx hb dX4_flagOffline_80 rfl (lv_at hl 2 rfl) ?_
  refine va_get (D := D) (ci := 4) (v := .ref (q 21)) (C := RX4) (T := TX4) (N := 26) hx hb htA uwX4 hown hKK.1 hP 0 rfl rfl 22 (by decide) (htA _ wd_667) (fun _ h9 => h9) rfl dX4_flagOffline_81 ?_
  refine lv_iload hx hb dX4_flagOffline_84 (lv_at hl 0 rfl) ?_
  refine lv_iload_n hx hb dX4_flagOffline_86 rfl (lv_at hl 5 rfl) ?_
  refine n_iast (g := μ 21) (cA := cI) (n := 20) (j := (10 * 0) + (μ 19 0)) (v := k9) hx hb hKK.1 hP (D_addr hD rfl) hS 21 0 rfl rfl (by omega) (Nat.le_of_ble_eq_true rfl) dX4_flagOffline_87 (fun H locs hP hS => ?_)
  have hP : va_P D vwCl (wM q cI cZ (su (su (sv μ 0 2 (0)) 20 (upN (μ 20) ((10 * 0) + (μ 19 0)) (j))) 21 (upN (μ 21) ((10 * 0) + (μ 19 0)) (k9)))) H := hP
  refine lv_aload_n hx hb dX4_flagOffline_88 rfl (lv_at hl 2 rfl) ?_
  refine va_get (D := D) (ci := 4) (v := .ref (q 22)) (C := RX4) (T := TX4) (N := 26) hx hb htA uwX4 hown hKK.1 hP 0 rfl rfl 23 (by decide) (htA _ wd_668) (fun _ h9 => h9) rfl dX4_flagOffline_89 ?_
  refine lv_iload hx hb dX4_flagOffline_92 (lv_at hl 0 rfl) ?_
  refine lv_iload hx hb dX4_flagOffline_94 (lv_at hl 6 rfl) ?_
  refine n_zast (g := μ 22) (cA := cZ) (n := 20) (j := (10 * 0) + (μ 19 0)) (v := w0) hx hb hKK.1 hP (D_addr hD rfl) hS 22 1 rfl rfl hw (by omega) (Nat.le_of_ble_eq_true rfl) dX4_flagOffline_96 (fun H locs hP hS => ?_)
  have hP : va_P D vwCl (wM q cI cZ (su (su (su (sv μ 0 2 (0)) 20 (upN (μ 20) ((10 * 0) + (μ 19 0)) (j))) 21 (upN (μ 21) ((10 * 0) + (μ 19 0)) (k9))) 22 (upN (μ 22) ((10 * 0) + (μ 19 0)) (w0)))) H := hP
  refine lv_aload_n hx hb dX4_flagOffline_97 rfl (lv_at hl 2 rfl) ?_
  refine va_get (D := D) (ci := 4) (v := .ref (q 19)) (C := RX4) (T := TX4) (N := 26) hx hb htA uwX4 hown hKK.1 hP 0 rfl rfl 20 (by decide) (htA _ wd_665) (fun _ h9 => h9) rfl dX4_flagOffline_98 ?_
  refine lv_iload_n hx hb dX4_flagOffline_101 rfl (lv_at hl 3 rfl) ?_
  refine lv_dup2_11 hx hb dX4_flagOffline_102 rfl rfl ?_
  refine n_iald (g := μ 19) (cA := cI) (n := 2) (j := 0) hx hb hKK.1 hP 19 0 rfl rfl (by decide) (Nat.le_of_ble_eq_true rfl) dX4_flagOffline_103 ?_
  refine n_iconst (k := 1) hx hb dX4_flagOffline_104 (by decide) ?_
  refine n_iadd hx hb dX4_flagOffline_105 ?_
  refine n_iast (g := μ 19) (cA := cI) (n := 2) (j := 0) (v := (μ 19 0) + 1) hx hb hKK.1 hP (D_addr hD rfl) hS 19 0 rfl rfl (by decide) (Nat.le_of_ble_eq_true rfl) dX4_flagOffline_106 (fun H locs hP hS => ?_)
  have hP : va_P D vwCl (wM q cI cZ (su (su (su (su (sv μ 0 2 (0)) 20 (upN (μ 20) ((10 * 0) + (μ 19 0)) (j))) 21 (upN (μ 21) ((10 * 0) + (μ 19 0)) (k9))) 22 (upN (μ 22) ((10 * 0) + (μ 19 0)) (w0))) 19 (upN (μ 19) (0) ((μ 19 0) + 1)))) H := hP
  refine lv_aload_n hx hb dX4_flagOffline_107 rfl (lv_at hl 2 rfl) ?_
  refine lv_iload_n hx hb dX4_flagOffline_108 rfl (lv_at hl 3 rfl) ?_
  refine lv_iload_n hx hb dX4_flagOffline_109 rfl (lv_at hl 4 rfl) ?_
  refine roV1 (v := .int (oi (wpl (su (su (su (su (sv μ 0 2 (0)) 20 (upN (μ 20) ((10 * 0) + (μ 19 0)) (j))) 21 (upN (μ 21) ((10 * 0) + (μ 19 0)) (k9))) 22 (upN (μ 22) ((10 * 0) + (μ 19 0)) (w0))) 19 (upN (μ 19) (0) ((μ 19 0) + 1))) 0 (nI (j)) (μ 16 0)))) (As := [.int (nI (0)), .int (nI (j))]) (rest := []) (n := 2) ⟨hx, hb, hml, hown, htA⟩ (m_windowPlace0 l D cI cZ sa q (su (su (su (su (sv μ 0 2 (0)) 20 (upN (μ 20) ((10 * 0) + (μ 19 0)) (j))) 21 (upN (μ 21) ((10 * 0) + (μ 19 0)) (k9))) 22 (upN (μ 22) ((10 * 0) + (μ 19 0)) (w0))) 19 (upN (μ 19) (0) ((μ 19 0) + 1))) (nI (j)) H hP h10) (cwV 2 htA (gdV wd_880 wd_882 wp_24 wd_5 wd_883) rfl rfl rfl (by decide +kernel) ⟨Nat.le_of_ble_eq_true rfl, Nat.le_of_ble_eq_true rfl⟩) hKK hP 0 rfl rfl rfl hl.1 rfl (Nat.le_of_ble_eq_true rfl) dX4_flagOffline_110 (Nat.zero_le _) (Nat.zero_le _) ?_
  rw [show oi (wpl (su (su (su (su (sv μ 0 2 (0)) 20 (upN (μ 20) ((10 * 0) + (μ 19 0)) (j))) 21 (upN (μ 21) ((10 * 0) + (μ 19 0)) (k9))) 22 (upN (μ 22) ((10 * 0) + (μ 19 0)) (w0))) 19 (upN (μ 19) (0) ((μ 19 0) + 1))) 0 (nI (j)) (μ 16 0)) = nI (wpl μ 0 (nI (j)) (μ 16 0) - 1) from (congrArg oi (wpl_eq (μ := su (su (su (su (sv μ 0 2 (0)) 20 (upN (μ 20) ((10 * 0) + (μ 19 0)) (j))) 21 (upN (μ 21) ((10 * 0) + (μ 19 0)) (k9))) 22 (upN (μ 22) ((10 * 0) + (μ 19 0)) (w0))) 19 (upN (μ 19) (0) ((μ 19 0) + 1))) (ν := μ) rfl _)).trans (oi_pos hz)]
  refine lv_istore (lv' := [(7, .int (nI (wpl μ 0 (nI (j)) (μ 16 0) - 1))), (6, .int (nI ((10 * 0) + (μ 19 0)))), (5, .int (nI (0))), (0, .ref (q 0)), (1, .int (nI (0))), (2, .int (nI (j))), (3, .int (nI (k9))), (4, .int (nI (w0)))]) hx hb dX4_flagOffline_113 hl (by decide) rfl (fun ls hl => ?_)
  refine lv_aload_n hx hb dX4_flagOffline_115 rfl (lv_at hl 3 rfl) ?_
  refine va_get (D := D) (ci := 4) (v := .ref (q 18)) (C := RX4) (T := TX4) (N := 26) hx hb htA uwX4 hown hKK.1 hP 0 rfl rfl 19 (by decide) (htA _ wd_664) (fun _ h9 => h9) rfl dX4_flagOffline_116 ?_
  refine lv_iload hx hb dX4_flagOffline_119 (lv_at hl 0 rfl) ?_
  refine lv_iload hx hb dX4_flagOffline_121 (lv_at hl 7 rfl) ?_
  refine n_ifeq (x := w0) (tgt := 140) hx hb dX4_flagOffline_123 (by decide) (by omega) (fun c_6 => ?_) (fun c_6 => ?_)
  · refine lv_aload_n hx hb dX4_flagOffline_140 rfl (lv_at hl 3 rfl) ?_
    refine va_get (D := D) (ci := 4) (v := .ref (q 18)) (C := RX4) (T := TX4) (N := 26) hx hb htA uwX4 hown hKK.1 hP 0 rfl rfl 19 (by decide) (htA _ wd_664) (fun _ h9 => h9) rfl dX4_flagOffline_141 ?_
    refine lv_iload hx hb dX4_flagOffline_144 (lv_at hl 0 rfl) ?_
    refine n_iald (g := μ 18) (cA := cI) (n := 20) (j := wpl μ 0 (nI (j)) (μ 16 0) - 1) hx hb hKK.1 hP 18 0 rfl rfl (by omega) (Nat.le_of_ble_eq_true rfl) dX4_flagOffline_146 ?_
    refine n_iconst (k := 1) hx hb dX4_flagOffline_147 (by decide) ?_
    refine lv_iload_n hx hb dX4_flagOffline_148 rfl (lv_at hl 6 rfl) ?_
    refine n_ishl1 hx hb (y := k9) (by omega) dX4_flagOffline_149 ?_
    refine lv_iconst (v := oi 0) hx hb dX4_flagOffline_150 (by decide) ?_
    refine lv_ixor hx hb dX4_flagOffline_151 ?_
    refine lv_iand hx hb dX4_flagOffline_152 ?_
    rw [show (nI (μ 18 (wpl μ 0 (nI (j)) (μ 16 0) - 1))) &&& ((nI (2 ^ k9)) ^^^ (oi (0))) = nI (wn (μ 18 (wpl μ 0 (nI (j)) (μ 16 0) - 1)) k9 (nb w0)) from (wn_clr (h15 _) hk9).trans (by rw [show nb w0 = false from by simp [nb, c_6]])]
    refine n_iast (g := μ 18) (cA := cI) (n := 20) (j := wpl μ 0 (nI (j)) (μ 16 0) - 1) (v := wn (μ 18 (wpl μ 0 (nI (j)) (μ 16 0) - 1)) k9 (nb w0)) hx hb hKK.1 hP (D_addr hD rfl) hS 18 0 rfl rfl (by omega) (Nat.le_of_ble_eq_true rfl) dX4_flagOffline_153 (fun H locs hP hS => ?_)
    have hP : va_P D vwCl (wM q cI cZ (su (su (su (su (su (sv μ 0 2 (0)) 20 (upN (μ 20) ((10 * 0) + (μ 19 0)) (j))) 21 (upN (μ 21) ((10 * 0) + (μ 19 0)) (k9))) 22 (upN (μ 22) ((10 * 0) + (μ 19 0)) (w0))) 19 (upN (μ 19) (0) ((μ 19 0) + 1))) 18 (upN (μ 18) (wpl μ 0 (nI (j)) (μ 16 0) - 1) (wn (μ 18 (wpl μ 0 (nI (j)) (μ 16 0) - 1)) k9 (nb w0))))) H := hP
    refine lv_aload_n hx hb dX4_flagOffline_154 rfl (lv_at hl 3 rfl) ?_
    refine va_get (D := D) (ci := 4) (v := .ref (q 19)) (C := RX4) (T := TX4) (N := 26) hx hb htA uwX4 hown hKK.1 hP 0 rfl rfl 20 (by decide) (htA _ wd_665) (fun _ h9 => h9) rfl dX4_flagOffline_155 ?_
    refine lv_iload_n hx hb dX4_flagOffline_158 rfl (lv_at hl 4 rfl) ?_
    refine n_iald (g := upN (μ 19) (0) ((μ 19 0) + 1)) (cA := cI) (n := 2) (j := 0) hx hb hKK.1 hP 19 0 rfl rfl (by decide) (Nat.le_of_ble_eq_true rfl) dX4_flagOffline_159 ?_
    exact wr_i hx hb hr hlocks (rfl) hP hS dX4_flagOffline_160
  · refine lv_aload_n hx hb dX4_flagOffline_126 rfl (lv_at hl 3 rfl) ?_
    refine va_get (D := D) (ci := 4) (v := .ref (q 18)) (C := RX4) (T := TX4) (N := 26) hx hb htA uwX4 hown hKK.1 hP 0 rfl rfl 19 (by decide) (htA _ wd_664) (fun _ h9 => h9) rfl dX4_flagOffline_127 ?_
    refine lv_iload hx hb dX4_flagOffline_130 (lv_at hl 0 rfl) ?_
    refine n_iald (g := μ 18) (cA := cI) (n := 20) (j := wpl μ 0 (nI (j)) (μ 16 0) - 1) hx hb hKK.1 hP 18 0 rfl rfl (by omega) (Nat.le_of_ble_eq_true rfl) dX4_flagOffline_132 ?_
    refine n_iconst (k := 1) hx hb dX4_flagOffline_133 (by decide) ?_
    refine lv_iload_n hx hb dX4_flagOffline_134 rfl (lv_at hl 6 rfl) ?_
    refine n_ishl1 hx hb (y := k9) (by omega) dX4_flagOffline_135 ?_
    refine n_ior hx hb dX4_flagOffline_136 ?_
    refine lv_goto (tgt := 153) hx hb dX4_flagOffline_137 (by decide) ?_
    rw [show (μ 18 (wpl μ 0 (nI (j)) (μ 16 0) - 1)) ||| (2 ^ k9) = wn (μ 18 (wpl μ 0 (nI (j)) (μ 16 0) - 1)) k9 (nb w0) from by rw [show nb w0 = true from by simp [nb]; omega]; rfl]
    refine n_iast (g := μ 18) (cA := cI) (n := 20) (j := wpl μ 0 (nI (j)) (μ 16 0) - 1) (v := wn (μ 18 (wpl μ 0 (nI (j)) (μ 16 0) - 1)) k9 (nb w0)) hx hb hKK.1 hP (D_addr hD rfl) hS 18 0 rfl rfl (by omega) (Nat.le_of_ble_eq_true rfl) dX4_flagOffline_153 (fun H locs hP hS => ?_)
    have hP : va_P D vwCl (wM q cI cZ (su (su (su (su (su (sv μ 0 2 (0)) 20 (upN (μ 20) ((10 * 0) + (μ 19 0)) (j))) 21 (upN (μ 21) ((10 * 0) + (μ 19 0)) (k9))) 22 (upN (μ 22) ((10 * 0) + (μ 19 0)) (w0))) 19 (upN (μ 19) (0) ((μ 19 0) + 1))) 18 (upN (μ 18) (wpl μ 0 (nI (j)) (μ 16 0) - 1) (wn (μ 18 (wpl μ 0 (nI (j)) (μ 16 0) - 1)) k9 (nb w0))))) H := hP
    refine lv_aload_n hx hb dX4_flagOffline_154 rfl (lv_at hl 3 rfl) ?_
    refine va_get (D := D) (ci := 4) (v := .ref (q 19)) (C := RX4) (T := TX4) (N := 26) hx hb htA uwX4 hown hKK.1 hP 0 rfl rfl 20 (by decide) (htA _ wd_665) (fun _ h9 => h9) rfl dX4_flagOffline_155 ?_
    refine lv_iload_n hx hb dX4_flagOffline_158 rfl (lv_at hl 4 rfl) ?_
    refine n_iald (g := upN (μ 19) (0) ((μ 19 0) + 1)) (cA := cI) (n := 2) (j := 0) hx hb hKK.1 hP 19 0 rfl rfl (by decide) (Nat.le_of_ble_eq_true rfl) dX4_flagOffline_159 ?_
    exact wr_i hx hb hr hlocks (rfl) hP hS dX4_flagOffline_160
set_option maxHeartbeats 4000000 in
set_option maxRecDepth 100000 in
theorem r_flagOffline_no1 (l : Launch) (D : va_G) (cI cZ : ClassId) (sa : Nat → Nat) (q : Nat → Nat) (μ : ST) (x : Int32) (k9 w0 : Nat) (A : Nat → Prop) (hD : va_D A (wM q cI cZ μ)) (hk9 : k9 < 4) (h10 : μ 16 1 ≤ 10) (hz : wpl μ 1 (x) (μ 16 1) = 0) : Met l yX4_flagOffline (codeW yX4_flagOffline cX4_flagOffline 8 (some .int)) ({ frames := 2, cells := 0, slots := 0, locals := 42 } : Room) (WrP D cI cZ sa (wM q cI cZ μ) [.ref (q 0), .int (nI (1)), .int (x), .int (nI (k9)), .int (nI (w0))]) (WrQ (some (.int (nI (0)))) D (wM q cI cZ (sv μ 0 2 1)) A) 0 0 A := by
  refine Met.ofW (cc := cX4_flagOffline) (maxL := 8) (ret := (some .int)) (by decide) rfl ?_
  intro p e s m args below meth c s₁ B hml hv
  obtain ⟨rfl, hH, hKK⟩ := hv
  have hx := B.exec
  have hb := B.bytes
  have hr := B.returns
  have htA : ∀ w ∈ WA, w.before _ s = true := fun w h => atoms_spec (ws := (codeW yX4_flagOffline cX4_flagOffline 8 (some .int))) B.pre w (List.mem_cons_of_mem _ h)
  have hown : s.vm.findClass RX4 = some m.cls := findClass_of_methodNamed B.named
  have hlocks := B.notSynchronized
  have hP := hH
  have hS : va_S A s.heap s.heap [] := va_S.rf
  have hl := lv_entry ([.ref (q 0), .int (nI (1)), .int (x), .int (nI (k9)), .int (nI (w0))]) (n := 8) (Nat.le_of_ble_eq_true rfl)
  rw [lg_entry_eq]
  generalize (lg_sl ([.ref (q 0), .int (nI (1)), .int (x), .int (nI (k9)), .int (nI (w0))]) ++ List.replicate (8 - (lg_sl ([.ref (q 0), .int (nI (1)), .int (x), .int (nI (k9)), .int (nI (w0))])).length) Slot.unset).toArray = ls at hl ⊢
  have hl : lv_has ls 8 [(0, .ref (q 0)), (1, .int (nI (1))), (2, .int (x)), (3, .int (nI (k9))), (4, .int (nI (w0)))] := hl
  refine lv_iload_n hx hb dX4_flagOffline_0 rfl (lv_at hl 1 rfl) ?_
  refine roS1 (v := .int (b2i (iw (nI (1)) (nI (0)) (nI (1))))) (As := [.int (nI (1))]) (rest := []) (n := 1) ⟨hx, hb, hml, hown, htA⟩ (m_isClient l D cI cZ sa (nI (1)) s.heap ) (va_cwS 1 htA (gdS wd_873 wd_874 wd_5 wd_875) rfl rfl rfl (by decide +kernel) ⟨Nat.le_of_ble_eq_true rfl, Nat.le_of_ble_eq_true rfl⟩) hKK rfl hl.1 rfl (Nat.le_of_ble_eq_true rfl) dX4_flagOffline_1 (Nat.zero_le _) (Nat.zero_le _) ?_
  refine b_ifeq (b := iw (nI (1)) (nI (0)) (nI (1))) (tgt := 26) hx hb dX4_flagOffline_4 (by decide) (fun c_1 => ?_) (fun c_1 => ?_)
  · exact absurd (c_1.symm.trans (iw_n (by decide) (by decide) (by decide))) (by decide)
  refine lv_iload_n hx hb dX4_flagOffline_7 rfl (lv_at hl 3 rfl) ?_
  refine n_iconst (k := 0) hx hb dX4_flagOffline_8 (by decide) ?_
  refine n_iconst (k := 3) hx hb dX4_flagOffline_9 (by decide) ?_
  refine roS1 (v := .int (b2i (iw (nI (k9)) (nI (0)) (nI (3))))) (As := [.int (nI (k9)), .int (nI (0)), .int (nI (3))]) (rest := []) (n := 3) ⟨hx, hb, hml, hown, htA⟩ (m_in l D cI cZ sa (nI (k9)) (nI (0)) (nI (3)) s.heap ) (va_cwS 3 htA (gdS wd_732 wd_733 wd_5 wd_734) rfl rfl rfl (by decide +kernel) ⟨Nat.le_of_ble_eq_true rfl, Nat.le_of_ble_eq_true rfl⟩) hKK rfl hl.1 rfl (Nat.le_of_ble_eq_true rfl) dX4_flagOffline_10 (Nat.zero_le _) (Nat.zero_le _) ?_
  refine b_ifeq (b := iw (nI (k9)) (nI (0)) (nI (3))) (tgt := 26) hx hb dX4_flagOffline_13 (by decide) (fun c_2 => ?_) (fun c_2 => ?_)
  · exact absurd (c_2.symm.trans (iw_n (Nat.zero_le _) (by omega) (by decide))) (by decide)
  refine lv_aload_n hx hb dX4_flagOffline_16 rfl (lv_at hl 0 rfl) ?_
  refine lv_iload_n hx hb dX4_flagOffline_17 rfl (lv_at hl 1 rfl) ?_
  refine lv_iload_n hx hb dX4_flagOffline_18 rfl (lv_at hl 2 rfl) ?_
  refine roV1 (v := .int (oi (wpl μ 1 (x) (μ 16 1)))) (As := [.int (nI (1)), .int (x)]) (rest := []) (n := 2) ⟨hx, hb, hml, hown, htA⟩ (m_windowPlace1 l D cI cZ sa q μ (x) s.heap hP h10) (cwV 2 htA (gdV wd_880 wd_882 wp_24 wd_5 wd_883) rfl rfl rfl (by decide +kernel) ⟨Nat.le_of_ble_eq_true rfl, Nat.le_of_ble_eq_true rfl⟩) hKK hP 0 rfl rfl rfl hl.1 rfl (Nat.le_of_ble_eq_true rfl) dX4_flagOffline_19 (Nat.zero_le _) (Nat.zero_le _) ?_
  refine lv_iconst (v := oi 0) hx hb dX4_flagOffline_22 (by decide) ?_
  refine k_icmp_ne (x := wpl μ 1 (x) (μ 16 1)) (y := 0) (tgt := 30) hx hb dX4_flagOffline_23 (by decide) (Nat.le_trans (wpl_le _) (by omega)) (by decide) (fun c_3 => ?_) (fun c_3 => ?_)
  · exact absurd hz c_3
  refine n_iconst (k := 1) hx hb dX4_flagOffline_26 (by decide) ?_
  refine lv_goto (tgt := 46) hx hb dX4_flagOffline_27 (by decide) ?_
  refine lv_istore (lv' := [(5, .int (nI (1))), (0, .ref (q 0)), (1, .int (nI (1))), (2, .int (x)), (3, .int (nI (k9))), (4, .int (nI (w0)))]) hx hb dX4_flagOffline_46 hl (by decide) rfl (fun ls hl => ?_)
  refine lv_aload_n hx hb dX4_flagOffline_48 rfl (lv_at hl 1 rfl) ?_
  refine lv_iload hx hb dX4_flagOffline_49 (lv_at hl 0 rfl) ?_
  refine wrV1 (v := .int (b2i (false))) (As := [.int (nI (1))]) (rest := []) (n := 1) ⟨hx, hb, hml, hown, htA⟩ (m_unfine l D cI cZ sa q μ 1 A (D_addr hD rfl) (by decide) (by decide)) (cwV 1 htA (gdV wd_735 wd_737 wp_9 wd_5 wd_738) rfl rfl rfl (by decide +kernel) ⟨Nat.le_of_ble_eq_true rfl, Nat.le_of_ble_eq_true rfl⟩) hKK hP 0 rfl rfl rfl hl.1 rfl (Nat.le_of_ble_eq_true rfl) dX4_flagOffline_51 (Nat.zero_le _) (Nat.zero_le _) hS (fun _ h => h) (fun H1 locs hP1 hz1 hk1 hS => ?_)
  have hP : va_P D vwCl (wM q cI cZ (sv μ 0 2 (1))) H1 := hP1
  generalize H1 = H at hP hS ⊢
  refine b_ifne (b := false) (tgt := 59) hx hb dX4_flagOffline_54 (by decide) (fun c_4 => ?_) (fun c_4 => ?_)
  · exact absurd c_4 (by decide)
  refine n_iconst (k := 0) hx hb dX4_flagOffline_57 (by decide) ?_
  exact wr_i hx hb hr hlocks (rfl) hP hS dX4_flagOffline_58
set_option maxHeartbeats 4000000 in
set_option maxRecDepth 100000 in
theorem r_flagOffline_full1 (l : Launch) (D : va_G) (cI cZ : ClassId) (sa : Nat → Nat) (q : Nat → Nat) (μ : ST) (x : Int32) (k9 w0 : Nat) (A : Nat → Prop) (hD : va_D A (wM q cI cZ μ)) (hk9 : k9 < 4) (h10 : μ 16 1 ≤ 10) (hz : wpl μ 1 (x) (μ 16 1) ≠ 0) (hfl : μ 19 1 = 10) : Met l yX4_flagOffline (codeW yX4_flagOffline cX4_flagOffline 8 (some .int)) ({ frames := 2, cells := 0, slots := 0, locals := 42 } : Room) (WrP D cI cZ sa (wM q cI cZ μ) [.ref (q 0), .int (nI (1)), .int (x), .int (nI (k9)), .int (nI (w0))]) (WrQ (some (.int (nI (0)))) D (wM q cI cZ (sv μ 0 2 2)) A) 0 0 A := by
  refine Met.ofW (cc := cX4_flagOffline) (maxL := 8) (ret := (some .int)) (by decide) rfl ?_
  intro p e s m args below meth c s₁ B hml hv
  obtain ⟨rfl, hH, hKK⟩ := hv
  have hx := B.exec
  have hb := B.bytes
  have hr := B.returns
  have htA : ∀ w ∈ WA, w.before _ s = true := fun w h => atoms_spec (ws := (codeW yX4_flagOffline cX4_flagOffline 8 (some .int))) B.pre w (List.mem_cons_of_mem _ h)
  have hown : s.vm.findClass RX4 = some m.cls := findClass_of_methodNamed B.named
  have hlocks := B.notSynchronized
  have hP := hH
  have hS : va_S A s.heap s.heap [] := va_S.rf
  have hl := lv_entry ([.ref (q 0), .int (nI (1)), .int (x), .int (nI (k9)), .int (nI (w0))]) (n := 8) (Nat.le_of_ble_eq_true rfl)
  rw [lg_entry_eq]
  generalize (lg_sl ([.ref (q 0), .int (nI (1)), .int (x), .int (nI (k9)), .int (nI (w0))]) ++ List.replicate (8 - (lg_sl ([.ref (q 0), .int (nI (1)), .int (x), .int (nI (k9)), .int (nI (w0))])).length) Slot.unset).toArray = ls at hl ⊢
  have hl : lv_has ls 8 [(0, .ref (q 0)), (1, .int (nI (1))), (2, .int (x)), (3, .int (nI (k9))), (4, .int (nI (w0)))] := hl
  refine lv_iload_n hx hb dX4_flagOffline_0 rfl (lv_at hl 1 rfl) ?_
  refine roS1 (v := .int (b2i (iw (nI (1)) (nI (0)) (nI (1))))) (As := [.int (nI (1))]) (rest := []) (n := 1) ⟨hx, hb, hml, hown, htA⟩ (m_isClient l D cI cZ sa (nI (1)) s.heap ) (va_cwS 1 htA (gdS wd_873 wd_874 wd_5 wd_875) rfl rfl rfl (by decide +kernel) ⟨Nat.le_of_ble_eq_true rfl, Nat.le_of_ble_eq_true rfl⟩) hKK rfl hl.1 rfl (Nat.le_of_ble_eq_true rfl) dX4_flagOffline_1 (Nat.zero_le _) (Nat.zero_le _) ?_
  refine b_ifeq (b := iw (nI (1)) (nI (0)) (nI (1))) (tgt := 26) hx hb dX4_flagOffline_4 (by decide) (fun c_1 => ?_) (fun c_1 => ?_)
  · exact absurd (c_1.symm.trans (iw_n (by decide) (by decide) (by decide))) (by decide)
  refine lv_iload_n hx hb dX4_flagOffline_7 rfl (lv_at hl 3 rfl) ?_
  refine n_iconst (k := 0) hx hb dX4_flagOffline_8 (by decide) ?_
  refine n_iconst (k := 3) hx hb dX4_flagOffline_9 (by decide) ?_
  refine roS1 (v := .int (b2i (iw (nI (k9)) (nI (0)) (nI (3))))) (As := [.int (nI (k9)), .int (nI (0)), .int (nI (3))]) (rest := []) (n := 3) ⟨hx, hb, hml, hown, htA⟩ (m_in l D cI cZ sa (nI (k9)) (nI (0)) (nI (3)) s.heap ) (va_cwS 3 htA (gdS wd_732 wd_733 wd_5 wd_734) rfl rfl rfl (by decide +kernel) ⟨Nat.le_of_ble_eq_true rfl, Nat.le_of_ble_eq_true rfl⟩) hKK rfl hl.1 rfl (Nat.le_of_ble_eq_true rfl) dX4_flagOffline_10 (Nat.zero_le _) (Nat.zero_le _) ?_
  refine b_ifeq (b := iw (nI (k9)) (nI (0)) (nI (3))) (tgt := 26) hx hb dX4_flagOffline_13 (by decide) (fun c_2 => ?_) (fun c_2 => ?_)
  · exact absurd (c_2.symm.trans (iw_n (Nat.zero_le _) (by omega) (by decide))) (by decide)
  refine lv_aload_n hx hb dX4_flagOffline_16 rfl (lv_at hl 0 rfl) ?_
  refine lv_iload_n hx hb dX4_flagOffline_17 rfl (lv_at hl 1 rfl) ?_
  refine lv_iload_n hx hb dX4_flagOffline_18 rfl (lv_at hl 2 rfl) ?_
  refine roV1 (v := .int (oi (wpl μ 1 (x) (μ 16 1)))) (As := [.int (nI (1)), .int (x)]) (rest := []) (n := 2) ⟨hx, hb, hml, hown, htA⟩ (m_windowPlace1 l D cI cZ sa q μ (x) s.heap hP h10) (cwV 2 htA (gdV wd_880 wd_882 wp_24 wd_5 wd_883) rfl rfl rfl (by decide +kernel) ⟨Nat.le_of_ble_eq_true rfl, Nat.le_of_ble_eq_true rfl⟩) hKK hP 0 rfl rfl rfl hl.1 rfl (Nat.le_of_ble_eq_true rfl) dX4_flagOffline_19 (Nat.zero_le _) (Nat.zero_le _) ?_
  refine lv_iconst (v := oi 0) hx hb dX4_flagOffline_22 (by decide) ?_
  refine k_icmp_ne (x := wpl μ 1 (x) (μ 16 1)) (y := 0) (tgt := 30) hx hb dX4_flagOffline_23 (by decide) (Nat.le_trans (wpl_le _) (by omega)) (by decide) (fun c_3 => ?_) (fun c_3 => ?_)
  rotate_left
  · exact absurd c_3 hz
  refine lv_aload_n hx hb dX4_flagOffline_30 rfl (lv_at hl 0 rfl) ?_
  refine va_get (D := D) (ci := 4) (v := .ref (q 19)) (C := RX4) (T := TX4) (N := 26) hx hb htA uwX4 hown hKK.1 hP 0 rfl rfl 20 (by decide) (htA _ wd_665) (fun _ h9 => h9) rfl dX4_flagOffline_31 ?_
  refine lv_iload_n hx hb dX4_flagOffline_34 rfl (lv_at hl 1 rfl) ?_
  refine n_iald (g := μ 19) (cA := cI) (n := 2) (j := 1) hx hb hKK.1 hP 19 0 rfl rfl (by decide) (Nat.le_of_ble_eq_true rfl) dX4_flagOffline_35 ?_
  refine lv_bipush (v := nI 10) hx hb dX4_flagOffline_36 (by decide) ?_
  refine n_icmp_ne (x := μ 19 1) (y := 10) (tgt := 45) hx hb dX4_flagOffline_38 (by decide) (by omega) (by decide) (fun c_4 => ?_) (fun c_4 => ?_)
  · exfalso; omega
  refine n_iconst (k := 2) hx hb dX4_flagOffline_41 (by decide) ?_
  refine lv_goto (tgt := 46) hx hb dX4_flagOffline_42 (by decide) ?_
  refine lv_istore (lv' := [(5, .int (nI (2))), (0, .ref (q 0)), (1, .int (nI (1))), (2, .int (x)), (3, .int (nI (k9))), (4, .int (nI (w0)))]) hx hb dX4_flagOffline_46 hl (by decide) rfl (fun ls hl => ?_)
  refine lv_aload_n hx hb dX4_flagOffline_48 rfl (lv_at hl 1 rfl) ?_
  refine lv_iload hx hb dX4_flagOffline_49 (lv_at hl 0 rfl) ?_
  refine wrV1 (v := .int (b2i (false))) (As := [.int (nI (2))]) (rest := []) (n := 1) ⟨hx, hb, hml, hown, htA⟩ (m_unfine l D cI cZ sa q μ 2 A (D_addr hD rfl) (by decide) (by decide)) (cwV 1 htA (gdV wd_735 wd_737 wp_9 wd_5 wd_738) rfl rfl rfl (by decide +kernel) ⟨Nat.le_of_ble_eq_true rfl, Nat.le_of_ble_eq_true rfl⟩) hKK hP 0 rfl rfl rfl hl.1 rfl (Nat.le_of_ble_eq_true rfl) dX4_flagOffline_51 (Nat.zero_le _) (Nat.zero_le _) hS (fun _ h => h) (fun H1 locs hP1 hz1 hk1 hS => ?_)
  have hP : va_P D vwCl (wM q cI cZ (sv μ 0 2 (2))) H1 := hP1
  generalize H1 = H at hP hS ⊢
  refine b_ifne (b := false) (tgt := 59) hx hb dX4_flagOffline_54 (by decide) (fun c_5 => ?_) (fun c_5 => ?_)
  · exact absurd c_5 (by decide)
  refine n_iconst (k := 0) hx hb dX4_flagOffline_57 (by decide) ?_
  exact wr_i hx hb hr hlocks (rfl) hP hS dX4_flagOffline_58
set_option maxHeartbeats 4000000 in
set_option maxRecDepth 100000 in
theorem r_flagOffline_ok1 (l : Launch) (D : va_G) (cI cZ : ClassId) (sa : Nat → Nat) (q : Nat → Nat) (μ : ST) (j k9 w0 : Nat) (A : Nat → Prop) (hD : va_D A (wM q cI cZ μ)) (hk9 : k9 < 4) (h10 : μ 16 1 ≤ 10) (hz : wpl μ 1 (nI (j)) (μ 16 1) ≠ 0) (hfl : μ 19 1 < 10) (h15 : ∀ i, μ 18 i < 16) (hw : w0 < 2) : Met l yX4_flagOffline (codeW yX4_flagOffline cX4_flagOffline 8 (some .int)) ({ frames := 2, cells := 0, slots := 0, locals := 42 } : Room) (WrP D cI cZ sa (wM q cI cZ μ) [.ref (q 0), .int (nI (1)), .int (nI (j)), .int (nI (k9)), .int (nI (w0))]) (WrQ (some (.int (nI (μ 19 1 + 1)))) D (wM q cI cZ (flo μ 1 j k9 w0 (wpl μ 1 (nI (j)) (μ 16 1) - 1))) A) 0 0 A := by
  refine Met.ofW (cc := cX4_flagOffline) (maxL := 8) (ret := (some .int)) (by decide) rfl ?_
  intro p e s m args below meth c s₁ B hml hv
  obtain ⟨rfl, hH, hKK⟩ := hv
  have hx := B.exec
  have hb := B.bytes
  have hr := B.returns
  have htA : ∀ w ∈ WA, w.before _ s = true := fun w h => atoms_spec (ws := (codeW yX4_flagOffline cX4_flagOffline 8 (some .int))) B.pre w (List.mem_cons_of_mem _ h)
  have hown : s.vm.findClass RX4 = some m.cls := findClass_of_methodNamed B.named
  have hlocks := B.notSynchronized
  have hP := hH
  have hS : va_S A s.heap s.heap [] := va_S.rf
  have hl := lv_entry ([.ref (q 0), .int (nI (1)), .int (nI (j)), .int (nI (k9)), .int (nI (w0))]) (n := 8) (Nat.le_of_ble_eq_true rfl)
  rw [lg_entry_eq]
  generalize (lg_sl ([.ref (q 0), .int (nI (1)), .int (nI (j)), .int (nI (k9)), .int (nI (w0))]) ++ List.replicate (8 - (lg_sl ([.ref (q 0), .int (nI (1)), .int (nI (j)), .int (nI (k9)), .int (nI (w0))])).length) Slot.unset).toArray = ls at hl ⊢
  have hl : lv_has ls 8 [(0, .ref (q 0)), (1, .int (nI (1))), (2, .int (nI (j))), (3, .int (nI (k9))), (4, .int (nI (w0)))] := hl
  have hpl9 := wpl_le (μ := μ) (cl := 1) (x := nI (j)) (μ 16 1)
  refine lv_iload_n hx hb dX4_flagOffline_0 rfl (lv_at hl 1 rfl) ?_
  refine roS1 (v := .int (b2i (iw (nI (1)) (nI (0)) (nI (1))))) (As := [.int (nI (1))]) (rest := []) (n := 1) ⟨hx, hb, hml, hown, htA⟩ (m_isClient l D cI cZ sa (nI (1)) s.heap ) (va_cwS 1 htA (gdS wd_873 wd_874 wd_5 wd_875) rfl rfl rfl (by decide +kernel) ⟨Nat.le_of_ble_eq_true rfl, Nat.le_of_ble_eq_true rfl⟩) hKK rfl hl.1 rfl (Nat.le_of_ble_eq_true rfl) dX4_flagOffline_1 (Nat.zero_le _) (Nat.zero_le _) ?_
  refine b_ifeq (b := iw (nI (1)) (nI (0)) (nI (1))) (tgt := 26) hx hb dX4_flagOffline_4 (by decide) (fun c_1 => ?_) (fun c_1 => ?_)
  · exact absurd (c_1.symm.trans (iw_n (by decide) (by decide) (by decide))) (by decide)
  refine lv_iload_n hx hb dX4_flagOffline_7 rfl (lv_at hl 3 rfl) ?_
  refine n_iconst (k := 0) hx hb dX4_flagOffline_8 (by decide) ?_
  refine n_iconst (k := 3) hx hb dX4_flagOffline_9 (by decide) ?_
  refine roS1 (v := .int (b2i (iw (nI (k9)) (nI (0)) (nI (3))))) (As := [.int (nI (k9)), .int (nI (0)), .int (nI (3))]) (rest := []) (n := 3) ⟨hx, hb, hml, hown, htA⟩ (m_in l D cI cZ sa (nI (k9)) (nI (0)) (nI (3)) s.heap ) (va_cwS 3 htA (gdS wd_732 wd_733 wd_5 wd_734) rfl rfl rfl (by decide +kernel) ⟨Nat.le_of_ble_eq_true rfl, Nat.le_of_ble_eq_true rfl⟩) hKK rfl hl.1 rfl (Nat.le_of_ble_eq_true rfl) dX4_flagOffline_10 (Nat.zero_le _) (Nat.zero_le _) ?_
  refine b_ifeq (b := iw (nI (k9)) (nI (0)) (nI (3))) (tgt := 26) hx hb dX4_flagOffline_13 (by decide) (fun c_2 => ?_) (fun c_2 => ?_)
  · exact absurd (c_2.symm.trans (iw_n (Nat.zero_le _) (by omega) (by decide))) (by decide)
  refine lv_aload_n hx hb dX4_flagOffline_16 rfl (lv_at hl 0 rfl) ?_
  refine lv_iload_n hx hb dX4_flagOffline_17 rfl (lv_at hl 1 rfl) ?_
  refine lv_iload_n hx hb dX4_flagOffline_18 rfl (lv_at hl 2 rfl) ?_
  refine roV1 (v := .int (oi (wpl μ 1 (nI (j)) (μ 16 1)))) (As := [.int (nI (1)), .int (nI (j))]) (rest := []) (n := 2) ⟨hx, hb, hml, hown, htA⟩ (m_windowPlace1 l D cI cZ sa q μ (nI (j)) s.heap hP h10) (cwV 2 htA (gdV wd_880 wd_882 wp_24 wd_5 wd_883) rfl rfl rfl (by decide +kernel) ⟨Nat.le_of_ble_eq_true rfl, Nat.le_of_ble_eq_true rfl⟩) hKK hP 0 rfl rfl rfl hl.1 rfl (Nat.le_of_ble_eq_true rfl) dX4_flagOffline_19 (Nat.zero_le _) (Nat.zero_le _) ?_
  refine lv_iconst (v := oi 0) hx hb dX4_flagOffline_22 (by decide) ?_
  refine k_icmp_ne (x := wpl μ 1 (nI (j)) (μ 16 1)) (y := 0) (tgt := 30) hx hb dX4_flagOffline_23 (by decide) (Nat.le_trans (wpl_le _) (by omega)) (by decide) (fun c_3 => ?_) (fun c_3 => ?_)
  rotate_left
  · exact absurd c_3 hz
  refine lv_aload_n hx hb dX4_flagOffline_30 rfl (lv_at hl 0 rfl) ?_
  refine va_get (D := D) (ci := 4) (v := .ref (q 19)) (C := RX4) (T := TX4) (N := 26) hx hb htA uwX4 hown hKK.1 hP 0 rfl rfl 20 (by decide) (htA _ wd_665) (fun _ h9 => h9) rfl dX4_flagOffline_31 ?_
  refine lv_iload_n hx hb dX4_flagOffline_34 rfl (lv_at hl 1 rfl) ?_
  refine n_iald (g := μ 19) (cA := cI) (n := 2) (j := 1) hx hb hKK.1 hP 19 0 rfl rfl (by decide) (Nat.le_of_ble_eq_true rfl) dX4_flagOffline_35 ?_
  refine lv_bipush (v := nI 10) hx hb dX4_flagOffline_36 (by decide) ?_
  refine n_icmp_ne (x := μ 19 1) (y := 10) (tgt := 45) hx hb dX4_flagOffline_38 (by decide) (by omega) (by decide) (fun c_4 => ?_) (fun c_4 => ?_)
  rotate_left
  · exfalso; omega
  refine n_iconst (k := 0) hx hb dX4_flagOffline_45 (by decide) ?_
  refine lv_istore (lv' := [(5, .int (nI (0))), (0, .ref (q 0)), (1, .int (nI (1))), (2, .int (nI (j))), (3, .int (nI (k9))), (4, .int (nI (w0)))]) hx hb dX4_flagOffline_46 hl (by decide) rfl (fun ls hl => ?_)
  refine lv_aload_n hx hb dX4_flagOffline_48 rfl (lv_at hl 1 rfl) ?_
  refine lv_iload hx hb dX4_flagOffline_49 (lv_at hl 0 rfl) ?_
  refine wrV1 (v := .int (b2i (true))) (As := [.int (nI (0))]) (rest := []) (n := 1) ⟨hx, hb, hml, hown, htA⟩ (m_fine l D cI cZ sa q μ A (D_addr hD rfl) ) (cwV 1 htA (gdV wd_735 wd_737 wp_9 wd_5 wd_738) rfl rfl rfl (by decide +kernel) ⟨Nat.le_of_ble_eq_true rfl, Nat.le_of_ble_eq_true rfl⟩) hKK hP 0 rfl rfl rfl hl.1 rfl (Nat.le_of_ble_eq_true rfl) dX4_flagOffline_51 (Nat.zero_le _) (Nat.zero_le _) hS (fun _ h => h) (fun H1 locs hP1 hz1 hk1 hS => ?_)
  have hP : va_P D vwCl (wM q cI cZ (sv μ 0 2 (0))) H1 := hP1
  generalize H1 = H at hP hS ⊢
  refine b_ifne (b := true) (tgt := 59) hx hb dX4_flagOffline_54 (by decide) (fun c_5 => ?_) (fun c_5 => ?_)
  rotate_left
  · exact absurd c_5 (by decide)
  refine lv_bipush (v := nI 10) hx hb dX4_flagOffline_59 (by decide) ?_
  refine lv_iload_n hx hb dX4_flagOffline_61 rfl (lv_at hl 2 rfl) ?_
  refine n_imul hx hb dX4_flagOffline_62 ?_
  refine lv_aload_n hx hb dX4_flagOffline_63 rfl (lv_at hl 1 rfl) ?_
  refine va_get (D := D) (ci := 4) (v := .ref (q 19)) (C := RX4) (T := TX4) (N := 26) hx hb htA uwX4 hown hKK.1 hP 0 rfl rfl 20 (by decide) (htA _ wd_665) (fun _ h9 => h9) rfl dX4_flagOffline_64 ?_
  refine lv_iload_n hx hb dX4_flagOffline_67 rfl (lv_at hl 2 rfl) ?_
  refine n_iald (g := μ 19) (cA := cI) (n := 2) (j := 1) hx hb hKK.1 hP 19 0 rfl rfl (by decide) (Nat.le_of_ble_eq_true rfl) dX4_flagOffline_68 ?_
  refine n_iadd hx hb dX4_flagOffline_69 ?_
  refine lv_istore (lv' := [(6, .int (nI ((10 * 1) + (μ 19 1)))), (5, .int (nI (0))), (0, .ref (q 0)), (1, .int (nI (1))), (2, .int (nI (j))), (3, .int (nI (k9))), (4, .int (nI (w0)))]) hx hb dX4_flagOffline_70 hl (by decide) rfl (fun ls hl => ?_)
  refine lv_aload_n hx hb dX4_flagOffline_72 rfl (lv_at hl 2 rfl) ?_
  refine va_get (D := D) (ci := 4) (v := .ref (q 20)) (C := RX4) (T := TX4) (N := 26) hx hb htA uwX4 hown hKK.1 hP 0 rfl rfl 21 (by decide) (htA _ wd_666) (fun _ h9 => h9) rfl dX4_flagOffline_73 ?_
  refine lv_iload hx hb dX4_flagOffline_76 (lv_at hl 0 rfl) ?_
  refine lv_iload_n hx hb dX4_flagOffline_78 rfl (lv_at hl 4 rfl) ?_
  refine n_iast (g := μ 20) (cA := cI) (n := 20) (j := (10 * 1) + (μ 19 1)) (v := j) hx hb hKK.1 hP (D_addr hD rfl) hS 20 0 rfl rfl (by omega) (Nat.le_of_ble_eq_true rfl) dX4_flagOffline_79 (fun H locs hP hS => ?_)
  have hP : va_P D vwCl (wM q cI cZ (su (sv μ 0 2 (0)) 20 (upN (μ 20) ((10 * 1) + (μ 19 1)) (j)))) H := hP
  refine lv_aload_n hx hb dX4_flagOffline_80 rfl (lv_at hl 2 rfl) ?_
  refine va_get (D := D) (ci := 4) (v := .ref (q 21)) (C := RX4) (T := TX4) (N := 26) hx hb htA uwX4 hown hKK.1 hP 0 rfl rfl 22 (by decide) (htA _ wd_667) (fun _ h9 => h9) rfl dX4_flagOffline_81 ?_
  refine lv_iload hx hb dX4_flagOffline_84 (lv_at hl 0 rfl) ?_
  refine lv_iload_n hx hb dX4_flagOffline_86 rfl (lv_at hl 5 rfl) ?_
  refine n_iast (g := μ 21) (cA := cI) (n := 20) (j := (10 * 1) + (μ 19 1)) (v := k9) hx hb hKK.1 hP (D_addr hD rfl) hS 21 0 rfl rfl (by omega) (Nat.le_of_ble_eq_true rfl) dX4_flagOffline_87 (fun H locs hP hS => ?_)
  have hP : va_P D vwCl (wM q cI cZ (su (su (sv μ 0 2 (0)) 20 (upN (μ 20) ((10 * 1) + (μ 19 1)) (j))) 21 (upN (μ 21) ((10 * 1) + (μ 19 1)) (k9)))) H := hP
  refine lv_aload_n hx hb dX4_flagOffline_88 rfl (lv_at hl 2 rfl) ?_
  refine va_get (D := D) (ci := 4) (v := .ref (q 22)) (C := RX4) (T := TX4) (N := 26) hx hb htA uwX4 hown hKK.1 hP 0 rfl rfl 23 (by decide) (htA _ wd_668) (fun _ h9 => h9) rfl dX4_flagOffline_89 ?_
  refine lv_iload hx hb dX4_flagOffline_92 (lv_at hl 0 rfl) ?_
  refine lv_iload hx hb dX4_flagOffline_94 (lv_at hl 6 rfl) ?_
  refine n_zast (g := μ 22) (cA := cZ) (n := 20) (j := (10 * 1) + (μ 19 1)) (v := w0) hx hb hKK.1 hP (D_addr hD rfl) hS 22 1 rfl rfl hw (by omega) (Nat.le_of_ble_eq_true rfl) dX4_flagOffline_96 (fun H locs hP hS => ?_)
  have hP : va_P D vwCl (wM q cI cZ (su (su (su (sv μ 0 2 (0)) 20 (upN (μ 20) ((10 * 1) + (μ 19 1)) (j))) 21 (upN (μ 21) ((10 * 1) + (μ 19 1)) (k9))) 22 (upN (μ 22) ((10 * 1) + (μ 19 1)) (w0)))) H := hP
  refine lv_aload_n hx hb dX4_flagOffline_97 rfl (lv_at hl 2 rfl) ?_
  refine va_get (D := D) (ci := 4) (v := .ref (q 19)) (C := RX4) (T := TX4) (N := 26) hx hb htA uwX4 hown hKK.1 hP 0 rfl rfl 20 (by decide) (htA _ wd_665) (fun _ h9 => h9) rfl dX4_flagOffline_98 ?_
  refine lv_iload_n hx hb dX4_flagOffline_101 rfl (lv_at hl 3 rfl) ?_
  refine lv_dup2_11 hx hb dX4_flagOffline_102 rfl rfl ?_
  refine n_iald (g := μ 19) (cA := cI) (n := 2) (j := 1) hx hb hKK.1 hP 19 0 rfl rfl (by decide) (Nat.le_of_ble_eq_true rfl) dX4_flagOffline_103 ?_
  refine n_iconst (k := 1) hx hb dX4_flagOffline_104 (by decide) ?_
  refine n_iadd hx hb dX4_flagOffline_105 ?_
  refine n_iast (g := μ 19) (cA := cI) (n := 2) (j := 1) (v := (μ 19 1) + 1) hx hb hKK.1 hP (D_addr hD rfl) hS 19 0 rfl rfl (by decide) (Nat.le_of_ble_eq_true rfl) dX4_flagOffline_106 (fun H locs hP hS => ?_)
  have hP : va_P D vwCl (wM q cI cZ (su (su (su (su (sv μ 0 2 (0)) 20 (upN (μ 20) ((10 * 1) + (μ 19 1)) (j))) 21 (upN (μ 21) ((10 * 1) + (μ 19 1)) (k9))) 22 (upN (μ 22) ((10 * 1) + (μ 19 1)) (w0))) 19 (upN (μ 19) (1) ((μ 19 1) + 1)))) H := hP
  refine lv_aload_n hx hb dX4_flagOffline_107 rfl (lv_at hl 2 rfl) ?_
  refine lv_iload_n hx hb dX4_flagOffline_108 rfl (lv_at hl 3 rfl) ?_
  refine lv_iload_n hx hb dX4_flagOffline_109 rfl (lv_at hl 4 rfl) ?_
  refine roV1 (v := .int (oi (wpl (su (su (su (su (sv μ 0 2 (0)) 20 (upN (μ 20) ((10 * 1) + (μ 19 1)) (j))) 21 (upN (μ 21) ((10 * 1) + (μ 19 1)) (k9))) 22 (upN (μ 22) ((10 * 1) + (μ 19 1)) (w0))) 19 (upN (μ 19) (1) ((μ 19 1) + 1))) 1 (nI (j)) (μ 16 1)))) (As := [.int (nI (1)), .int (nI (j))]) (rest := []) (n := 2) ⟨hx, hb, hml, hown, htA⟩ (m_windowPlace1 l D cI cZ sa q (su (su (su (su (sv μ 0 2 (0)) 20 (upN (μ 20) ((10 * 1) + (μ 19 1)) (j))) 21 (upN (μ 21) ((10 * 1) + (μ 19 1)) (k9))) 22 (upN (μ 22) ((10 * 1) + (μ 19 1)) (w0))) 19 (upN (μ 19) (1) ((μ 19 1) + 1))) (nI (j)) H hP h10) (cwV 2 htA (gdV wd_880 wd_882 wp_24 wd_5 wd_883) rfl rfl rfl (by decide +kernel) ⟨Nat.le_of_ble_eq_true rfl, Nat.le_of_ble_eq_true rfl⟩) hKK hP 0 rfl rfl rfl hl.1 rfl (Nat.le_of_ble_eq_true rfl) dX4_flagOffline_110 (Nat.zero_le _) (Nat.zero_le _) ?_
  rw [show oi (wpl (su (su (su (su (sv μ 0 2 (0)) 20 (upN (μ 20) ((10 * 1) + (μ 19 1)) (j))) 21 (upN (μ 21) ((10 * 1) + (μ 19 1)) (k9))) 22 (upN (μ 22) ((10 * 1) + (μ 19 1)) (w0))) 19 (upN (μ 19) (1) ((μ 19 1) + 1))) 1 (nI (j)) (μ 16 1)) = nI (wpl μ 1 (nI (j)) (μ 16 1) - 1) from (congrArg oi (wpl_eq (μ := su (su (su (su (sv μ 0 2 (0)) 20 (upN (μ 20) ((10 * 1) + (μ 19 1)) (j))) 21 (upN (μ 21) ((10 * 1) + (μ 19 1)) (k9))) 22 (upN (μ 22) ((10 * 1) + (μ 19 1)) (w0))) 19 (upN (μ 19) (1) ((μ 19 1) + 1))) (ν := μ) rfl _)).trans (oi_pos hz)]
  refine lv_istore (lv' := [(7, .int (nI (wpl μ 1 (nI (j)) (μ 16 1) - 1))), (6, .int (nI ((10 * 1) + (μ 19 1)))), (5, .int (nI (0))), (0, .ref (q 0)), (1, .int (nI (1))), (2, .int (nI (j))), (3, .int (nI (k9))), (4, .int (nI (w0)))]) hx hb dX4_flagOffline_113 hl (by decide) rfl (fun ls hl => ?_)
  refine lv_aload_n hx hb dX4_flagOffline_115 rfl (lv_at hl 3 rfl) ?_
  refine va_get (D := D) (ci := 4) (v := .ref (q 18)) (C := RX4) (T := TX4) (N := 26) hx hb htA uwX4 hown hKK.1 hP 0 rfl rfl 19 (by decide) (htA _ wd_664) (fun _ h9 => h9) rfl dX4_flagOffline_116 ?_
  refine lv_iload hx hb dX4_flagOffline_119 (lv_at hl 0 rfl) ?_
  refine lv_iload hx hb dX4_flagOffline_121 (lv_at hl 7 rfl) ?_
  refine n_ifeq (x := w0) (tgt := 140) hx hb dX4_flagOffline_123 (by decide) (by omega) (fun c_6 => ?_) (fun c_6 => ?_)
  · refine lv_aload_n hx hb dX4_flagOffline_140 rfl (lv_at hl 3 rfl) ?_
    refine va_get (D := D) (ci := 4) (v := .ref (q 18)) (C := RX4) (T := TX4) (N := 26) hx hb htA uwX4 hown hKK.1 hP 0 rfl rfl 19 (by decide) (htA _ wd_664) (fun _ h9 => h9) rfl dX4_flagOffline_141 ?_
    refine lv_iload hx hb dX4_flagOffline_144 (lv_at hl 0 rfl) ?_
    refine n_iald (g := μ 18) (cA := cI) (n := 20) (j := wpl μ 1 (nI (j)) (μ 16 1) - 1) hx hb hKK.1 hP 18 0 rfl rfl (by omega) (Nat.le_of_ble_eq_true rfl) dX4_flagOffline_146 ?_
    refine n_iconst (k := 1) hx hb dX4_flagOffline_147 (by decide) ?_
    refine lv_iload_n hx hb dX4_flagOffline_148 rfl (lv_at hl 6 rfl) ?_
    refine n_ishl1 hx hb (y := k9) (by omega) dX4_flagOffline_149 ?_
    refine lv_iconst (v := oi 0) hx hb dX4_flagOffline_150 (by decide) ?_
    refine lv_ixor hx hb dX4_flagOffline_151 ?_
    refine lv_iand hx hb dX4_flagOffline_152 ?_
    rw [show (nI (μ 18 (wpl μ 1 (nI (j)) (μ 16 1) - 1))) &&& ((nI (2 ^ k9)) ^^^ (oi (0))) = nI (wn (μ 18 (wpl μ 1 (nI (j)) (μ 16 1) - 1)) k9 (nb w0)) from (wn_clr (h15 _) hk9).trans (by rw [show nb w0 = false from by simp [nb, c_6]])]
    refine n_iast (g := μ 18) (cA := cI) (n := 20) (j := wpl μ 1 (nI (j)) (μ 16 1) - 1) (v := wn (μ 18 (wpl μ 1 (nI (j)) (μ 16 1) - 1)) k9 (nb w0)) hx hb hKK.1 hP (D_addr hD rfl) hS 18 0 rfl rfl (by omega) (Nat.le_of_ble_eq_true rfl) dX4_flagOffline_153 (fun H locs hP hS => ?_)
    have hP : va_P D vwCl (wM q cI cZ (su (su (su (su (su (sv μ 0 2 (0)) 20 (upN (μ 20) ((10 * 1) + (μ 19 1)) (j))) 21 (upN (μ 21) ((10 * 1) + (μ 19 1)) (k9))) 22 (upN (μ 22) ((10 * 1) + (μ 19 1)) (w0))) 19 (upN (μ 19) (1) ((μ 19 1) + 1))) 18 (upN (μ 18) (wpl μ 1 (nI (j)) (μ 16 1) - 1) (wn (μ 18 (wpl μ 1 (nI (j)) (μ 16 1) - 1)) k9 (nb w0))))) H := hP
    refine lv_aload_n hx hb dX4_flagOffline_154 rfl (lv_at hl 3 rfl) ?_
    refine va_get (D := D) (ci := 4) (v := .ref (q 19)) (C := RX4) (T := TX4) (N := 26) hx hb htA uwX4 hown hKK.1 hP 0 rfl rfl 20 (by decide) (htA _ wd_665) (fun _ h9 => h9) rfl dX4_flagOffline_155 ?_
    refine lv_iload_n hx hb dX4_flagOffline_158 rfl (lv_at hl 4 rfl) ?_
    refine n_iald (g := upN (μ 19) (1) ((μ 19 1) + 1)) (cA := cI) (n := 2) (j := 1) hx hb hKK.1 hP 19 0 rfl rfl (by decide) (Nat.le_of_ble_eq_true rfl) dX4_flagOffline_159 ?_
    exact wr_i hx hb hr hlocks (rfl) hP hS dX4_flagOffline_160
  · refine lv_aload_n hx hb dX4_flagOffline_126 rfl (lv_at hl 3 rfl) ?_
    refine va_get (D := D) (ci := 4) (v := .ref (q 18)) (C := RX4) (T := TX4) (N := 26) hx hb htA uwX4 hown hKK.1 hP 0 rfl rfl 19 (by decide) (htA _ wd_664) (fun _ h9 => h9) rfl dX4_flagOffline_127 ?_
    refine lv_iload hx hb dX4_flagOffline_130 (lv_at hl 0 rfl) ?_
    refine n_iald (g := μ 18) (cA := cI) (n := 20) (j := wpl μ 1 (nI (j)) (μ 16 1) - 1) hx hb hKK.1 hP 18 0 rfl rfl (by omega) (Nat.le_of_ble_eq_true rfl) dX4_flagOffline_132 ?_
    refine n_iconst (k := 1) hx hb dX4_flagOffline_133 (by decide) ?_
    refine lv_iload_n hx hb dX4_flagOffline_134 rfl (lv_at hl 6 rfl) ?_
    refine n_ishl1 hx hb (y := k9) (by omega) dX4_flagOffline_135 ?_
    refine n_ior hx hb dX4_flagOffline_136 ?_
    refine lv_goto (tgt := 153) hx hb dX4_flagOffline_137 (by decide) ?_
    rw [show (μ 18 (wpl μ 1 (nI (j)) (μ 16 1) - 1)) ||| (2 ^ k9) = wn (μ 18 (wpl μ 1 (nI (j)) (μ 16 1) - 1)) k9 (nb w0) from by rw [show nb w0 = true from by simp [nb]; omega]; rfl]
    refine n_iast (g := μ 18) (cA := cI) (n := 20) (j := wpl μ 1 (nI (j)) (μ 16 1) - 1) (v := wn (μ 18 (wpl μ 1 (nI (j)) (μ 16 1) - 1)) k9 (nb w0)) hx hb hKK.1 hP (D_addr hD rfl) hS 18 0 rfl rfl (by omega) (Nat.le_of_ble_eq_true rfl) dX4_flagOffline_153 (fun H locs hP hS => ?_)
    have hP : va_P D vwCl (wM q cI cZ (su (su (su (su (su (sv μ 0 2 (0)) 20 (upN (μ 20) ((10 * 1) + (μ 19 1)) (j))) 21 (upN (μ 21) ((10 * 1) + (μ 19 1)) (k9))) 22 (upN (μ 22) ((10 * 1) + (μ 19 1)) (w0))) 19 (upN (μ 19) (1) ((μ 19 1) + 1))) 18 (upN (μ 18) (wpl μ 1 (nI (j)) (μ 16 1) - 1) (wn (μ 18 (wpl μ 1 (nI (j)) (μ 16 1) - 1)) k9 (nb w0))))) H := hP
    refine lv_aload_n hx hb dX4_flagOffline_154 rfl (lv_at hl 3 rfl) ?_
    refine va_get (D := D) (ci := 4) (v := .ref (q 19)) (C := RX4) (T := TX4) (N := 26) hx hb htA uwX4 hown hKK.1 hP 0 rfl rfl 20 (by decide) (htA _ wd_665) (fun _ h9 => h9) rfl dX4_flagOffline_155 ?_
    refine lv_iload_n hx hb dX4_flagOffline_158 rfl (lv_at hl 4 rfl) ?_
    refine n_iald (g := upN (μ 19) (1) ((μ 19 1) + 1)) (cA := cI) (n := 2) (j := 1) hx hb hKK.1 hP 19 0 rfl rfl (by decide) (Nat.le_of_ble_eq_true rfl) dX4_flagOffline_159 ?_
    exact wr_i hx hb hr hlocks (rfl) hP hS dX4_flagOffline_160
set_option maxHeartbeats 4000000 in
set_option maxRecDepth 100000 in
theorem m_isOtherwise (l : Launch) (D : va_G) (cI cZ : ClassId) (sa : Nat → Nat) (q : Nat → Nat) (μ : ST) (mm k9 w0 t u : Nat) (H : Heap) (hP : va_P D vwCl (wM q cI cZ μ) H) (hB : ∀ k i, μ k i < 1073741824) (hm0 : μ 0 0 ≤ 60) (hm : mm < 60) (hk : k9 < 31) (hw : w0 < 2) (ht : t ≤ u) (hu : u ≤ 2048) : Met l yX4_isOtherwise (codeW yX4_isOtherwise cX4_isOtherwise 8 (some .boolean)) ({ frames := 0, cells := 0, slots := 0, locals := 0 } : Room) (RoP D cI cZ sa H [.ref (q 0), .int (nI (mm)), .int (nI (k9)), .int (nI (w0)), .int (nI (t)), .int (nI (u))]) (RoQ (some (.int (b2i (iso μ mm k9 w0 t (u - t))))) H) 0 0 RoF := by
  refine Met.ofW (cc := cX4_isOtherwise) (maxL := 8) (ret := (some .boolean)) (by decide) rfl ?_
  intro p e s m args below meth c s₁ B hml hv
  obtain ⟨rfl, hH, hKK⟩ := hv
  subst hH
  have hx := B.exec
  have hb := B.bytes
  have hr := B.returns
  have htA : ∀ w ∈ WA, w.before _ s = true := fun w h => atoms_spec (ws := (codeW yX4_isOtherwise cX4_isOtherwise 8 (some .boolean))) B.pre w (List.mem_cons_of_mem _ h)
  have hown : s.vm.findClass RX4 = some m.cls := findClass_of_methodNamed B.named
  have hlocks := B.notSynchronized
  have hl := lv_entry ([.ref (q 0), .int (nI (mm)), .int (nI (k9)), .int (nI (w0)), .int (nI (t)), .int (nI (u))]) (n := 8) (Nat.le_of_ble_eq_true rfl)
  rw [lg_entry_eq]
  generalize (lg_sl ([.ref (q 0), .int (nI (mm)), .int (nI (k9)), .int (nI (w0)), .int (nI (t)), .int (nI (u))]) ++ List.replicate (8 - (lg_sl ([.ref (q 0), .int (nI (mm)), .int (nI (k9)), .int (nI (w0)), .int (nI (t)), .int (nI (u))])).length) Slot.unset).toArray = ls at hl ⊢
  have hl : lv_has ls 8 [(0, .ref (q 0)), (1, .int (nI (mm))), (2, .int (nI (k9))), (3, .int (nI (w0))), (4, .int (nI (t))), (5, .int (nI (u)))] := hl
  refine n_iconst (k := 0) hx hb dX4_isOtherwise_0 (by decide) ?_
  refine lv_istore (lv' := [(6, .int (nI (0))), (0, .ref (q 0)), (1, .int (nI (mm))), (2, .int (nI (k9))), (3, .int (nI (w0))), (4, .int (nI (t))), (5, .int (nI (u)))]) hx hb dX4_isOtherwise_1 hl (by decide) rfl (fun ls hl => ?_)
  refine lv_iload hx hb dX4_isOtherwise_3 (lv_at hl 5 rfl) ?_
  refine lv_istore (lv' := [(7, .int (nI (t))), (6, .int (nI (0))), (0, .ref (q 0)), (1, .int (nI (mm))), (2, .int (nI (k9))), (3, .int (nI (w0))), (4, .int (nI (t))), (5, .int (nI (u)))]) hx hb dX4_isOtherwise_5 hl (by decide) rfl (fun ls hl => ?_)
  have loop_7 : ∀ (n : Nat) (i : Nat), (t + i + n = u) → ∀ (ls : Array Slot), lv_has ls 8 [(0, .ref (q 0)), (1, .int (nI (mm))), (2, .int (nI (k9))), (3, .int (nI (w0))), (5, .int (nI (u))), (6, .int (b2i (iso μ mm k9 w0 t i))), (7, .int (nI (t + i)))] → W p l e (headSpec (codeW yX4_isOtherwise cX4_isOtherwise 8 (some .boolean)) ({ frames := 0, cells := 0, slots := 0, locals := 0 } : Room)).room s m ([.ref (q 0), .int (nI (mm)), .int (nI (k9)), .int (nI (w0)), .int (nI (t)), .int (nI (u))] : List Value).toArray below meth c s.heap [] 0 0 (MQ below (RoQ (some (.int (b2i (iso μ mm k9 w0 t (u - t))))) s.heap) ([.ref (q 0), .int (nI (mm)), .int (nI (k9)), .int (nI (w0)), .int (nI (t)), .int (nI (u))] : List Value).toArray s 0 0 RoF) (F0 m 7 ls []) := by
    intro n
    induction n with
    | zero =>
      intro i hin ls hl
      refine lv_iload hx hb dX4_isOtherwise_7 (lv_at hl 6 rfl) ?_
      refine lv_iload hx hb dX4_isOtherwise_9 (lv_at hl 4 rfl) ?_
      refine n_icmp_ge (x := t + i) (y := u) (tgt := 76) hx hb dX4_isOtherwise_11 (by decide) (by omega) (by omega) (fun c_1 => ?_) (fun c_1 => ?_)
      rotate_left
      · exfalso; omega
      refine lv_iload hx hb dX4_isOtherwise_76 (lv_at hl 5 rfl) ?_
      exact ro_z (v := iso μ mm k9 w0 t i) hx hb hr hlocks (by rw [show u - t = i by omega]) dX4_isOtherwise_78
    | succ n ih =>
      intro i hin ls hl
      refine lv_iload hx hb dX4_isOtherwise_7 (lv_at hl 6 rfl) ?_
      refine lv_iload hx hb dX4_isOtherwise_9 (lv_at hl 4 rfl) ?_
      refine n_icmp_ge (x := t + i) (y := u) (tgt := 76) hx hb dX4_isOtherwise_11 (by decide) (by omega) (by omega) (fun c_2 => ?_) (fun c_2 => ?_)
      · exfalso; omega
      refine lv_aload_n hx hb dX4_isOtherwise_14 rfl (lv_at hl 0 rfl) ?_
      refine va_get (D := D) (ci := 4) (v := .ref (q 8)) (C := RX4) (T := TX4) (N := 26) hx hb htA uwX4 hown hKK.1 hP 0 rfl rfl 8 (by decide) (htA _ wd_653) (fun _ h9 => h9) rfl dX4_isOtherwise_15 ?_
      refine lv_iload hx hb dX4_isOtherwise_18 (lv_at hl 6 rfl) ?_
      refine n_iald (g := μ 8) (cA := cI) (n := 2048) (j := t + i) hx hb hKK.1 hP 8 0 rfl rfl (by omega) (Nat.le_of_ble_eq_true rfl) dX4_isOtherwise_20 ?_
      refine lv_iload_n hx hb dX4_isOtherwise_21 rfl (lv_at hl 1 rfl) ?_
      refine n_icmp_ne (x := μ 8 (t + i)) (y := mm) (tgt := 66) hx hb dX4_isOtherwise_22 (by decide) (Nat.lt_trans (hB 8 _) (by decide)) (by omega) (fun c_3 => ?_) (fun c_3 => ?_)
      · refine lv_iload hx hb dX4_isOtherwise_66 (lv_at hl 5 rfl) ?_
        refine lv_istore (lv' := [(6, .int (b2i (iso μ mm k9 w0 t i))), (0, .ref (q 0)), (1, .int (nI (mm))), (2, .int (nI (k9))), (3, .int (nI (w0))), (5, .int (nI (u))), (7, .int (nI (t + i)))]) hx hb dX4_isOtherwise_68 hl (by decide) rfl (fun ls hl => ?_)
        refine lv_iinc (v := nI (t + i + 1)) (lv' := [(7, .int (nI (t + i + 1))), (6, .int (b2i (iso μ mm k9 w0 t i))), (0, .ref (q 0)), (1, .int (nI (mm))), (2, .int (nI (k9))), (3, .int (nI (w0))), (5, .int (nI (u)))]) hx hb dX4_isOtherwise_70 hl (k := 6) rfl (n_inc (t + i) 1 rfl) (by decide) rfl (fun ls hl => ?_)
        refine lv_goto (tgt := 7) hx hb dX4_isOtherwise_73 (by decide) ?_
        have e : iso μ mm k9 w0 t (i + 1) = iso μ mm k9 w0 t i := by simp only [iso]; simp [c_2, c_3]
        exact ih (i + 1) (by omega) ls (by rw [e]; exact lv_sub hl [2, 3, 4, 5, 6, 1, 0] rfl)
      · refine lv_aload_n hx hb dX4_isOtherwise_25 rfl (lv_at hl 0 rfl) ?_
        refine va_get (D := D) (ci := 4) (v := .ref (q 7)) (C := RX4) (T := TX4) (N := 26) hx hb htA uwX4 hown hKK.1 hP 0 rfl rfl 7 (by decide) (htA _ wd_652) (fun _ h9 => h9) rfl dX4_isOtherwise_26 ?_
        refine lv_iload hx hb dX4_isOtherwise_29 (lv_at hl 6 rfl) ?_
        refine n_iald (g := μ 7) (cA := cI) (n := 2048) (j := t + i) hx hb hKK.1 hP 7 0 rfl rfl (by omega) (Nat.le_of_ble_eq_true rfl) dX4_isOtherwise_31 ?_
        refine n_iconst (k := 2) hx hb dX4_isOtherwise_32 (by decide) ?_
        refine n_icmp_ne (x := μ 7 (t + i)) (y := 2) (tgt := 66) hx hb dX4_isOtherwise_33 (by decide) (Nat.lt_trans (hB 7 _) (by decide)) (by decide) (fun c_4 => ?_) (fun c_4 => ?_)
        · refine lv_iload hx hb dX4_isOtherwise_66 (lv_at hl 5 rfl) ?_
          refine lv_istore (lv' := [(6, .int (b2i (iso μ mm k9 w0 t i))), (0, .ref (q 0)), (1, .int (nI (mm))), (2, .int (nI (k9))), (3, .int (nI (w0))), (5, .int (nI (u))), (7, .int (nI (t + i)))]) hx hb dX4_isOtherwise_68 hl (by decide) rfl (fun ls hl => ?_)
          refine lv_iinc (v := nI (t + i + 1)) (lv' := [(7, .int (nI (t + i + 1))), (6, .int (b2i (iso μ mm k9 w0 t i))), (0, .ref (q 0)), (1, .int (nI (mm))), (2, .int (nI (k9))), (3, .int (nI (w0))), (5, .int (nI (u)))]) hx hb dX4_isOtherwise_70 hl (k := 6) rfl (n_inc (t + i) 1 rfl) (by decide) rfl (fun ls hl => ?_)
          refine lv_goto (tgt := 7) hx hb dX4_isOtherwise_73 (by decide) ?_
          have e : iso μ mm k9 w0 t (i + 1) = iso μ mm k9 w0 t i := by simp only [iso]; simp [c_2, c_3, c_4]
          exact ih (i + 1) (by omega) ls (by rw [e]; exact lv_sub hl [2, 3, 4, 5, 6, 1, 0] rfl)
        · refine lv_aload_n hx hb dX4_isOtherwise_36 rfl (lv_at hl 0 rfl) ?_
          refine va_get (D := D) (ci := 4) (v := .ref (q 11)) (C := RX4) (T := TX4) (N := 26) hx hb htA uwX4 hown hKK.1 hP 0 rfl rfl 11 (by decide) (htA _ wd_656) (fun _ h9 => h9) rfl dX4_isOtherwise_37 ?_
          refine lv_iload hx hb dX4_isOtherwise_40 (lv_at hl 6 rfl) ?_
          refine n_kald (g := μ 11) (cA := cI) (n := 2048) (j := t + i) hx hb hKK.1 hP 11 0 rfl rfl (by omega) (Nat.le_of_ble_eq_true rfl) dX4_isOtherwise_42 ?_
          refine lv_iload_n hx hb dX4_isOtherwise_43 rfl (lv_at hl 2 rfl) ?_
          refine k_icmp_ne (x := μ 11 (t + i)) (y := k9 + 1) (tgt := 66) hx hb dX4_isOtherwise_44 (by decide) (Nat.le_trans (Nat.le_of_lt (hB 11 _)) (by decide)) (by omega) (fun c_5 => ?_) (fun c_5 => ?_)
          · refine lv_iload hx hb dX4_isOtherwise_66 (lv_at hl 5 rfl) ?_
            refine lv_istore (lv' := [(6, .int (b2i (iso μ mm k9 w0 t i))), (0, .ref (q 0)), (1, .int (nI (mm))), (2, .int (nI (k9))), (3, .int (nI (w0))), (5, .int (nI (u))), (7, .int (nI (t + i)))]) hx hb dX4_isOtherwise_68 hl (by decide) rfl (fun ls hl => ?_)
            refine lv_iinc (v := nI (t + i + 1)) (lv' := [(7, .int (nI (t + i + 1))), (6, .int (b2i (iso μ mm k9 w0 t i))), (0, .ref (q 0)), (1, .int (nI (mm))), (2, .int (nI (k9))), (3, .int (nI (w0))), (5, .int (nI (u)))]) hx hb dX4_isOtherwise_70 hl (k := 6) rfl (n_inc (t + i) 1 rfl) (by decide) rfl (fun ls hl => ?_)
            refine lv_goto (tgt := 7) hx hb dX4_isOtherwise_73 (by decide) ?_
            have e : iso μ mm k9 w0 t (i + 1) = iso μ mm k9 w0 t i := by simp only [iso]; simp [c_2, c_3, c_4, c_5]
            exact ih (i + 1) (by omega) ls (by rw [e]; exact lv_sub hl [2, 3, 4, 5, 6, 1, 0] rfl)
          · refine lv_aload_n hx hb dX4_isOtherwise_47 rfl (lv_at hl 0 rfl) ?_
            refine va_get (D := D) (ci := 4) (v := .ref (q 12)) (C := RX4) (T := TX4) (N := 26) hx hb htA uwX4 hown hKK.1 hP 0 rfl rfl 12 (by decide) (htA _ wd_657) (fun _ h9 => h9) rfl dX4_isOtherwise_48 ?_
            refine lv_iload hx hb dX4_isOtherwise_51 (lv_at hl 6 rfl) ?_
            refine n_zald (g := μ 12) (cA := cZ) (n := 2048) (j := t + i) hx hb hKK.1 hP 12 1 rfl rfl (by omega) (Nat.le_of_ble_eq_true rfl) dX4_isOtherwise_53 ?_
            refine lv_iload_n hx hb dX4_isOtherwise_54 rfl (lv_at hl 3 rfl) ?_
            refine n_icmp_eq (x := μ 12 (t + i)) (y := w0) (tgt := 62) hx hb dX4_isOtherwise_55 (by decide) (Nat.lt_trans (hB 12 _) (by decide)) (by omega) (fun c_6 => ?_) (fun c_6 => ?_)
            · refine n_iconst (k := 0) hx hb dX4_isOtherwise_62 (by decide) ?_
              refine lv_goto (tgt := 68) hx hb dX4_isOtherwise_63 (by decide) ?_
              refine lv_istore (lv' := [(6, .int (nI (0))), (0, .ref (q 0)), (1, .int (nI (mm))), (2, .int (nI (k9))), (3, .int (nI (w0))), (5, .int (nI (u))), (7, .int (nI (t + i)))]) hx hb dX4_isOtherwise_68 hl (by decide) rfl (fun ls hl => ?_)
              refine lv_iinc (v := nI (t + i + 1)) (lv' := [(7, .int (nI (t + i + 1))), (6, .int (nI (0))), (0, .ref (q 0)), (1, .int (nI (mm))), (2, .int (nI (k9))), (3, .int (nI (w0))), (5, .int (nI (u)))]) hx hb dX4_isOtherwise_70 hl (k := 6) rfl (n_inc (t + i) 1 rfl) (by decide) rfl (fun ls hl => ?_)
              refine lv_goto (tgt := 7) hx hb dX4_isOtherwise_73 (by decide) ?_
              have e : iso μ mm k9 w0 t (i + 1) = false := by simp only [iso]; simp [c_2, c_3, c_4, c_5, c_6]
              exact ih (i + 1) (by omega) ls (by rw [e]; exact lv_sub hl [2, 3, 4, 5, 6, 1, 0] rfl)
            · refine n_iconst (k := 1) hx hb dX4_isOtherwise_58 (by decide) ?_
              refine lv_goto (tgt := 68) hx hb dX4_isOtherwise_59 (by decide) ?_
              refine lv_istore (lv' := [(6, .int (nI (1))), (0, .ref (q 0)), (1, .int (nI (mm))), (2, .int (nI (k9))), (3, .int (nI (w0))), (5, .int (nI (u))), (7, .int (nI (t + i)))]) hx hb dX4_isOtherwise_68 hl (by decide) rfl (fun ls hl => ?_)
              refine lv_iinc (v := nI (t + i + 1)) (lv' := [(7, .int (nI (t + i + 1))), (6, .int (nI (1))), (0, .ref (q 0)), (1, .int (nI (mm))), (2, .int (nI (k9))), (3, .int (nI (w0))), (5, .int (nI (u)))]) hx hb dX4_isOtherwise_70 hl (k := 6) rfl (n_inc (t + i) 1 rfl) (by decide) rfl (fun ls hl => ?_)
              refine lv_goto (tgt := 7) hx hb dX4_isOtherwise_73 (by decide) ?_
              have e : iso μ mm k9 w0 t (i + 1) = true := by simp only [iso]; simp [c_2, c_3, c_4, c_5, c_6]
              exact ih (i + 1) (by omega) ls (by rw [e]; exact lv_sub hl [2, 3, 4, 5, 6, 1, 0] rfl)
  exact loop_7 (u - t) 0 (by omega) ls (lv_sub hl [2, 3, 4, 5, 7, 1, 0] rfl)
