set_option maxHeartbeats 4000000 in
set_option maxRecDepth 100000 in
theorem r_share_bad (l : Launch) (D : va_G) (cI cZ : ClassId) (sa : Nat → Nat) (q : Nat → Nat) (μ : ST) (x y9 : Int32) (A : Nat → Prop) (hD : va_D A (wM q cI cZ μ)) (hbad : (iw (x) (nI (0)) (nI (5)) && iw (y9) (nI (0)) (nI (3))) = false) : Met l yX4_share (codeW yX4_share cX4_share 4 (some .float)) ({ frames := 1, cells := 0, slots := 0, locals := 22 } : Room) (WrP D cI cZ sa (wM q cI cZ μ) [.ref (q 0), .int (x), .int (y9)]) (WrQ (some (.float (FP.fconst0))) D (wM q cI cZ (sv μ 0 2 1)) A) 0 0 A := by
  refine Met.ofW (cc := cX4_share) (maxL := 4) (ret := (some .float)) (by decide) rfl ?_
  intro p e s m args below meth c s₁ B hml hv
  obtain ⟨rfl, hH, hKK⟩ := hv
  have hx := B.exec
  have hb := B.bytes
  have hr := B.returns
  have htA : ∀ w ∈ WA, w.before _ s = true := fun w h => atoms_spec (ws := (codeW yX4_share cX4_share 4 (some .float))) B.pre w (List.mem_cons_of_mem _ h)
  have hown : s.vm.findClass RX4 = some m.cls := findClass_of_methodNamed B.named
  have hlocks := B.notSynchronized
  have hP := hH
  have hS : va_S A s.heap s.heap [] := va_S.rf
  have hl := lv_entry ([.ref (q 0), .int (x), .int (y9)]) (n := 4) (Nat.le_of_ble_eq_true rfl)
  rw [lg_entry_eq]
  generalize (lg_sl ([.ref (q 0), .int (x), .int (y9)]) ++ List.replicate (4 - (lg_sl ([.ref (q 0), .int (x), .int (y9)])).length) Slot.unset).toArray = ls at hl ⊢
  have hl : lv_has ls 4 [(0, .ref (q 0)), (1, .int (x)), (2, .int (y9))] := hl
  refine lv_aload_n hx hb dX4_share_0 rfl (lv_at hl 0 rfl) ?_
  refine lv_iload_n hx hb dX4_share_1 rfl (lv_at hl 1 rfl) ?_
  refine n_iconst (k := 0) hx hb dX4_share_2 (by decide) ?_
  refine n_iconst (k := 5) hx hb dX4_share_3 (by decide) ?_
  refine roS1 (v := .int (b2i (iw (x) (nI (0)) (nI (5))))) (As := [.int (x), .int (nI (0)), .int (nI (5))]) (rest := [.ref (q 0)]) (n := 3) ⟨hx, hb, hml, hown, htA⟩ (m_in l D cI cZ sa (x) (nI (0)) (nI (5)) s.heap ) (va_cwS 3 htA (gdS wd_732 wd_733 wd_5 wd_734) rfl rfl rfl (by decide +kernel) ⟨Nat.le_of_ble_eq_true rfl, Nat.le_of_ble_eq_true rfl⟩) hKK rfl hl.1 rfl (Nat.le_of_ble_eq_true rfl) dX4_share_4 (Nat.zero_le _) (Nat.zero_le _) ?_
  refine b_ifeq (b := iw (x) (nI (0)) (nI (5))) (tgt := 23) hx hb dX4_share_7 (by decide) (fun c_1 => ?_) (fun c_1 => ?_)
  · refine n_iconst (k := 1) hx hb dX4_share_23 (by decide) ?_
    refine wrV1 (v := .int (b2i (false))) (As := [.int (nI (1))]) (rest := []) (n := 1) ⟨hx, hb, hml, hown, htA⟩ (m_unfine l D cI cZ sa q μ 1 A (D_addr hD rfl) (by decide) (by decide)) (cwV 1 htA (gdV wd_735 wd_737 wp_9 wd_5 wd_738) rfl rfl rfl (by decide +kernel) ⟨Nat.le_of_ble_eq_true rfl, Nat.le_of_ble_eq_true rfl⟩) hKK hP 0 rfl rfl rfl hl.1 rfl (Nat.le_of_ble_eq_true rfl) dX4_share_24 (Nat.zero_le _) (Nat.zero_le _) hS (fun _ h => h) (fun H1 locs hP1 hz1 hk1 hS => ?_)
    have hP : va_P D vwCl (wM q cI cZ (sv μ 0 2 (1))) H1 := hP1
    generalize H1 = H at hP hS ⊢
    refine b_ifne (b := false) (tgt := 32) hx hb dX4_share_27 (by decide) (fun c_2 => ?_) (fun c_2 => ?_)
    · exact absurd c_2 (by decide)
    refine lv_fconst0 hx hb dX4_share_30 ?_
    exact wr_f hx hb hr hlocks (rfl) hP hS dX4_share_31
  · refine lv_iload_n hx hb dX4_share_10 rfl (lv_at hl 2 rfl) ?_
    refine n_iconst (k := 0) hx hb dX4_share_11 (by decide) ?_
    refine n_iconst (k := 3) hx hb dX4_share_12 (by decide) ?_
    refine roS1 (v := .int (b2i (iw (y9) (nI (0)) (nI (3))))) (As := [.int (y9), .int (nI (0)), .int (nI (3))]) (rest := [.ref (q 0)]) (n := 3) ⟨hx, hb, hml, hown, htA⟩ (m_in l D cI cZ sa (y9) (nI (0)) (nI (3)) s.heap ) (va_cwS 3 htA (gdS wd_732 wd_733 wd_5 wd_734) rfl rfl rfl (by decide +kernel) ⟨Nat.le_of_ble_eq_true rfl, Nat.le_of_ble_eq_true rfl⟩) hKK rfl hl.1 rfl (Nat.le_of_ble_eq_true rfl) dX4_share_13 (Nat.zero_le _) (Nat.zero_le _) ?_
    refine b_ifeq (b := iw (y9) (nI (0)) (nI (3))) (tgt := 23) hx hb dX4_share_16 (by decide) (fun c_3 => ?_) (fun c_3 => ?_)
    rotate_left
    · exact absurd hbad (by rw [c_1, c_3]; decide)
    refine n_iconst (k := 1) hx hb dX4_share_23 (by decide) ?_
    refine wrV1 (v := .int (b2i (false))) (As := [.int (nI (1))]) (rest := []) (n := 1) ⟨hx, hb, hml, hown, htA⟩ (m_unfine l D cI cZ sa q μ 1 A (D_addr hD rfl) (by decide) (by decide)) (cwV 1 htA (gdV wd_735 wd_737 wp_9 wd_5 wd_738) rfl rfl rfl (by decide +kernel) ⟨Nat.le_of_ble_eq_true rfl, Nat.le_of_ble_eq_true rfl⟩) hKK hP 0 rfl rfl rfl hl.1 rfl (Nat.le_of_ble_eq_true rfl) dX4_share_24 (Nat.zero_le _) (Nat.zero_le _) hS (fun _ h => h) (fun H1 locs hP1 hz1 hk1 hS => ?_)
    have hP : va_P D vwCl (wM q cI cZ (sv μ 0 2 (1))) H1 := hP1
    generalize H1 = H at hP hS ⊢
    refine b_ifne (b := false) (tgt := 32) hx hb dX4_share_27 (by decide) (fun c_4 => ?_) (fun c_4 => ?_)
    · exact absurd c_4 (by decide)
    refine lv_fconst0 hx hb dX4_share_30 ?_
    exact wr_f hx hb hr hlocks (rfl) hP hS dX4_share_31
set_option maxHeartbeats 4000000 in
set_option maxRecDepth 100000 in
theorem r_share_0 (l : Launch) (D : va_G) (cI cZ : ClassId) (sa : Nat → Nat) (q : Nat → Nat) (μ : ST) (b0 k9 : Nat) (A : Nat → Prop) (hD : va_D A (wM q cI cZ μ)) (hB : ∀ k i, μ k i < 1073741824) (hm0 : μ 0 0 ≤ 60) (hb9 : b0 < 6) (hk9 : k9 < 4) (hz : cnt (fun m9 => ifd μ b0 0 m9) (μ 0 0) = 0) : Met l yX4_share (codeW yX4_share cX4_share 4 (some .float)) ({ frames := 3, cells := 0, slots := 0, locals := 68 } : Room) (WrP D cI cZ sa (wM q cI cZ μ) [.ref (q 0), .int (nI (b0)), .int (nI (k9))]) (WrQ (some (.float (FP.fconst0))) D (wM q cI cZ (sv μ 0 2 0)) A) 0 0 A := by
  refine Met.ofW (cc := cX4_share) (maxL := 4) (ret := (some .float)) (by decide) rfl ?_
  intro p e s m args below meth c s₁ B hml hv
  obtain ⟨rfl, hH, hKK⟩ := hv
  have hx := B.exec
  have hb := B.bytes
  have hr := B.returns
  have htA : ∀ w ∈ WA, w.before _ s = true := fun w h => atoms_spec (ws := (codeW yX4_share cX4_share 4 (some .float))) B.pre w (List.mem_cons_of_mem _ h)
  have hown : s.vm.findClass RX4 = some m.cls := findClass_of_methodNamed B.named
  have hlocks := B.notSynchronized
  have hP := hH
  have hS : va_S A s.heap s.heap [] := va_S.rf
  have hl := lv_entry ([.ref (q 0), .int (nI (b0)), .int (nI (k9))]) (n := 4) (Nat.le_of_ble_eq_true rfl)
  rw [lg_entry_eq]
  generalize (lg_sl ([.ref (q 0), .int (nI (b0)), .int (nI (k9))]) ++ List.replicate (4 - (lg_sl ([.ref (q 0), .int (nI (b0)), .int (nI (k9))])).length) Slot.unset).toArray = ls at hl ⊢
  have hl : lv_has ls 4 [(0, .ref (q 0)), (1, .int (nI (b0))), (2, .int (nI (k9)))] := hl
  refine lv_aload_n hx hb dX4_share_0 rfl (lv_at hl 0 rfl) ?_
  refine lv_iload_n hx hb dX4_share_1 rfl (lv_at hl 1 rfl) ?_
  refine n_iconst (k := 0) hx hb dX4_share_2 (by decide) ?_
  refine n_iconst (k := 5) hx hb dX4_share_3 (by decide) ?_
  refine roS1 (v := .int (b2i (iw (nI (b0)) (nI (0)) (nI (5))))) (As := [.int (nI (b0)), .int (nI (0)), .int (nI (5))]) (rest := [.ref (q 0)]) (n := 3) ⟨hx, hb, hml, hown, htA⟩ (m_in l D cI cZ sa (nI (b0)) (nI (0)) (nI (5)) s.heap ) (va_cwS 3 htA (gdS wd_732 wd_733 wd_5 wd_734) rfl rfl rfl (by decide +kernel) ⟨Nat.le_of_ble_eq_true rfl, Nat.le_of_ble_eq_true rfl⟩) hKK rfl hl.1 rfl (Nat.le_of_ble_eq_true rfl) dX4_share_4 (Nat.zero_le _) (Nat.zero_le _) ?_
  refine b_ifeq (b := iw (nI (b0)) (nI (0)) (nI (5))) (tgt := 23) hx hb dX4_share_7 (by decide) (fun c_1 => ?_) (fun c_1 => ?_)
  · exact absurd (c_1.symm.trans (iw_n (Nat.zero_le _) (by omega) (by decide))) (by decide)
  refine lv_iload_n hx hb dX4_share_10 rfl (lv_at hl 2 rfl) ?_
  refine n_iconst (k := 0) hx hb dX4_share_11 (by decide) ?_
  refine n_iconst (k := 3) hx hb dX4_share_12 (by decide) ?_
  refine roS1 (v := .int (b2i (iw (nI (k9)) (nI (0)) (nI (3))))) (As := [.int (nI (k9)), .int (nI (0)), .int (nI (3))]) (rest := [.ref (q 0)]) (n := 3) ⟨hx, hb, hml, hown, htA⟩ (m_in l D cI cZ sa (nI (k9)) (nI (0)) (nI (3)) s.heap ) (va_cwS 3 htA (gdS wd_732 wd_733 wd_5 wd_734) rfl rfl rfl (by decide +kernel) ⟨Nat.le_of_ble_eq_true rfl, Nat.le_of_ble_eq_true rfl⟩) hKK rfl hl.1 rfl (Nat.le_of_ble_eq_true rfl) dX4_share_13 (Nat.zero_le _) (Nat.zero_le _) ?_
  refine b_ifeq (b := iw (nI (k9)) (nI (0)) (nI (3))) (tgt := 23) hx hb dX4_share_16 (by decide) (fun c_2 => ?_) (fun c_2 => ?_)
  · exact absurd (c_2.symm.trans (iw_n (Nat.zero_le _) (by omega) (by decide))) (by decide)
  refine n_iconst (k := 0) hx hb dX4_share_19 (by decide) ?_
  refine lv_goto (tgt := 24) hx hb dX4_share_20 (by decide) ?_
  refine wrV1 (v := .int (b2i (true))) (As := [.int (nI (0))]) (rest := []) (n := 1) ⟨hx, hb, hml, hown, htA⟩ (m_fine l D cI cZ sa q μ A (D_addr hD rfl) ) (cwV 1 htA (gdV wd_735 wd_737 wp_9 wd_5 wd_738) rfl rfl rfl (by decide +kernel) ⟨Nat.le_of_ble_eq_true rfl, Nat.le_of_ble_eq_true rfl⟩) hKK hP 0 rfl rfl rfl hl.1 rfl (Nat.le_of_ble_eq_true rfl) dX4_share_24 (Nat.zero_le _) (Nat.zero_le _) hS (fun _ h => h) (fun H1 locs hP1 hz1 hk1 hS => ?_)
  have hP : va_P D vwCl (wM q cI cZ (sv μ 0 2 (0))) H1 := hP1
  generalize H1 = H at hP hS ⊢
  refine b_ifne (b := true) (tgt := 32) hx hb dX4_share_27 (by decide) (fun c_3 => ?_) (fun c_3 => ?_)
  rotate_left
  · exact absurd c_3 (by decide)
  refine lv_aload_n hx hb dX4_share_32 rfl (lv_at hl 0 rfl) ?_
  refine lv_iload_n hx hb dX4_share_33 rfl (lv_at hl 1 rfl) ?_
  refine lv_iconst (v := oi 0) hx hb dX4_share_34 (by decide) ?_
  refine roV1 (v := .int (nI (cnt (fun m9 => ifd (sv μ 0 2 (0)) b0 0 m9) (μ 0 0)))) (As := [.int (nI (b0)), .int (oi (0))]) (rest := []) (n := 2) ⟨hx, hb, hml, hown, htA⟩ (m_count l D cI cZ sa q (sv μ 0 2 (0)) b0 0 H hP (sv_lt hB (by decide)) hm0 (by decide)) (cwV 2 htA (gdV wd_790 wd_792 wp_13 wd_5 wd_793) rfl rfl rfl (by decide +kernel) ⟨Nat.le_of_ble_eq_true rfl, Nat.le_of_ble_eq_true rfl⟩) hKK hP 0 rfl rfl rfl hl.1 rfl (Nat.le_of_ble_eq_true rfl) dX4_share_35 (Nat.zero_le _) (Nat.zero_le _) ?_
  refine lv_istore_n (lv' := [(3, .int (nI (cnt (fun m9 => ifd (sv μ 0 2 (0)) b0 0 m9) (μ 0 0)))), (0, .ref (q 0)), (1, .int (nI (b0))), (2, .int (nI (k9)))]) hx hb dX4_share_38 rfl hl (by decide) rfl (fun ls hl => ?_)
  refine lv_iload_n hx hb dX4_share_39 rfl (lv_at hl 0 rfl) ?_
  refine n_ifne (x := cnt (fun m9 => ifd (sv μ 0 2 (0)) b0 0 m9) (μ 0 0)) (tgt := 47) hx hb dX4_share_40 (by decide) (Nat.lt_of_le_of_lt (cnt_le _ _) (by omega)) (fun c_4 => ?_) (fun c_4 => ?_)
  · exact absurd hz c_4
  refine lv_fconst0 hx hb dX4_share_43 ?_
  refine lv_goto (tgt := 57) hx hb dX4_share_44 (by decide) ?_
  exact wr_f hx hb hr hlocks (rfl) hP hS dX4_share_57
set_option maxHeartbeats 4000000 in
set_option maxRecDepth 100000 in
theorem r_share_n (l : Launch) (D : va_G) (cI cZ : ClassId) (sa : Nat → Nat) (q : Nat → Nat) (μ : ST) (b0 k9 : Nat) (A : Nat → Prop) (hD : va_D A (wM q cI cZ μ)) (hB : ∀ k i, μ k i < 1073741824) (hm0 : μ 0 0 ≤ 60) (hb9 : b0 < 6) (hk9 : k9 < 4) (hz : cnt (fun m9 => ifd μ b0 0 m9) (μ 0 0) ≠ 0) : Met l yX4_share (codeW yX4_share cX4_share 4 (some .float)) ({ frames := 3, cells := 0, slots := 0, locals := 68 } : Room) (WrP D cI cZ sa (wM q cI cZ μ) [.ref (q 0), .int (nI (b0)), .int (nI (k9))]) (WrQ (some (.float (FP.fdiv (FP.i2f (nI (cnt (fun m9 => ifd μ b0 (k9 + 1) m9) (μ 0 0)))) (FP.i2f (nI (cnt (fun m9 => ifd μ b0 0 m9) (μ 0 0))))))) D (wM q cI cZ (sv μ 0 2 0)) A) 0 0 A := by
  refine Met.ofW (cc := cX4_share) (maxL := 4) (ret := (some .float)) (by decide) rfl ?_
  intro p e s m args below meth c s₁ B hml hv
  obtain ⟨rfl, hH, hKK⟩ := hv
  have hx := B.exec
  have hb := B.bytes
  have hr := B.returns
  have htA : ∀ w ∈ WA, w.before _ s = true := fun w h => atoms_spec (ws := (codeW yX4_share cX4_share 4 (some .float))) B.pre w (List.mem_cons_of_mem _ h)
  have hown : s.vm.findClass RX4 = some m.cls := findClass_of_methodNamed B.named
  have hlocks := B.notSynchronized
  have hP := hH
  have hS : va_S A s.heap s.heap [] := va_S.rf
  have hl := lv_entry ([.ref (q 0), .int (nI (b0)), .int (nI (k9))]) (n := 4) (Nat.le_of_ble_eq_true rfl)
  rw [lg_entry_eq]
  generalize (lg_sl ([.ref (q 0), .int (nI (b0)), .int (nI (k9))]) ++ List.replicate (4 - (lg_sl ([.ref (q 0), .int (nI (b0)), .int (nI (k9))])).length) Slot.unset).toArray = ls at hl ⊢
  have hl : lv_has ls 4 [(0, .ref (q 0)), (1, .int (nI (b0))), (2, .int (nI (k9)))] := hl
  refine lv_aload_n hx hb dX4_share_0 rfl (lv_at hl 0 rfl) ?_
  refine lv_iload_n hx hb dX4_share_1 rfl (lv_at hl 1 rfl) ?_
  refine n_iconst (k := 0) hx hb dX4_share_2 (by decide) ?_
  refine n_iconst (k := 5) hx hb dX4_share_3 (by decide) ?_
  refine roS1 (v := .int (b2i (iw (nI (b0)) (nI (0)) (nI (5))))) (As := [.int (nI (b0)), .int (nI (0)), .int (nI (5))]) (rest := [.ref (q 0)]) (n := 3) ⟨hx, hb, hml, hown, htA⟩ (m_in l D cI cZ sa (nI (b0)) (nI (0)) (nI (5)) s.heap ) (va_cwS 3 htA (gdS wd_732 wd_733 wd_5 wd_734) rfl rfl rfl (by decide +kernel) ⟨Nat.le_of_ble_eq_true rfl, Nat.le_of_ble_eq_true rfl⟩) hKK rfl hl.1 rfl (Nat.le_of_ble_eq_true rfl) dX4_share_4 (Nat.zero_le _) (Nat.zero_le _) ?_
  refine b_ifeq (b := iw (nI (b0)) (nI (0)) (nI (5))) (tgt := 23) hx hb dX4_share_7 (by decide) (fun c_1 => ?_) (fun c_1 => ?_)
  · exact absurd (c_1.symm.trans (iw_n (Nat.zero_le _) (by omega) (by decide))) (by decide)
  refine lv_iload_n hx hb dX4_share_10 rfl (lv_at hl 2 rfl) ?_
  refine n_iconst (k := 0) hx hb dX4_share_11 (by decide) ?_
  refine n_iconst (k := 3) hx hb dX4_share_12 (by decide) ?_
  refine roS1 (v := .int (b2i (iw (nI (k9)) (nI (0)) (nI (3))))) (As := [.int (nI (k9)), .int (nI (0)), .int (nI (3))]) (rest := [.ref (q 0)]) (n := 3) ⟨hx, hb, hml, hown, htA⟩ (m_in l D cI cZ sa (nI (k9)) (nI (0)) (nI (3)) s.heap ) (va_cwS 3 htA (gdS wd_732 wd_733 wd_5 wd_734) rfl rfl rfl (by decide +kernel) ⟨Nat.le_of_ble_eq_true rfl, Nat.le_of_ble_eq_true rfl⟩) hKK rfl hl.1 rfl (Nat.le_of_ble_eq_true rfl) dX4_share_13 (Nat.zero_le _) (Nat.zero_le _) ?_
  refine b_ifeq (b := iw (nI (k9)) (nI (0)) (nI (3))) (tgt := 23) hx hb dX4_share_16 (by decide) (fun c_2 => ?_) (fun c_2 => ?_)
  · exact absurd (c_2.symm.trans (iw_n (Nat.zero_le _) (by omega) (by decide))) (by decide)
  refine n_iconst (k := 0) hx hb dX4_share_19 (by decide) ?_
  refine lv_goto (tgt := 24) hx hb dX4_share_20 (by decide) ?_
  refine wrV1 (v := .int (b2i (true))) (As := [.int (nI (0))]) (rest := []) (n := 1) ⟨hx, hb, hml, hown, htA⟩ (m_fine l D cI cZ sa q μ A (D_addr hD rfl) ) (cwV 1 htA (gdV wd_735 wd_737 wp_9 wd_5 wd_738) rfl rfl rfl (by decide +kernel) ⟨Nat.le_of_ble_eq_true rfl, Nat.le_of_ble_eq_true rfl⟩) hKK hP 0 rfl rfl rfl hl.1 rfl (Nat.le_of_ble_eq_true rfl) dX4_share_24 (Nat.zero_le _) (Nat.zero_le _) hS (fun _ h => h) (fun H1 locs hP1 hz1 hk1 hS => ?_)
  have hP : va_P D vwCl (wM q cI cZ (sv μ 0 2 (0))) H1 := hP1
  generalize H1 = H at hP hS ⊢
  refine b_ifne (b := true) (tgt := 32) hx hb dX4_share_27 (by decide) (fun c_3 => ?_) (fun c_3 => ?_)
  rotate_left
  · exact absurd c_3 (by decide)
  refine lv_aload_n hx hb dX4_share_32 rfl (lv_at hl 0 rfl) ?_
  refine lv_iload_n hx hb dX4_share_33 rfl (lv_at hl 1 rfl) ?_
  refine lv_iconst (v := oi 0) hx hb dX4_share_34 (by decide) ?_
  refine roV1 (v := .int (nI (cnt (fun m9 => ifd (sv μ 0 2 (0)) b0 0 m9) (μ 0 0)))) (As := [.int (nI (b0)), .int (oi (0))]) (rest := []) (n := 2) ⟨hx, hb, hml, hown, htA⟩ (m_count l D cI cZ sa q (sv μ 0 2 (0)) b0 0 H hP (sv_lt hB (by decide)) hm0 (by decide)) (cwV 2 htA (gdV wd_790 wd_792 wp_13 wd_5 wd_793) rfl rfl rfl (by decide +kernel) ⟨Nat.le_of_ble_eq_true rfl, Nat.le_of_ble_eq_true rfl⟩) hKK hP 0 rfl rfl rfl hl.1 rfl (Nat.le_of_ble_eq_true rfl) dX4_share_35 (Nat.zero_le _) (Nat.zero_le _) ?_
  refine lv_istore_n (lv' := [(3, .int (nI (cnt (fun m9 => ifd (sv μ 0 2 (0)) b0 0 m9) (μ 0 0)))), (0, .ref (q 0)), (1, .int (nI (b0))), (2, .int (nI (k9)))]) hx hb dX4_share_38 rfl hl (by decide) rfl (fun ls hl => ?_)
  refine lv_iload_n hx hb dX4_share_39 rfl (lv_at hl 0 rfl) ?_
  refine n_ifne (x := cnt (fun m9 => ifd (sv μ 0 2 (0)) b0 0 m9) (μ 0 0)) (tgt := 47) hx hb dX4_share_40 (by decide) (Nat.lt_of_le_of_lt (cnt_le _ _) (by omega)) (fun c_4 => ?_) (fun c_4 => ?_)
  rotate_left
  · exact absurd c_4 hz
  refine lv_aload_n hx hb dX4_share_47 rfl (lv_at hl 1 rfl) ?_
  refine lv_iload_n hx hb dX4_share_48 rfl (lv_at hl 2 rfl) ?_
  refine lv_iload_n hx hb dX4_share_49 rfl (lv_at hl 3 rfl) ?_
  refine roV1 (v := .int (nI (cnt (fun m9 => ifd (sv μ 0 2 (0)) b0 (k9 + 1) m9) (μ 0 0)))) (As := [.int (nI (b0)), .int (oi (k9 + 1))]) (rest := []) (n := 2) ⟨hx, hb, hml, hown, htA⟩ (m_count l D cI cZ sa q (sv μ 0 2 (0)) b0 (k9 + 1) H hP (sv_lt hB (by decide)) hm0 (by omega)) (cwV 2 htA (gdV wd_790 wd_792 wp_13 wd_5 wd_793) rfl rfl rfl (by decide +kernel) ⟨Nat.le_of_ble_eq_true rfl, Nat.le_of_ble_eq_true rfl⟩) hKK hP 0 rfl rfl rfl hl.1 rfl (Nat.le_of_ble_eq_true rfl) dX4_share_50 (Nat.zero_le _) (Nat.zero_le _) ?_
  refine lv_i2f hx hb dX4_share_53 ?_
  refine lv_iload_n hx hb dX4_share_54 rfl (lv_at hl 0 rfl) ?_
  refine lv_i2f hx hb dX4_share_55 ?_
  refine lv_fdiv hx hb dX4_share_56 (share_nn _ _ (Nat.le_trans (cnt_le _ _) hm0) (Nat.le_trans (cnt_le _ _) hm0) hz) ?_
  exact wr_f hx hb hr hlocks (rfl) hP hS dX4_share_57
set_option maxHeartbeats 4000000 in
set_option maxRecDepth 100000 in
theorem r_canTell_bad (l : Launch) (D : va_G) (cI cZ : ClassId) (sa : Nat → Nat) (q : Nat → Nat) (μ : ST) (x : Int32) (A : Nat → Prop) (hD : va_D A (wM q cI cZ μ)) (hbad : iw (x) (nI (0)) (nI (μ 0 1)) = false) : Met l yX4_canTell (codeW yX4_canTell cX4_canTell 2 (some .boolean)) ({ frames := 2, cells := 0, slots := 0, locals := 43 } : Room) (WrP D cI cZ sa (wM q cI cZ μ) [.ref (q 0), .int (x)]) (WrQ (some (.int (b2i (false)))) D (wM q cI cZ (sv μ 0 2 1)) A) 0 0 A := by
  refine Met.ofW (cc := cX4_canTell) (maxL := 2) (ret := (some .boolean)) (by decide) rfl ?_
  intro p e s m args below meth c s₁ B hml hv
  obtain ⟨rfl, hH, hKK⟩ := hv
  have hx := B.exec
  have hb := B.bytes
  have hr := B.returns
  have htA : ∀ w ∈ WA, w.before _ s = true := fun w h => atoms_spec (ws := (codeW yX4_canTell cX4_canTell 2 (some .boolean))) B.pre w (List.mem_cons_of_mem _ h)
  have hown : s.vm.findClass RX4 = some m.cls := findClass_of_methodNamed B.named
  have hlocks := B.notSynchronized
  have hP := hH
  have hS : va_S A s.heap s.heap [] := va_S.rf
  have hl := lv_entry ([.ref (q 0), .int (x)]) (n := 2) (Nat.le_of_ble_eq_true rfl)
  rw [lg_entry_eq]
  generalize (lg_sl ([.ref (q 0), .int (x)]) ++ List.replicate (2 - (lg_sl ([.ref (q 0), .int (x)])).length) Slot.unset).toArray = ls at hl ⊢
  have hl : lv_has ls 2 [(0, .ref (q 0)), (1, .int (x))] := hl
  refine lv_aload_n hx hb dX4_canTell_0 rfl (lv_at hl 0 rfl) ?_
  refine lv_aload_n hx hb dX4_canTell_1 rfl (lv_at hl 0 rfl) ?_
  refine lv_iload_n hx hb dX4_canTell_2 rfl (lv_at hl 1 rfl) ?_
  refine roV1 (v := .int (b2i (iw (x) (nI (0)) (nI (μ 0 1))))) (As := [.int (x)]) (rest := [.ref (q 0)]) (n := 1) ⟨hx, hb, hml, hown, htA⟩ (m_isState l D cI cZ sa q μ (x) s.heap hP ) (cwV 1 htA (gdV wd_802 wd_804 wp_15 wd_5 wd_805) rfl rfl rfl (by decide +kernel) ⟨Nat.le_of_ble_eq_true rfl, Nat.le_of_ble_eq_true rfl⟩) hKK hP 0 rfl rfl rfl hl.1 rfl (Nat.le_of_ble_eq_true rfl) dX4_canTell_3 (Nat.zero_le _) (Nat.zero_le _) ?_
  refine b_ifeq (b := iw (x) (nI (0)) (nI (μ 0 1))) (tgt := 13) hx hb dX4_canTell_6 (by decide) (fun c_1 => ?_) (fun c_1 => ?_)
  rotate_left
  · exact absurd (c_1.symm.trans hbad) (by decide)
  refine n_iconst (k := 1) hx hb dX4_canTell_13 (by decide) ?_
  refine wrV1 (v := .int (b2i (false))) (As := [.int (nI (1))]) (rest := []) (n := 1) ⟨hx, hb, hml, hown, htA⟩ (m_unfine l D cI cZ sa q μ 1 A (D_addr hD rfl) (by decide) (by decide)) (cwV 1 htA (gdV wd_735 wd_737 wp_9 wd_5 wd_738) rfl rfl rfl (by decide +kernel) ⟨Nat.le_of_ble_eq_true rfl, Nat.le_of_ble_eq_true rfl⟩) hKK hP 0 rfl rfl rfl hl.1 rfl (Nat.le_of_ble_eq_true rfl) dX4_canTell_14 (Nat.zero_le _) (Nat.zero_le _) hS (fun _ h => h) (fun H1 locs hP1 hz1 hk1 hS => ?_)
  have hP : va_P D vwCl (wM q cI cZ (sv μ 0 2 (1))) H1 := hP1
  generalize H1 = H at hP hS ⊢
  refine b_ifeq (b := false) (tgt := 32) hx hb dX4_canTell_17 (by decide) (fun c_2 => ?_) (fun c_2 => ?_)
  rotate_left
  · exact absurd c_2 (by decide)
  refine n_iconst (k := 0) hx hb dX4_canTell_32 (by decide) ?_
  exact wr_z (v := false) hx hb hr hlocks (rfl) hP hS dX4_canTell_33
set_option maxHeartbeats 4000000 in
set_option maxRecDepth 100000 in
theorem r_canTell_ok (l : Launch) (D : va_G) (cI cZ : ClassId) (sa : Nat → Nat) (q : Nat → Nat) (μ : ST) (t : Nat) (A : Nat → Prop) (hD : va_D A (wM q cI cZ μ)) (hB : ∀ k i, μ k i < 1073741824) (hm0 : μ 0 0 ≤ 60) (ht : t ≤ μ 0 1) : Met l yX4_canTell (codeW yX4_canTell cX4_canTell 2 (some .boolean)) ({ frames := 2, cells := 0, slots := 0, locals := 43 } : Room) (WrP D cI cZ sa (wM q cI cZ μ) [.ref (q 0), .int (nI (t))]) (WrQ (some (.int (b2i (decide (μ 0 1 - t ≤ 40))))) D (wM q cI cZ (sv μ 0 2 0)) A) 0 0 A := by
  refine Met.ofW (cc := cX4_canTell) (maxL := 2) (ret := (some .boolean)) (by decide) rfl ?_
  intro p e s m args below meth c s₁ B hml hv
  obtain ⟨rfl, hH, hKK⟩ := hv
  have hx := B.exec
  have hb := B.bytes
  have hr := B.returns
  have htA : ∀ w ∈ WA, w.before _ s = true := fun w h => atoms_spec (ws := (codeW yX4_canTell cX4_canTell 2 (some .boolean))) B.pre w (List.mem_cons_of_mem _ h)
  have hown : s.vm.findClass RX4 = some m.cls := findClass_of_methodNamed B.named
  have hlocks := B.notSynchronized
  have hP := hH
  have hS : va_S A s.heap s.heap [] := va_S.rf
  have hl := lv_entry ([.ref (q 0), .int (nI (t))]) (n := 2) (Nat.le_of_ble_eq_true rfl)
  rw [lg_entry_eq]
  generalize (lg_sl ([.ref (q 0), .int (nI (t))]) ++ List.replicate (2 - (lg_sl ([.ref (q 0), .int (nI (t))])).length) Slot.unset).toArray = ls at hl ⊢
  have hl : lv_has ls 2 [(0, .ref (q 0)), (1, .int (nI (t)))] := hl
  refine lv_aload_n hx hb dX4_canTell_0 rfl (lv_at hl 0 rfl) ?_
  refine lv_aload_n hx hb dX4_canTell_1 rfl (lv_at hl 0 rfl) ?_
  refine lv_iload_n hx hb dX4_canTell_2 rfl (lv_at hl 1 rfl) ?_
  refine roV1 (v := .int (b2i (iw (nI (t)) (nI (0)) (nI (μ 0 1))))) (As := [.int (nI (t))]) (rest := [.ref (q 0)]) (n := 1) ⟨hx, hb, hml, hown, htA⟩ (m_isState l D cI cZ sa q μ (nI (t)) s.heap hP ) (cwV 1 htA (gdV wd_802 wd_804 wp_15 wd_5 wd_805) rfl rfl rfl (by decide +kernel) ⟨Nat.le_of_ble_eq_true rfl, Nat.le_of_ble_eq_true rfl⟩) hKK hP 0 rfl rfl rfl hl.1 rfl (Nat.le_of_ble_eq_true rfl) dX4_canTell_3 (Nat.zero_le _) (Nat.zero_le _) ?_
  refine b_ifeq (b := iw (nI (t)) (nI (0)) (nI (μ 0 1))) (tgt := 13) hx hb dX4_canTell_6 (by decide) (fun c_1 => ?_) (fun c_1 => ?_)
  · exact absurd (c_1.symm.trans (iw_n (Nat.zero_le _) ht (Nat.lt_trans (hB 0 1) (by decide)))) (by decide)
  refine n_iconst (k := 0) hx hb dX4_canTell_9 (by decide) ?_
  refine lv_goto (tgt := 14) hx hb dX4_canTell_10 (by decide) ?_
  refine wrV1 (v := .int (b2i (true))) (As := [.int (nI (0))]) (rest := []) (n := 1) ⟨hx, hb, hml, hown, htA⟩ (m_fine l D cI cZ sa q μ A (D_addr hD rfl) ) (cwV 1 htA (gdV wd_735 wd_737 wp_9 wd_5 wd_738) rfl rfl rfl (by decide +kernel) ⟨Nat.le_of_ble_eq_true rfl, Nat.le_of_ble_eq_true rfl⟩) hKK hP 0 rfl rfl rfl hl.1 rfl (Nat.le_of_ble_eq_true rfl) dX4_canTell_14 (Nat.zero_le _) (Nat.zero_le _) hS (fun _ h => h) (fun H1 locs hP1 hz1 hk1 hS => ?_)
  have hP : va_P D vwCl (wM q cI cZ (sv μ 0 2 (0))) H1 := hP1
  generalize H1 = H at hP hS ⊢
  refine b_ifeq (b := true) (tgt := 32) hx hb dX4_canTell_17 (by decide) (fun c_2 => ?_) (fun c_2 => ?_)
  · exact absurd c_2 (by decide)
  refine lv_aload_n hx hb dX4_canTell_20 rfl (lv_at hl 0 rfl) ?_
  refine lv_iload_n hx hb dX4_canTell_21 rfl (lv_at hl 1 rfl) ?_
  refine roV1 (v := .int (b2i (decide (μ 0 1 - t ≤ 40)))) (As := [.int (nI (t))]) (rest := []) (n := 1) ⟨hx, hb, hml, hown, htA⟩ (m_tells l D cI cZ sa q (sv μ 0 2 (0)) t H hP (sv_lt hB (by decide)) hm0 ht) (cwV 1 htA (gdV wd_806 wd_808 wp_16 wd_5 wd_809) rfl rfl rfl (by decide +kernel) ⟨Nat.le_of_ble_eq_true rfl, Nat.le_of_ble_eq_true rfl⟩) hKK hP 0 rfl rfl rfl hl.1 rfl (Nat.le_of_ble_eq_true rfl) dX4_canTell_22 (Nat.zero_le _) (Nat.zero_le _) ?_
  refine b_ifeq (b := decide (μ 0 1 - t ≤ 40)) (tgt := 32) hx hb dX4_canTell_25 (by decide) (fun c_3 => ?_) (fun c_3 => ?_)
  · refine n_iconst (k := 0) hx hb dX4_canTell_32 (by decide) ?_
    exact wr_z (v := false) hx hb hr hlocks (by rw [show decide (μ 0 1 - t ≤ 40) = false from c_3]) hP hS dX4_canTell_33
  · refine n_iconst (k := 1) hx hb dX4_canTell_28 (by decide) ?_
    refine lv_goto (tgt := 33) hx hb dX4_canTell_29 (by decide) ?_
    exact wr_z (v := true) hx hb hr hlocks (by rw [show decide (μ 0 1 - t ≤ 40) = true from c_3]) hP hS dX4_canTell_33
set_option maxHeartbeats 4000000 in
set_option maxRecDepth 100000 in
theorem r_changed_bad (l : Launch) (D : va_G) (cI cZ : ClassId) (sa : Nat → Nat) (q : Nat → Nat) (μ : ST) (x y9 : Int32) (A : Nat → Prop) (hD : va_D A (wM q cI cZ μ)) (hbad : (iw (x) (nI (0)) (nI (μ 0 1)) && iw (y9) (nI (0)) (nI (2))) = false) : Met l yX4_changed (codeW yX4_changed cX4_changed 3 (some .int)) ({ frames := 3, cells := 0, slots := 0, locals := 65 } : Room) (WrP D cI cZ sa (wM q cI cZ μ) [.ref (q 0), .int (x), .int (y9)]) (WrQ (some (.int (nI (0)))) D (wM q cI cZ (sv μ 0 2 1)) A) 0 0 A := by
  refine Met.ofW (cc := cX4_changed) (maxL := 3) (ret := (some .int)) (by decide) rfl ?_
  intro p e s m args below meth c s₁ B hml hv
  obtain ⟨rfl, hH, hKK⟩ := hv
  have hx := B.exec
  have hb := B.bytes
  have hr := B.returns
  have htA : ∀ w ∈ WA, w.before _ s = true := fun w h => atoms_spec (ws := (codeW yX4_changed cX4_changed 3 (some .int))) B.pre w (List.mem_cons_of_mem _ h)
  have hown : s.vm.findClass RX4 = some m.cls := findClass_of_methodNamed B.named
  have hlocks := B.notSynchronized
  have hP := hH
  have hS : va_S A s.heap s.heap [] := va_S.rf
  have hl := lv_entry ([.ref (q 0), .int (x), .int (y9)]) (n := 3) (Nat.le_of_ble_eq_true rfl)
  rw [lg_entry_eq]
  generalize (lg_sl ([.ref (q 0), .int (x), .int (y9)]) ++ List.replicate (3 - (lg_sl ([.ref (q 0), .int (x), .int (y9)])).length) Slot.unset).toArray = ls at hl ⊢
  have hl : lv_has ls 3 [(0, .ref (q 0)), (1, .int (x)), (2, .int (y9))] := hl
  refine lv_aload_n hx hb dX4_changed_0 rfl (lv_at hl 0 rfl) ?_
  refine lv_aload_n hx hb dX4_changed_1 rfl (lv_at hl 0 rfl) ?_
  refine lv_iload_n hx hb dX4_changed_2 rfl (lv_at hl 1 rfl) ?_
  refine lv_iload_n hx hb dX4_changed_3 rfl (lv_at hl 2 rfl) ?_
  refine roV1 (v := .int (nI (1))) (As := [.int (x), .int (y9)]) (rest := [.ref (q 0)]) (n := 2) ⟨hx, hb, hml, hown, htA⟩ (m_placeOf_1 l D cI cZ sa q μ (x) (y9) s.heap hP hbad) (cwV 2 htA (gdV wd_814 wd_816 wp_17 wd_5 wd_817) rfl rfl rfl (by decide +kernel) ⟨Nat.le_of_ble_eq_true rfl, Nat.le_of_ble_eq_true rfl⟩) hKK hP 0 rfl rfl rfl hl.1 rfl (Nat.le_of_ble_eq_true rfl) dX4_changed_4 (Nat.zero_le _) (Nat.zero_le _) ?_
  refine wrV1 (v := .int (b2i (false))) (As := [.int (nI (1))]) (rest := []) (n := 1) ⟨hx, hb, hml, hown, htA⟩ (m_unfine l D cI cZ sa q μ 1 A (D_addr hD rfl) (by decide) (by decide)) (cwV 1 htA (gdV wd_735 wd_737 wp_9 wd_5 wd_738) rfl rfl rfl (by decide +kernel) ⟨Nat.le_of_ble_eq_true rfl, Nat.le_of_ble_eq_true rfl⟩) hKK hP 0 rfl rfl rfl hl.1 rfl (Nat.le_of_ble_eq_true rfl) dX4_changed_7 (Nat.zero_le _) (Nat.zero_le _) hS (fun _ h => h) (fun H1 locs hP1 hz1 hk1 hS => ?_)
  have hP : va_P D vwCl (wM q cI cZ (sv μ 0 2 (1))) H1 := hP1
  generalize H1 = H at hP hS ⊢
  refine b_ifeq (b := false) (tgt := 22) hx hb dX4_changed_10 (by decide) (fun c_1 => ?_) (fun c_1 => ?_)
  rotate_left
  · exact absurd c_1 (by decide)
  refine n_iconst (k := 0) hx hb dX4_changed_22 (by decide) ?_
  exact wr_i hx hb hr hlocks (rfl) hP hS dX4_changed_23
set_option maxHeartbeats 4000000 in
set_option maxRecDepth 100000 in
theorem r_changed_no (l : Launch) (D : va_G) (cI cZ : ClassId) (sa : Nat → Nat) (q : Nat → Nat) (μ : ST) (t way : Nat) (A : Nat → Prop) (hD : va_D A (wM q cI cZ μ)) (hB : ∀ k i, μ k i < 1073741824) (hm0 : μ 0 0 ≤ 60) (hst9 : μ 0 1 ≤ 2048) (ht : t ≤ μ 0 1) (hw3 : way < 3) (hv9 : decide (μ 0 1 - t ≤ 40) = false) : Met l yX4_changed (codeW yX4_changed cX4_changed 3 (some .int)) ({ frames := 3, cells := 0, slots := 0, locals := 65 } : Room) (WrP D cI cZ sa (wM q cI cZ μ) [.ref (q 0), .int (nI (t)), .int (nI (way))]) (WrQ (some (.int (nI (0)))) D (wM q cI cZ (sv μ 0 2 2)) A) 0 0 A := by
  refine Met.ofW (cc := cX4_changed) (maxL := 3) (ret := (some .int)) (by decide) rfl ?_
  intro p e s m args below meth c s₁ B hml hv
  obtain ⟨rfl, hH, hKK⟩ := hv
  have hx := B.exec
  have hb := B.bytes
  have hr := B.returns
  have htA : ∀ w ∈ WA, w.before _ s = true := fun w h => atoms_spec (ws := (codeW yX4_changed cX4_changed 3 (some .int))) B.pre w (List.mem_cons_of_mem _ h)
  have hown : s.vm.findClass RX4 = some m.cls := findClass_of_methodNamed B.named
  have hlocks := B.notSynchronized
  have hP := hH
  have hS : va_S A s.heap s.heap [] := va_S.rf
  have hl := lv_entry ([.ref (q 0), .int (nI (t)), .int (nI (way))]) (n := 3) (Nat.le_of_ble_eq_true rfl)
  rw [lg_entry_eq]
  generalize (lg_sl ([.ref (q 0), .int (nI (t)), .int (nI (way))]) ++ List.replicate (3 - (lg_sl ([.ref (q 0), .int (nI (t)), .int (nI (way))])).length) Slot.unset).toArray = ls at hl ⊢
  have hl : lv_has ls 3 [(0, .ref (q 0)), (1, .int (nI (t))), (2, .int (nI (way)))] := hl
  refine lv_aload_n hx hb dX4_changed_0 rfl (lv_at hl 0 rfl) ?_
  refine lv_aload_n hx hb dX4_changed_1 rfl (lv_at hl 0 rfl) ?_
  refine lv_iload_n hx hb dX4_changed_2 rfl (lv_at hl 1 rfl) ?_
  refine lv_iload_n hx hb dX4_changed_3 rfl (lv_at hl 2 rfl) ?_
  refine roV1 (v := .int (nI (2))) (As := [.int (nI (t)), .int (nI (way))]) (rest := [.ref (q 0)]) (n := 2) ⟨hx, hb, hml, hown, htA⟩ (m_placeOf_2 l D cI cZ sa q μ t way s.heap hP hB hm0 ht hw3 hv9) (cwV 2 htA (gdV wd_814 wd_816 wp_17 wd_5 wd_817) rfl rfl rfl (by decide +kernel) ⟨Nat.le_of_ble_eq_true rfl, Nat.le_of_ble_eq_true rfl⟩) hKK hP 0 rfl rfl rfl hl.1 rfl (Nat.le_of_ble_eq_true rfl) dX4_changed_4 (Nat.zero_le _) (Nat.zero_le _) ?_
  refine wrV1 (v := .int (b2i (false))) (As := [.int (nI (2))]) (rest := []) (n := 1) ⟨hx, hb, hml, hown, htA⟩ (m_unfine l D cI cZ sa q μ 2 A (D_addr hD rfl) (by decide) (by decide)) (cwV 1 htA (gdV wd_735 wd_737 wp_9 wd_5 wd_738) rfl rfl rfl (by decide +kernel) ⟨Nat.le_of_ble_eq_true rfl, Nat.le_of_ble_eq_true rfl⟩) hKK hP 0 rfl rfl rfl hl.1 rfl (Nat.le_of_ble_eq_true rfl) dX4_changed_7 (Nat.zero_le _) (Nat.zero_le _) hS (fun _ h => h) (fun H1 locs hP1 hz1 hk1 hS => ?_)
  have hP : va_P D vwCl (wM q cI cZ (sv μ 0 2 (2))) H1 := hP1
  generalize H1 = H at hP hS ⊢
  refine b_ifeq (b := false) (tgt := 22) hx hb dX4_changed_10 (by decide) (fun c_1 => ?_) (fun c_1 => ?_)
  rotate_left
  · exact absurd c_1 (by decide)
  refine n_iconst (k := 0) hx hb dX4_changed_22 (by decide) ?_
  exact wr_i hx hb hr hlocks (rfl) hP hS dX4_changed_23
set_option maxHeartbeats 4000000 in
set_option maxRecDepth 100000 in
theorem r_changed_ok (l : Launch) (D : va_G) (cI cZ : ClassId) (sa : Nat → Nat) (q : Nat → Nat) (μ : ST) (t way : Nat) (A : Nat → Prop) (hD : va_D A (wM q cI cZ μ)) (hB : ∀ k i, μ k i < 1073741824) (hm0 : μ 0 0 ≤ 60) (hst9 : μ 0 1 ≤ 2048) (ht : t ≤ μ 0 1) (hw3 : way < 3) (hv9 : decide (μ 0 1 - t ≤ 40) = true) : Met l yX4_changed (codeW yX4_changed cX4_changed 3 (some .int)) ({ frames := 3, cells := 0, slots := 0, locals := 73 } : Room) (WrP D cI cZ sa (wM q cI cZ μ) [.ref (q 0), .int (nI (t)), .int (nI (way))]) (WrQ (some (.int (nI (cnt (fun m9 => chm μ t way m9) (μ 0 0))))) D (wM q cI cZ (sv μ 0 2 0)) A) 0 0 A := by
  refine Met.ofW (cc := cX4_changed) (maxL := 3) (ret := (some .int)) (by decide) rfl ?_
  intro p e s m args below meth c s₁ B hml hv
  obtain ⟨rfl, hH, hKK⟩ := hv
  have hx := B.exec
  have hb := B.bytes
  have hr := B.returns
  have htA : ∀ w ∈ WA, w.before _ s = true := fun w h => atoms_spec (ws := (codeW yX4_changed cX4_changed 3 (some .int))) B.pre w (List.mem_cons_of_mem _ h)
  have hown : s.vm.findClass RX4 = some m.cls := findClass_of_methodNamed B.named
  have hlocks := B.notSynchronized
  have hP := hH
  have hS : va_S A s.heap s.heap [] := va_S.rf
  have hl := lv_entry ([.ref (q 0), .int (nI (t)), .int (nI (way))]) (n := 3) (Nat.le_of_ble_eq_true rfl)
  rw [lg_entry_eq]
  generalize (lg_sl ([.ref (q 0), .int (nI (t)), .int (nI (way))]) ++ List.replicate (3 - (lg_sl ([.ref (q 0), .int (nI (t)), .int (nI (way))])).length) Slot.unset).toArray = ls at hl ⊢
  have hl : lv_has ls 3 [(0, .ref (q 0)), (1, .int (nI (t))), (2, .int (nI (way)))] := hl
  refine lv_aload_n hx hb dX4_changed_0 rfl (lv_at hl 0 rfl) ?_
  refine lv_aload_n hx hb dX4_changed_1 rfl (lv_at hl 0 rfl) ?_
  refine lv_iload_n hx hb dX4_changed_2 rfl (lv_at hl 1 rfl) ?_
  refine lv_iload_n hx hb dX4_changed_3 rfl (lv_at hl 2 rfl) ?_
  refine roV1 (v := .int (nI (0))) (As := [.int (nI (t)), .int (nI (way))]) (rest := [.ref (q 0)]) (n := 2) ⟨hx, hb, hml, hown, htA⟩ (m_placeOf_0 l D cI cZ sa q μ t way s.heap hP hB hm0 ht hw3 hv9) (cwV 2 htA (gdV wd_814 wd_816 wp_17 wd_5 wd_817) rfl rfl rfl (by decide +kernel) ⟨Nat.le_of_ble_eq_true rfl, Nat.le_of_ble_eq_true rfl⟩) hKK hP 0 rfl rfl rfl hl.1 rfl (Nat.le_of_ble_eq_true rfl) dX4_changed_4 (Nat.zero_le _) (Nat.zero_le _) ?_
  refine wrV1 (v := .int (b2i (true))) (As := [.int (nI (0))]) (rest := []) (n := 1) ⟨hx, hb, hml, hown, htA⟩ (m_fine l D cI cZ sa q μ A (D_addr hD rfl) ) (cwV 1 htA (gdV wd_735 wd_737 wp_9 wd_5 wd_738) rfl rfl rfl (by decide +kernel) ⟨Nat.le_of_ble_eq_true rfl, Nat.le_of_ble_eq_true rfl⟩) hKK hP 0 rfl rfl rfl hl.1 rfl (Nat.le_of_ble_eq_true rfl) dX4_changed_7 (Nat.zero_le _) (Nat.zero_le _) hS (fun _ h => h) (fun H1 locs hP1 hz1 hk1 hS => ?_)
  have hP : va_P D vwCl (wM q cI cZ (sv μ 0 2 (0))) H1 := hP1
  generalize H1 = H at hP hS ⊢
  refine b_ifeq (b := true) (tgt := 22) hx hb dX4_changed_10 (by decide) (fun c_1 => ?_) (fun c_1 => ?_)
  · exact absurd c_1 (by decide)
  refine lv_aload_n hx hb dX4_changed_13 rfl (lv_at hl 0 rfl) ?_
  refine lv_iload_n hx hb dX4_changed_14 rfl (lv_at hl 1 rfl) ?_
  refine lv_iload_n hx hb dX4_changed_15 rfl (lv_at hl 2 rfl) ?_
  refine roV1 (v := .int (nI (cnt (fun m9 => chm (sv μ 0 2 (0)) t way m9) (μ 0 0)))) (As := [.int (nI (t)), .int (nI (way))]) (rest := []) (n := 2) ⟨hx, hb, hml, hown, htA⟩ (m_countChanged l D cI cZ sa q (sv μ 0 2 (0)) t way H hP (sv_lt hB (by decide)) hm0 hst9 ht hw3) (cwV 2 htA (gdV wd_818 wd_820 wp_18 wd_5 wd_821) rfl rfl rfl (by decide +kernel) ⟨Nat.le_of_ble_eq_true rfl, Nat.le_of_ble_eq_true rfl⟩) hKK hP 0 rfl rfl rfl hl.1 rfl (Nat.le_of_ble_eq_true rfl) dX4_changed_16 (Nat.zero_le _) (Nat.zero_le _) ?_
  refine lv_goto (tgt := 23) hx hb dX4_changed_19 (by decide) ?_
  exact wr_i hx hb hr hlocks (rfl) hP hS dX4_changed_23
set_option maxHeartbeats 4000000 in
set_option maxRecDepth 100000 in
theorem r_changedAt_bad (l : Launch) (D : va_G) (cI cZ : ClassId) (sa : Nat → Nat) (q : Nat → Nat) (μ : ST) (x y9 ix : Int32) (A : Nat → Prop) (hD : va_D A (wM q cI cZ μ)) (hbad : (iw (x) (nI (0)) (nI (μ 0 1)) && iw (y9) (nI (0)) (nI (2))) = false) : Met l yX4_changedAt (codeW yX4_changedAt cX4_changedAt 7 (some .int)) ({ frames := 3, cells := 0, slots := 0, locals := 65 } : Room) (WrP D cI cZ sa (wM q cI cZ μ) [.ref (q 0), .int (x), .int (y9), .int (ix)]) (WrQ (some (.int (nI (0)))) D (wM q cI cZ (sv μ 0 2 1)) A) 0 0 A := by
  refine Met.ofW (cc := cX4_changedAt) (maxL := 7) (ret := (some .int)) (by decide) rfl ?_
  intro p e s m args below meth c s₁ B hml hv
  obtain ⟨rfl, hH, hKK⟩ := hv
  have hx := B.exec
  have hb := B.bytes
  have hr := B.returns
  have htA : ∀ w ∈ WA, w.before _ s = true := fun w h => atoms_spec (ws := (codeW yX4_changedAt cX4_changedAt 7 (some .int))) B.pre w (List.mem_cons_of_mem _ h)
  have hown : s.vm.findClass RX4 = some m.cls := findClass_of_methodNamed B.named
  have hlocks := B.notSynchronized
  have hP := hH
  have hS : va_S A s.heap s.heap [] := va_S.rf
  have hl := lv_entry ([.ref (q 0), .int (x), .int (y9), .int (ix)]) (n := 7) (Nat.le_of_ble_eq_true rfl)
  rw [lg_entry_eq]
  generalize (lg_sl ([.ref (q 0), .int (x), .int (y9), .int (ix)]) ++ List.replicate (7 - (lg_sl ([.ref (q 0), .int (x), .int (y9), .int (ix)])).length) Slot.unset).toArray = ls at hl ⊢
  have hl : lv_has ls 7 [(0, .ref (q 0)), (1, .int (x)), (2, .int (y9)), (3, .int (ix))] := hl
  refine lv_aload_n hx hb dX4_changedAt_0 rfl (lv_at hl 0 rfl) ?_
  refine lv_iload_n hx hb dX4_changedAt_1 rfl (lv_at hl 1 rfl) ?_
  refine lv_iload_n hx hb dX4_changedAt_2 rfl (lv_at hl 2 rfl) ?_
  refine roV1 (v := .int (nI (1))) (As := [.int (x), .int (y9)]) (rest := []) (n := 2) ⟨hx, hb, hml, hown, htA⟩ (m_placeOf_1 l D cI cZ sa q μ (x) (y9) s.heap hP hbad) (cwV 2 htA (gdV wd_814 wd_816 wp_17 wd_5 wd_817) rfl rfl rfl (by decide +kernel) ⟨Nat.le_of_ble_eq_true rfl, Nat.le_of_ble_eq_true rfl⟩) hKK hP 0 rfl rfl rfl hl.1 rfl (Nat.le_of_ble_eq_true rfl) dX4_changedAt_3 (Nat.zero_le _) (Nat.zero_le _) ?_
  refine lv_istore (lv' := [(4, .int (nI (1))), (0, .ref (q 0)), (1, .int (x)), (2, .int (y9)), (3, .int (ix))]) hx hb dX4_changedAt_6 hl (by decide) rfl (fun ls hl => ?_)
  refine lv_aload_n hx hb dX4_changedAt_8 rfl (lv_at hl 1 rfl) ?_
  refine lv_iload hx hb dX4_changedAt_9 (lv_at hl 0 rfl) ?_
  refine b_ifne (b := true) (tgt := 34) hx hb dX4_changedAt_11 (by decide) (fun c_1 => ?_) (fun c_1 => ?_)
  rotate_left
  · exact absurd c_1 (by decide)
  refine lv_iload hx hb dX4_changedAt_34 (lv_at hl 0 rfl) ?_
  refine wrV1 (v := .int (b2i (false))) (As := [.int (nI (1))]) (rest := []) (n := 1) ⟨hx, hb, hml, hown, htA⟩ (m_unfine l D cI cZ sa q μ 1 A (D_addr hD rfl) (by decide) (by decide)) (cwV 1 htA (gdV wd_735 wd_737 wp_9 wd_5 wd_738) rfl rfl rfl (by decide +kernel) ⟨Nat.le_of_ble_eq_true rfl, Nat.le_of_ble_eq_true rfl⟩) hKK hP 0 rfl rfl rfl hl.1 rfl (Nat.le_of_ble_eq_true rfl) dX4_changedAt_36 (Nat.zero_le _) (Nat.zero_le _) hS (fun _ h => h) (fun H1 locs hP1 hz1 hk1 hS => ?_)
  have hP : va_P D vwCl (wM q cI cZ (sv μ 0 2 (1))) H1 := hP1
  generalize H1 = H at hP hS ⊢
  refine b_ifne (b := false) (tgt := 44) hx hb dX4_changedAt_39 (by decide) (fun c_2 => ?_) (fun c_2 => ?_)
  · exact absurd c_2 (by decide)
  refine n_iconst (k := 0) hx hb dX4_changedAt_42 (by decide) ?_
  exact wr_i hx hb hr hlocks (rfl) hP hS dX4_changedAt_43
set_option maxHeartbeats 4000000 in
set_option maxRecDepth 100000 in
theorem r_changedAt_no (l : Launch) (D : va_G) (cI cZ : ClassId) (sa : Nat → Nat) (q : Nat → Nat) (μ : ST) (t way : Nat) (ix : Int32) (A : Nat → Prop) (hD : va_D A (wM q cI cZ μ)) (hB : ∀ k i, μ k i < 1073741824) (hm0 : μ 0 0 ≤ 60) (hst9 : μ 0 1 ≤ 2048) (ht : t ≤ μ 0 1) (hw3 : way < 3) (hv9 : decide (μ 0 1 - t ≤ 40) = false) : Met l yX4_changedAt (codeW yX4_changedAt cX4_changedAt 7 (some .int)) ({ frames := 3, cells := 0, slots := 0, locals := 65 } : Room) (WrP D cI cZ sa (wM q cI cZ μ) [.ref (q 0), .int (nI (t)), .int (nI (way)), .int (ix)]) (WrQ (some (.int (nI (0)))) D (wM q cI cZ (sv μ 0 2 2)) A) 0 0 A := by
  refine Met.ofW (cc := cX4_changedAt) (maxL := 7) (ret := (some .int)) (by decide) rfl ?_
  intro p e s m args below meth c s₁ B hml hv
  obtain ⟨rfl, hH, hKK⟩ := hv
  have hx := B.exec
  have hb := B.bytes
  have hr := B.returns
  have htA : ∀ w ∈ WA, w.before _ s = true := fun w h => atoms_spec (ws := (codeW yX4_changedAt cX4_changedAt 7 (some .int))) B.pre w (List.mem_cons_of_mem _ h)
  have hown : s.vm.findClass RX4 = some m.cls := findClass_of_methodNamed B.named
  have hlocks := B.notSynchronized
  have hP := hH
  have hS : va_S A s.heap s.heap [] := va_S.rf
  have hl := lv_entry ([.ref (q 0), .int (nI (t)), .int (nI (way)), .int (ix)]) (n := 7) (Nat.le_of_ble_eq_true rfl)
  rw [lg_entry_eq]
  generalize (lg_sl ([.ref (q 0), .int (nI (t)), .int (nI (way)), .int (ix)]) ++ List.replicate (7 - (lg_sl ([.ref (q 0), .int (nI (t)), .int (nI (way)), .int (ix)])).length) Slot.unset).toArray = ls at hl ⊢
  have hl : lv_has ls 7 [(0, .ref (q 0)), (1, .int (nI (t))), (2, .int (nI (way))), (3, .int (ix))] := hl
  refine lv_aload_n hx hb dX4_changedAt_0 rfl (lv_at hl 0 rfl) ?_
  refine lv_iload_n hx hb dX4_changedAt_1 rfl (lv_at hl 1 rfl) ?_
  refine lv_iload_n hx hb dX4_changedAt_2 rfl (lv_at hl 2 rfl) ?_
  refine roV1 (v := .int (nI (2))) (As := [.int (nI (t)), .int (nI (way))]) (rest := []) (n := 2) ⟨hx, hb, hml, hown, htA⟩ (m_placeOf_2 l D cI cZ sa q μ t way s.heap hP hB hm0 ht hw3 hv9) (cwV 2 htA (gdV wd_814 wd_816 wp_17 wd_5 wd_817) rfl rfl rfl (by decide +kernel) ⟨Nat.le_of_ble_eq_true rfl, Nat.le_of_ble_eq_true rfl⟩) hKK hP 0 rfl rfl rfl hl.1 rfl (Nat.le_of_ble_eq_true rfl) dX4_changedAt_3 (Nat.zero_le _) (Nat.zero_le _) ?_
  refine lv_istore (lv' := [(4, .int (nI (2))), (0, .ref (q 0)), (1, .int (nI (t))), (2, .int (nI (way))), (3, .int (ix))]) hx hb dX4_changedAt_6 hl (by decide) rfl (fun ls hl => ?_)
  refine lv_aload_n hx hb dX4_changedAt_8 rfl (lv_at hl 1 rfl) ?_
  refine lv_iload hx hb dX4_changedAt_9 (lv_at hl 0 rfl) ?_
  refine n_ifne (x := 2) (tgt := 34) hx hb dX4_changedAt_11 (by decide) (by decide) (fun c_1 => ?_) (fun c_1 => ?_)
  rotate_left
  · exact absurd c_1 (by decide)
  refine lv_iload hx hb dX4_changedAt_34 (lv_at hl 0 rfl) ?_
  refine wrV1 (v := .int (b2i (false))) (As := [.int (nI (2))]) (rest := []) (n := 1) ⟨hx, hb, hml, hown, htA⟩ (m_unfine l D cI cZ sa q μ 2 A (D_addr hD rfl) (by decide) (by decide)) (cwV 1 htA (gdV wd_735 wd_737 wp_9 wd_5 wd_738) rfl rfl rfl (by decide +kernel) ⟨Nat.le_of_ble_eq_true rfl, Nat.le_of_ble_eq_true rfl⟩) hKK hP 0 rfl rfl rfl hl.1 rfl (Nat.le_of_ble_eq_true rfl) dX4_changedAt_36 (Nat.zero_le _) (Nat.zero_le _) hS (fun _ h => h) (fun H1 locs hP1 hz1 hk1 hS => ?_)
  have hP : va_P D vwCl (wM q cI cZ (sv μ 0 2 (2))) H1 := hP1
  generalize H1 = H at hP hS ⊢
  refine b_ifne (b := false) (tgt := 44) hx hb dX4_changedAt_39 (by decide) (fun c_2 => ?_) (fun c_2 => ?_)
  · exact absurd c_2 (by decide)
  refine n_iconst (k := 0) hx hb dX4_changedAt_42 (by decide) ?_
  exact wr_i hx hb hr hlocks (rfl) hP hS dX4_changedAt_43
set_option maxHeartbeats 4000000 in
set_option maxRecDepth 100000 in
theorem r_changedAt_ix (l : Launch) (D : va_G) (cI cZ : ClassId) (sa : Nat → Nat) (q : Nat → Nat) (μ : ST) (t way : Nat) (ix : Int32) (A : Nat → Prop) (hD : va_D A (wM q cI cZ μ)) (hB : ∀ k i, μ k i < 1073741824) (hm0 : μ 0 0 ≤ 60) (hst9 : μ 0 1 ≤ 2048) (ht : t ≤ μ 0 1) (hw3 : way < 3) (hv9 : decide (μ 0 1 - t ≤ 40) = true) (hz : iw (ix) (nI (0)) (oi (cnt (fun m9 => chm μ t way m9) (μ 0 0))) = false) : Met l yX4_changedAt (codeW yX4_changedAt cX4_changedAt 7 (some .int)) ({ frames := 3, cells := 0, slots := 0, locals := 73 } : Room) (WrP D cI cZ sa (wM q cI cZ μ) [.ref (q 0), .int (nI (t)), .int (nI (way)), .int (ix)]) (WrQ (some (.int (nI (0)))) D (wM q cI cZ (sv μ 0 2 3)) A) 0 0 A := by
  refine Met.ofW (cc := cX4_changedAt) (maxL := 7) (ret := (some .int)) (by decide) rfl ?_
  intro p e s m args below meth c s₁ B hml hv
  obtain ⟨rfl, hH, hKK⟩ := hv
  have hx := B.exec
  have hb := B.bytes
  have hr := B.returns
  have htA : ∀ w ∈ WA, w.before _ s = true := fun w h => atoms_spec (ws := (codeW yX4_changedAt cX4_changedAt 7 (some .int))) B.pre w (List.mem_cons_of_mem _ h)
  have hown : s.vm.findClass RX4 = some m.cls := findClass_of_methodNamed B.named
  have hlocks := B.notSynchronized
  have hP := hH
  have hS : va_S A s.heap s.heap [] := va_S.rf
  have hl := lv_entry ([.ref (q 0), .int (nI (t)), .int (nI (way)), .int (ix)]) (n := 7) (Nat.le_of_ble_eq_true rfl)
  rw [lg_entry_eq]
  generalize (lg_sl ([.ref (q 0), .int (nI (t)), .int (nI (way)), .int (ix)]) ++ List.replicate (7 - (lg_sl ([.ref (q 0), .int (nI (t)), .int (nI (way)), .int (ix)])).length) Slot.unset).toArray = ls at hl ⊢
  have hl : lv_has ls 7 [(0, .ref (q 0)), (1, .int (nI (t))), (2, .int (nI (way))), (3, .int (ix))] := hl
  refine lv_aload_n hx hb dX4_changedAt_0 rfl (lv_at hl 0 rfl) ?_
  refine lv_iload_n hx hb dX4_changedAt_1 rfl (lv_at hl 1 rfl) ?_
  refine lv_iload_n hx hb dX4_changedAt_2 rfl (lv_at hl 2 rfl) ?_
  refine roV1 (v := .int (nI (0))) (As := [.int (nI (t)), .int (nI (way))]) (rest := []) (n := 2) ⟨hx, hb, hml, hown, htA⟩ (m_placeOf_0 l D cI cZ sa q μ t way s.heap hP hB hm0 ht hw3 hv9) (cwV 2 htA (gdV wd_814 wd_816 wp_17 wd_5 wd_817) rfl rfl rfl (by decide +kernel) ⟨Nat.le_of_ble_eq_true rfl, Nat.le_of_ble_eq_true rfl⟩) hKK hP 0 rfl rfl rfl hl.1 rfl (Nat.le_of_ble_eq_true rfl) dX4_changedAt_3 (Nat.zero_le _) (Nat.zero_le _) ?_
  refine lv_istore (lv' := [(4, .int (nI (0))), (0, .ref (q 0)), (1, .int (nI (t))), (2, .int (nI (way))), (3, .int (ix))]) hx hb dX4_changedAt_6 hl (by decide) rfl (fun ls hl => ?_)
  refine lv_aload_n hx hb dX4_changedAt_8 rfl (lv_at hl 1 rfl) ?_
  refine lv_iload hx hb dX4_changedAt_9 (lv_at hl 0 rfl) ?_
  refine b_ifne (b := false) (tgt := 34) hx hb dX4_changedAt_11 (by decide) (fun c_1 => ?_) (fun c_1 => ?_)
  · exact absurd c_1 (by decide)
  refine lv_iload_n hx hb dX4_changedAt_14 rfl (lv_at hl 4 rfl) ?_
  refine n_iconst (k := 0) hx hb dX4_changedAt_15 (by decide) ?_
  refine lv_aload_n hx hb dX4_changedAt_16 rfl (lv_at hl 1 rfl) ?_
  refine lv_iload_n hx hb dX4_changedAt_17 rfl (lv_at hl 2 rfl) ?_
  refine lv_iload_n hx hb dX4_changedAt_18 rfl (lv_at hl 3 rfl) ?_
  refine roV1 (v := .int (nI (cnt (fun m9 => chm μ t way m9) (μ 0 0)))) (As := [.int (nI (t)), .int (nI (way))]) (rest := [.int (nI (0)), .int (ix), .ref (q 0)]) (n := 2) ⟨hx, hb, hml, hown, htA⟩ (m_countChanged l D cI cZ sa q μ t way s.heap hP hB hm0 hst9 ht hw3) (cwV 2 htA (gdV wd_818 wd_820 wp_18 wd_5 wd_821) rfl rfl rfl (by decide +kernel) ⟨Nat.le_of_ble_eq_true rfl, Nat.le_of_ble_eq_true rfl⟩) hKK hP 0 rfl rfl rfl hl.1 rfl (Nat.le_of_ble_eq_true rfl) dX4_changedAt_19 (Nat.zero_le _) (Nat.zero_le _) ?_
  refine n_iconst (k := 1) hx hb dX4_changedAt_22 (by decide) ?_
  refine n_ipred hx hb dX4_changedAt_23 ?_
  refine roS1 (v := .int (b2i (iw (ix) (nI (0)) (oi (cnt (fun m9 => chm μ t way m9) (μ 0 0)))))) (As := [.int (ix), .int (nI (0)), .int (oi (cnt (fun m9 => chm μ t way m9) (μ 0 0)))]) (rest := [.ref (q 0)]) (n := 3) ⟨hx, hb, hml, hown, htA⟩ (m_in l D cI cZ sa (ix) (nI (0)) (oi (cnt (fun m9 => chm μ t way m9) (μ 0 0))) s.heap ) (va_cwS 3 htA (gdS wd_732 wd_733 wd_5 wd_734) rfl rfl rfl (by decide +kernel) ⟨Nat.le_of_ble_eq_true rfl, Nat.le_of_ble_eq_true rfl⟩) hKK rfl hl.1 rfl (Nat.le_of_ble_eq_true rfl) dX4_changedAt_24 (Nat.zero_le _) (Nat.zero_le _) ?_
  refine b_ifne (b := iw (ix) (nI (0)) (oi (cnt (fun m9 => chm μ t way m9) (μ 0 0)))) (tgt := 34) hx hb dX4_changedAt_27 (by decide) (fun c_2 => ?_) (fun c_2 => ?_)
  · exact absurd (c_2.symm.trans hz) (by decide)
  refine n_iconst (k := 3) hx hb dX4_changedAt_30 (by decide) ?_
  refine lv_goto (tgt := 36) hx hb dX4_changedAt_31 (by decide) ?_
  refine wrV1 (v := .int (b2i (false))) (As := [.int (nI (3))]) (rest := []) (n := 1) ⟨hx, hb, hml, hown, htA⟩ (m_unfine l D cI cZ sa q μ 3 A (D_addr hD rfl) (by decide) (by decide)) (cwV 1 htA (gdV wd_735 wd_737 wp_9 wd_5 wd_738) rfl rfl rfl (by decide +kernel) ⟨Nat.le_of_ble_eq_true rfl, Nat.le_of_ble_eq_true rfl⟩) hKK hP 0 rfl rfl rfl hl.1 rfl (Nat.le_of_ble_eq_true rfl) dX4_changedAt_36 (Nat.zero_le _) (Nat.zero_le _) hS (fun _ h => h) (fun H1 locs hP1 hz1 hk1 hS => ?_)
  have hP : va_P D vwCl (wM q cI cZ (sv μ 0 2 (3))) H1 := hP1
  generalize H1 = H at hP hS ⊢
  refine b_ifne (b := false) (tgt := 44) hx hb dX4_changedAt_39 (by decide) (fun c_3 => ?_) (fun c_3 => ?_)
  · exact absurd c_3 (by decide)
  refine n_iconst (k := 0) hx hb dX4_changedAt_42 (by decide) ?_
  exact wr_i hx hb hr hlocks (rfl) hP hS dX4_changedAt_43
set_option maxHeartbeats 4000000 in
set_option maxRecDepth 100000 in
theorem r_changedAt_ok (l : Launch) (D : va_G) (cI cZ : ClassId) (sa : Nat → Nat) (q : Nat → Nat) (μ : ST) (t way ix mm : Nat) (A : Nat → Prop) (hD : va_D A (wM q cI cZ μ)) (hB : ∀ k i, μ k i < 1073741824) (hm0 : μ 0 0 ≤ 60) (hst9 : μ 0 1 ≤ 2048) (ht : t ≤ μ 0 1) (hw3 : way < 3) (hv9 : decide (μ 0 1 - t ≤ 40) = true) (hmm : mm < μ 0 0) (hp9 : chm μ t way mm = true) (hc9 : cnt (fun m9 => chm μ t way m9) mm = ix) (hix : ix < cnt (fun m9 => chm μ t way m9) (μ 0 0)) : Met l yX4_changedAt (codeW yX4_changedAt cX4_changedAt 7 (some .int)) ({ frames := 3, cells := 0, slots := 0, locals := 73 } : Room) (WrP D cI cZ sa (wM q cI cZ μ) [.ref (q 0), .int (nI (t)), .int (nI (way)), .int (nI (ix))]) (WrQ (some (.int (nI (mm)))) D (wM q cI cZ (sv μ 0 2 0)) A) 0 0 A := by
  refine Met.ofW (cc := cX4_changedAt) (maxL := 7) (ret := (some .int)) (by decide) rfl ?_
  intro p e s m args below meth c s₁ B hml hv
  obtain ⟨rfl, hH, hKK⟩ := hv
  have hx := B.exec
  have hb := B.bytes
  have hr := B.returns
  have htA : ∀ w ∈ WA, w.before _ s = true := fun w h => atoms_spec (ws := (codeW yX4_changedAt cX4_changedAt 7 (some .int))) B.pre w (List.mem_cons_of_mem _ h)
  have hown : s.vm.findClass RX4 = some m.cls := findClass_of_methodNamed B.named
  have hlocks := B.notSynchronized
  have hP := hH
  have hS : va_S A s.heap s.heap [] := va_S.rf
  have hl := lv_entry ([.ref (q 0), .int (nI (t)), .int (nI (way)), .int (nI (ix))]) (n := 7) (Nat.le_of_ble_eq_true rfl)
  rw [lg_entry_eq]
  generalize (lg_sl ([.ref (q 0), .int (nI (t)), .int (nI (way)), .int (nI (ix))]) ++ List.replicate (7 - (lg_sl ([.ref (q 0), .int (nI (t)), .int (nI (way)), .int (nI (ix))])).length) Slot.unset).toArray = ls at hl ⊢
  have hl : lv_has ls 7 [(0, .ref (q 0)), (1, .int (nI (t))), (2, .int (nI (way))), (3, .int (nI (ix)))] := hl
  refine lv_aload_n hx hb dX4_changedAt_0 rfl (lv_at hl 0 rfl) ?_
  refine lv_iload_n hx hb dX4_changedAt_1 rfl (lv_at hl 1 rfl) ?_
  refine lv_iload_n hx hb dX4_changedAt_2 rfl (lv_at hl 2 rfl) ?_
  refine roV1 (v := .int (nI (0))) (As := [.int (nI (t)), .int (nI (way))]) (rest := []) (n := 2) ⟨hx, hb, hml, hown, htA⟩ (m_placeOf_0 l D cI cZ sa q μ t way s.heap hP hB hm0 ht hw3 hv9) (cwV 2 htA (gdV wd_814 wd_816 wp_17 wd_5 wd_817) rfl rfl rfl (by decide +kernel) ⟨Nat.le_of_ble_eq_true rfl, Nat.le_of_ble_eq_true rfl⟩) hKK hP 0 rfl rfl rfl hl.1 rfl (Nat.le_of_ble_eq_true rfl) dX4_changedAt_3 (Nat.zero_le _) (Nat.zero_le _) ?_
  refine lv_istore (lv' := [(4, .int (nI (0))), (0, .ref (q 0)), (1, .int (nI (t))), (2, .int (nI (way))), (3, .int (nI (ix)))]) hx hb dX4_changedAt_6 hl (by decide) rfl (fun ls hl => ?_)
  refine lv_aload_n hx hb dX4_changedAt_8 rfl (lv_at hl 1 rfl) ?_
  refine lv_iload hx hb dX4_changedAt_9 (lv_at hl 0 rfl) ?_
  refine b_ifne (b := false) (tgt := 34) hx hb dX4_changedAt_11 (by decide) (fun c_1 => ?_) (fun c_1 => ?_)
  · exact absurd c_1 (by decide)
  refine lv_iload_n hx hb dX4_changedAt_14 rfl (lv_at hl 4 rfl) ?_
  refine n_iconst (k := 0) hx hb dX4_changedAt_15 (by decide) ?_
  refine lv_aload_n hx hb dX4_changedAt_16 rfl (lv_at hl 1 rfl) ?_
  refine lv_iload_n hx hb dX4_changedAt_17 rfl (lv_at hl 2 rfl) ?_
  refine lv_iload_n hx hb dX4_changedAt_18 rfl (lv_at hl 3 rfl) ?_
  refine roV1 (v := .int (nI (cnt (fun m9 => chm μ t way m9) (μ 0 0)))) (As := [.int (nI (t)), .int (nI (way))]) (rest := [.int (nI (0)), .int (nI (ix)), .ref (q 0)]) (n := 2) ⟨hx, hb, hml, hown, htA⟩ (m_countChanged l D cI cZ sa q μ t way s.heap hP hB hm0 hst9 ht hw3) (cwV 2 htA (gdV wd_818 wd_820 wp_18 wd_5 wd_821) rfl rfl rfl (by decide +kernel) ⟨Nat.le_of_ble_eq_true rfl, Nat.le_of_ble_eq_true rfl⟩) hKK hP 0 rfl rfl rfl hl.1 rfl (Nat.le_of_ble_eq_true rfl) dX4_changedAt_19 (Nat.zero_le _) (Nat.zero_le _) ?_
  refine n_iconst (k := 1) hx hb dX4_changedAt_22 (by decide) ?_
  refine n_ipred hx hb dX4_changedAt_23 ?_
  refine roS1 (v := .int (b2i (iw (nI (ix)) (nI (0)) (oi (cnt (fun m9 => chm μ t way m9) (μ 0 0)))))) (As := [.int (nI (ix)), .int (nI (0)), .int (oi (cnt (fun m9 => chm μ t way m9) (μ 0 0)))]) (rest := [.ref (q 0)]) (n := 3) ⟨hx, hb, hml, hown, htA⟩ (m_in l D cI cZ sa (nI (ix)) (nI (0)) (oi (cnt (fun m9 => chm μ t way m9) (μ 0 0))) s.heap ) (va_cwS 3 htA (gdS wd_732 wd_733 wd_5 wd_734) rfl rfl rfl (by decide +kernel) ⟨Nat.le_of_ble_eq_true rfl, Nat.le_of_ble_eq_true rfl⟩) hKK rfl hl.1 rfl (Nat.le_of_ble_eq_true rfl) dX4_changedAt_24 (Nat.zero_le _) (Nat.zero_le _) ?_
  refine b_ifne (b := iw (nI (ix)) (nI (0)) (oi (cnt (fun m9 => chm μ t way m9) (μ 0 0)))) (tgt := 34) hx hb dX4_changedAt_27 (by decide) (fun c_2 => ?_) (fun c_2 => ?_)
  rotate_left
  · exact absurd (c_2.symm.trans (iw_k hix (Nat.le_trans (cnt_le _ _) (by omega)))) (by decide)
  refine lv_iload hx hb dX4_changedAt_34 (lv_at hl 0 rfl) ?_
  refine wrV1 (v := .int (b2i (true))) (As := [.int (nI (0))]) (rest := []) (n := 1) ⟨hx, hb, hml, hown, htA⟩ (m_fine l D cI cZ sa q μ A (D_addr hD rfl) ) (cwV 1 htA (gdV wd_735 wd_737 wp_9 wd_5 wd_738) rfl rfl rfl (by decide +kernel) ⟨Nat.le_of_ble_eq_true rfl, Nat.le_of_ble_eq_true rfl⟩) hKK hP 0 rfl rfl rfl hl.1 rfl (Nat.le_of_ble_eq_true rfl) dX4_changedAt_36 (Nat.zero_le _) (Nat.zero_le _) hS (fun _ h => h) (fun H1 locs hP1 hz1 hk1 hS => ?_)
  have hP : va_P D vwCl (wM q cI cZ (sv μ 0 2 (0))) H1 := hP1
  generalize H1 = H at hP hS ⊢
  refine b_ifne (b := true) (tgt := 44) hx hb dX4_changedAt_39 (by decide) (fun c_3 => ?_) (fun c_3 => ?_)
  rotate_left
  · exact absurd c_3 (by decide)
  refine lv_iload_n hx hb dX4_changedAt_44 rfl (lv_at hl 4 rfl) ?_
  refine lv_istore (lv' := [(5, .int (nI (ix))), (4, .int (nI (0))), (0, .ref (q 0)), (1, .int (nI (t))), (2, .int (nI (way))), (3, .int (nI (ix)))]) hx hb dX4_changedAt_45 hl (by decide) rfl (fun ls hl => ?_)
  refine n_iconst (k := 0) hx hb dX4_changedAt_47 (by decide) ?_
  refine lv_istore (lv' := [(6, .int (nI (0))), (5, .int (nI (ix))), (4, .int (nI (0))), (0, .ref (q 0)), (1, .int (nI (t))), (2, .int (nI (way))), (3, .int (nI (ix)))]) hx hb dX4_changedAt_48 hl (by decide) rfl (fun ls hl => ?_)
  have loop_50 : ∀ (n : Nat) (i : Nat) (H : Heap) (locs : List Loc), (i + n = mm) → va_P D vwCl (wM q cI cZ (sv μ 0 2 (0))) H → va_S A s.heap H locs → ∀ (ls : Array Slot), lv_has ls 7 [(0, .ref (q 0)), (1, .int (nI (t))), (2, .int (nI (way))), (5, .int (nI (ix - cnt (fun m9 => chm μ t way m9) i))), (6, .int (nI (i)))] → W p l e (headSpec (codeW yX4_changedAt cX4_changedAt 7 (some .int)) ({ frames := 3, cells := 0, slots := 0, locals := 73 } : Room)).room s m ([.ref (q 0), .int (nI (t)), .int (nI (way)), .int (nI (ix))] : List Value).toArray below meth c H locs 0 0 (MQ below (WrQ (some (.int (nI (mm)))) D (wM q cI cZ (sv μ 0 2 0)) A) ([.ref (q 0), .int (nI (t)), .int (nI (way)), .int (nI (ix))] : List Value).toArray s 0 0 A) (F0 m 50 ls []) := by
    intro n
    induction n with
    | zero =>
      intro i H locs hin hP hS ls hl
      have hq : cnt (fun m9 => chm μ t way m9) i = ix := by rw [show i = mm by omega]; exact hc9
      have hpi : chm μ t way i = true := by rw [show i = mm by omega]; exact hp9
      refine lv_iload hx hb dX4_changedAt_50 (lv_at hl 3 rfl) ?_
      refine n_ifgt (x := ix - cnt (fun m9 => chm μ t way m9) i) (tgt := 66) hx hb dX4_changedAt_52 (by decide) (by have := cnt_le (fun m9 => chm μ t way m9) (μ 0 0); omega) (fun c_4 => ?_) (fun c_4 => ?_)
      · exfalso; omega
      refine lv_aload_n hx hb dX4_changedAt_55 rfl (lv_at hl 0 rfl) ?_
      refine lv_iload hx hb dX4_changedAt_56 (lv_at hl 4 rfl) ?_
      refine lv_iload_n hx hb dX4_changedAt_58 rfl (lv_at hl 1 rfl) ?_
      refine lv_iload_n hx hb dX4_changedAt_59 rfl (lv_at hl 2 rfl) ?_
      refine roV1 (v := .int (b2i (chm (sv μ 0 2 (0)) t way i))) (As := [.int (nI (i)), .int (nI (t)), .int (nI (way))]) (rest := []) (n := 3) ⟨hx, hb, hml, hown, htA⟩ (m_changedSo l D cI cZ sa q (sv μ 0 2 (0)) i t way H hP (sv_lt hB (by decide)) hm0 hst9 (by omega) ht hw3) (cwV 3 htA (gdV wd_822 wd_824 wp_19 wd_5 wd_825) rfl rfl rfl (by decide +kernel) ⟨Nat.le_of_ble_eq_true rfl, Nat.le_of_ble_eq_true rfl⟩) hKK hP 0 rfl rfl rfl hl.1 rfl (Nat.le_of_ble_eq_true rfl) dX4_changedAt_60 (Nat.zero_le _) (Nat.zero_le _) ?_
      refine b_ifne (b := chm (sv μ 0 2 (0)) t way i) (tgt := 93) hx hb dX4_changedAt_63 (by decide) (fun c_5 => ?_) (fun c_5 => ?_)
      rotate_left
      · exact absurd (hpi.symm.trans c_5) (by decide)
      refine lv_iload hx hb dX4_changedAt_93 (lv_at hl 4 rfl) ?_
      exact wr_i hx hb hr hlocks (by rw [show i = mm by omega]) hP hS dX4_changedAt_95
    | succ n ih =>
      intro i H locs hin hP hS ls hl
      have hq : cnt (fun m9 => chm μ t way m9) i + b2n (chm μ t way i) ≤ ix := hc9 ▸ cnt_step (p := fun m9 => chm μ t way m9) (by omega)
      refine lv_iload hx hb dX4_changedAt_50 (lv_at hl 3 rfl) ?_
      refine n_ifgt (x := ix - cnt (fun m9 => chm μ t way m9) i) (tgt := 66) hx hb dX4_changedAt_52 (by decide) (by have := cnt_le (fun m9 => chm μ t way m9) (μ 0 0); omega) (fun c_6 => ?_) (fun c_6 => ?_)
      · refine lv_iload hx hb dX4_changedAt_66 (lv_at hl 3 rfl) ?_
        refine lv_aload_n hx hb dX4_changedAt_68 rfl (lv_at hl 0 rfl) ?_
        refine lv_iload hx hb dX4_changedAt_69 (lv_at hl 4 rfl) ?_
        refine lv_iload_n hx hb dX4_changedAt_71 rfl (lv_at hl 1 rfl) ?_
        refine lv_iload_n hx hb dX4_changedAt_72 rfl (lv_at hl 2 rfl) ?_
        refine roV1 (v := .int (b2i (chm (sv μ 0 2 (0)) t way i))) (As := [.int (nI (i)), .int (nI (t)), .int (nI (way))]) (rest := [.int (nI (ix - cnt (fun m9 => chm μ t way m9) i))]) (n := 3) ⟨hx, hb, hml, hown, htA⟩ (m_changedSo l D cI cZ sa q (sv μ 0 2 (0)) i t way H hP (sv_lt hB (by decide)) hm0 hst9 (by omega) ht hw3) (cwV 3 htA (gdV wd_822 wd_824 wp_19 wd_5 wd_825) rfl rfl rfl (by decide +kernel) ⟨Nat.le_of_ble_eq_true rfl, Nat.le_of_ble_eq_true rfl⟩) hKK hP 0 rfl rfl rfl hl.1 rfl (Nat.le_of_ble_eq_true rfl) dX4_changedAt_73 (Nat.zero_le _) (Nat.zero_le _) ?_
        refine b_ifeq (b := chm (sv μ 0 2 (0)) t way i) (tgt := 83) hx hb dX4_changedAt_76 (by decide) (fun c_7 => ?_) (fun c_7 => ?_)
        · refine n_iconst (k := 0) hx hb dX4_changedAt_83 (by decide) ?_
          refine n_isub hx hb (by omega) dX4_changedAt_84 ?_
          refine lv_istore (lv' := [(5, .int (nI ((ix - cnt (fun m9 => chm μ t way m9) i) - 0))), (0, .ref (q 0)), (1, .int (nI (t))), (2, .int (nI (way))), (6, .int (nI (i)))]) hx hb dX4_changedAt_85 hl (by decide) rfl (fun ls hl => ?_)
          refine lv_iinc (v := nI (i + 1)) (lv' := [(6, .int (nI (i + 1))), (5, .int (nI ((ix - cnt (fun m9 => chm μ t way m9) i) - 0))), (0, .ref (q 0)), (1, .int (nI (t))), (2, .int (nI (way)))]) hx hb dX4_changedAt_87 hl (k := 4) rfl (n_inc (i) 1 rfl) (by decide) rfl (fun ls hl => ?_)
          refine lv_goto (tgt := 50) hx hb dX4_changedAt_90 (by decide) ?_
          have e : (ix - cnt (fun m9 => chm μ t way m9) i) - 0 = ix - cnt (fun m9 => chm μ t way m9) (i + 1) := by rw [← cnt_f (p := fun m9 => chm μ t way m9) (c_7)]; omega
          rw [e] at hl
          exact ih (i + 1) _ _ (by omega) hP hS ls (lv_sub hl [2, 3, 4, 1, 0] rfl)
        · refine n_iconst (k := 1) hx hb dX4_changedAt_79 (by decide) ?_
          refine lv_goto (tgt := 84) hx hb dX4_changedAt_80 (by decide) ?_
          refine n_ipred hx hb dX4_changedAt_84 ?_
          rw [oi_pos (n := ix - cnt (fun m9 => chm μ t way m9) i) (by omega)]
          refine lv_istore (lv' := [(5, .int (nI ((ix - cnt (fun m9 => chm μ t way m9) i) - 1))), (0, .ref (q 0)), (1, .int (nI (t))), (2, .int (nI (way))), (6, .int (nI (i)))]) hx hb dX4_changedAt_85 hl (by decide) rfl (fun ls hl => ?_)
          refine lv_iinc (v := nI (i + 1)) (lv' := [(6, .int (nI (i + 1))), (5, .int (nI ((ix - cnt (fun m9 => chm μ t way m9) i) - 1))), (0, .ref (q 0)), (1, .int (nI (t))), (2, .int (nI (way)))]) hx hb dX4_changedAt_87 hl (k := 4) rfl (n_inc (i) 1 rfl) (by decide) rfl (fun ls hl => ?_)
          refine lv_goto (tgt := 50) hx hb dX4_changedAt_90 (by decide) ?_
          have e : (ix - cnt (fun m9 => chm μ t way m9) i) - 1 = ix - cnt (fun m9 => chm μ t way m9) (i + 1) := by rw [← cnt_t (p := fun m9 => chm μ t way m9) (c_7)]; omega
          rw [e] at hl
          exact ih (i + 1) _ _ (by omega) hP hS ls (lv_sub hl [2, 3, 4, 1, 0] rfl)
      · refine lv_aload_n hx hb dX4_changedAt_55 rfl (lv_at hl 0 rfl) ?_
        refine lv_iload hx hb dX4_changedAt_56 (lv_at hl 4 rfl) ?_
        refine lv_iload_n hx hb dX4_changedAt_58 rfl (lv_at hl 1 rfl) ?_
        refine lv_iload_n hx hb dX4_changedAt_59 rfl (lv_at hl 2 rfl) ?_
        refine roV1 (v := .int (b2i (chm (sv μ 0 2 (0)) t way i))) (As := [.int (nI (i)), .int (nI (t)), .int (nI (way))]) (rest := []) (n := 3) ⟨hx, hb, hml, hown, htA⟩ (m_changedSo l D cI cZ sa q (sv μ 0 2 (0)) i t way H hP (sv_lt hB (by decide)) hm0 hst9 (by omega) ht hw3) (cwV 3 htA (gdV wd_822 wd_824 wp_19 wd_5 wd_825) rfl rfl rfl (by decide +kernel) ⟨Nat.le_of_ble_eq_true rfl, Nat.le_of_ble_eq_true rfl⟩) hKK hP 0 rfl rfl rfl hl.1 rfl (Nat.le_of_ble_eq_true rfl) dX4_changedAt_60 (Nat.zero_le _) (Nat.zero_le _) ?_
        refine b_ifne (b := chm (sv μ 0 2 (0)) t way i) (tgt := 93) hx hb dX4_changedAt_63 (by decide) (fun c_8 => ?_) (fun c_8 => ?_)
        · exact absurd (show b2n (chm μ t way i) = 1 from by rw [show chm μ t way i = true from c_8]; rfl) (by omega)
        refine lv_iload hx hb dX4_changedAt_66 (lv_at hl 3 rfl) ?_
        refine lv_aload_n hx hb dX4_changedAt_68 rfl (lv_at hl 0 rfl) ?_
        refine lv_iload hx hb dX4_changedAt_69 (lv_at hl 4 rfl) ?_
        refine lv_iload_n hx hb dX4_changedAt_71 rfl (lv_at hl 1 rfl) ?_
        refine lv_iload_n hx hb dX4_changedAt_72 rfl (lv_at hl 2 rfl) ?_
        refine roV1 (v := .int (b2i (chm (sv μ 0 2 (0)) t way i))) (As := [.int (nI (i)), .int (nI (t)), .int (nI (way))]) (rest := [.int (nI (ix - cnt (fun m9 => chm μ t way m9) i))]) (n := 3) ⟨hx, hb, hml, hown, htA⟩ (m_changedSo l D cI cZ sa q (sv μ 0 2 (0)) i t way H hP (sv_lt hB (by decide)) hm0 hst9 (by omega) ht hw3) (cwV 3 htA (gdV wd_822 wd_824 wp_19 wd_5 wd_825) rfl rfl rfl (by decide +kernel) ⟨Nat.le_of_ble_eq_true rfl, Nat.le_of_ble_eq_true rfl⟩) hKK hP 0 rfl rfl rfl hl.1 rfl (Nat.le_of_ble_eq_true rfl) dX4_changedAt_73 (Nat.zero_le _) (Nat.zero_le _) ?_
        refine b_ifeq (b := chm (sv μ 0 2 (0)) t way i) (tgt := 83) hx hb dX4_changedAt_76 (by decide) (fun c_9 => ?_) (fun c_9 => ?_)
        rotate_left
        · exact absurd (c_9.symm.trans c_8) (by decide)
        refine n_iconst (k := 0) hx hb dX4_changedAt_83 (by decide) ?_
        refine n_isub hx hb (by omega) dX4_changedAt_84 ?_
        refine lv_istore (lv' := [(5, .int (nI ((ix - cnt (fun m9 => chm μ t way m9) i) - 0))), (0, .ref (q 0)), (1, .int (nI (t))), (2, .int (nI (way))), (6, .int (nI (i)))]) hx hb dX4_changedAt_85 hl (by decide) rfl (fun ls hl => ?_)
        refine lv_iinc (v := nI (i + 1)) (lv' := [(6, .int (nI (i + 1))), (5, .int (nI ((ix - cnt (fun m9 => chm μ t way m9) i) - 0))), (0, .ref (q 0)), (1, .int (nI (t))), (2, .int (nI (way)))]) hx hb dX4_changedAt_87 hl (k := 4) rfl (n_inc (i) 1 rfl) (by decide) rfl (fun ls hl => ?_)
        refine lv_goto (tgt := 50) hx hb dX4_changedAt_90 (by decide) ?_
        have e : (ix - cnt (fun m9 => chm μ t way m9) i) - 0 = ix - cnt (fun m9 => chm μ t way m9) (i + 1) := by rw [← cnt_f (p := fun m9 => chm μ t way m9) (c_9)]; omega
        rw [e] at hl
        exact ih (i + 1) _ _ (by omega) hP hS ls (lv_sub hl [2, 3, 4, 1, 0] rfl)
  exact loop_50 mm 0 _ _ (by omega) hP hS ls (lv_sub hl [3, 4, 5, 1, 0] rfl)
set_option maxHeartbeats 4000000 in
set_option maxRecDepth 100000 in
theorem r_page_bad (l : Launch) (D : va_G) (cI cZ : ClassId) (sa : Nat → Nat) (q : Nat → Nat) (μ : ST) (x y9 : Int32) (A : Nat → Prop) (hD : va_D A (wM q cI cZ μ)) (hbad : (iw (x) (nI (0)) (nI (μ 0 1)) && iw (y9) (nI (1)) (nI (20))) = false) : Met l yX4_page (codeW yX4_page cX4_page 7 (some .int)) ({ frames := 2, cells := 0, slots := 0, locals := 43 } : Room) (WrP D cI cZ sa (wM q cI cZ μ) [.ref (q 0), .int (x), .int (y9)]) (WrQ (some (.int (nI (0)))) D (wM q cI cZ (sv μ 0 2 1)) A) 0 0 A := by
  refine Met.ofW (cc := cX4_page) (maxL := 7) (ret := (some .int)) (by decide) rfl ?_
  intro p e s m args below meth c s₁ B hml hv
  obtain ⟨rfl, hH, hKK⟩ := hv
  have hx := B.exec
  have hb := B.bytes
  have hr := B.returns
  have htA : ∀ w ∈ WA, w.before _ s = true := fun w h => atoms_spec (ws := (codeW yX4_page cX4_page 7 (some .int))) B.pre w (List.mem_cons_of_mem _ h)
  have hown : s.vm.findClass RX4 = some m.cls := findClass_of_methodNamed B.named
  have hlocks := B.notSynchronized
  have hP := hH
  have hS : va_S A s.heap s.heap [] := va_S.rf
  have hl := lv_entry ([.ref (q 0), .int (x), .int (y9)]) (n := 7) (Nat.le_of_ble_eq_true rfl)
  rw [lg_entry_eq]
  generalize (lg_sl ([.ref (q 0), .int (x), .int (y9)]) ++ List.replicate (7 - (lg_sl ([.ref (q 0), .int (x), .int (y9)])).length) Slot.unset).toArray = ls at hl ⊢
  have hl : lv_has ls 7 [(0, .ref (q 0)), (1, .int (x)), (2, .int (y9))] := hl
  refine lv_aload_n hx hb dX4_page_0 rfl (lv_at hl 0 rfl) ?_
  refine lv_aload_n hx hb dX4_page_1 rfl (lv_at hl 0 rfl) ?_
  refine lv_iload_n hx hb dX4_page_2 rfl (lv_at hl 1 rfl) ?_
  refine roV1 (v := .int (b2i (iw (x) (nI (0)) (nI (μ 0 1))))) (As := [.int (x)]) (rest := [.ref (q 0)]) (n := 1) ⟨hx, hb, hml, hown, htA⟩ (m_isState l D cI cZ sa q μ (x) s.heap hP ) (cwV 1 htA (gdV wd_802 wd_804 wp_15 wd_5 wd_805) rfl rfl rfl (by decide +kernel) ⟨Nat.le_of_ble_eq_true rfl, Nat.le_of_ble_eq_true rfl⟩) hKK hP 0 rfl rfl rfl hl.1 rfl (Nat.le_of_ble_eq_true rfl) dX4_page_3 (Nat.zero_le _) (Nat.zero_le _) ?_
  refine b_ifeq (b := iw (x) (nI (0)) (nI (μ 0 1))) (tgt := 19) hx hb dX4_page_6 (by decide) (fun c_1 => ?_) (fun c_1 => ?_)
  · refine n_iconst (k := 1) hx hb dX4_page_19 (by decide) ?_
    refine lv_goto (tgt := 36) hx hb dX4_page_20 (by decide) ?_
    refine wrV1 (v := .int (b2i (false))) (As := [.int (nI (1))]) (rest := []) (n := 1) ⟨hx, hb, hml, hown, htA⟩ (m_unfine l D cI cZ sa q μ 1 A (D_addr hD rfl) (by decide) (by decide)) (cwV 1 htA (gdV wd_735 wd_737 wp_9 wd_5 wd_738) rfl rfl rfl (by decide +kernel) ⟨Nat.le_of_ble_eq_true rfl, Nat.le_of_ble_eq_true rfl⟩) hKK hP 0 rfl rfl rfl hl.1 rfl (Nat.le_of_ble_eq_true rfl) dX4_page_36 (Nat.zero_le _) (Nat.zero_le _) hS (fun _ h => h) (fun H1 locs hP1 hz1 hk1 hS => ?_)
    have hP : va_P D vwCl (wM q cI cZ (sv μ 0 2 (1))) H1 := hP1
    generalize H1 = H at hP hS ⊢
    refine b_ifne (b := false) (tgt := 44) hx hb dX4_page_39 (by decide) (fun c_2 => ?_) (fun c_2 => ?_)
    · exact absurd c_2 (by decide)
    refine n_iconst (k := 0) hx hb dX4_page_42 (by decide) ?_
    exact wr_i hx hb hr hlocks (rfl) hP hS dX4_page_43
  · refine lv_iload_n hx hb dX4_page_9 rfl (lv_at hl 2 rfl) ?_
    refine n_iconst (k := 1) hx hb dX4_page_10 (by decide) ?_
    refine lv_bipush (v := nI 20) hx hb dX4_page_11 (by decide) ?_
    refine roS1 (v := .int (b2i (iw (y9) (nI (1)) (nI (20))))) (As := [.int (y9), .int (nI (1)), .int (nI (20))]) (rest := [.ref (q 0)]) (n := 3) ⟨hx, hb, hml, hown, htA⟩ (m_in l D cI cZ sa (y9) (nI (1)) (nI (20)) s.heap ) (va_cwS 3 htA (gdS wd_732 wd_733 wd_5 wd_734) rfl rfl rfl (by decide +kernel) ⟨Nat.le_of_ble_eq_true rfl, Nat.le_of_ble_eq_true rfl⟩) hKK rfl hl.1 rfl (Nat.le_of_ble_eq_true rfl) dX4_page_13 (Nat.zero_le _) (Nat.zero_le _) ?_
    refine b_ifne (b := iw (y9) (nI (1)) (nI (20))) (tgt := 23) hx hb dX4_page_16 (by decide) (fun c_3 => ?_) (fun c_3 => ?_)
    · exact absurd hbad (by rw [c_1, c_3]; decide)
    refine n_iconst (k := 1) hx hb dX4_page_19 (by decide) ?_
    refine lv_goto (tgt := 36) hx hb dX4_page_20 (by decide) ?_
    refine wrV1 (v := .int (b2i (false))) (As := [.int (nI (1))]) (rest := []) (n := 1) ⟨hx, hb, hml, hown, htA⟩ (m_unfine l D cI cZ sa q μ 1 A (D_addr hD rfl) (by decide) (by decide)) (cwV 1 htA (gdV wd_735 wd_737 wp_9 wd_5 wd_738) rfl rfl rfl (by decide +kernel) ⟨Nat.le_of_ble_eq_true rfl, Nat.le_of_ble_eq_true rfl⟩) hKK hP 0 rfl rfl rfl hl.1 rfl (Nat.le_of_ble_eq_true rfl) dX4_page_36 (Nat.zero_le _) (Nat.zero_le _) hS (fun _ h => h) (fun H1 locs hP1 hz1 hk1 hS => ?_)
    have hP : va_P D vwCl (wM q cI cZ (sv μ 0 2 (1))) H1 := hP1
    generalize H1 = H at hP hS ⊢
    refine b_ifne (b := false) (tgt := 44) hx hb dX4_page_39 (by decide) (fun c_4 => ?_) (fun c_4 => ?_)
    · exact absurd c_4 (by decide)
    refine n_iconst (k := 0) hx hb dX4_page_42 (by decide) ?_
    exact wr_i hx hb hr hlocks (rfl) hP hS dX4_page_43
set_option maxHeartbeats 4000000 in
set_option maxRecDepth 100000 in
theorem r_page_no (l : Launch) (D : va_G) (cI cZ : ClassId) (sa : Nat → Nat) (q : Nat → Nat) (μ : ST) (t pl : Nat) (A : Nat → Prop) (hD : va_D A (wM q cI cZ μ)) (hB : ∀ k i, μ k i < 1073741824) (hm0 : μ 0 0 ≤ 60) (ht : t ≤ μ 0 1) (hp1 : 1 ≤ pl) (hp2 : pl ≤ 20) (hv9 : decide (μ 0 1 - t ≤ 40) = false) : Met l yX4_page (codeW yX4_page cX4_page 7 (some .int)) ({ frames := 2, cells := 0, slots := 0, locals := 43 } : Room) (WrP D cI cZ sa (wM q cI cZ μ) [.ref (q 0), .int (nI (t)), .int (nI (pl))]) (WrQ (some (.int (nI (0)))) D (wM q cI cZ (sv μ 0 2 2)) A) 0 0 A := by
  refine Met.ofW (cc := cX4_page) (maxL := 7) (ret := (some .int)) (by decide) rfl ?_
  intro p e s m args below meth c s₁ B hml hv
  obtain ⟨rfl, hH, hKK⟩ := hv
  have hx := B.exec
  have hb := B.bytes
  have hr := B.returns
  have htA : ∀ w ∈ WA, w.before _ s = true := fun w h => atoms_spec (ws := (codeW yX4_page cX4_page 7 (some .int))) B.pre w (List.mem_cons_of_mem _ h)
  have hown : s.vm.findClass RX4 = some m.cls := findClass_of_methodNamed B.named
  have hlocks := B.notSynchronized
  have hP := hH
  have hS : va_S A s.heap s.heap [] := va_S.rf
  have hl := lv_entry ([.ref (q 0), .int (nI (t)), .int (nI (pl))]) (n := 7) (Nat.le_of_ble_eq_true rfl)
  rw [lg_entry_eq]
  generalize (lg_sl ([.ref (q 0), .int (nI (t)), .int (nI (pl))]) ++ List.replicate (7 - (lg_sl ([.ref (q 0), .int (nI (t)), .int (nI (pl))])).length) Slot.unset).toArray = ls at hl ⊢
  have hl : lv_has ls 7 [(0, .ref (q 0)), (1, .int (nI (t))), (2, .int (nI (pl)))] := hl
  refine lv_aload_n hx hb dX4_page_0 rfl (lv_at hl 0 rfl) ?_
  refine lv_aload_n hx hb dX4_page_1 rfl (lv_at hl 0 rfl) ?_
  refine lv_iload_n hx hb dX4_page_2 rfl (lv_at hl 1 rfl) ?_
  refine roV1 (v := .int (b2i (iw (nI (t)) (nI (0)) (nI (μ 0 1))))) (As := [.int (nI (t))]) (rest := [.ref (q 0)]) (n := 1) ⟨hx, hb, hml, hown, htA⟩ (m_isState l D cI cZ sa q μ (nI (t)) s.heap hP ) (cwV 1 htA (gdV wd_802 wd_804 wp_15 wd_5 wd_805) rfl rfl rfl (by decide +kernel) ⟨Nat.le_of_ble_eq_true rfl, Nat.le_of_ble_eq_true rfl⟩) hKK hP 0 rfl rfl rfl hl.1 rfl (Nat.le_of_ble_eq_true rfl) dX4_page_3 (Nat.zero_le _) (Nat.zero_le _) ?_
  refine b_ifeq (b := iw (nI (t)) (nI (0)) (nI (μ 0 1))) (tgt := 19) hx hb dX4_page_6 (by decide) (fun c_1 => ?_) (fun c_1 => ?_)
  · exact absurd (c_1.symm.trans (iw_n (Nat.zero_le _) ht (Nat.lt_trans (hB 0 1) (by decide)))) (by decide)
  refine lv_iload_n hx hb dX4_page_9 rfl (lv_at hl 2 rfl) ?_
  refine n_iconst (k := 1) hx hb dX4_page_10 (by decide) ?_
  refine lv_bipush (v := nI 20) hx hb dX4_page_11 (by decide) ?_
  refine roS1 (v := .int (b2i (iw (nI (pl)) (nI (1)) (nI (20))))) (As := [.int (nI (pl)), .int (nI (1)), .int (nI (20))]) (rest := [.ref (q 0)]) (n := 3) ⟨hx, hb, hml, hown, htA⟩ (m_in l D cI cZ sa (nI (pl)) (nI (1)) (nI (20)) s.heap ) (va_cwS 3 htA (gdS wd_732 wd_733 wd_5 wd_734) rfl rfl rfl (by decide +kernel) ⟨Nat.le_of_ble_eq_true rfl, Nat.le_of_ble_eq_true rfl⟩) hKK rfl hl.1 rfl (Nat.le_of_ble_eq_true rfl) dX4_page_13 (Nat.zero_le _) (Nat.zero_le _) ?_
  refine b_ifne (b := iw (nI (pl)) (nI (1)) (nI (20))) (tgt := 23) hx hb dX4_page_16 (by decide) (fun c_2 => ?_) (fun c_2 => ?_)
  rotate_left
  · exact absurd (c_2.symm.trans (iw_n hp1 hp2 (by decide))) (by decide)
  refine lv_aload_n hx hb dX4_page_23 rfl (lv_at hl 0 rfl) ?_
  refine lv_iload_n hx hb dX4_page_24 rfl (lv_at hl 1 rfl) ?_
  refine roV1 (v := .int (b2i (decide (μ 0 1 - t ≤ 40)))) (As := [.int (nI (t))]) (rest := [.ref (q 0)]) (n := 1) ⟨hx, hb, hml, hown, htA⟩ (m_tells l D cI cZ sa q μ t s.heap hP hB hm0 ht) (cwV 1 htA (gdV wd_806 wd_808 wp_16 wd_5 wd_809) rfl rfl rfl (by decide +kernel) ⟨Nat.le_of_ble_eq_true rfl, Nat.le_of_ble_eq_true rfl⟩) hKK hP 0 rfl rfl rfl hl.1 rfl (Nat.le_of_ble_eq_true rfl) dX4_page_25 (Nat.zero_le _) (Nat.zero_le _) ?_
  refine b_ifne (b := decide (μ 0 1 - t ≤ 40)) (tgt := 35) hx hb dX4_page_28 (by decide) (fun c_3 => ?_) (fun c_3 => ?_)
  · exact absurd (c_3.symm.trans hv9) (by decide)
  refine n_iconst (k := 2) hx hb dX4_page_31 (by decide) ?_
  refine lv_goto (tgt := 36) hx hb dX4_page_32 (by decide) ?_
  refine wrV1 (v := .int (b2i (false))) (As := [.int (nI (2))]) (rest := []) (n := 1) ⟨hx, hb, hml, hown, htA⟩ (m_unfine l D cI cZ sa q μ 2 A (D_addr hD rfl) (by decide) (by decide)) (cwV 1 htA (gdV wd_735 wd_737 wp_9 wd_5 wd_738) rfl rfl rfl (by decide +kernel) ⟨Nat.le_of_ble_eq_true rfl, Nat.le_of_ble_eq_true rfl⟩) hKK hP 0 rfl rfl rfl hl.1 rfl (Nat.le_of_ble_eq_true rfl) dX4_page_36 (Nat.zero_le _) (Nat.zero_le _) hS (fun _ h => h) (fun H1 locs hP1 hz1 hk1 hS => ?_)
  have hP : va_P D vwCl (wM q cI cZ (sv μ 0 2 (2))) H1 := hP1
  generalize H1 = H at hP hS ⊢
  refine b_ifne (b := false) (tgt := 44) hx hb dX4_page_39 (by decide) (fun c_4 => ?_) (fun c_4 => ?_)
  · exact absurd c_4 (by decide)
  refine n_iconst (k := 0) hx hb dX4_page_42 (by decide) ?_
  exact wr_i hx hb hr hlocks (rfl) hP hS dX4_page_43
set_option maxHeartbeats 4000000 in
set_option maxRecDepth 100000 in
theorem r_page_ok (l : Launch) (D : va_G) (cI cZ : ClassId) (sa : Nat → Nat) (q : Nat → Nat) (μ : ST) (t pl : Nat) (A : Nat → Prop) (hD : va_D A (wM q cI cZ μ)) (hB : ∀ k i, μ k i < 1073741824) (hm0 : μ 0 0 ≤ 60) (ht : t ≤ μ 0 1) (hp1 : 1 ≤ pl) (hp2 : pl ≤ 20) (hst9 : μ 0 1 ≤ 2048) (hv9 : decide (μ 0 1 - t ≤ 40) = true) : Met l yX4_page (codeW yX4_page cX4_page 7 (some .int)) ({ frames := 2, cells := 0, slots := 0, locals := 43 } : Room) (WrP D cI cZ sa (wM q cI cZ μ) [.ref (q 0), .int (nI (t)), .int (nI (pl))]) (WrQ (some (.int (nI (mpg μ t (μ 0 1 - t) t pl)))) D (wM q cI cZ (sv μ 0 2 0)) A) 0 0 A := by
  refine Met.ofW (cc := cX4_page) (maxL := 7) (ret := (some .int)) (by decide) rfl ?_
  intro p e s m args below meth c s₁ B hml hv
  obtain ⟨rfl, hH, hKK⟩ := hv
  have hx := B.exec
  have hb := B.bytes
  have hr := B.returns
  have htA : ∀ w ∈ WA, w.before _ s = true := fun w h => atoms_spec (ws := (codeW yX4_page cX4_page 7 (some .int))) B.pre w (List.mem_cons_of_mem _ h)
  have hown : s.vm.findClass RX4 = some m.cls := findClass_of_methodNamed B.named
  have hlocks := B.notSynchronized
  have hP := hH
  have hS : va_S A s.heap s.heap [] := va_S.rf
  have hl := lv_entry ([.ref (q 0), .int (nI (t)), .int (nI (pl))]) (n := 7) (Nat.le_of_ble_eq_true rfl)
  rw [lg_entry_eq]
  generalize (lg_sl ([.ref (q 0), .int (nI (t)), .int (nI (pl))]) ++ List.replicate (7 - (lg_sl ([.ref (q 0), .int (nI (t)), .int (nI (pl))])).length) Slot.unset).toArray = ls at hl ⊢
  have hl : lv_has ls 7 [(0, .ref (q 0)), (1, .int (nI (t))), (2, .int (nI (pl)))] := hl
  refine lv_aload_n hx hb dX4_page_0 rfl (lv_at hl 0 rfl) ?_
  refine lv_aload_n hx hb dX4_page_1 rfl (lv_at hl 0 rfl) ?_
  refine lv_iload_n hx hb dX4_page_2 rfl (lv_at hl 1 rfl) ?_
  refine roV1 (v := .int (b2i (iw (nI (t)) (nI (0)) (nI (μ 0 1))))) (As := [.int (nI (t))]) (rest := [.ref (q 0)]) (n := 1) ⟨hx, hb, hml, hown, htA⟩ (m_isState l D cI cZ sa q μ (nI (t)) s.heap hP ) (cwV 1 htA (gdV wd_802 wd_804 wp_15 wd_5 wd_805) rfl rfl rfl (by decide +kernel) ⟨Nat.le_of_ble_eq_true rfl, Nat.le_of_ble_eq_true rfl⟩) hKK hP 0 rfl rfl rfl hl.1 rfl (Nat.le_of_ble_eq_true rfl) dX4_page_3 (Nat.zero_le _) (Nat.zero_le _) ?_
  refine b_ifeq (b := iw (nI (t)) (nI (0)) (nI (μ 0 1))) (tgt := 19) hx hb dX4_page_6 (by decide) (fun c_1 => ?_) (fun c_1 => ?_)
  · exact absurd (c_1.symm.trans (iw_n (Nat.zero_le _) ht (Nat.lt_trans (hB 0 1) (by decide)))) (by decide)
  refine lv_iload_n hx hb dX4_page_9 rfl (lv_at hl 2 rfl) ?_
  refine n_iconst (k := 1) hx hb dX4_page_10 (by decide) ?_
  refine lv_bipush (v := nI 20) hx hb dX4_page_11 (by decide) ?_
  refine roS1 (v := .int (b2i (iw (nI (pl)) (nI (1)) (nI (20))))) (As := [.int (nI (pl)), .int (nI (1)), .int (nI (20))]) (rest := [.ref (q 0)]) (n := 3) ⟨hx, hb, hml, hown, htA⟩ (m_in l D cI cZ sa (nI (pl)) (nI (1)) (nI (20)) s.heap ) (va_cwS 3 htA (gdS wd_732 wd_733 wd_5 wd_734) rfl rfl rfl (by decide +kernel) ⟨Nat.le_of_ble_eq_true rfl, Nat.le_of_ble_eq_true rfl⟩) hKK rfl hl.1 rfl (Nat.le_of_ble_eq_true rfl) dX4_page_13 (Nat.zero_le _) (Nat.zero_le _) ?_
  refine b_ifne (b := iw (nI (pl)) (nI (1)) (nI (20))) (tgt := 23) hx hb dX4_page_16 (by decide) (fun c_2 => ?_) (fun c_2 => ?_)
  rotate_left
  · exact absurd (c_2.symm.trans (iw_n hp1 hp2 (by decide))) (by decide)
  refine lv_aload_n hx hb dX4_page_23 rfl (lv_at hl 0 rfl) ?_
  refine lv_iload_n hx hb dX4_page_24 rfl (lv_at hl 1 rfl) ?_
  refine roV1 (v := .int (b2i (decide (μ 0 1 - t ≤ 40)))) (As := [.int (nI (t))]) (rest := [.ref (q 0)]) (n := 1) ⟨hx, hb, hml, hown, htA⟩ (m_tells l D cI cZ sa q μ t s.heap hP hB hm0 ht) (cwV 1 htA (gdV wd_806 wd_808 wp_16 wd_5 wd_809) rfl rfl rfl (by decide +kernel) ⟨Nat.le_of_ble_eq_true rfl, Nat.le_of_ble_eq_true rfl⟩) hKK hP 0 rfl rfl rfl hl.1 rfl (Nat.le_of_ble_eq_true rfl) dX4_page_25 (Nat.zero_le _) (Nat.zero_le _) ?_
  refine b_ifne (b := decide (μ 0 1 - t ≤ 40)) (tgt := 35) hx hb dX4_page_28 (by decide) (fun c_3 => ?_) (fun c_3 => ?_)
  rotate_left
  · exact absurd (c_3.symm.trans hv9) (by decide)
  refine n_iconst (k := 0) hx hb dX4_page_35 (by decide) ?_
  refine wrV1 (v := .int (b2i (true))) (As := [.int (nI (0))]) (rest := []) (n := 1) ⟨hx, hb, hml, hown, htA⟩ (m_fine l D cI cZ sa q μ A (D_addr hD rfl) ) (cwV 1 htA (gdV wd_735 wd_737 wp_9 wd_5 wd_738) rfl rfl rfl (by decide +kernel) ⟨Nat.le_of_ble_eq_true rfl, Nat.le_of_ble_eq_true rfl⟩) hKK hP 0 rfl rfl rfl hl.1 rfl (Nat.le_of_ble_eq_true rfl) dX4_page_36 (Nat.zero_le _) (Nat.zero_le _) hS (fun _ h => h) (fun H1 locs hP1 hz1 hk1 hS => ?_)
  have hP : va_P D vwCl (wM q cI cZ (sv μ 0 2 (0))) H1 := hP1
  generalize H1 = H at hP hS ⊢
  refine b_ifne (b := true) (tgt := 44) hx hb dX4_page_39 (by decide) (fun c_4 => ?_) (fun c_4 => ?_)
  rotate_left
  · exact absurd c_4 (by decide)
  refine lv_iload_n hx hb dX4_page_44 rfl (lv_at hl 2 rfl) ?_
  refine lv_istore_n (lv' := [(3, .int (nI (pl))), (0, .ref (q 0)), (1, .int (nI (t))), (2, .int (nI (pl)))]) hx hb dX4_page_45 rfl hl (by decide) rfl (fun ls hl => ?_)
  refine lv_iload_n hx hb dX4_page_46 rfl (lv_at hl 2 rfl) ?_
  refine lv_istore (lv' := [(4, .int (nI (t))), (3, .int (nI (pl))), (0, .ref (q 0)), (1, .int (nI (t))), (2, .int (nI (pl)))]) hx hb dX4_page_47 hl (by decide) rfl (fun ls hl => ?_)
  have loop_49 : ∀ (n : Nat) (a9 lf : Nat) (H : Heap) (locs : List Loc), (a9 + n = μ 0 1) → (t ≤ a9) → (lf ≤ 20) → (mpg μ t n a9 lf = mpg μ t (μ 0 1 - t) t pl) → va_P D vwCl (wM q cI cZ (sv μ 0 2 (0))) H → va_S A s.heap H locs → ∀ (ls : Array Slot), lv_has ls 7 [(0, .ref (q 0)), (1, .int (nI (t))), (2, .int (nI (pl))), (3, .int (nI (lf))), (4, .int (nI (a9)))] → W p l e (headSpec (codeW yX4_page cX4_page 7 (some .int)) ({ frames := 2, cells := 0, slots := 0, locals := 43 } : Room)).room s m ([.ref (q 0), .int (nI (t)), .int (nI (pl))] : List Value).toArray below meth c H locs 0 0 (MQ below (WrQ (some (.int (nI (mpg μ t (μ 0 1 - t) t pl)))) D (wM q cI cZ (sv μ 0 2 0)) A) ([.ref (q 0), .int (nI (t)), .int (nI (pl))] : List Value).toArray s 0 0 A) (F0 m 49 ls []) := by
    intro n
    induction n with
    | zero =>
      intro a9 lf H locs hin hta hlf hres hP hS ls hl
      refine lv_iload hx hb dX4_page_49 (lv_at hl 4 rfl) ?_
      refine lv_aload_n hx hb dX4_page_51 rfl (lv_at hl 0 rfl) ?_
      refine va_get (D := D) (ci := 4) (v := .int (nI (μ 0 1))) (C := RX4) (T := TX4) (N := 26) hx hb htA uwX4 hown hKK.1 hP 0 rfl rfl 13 (by decide) (htA _ wd_658) (fun _ h9 => h9) rfl dX4_page_52 ?_
      refine n_icmp_ge (x := a9) (y := μ 0 1) (tgt := 137) hx hb dX4_page_55 (by decide) (by have := hB 0 1; omega) (Nat.lt_trans (hB 0 1) (by decide)) (fun c_5 => ?_) (fun c_5 => ?_)
      rotate_left
      · exfalso; omega
      refine lv_iload hx hb dX4_page_137 (lv_at hl 4 rfl) ?_
      exact wr_i hx hb hr hlocks (by rw [← hres]; rfl) hP hS dX4_page_139
    | succ n ih =>
      intro a9 lf H locs hin hta hlf hres hP hS ls hl
      refine lv_iload hx hb dX4_page_49 (lv_at hl 4 rfl) ?_
      refine lv_aload_n hx hb dX4_page_51 rfl (lv_at hl 0 rfl) ?_
      refine va_get (D := D) (ci := 4) (v := .int (nI (μ 0 1))) (C := RX4) (T := TX4) (N := 26) hx hb htA uwX4 hown hKK.1 hP 0 rfl rfl 13 (by decide) (htA _ wd_658) (fun _ h9 => h9) rfl dX4_page_52 ?_
      refine n_icmp_ge (x := a9) (y := μ 0 1) (tgt := 137) hx hb dX4_page_55 (by decide) (by have := hB 0 1; omega) (Nat.lt_trans (hB 0 1) (by decide)) (fun c_6 => ?_) (fun c_6 => ?_)
      · exfalso; omega
      refine n_iconst (k := 1) hx hb dX4_page_58 (by decide) ?_
      refine lv_istore (lv' := [(5, .int (nI (1))), (0, .ref (q 0)), (1, .int (nI (t))), (2, .int (nI (pl))), (3, .int (nI (lf))), (4, .int (nI (a9)))]) hx hb dX4_page_59 hl (by decide) rfl (fun ls hl => ?_)
      refine lv_iload_n hx hb dX4_page_61 rfl (lv_at hl 2 rfl) ?_
      refine lv_istore (lv' := [(6, .int (nI (t))), (5, .int (nI (1))), (0, .ref (q 0)), (1, .int (nI (t))), (2, .int (nI (pl))), (3, .int (nI (lf))), (4, .int (nI (a9)))]) hx hb dX4_page_62 hl (by decide) rfl (fun ls hl => ?_)
      have loop_64 : ∀ (n2 : Nat) (i : Nat) (H : Heap) (locs : List Loc), (t + i + n2 = a9) → va_P D vwCl (wM q cI cZ (sv μ 0 2 (0))) H → va_S A s.heap H locs → ∀ (ls : Array Slot), lv_has ls 7 [(0, .ref (q 0)), (1, .int (nI (t))), (2, .int (nI (pl))), (3, .int (nI (lf))), (4, .int (nI (a9))), (5, .int (b2i (!exn (fun k9 => decide (μ 8 k9 = μ 8 a9)) t i))), (6, .int (nI (t + i)))] → W p l e (headSpec (codeW yX4_page cX4_page 7 (some .int)) ({ frames := 2, cells := 0, slots := 0, locals := 43 } : Room)).room s m ([.ref (q 0), .int (nI (t)), .int (nI (pl))] : List Value).toArray below meth c H locs 0 0 (MQ below (WrQ (some (.int (nI (mpg μ t (μ 0 1 - t) t pl)))) D (wM q cI cZ (sv μ 0 2 0)) A) ([.ref (q 0), .int (nI (t)), .int (nI (pl))] : List Value).toArray s 0 0 A) (F0 m 64 ls []) := by
        intro n2
        induction n2 with
        | zero =>
          intro i H locs hii hP hS ls hl
          refine lv_iload hx hb dX4_page_64 (lv_at hl 6 rfl) ?_
          refine lv_iload hx hb dX4_page_66 (lv_at hl 4 rfl) ?_
          refine n_icmp_ge (x := t + i) (y := a9) (tgt := 106) hx hb dX4_page_68 (by decide) (by have := hB 0 1; omega) (by have := hB 0 1; omega) (fun c_7 => ?_) (fun c_7 => ?_)
          rotate_left
          · exfalso; omega
          refine lv_iload hx hb dX4_page_106 (lv_at hl 5 rfl) ?_
          refine b_ifeq (b := !exn (fun k9 => decide (μ 8 k9 = μ 8 a9)) t i) (tgt := 118) hx hb dX4_page_108 (by decide) (fun c_8 => ?_) (fun c_8 => ?_)
          · refine lv_iload_n hx hb dX4_page_118 rfl (lv_at hl 3 rfl) ?_
            refine lv_iload hx hb dX4_page_119 (lv_at hl 5 rfl) ?_
            refine b_ifeq (b := !exn (fun k9 => decide (μ 8 k9 = μ 8 a9)) t i) (tgt := 128) hx hb dX4_page_121 (by decide) (fun c_9 => ?_) (fun c_9 => ?_)
            rotate_left
            · exact absurd (c_9.symm.trans c_8) (by decide)
            refine n_iconst (k := 0) hx hb dX4_page_128 (by decide) ?_
            refine n_isub hx hb (by omega) dX4_page_129 ?_
            refine lv_istore_n (lv' := [(3, .int (nI (lf - 0))), (0, .ref (q 0)), (1, .int (nI (t))), (2, .int (nI (pl))), (4, .int (nI (a9))), (5, .int (b2i (!exn (fun k9 => decide (μ 8 k9 = μ 8 a9)) t i))), (6, .int (nI (t + i)))]) hx hb dX4_page_130 rfl hl (by decide) rfl (fun ls hl => ?_)
            refine lv_iinc (v := nI (a9 + 1)) (lv' := [(4, .int (nI (a9 + 1))), (3, .int (nI (lf - 0))), (0, .ref (q 0)), (1, .int (nI (t))), (2, .int (nI (pl))), (5, .int (b2i (!exn (fun k9 => decide (μ 8 k9 = μ 8 a9)) t i))), (6, .int (nI (t + i)))]) hx hb dX4_page_131 hl (k := 4) rfl (n_inc (a9) 1 rfl) (by decide) rfl (fun ls hl => ?_)
            refine lv_goto (tgt := 49) hx hb dX4_page_134 (by decide) ?_
            exact ih (a9 + 1) (lf - 0) _ _ (by omega) (by omega) (by omega) (by rw [← hres]; simp only [mpg]; rw [show mnw μ t a9 = false from by unfold mnw; rw [show a9 - t = i by omega]; exact c_9]; simp [b2n]) hP hS ls (lv_sub hl [2, 3, 4, 1, 0] rfl)
          · refine lv_iload_n hx hb dX4_page_111 rfl (lv_at hl 3 rfl) ?_
            refine n_ifne (x := lf) (tgt := 118) hx hb dX4_page_112 (by decide) (by have := hB 0 1; omega) (fun c_10 => ?_) (fun c_10 => ?_)
            · refine lv_iload_n hx hb dX4_page_118 rfl (lv_at hl 3 rfl) ?_
              refine lv_iload hx hb dX4_page_119 (lv_at hl 5 rfl) ?_
              refine b_ifeq (b := !exn (fun k9 => decide (μ 8 k9 = μ 8 a9)) t i) (tgt := 128) hx hb dX4_page_121 (by decide) (fun c_11 => ?_) (fun c_11 => ?_)
              · exact absurd (c_11.symm.trans c_8) (by decide)
              refine n_iconst (k := 1) hx hb dX4_page_124 (by decide) ?_
              refine lv_goto (tgt := 129) hx hb dX4_page_125 (by decide) ?_
              refine n_ipred hx hb dX4_page_129 ?_
              rw [oi_pos (n := lf) (by omega)]
              refine lv_istore_n (lv' := [(3, .int (nI (lf - 1))), (0, .ref (q 0)), (1, .int (nI (t))), (2, .int (nI (pl))), (4, .int (nI (a9))), (5, .int (b2i (!exn (fun k9 => decide (μ 8 k9 = μ 8 a9)) t i))), (6, .int (nI (t + i)))]) hx hb dX4_page_130 rfl hl (by decide) rfl (fun ls hl => ?_)
              refine lv_iinc (v := nI (a9 + 1)) (lv' := [(4, .int (nI (a9 + 1))), (3, .int (nI (lf - 1))), (0, .ref (q 0)), (1, .int (nI (t))), (2, .int (nI (pl))), (5, .int (b2i (!exn (fun k9 => decide (μ 8 k9 = μ 8 a9)) t i))), (6, .int (nI (t + i)))]) hx hb dX4_page_131 hl (k := 4) rfl (n_inc (a9) 1 rfl) (by decide) rfl (fun ls hl => ?_)
              refine lv_goto (tgt := 49) hx hb dX4_page_134 (by decide) ?_
              exact ih (a9 + 1) (lf - 1) _ _ (by omega) (by omega) (by omega) (by rw [← hres]; simp only [mpg]; rw [show mnw μ t a9 = true from by unfold mnw; rw [show a9 - t = i by omega]; exact c_8]; simp [b2n, c_10]) hP hS ls (lv_sub hl [2, 3, 4, 1, 0] rfl)
            · refine lv_iload hx hb dX4_page_115 (lv_at hl 4 rfl) ?_
              exact wr_i hx hb hr hlocks (by rw [← hres]; simp only [mpg]; rw [show mnw μ t a9 = true from by unfold mnw; rw [show a9 - t = i by omega]; exact c_8]; simp [c_10]) hP hS dX4_page_117
        | succ n2 ih2 =>
          intro i H locs hii hP hS ls hl
          refine lv_iload hx hb dX4_page_64 (lv_at hl 6 rfl) ?_
          refine lv_iload hx hb dX4_page_66 (lv_at hl 4 rfl) ?_
          refine n_icmp_ge (x := t + i) (y := a9) (tgt := 106) hx hb dX4_page_68 (by decide) (by have := hB 0 1; omega) (by have := hB 0 1; omega) (fun c_12 => ?_) (fun c_12 => ?_)
          · exfalso; omega
          refine lv_iload hx hb dX4_page_71 (lv_at hl 5 rfl) ?_
          refine b_ifeq (b := !exn (fun k9 => decide (μ 8 k9 = μ 8 a9)) t i) (tgt := 97) hx hb dX4_page_73 (by decide) (fun c_13 => ?_) (fun c_13 => ?_)
          · refine n_iconst (k := 0) hx hb dX4_page_97 (by decide) ?_
            refine lv_istore (lv' := [(5, .int (nI (0))), (0, .ref (q 0)), (1, .int (nI (t))), (2, .int (nI (pl))), (3, .int (nI (lf))), (4, .int (nI (a9))), (6, .int (nI (t + i)))]) hx hb dX4_page_98 hl (by decide) rfl (fun ls hl => ?_)
            refine lv_iinc (v := nI (t + i + 1)) (lv' := [(6, .int (nI (t + i + 1))), (5, .int (nI (0))), (0, .ref (q 0)), (1, .int (nI (t))), (2, .int (nI (pl))), (3, .int (nI (lf))), (4, .int (nI (a9)))]) hx hb dX4_page_100 hl (k := 6) rfl (n_inc (t + i) 1 rfl) (by decide) rfl (fun ls hl => ?_)
            refine lv_goto (tgt := 64) hx hb dX4_page_103 (by decide) ?_
            have e : (!exn (fun k9 => decide (μ 8 k9 = μ 8 a9)) t (i + 1)) = false := by simp only [exn, Bool.not_or, c_1, c_2, c_3, c_4, c_6, c_12, c_13, decide_true, decide_false, Bool.true_and, Bool.false_and, Bool.and_true, Bool.and_false, Bool.not_true, Bool.not_false, eq_self, not_true_eq_false, not_false_eq_true, cond_true, cond_false, ne_eq, Bool.or_false, Bool.or_true, Bool.false_or, Bool.true_or, Bool.or_self]
            exact ih2 (i + 1) _ _ (by omega) hP hS ls (by rw [e]; exact lv_sub hl [2, 3, 4, 5, 6, 1, 0] rfl)
          · refine lv_aload_n hx hb dX4_page_76 rfl (lv_at hl 0 rfl) ?_
            refine va_get (D := D) (ci := 4) (v := .ref (q 8)) (C := RX4) (T := TX4) (N := 26) hx hb htA uwX4 hown hKK.1 hP 0 rfl rfl 8 (by decide) (htA _ wd_653) (fun _ h9 => h9) rfl dX4_page_77 ?_
            refine lv_iload hx hb dX4_page_80 (lv_at hl 6 rfl) ?_
            refine n_iald (g := μ 8) (cA := cI) (n := 2048) (j := t + i) hx hb hKK.1 hP 8 0 rfl rfl (by omega) (Nat.le_of_ble_eq_true rfl) dX4_page_82 ?_
            refine lv_aload_n hx hb dX4_page_83 rfl (lv_at hl 0 rfl) ?_
            refine va_get (D := D) (ci := 4) (v := .ref (q 8)) (C := RX4) (T := TX4) (N := 26) hx hb htA uwX4 hown hKK.1 hP 0 rfl rfl 8 (by decide) (htA _ wd_653) (fun _ h9 => h9) rfl dX4_page_84 ?_
            refine lv_iload hx hb dX4_page_87 (lv_at hl 4 rfl) ?_
            refine n_iald (g := μ 8) (cA := cI) (n := 2048) (j := a9) hx hb hKK.1 hP 8 0 rfl rfl (by omega) (Nat.le_of_ble_eq_true rfl) dX4_page_89 ?_
            refine n_icmp_eq (x := μ 8 (t + i)) (y := μ 8 a9) (tgt := 97) hx hb dX4_page_90 (by decide) (Nat.lt_trans (hB 8 (t + i)) (by decide)) (Nat.lt_trans (hB 8 a9) (by decide)) (fun c_14 => ?_) (fun c_14 => ?_)
            · refine n_iconst (k := 0) hx hb dX4_page_97 (by decide) ?_
              refine lv_istore (lv' := [(5, .int (nI (0))), (0, .ref (q 0)), (1, .int (nI (t))), (2, .int (nI (pl))), (3, .int (nI (lf))), (4, .int (nI (a9))), (6, .int (nI (t + i)))]) hx hb dX4_page_98 hl (by decide) rfl (fun ls hl => ?_)
              refine lv_iinc (v := nI (t + i + 1)) (lv' := [(6, .int (nI (t + i + 1))), (5, .int (nI (0))), (0, .ref (q 0)), (1, .int (nI (t))), (2, .int (nI (pl))), (3, .int (nI (lf))), (4, .int (nI (a9)))]) hx hb dX4_page_100 hl (k := 6) rfl (n_inc (t + i) 1 rfl) (by decide) rfl (fun ls hl => ?_)
              refine lv_goto (tgt := 64) hx hb dX4_page_103 (by decide) ?_
              have e : (!exn (fun k9 => decide (μ 8 k9 = μ 8 a9)) t (i + 1)) = false := by simp only [exn, Bool.not_or, c_1, c_2, c_3, c_4, c_6, c_12, c_13, c_14, decide_true, decide_false, Bool.true_and, Bool.false_and, Bool.and_true, Bool.and_false, Bool.not_true, Bool.not_false, eq_self, not_true_eq_false, not_false_eq_true, cond_true, cond_false, ne_eq, Bool.or_false, Bool.or_true, Bool.false_or, Bool.true_or, Bool.or_self]
              exact ih2 (i + 1) _ _ (by omega) hP hS ls (by rw [e]; exact lv_sub hl [2, 3, 4, 5, 6, 1, 0] rfl)
            · refine n_iconst (k := 1) hx hb dX4_page_93 (by decide) ?_
              refine lv_goto (tgt := 98) hx hb dX4_page_94 (by decide) ?_
              refine lv_istore (lv' := [(5, .int (nI (1))), (0, .ref (q 0)), (1, .int (nI (t))), (2, .int (nI (pl))), (3, .int (nI (lf))), (4, .int (nI (a9))), (6, .int (nI (t + i)))]) hx hb dX4_page_98 hl (by decide) rfl (fun ls hl => ?_)
              refine lv_iinc (v := nI (t + i + 1)) (lv' := [(6, .int (nI (t + i + 1))), (5, .int (nI (1))), (0, .ref (q 0)), (1, .int (nI (t))), (2, .int (nI (pl))), (3, .int (nI (lf))), (4, .int (nI (a9)))]) hx hb dX4_page_100 hl (k := 6) rfl (n_inc (t + i) 1 rfl) (by decide) rfl (fun ls hl => ?_)
              refine lv_goto (tgt := 64) hx hb dX4_page_103 (by decide) ?_
              have e : (!exn (fun k9 => decide (μ 8 k9 = μ 8 a9)) t (i + 1)) = true := by simp only [exn, Bool.not_or, c_1, c_2, c_3, c_4, c_6, c_12, c_13, c_14, decide_true, decide_false, Bool.true_and, Bool.false_and, Bool.and_true, Bool.and_false, Bool.not_true, Bool.not_false, eq_self, not_true_eq_false, not_false_eq_true, cond_true, cond_false, ne_eq, Bool.or_false, Bool.or_true, Bool.false_or, Bool.true_or, Bool.or_self]
              exact ih2 (i + 1) _ _ (by omega) hP hS ls (by rw [e]; exact lv_sub hl [2, 3, 4, 5, 6, 1, 0] rfl)
      exact loop_64 (a9 - t) 0 _ _ (by omega) hP hS ls (lv_sub hl [2, 3, 4, 5, 6, 1, 0] rfl)
  exact loop_49 (μ 0 1 - t) t pl _ _ (by omega) (Nat.le_refl _) (by omega) rfl hP hS ls (lv_sub hl [2, 3, 4, 1, 0] rfl)
