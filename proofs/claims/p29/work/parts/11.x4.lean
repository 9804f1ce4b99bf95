set_option maxHeartbeats 4000000 in
set_option maxRecDepth 100000 in
theorem c_change_s (l : Launch) (D : va_G) (cI cZ : ClassId) (sa : Nat → Nat) (q : Nat → Nat) (σ : ST) (j b0 w0 : Nat) (H : Heap) (hP : va_P D vwCl (wSS q cI σ) H) (hj : j < 60) (hB : ∀ k i, σ k i < 1073741824) (h4 : σ 4 j = b0) (h5 : σ 5 j = w0) (hb9 : b0 < 2 ^ 31) (hw9 : w0 < 2 ^ 31) : Met l yX2_change (codeW yX2_change cX2_change 4 (some .boolean)) ({ frames := 1, cells := 0, slots := 0, locals := 22 } : Room) (RoP D cI cZ sa H [.ref (q 1), .int (nI (j)), .int (nI (b0)), .int (nI (w0))]) (RoQ (some (.int (b2i (false)))) H) 0 0 RoF := by
  refine Met.ofW (cc := cX2_change) (maxL := 4) (ret := (some .boolean)) (by decide) rfl ?_
  intro p e s m args below meth c s₁ B hml hv
  obtain ⟨rfl, hH, hKK⟩ := hv
  subst hH
  have hx := B.exec
  have hb := B.bytes
  have hr := B.returns
  have htA : ∀ w ∈ WA, w.before _ s = true := fun w h => atoms_spec (ws := (codeW yX2_change cX2_change 4 (some .boolean))) B.pre w (List.mem_cons_of_mem _ h)
  have hown : s.vm.findClass RX2 = some m.cls := findClass_of_methodNamed B.named
  have hlocks := B.notSynchronized
  have hl := lv_entry ([.ref (q 1), .int (nI (j)), .int (nI (b0)), .int (nI (w0))]) (n := 4) (Nat.le_of_ble_eq_true rfl)
  rw [lg_entry_eq]
  generalize (lg_sl ([.ref (q 1), .int (nI (j)), .int (nI (b0)), .int (nI (w0))]) ++ List.replicate (4 - (lg_sl ([.ref (q 1), .int (nI (j)), .int (nI (b0)), .int (nI (w0))])).length) Slot.unset).toArray = ls at hl ⊢
  have hl : lv_has ls 4 [(0, .ref (q 1)), (1, .int (nI (j))), (2, .int (nI (b0))), (3, .int (nI (w0)))] := hl
  have hiw : iw (nI j) (nI 0) (nI 59) = true := iw_n (Nat.zero_le _) (by omega) (by decide)
  refine lv_iload_n hx hb dX2_change_0 rfl (lv_at hl 1 rfl) ?_
  refine n_iconst (k := 0) hx hb dX2_change_1 (by decide) ?_
  refine lv_bipush (v := nI 59) hx hb dX2_change_2 (by decide) ?_
  refine roN1 (v := .int (b2i (iw (nI (j)) (nI (0)) (nI (59))))) (As := [.int (nI (j)), .int (nI (0)), .int (nI (59))]) (rest := []) (n := 3) ⟨hx, hb, hml, hown, htA⟩ (c_isWithin l D cI cZ sa (nI (j)) (nI (0)) (nI (59)) s.heap ) (cnS 3 htA (gd_c wd_141) rfl rfl rfl (ex_RX2_34 hKK.2) wd_1 wd_140 (by decide +kernel) ⟨Nat.le_of_ble_eq_true rfl, Nat.le_of_ble_eq_true rfl⟩) hKK rfl hl.1 rfl (Nat.le_of_ble_eq_true rfl) dX2_change_4 (Nat.zero_le _) (Nat.zero_le _) ?_
  refine b_ifeq (b := iw (nI (j)) (nI (0)) (nI (59))) (tgt := 30) hx hb dX2_change_7 (by decide) (fun c_1 => ?_) (fun c_1 => ?_)
  · exact absurd (c_1.symm.trans hiw) (by decide)
  refine lv_aload_n hx hb dX2_change_10 rfl (lv_at hl 0 rfl) ?_
  refine va_get (D := D) (ci := 2) (v := .ref (q 4)) (C := RX2) (T := TX2) (N := 7) hx hb htA uwX2 hown hKK.1 hP 0 rfl rfl 2 (by decide) (htA _ wd_54) (fun _ h9 => h9) rfl dX2_change_11 ?_
  refine lv_iload_n hx hb dX2_change_14 rfl (lv_at hl 1 rfl) ?_
  refine n_iald (g := σ 4) (cA := cI) (n := 60) (j := j) hx hb hKK.1 hP 3 0 rfl rfl (by omega) (Nat.le_of_ble_eq_true rfl) dX2_change_15 ?_
  refine lv_iload_n hx hb dX2_change_16 rfl (lv_at hl 2 rfl) ?_
  refine n_icmp_ne (x := σ 4 j) (y := b0) (tgt := 32) hx hb dX2_change_17 (by decide) (Nat.lt_trans (hB 4 j) (by decide)) hb9 (fun c_2 => ?_) (fun c_2 => ?_)
  · exact absurd h4 c_2
  refine lv_aload_n hx hb dX2_change_20 rfl (lv_at hl 0 rfl) ?_
  refine va_get (D := D) (ci := 2) (v := .ref (q 5)) (C := RX2) (T := TX2) (N := 7) hx hb htA uwX2 hown hKK.1 hP 0 rfl rfl 3 (by decide) (htA _ wd_55) (fun _ h9 => h9) rfl dX2_change_21 ?_
  refine lv_iload_n hx hb dX2_change_24 rfl (lv_at hl 1 rfl) ?_
  refine n_iald (g := σ 5) (cA := cI) (n := 60) (j := j) hx hb hKK.1 hP 4 0 rfl rfl (by omega) (Nat.le_of_ble_eq_true rfl) dX2_change_25 ?_
  refine lv_iload_n hx hb dX2_change_26 rfl (lv_at hl 3 rfl) ?_
  refine n_icmp_ne (x := σ 5 j) (y := w0) (tgt := 32) hx hb dX2_change_27 (by decide) (Nat.lt_trans (hB 5 j) (by decide)) hw9 (fun c_3 => ?_) (fun c_3 => ?_)
  · exact absurd h5 c_3
  refine n_iconst (k := 0) hx hb dX2_change_30 (by decide) ?_
  exact ro_z (v := false) hx hb hr hlocks (rfl) dX2_change_31
set_option maxHeartbeats 4000000 in
set_option maxRecDepth 100000 in
theorem c_change_d (l : Launch) (D : va_G) (cI cZ : ClassId) (sa : Nat → Nat) (q : Nat → Nat) (σ : ST) (j b0 w0 : Nat) (A : Nat → Prop) (hD : va_D A (wSS q cI σ)) (hj : j < 60) (hB : ∀ k i, σ k i < 1073741824) (hne : ¬ (σ 4 j = b0 ∧ σ 5 j = w0)) (hb9 : b0 < 2 ^ 31) (hw9 : w0 < 2 ^ 31) : Met l yX2_change (codeW yX2_change cX2_change 4 (some .boolean)) ({ frames := 3, cells := 0, slots := 0, locals := 67 } : Room) (WrP D cI cZ sa (wSS q cI σ) [.ref (q 1), .int (nI (j)), .int (nI (b0)), .int (nI (w0))]) (WrQ (some (.int (b2i (true)))) D (wSS q cI (chg σ j b0 w0)) A) 0 0 A := by
  refine Met.ofW (cc := cX2_change) (maxL := 4) (ret := (some .boolean)) (by decide) rfl ?_
  intro p e s m args below meth c s₁ B hml hv
  obtain ⟨rfl, hH, hKK⟩ := hv
  have hx := B.exec
  have hb := B.bytes
  have hr := B.returns
  have htA : ∀ w ∈ WA, w.before _ s = true := fun w h => atoms_spec (ws := (codeW yX2_change cX2_change 4 (some .boolean))) B.pre w (List.mem_cons_of_mem _ h)
  have hown : s.vm.findClass RX2 = some m.cls := findClass_of_methodNamed B.named
  have hlocks := B.notSynchronized
  have hP := hH
  have hS : va_S A s.heap s.heap [] := va_S.rf
  have hl := lv_entry ([.ref (q 1), .int (nI (j)), .int (nI (b0)), .int (nI (w0))]) (n := 4) (Nat.le_of_ble_eq_true rfl)
  rw [lg_entry_eq]
  generalize (lg_sl ([.ref (q 1), .int (nI (j)), .int (nI (b0)), .int (nI (w0))]) ++ List.replicate (4 - (lg_sl ([.ref (q 1), .int (nI (j)), .int (nI (b0)), .int (nI (w0))])).length) Slot.unset).toArray = ls at hl ⊢
  have hl : lv_has ls 4 [(0, .ref (q 1)), (1, .int (nI (j))), (2, .int (nI (b0))), (3, .int (nI (w0)))] := hl
  have hiw : iw (nI j) (nI 0) (nI 59) = true := iw_n (Nat.zero_le _) (by omega) (by decide)
  refine lv_iload_n hx hb dX2_change_0 rfl (lv_at hl 1 rfl) ?_
  refine n_iconst (k := 0) hx hb dX2_change_1 (by decide) ?_
  refine lv_bipush (v := nI 59) hx hb dX2_change_2 (by decide) ?_
  refine roN1 (v := .int (b2i (iw (nI (j)) (nI (0)) (nI (59))))) (As := [.int (nI (j)), .int (nI (0)), .int (nI (59))]) (rest := []) (n := 3) ⟨hx, hb, hml, hown, htA⟩ (c_isWithin l D cI cZ sa (nI (j)) (nI (0)) (nI (59)) s.heap ) (cnS 3 htA (gd_c wd_141) rfl rfl rfl (ex_RX2_34 hKK.2) wd_1 wd_140 (by decide +kernel) ⟨Nat.le_of_ble_eq_true rfl, Nat.le_of_ble_eq_true rfl⟩) hKK rfl hl.1 rfl (Nat.le_of_ble_eq_true rfl) dX2_change_4 (Nat.zero_le _) (Nat.zero_le _) ?_
  refine b_ifeq (b := iw (nI (j)) (nI (0)) (nI (59))) (tgt := 30) hx hb dX2_change_7 (by decide) (fun c_1 => ?_) (fun c_1 => ?_)
  · exact absurd (c_1.symm.trans hiw) (by decide)
  refine lv_aload_n hx hb dX2_change_10 rfl (lv_at hl 0 rfl) ?_
  refine va_get (D := D) (ci := 2) (v := .ref (q 4)) (C := RX2) (T := TX2) (N := 7) hx hb htA uwX2 hown hKK.1 hP 0 rfl rfl 2 (by decide) (htA _ wd_54) (fun _ h9 => h9) rfl dX2_change_11 ?_
  refine lv_iload_n hx hb dX2_change_14 rfl (lv_at hl 1 rfl) ?_
  refine n_iald (g := σ 4) (cA := cI) (n := 60) (j := j) hx hb hKK.1 hP 3 0 rfl rfl (by omega) (Nat.le_of_ble_eq_true rfl) dX2_change_15 ?_
  refine lv_iload_n hx hb dX2_change_16 rfl (lv_at hl 2 rfl) ?_
  refine n_icmp_ne (x := σ 4 j) (y := b0) (tgt := 32) hx hb dX2_change_17 (by decide) (Nat.lt_trans (hB 4 j) (by decide)) hb9 (fun c_2 => ?_) (fun c_2 => ?_)
  · refine lv_aload_n hx hb dX2_change_32 rfl (lv_at hl 0 rfl) ?_
    refine va_get (D := D) (ci := 2) (v := .ref (q 7)) (C := RX2) (T := TX2) (N := 7) hx hb htA uwX2 hown hKK.1 hP 0 rfl rfl 5 (by decide) (htA _ wd_57) (fun _ h9 => h9) rfl dX2_change_33 ?_
    refine lv_iload_n hx hb dX2_change_36 rfl (lv_at hl 1 rfl) ?_
    refine lv_aload_n hx hb dX2_change_37 rfl (lv_at hl 0 rfl) ?_
    refine va_get (D := D) (ci := 2) (v := .ref (q 4)) (C := RX2) (T := TX2) (N := 7) hx hb htA uwX2 hown hKK.1 hP 0 rfl rfl 2 (by decide) (htA _ wd_54) (fun _ h9 => h9) rfl dX2_change_38 ?_
    refine lv_iload_n hx hb dX2_change_41 rfl (lv_at hl 1 rfl) ?_
    refine n_iald (g := σ 4) (cA := cI) (n := 60) (j := j) hx hb hKK.1 hP 3 0 rfl rfl (by omega) (Nat.le_of_ble_eq_true rfl) dX2_change_42 ?_
    refine lv_aload_n hx hb dX2_change_43 rfl (lv_at hl 0 rfl) ?_
    refine va_get (D := D) (ci := 2) (v := .ref (q 5)) (C := RX2) (T := TX2) (N := 7) hx hb htA uwX2 hown hKK.1 hP 0 rfl rfl 3 (by decide) (htA _ wd_55) (fun _ h9 => h9) rfl dX2_change_44 ?_
    refine lv_iload_n hx hb dX2_change_47 rfl (lv_at hl 1 rfl) ?_
    refine n_iald (g := σ 5) (cA := cI) (n := 60) (j := j) hx hb hKK.1 hP 4 0 rfl rfl (by omega) (Nat.le_of_ble_eq_true rfl) dX2_change_48 ?_
    refine lv_iload_n hx hb dX2_change_49 rfl (lv_at hl 3 rfl) ?_
    refine wrV0 (As := [.int (nI (j)), .int (nI (σ 4 j)), .int (nI (σ 5 j)), .int (nI (w0))]) (rest := []) (n := 4) ⟨hx, hb, hml, hown, htA⟩ (c_keep l D cI cZ sa q σ j (σ 4 j) (σ 5 j) w0 A (D_addr hD rfl) hB) (cwV 4 htA (gdV wd_252 wd_253 wd_254 wd_3 wd_255) rfl rfl rfl (by decide +kernel) ⟨Nat.le_of_ble_eq_true rfl, Nat.le_of_ble_eq_true rfl⟩) hKK hP 6 rfl rfl rfl hl.1 rfl (Nat.le_of_ble_eq_true rfl) dX2_change_50 (Nat.zero_le _) (Nat.zero_le _) hS (fun _ h => h) (fun H1 locs hP1 hz1 hk1 hS => ?_)
    have hP : va_P D vwCl (wSS q cI (kp σ j (σ 4 j) (σ 5 j) w0)) H1 := hP1
    generalize H1 = H at hP hS ⊢
    refine lv_aload_n hx hb dX2_change_53 rfl (lv_at hl 0 rfl) ?_
    refine va_get (D := D) (ci := 2) (v := .ref (q 4)) (C := RX2) (T := TX2) (N := 7) hx hb htA uwX2 hown hKK.1 hP 0 rfl rfl 2 (by decide) (htA _ wd_54) (fun _ h9 => h9) rfl dX2_change_54 ?_
    refine lv_iload_n hx hb dX2_change_57 rfl (lv_at hl 1 rfl) ?_
    refine lv_iload_n hx hb dX2_change_58 rfl (lv_at hl 2 rfl) ?_
    refine n_iast (g := (kp σ j (σ 4 j) (σ 5 j) w0) 4) (cA := cI) (n := 60) (j := j) (v := b0) hx hb hKK.1 hP (D_addr hD rfl) hS 3 0 rfl rfl (by omega) (Nat.le_of_ble_eq_true rfl) dX2_change_59 (fun H locs hP hS => ?_)
    have hP : va_P D vwCl (wSS q cI (su (kp σ j (σ 4 j) (σ 5 j) w0) 4 (upN ((kp σ j (σ 4 j) (σ 5 j) w0) 4) (j) (b0)))) H := hP
    refine lv_aload_n hx hb dX2_change_60 rfl (lv_at hl 0 rfl) ?_
    refine va_get (D := D) (ci := 2) (v := .ref (q 5)) (C := RX2) (T := TX2) (N := 7) hx hb htA uwX2 hown hKK.1 hP 0 rfl rfl 3 (by decide) (htA _ wd_55) (fun _ h9 => h9) rfl dX2_change_61 ?_
    refine lv_iload_n hx hb dX2_change_64 rfl (lv_at hl 1 rfl) ?_
    refine lv_iload_n hx hb dX2_change_65 rfl (lv_at hl 3 rfl) ?_
    refine n_iast (g := (kp σ j (σ 4 j) (σ 5 j) w0) 5) (cA := cI) (n := 60) (j := j) (v := w0) hx hb hKK.1 hP (D_addr hD rfl) hS 4 0 rfl rfl (by omega) (Nat.le_of_ble_eq_true rfl) dX2_change_66 (fun H locs hP hS => ?_)
    have hP : va_P D vwCl (wSS q cI (su (su (kp σ j (σ 4 j) (σ 5 j) w0) 4 (upN ((kp σ j (σ 4 j) (σ 5 j) w0) 4) (j) (b0))) 5 (upN ((kp σ j (σ 4 j) (σ 5 j) w0) 5) (j) (w0)))) H := hP
    refine n_iconst (k := 1) hx hb dX2_change_67 (by decide) ?_
    exact wr_z (v := true) hx hb hr hlocks (rfl) hP hS dX2_change_68
  · refine lv_aload_n hx hb dX2_change_20 rfl (lv_at hl 0 rfl) ?_
    refine va_get (D := D) (ci := 2) (v := .ref (q 5)) (C := RX2) (T := TX2) (N := 7) hx hb htA uwX2 hown hKK.1 hP 0 rfl rfl 3 (by decide) (htA _ wd_55) (fun _ h9 => h9) rfl dX2_change_21 ?_
    refine lv_iload_n hx hb dX2_change_24 rfl (lv_at hl 1 rfl) ?_
    refine n_iald (g := σ 5) (cA := cI) (n := 60) (j := j) hx hb hKK.1 hP 4 0 rfl rfl (by omega) (Nat.le_of_ble_eq_true rfl) dX2_change_25 ?_
    refine lv_iload_n hx hb dX2_change_26 rfl (lv_at hl 3 rfl) ?_
    refine n_icmp_ne (x := σ 5 j) (y := w0) (tgt := 32) hx hb dX2_change_27 (by decide) (Nat.lt_trans (hB 5 j) (by decide)) hw9 (fun c_3 => ?_) (fun c_3 => ?_)
    rotate_left
    · exact absurd ⟨c_2, c_3⟩ hne
    refine lv_aload_n hx hb dX2_change_32 rfl (lv_at hl 0 rfl) ?_
    refine va_get (D := D) (ci := 2) (v := .ref (q 7)) (C := RX2) (T := TX2) (N := 7) hx hb htA uwX2 hown hKK.1 hP 0 rfl rfl 5 (by decide) (htA _ wd_57) (fun _ h9 => h9) rfl dX2_change_33 ?_
    refine lv_iload_n hx hb dX2_change_36 rfl (lv_at hl 1 rfl) ?_
    refine lv_aload_n hx hb dX2_change_37 rfl (lv_at hl 0 rfl) ?_
    refine va_get (D := D) (ci := 2) (v := .ref (q 4)) (C := RX2) (T := TX2) (N := 7) hx hb htA uwX2 hown hKK.1 hP 0 rfl rfl 2 (by decide) (htA _ wd_54) (fun _ h9 => h9) rfl dX2_change_38 ?_
    refine lv_iload_n hx hb dX2_change_41 rfl (lv_at hl 1 rfl) ?_
    refine n_iald (g := σ 4) (cA := cI) (n := 60) (j := j) hx hb hKK.1 hP 3 0 rfl rfl (by omega) (Nat.le_of_ble_eq_true rfl) dX2_change_42 ?_
    refine lv_aload_n hx hb dX2_change_43 rfl (lv_at hl 0 rfl) ?_
    refine va_get (D := D) (ci := 2) (v := .ref (q 5)) (C := RX2) (T := TX2) (N := 7) hx hb htA uwX2 hown hKK.1 hP 0 rfl rfl 3 (by decide) (htA _ wd_55) (fun _ h9 => h9) rfl dX2_change_44 ?_
    refine lv_iload_n hx hb dX2_change_47 rfl (lv_at hl 1 rfl) ?_
    refine n_iald (g := σ 5) (cA := cI) (n := 60) (j := j) hx hb hKK.1 hP 4 0 rfl rfl (by omega) (Nat.le_of_ble_eq_true rfl) dX2_change_48 ?_
    refine lv_iload_n hx hb dX2_change_49 rfl (lv_at hl 3 rfl) ?_
    refine wrV0 (As := [.int (nI (j)), .int (nI (σ 4 j)), .int (nI (σ 5 j)), .int (nI (w0))]) (rest := []) (n := 4) ⟨hx, hb, hml, hown, htA⟩ (c_keep l D cI cZ sa q σ j (σ 4 j) (σ 5 j) w0 A (D_addr hD rfl) hB) (cwV 4 htA (gdV wd_252 wd_253 wd_254 wd_3 wd_255) rfl rfl rfl (by decide +kernel) ⟨Nat.le_of_ble_eq_true rfl, Nat.le_of_ble_eq_true rfl⟩) hKK hP 6 rfl rfl rfl hl.1 rfl (Nat.le_of_ble_eq_true rfl) dX2_change_50 (Nat.zero_le _) (Nat.zero_le _) hS (fun _ h => h) (fun H1 locs hP1 hz1 hk1 hS => ?_)
    have hP : va_P D vwCl (wSS q cI (kp σ j (σ 4 j) (σ 5 j) w0)) H1 := hP1
    generalize H1 = H at hP hS ⊢
    refine lv_aload_n hx hb dX2_change_53 rfl (lv_at hl 0 rfl) ?_
    refine va_get (D := D) (ci := 2) (v := .ref (q 4)) (C := RX2) (T := TX2) (N := 7) hx hb htA uwX2 hown hKK.1 hP 0 rfl rfl 2 (by decide) (htA _ wd_54) (fun _ h9 => h9) rfl dX2_change_54 ?_
    refine lv_iload_n hx hb dX2_change_57 rfl (lv_at hl 1 rfl) ?_
    refine lv_iload_n hx hb dX2_change_58 rfl (lv_at hl 2 rfl) ?_
    refine n_iast (g := (kp σ j (σ 4 j) (σ 5 j) w0) 4) (cA := cI) (n := 60) (j := j) (v := b0) hx hb hKK.1 hP (D_addr hD rfl) hS 3 0 rfl rfl (by omega) (Nat.le_of_ble_eq_true rfl) dX2_change_59 (fun H locs hP hS => ?_)
    have hP : va_P D vwCl (wSS q cI (su (kp σ j (σ 4 j) (σ 5 j) w0) 4 (upN ((kp σ j (σ 4 j) (σ 5 j) w0) 4) (j) (b0)))) H := hP
    refine lv_aload_n hx hb dX2_change_60 rfl (lv_at hl 0 rfl) ?_
    refine va_get (D := D) (ci := 2) (v := .ref (q 5)) (C := RX2) (T := TX2) (N := 7) hx hb htA uwX2 hown hKK.1 hP 0 rfl rfl 3 (by decide) (htA _ wd_55) (fun _ h9 => h9) rfl dX2_change_61 ?_
    refine lv_iload_n hx hb dX2_change_64 rfl (lv_at hl 1 rfl) ?_
    refine lv_iload_n hx hb dX2_change_65 rfl (lv_at hl 3 rfl) ?_
    refine n_iast (g := (kp σ j (σ 4 j) (σ 5 j) w0) 5) (cA := cI) (n := 60) (j := j) (v := w0) hx hb hKK.1 hP (D_addr hD rfl) hS 4 0 rfl rfl (by omega) (Nat.le_of_ble_eq_true rfl) dX2_change_66 (fun H locs hP hS => ?_)
    have hP : va_P D vwCl (wSS q cI (su (su (kp σ j (σ 4 j) (σ 5 j) w0) 4 (upN ((kp σ j (σ 4 j) (σ 5 j) w0) 4) (j) (b0))) 5 (upN ((kp σ j (σ 4 j) (σ 5 j) w0) 5) (j) (w0)))) H := hP
    refine n_iconst (k := 1) hx hb dX2_change_67 (by decide) ?_
    exact wr_z (v := true) hx hb hr hlocks (rfl) hP hS dX2_change_68
set_option maxHeartbeats 4000000 in
set_option maxRecDepth 100000 in
theorem c_withn (l : Launch) (D : va_G) (cI cZ : ClassId) (sa : Nat → Nat) (x : Int64) (k w0 : Nat) (H : Heap) (hw : w0 < 2) : Met l yX3_with (codeW yX3_with cX3_with 4 (some .long)) ({ frames := 0, cells := 0, slots := 0, locals := 0 } : Room) (RoP D cI cZ sa H [.long (x), .int (nI (k)), .int (nI (w0))]) (RoQ (some (.long (wi x k (nb w0)))) H) 0 0 RoF := by
  refine Met.ofW (cc := cX3_with) (maxL := 4) (ret := (some .long)) (by decide) rfl ?_
  intro p e s m args below meth c s₁ B hml hv
  obtain ⟨rfl, hH, hKK⟩ := hv
  subst hH
  have hx := B.exec
  have hb := B.bytes
  have hr := B.returns
  have htA : ∀ w ∈ WA, w.before _ s = true := fun w h => atoms_spec (ws := (codeW yX3_with cX3_with 4 (some .long))) B.pre w (List.mem_cons_of_mem _ h)
  have hown : s.vm.findClass RX3 = some m.cls := findClass_of_methodNamed B.named
  have hlocks := B.notSynchronized
  have hl := lv_entry ([.long (x), .int (nI (k)), .int (nI (w0))]) (n := 4) (Nat.le_of_ble_eq_true rfl)
  rw [lg_entry_eq]
  generalize (lg_sl ([.long (x), .int (nI (k)), .int (nI (w0))]) ++ List.replicate (4 - (lg_sl ([.long (x), .int (nI (k)), .int (nI (w0))])).length) Slot.unset).toArray = ls at hl ⊢
  have hl : lv_has ls 4 [(0, .long (x)), (2, .int (nI (k))), (3, .int (nI (w0)))] := hl
  refine lv_iload_n hx hb dX3_with_0 rfl (lv_at hl 2 rfl) ?_
  refine n_ifeq (x := w0) (tgt := 12) hx hb dX3_with_1 (by decide) (by omega) (fun c_1 => ?_) (fun c_1 => ?_)
  · refine lv_lload_n hx hb dX3_with_12 rfl (lv_at hl 0 rfl) ?_
    refine lv_lconst (v := 1) hx hb dX3_with_13 (by decide) ?_
    refine lv_iload_n hx hb dX3_with_14 rfl (lv_at hl 1 rfl) ?_
    refine lv_lshl hx hb dX3_with_15 rfl ?_
    refine lv_ldc2 (v := (-1)) hx hb hown (htA _ wd_316) dX3_with_16 ?_
    refine lv_lxor hx hb dX3_with_19 ?_
    refine lv_land hx hb dX3_with_20 ?_
    exact ro_l hx hb hr hlocks (by rw [show nb w0 = false from by simp [nb, c_1]]; rfl) dX3_with_21
  · refine lv_lload_n hx hb dX3_with_4 rfl (lv_at hl 0 rfl) ?_
    refine lv_lconst (v := 1) hx hb dX3_with_5 (by decide) ?_
    refine lv_iload_n hx hb dX3_with_6 rfl (lv_at hl 1 rfl) ?_
    refine lv_lshl hx hb dX3_with_7 rfl ?_
    refine lv_lor hx hb dX3_with_8 ?_
    refine lv_goto (tgt := 21) hx hb dX3_with_9 (by decide) ?_
    exact ro_l hx hb hr hlocks (by rw [show nb w0 = true from by simp [nb, c_1]]; rfl) dX3_with_21
set_option maxHeartbeats 4000000 in
set_option maxRecDepth 100000 in
theorem c_setKeyword_d (l : Launch) (D : va_G) (cI cZ : ClassId) (sa : Nat → Nat) (q : Nat → Nat) (σ : ST) (j k w0 : Nat) (A : Nat → Prop) (hD : va_D A (wSS q cI σ)) (hj : j < 60) (hB : ∀ k i, σ k i < 1073741824) (h15 : ∀ i, σ 5 i < 16) (hk : k < 4) (hw : w0 < 2) (he : ¬ (σ 5 j = wn (σ 5 j) k (nb w0))) : Met l yX2_setKeyword (codeW yX2_setKeyword cX2_setKeyword 4 (some .boolean)) ({ frames := 4, cells := 0, slots := 0, locals := 90 } : Room) (WrP D cI cZ sa (wSS q cI σ) [.ref (q 1), .int (nI (j)), .int (nI (k)), .int (nI (w0))]) (WrQ (some (.int (b2i (true)))) D (wSS q cI (chg σ j (σ 4 j) (wn (σ 5 j) k (nb w0)))) A) 0 0 A := by
  refine Met.ofW (cc := cX2_setKeyword) (maxL := 4) (ret := (some .boolean)) (by decide) rfl ?_
  intro p e s m args below meth c s₁ B hml hv
  obtain ⟨rfl, hH, hKK⟩ := hv
  have hx := B.exec
  have hb := B.bytes
  have hr := B.returns
  have htA : ∀ w ∈ WA, w.before _ s = true := fun w h => atoms_spec (ws := (codeW yX2_setKeyword cX2_setKeyword 4 (some .boolean))) B.pre w (List.mem_cons_of_mem _ h)
  have hown : s.vm.findClass RX2 = some m.cls := findClass_of_methodNamed B.named
  have hlocks := B.notSynchronized
  have hP := hH
  have hS : va_S A s.heap s.heap [] := va_S.rf
  have hl := lv_entry ([.ref (q 1), .int (nI (j)), .int (nI (k)), .int (nI (w0))]) (n := 4) (Nat.le_of_ble_eq_true rfl)
  rw [lg_entry_eq]
  generalize (lg_sl ([.ref (q 1), .int (nI (j)), .int (nI (k)), .int (nI (w0))]) ++ List.replicate (4 - (lg_sl ([.ref (q 1), .int (nI (j)), .int (nI (k)), .int (nI (w0))])).length) Slot.unset).toArray = ls at hl ⊢
  have hl : lv_has ls 4 [(0, .ref (q 1)), (1, .int (nI (j))), (2, .int (nI (k))), (3, .int (nI (w0)))] := hl
  refine lv_aload_n hx hb dX2_setKeyword_0 rfl (lv_at hl 0 rfl) ?_
  refine lv_iload_n hx hb dX2_setKeyword_1 rfl (lv_at hl 1 rfl) ?_
  refine lv_aload_n hx hb dX2_setKeyword_2 rfl (lv_at hl 0 rfl) ?_
  refine lv_iload_n hx hb dX2_setKeyword_3 rfl (lv_at hl 1 rfl) ?_
  refine roV1 (v := .int (nI (σ 4 j))) (As := [.int (nI (j))]) (rest := [.int (nI (j)), .ref (q 1)]) (n := 1) ⟨hx, hb, hml, hown, htA⟩ (c_boxesOf_t l D cI cZ sa q σ j s.heap hP (by omega)) (cwV 1 htA (gdV wd_270 wd_271 wd_272 wd_2 wd_273) rfl rfl rfl (by decide +kernel) ⟨Nat.le_of_ble_eq_true rfl, Nat.le_of_ble_eq_true rfl⟩) hKK hP 0 rfl rfl rfl hl.1 rfl (Nat.le_of_ble_eq_true rfl) dX2_setKeyword_4 (Nat.zero_le _) (Nat.zero_le _) ?_
  refine lv_aload_n hx hb dX2_setKeyword_7 rfl (lv_at hl 0 rfl) ?_
  refine lv_iload_n hx hb dX2_setKeyword_8 rfl (lv_at hl 1 rfl) ?_
  refine roV1 (v := .int (nI (σ 5 j))) (As := [.int (nI (j))]) (rest := [.int (nI (σ 4 j)), .int (nI (j)), .ref (q 1)]) (n := 1) ⟨hx, hb, hml, hown, htA⟩ (c_keywordsOf_t l D cI cZ sa q σ j s.heap hP (by omega)) (cwV 1 htA (gdV wd_312 wd_296 wd_297 wd_2 wd_298) rfl rfl rfl (by decide +kernel) ⟨Nat.le_of_ble_eq_true rfl, Nat.le_of_ble_eq_true rfl⟩) hKK hP 0 rfl rfl rfl hl.1 rfl (Nat.le_of_ble_eq_true rfl) dX2_setKeyword_9 (Nat.zero_le _) (Nat.zero_le _) ?_
  refine lv_i2l hx hb dX2_setKeyword_12 rfl ?_
  refine lv_iload_n hx hb dX2_setKeyword_13 rfl (lv_at hl 2 rfl) ?_
  refine lv_iload_n hx hb dX2_setKeyword_14 rfl (lv_at hl 3 rfl) ?_
  refine roN1 (v := .long (wi ((nI (σ 5 j)).toInt64) (k) (nb w0))) (As := [.long ((nI (σ 5 j)).toInt64), .int (nI (k)), .int (nI (w0))]) (rest := [.int (nI (σ 4 j)), .int (nI (j)), .ref (q 1)]) (n := 3) ⟨hx, hb, hml, hown, htA⟩ (c_withn l D cI cZ sa ((nI (σ 5 j)).toInt64) (k) (w0) s.heap (by omega)) (cnS 3 htA (gd_c wd_315) rfl rfl rfl (ex_RX2_65 hKK.2) wd_1 wd_314 (by decide +kernel) ⟨Nat.le_of_ble_eq_true rfl, Nat.le_of_ble_eq_true rfl⟩) hKK rfl hl.1 rfl (Nat.le_of_ble_eq_true rfl) dX2_setKeyword_15 (Nat.zero_le _) (Nat.zero_le _) ?_
  refine lv_l2i hx hb dX2_setKeyword_18 rfl ?_
  rw [wi_n (h15 j) hk]
  refine wrV1 (v := .int (b2i (true))) (As := [.int (nI (j)), .int (nI (σ 4 j)), .int (nI (wn (σ 5 j) k (nb w0)))]) (rest := []) (n := 3) ⟨hx, hb, hml, hown, htA⟩ (c_change_d l D cI cZ sa q σ j (σ 4 j) (wn (σ 5 j) k (nb w0)) A (D_addr hD rfl) (by omega) hB (fun h => he h.2) (Nat.lt_trans (hB 4 j) (by decide)) (Nat.lt_trans (wn_lt (h15 j) hk _) (by decide))) (cwV 3 htA (gdV wd_248 wd_249 wd_250 wd_2 wd_251) rfl rfl rfl (by decide +kernel) ⟨Nat.le_of_ble_eq_true rfl, Nat.le_of_ble_eq_true rfl⟩) hKK hP 0 rfl rfl rfl hl.1 rfl (Nat.le_of_ble_eq_true rfl) dX2_setKeyword_19 (Nat.zero_le _) (Nat.zero_le _) hS (fun _ h => h) (fun H1 locs hP1 hz1 hk1 hS => ?_)
  have hP : va_P D vwCl (wSS q cI (chg σ j (σ 4 j) (wn (σ 5 j) k (nb w0)))) H1 := hP1
  generalize H1 = H at hP hS ⊢
  exact wr_z (v := true) hx hb hr hlocks (rfl) hP hS dX2_setKeyword_22
set_option maxHeartbeats 4000000 in
set_option maxRecDepth 100000 in
theorem c_setKeyword_s (l : Launch) (D : va_G) (cI cZ : ClassId) (sa : Nat → Nat) (q : Nat → Nat) (σ : ST) (j k w0 : Nat) (H : Heap) (hP : va_P D vwCl (wSS q cI σ) H) (hj : j < 60) (hB : ∀ k i, σ k i < 1073741824) (h15 : ∀ i, σ 5 i < 16) (hk : k < 4) (hw : w0 < 2) (he : σ 5 j = wn (σ 5 j) k (nb w0)) : Met l yX2_setKeyword (codeW yX2_setKeyword cX2_setKeyword 4 (some .boolean)) ({ frames := 4, cells := 0, slots := 0, locals := 90 } : Room) (RoP D cI cZ sa H [.ref (q 1), .int (nI (j)), .int (nI (k)), .int (nI (w0))]) (RoQ (some (.int (b2i (false)))) H) 0 0 RoF := by
  refine Met.ofW (cc := cX2_setKeyword) (maxL := 4) (ret := (some .boolean)) (by decide) rfl ?_
  intro p e s m args below meth c s₁ B hml hv
  obtain ⟨rfl, hH, hKK⟩ := hv
  subst hH
  have hx := B.exec
  have hb := B.bytes
  have hr := B.returns
  have htA : ∀ w ∈ WA, w.before _ s = true := fun w h => atoms_spec (ws := (codeW yX2_setKeyword cX2_setKeyword 4 (some .boolean))) B.pre w (List.mem_cons_of_mem _ h)
  have hown : s.vm.findClass RX2 = some m.cls := findClass_of_methodNamed B.named
  have hlocks := B.notSynchronized
  have hl := lv_entry ([.ref (q 1), .int (nI (j)), .int (nI (k)), .int (nI (w0))]) (n := 4) (Nat.le_of_ble_eq_true rfl)
  rw [lg_entry_eq]
  generalize (lg_sl ([.ref (q 1), .int (nI (j)), .int (nI (k)), .int (nI (w0))]) ++ List.replicate (4 - (lg_sl ([.ref (q 1), .int (nI (j)), .int (nI (k)), .int (nI (w0))])).length) Slot.unset).toArray = ls at hl ⊢
  have hl : lv_has ls 4 [(0, .ref (q 1)), (1, .int (nI (j))), (2, .int (nI (k))), (3, .int (nI (w0)))] := hl
  refine lv_aload_n hx hb dX2_setKeyword_0 rfl (lv_at hl 0 rfl) ?_
  refine lv_iload_n hx hb dX2_setKeyword_1 rfl (lv_at hl 1 rfl) ?_
  refine lv_aload_n hx hb dX2_setKeyword_2 rfl (lv_at hl 0 rfl) ?_
  refine lv_iload_n hx hb dX2_setKeyword_3 rfl (lv_at hl 1 rfl) ?_
  refine roV1 (v := .int (nI (σ 4 j))) (As := [.int (nI (j))]) (rest := [.int (nI (j)), .ref (q 1)]) (n := 1) ⟨hx, hb, hml, hown, htA⟩ (c_boxesOf_t l D cI cZ sa q σ j s.heap hP (by omega)) (cwV 1 htA (gdV wd_270 wd_271 wd_272 wd_2 wd_273) rfl rfl rfl (by decide +kernel) ⟨Nat.le_of_ble_eq_true rfl, Nat.le_of_ble_eq_true rfl⟩) hKK hP 0 rfl rfl rfl hl.1 rfl (Nat.le_of_ble_eq_true rfl) dX2_setKeyword_4 (Nat.zero_le _) (Nat.zero_le _) ?_
  refine lv_aload_n hx hb dX2_setKeyword_7 rfl (lv_at hl 0 rfl) ?_
  refine lv_iload_n hx hb dX2_setKeyword_8 rfl (lv_at hl 1 rfl) ?_
  refine roV1 (v := .int (nI (σ 5 j))) (As := [.int (nI (j))]) (rest := [.int (nI (σ 4 j)), .int (nI (j)), .ref (q 1)]) (n := 1) ⟨hx, hb, hml, hown, htA⟩ (c_keywordsOf_t l D cI cZ sa q σ j s.heap hP (by omega)) (cwV 1 htA (gdV wd_312 wd_296 wd_297 wd_2 wd_298) rfl rfl rfl (by decide +kernel) ⟨Nat.le_of_ble_eq_true rfl, Nat.le_of_ble_eq_true rfl⟩) hKK hP 0 rfl rfl rfl hl.1 rfl (Nat.le_of_ble_eq_true rfl) dX2_setKeyword_9 (Nat.zero_le _) (Nat.zero_le _) ?_
  refine lv_i2l hx hb dX2_setKeyword_12 rfl ?_
  refine lv_iload_n hx hb dX2_setKeyword_13 rfl (lv_at hl 2 rfl) ?_
  refine lv_iload_n hx hb dX2_setKeyword_14 rfl (lv_at hl 3 rfl) ?_
  refine roN1 (v := .long (wi ((nI (σ 5 j)).toInt64) (k) (nb w0))) (As := [.long ((nI (σ 5 j)).toInt64), .int (nI (k)), .int (nI (w0))]) (rest := [.int (nI (σ 4 j)), .int (nI (j)), .ref (q 1)]) (n := 3) ⟨hx, hb, hml, hown, htA⟩ (c_withn l D cI cZ sa ((nI (σ 5 j)).toInt64) (k) (w0) s.heap (by omega)) (cnS 3 htA (gd_c wd_315) rfl rfl rfl (ex_RX2_65 hKK.2) wd_1 wd_314 (by decide +kernel) ⟨Nat.le_of_ble_eq_true rfl, Nat.le_of_ble_eq_true rfl⟩) hKK rfl hl.1 rfl (Nat.le_of_ble_eq_true rfl) dX2_setKeyword_15 (Nat.zero_le _) (Nat.zero_le _) ?_
  refine lv_l2i hx hb dX2_setKeyword_18 rfl ?_
  rw [wi_n (h15 j) hk]
  refine roV1 (v := .int (b2i (false))) (As := [.int (nI (j)), .int (nI (σ 4 j)), .int (nI (wn (σ 5 j) k (nb w0)))]) (rest := []) (n := 3) ⟨hx, hb, hml, hown, htA⟩ (c_change_s l D cI cZ sa q σ j (σ 4 j) (wn (σ 5 j) k (nb w0)) s.heap hP (by omega) hB rfl he (Nat.lt_trans (hB 4 j) (by decide)) (Nat.lt_trans (wn_lt (h15 j) hk _) (by decide))) (cwV 3 htA (gdV wd_248 wd_249 wd_250 wd_2 wd_251) rfl rfl rfl (by decide +kernel) ⟨Nat.le_of_ble_eq_true rfl, Nat.le_of_ble_eq_true rfl⟩) hKK hP 0 rfl rfl rfl hl.1 rfl (Nat.le_of_ble_eq_true rfl) dX2_setKeyword_19 (Nat.zero_le _) (Nat.zero_le _) ?_
  exact ro_z (v := false) hx hb hr hlocks (rfl) dX2_setKeyword_22
set_option maxHeartbeats 4000000 in
set_option maxRecDepth 100000 in
theorem c_putInOrder (l : Launch) (D : va_G) (cI cZ : ClassId) (sa : Nat → Nat) (q : Nat → Nat) (σ : ST) (mail t : Nat) (A : Nat → Prop) (hD : va_D A (wSS q cI σ)) (hB : ∀ k i, σ k i < 1073741824) (hco : σ 1 0 < 60) (h60 : ∀ i, σ 6 i < 60) (ht : t < 2 ^ 31) : Met l yX2_putInOrder (codeW yX2_putInOrder cX2_putInOrder 4 none) ({ frames := 2, cells := 0, slots := 0, locals := 43 } : Room) (WrP D cI cZ sa (wSS q cI σ) [.ref (q 1), .int (nI (mail)), .int (nI (t))]) (WrQ none D (wSS q cI (su σ 6 (pio (σ 2) t mail (min (σ 1 0) 59) (σ 6)))) A) 0 0 A := by
  refine Met.ofW (cc := cX2_putInOrder) (maxL := 4) (ret := none) (by decide) rfl ?_
  intro p e s m args below meth c s₁ B hml hv
  obtain ⟨rfl, hH, hKK⟩ := hv
  have hx := B.exec
  have hb := B.bytes
  have hr := B.returns
  have htA : ∀ w ∈ WA, w.before _ s = true := fun w h => atoms_spec (ws := (codeW yX2_putInOrder cX2_putInOrder 4 none)) B.pre w (List.mem_cons_of_mem _ h)
  have hown : s.vm.findClass RX2 = some m.cls := findClass_of_methodNamed B.named
  have hlocks := B.notSynchronized
  have hP := hH
  have hS : va_S A s.heap s.heap [] := va_S.rf
  have hl := lv_entry ([.ref (q 1), .int (nI (mail)), .int (nI (t))]) (n := 4) (Nat.le_of_ble_eq_true rfl)
  rw [lg_entry_eq]
  generalize (lg_sl ([.ref (q 1), .int (nI (mail)), .int (nI (t))]) ++ List.replicate (4 - (lg_sl ([.ref (q 1), .int (nI (mail)), .int (nI (t))])).length) Slot.unset).toArray = ls at hl ⊢
  have hl : lv_has ls 4 [(0, .ref (q 1)), (1, .int (nI (mail))), (2, .int (nI (t)))] := hl
  refine lv_aload_n hx hb dX2_putInOrder_0 rfl (lv_at hl 0 rfl) ?_
  refine va_get (D := D) (ci := 2) (v := .int (nI (σ 1 0))) (C := RX2) (T := TX2) (N := 7) hx hb htA uwX2 hown hKK.1 hP 0 rfl rfl 6 (by decide) (htA _ wd_61) (fun _ h9 => h9) rfl dX2_putInOrder_1 ?_
  refine lv_bipush (v := nI 59) hx hb dX2_putInOrder_4 (by decide) ?_
  refine n_mmin (x := σ 1 0) (y := 59) hx hb (hml.trans hl.1.symm) hown (htA _ wd_240) (htA _ wd_241) (htA _ wd_10) (htA _ wd_242) (Nat.le_of_ble_eq_true rfl) (Nat.le_of_ble_eq_true rfl) (Nat.zero_le _) (Nat.zero_le _) (Nat.lt_trans (hB 1 0) (by decide)) (by decide) dX2_putInOrder_6 ?_
  refine lv_istore_n (lv' := [(3, .int (nI (min (σ 1 0) 59))), (0, .ref (q 1)), (1, .int (nI (mail))), (2, .int (nI (t)))]) hx hb dX2_putInOrder_9 rfl hl (by decide) rfl (fun ls hl => ?_)
  have loop_10 : ∀ (n : Nat) (od : Nat → Nat) (H : Heap) (locs : List Loc), (n ≤ 59) → (∀ i, od i < 60) → (pio (σ 2) t mail n od = pio (σ 2) t mail (min (σ 1 0) 59) (σ 6)) → va_P D vwCl (wSS q cI (su σ 6 od)) H → va_S A s.heap H locs → ∀ (ls : Array Slot), lv_has ls 4 [(0, .ref (q 1)), (1, .int (nI (mail))), (2, .int (nI (t))), (3, .int (nI (n)))] → W p l e (headSpec (codeW yX2_putInOrder cX2_putInOrder 4 none) ({ frames := 2, cells := 0, slots := 0, locals := 43 } : Room)).room s m ([.ref (q 1), .int (nI (mail)), .int (nI (t))] : List Value).toArray below meth c H locs 0 0 (MQ below (WrQ none D (wSS q cI (su σ 6 (pio (σ 2) t mail (min (σ 1 0) 59) (σ 6)))) A) ([.ref (q 1), .int (nI (mail)), .int (nI (t))] : List Value).toArray s 0 0 A) (F0 m 10 ls []) := by
    intro n
    induction n with
    | zero =>
      intro od H locs hn hod hres hP hS ls hl
      refine lv_iload_n hx hb dX2_putInOrder_10 rfl (lv_at hl 3 rfl) ?_
      refine n_ifle (x := 0) (tgt := 50) hx hb dX2_putInOrder_11 (by decide) (by decide) (fun c_1 => ?_) (fun c_1 => ?_)
      rotate_left
      · exfalso; omega
      refine lv_aload_n hx hb dX2_putInOrder_50 rfl (lv_at hl 0 rfl) ?_
      refine va_get (D := D) (ci := 2) (v := .ref (q 6)) (C := RX2) (T := TX2) (N := 7) hx hb htA uwX2 hown hKK.1 hP 0 rfl rfl 4 (by decide) (htA _ wd_56) (fun _ h9 => h9) rfl dX2_putInOrder_51 ?_
      refine lv_iload_n hx hb dX2_putInOrder_54 rfl (lv_at hl 3 rfl) ?_
      refine lv_iload_n hx hb dX2_putInOrder_55 rfl (lv_at hl 1 rfl) ?_
      refine n_iast (g := od) (cA := cI) (n := 60) (j := 0) (v := mail) hx hb hKK.1 hP (D_addr hD rfl) hS 5 0 rfl rfl (by decide) (Nat.le_of_ble_eq_true rfl) dX2_putInOrder_56 (fun H locs hP hS => ?_)
      have hP : va_P D vwCl (wSS q cI (su (su σ 6 od) 6 (upN (od) (0) (mail)))) H := hP
      have hP : va_P D vwCl (wSS q cI (su σ 6 (upN (od) (0) (mail)))) H := hP
      have e : upN (od) (0) (mail) = pio (σ 2) t mail (min (σ 1 0) 59) (σ 6) := by rw [← hres]; rfl
      rw [e] at hP
      exact wr_v hx hb hr hlocks hP hS dX2_putInOrder_57
    | succ n ih =>
      intro od H locs hn hod hres hP hS ls hl
      refine lv_iload_n hx hb dX2_putInOrder_10 rfl (lv_at hl 3 rfl) ?_
      refine n_ifle (x := n + 1) (tgt := 50) hx hb dX2_putInOrder_11 (by decide) (by omega) (fun c_2 => ?_) (fun c_2 => ?_)
      · exfalso; omega
      refine lv_aload_n hx hb dX2_putInOrder_14 rfl (lv_at hl 0 rfl) ?_
      refine lv_aload_n hx hb dX2_putInOrder_15 rfl (lv_at hl 0 rfl) ?_
      refine va_get (D := D) (ci := 2) (v := .ref (q 6)) (C := RX2) (T := TX2) (N := 7) hx hb htA uwX2 hown hKK.1 hP 0 rfl rfl 4 (by decide) (htA _ wd_56) (fun _ h9 => h9) rfl dX2_putInOrder_16 ?_
      refine lv_iload_n hx hb dX2_putInOrder_19 rfl (lv_at hl 3 rfl) ?_
      refine n_iconst (k := 1) hx hb dX2_putInOrder_20 (by decide) ?_
      refine n_ipreds hx hb dX2_putInOrder_21 ?_
      refine n_iald (g := od) (cA := cI) (n := 60) (j := n) hx hb hKK.1 hP 5 0 rfl rfl (by omega) (Nat.le_of_ble_eq_true rfl) dX2_putInOrder_22 ?_
      refine roV1 (v := .int (nI (σ 2 (od n)))) (As := [.int (nI (od n))]) (rest := []) (n := 1) ⟨hx, hb, hml, hown, htA⟩ (c_timeOf_t l D cI cZ sa q (su σ 6 od) (od n) H hP (hod _)) (cwV 1 htA (gdV wd_243 wd_245 wp_2 wd_2 wd_246) rfl rfl rfl (by decide +kernel) ⟨Nat.le_of_ble_eq_true rfl, Nat.le_of_ble_eq_true rfl⟩) hKK hP 0 rfl rfl rfl hl.1 rfl (Nat.le_of_ble_eq_true rfl) dX2_putInOrder_23 (Nat.zero_le _) (Nat.zero_le _) ?_
      refine lv_iload_n hx hb dX2_putInOrder_26 rfl (lv_at hl 2 rfl) ?_
      refine n_icmp_gt (x := σ 2 (od n)) (y := t) (tgt := 50) hx hb dX2_putInOrder_27 (by decide) (Nat.lt_trans (hB 2 (od n)) (by decide)) ht (fun c_3 => ?_) (fun c_3 => ?_)
      · refine lv_aload_n hx hb dX2_putInOrder_50 rfl (lv_at hl 0 rfl) ?_
        refine va_get (D := D) (ci := 2) (v := .ref (q 6)) (C := RX2) (T := TX2) (N := 7) hx hb htA uwX2 hown hKK.1 hP 0 rfl rfl 4 (by decide) (htA _ wd_56) (fun _ h9 => h9) rfl dX2_putInOrder_51 ?_
        refine lv_iload_n hx hb dX2_putInOrder_54 rfl (lv_at hl 3 rfl) ?_
        refine lv_iload_n hx hb dX2_putInOrder_55 rfl (lv_at hl 1 rfl) ?_
        refine n_iast (g := od) (cA := cI) (n := 60) (j := n + 1) (v := mail) hx hb hKK.1 hP (D_addr hD rfl) hS 5 0 rfl rfl (by omega) (Nat.le_of_ble_eq_true rfl) dX2_putInOrder_56 (fun H locs hP hS => ?_)
        have hP : va_P D vwCl (wSS q cI (su (su σ 6 od) 6 (upN (od) (n + 1) (mail)))) H := hP
        have hP : va_P D vwCl (wSS q cI (su σ 6 (upN (od) (n + 1) (mail)))) H := hP
        have e : upN (od) (n + 1) (mail) = pio (σ 2) t mail (min (σ 1 0) 59) (σ 6) := by rw [← hres]; simp only [pio]; rw [decide_eq_false (by omega)]; rfl
        rw [e] at hP
        exact wr_v hx hb hr hlocks hP hS dX2_putInOrder_57
      · refine lv_aload_n hx hb dX2_putInOrder_30 rfl (lv_at hl 0 rfl) ?_
        refine va_get (D := D) (ci := 2) (v := .ref (q 6)) (C := RX2) (T := TX2) (N := 7) hx hb htA uwX2 hown hKK.1 hP 0 rfl rfl 4 (by decide) (htA _ wd_56) (fun _ h9 => h9) rfl dX2_putInOrder_31 ?_
        refine lv_iload_n hx hb dX2_putInOrder_34 rfl (lv_at hl 3 rfl) ?_
        refine lv_aload_n hx hb dX2_putInOrder_35 rfl (lv_at hl 0 rfl) ?_
        refine va_get (D := D) (ci := 2) (v := .ref (q 6)) (C := RX2) (T := TX2) (N := 7) hx hb htA uwX2 hown hKK.1 hP 0 rfl rfl 4 (by decide) (htA _ wd_56) (fun _ h9 => h9) rfl dX2_putInOrder_36 ?_
        refine lv_iload_n hx hb dX2_putInOrder_39 rfl (lv_at hl 3 rfl) ?_
        refine n_iconst (k := 1) hx hb dX2_putInOrder_40 (by decide) ?_
        refine n_ipreds hx hb dX2_putInOrder_41 ?_
        refine n_iald (g := od) (cA := cI) (n := 60) (j := n) hx hb hKK.1 hP 5 0 rfl rfl (by omega) (Nat.le_of_ble_eq_true rfl) dX2_putInOrder_42 ?_
        refine n_iast (g := od) (cA := cI) (n := 60) (j := n + 1) (v := od n) hx hb hKK.1 hP (D_addr hD rfl) hS 5 0 rfl rfl (by omega) (Nat.le_of_ble_eq_true rfl) dX2_putInOrder_43 (fun H locs hP hS => ?_)
        have hP : va_P D vwCl (wSS q cI (su (su σ 6 od) 6 (upN (od) (n + 1) (od n)))) H := hP
        refine lv_iinc (v := nI (n)) (lv' := [(3, .int (nI (n))), (0, .ref (q 1)), (1, .int (nI (mail))), (2, .int (nI (t)))]) hx hb dX2_putInOrder_44 hl (k := 3) rfl (n_decs (n)) (by decide) rfl (fun ls hl => ?_)
        refine lv_goto (tgt := 10) hx hb dX2_putInOrder_47 (by decide) ?_
        have hP : va_P D vwCl (wSS q cI (su σ 6 (upN (od) (n + 1) (od n)))) H := hP
        exact ih (upN (od) (n + 1) (od n)) _ _ (by omega) (up_lt hod (hod _)) (by rw [← hres]; simp only [pio]; rw [decide_eq_true c_3]; rfl) hP hS ls (lv_sub hl [1, 2, 3, 0] rfl)
  have hP : va_P D vwCl (wSS q cI (su σ 6 (σ 6))) s.heap := hP
  exact loop_10 (min (σ 1 0) 59) (σ 6) _ _ (by omega) h60 rfl hP hS ls (lv_sub hl [1, 2, 3, 0] rfl)
set_option maxHeartbeats 4000000 in
set_option maxRecDepth 100000 in
theorem c_letCome (l : Launch) (D : va_G) (cI cZ : ClassId) (sa : Nat → Nat) (q : Nat → Nat) (σ : ST) (t b0 th : Nat) (A : Nat → Prop) (hD : va_D A (wSS q cI σ)) (hB : ∀ k i, σ k i < 1073741824) (hco : σ 1 0 < 60) (h60 : ∀ i, σ 6 i < 60) (ht : t < 1073741824) (hbx : 0 < b0 ∧ b0 < 1073741824) (hth : th < 1073741824) (h40 : σ 4 (σ 1 0) = 0) : Met l yX2_letCome (codeW yX2_letCome cX2_letCome 5 (some .int)) ({ frames := 4, cells := 0, slots := 0, locals := 90 } : Room) (WrP D cI cZ sa (wSS q cI σ) [.ref (q 1), .int (nI (t)), .int (nI (b0)), .int (nI (th))]) (WrQ (some (.int (nI (σ 1 0)))) D (wSS q cI (lc σ t b0 th)) A) 0 0 A := by
  refine Met.ofW (cc := cX2_letCome) (maxL := 5) (ret := (some .int)) (by decide) rfl ?_
  intro p e s m args below meth c s₁ B hml hv
  obtain ⟨rfl, hH, hKK⟩ := hv
  have hx := B.exec
  have hb := B.bytes
  have hr := B.returns
  have htA : ∀ w ∈ WA, w.before _ s = true := fun w h => atoms_spec (ws := (codeW yX2_letCome cX2_letCome 5 (some .int))) B.pre w (List.mem_cons_of_mem _ h)
  have hown : s.vm.findClass RX2 = some m.cls := findClass_of_methodNamed B.named
  have hlocks := B.notSynchronized
  have hP := hH
  have hS : va_S A s.heap s.heap [] := va_S.rf
  have hl := lv_entry ([.ref (q 1), .int (nI (t)), .int (nI (b0)), .int (nI (th))]) (n := 5) (Nat.le_of_ble_eq_true rfl)
  rw [lg_entry_eq]
  generalize (lg_sl ([.ref (q 1), .int (nI (t)), .int (nI (b0)), .int (nI (th))]) ++ List.replicate (5 - (lg_sl ([.ref (q 1), .int (nI (t)), .int (nI (b0)), .int (nI (th))])).length) Slot.unset).toArray = ls at hl ⊢
  have hl : lv_has ls 5 [(0, .ref (q 1)), (1, .int (nI (t))), (2, .int (nI (b0))), (3, .int (nI (th)))] := hl
  refine lv_aload_n hx hb dX2_letCome_0 rfl (lv_at hl 0 rfl) ?_
  refine va_get (D := D) (ci := 2) (v := .int (nI (σ 1 0))) (C := RX2) (T := TX2) (N := 7) hx hb htA uwX2 hown hKK.1 hP 0 rfl rfl 6 (by decide) (htA _ wd_61) (fun _ h9 => h9) rfl dX2_letCome_1 ?_
  refine lv_istore (lv' := [(4, .int (nI (σ 1 0))), (0, .ref (q 1)), (1, .int (nI (t))), (2, .int (nI (b0))), (3, .int (nI (th)))]) hx hb dX2_letCome_4 hl (by decide) rfl (fun ls hl => ?_)
  refine lv_iload hx hb dX2_letCome_6 (lv_at hl 0 rfl) ?_
  refine n_iflt (tgt := 60) hx hb dX2_letCome_8 (by decide) (Nat.lt_trans (hB 1 0) (by decide)) ?_
  refine lv_iload hx hb dX2_letCome_11 (lv_at hl 0 rfl) ?_
  refine lv_bipush (v := nI 60) hx hb dX2_letCome_13 (by decide) ?_
  refine n_icmp_ge (x := σ 1 0) (y := 60) (tgt := 60) hx hb dX2_letCome_15 (by decide) (Nat.lt_trans (hB 1 0) (by decide)) (by decide) (fun c_2 => ?_) (fun c_2 => ?_)
  · exfalso; omega
  refine lv_aload_n hx hb dX2_letCome_18 rfl (lv_at hl 1 rfl) ?_
  refine va_get (D := D) (ci := 2) (v := .ref (q 2)) (C := RX2) (T := TX2) (N := 7) hx hb htA uwX2 hown hKK.1 hP 0 rfl rfl 0 (by decide) (htA _ wd_52) (fun _ h9 => h9) rfl dX2_letCome_19 ?_
  refine lv_iload hx hb dX2_letCome_22 (lv_at hl 0 rfl) ?_
  refine lv_iload_n hx hb dX2_letCome_24 rfl (lv_at hl 2 rfl) ?_
  refine n_iast (g := σ 2) (cA := cI) (n := 60) (j := σ 1 0) (v := t) hx hb hKK.1 hP (D_addr hD rfl) hS 1 0 rfl rfl hco (Nat.le_of_ble_eq_true rfl) dX2_letCome_25 (fun H locs hP hS => ?_)
  have hP : va_P D vwCl (wSS q cI (su σ 2 (upN (σ 2) (σ 1 0) (t)))) H := hP
  refine lv_aload_n hx hb dX2_letCome_26 rfl (lv_at hl 1 rfl) ?_
  refine va_get (D := D) (ci := 2) (v := .ref (q 3)) (C := RX2) (T := TX2) (N := 7) hx hb htA uwX2 hown hKK.1 hP 0 rfl rfl 1 (by decide) (htA _ wd_53) (fun _ h9 => h9) rfl dX2_letCome_27 ?_
  refine lv_iload hx hb dX2_letCome_30 (lv_at hl 0 rfl) ?_
  refine lv_iload_n hx hb dX2_letCome_32 rfl (lv_at hl 4 rfl) ?_
  refine n_iast (g := σ 3) (cA := cI) (n := 60) (j := σ 1 0) (v := th) hx hb hKK.1 hP (D_addr hD rfl) hS 2 0 rfl rfl hco (Nat.le_of_ble_eq_true rfl) dX2_letCome_33 (fun H locs hP hS => ?_)
  have hP : va_P D vwCl (wSS q cI (su (su σ 2 (upN (σ 2) (σ 1 0) (t))) 3 (upN (σ 3) (σ 1 0) (th)))) H := hP
  refine lv_aload_n hx hb dX2_letCome_34 rfl (lv_at hl 1 rfl) ?_
  refine lv_iload hx hb dX2_letCome_35 (lv_at hl 0 rfl) ?_
  refine lv_iload_n hx hb dX2_letCome_37 rfl (lv_at hl 2 rfl) ?_
  have hB1 : ∀ k i, (su (su σ 2 (upN (σ 2) (σ 1 0) (t))) 3 (upN (σ 3) (σ 1 0) (th))) k i < 1073741824 := su_lt (su_lt hB (up_lt (hB 2) ht)) (up_lt (hB 3) hth)
  refine wrV0 (As := [.int (nI (σ 1 0)), .int (nI (t))]) (rest := []) (n := 2) ⟨hx, hb, hml, hown, htA⟩ (c_putInOrder l D cI cZ sa q (su (su σ 2 (upN (σ 2) (σ 1 0) (t))) 3 (upN (σ 3) (σ 1 0) (th))) (σ 1 0) t A (D_addr hD rfl) hB1 hco h60 (by omega)) (cwV 2 htA (gdV wd_236 wd_238 wp_1 wd_2 wd_239) rfl rfl rfl (by decide +kernel) ⟨Nat.le_of_ble_eq_true rfl, Nat.le_of_ble_eq_true rfl⟩) hKK hP 0 rfl rfl rfl hl.1 rfl (Nat.le_of_ble_eq_true rfl) dX2_letCome_38 (Nat.zero_le _) (Nat.zero_le _) hS (fun _ h => h) (fun H1 locs hP1 hz1 hk1 hS => ?_)
  have hP : va_P D vwCl (wSS q cI (su (su (su σ 2 (upN (σ 2) (σ 1 0) (t))) 3 (upN (σ 3) (σ 1 0) (th))) 6 (pio ((su (su σ 2 (upN (σ 2) (σ 1 0) (t))) 3 (upN (σ 3) (σ 1 0) (th))) 2) t (σ 1 0) (min ((su (su σ 2 (upN (σ 2) (σ 1 0) (t))) 3 (upN (σ 3) (σ 1 0) (th))) 1 0) 59) ((su (su σ 2 (upN (σ 2) (σ 1 0) (t))) 3 (upN (σ 3) (σ 1 0) (th))) 6)))) H1 := hP1
  generalize H1 = H at hP hS ⊢
  refine lv_aload_n hx hb dX2_letCome_41 rfl (lv_at hl 1 rfl) ?_
  refine lv_dup hx hb dX2_letCome_42 rfl ?_
  refine va_get (D := D) (ci := 2) (v := .int (nI (σ 1 0))) (C := RX2) (T := TX2) (N := 7) hx hb htA uwX2 hown hKK.1 hP 0 rfl rfl 6 (by decide) (htA _ wd_61) (fun _ h9 => h9) rfl dX2_letCome_43 ?_
  refine n_iconst (k := 1) hx hb dX2_letCome_46 (by decide) ?_
  refine n_iadd hx hb dX2_letCome_47 ?_
  refine va_put (D := D) (ci := 2) (v := .int (nI ((σ 1 0) + 1))) (ty := .int) (C := RX2) (T := TX2) (N := 7) hx hb htA uwX2 tyX2 tyX2_ok nmX2 hown hKK.1 hP (D_addr hD rfl) hS 0 rfl rfl 6 (by decide) (htA _ wd_61) (fun _ h9 => h9) rfl (by decide +kernel) rfl rfl (Nat.le_of_ble_eq_true rfl) dX2_letCome_48 (fun H locs hP _ hS => ?_)
  have hP : va_P D vwCl (wSS q cI (sv (su (su (su σ 2 (upN (σ 2) (σ 1 0) (t))) 3 (upN (σ 3) (σ 1 0) (th))) 6 (pio ((su (su σ 2 (upN (σ 2) (σ 1 0) (t))) 3 (upN (σ 3) (σ 1 0) (th))) 2) t (σ 1 0) (min ((su (su σ 2 (upN (σ 2) (σ 1 0) (t))) 3 (upN (σ 3) (σ 1 0) (th))) 1 0) 59) ((su (su σ 2 (upN (σ 2) (σ 1 0) (t))) 3 (upN (σ 3) (σ 1 0) (th))) 6))) 1 0 ((σ 1 0) + 1))) H := hP
  refine lv_aload_n hx hb dX2_letCome_51 rfl (lv_at hl 1 rfl) ?_
  refine lv_iload hx hb dX2_letCome_52 (lv_at hl 0 rfl) ?_
  refine lv_iload_n hx hb dX2_letCome_54 rfl (lv_at hl 3 rfl) ?_
  refine n_iconst (k := 0) hx hb dX2_letCome_55 (by decide) ?_
  have hB3 : ∀ k i, (sv (su (su (su σ 2 (upN (σ 2) (σ 1 0) (t))) 3 (upN (σ 3) (σ 1 0) (th))) 6 (pio ((su (su σ 2 (upN (σ 2) (σ 1 0) (t))) 3 (upN (σ 3) (σ 1 0) (th))) 2) t (σ 1 0) (min ((su (su σ 2 (upN (σ 2) (σ 1 0) (t))) 3 (upN (σ 3) (σ 1 0) (th))) 1 0) 59) ((su (su σ 2 (upN (σ 2) (σ 1 0) (t))) 3 (upN (σ 3) (σ 1 0) (th))) 6))) 1 0 ((σ 1 0) + 1)) k i < 1073741824 := sv_lt (su_lt hB1 (fun i => Nat.lt_trans (pio_lt h60 hco _ i) (by decide))) (by omega)
  refine wrV1 (v := .int (b2i (true))) (As := [.int (nI (σ 1 0)), .int (nI (b0)), .int (nI (0))]) (rest := []) (n := 3) ⟨hx, hb, hml, hown, htA⟩ (c_change_d l D cI cZ sa q (sv (su (su (su σ 2 (upN (σ 2) (σ 1 0) (t))) 3 (upN (σ 3) (σ 1 0) (th))) 6 (pio ((su (su σ 2 (upN (σ 2) (σ 1 0) (t))) 3 (upN (σ 3) (σ 1 0) (th))) 2) t (σ 1 0) (min ((su (su σ 2 (upN (σ 2) (σ 1 0) (t))) 3 (upN (σ 3) (σ 1 0) (th))) 1 0) 59) ((su (su σ 2 (upN (σ 2) (σ 1 0) (t))) 3 (upN (σ 3) (σ 1 0) (th))) 6))) 1 0 ((σ 1 0) + 1)) (σ 1 0) b0 0 A (D_addr hD rfl) hco hB3 (fun h => absurd (h.1.symm.trans (h40)) (by omega)) (by omega) (by decide)) (cwV 3 htA (gdV wd_248 wd_249 wd_250 wd_2 wd_251) rfl rfl rfl (by decide +kernel) ⟨Nat.le_of_ble_eq_true rfl, Nat.le_of_ble_eq_true rfl⟩) hKK hP 0 rfl rfl rfl hl.1 rfl (Nat.le_of_ble_eq_true rfl) dX2_letCome_56 (Nat.zero_le _) (Nat.zero_le _) hS (fun _ h => h) (fun H1 locs hP1 hz1 hk1 hS => ?_)
  have hP : va_P D vwCl (wSS q cI (chg (sv (su (su (su σ 2 (upN (σ 2) (σ 1 0) (t))) 3 (upN (σ 3) (σ 1 0) (th))) 6 (pio ((su (su σ 2 (upN (σ 2) (σ 1 0) (t))) 3 (upN (σ 3) (σ 1 0) (th))) 2) t (σ 1 0) (min ((su (su σ 2 (upN (σ 2) (σ 1 0) (t))) 3 (upN (σ 3) (σ 1 0) (th))) 1 0) 59) ((su (su σ 2 (upN (σ 2) (σ 1 0) (t))) 3 (upN (σ 3) (σ 1 0) (th))) 6))) 1 0 ((σ 1 0) + 1)) (σ 1 0) b0 0)) H1 := hP1
  generalize H1 = H at hP hS ⊢
  refine lv_pop hx hb dX2_letCome_59 rfl ?_
  refine lv_iload hx hb dX2_letCome_60 (lv_at hl 0 rfl) ?_
  exact wr_i hx hb hr hlocks (rfl) hP hS dX2_letCome_62
