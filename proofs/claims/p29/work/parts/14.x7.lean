theorem c_bitCount_ms (l : Launch) (D : va_G) (cI cZ : ClassId) (sa : Nat → Nat) (p9 : Nat → Bool) (H : Heap) : Met l yJ13_bitCount_95d88 (codeW yJ13_bitCount_95d88 cJ13_bitCount_95d88 2 (some .int)) ({ frames := 0, cells := 0, slots := 0, locals := 0 } : Room) (RoP D cI cZ sa H [.long (ms p9 60)]) (RoQ (some (.int (nI (cnt p9 60)))) H) 0 0 RoF := Met_ro (c_bitCount l D cI cZ sa (ms p9 60) H) (by rw [bitc_ms])
set_option maxHeartbeats 4000000 in
set_option maxRecDepth 100000 in
theorem c_load (l : Launch) (D : va_G) (cI cZ : ClassId) (sa : Nat → Nat) (q k : Nat → Nat) (σ κ : ST) (A : Nat → Prop) (hD : va_D A (wCS q k cI cZ σ κ)) (hB : ∀ k i, σ k i < 1073741824) (hC : CI κ) (hco : σ 1 0 ≤ 60) (hb6 : κ 0 0 < 6) (hwd : κ 0 1 ≤ 10) (hlat : ∀ i, i < wsz σ κ → 0 < lat σ (ms (bxs σ (κ 0 0)) 60) (nI i) (σ 1 0) 0 0 ∧ wml σ (κ 0 0) i < 60) : Met l yX1_load (codeW yX1_load cX1_load 6 none) ({ frames := 2, cells := 0, slots := 0, locals := 48 } : Room) (WrP D cI cZ sa (wCS q k cI cZ σ κ) [.ref (k 0), .ref (q 1)]) (WrQ none D (wCS q k cI cZ σ (ldk σ κ (wsz σ κ))) A) 0 0 A := by
  refine Met.ofW (cc := cX1_load) (maxL := 6) (ret := none) (by decide) rfl ?_
  intro p e s m args below meth c s₁ B hml hv
  obtain ⟨rfl, hH, hKK⟩ := hv
  have hx := B.exec
  have hb := B.bytes
  have hr := B.returns
  have htA : ∀ w ∈ WA, w.before _ s = true := fun w h => atoms_spec (ws := (codeW yX1_load cX1_load 6 none)) B.pre w (List.mem_cons_of_mem _ h)
  have hown : s.vm.findClass RX1 = some m.cls := findClass_of_methodNamed B.named
  have hlocks := B.notSynchronized
  have hP := hH
  have hS : va_S A s.heap s.heap [] := va_S.rf
  have hl := lv_entry ([.ref (k 0), .ref (q 1)]) (n := 6) (Nat.le_of_ble_eq_true rfl)
  rw [lg_entry_eq]
  generalize (lg_sl ([.ref (k 0), .ref (q 1)]) ++ List.replicate (6 - (lg_sl ([.ref (k 0), .ref (q 1)])).length) Slot.unset).toArray = ls at hl ⊢
  have hl : lv_has ls 6 [(0, .ref (k 0)), (1, .ref (q 1))] := hl
  refine lv_aload_n hx hb dX1_load_0 rfl (lv_at hl 0 rfl) ?_
  refine lv_aload_n hx hb dX1_load_1 rfl (lv_at hl 1 rfl) ?_
  refine va_getN (D := D) (ci := 2) (v := .ref (q 7)) (C := RX2) (T := TX2) (N := 7) hx hb htA uwX2 hown hKK.1 hP 6 rfl rfl 5 (by decide) (va_Nw.use rfl (ex_RX1_59 hKK.2)) (fun _ h9 => h9) rfl dX1_load_2 ?_
  refine va_getN (D := D) (ci := 0) (v := .int (nI (σ 7 0))) (C := RX0) (T := TX0) (N := 5) hx hb htA uwX0 hown hKK.1 hP 12 rfl rfl 4 (by decide) (va_Nw.use rfl (ex_RX1_79 hKK.2)) (fun _ h9 => h9) rfl dX1_load_5 ?_
  refine va_put (D := D) (ci := 1) (v := .int (nI (σ 7 0))) (ty := .int) (C := RX1) (T := TX1) (N := 11) hx hb htA uwX1 tyX1 tyX1_ok nmX1 hown hKK.1 hP (D_addr hD rfl) hS 0 rfl rfl 2 (by decide) (htA _ wd_87) (fun _ h9 => h9) rfl (by decide +kernel) rfl rfl (Nat.le_of_ble_eq_true rfl) dX1_load_8 (fun H locs hP _ hS => ?_)
  have hP : va_P D vwCl (wCS q k cI cZ σ (sv κ 0 2 (σ 7 0))) H := hP
  refine lv_aload_n hx hb dX1_load_11 rfl (lv_at hl 1 rfl) ?_
  refine n_iconst (k := 1) hx hb dX1_load_12 (by decide) ?_
  refine lv_aload_n hx hb dX1_load_13 rfl (lv_at hl 0 rfl) ?_
  refine va_get (D := D) (ci := 1) (v := .int (nI (κ 0 0))) (C := RX1) (T := TX1) (N := 11) hx hb htA uwX1 hown hKK.1 hP 0 rfl rfl 0 (by decide) (htA _ wd_83) (fun _ h9 => h9) rfl dX1_load_14 ?_
  refine n_ishl1 hx hb (y := κ 0 0) (by omega) dX1_load_17 ?_
  refine n_iconst (k := 0) hx hb dX1_load_18 (by decide) ?_
  refine roV1 (v := .long (ms (bxs σ (κ 0 0)) 60)) (As := [.int (nI (2 ^ (κ 0 0))), .int (nI (0))]) (rest := []) (n := 2) ⟨hx, hb, hml, hown, htA⟩ (c_matching l D cI cZ sa q σ (2 ^ (κ 0 0)) 0 H (CS_SS hP)) (cwV 2 htA (gdV wd_440 wd_335 wd_336 wd_2 wd_337) rfl rfl rfl (by decide +kernel) ⟨Nat.le_of_ble_eq_true rfl, Nat.le_of_ble_eq_true rfl⟩) hKK hP 6 rfl rfl rfl hl.1 rfl (Nat.le_of_ble_eq_true rfl) dX1_load_19 (Nat.zero_le _) (Nat.zero_le _) ?_
  refine lv_lstore_n (lv' := [(2, .long (ms (bxs σ (κ 0 0)) 60)), (0, .ref (k 0)), (1, .ref (q 1))]) hx hb dX1_load_22 rfl hl (by decide) rfl (fun ls hl => ?_)
  refine lv_aload_n hx hb dX1_load_23 rfl (lv_at hl 1 rfl) ?_
  refine lv_aload_n hx hb dX1_load_24 rfl (lv_at hl 1 rfl) ?_
  refine va_get (D := D) (ci := 1) (v := .int (nI (κ 0 1))) (C := RX1) (T := TX1) (N := 11) hx hb htA uwX1 hown hKK.1 hP 0 rfl rfl 1 (by decide) (htA _ wd_85) (fun _ h9 => h9) rfl dX1_load_25 ?_
  refine lv_lload_n hx hb dX1_load_28 rfl (lv_at hl 0 rfl) ?_
  refine roS1 (v := .int (nI (cnt (bxs σ (κ 0 0)) 60))) (As := [.long (ms (bxs σ (κ 0 0)) 60)]) (rest := [.int (nI (κ 0 1)), .ref (k 0)]) (n := 1) ⟨hx, hb, hml, hown, htA⟩ (c_bitCount_ms l D cI cZ sa (bxs σ (κ 0 0)) H) (va_cwS 1 htA (gdS wd_441 wd_342 wd_12 wd_343) rfl rfl rfl (by decide +kernel) ⟨Nat.le_of_ble_eq_true rfl, Nat.le_of_ble_eq_true rfl⟩) hKK rfl hl.1 rfl (Nat.le_of_ble_eq_true rfl) dX1_load_29 (Nat.zero_le _) (Nat.zero_le _) ?_
  refine n_mmin (x := κ 0 1) (y := cnt (bxs σ (κ 0 0)) 60) hx hb (hml.trans hl.1.symm) hown (htA _ wd_442) (htA _ wd_241) (htA _ wd_10) (htA _ wd_242) (Nat.le_of_ble_eq_true rfl) (Nat.le_of_ble_eq_true rfl) (Nat.zero_le _) (Nat.zero_le _) (by omega) (Nat.lt_of_le_of_lt (cnt_le _ _) (by decide)) dX1_load_32 ?_
  refine va_put (D := D) (ci := 1) (v := .int (nI (min (κ 0 1) (cnt (bxs σ (κ 0 0)) 60)))) (ty := .int) (C := RX1) (T := TX1) (N := 11) hx hb htA uwX1 tyX1 tyX1_ok nmX1 hown hKK.1 hP (D_addr hD rfl) hS 0 rfl rfl 6 (by decide) (htA _ wd_94) (fun _ h9 => h9) rfl (by decide +kernel) rfl rfl (Nat.le_of_ble_eq_true rfl) dX1_load_35 (fun H locs hP _ hS => ?_)
  have hP : va_P D vwCl (wCS q k cI cZ σ (sv (sv κ 0 2 (σ 7 0)) 0 4 (min (κ 0 1) (cnt (bxs σ (κ 0 0)) 60)))) H := hP
  refine n_iconst (k := 0) hx hb dX1_load_38 (by decide) ?_
  refine lv_istore (lv' := [(4, .int (nI (0))), (2, .long (ms (bxs σ (κ 0 0)) 60)), (0, .ref (k 0)), (1, .ref (q 1))]) hx hb dX1_load_39 hl (by decide) rfl (fun ls hl => ?_)
  have loop_41 : ∀ (n : Nat) (i : Nat) (H : Heap) (locs : List Loc), (i + n = wsz σ κ) → va_P D vwCl (wCS q k cI cZ σ (ldk σ κ i)) H → va_S A s.heap H locs → ∀ (ls : Array Slot), lv_has ls 6 [(0, .ref (k 0)), (1, .ref (q 1)), (2, .long (ms (bxs σ (κ 0 0)) 60)), (4, .int (nI (i)))] → W p l e (headSpec (codeW yX1_load cX1_load 6 none) ({ frames := 2, cells := 0, slots := 0, locals := 48 } : Room)).room s m ([.ref (k 0), .ref (q 1)] : List Value).toArray below meth c H locs 0 0 (MQ below (WrQ none D (wCS q k cI cZ σ (ldk σ κ (wsz σ κ))) A) ([.ref (k 0), .ref (q 1)] : List Value).toArray s 0 0 A) (F0 m 41 ls []) := by
    intro n
    induction n with
    | zero =>
      intro i H locs hin hP hS ls hl
      have h4 := ldk_ws σ κ i
      have hW : wsz σ κ ≤ 10 := by unfold wsz; omega
      refine lv_iload hx hb dX1_load_41 (lv_at hl 3 rfl) ?_
      refine lv_aload_n hx hb dX1_load_43 rfl (lv_at hl 0 rfl) ?_
      refine va_get (D := D) (ci := 1) (v := .int (nI ((ldk σ κ i) 0 4))) (C := RX1) (T := TX1) (N := 11) hx hb htA uwX1 hown hKK.1 hP 0 rfl rfl 6 (by decide) (htA _ wd_94) (fun _ h9 => h9) rfl dX1_load_44 ?_
      refine n_icmp_ge (x := i) (y := (ldk σ κ i) 0 4) (tgt := 94) hx hb dX1_load_47 (by decide) (by omega) (by omega) (fun c_1 => ?_) (fun c_1 => ?_)
      rotate_left
      · exfalso; omega
      have hi : i = wsz σ κ := by omega
      subst hi
      exact wr_v hx hb hr hlocks hP hS dX1_load_94
    | succ n ih =>
      intro i H locs hin hP hS ls hl
      have h4 := ldk_ws σ κ i
      have hW : wsz σ κ ≤ 10 := by unfold wsz; omega
      refine lv_iload hx hb dX1_load_41 (lv_at hl 3 rfl) ?_
      refine lv_aload_n hx hb dX1_load_43 rfl (lv_at hl 0 rfl) ?_
      refine va_get (D := D) (ci := 1) (v := .int (nI ((ldk σ κ i) 0 4))) (C := RX1) (T := TX1) (N := 11) hx hb htA uwX1 hown hKK.1 hP 0 rfl rfl 6 (by decide) (htA _ wd_94) (fun _ h9 => h9) rfl dX1_load_44 ?_
      refine n_icmp_ge (x := i) (y := (ldk σ κ i) 0 4) (tgt := 94) hx hb dX1_load_47 (by decide) (by omega) (by omega) (fun c_2 => ?_) (fun c_2 => ?_)
      · exfalso; omega
      refine lv_iload hx hb dX1_load_50 (lv_at hl 3 rfl) ?_
      refine lv_bipush (v := nI 10) hx hb dX1_load_52 (by decide) ?_
      refine n_icmp_ge (x := i) (y := 10) (tgt := 94) hx hb dX1_load_54 (by decide) (by omega) (by decide) (fun c_3 => ?_) (fun c_3 => ?_)
      · exfalso; omega
      refine lv_aload_n hx hb dX1_load_57 rfl (lv_at hl 1 rfl) ?_
      refine lv_lload_n hx hb dX1_load_58 rfl (lv_at hl 2 rfl) ?_
      refine lv_iload hx hb dX1_load_59 (lv_at hl 3 rfl) ?_
      refine roV1 (v := .int (oi (lat σ (ms (bxs σ (κ 0 0)) 60) (nI (i)) (σ 1 0) 0 0))) (As := [.long (ms (bxs σ (κ 0 0)) 60), .int (nI (i))]) (rest := []) (n := 2) ⟨hx, hb, hml, hown, htA⟩ (c_latestAt l D cI cZ sa q σ (ms (bxs σ (κ 0 0)) 60) (nI (i)) H (CS_SS hP) hB hco) (cwV 2 htA (gdV wd_443 wd_444 wd_445 wd_2 wd_446) rfl rfl rfl (by decide +kernel) ⟨Nat.le_of_ble_eq_true rfl, Nat.le_of_ble_eq_true rfl⟩) hKK hP 6 rfl rfl rfl hl.1 rfl (Nat.le_of_ble_eq_true rfl) dX1_load_61 (Nat.zero_le _) (Nat.zero_le _) ?_
      rw [oi_wml (hlat i (by omega)).1]
      refine lv_istore (lv' := [(5, .int (nI (wml σ (κ 0 0) i))), (0, .ref (k 0)), (1, .ref (q 1)), (2, .long (ms (bxs σ (κ 0 0)) 60)), (4, .int (nI (i)))]) hx hb dX1_load_64 hl (by decide) rfl (fun ls hl => ?_)
      refine lv_aload_n hx hb dX1_load_66 rfl (lv_at hl 1 rfl) ?_
      refine va_get (D := D) (ci := 1) (v := .ref (k 1)) (C := RX1) (T := TX1) (N := 11) hx hb htA uwX1 hown hKK.1 hP 0 rfl rfl 4 (by decide) (htA _ wd_90) (fun _ h9 => h9) rfl dX1_load_67 ?_
      refine lv_iload hx hb dX1_load_70 (lv_at hl 4 rfl) ?_
      refine lv_iload hx hb dX1_load_72 (lv_at hl 0 rfl) ?_
      refine n_iast (g := (ldk σ κ i) 1) (cA := cI) (n := 10) (j := i) (v := wml σ (κ 0 0) i) hx hb hKK.1 hP (D_addr hD rfl) hS 1 0 rfl rfl (by omega) (Nat.le_of_ble_eq_true rfl) dX1_load_74 (fun H locs hP hS => ?_)
      have hP : va_P D vwCl (wCS q k cI cZ σ (su (ldk σ κ i) 1 (upN ((ldk σ κ i) 1) (i) (wml σ (κ 0 0) i)))) H := hP
      refine lv_aload_n hx hb dX1_load_75 rfl (lv_at hl 1 rfl) ?_
      refine va_get (D := D) (ci := 1) (v := .ref (k 2)) (C := RX1) (T := TX1) (N := 11) hx hb htA uwX1 hown hKK.1 hP 0 rfl rfl 5 (by decide) (htA _ wd_92) (fun _ h9 => h9) rfl dX1_load_76 ?_
      refine lv_iload hx hb dX1_load_79 (lv_at hl 4 rfl) ?_
      refine lv_aload_n hx hb dX1_load_81 rfl (lv_at hl 2 rfl) ?_
      refine lv_iload hx hb dX1_load_82 (lv_at hl 0 rfl) ?_
      refine roV1 (v := .int (nI (σ 5 (wml σ (κ 0 0) i)))) (As := [.int (nI (wml σ (κ 0 0) i))]) (rest := [.int (nI (i)), .ref (k 2)]) (n := 1) ⟨hx, hb, hml, hown, htA⟩ (c_keywordsOf_t l D cI cZ sa q σ (wml σ (κ 0 0) i) H (CS_SS hP) (hlat i (by omega)).2) (cwV 1 htA (gdV wd_448 wd_296 wd_297 wd_2 wd_298) rfl rfl rfl (by decide +kernel) ⟨Nat.le_of_ble_eq_true rfl, Nat.le_of_ble_eq_true rfl⟩) hKK hP 6 rfl rfl rfl hl.1 rfl (Nat.le_of_ble_eq_true rfl) dX1_load_84 (Nat.zero_le _) (Nat.zero_le _) ?_
      refine n_iast (g := (ldk σ κ i) 2) (cA := cI) (n := 10) (j := i) (v := σ 5 (wml σ (κ 0 0) i)) hx hb hKK.1 hP (D_addr hD rfl) hS 2 0 rfl rfl (by omega) (Nat.le_of_ble_eq_true rfl) dX1_load_87 (fun H locs hP hS => ?_)
      have hP : va_P D vwCl (wCS q k cI cZ σ (su (su (ldk σ κ i) 1 (upN ((ldk σ κ i) 1) (i) (wml σ (κ 0 0) i))) 2 (upN ((ldk σ κ i) 2) (i) (σ 5 (wml σ (κ 0 0) i))))) H := hP
      refine lv_iinc (v := nI (i + 1)) (lv' := [(4, .int (nI (i + 1))), (5, .int (nI (wml σ (κ 0 0) i))), (0, .ref (k 0)), (1, .ref (q 1)), (2, .long (ms (bxs σ (κ 0 0)) 60))]) hx hb dX1_load_88 hl (k := 4) rfl (n_inc (i) 1 rfl) (by decide) rfl (fun ls hl => ?_)
      refine lv_goto (tgt := 41) hx hb dX1_load_91 (by decide) ?_
      have hP : va_P D vwCl (wCS q k cI cZ σ (ldk σ κ (i + 1))) H := hP
      exact ih (i + 1) _ _ (by omega) hP hS ls (lv_sub hl [2, 3, 4, 0] rfl)
  have hP : va_P D vwCl (wCS q k cI cZ σ (ldk σ κ 0)) H := hP
  exact loop_41 (wsz σ κ) 0 _ _ (by omega) hP hS ls (lv_sub hl [2, 3, 1, 0] rfl)
