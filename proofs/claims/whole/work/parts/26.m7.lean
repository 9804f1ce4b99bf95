set_option maxHeartbeats 4000000 in
set_option maxRecDepth 100000 in
theorem m_takes0 (l : Launch) (D : va_G) (cI cZ : ClassId) (sa : Nat → Nat) (q : Nat → Nat) (μ : ST)  (A : Nat → Prop) (hD : va_D A (wM q cI cZ μ)) (hB : ∀ k i, μ k i < 1073741824) (hm0 : μ 0 0 ≤ 60) (h14 : μ 14 0 ≤ 10) : Met l yX4_takes (codeW yX4_takes cX4_takes 4 none) ({ frames := 3, cells := 0, slots := 0, locals := 71 } : Room) (WrP D cI cZ sa (wM q cI cZ μ) [.ref (q 0), .int (nI (0))]) (WrQ none D (wM q cI cZ (tke μ 0)) A) 0 0 A := by
  refine Met.ofW (cc := cX4_takes) (maxL := 4) (ret := none) (by decide) rfl ?_
  intro p e s m args below meth c s₁ B hml hv
  obtain ⟨rfl, hH, hKK⟩ := hv
  have hx := B.exec
  have hb := B.bytes
  have hr := B.returns
  have htA : ∀ w ∈ WA, w.before _ s = true := fun w h => atoms_spec (ws := (codeW yX4_takes cX4_takes 4 none)) B.pre w (List.mem_cons_of_mem _ h)
  have hown : s.vm.findClass RX4 = some m.cls := findClass_of_methodNamed B.named
  have hlocks := B.notSynchronized
  have hP := hH
  have hS : va_S A s.heap s.heap [] := va_S.rf
  have hl := lv_entry ([.ref (q 0), .int (nI (0))]) (n := 4) (Nat.le_of_ble_eq_true rfl)
  rw [lg_entry_eq]
  generalize (lg_sl ([.ref (q 0), .int (nI (0))]) ++ List.replicate (4 - (lg_sl ([.ref (q 0), .int (nI (0))])).length) Slot.unset).toArray = ls at hl ⊢
  have hl : lv_has ls 4 [(0, .ref (q 0)), (1, .int (nI (0)))] := hl
  have hts : tsz μ 0 ≤ 10 := Nat.le_trans (Nat.min_le_left _ _) h14
  refine lv_aload_n hx hb dX4_takes_0 rfl (lv_at hl 0 rfl) ?_
  refine lv_aload_n hx hb dX4_takes_1 rfl (lv_at hl 0 rfl) ?_
  refine va_get (D := D) (ci := 4) (v := .ref (q 13)) (C := RX4) (T := TX4) (N := 26) hx hb htA uwX4 hown hKK.1 hP 0 rfl rfl 14 (by decide) (htA _ wd_659) (fun _ h9 => h9) rfl dX4_takes_2 ?_
  refine lv_iload_n hx hb dX4_takes_5 rfl (lv_at hl 1 rfl) ?_
  refine n_iald (g := μ 13) (cA := cI) (n := 2) (j := 0) hx hb hKK.1 hP 13 0 rfl rfl (by decide) (Nat.le_of_ble_eq_true rfl) dX4_takes_6 ?_
  refine lv_iconst (v := oi 0) hx hb dX4_takes_7 (by decide) ?_
  refine roV1 (v := .int (nI (cnt (fun m9 => ifd μ (μ 13 0) 0 m9) (μ 0 0)))) (As := [.int (nI (μ 13 0)), .int (oi (0))]) (rest := []) (n := 2) ⟨hx, hb, hml, hown, htA⟩ (m_count l D cI cZ sa q μ (μ 13 0) 0 s.heap hP hB hm0 (by decide)) (cwV 2 htA (gdV wd_790 wd_792 wp_13 wd_5 wd_793) rfl rfl rfl (by decide +kernel) ⟨Nat.le_of_ble_eq_true rfl, Nat.le_of_ble_eq_true rfl⟩) hKK hP 0 rfl rfl rfl hl.1 rfl (Nat.le_of_ble_eq_true rfl) dX4_takes_8 (Nat.zero_le _) (Nat.zero_le _) ?_
  refine lv_istore_n (lv' := [(2, .int (nI (cnt (fun m9 => ifd μ (μ 13 0) 0 m9) (μ 0 0)))), (0, .ref (q 0)), (1, .int (nI (0)))]) hx hb dX4_takes_11 rfl hl (by decide) rfl (fun ls hl => ?_)
  refine lv_aload_n hx hb dX4_takes_12 rfl (lv_at hl 1 rfl) ?_
  refine va_get (D := D) (ci := 4) (v := .ref (q 16)) (C := RX4) (T := TX4) (N := 26) hx hb htA uwX4 hown hKK.1 hP 0 rfl rfl 17 (by decide) (htA _ wd_662) (fun _ h9 => h9) rfl dX4_takes_13 ?_
  refine lv_iload_n hx hb dX4_takes_16 rfl (lv_at hl 2 rfl) ?_
  refine lv_iload_n hx hb dX4_takes_17 rfl (lv_at hl 0 rfl) ?_
  refine lv_aload_n hx hb dX4_takes_18 rfl (lv_at hl 1 rfl) ?_
  refine va_get (D := D) (ci := 4) (v := .ref (q 14)) (C := RX4) (T := TX4) (N := 26) hx hb htA uwX4 hown hKK.1 hP 0 rfl rfl 15 (by decide) (htA _ wd_660) (fun _ h9 => h9) rfl dX4_takes_19 ?_
  refine lv_iload_n hx hb dX4_takes_22 rfl (lv_at hl 2 rfl) ?_
  refine n_iald (g := μ 14) (cA := cI) (n := 2) (j := 0) hx hb hKK.1 hP 14 0 rfl rfl (by decide) (Nat.le_of_ble_eq_true rfl) dX4_takes_23 ?_
  refine n_icmp_ge (x := cnt (fun m9 => ifd μ (μ 13 0) 0 m9) (μ 0 0)) (y := μ 14 0) (tgt := 31) hx hb dX4_takes_24 (by decide) (Nat.lt_of_le_of_lt (cnt_le _ _) (by omega)) (Nat.lt_trans (hB 14 0) (by decide)) (fun c_1 => ?_) (fun c_1 => ?_)
  · refine lv_aload_n hx hb dX4_takes_31 rfl (lv_at hl 1 rfl) ?_
    refine va_get (D := D) (ci := 4) (v := .ref (q 14)) (C := RX4) (T := TX4) (N := 26) hx hb htA uwX4 hown hKK.1 hP 0 rfl rfl 15 (by decide) (htA _ wd_660) (fun _ h9 => h9) rfl dX4_takes_32 ?_
    refine lv_iload_n hx hb dX4_takes_35 rfl (lv_at hl 2 rfl) ?_
    refine n_iald (g := μ 14) (cA := cI) (n := 2) (j := 0) hx hb hKK.1 hP 14 0 rfl rfl (by decide) (Nat.le_of_ble_eq_true rfl) dX4_takes_36 ?_
    refine n_iast (g := μ 16) (cA := cI) (n := 2) (j := 0) (v := μ 14 0) hx hb hKK.1 hP (D_addr hD rfl) hS 16 0 rfl rfl (by decide) (Nat.le_of_ble_eq_true rfl) dX4_takes_37 (fun H locs hP hS => ?_)
    have hP : va_P D vwCl (wM q cI cZ (su μ 16 (upN (μ 16) (0) (μ 14 0)))) H := hP
    refine n_iconst (k := 0) hx hb dX4_takes_38 (by decide) ?_
    refine lv_istore_n (lv' := [(3, .int (nI (0))), (2, .int (nI (cnt (fun m9 => ifd μ (μ 13 0) 0 m9) (μ 0 0)))), (0, .ref (q 0)), (1, .int (nI (0)))]) hx hb dX4_takes_39 rfl hl (by decide) rfl (fun ls hl => ?_)
    have loop_40 : ∀ (n : Nat) (i : Nat) (H : Heap) (locs : List Loc), (i + n = tsz μ 0) → va_P D vwCl (wM q cI cZ (tk μ 0 i)) H → va_S A s.heap H locs → ∀ (ls : Array Slot), lv_has ls 4 [(0, .ref (q 0)), (1, .int (nI (0))), (3, .int (nI (i)))] → W p l e (headSpec (codeW yX4_takes cX4_takes 4 none) ({ frames := 3, cells := 0, slots := 0, locals := 71 } : Room)).room s m ([.ref (q 0), .int (nI (0))] : List Value).toArray below meth c H locs 0 0 (MQ below (WrQ none D (wM q cI cZ (tke μ 0)) A) ([.ref (q 0), .int (nI (0))] : List Value).toArray s 0 0 A) (F0 m 40 ls []) := by
      intro n
      induction n with
      | zero =>
        intro i H locs hin hP hS ls hl
        have hBw := tk_lt (cl := 0) hB hm0 i
        refine lv_iload_n hx hb dX4_takes_40 rfl (lv_at hl 2 rfl) ?_
        refine lv_aload_n hx hb dX4_takes_41 rfl (lv_at hl 0 rfl) ?_
        refine va_get (D := D) (ci := 4) (v := .ref (q 16)) (C := RX4) (T := TX4) (N := 26) hx hb htA uwX4 hown hKK.1 hP 0 rfl rfl 17 (by decide) (htA _ wd_662) (fun _ h9 => h9) rfl dX4_takes_42 ?_
        refine lv_iload_n hx hb dX4_takes_45 rfl (lv_at hl 1 rfl) ?_
        refine n_iald (g := upN (μ 16) 0 (tsz μ 0)) (cA := cI) (n := 2) (j := 0) hx hb hKK.1 hP 16 0 rfl rfl (by decide) (Nat.le_of_ble_eq_true rfl) dX4_takes_46 ?_
        refine n_icmp_ge (x := i) (y := tsz μ 0) (tgt := 106) hx hb dX4_takes_47 (by decide) (by omega) (by omega) (fun c_2 => ?_) (fun c_2 => ?_)
        rotate_left
        · exfalso; omega
        refine lv_aload_n hx hb dX4_takes_106 rfl (lv_at hl 0 rfl) ?_
        refine va_get (D := D) (ci := 4) (v := .ref (q 15)) (C := RX4) (T := TX4) (N := 26) hx hb htA uwX4 hown hKK.1 hP 0 rfl rfl 16 (by decide) (htA _ wd_661) (fun _ h9 => h9) rfl dX4_takes_107 ?_
        refine lv_iload_n hx hb dX4_takes_110 rfl (lv_at hl 1 rfl) ?_
        refine lv_aload_n hx hb dX4_takes_111 rfl (lv_at hl 0 rfl) ?_
        refine va_get (D := D) (ci := 4) (v := .int (nI (μ 0 1))) (C := RX4) (T := TX4) (N := 26) hx hb htA uwX4 hown hKK.1 hP 0 rfl rfl 13 (by decide) (htA _ wd_658) (fun _ h9 => h9) rfl dX4_takes_112 ?_
        refine n_iast (g := μ 15) (cA := cI) (n := 2) (j := 0) (v := μ 0 1) hx hb hKK.1 hP (D_addr hD rfl) hS 15 0 rfl rfl (by decide) (Nat.le_of_ble_eq_true rfl) dX4_takes_115 (fun H locs hP hS => ?_)
        have hP : va_P D vwCl (wM q cI cZ (su ((tk μ 0 i)) 15 (upN (μ 15) (0) (μ 0 1)))) H := hP
        refine lv_aload_n hx hb dX4_takes_116 rfl (lv_at hl 0 rfl) ?_
        refine va_get (D := D) (ci := 4) (v := .ref (q 19)) (C := RX4) (T := TX4) (N := 26) hx hb htA uwX4 hown hKK.1 hP 0 rfl rfl 20 (by decide) (htA _ wd_665) (fun _ h9 => h9) rfl dX4_takes_117 ?_
        refine lv_iload_n hx hb dX4_takes_120 rfl (lv_at hl 1 rfl) ?_
        refine n_iconst (k := 0) hx hb dX4_takes_121 (by decide) ?_
        refine n_iast (g := μ 19) (cA := cI) (n := 2) (j := 0) (v := 0) hx hb hKK.1 hP (D_addr hD rfl) hS 19 0 rfl rfl (by decide) (Nat.le_of_ble_eq_true rfl) dX4_takes_122 (fun H locs hP hS => ?_)
        have hP : va_P D vwCl (wM q cI cZ (su (su ((tk μ 0 i)) 15 (upN (μ 15) (0) (μ 0 1))) 19 (upN (μ 19) (0) (0)))) H := hP
        rw [show i = tsz μ 0 by omega] at hP
        exact wr_v hx hb hr hlocks hP hS dX4_takes_123
      | succ n ih =>
        intro i H locs hin hP hS ls hl
        have hBw := tk_lt (cl := 0) hB hm0 i
        refine lv_iload_n hx hb dX4_takes_40 rfl (lv_at hl 2 rfl) ?_
        refine lv_aload_n hx hb dX4_takes_41 rfl (lv_at hl 0 rfl) ?_
        refine va_get (D := D) (ci := 4) (v := .ref (q 16)) (C := RX4) (T := TX4) (N := 26) hx hb htA uwX4 hown hKK.1 hP 0 rfl rfl 17 (by decide) (htA _ wd_662) (fun _ h9 => h9) rfl dX4_takes_42 ?_
        refine lv_iload_n hx hb dX4_takes_45 rfl (lv_at hl 1 rfl) ?_
        refine n_iald (g := upN (μ 16) 0 (tsz μ 0)) (cA := cI) (n := 2) (j := 0) hx hb hKK.1 hP 16 0 rfl rfl (by decide) (Nat.le_of_ble_eq_true rfl) dX4_takes_46 ?_
        refine n_icmp_ge (x := i) (y := tsz μ 0) (tgt := 106) hx hb dX4_takes_47 (by decide) (by omega) (by omega) (fun c_3 => ?_) (fun c_3 => ?_)
        · exfalso; omega
        refine lv_aload_n hx hb dX4_takes_50 rfl (lv_at hl 0 rfl) ?_
        refine va_get (D := D) (ci := 4) (v := .ref (q 17)) (C := RX4) (T := TX4) (N := 26) hx hb htA uwX4 hown hKK.1 hP 0 rfl rfl 18 (by decide) (htA _ wd_663) (fun _ h9 => h9) rfl dX4_takes_51 ?_
        refine lv_bipush (v := nI 10) hx hb dX4_takes_54 (by decide) ?_
        refine lv_iload_n hx hb dX4_takes_56 rfl (lv_at hl 1 rfl) ?_
        refine n_imul hx hb dX4_takes_57 ?_
        refine lv_iload_n hx hb dX4_takes_58 rfl (lv_at hl 2 rfl) ?_
        refine n_iadd hx hb dX4_takes_59 ?_
        refine lv_aload_n hx hb dX4_takes_60 rfl (lv_at hl 0 rfl) ?_
        refine lv_aload_n hx hb dX4_takes_61 rfl (lv_at hl 0 rfl) ?_
        refine va_get (D := D) (ci := 4) (v := .ref (q 13)) (C := RX4) (T := TX4) (N := 26) hx hb htA uwX4 hown hKK.1 hP 0 rfl rfl 14 (by decide) (htA _ wd_659) (fun _ h9 => h9) rfl dX4_takes_62 ?_
        refine lv_iload_n hx hb dX4_takes_65 rfl (lv_at hl 1 rfl) ?_
        refine n_iald (g := μ 13) (cA := cI) (n := 2) (j := 0) hx hb hKK.1 hP 13 0 rfl rfl (by decide) (Nat.le_of_ble_eq_true rfl) dX4_takes_66 ?_
        refine lv_iconst (v := oi 0) hx hb dX4_takes_67 (by decide) ?_
        refine lv_iload_n hx hb dX4_takes_68 rfl (lv_at hl 2 rfl) ?_
        refine roV1 (v := .int (oi (fo (tk μ 0 i) (μ 13 0) 0 i (μ 0 0) 0))) (As := [.int (nI (μ 13 0)), .int (oi (0)), .int (nI (i))]) (rest := [.int (nI ((10 * 0) + i)), .ref (q 17)]) (n := 3) ⟨hx, hb, hml, hown, htA⟩ (m_foundOne l D cI cZ sa q (tk μ 0 i) (μ 13 0) 0 i H hP hBw hm0 (by decide) (by omega)) (cwV 3 htA (gdV wd_853 wd_855 wp_22 wd_5 wd_856) rfl rfl rfl (by decide +kernel) ⟨Nat.le_of_ble_eq_true rfl, Nat.le_of_ble_eq_true rfl⟩) hKK hP 0 rfl rfl rfl hl.1 rfl (Nat.le_of_ble_eq_true rfl) dX4_takes_69 (Nat.zero_le _) (Nat.zero_le _) ?_
        rw [show oi (fo (tk μ 0 i) (μ 13 0) 0 i (μ 0 0) 0) = nI (wmm μ (μ 13 0) i) from (congrArg oi (fo_tk (μ := μ) _ _)).trans (oi_pos (fo_ne (Nat.lt_of_lt_of_le (show i < tsz μ 0 by omega) (Nat.min_le_right _ _))))]
        refine n_iast (g := tkm μ 0 i) (cA := cI) (n := 20) (j := (10 * 0) + i) (v := wmm μ (μ 13 0) i) hx hb hKK.1 hP (D_addr hD rfl) hS 17 0 rfl rfl (by omega) (Nat.le_of_ble_eq_true rfl) dX4_takes_72 (fun H locs hP hS => ?_)
        have hP : va_P D vwCl (wM q cI cZ (su ((tk μ 0 i)) 17 (upN (tkm μ 0 i) ((10 * 0) + i) (wmm μ (μ 13 0) i)))) H := hP
        refine lv_aload_n hx hb dX4_takes_73 rfl (lv_at hl 0 rfl) ?_
        refine va_get (D := D) (ci := 4) (v := .ref (q 18)) (C := RX4) (T := TX4) (N := 26) hx hb htA uwX4 hown hKK.1 hP 0 rfl rfl 19 (by decide) (htA _ wd_664) (fun _ h9 => h9) rfl dX4_takes_74 ?_
        refine lv_bipush (v := nI 10) hx hb dX4_takes_77 (by decide) ?_
        refine lv_iload_n hx hb dX4_takes_79 rfl (lv_at hl 1 rfl) ?_
        refine n_imul hx hb dX4_takes_80 ?_
        refine lv_iload_n hx hb dX4_takes_81 rfl (lv_at hl 2 rfl) ?_
        refine n_iadd hx hb dX4_takes_82 ?_
        refine lv_aload_n hx hb dX4_takes_83 rfl (lv_at hl 0 rfl) ?_
        refine va_get (D := D) (ci := 4) (v := .ref (q 3)) (C := RX4) (T := TX4) (N := 26) hx hb htA uwX4 hown hKK.1 hP 0 rfl rfl 2 (by decide) (htA _ wd_647) (fun _ h9 => h9) rfl dX4_takes_84 ?_
        refine lv_aload_n hx hb dX4_takes_87 rfl (lv_at hl 0 rfl) ?_
        refine va_get (D := D) (ci := 4) (v := .ref (q 17)) (C := RX4) (T := TX4) (N := 26) hx hb htA uwX4 hown hKK.1 hP 0 rfl rfl 18 (by decide) (htA _ wd_663) (fun _ h9 => h9) rfl dX4_takes_88 ?_
        refine lv_bipush (v := nI 10) hx hb dX4_takes_91 (by decide) ?_
        refine lv_iload_n hx hb dX4_takes_93 rfl (lv_at hl 1 rfl) ?_
        refine n_imul hx hb dX4_takes_94 ?_
        refine lv_iload_n hx hb dX4_takes_95 rfl (lv_at hl 2 rfl) ?_
        refine n_iadd hx hb dX4_takes_96 ?_
        refine n_iald (g := upN (tkm μ 0 i) ((10 * 0) + i) (wmm μ (μ 13 0) i)) (cA := cI) (n := 20) (j := (10 * 0) + i) hx hb hKK.1 hP 17 0 rfl rfl (by omega) (Nat.le_of_ble_eq_true rfl) dX4_takes_97 ?_
        rw [show upN (tkm μ 0 i) ((10 * 0) + i) (wmm μ (μ 13 0) i) ((10 * 0) + i) = wmm μ (μ 13 0) i from if_pos rfl]
        refine n_iald (g := μ 3) (cA := cI) (n := 60) (j := wmm μ (μ 13 0) i) hx hb hKK.1 hP 3 0 rfl rfl (wmm_lt hm0) (Nat.le_of_ble_eq_true rfl) dX4_takes_98 ?_
        refine n_iast (g := tkw μ 0 i) (cA := cI) (n := 20) (j := (10 * 0) + i) (v := μ 3 (wmm μ (μ 13 0) i)) hx hb hKK.1 hP (D_addr hD rfl) hS 18 0 rfl rfl (by omega) (Nat.le_of_ble_eq_true rfl) dX4_takes_99 (fun H locs hP hS => ?_)
        have hP : va_P D vwCl (wM q cI cZ (su (su ((tk μ 0 i)) 17 (upN (tkm μ 0 i) ((10 * 0) + i) (wmm μ (μ 13 0) i))) 18 (upN (tkw μ 0 i) ((10 * 0) + i) (μ 3 (wmm μ (μ 13 0) i))))) H := hP
        refine lv_iinc (v := nI (i + 1)) (lv' := [(3, .int (nI (i + 1))), (0, .ref (q 0)), (1, .int (nI (0)))]) hx hb dX4_takes_100 hl (k := 2) rfl (n_inc (i) 1 rfl) (by decide) rfl (fun ls hl => ?_)
        refine lv_goto (tgt := 40) hx hb dX4_takes_103 (by decide) ?_
        exact ih (i + 1) _ _ (by omega) hP hS ls (lv_sub hl [1, 2, 0] rfl)
    have e9 : μ 14 0 = tsz μ 0 := by unfold tsz; omega
    rw [e9] at hP
    exact loop_40 (tsz μ 0) 0 _ _ (by omega) hP hS ls (lv_sub hl [2, 3, 0] rfl)
  · refine lv_iload_n hx hb dX4_takes_27 rfl (lv_at hl 0 rfl) ?_
    refine lv_goto (tgt := 37) hx hb dX4_takes_28 (by decide) ?_
    refine n_iast (g := μ 16) (cA := cI) (n := 2) (j := 0) (v := cnt (fun m9 => ifd μ (μ 13 0) 0 m9) (μ 0 0)) hx hb hKK.1 hP (D_addr hD rfl) hS 16 0 rfl rfl (by decide) (Nat.le_of_ble_eq_true rfl) dX4_takes_37 (fun H locs hP hS => ?_)
    have hP : va_P D vwCl (wM q cI cZ (su μ 16 (upN (μ 16) (0) (cnt (fun m9 => ifd μ (μ 13 0) 0 m9) (μ 0 0))))) H := hP
    refine n_iconst (k := 0) hx hb dX4_takes_38 (by decide) ?_
    refine lv_istore_n (lv' := [(3, .int (nI (0))), (2, .int (nI (cnt (fun m9 => ifd μ (μ 13 0) 0 m9) (μ 0 0)))), (0, .ref (q 0)), (1, .int (nI (0)))]) hx hb dX4_takes_39 rfl hl (by decide) rfl (fun ls hl => ?_)
    have loop_40 : ∀ (n : Nat) (i : Nat) (H : Heap) (locs : List Loc), (i + n = tsz μ 0) → va_P D vwCl (wM q cI cZ (tk μ 0 i)) H → va_S A s.heap H locs → ∀ (ls : Array Slot), lv_has ls 4 [(0, .ref (q 0)), (1, .int (nI (0))), (3, .int (nI (i)))] → W p l e (headSpec (codeW yX4_takes cX4_takes 4 none) ({ frames := 3, cells := 0, slots := 0, locals := 71 } : Room)).room s m ([.ref (q 0), .int (nI (0))] : List Value).toArray below meth c H locs 0 0 (MQ below (WrQ none D (wM q cI cZ (tke μ 0)) A) ([.ref (q 0), .int (nI (0))] : List Value).toArray s 0 0 A) (F0 m 40 ls []) := by
      intro n
      induction n with
      | zero =>
        intro i H locs hin hP hS ls hl
        have hBw := tk_lt (cl := 0) hB hm0 i
        refine lv_iload_n hx hb dX4_takes_40 rfl (lv_at hl 2 rfl) ?_
        refine lv_aload_n hx hb dX4_takes_41 rfl (lv_at hl 0 rfl) ?_
        refine va_get (D := D) (ci := 4) (v := .ref (q 16)) (C := RX4) (T := TX4) (N := 26) hx hb htA uwX4 hown hKK.1 hP 0 rfl rfl 17 (by decide) (htA _ wd_662) (fun _ h9 => h9) rfl dX4_takes_42 ?_
        refine lv_iload_n hx hb dX4_takes_45 rfl (lv_at hl 1 rfl) ?_
        refine n_iald (g := upN (μ 16) 0 (tsz μ 0)) (cA := cI) (n := 2) (j := 0) hx hb hKK.1 hP 16 0 rfl rfl (by decide) (Nat.le_of_ble_eq_true rfl) dX4_takes_46 ?_
        refine n_icmp_ge (x := i) (y := tsz μ 0) (tgt := 106) hx hb dX4_takes_47 (by decide) (by omega) (by omega) (fun c_4 => ?_) (fun c_4 => ?_)
        rotate_left
        · exfalso; omega
        refine lv_aload_n hx hb dX4_takes_106 rfl (lv_at hl 0 rfl) ?_
        refine va_get (D := D) (ci := 4) (v := .ref (q 15)) (C := RX4) (T := TX4) (N := 26) hx hb htA uwX4 hown hKK.1 hP 0 rfl rfl 16 (by decide) (htA _ wd_661) (fun _ h9 => h9) rfl dX4_takes_107 ?_
        refine lv_iload_n hx hb dX4_takes_110 rfl (lv_at hl 1 rfl) ?_
        refine lv_aload_n hx hb dX4_takes_111 rfl (lv_at hl 0 rfl) ?_
        refine va_get (D := D) (ci := 4) (v := .int (nI (μ 0 1))) (C := RX4) (T := TX4) (N := 26) hx hb htA uwX4 hown hKK.1 hP 0 rfl rfl 13 (by decide) (htA _ wd_658) (fun _ h9 => h9) rfl dX4_takes_112 ?_
        refine n_iast (g := μ 15) (cA := cI) (n := 2) (j := 0) (v := μ 0 1) hx hb hKK.1 hP (D_addr hD rfl) hS 15 0 rfl rfl (by decide) (Nat.le_of_ble_eq_true rfl) dX4_takes_115 (fun H locs hP hS => ?_)
        have hP : va_P D vwCl (wM q cI cZ (su ((tk μ 0 i)) 15 (upN (μ 15) (0) (μ 0 1)))) H := hP
        refine lv_aload_n hx hb dX4_takes_116 rfl (lv_at hl 0 rfl) ?_
        refine va_get (D := D) (ci := 4) (v := .ref (q 19)) (C := RX4) (T := TX4) (N := 26) hx hb htA uwX4 hown hKK.1 hP 0 rfl rfl 20 (by decide) (htA _ wd_665) (fun _ h9 => h9) rfl dX4_takes_117 ?_
        refine lv_iload_n hx hb dX4_takes_120 rfl (lv_at hl 1 rfl) ?_
        refine n_iconst (k := 0) hx hb dX4_takes_121 (by decide) ?_
        refine n_iast (g := μ 19) (cA := cI) (n := 2) (j := 0) (v := 0) hx hb hKK.1 hP (D_addr hD rfl) hS 19 0 rfl rfl (by decide) (Nat.le_of_ble_eq_true rfl) dX4_takes_122 (fun H locs hP hS => ?_)
        have hP : va_P D vwCl (wM q cI cZ (su (su ((tk μ 0 i)) 15 (upN (μ 15) (0) (μ 0 1))) 19 (upN (μ 19) (0) (0)))) H := hP
        rw [show i = tsz μ 0 by omega] at hP
        exact wr_v hx hb hr hlocks hP hS dX4_takes_123
      | succ n ih =>
        intro i H locs hin hP hS ls hl
        have hBw := tk_lt (cl := 0) hB hm0 i
        refine lv_iload_n hx hb dX4_takes_40 rfl (lv_at hl 2 rfl) ?_
        refine lv_aload_n hx hb dX4_takes_41 rfl (lv_at hl 0 rfl) ?_
        refine va_get (D := D) (ci := 4) (v := .ref (q 16)) (C := RX4) (T := TX4) (N := 26) hx hb htA uwX4 hown hKK.1 hP 0 rfl rfl 17 (by decide) (htA _ wd_662) (fun _ h9 => h9) rfl dX4_takes_42 ?_
        refine lv_iload_n hx hb dX4_takes_45 rfl (lv_at hl 1 rfl) ?_
        refine n_iald (g := upN (μ 16) 0 (tsz μ 0)) (cA := cI) (n := 2) (j := 0) hx hb hKK.1 hP 16 0 rfl rfl (by decide) (Nat.le_of_ble_eq_true rfl) dX4_takes_46 ?_
        refine n_icmp_ge (x := i) (y := tsz μ 0) (tgt := 106) hx hb dX4_takes_47 (by decide) (by omega) (by omega) (fun c_5 => ?_) (fun c_5 => ?_)
        · exfalso; omega
        refine lv_aload_n hx hb dX4_takes_50 rfl (lv_at hl 0 rfl) ?_
        refine va_get (D := D) (ci := 4) (v := .ref (q 17)) (C := RX4) (T := TX4) (N := 26) hx hb htA uwX4 hown hKK.1 hP 0 rfl rfl 18 (by decide) (htA _ wd_663) (fun _ h9 => h9) rfl dX4_takes_51 ?_
        refine lv_bipush (v := nI 10) hx hb dX4_takes_54 (by decide) ?_
        refine lv_iload_n hx hb dX4_takes_56 rfl (lv_at hl 1 rfl) ?_
        refine n_imul hx hb dX4_takes_57 ?_
        refine lv_iload_n hx hb dX4_takes_58 rfl (lv_at hl 2 rfl) ?_
        refine n_iadd hx hb dX4_takes_59 ?_
        refine lv_aload_n hx hb dX4_takes_60 rfl (lv_at hl 0 rfl) ?_
        refine lv_aload_n hx hb dX4_takes_61 rfl (lv_at hl 0 rfl) ?_
        refine va_get (D := D) (ci := 4) (v := .ref (q 13)) (C := RX4) (T := TX4) (N := 26) hx hb htA uwX4 hown hKK.1 hP 0 rfl rfl 14 (by decide) (htA _ wd_659) (fun _ h9 => h9) rfl dX4_takes_62 ?_
        refine lv_iload_n hx hb dX4_takes_65 rfl (lv_at hl 1 rfl) ?_
        refine n_iald (g := μ 13) (cA := cI) (n := 2) (j := 0) hx hb hKK.1 hP 13 0 rfl rfl (by decide) (Nat.le_of_ble_eq_true rfl) dX4_takes_66 ?_
        refine lv_iconst (v := oi 0) hx hb dX4_takes_67 (by decide) ?_
        refine lv_iload_n hx hb dX4_takes_68 rfl (lv_at hl 2 rfl) ?_
        refine roV1 (v := .int (oi (fo (tk μ 0 i) (μ 13 0) 0 i (μ 0 0) 0))) (As := [.int (nI (μ 13 0)), .int (oi (0)), .int (nI (i))]) (rest := [.int (nI ((10 * 0) + i)), .ref (q 17)]) (n := 3) ⟨hx, hb, hml, hown, htA⟩ (m_foundOne l D cI cZ sa q (tk μ 0 i) (μ 13 0) 0 i H hP hBw hm0 (by decide) (by omega)) (cwV 3 htA (gdV wd_853 wd_855 wp_22 wd_5 wd_856) rfl rfl rfl (by decide +kernel) ⟨Nat.le_of_ble_eq_true rfl, Nat.le_of_ble_eq_true rfl⟩) hKK hP 0 rfl rfl rfl hl.1 rfl (Nat.le_of_ble_eq_true rfl) dX4_takes_69 (Nat.zero_le _) (Nat.zero_le _) ?_
        rw [show oi (fo (tk μ 0 i) (μ 13 0) 0 i (μ 0 0) 0) = nI (wmm μ (μ 13 0) i) from (congrArg oi (fo_tk (μ := μ) _ _)).trans (oi_pos (fo_ne (Nat.lt_of_lt_of_le (show i < tsz μ 0 by omega) (Nat.min_le_right _ _))))]
        refine n_iast (g := tkm μ 0 i) (cA := cI) (n := 20) (j := (10 * 0) + i) (v := wmm μ (μ 13 0) i) hx hb hKK.1 hP (D_addr hD rfl) hS 17 0 rfl rfl (by omega) (Nat.le_of_ble_eq_true rfl) dX4_takes_72 (fun H locs hP hS => ?_)
        have hP : va_P D vwCl (wM q cI cZ (su ((tk μ 0 i)) 17 (upN (tkm μ 0 i) ((10 * 0) + i) (wmm μ (μ 13 0) i)))) H := hP
        refine lv_aload_n hx hb dX4_takes_73 rfl (lv_at hl 0 rfl) ?_
        refine va_get (D := D) (ci := 4) (v := .ref (q 18)) (C := RX4) (T := TX4) (N := 26) hx hb htA uwX4 hown hKK.1 hP 0 rfl rfl 19 (by decide) (htA _ wd_664) (fun _ h9 => h9) rfl dX4_takes_74 ?_
        refine lv_bipush (v := nI 10) hx hb dX4_takes_77 (by decide) ?_
        refine lv_iload_n hx hb dX4_takes_79 rfl (lv_at hl 1 rfl) ?_
        refine n_imul hx hb dX4_takes_80 ?_
        refine lv_iload_n hx hb dX4_takes_81 rfl (lv_at hl 2 rfl) ?_
        refine n_iadd hx hb dX4_takes_82 ?_
        refine lv_aload_n hx hb dX4_takes_83 rfl (lv_at hl 0 rfl) ?_
        refine va_get (D := D) (ci := 4) (v := .ref (q 3)) (C := RX4) (T := TX4) (N := 26) hx hb htA uwX4 hown hKK.1 hP 0 rfl rfl 2 (by decide) (htA _ wd_647) (fun _ h9 => h9) rfl dX4_takes_84 ?_
        refine lv_aload_n hx hb dX4_takes_87 rfl (lv_at hl 0 rfl) ?_
        refine va_get (D := D) (ci := 4) (v := .ref (q 17)) (C := RX4) (T := TX4) (N := 26) hx hb htA uwX4 hown hKK.1 hP 0 rfl rfl 18 (by decide) (htA _ wd_663) (fun _ h9 => h9) rfl dX4_takes_88 ?_
        refine lv_bipush (v := nI 10) hx hb dX4_takes_91 (by decide) ?_
        refine lv_iload_n hx hb dX4_takes_93 rfl (lv_at hl 1 rfl) ?_
        refine n_imul hx hb dX4_takes_94 ?_
        refine lv_iload_n hx hb dX4_takes_95 rfl (lv_at hl 2 rfl) ?_
        refine n_iadd hx hb dX4_takes_96 ?_
        refine n_iald (g := upN (tkm μ 0 i) ((10 * 0) + i) (wmm μ (μ 13 0) i)) (cA := cI) (n := 20) (j := (10 * 0) + i) hx hb hKK.1 hP 17 0 rfl rfl (by omega) (Nat.le_of_ble_eq_true rfl) dX4_takes_97 ?_
        rw [show upN (tkm μ 0 i) ((10 * 0) + i) (wmm μ (μ 13 0) i) ((10 * 0) + i) = wmm μ (μ 13 0) i from if_pos rfl]
        refine n_iald (g := μ 3) (cA := cI) (n := 60) (j := wmm μ (μ 13 0) i) hx hb hKK.1 hP 3 0 rfl rfl (wmm_lt hm0) (Nat.le_of_ble_eq_true rfl) dX4_takes_98 ?_
        refine n_iast (g := tkw μ 0 i) (cA := cI) (n := 20) (j := (10 * 0) + i) (v := μ 3 (wmm μ (μ 13 0) i)) hx hb hKK.1 hP (D_addr hD rfl) hS 18 0 rfl rfl (by omega) (Nat.le_of_ble_eq_true rfl) dX4_takes_99 (fun H locs hP hS => ?_)
        have hP : va_P D vwCl (wM q cI cZ (su (su ((tk μ 0 i)) 17 (upN (tkm μ 0 i) ((10 * 0) + i) (wmm μ (μ 13 0) i))) 18 (upN (tkw μ 0 i) ((10 * 0) + i) (μ 3 (wmm μ (μ 13 0) i))))) H := hP
        refine lv_iinc (v := nI (i + 1)) (lv' := [(3, .int (nI (i + 1))), (0, .ref (q 0)), (1, .int (nI (0)))]) hx hb dX4_takes_100 hl (k := 2) rfl (n_inc (i) 1 rfl) (by decide) rfl (fun ls hl => ?_)
        refine lv_goto (tgt := 40) hx hb dX4_takes_103 (by decide) ?_
        exact ih (i + 1) _ _ (by omega) hP hS ls (lv_sub hl [1, 2, 0] rfl)
    have e9 : cnt (fun m9 => ifd μ (μ 13 0) 0 m9) (μ 0 0) = tsz μ 0 := by unfold tsz; omega
    rw [e9] at hP
    exact loop_40 (tsz μ 0) 0 _ _ (by omega) hP hS ls (lv_sub hl [2, 3, 0] rfl)
set_option maxHeartbeats 4000000 in
set_option maxRecDepth 100000 in
theorem m_takes1 (l : Launch) (D : va_G) (cI cZ : ClassId) (sa : Nat → Nat) (q : Nat → Nat) (μ : ST)  (A : Nat → Prop) (hD : va_D A (wM q cI cZ μ)) (hB : ∀ k i, μ k i < 1073741824) (hm0 : μ 0 0 ≤ 60) (h14 : μ 14 1 ≤ 10) : Met l yX4_takes (codeW yX4_takes cX4_takes 4 none) ({ frames := 3, cells := 0, slots := 0, locals := 71 } : Room) (WrP D cI cZ sa (wM q cI cZ μ) [.ref (q 0), .int (nI (1))]) (WrQ none D (wM q cI cZ (tke μ 1)) A) 0 0 A := by
  refine Met.ofW (cc := cX4_takes) (maxL := 4) (ret := none) (by decide) rfl ?_
  intro p e s m args below meth c s₁ B hml hv
  obtain ⟨rfl, hH, hKK⟩ := hv
  have hx := B.exec
  have hb := B.bytes
  have hr := B.returns
  have htA : ∀ w ∈ WA, w.before _ s = true := fun w h => atoms_spec (ws := (codeW yX4_takes cX4_takes 4 none)) B.pre w (List.mem_cons_of_mem _ h)
  have hown : s.vm.findClass RX4 = some m.cls := findClass_of_methodNamed B.named
  have hlocks := B.notSynchronized
  have hP := hH
  have hS : va_S A s.heap s.heap [] := va_S.rf
  have hl := lv_entry ([.ref (q 0), .int (nI (1))]) (n := 4) (Nat.le_of_ble_eq_true rfl)
  rw [lg_entry_eq]
  generalize (lg_sl ([.ref (q 0), .int (nI (1))]) ++ List.replicate (4 - (lg_sl ([.ref (q 0), .int (nI (1))])).length) Slot.unset).toArray = ls at hl ⊢
  have hl : lv_has ls 4 [(0, .ref (q 0)), (1, .int (nI (1)))] := hl
  have hts : tsz μ 1 ≤ 10 := Nat.le_trans (Nat.min_le_left _ _) h14
  refine lv_aload_n hx hb dX4_takes_0 rfl (lv_at hl 0 rfl) ?_
  refine lv_aload_n hx hb dX4_takes_1 rfl (lv_at hl 0 rfl) ?_
  refine va_get (D := D) (ci := 4) (v := .ref (q 13)) (C := RX4) (T := TX4) (N := 26) hx hb htA uwX4 hown hKK.1 hP 0 rfl rfl 14 (by decide) (htA _ wd_659) (fun _ h9 => h9) rfl dX4_takes_2 ?_
  refine lv_iload_n hx hb dX4_takes_5 rfl (lv_at hl 1 rfl) ?_
  refine n_iald (g := μ 13) (cA := cI) (n := 2) (j := 1) hx hb hKK.1 hP 13 0 rfl rfl (by decide) (Nat.le_of_ble_eq_true rfl) dX4_takes_6 ?_
  refine lv_iconst (v := oi 0) hx hb dX4_takes_7 (by decide) ?_
  refine roV1 (v := .int (nI (cnt (fun m9 => ifd μ (μ 13 1) 0 m9) (μ 0 0)))) (As := [.int (nI (μ 13 1)), .int (oi (0))]) (rest := []) (n := 2) ⟨hx, hb, hml, hown, htA⟩ (m_count l D cI cZ sa q μ (μ 13 1) 0 s.heap hP hB hm0 (by decide)) (cwV 2 htA (gdV wd_790 wd_792 wp_13 wd_5 wd_793) rfl rfl rfl (by decide +kernel) ⟨Nat.le_of_ble_eq_true rfl, Nat.le_of_ble_eq_true rfl⟩) hKK hP 0 rfl rfl rfl hl.1 rfl (Nat.le_of_ble_eq_true rfl) dX4_takes_8 (Nat.zero_le _) (Nat.zero_le _) ?_
  refine lv_istore_n (lv' := [(2, .int (nI (cnt (fun m9 => ifd μ (μ 13 1) 0 m9) (μ 0 0)))), (0, .ref (q 0)), (1, .int (nI (1)))]) hx hb dX4_takes_11 rfl hl (by decide) rfl (fun ls hl => ?_)
  refine lv_aload_n hx hb dX4_takes_12 rfl (lv_at hl 1 rfl) ?_
  refine va_get (D := D) (ci := 4) (v := .ref (q 16)) (C := RX4) (T := TX4) (N := 26) hx hb htA uwX4 hown hKK.1 hP 0 rfl rfl 17 (by decide) (htA _ wd_662) (fun _ h9 => h9) rfl dX4_takes_13 ?_
  refine lv_iload_n hx hb dX4_takes_16 rfl (lv_at hl 2 rfl) ?_
  refine lv_iload_n hx hb dX4_takes_17 rfl (lv_at hl 0 rfl) ?_
  refine lv_aload_n hx hb dX4_takes_18 rfl (lv_at hl 1 rfl) ?_
  refine va_get (D := D) (ci := 4) (v := .ref (q 14)) (C := RX4) (T := TX4) (N := 26) hx hb htA uwX4 hown hKK.1 hP 0 rfl rfl 15 (by decide) (htA _ wd_660) (fun _ h9 => h9) rfl dX4_takes_19 ?_
  refine lv_iload_n hx hb dX4_takes_22 rfl (lv_at hl 2 rfl) ?_
  refine n_iald (g := μ 14) (cA := cI) (n := 2) (j := 1) hx hb hKK.1 hP 14 0 rfl rfl (by decide) (Nat.le_of_ble_eq_true rfl) dX4_takes_23 ?_
  refine n_icmp_ge (x := cnt (fun m9 => ifd μ (μ 13 1) 0 m9) (μ 0 0)) (y := μ 14 1) (tgt := 31) hx hb dX4_takes_24 (by decide) (Nat.lt_of_le_of_lt (cnt_le _ _) (by omega)) (Nat.lt_trans (hB 14 1) (by decide)) (fun c_1 => ?_) (fun c_1 => ?_)
  · refine lv_aload_n hx hb dX4_takes_31 rfl (lv_at hl 1 rfl) ?_
    refine va_get (D := D) (ci := 4) (v := .ref (q 14)) (C := RX4) (T := TX4) (N := 26) hx hb htA uwX4 hown hKK.1 hP 0 rfl rfl 15 (by decide) (htA _ wd_660) (fun _ h9 => h9) rfl dX4_takes_32 ?_
    refine lv_iload_n hx hb dX4_takes_35 rfl (lv_at hl 2 rfl) ?_
    refine n_iald (g := μ 14) (cA := cI) (n := 2) (j := 1) hx hb hKK.1 hP 14 0 rfl rfl (by decide) (Nat.le_of_ble_eq_true rfl) dX4_takes_36 ?_
    refine n_iast (g := μ 16) (cA := cI) (n := 2) (j := 1) (v := μ 14 1) hx hb hKK.1 hP (D_addr hD rfl) hS 16 0 rfl rfl (by decide) (Nat.le_of_ble_eq_true rfl) dX4_takes_37 (fun H locs hP hS => ?_)
    have hP : va_P D vwCl (wM q cI cZ (su μ 16 (upN (μ 16) (1) (μ 14 1)))) H := hP
    refine n_iconst (k := 0) hx hb dX4_takes_38 (by decide) ?_
    refine lv_istore_n (lv' := [(3, .int (nI (0))), (2, .int (nI (cnt (fun m9 => ifd μ (μ 13 1) 0 m9) (μ 0 0)))), (0, .ref (q 0)), (1, .int (nI (1)))]) hx hb dX4_takes_39 rfl hl (by decide) rfl (fun ls hl => ?_)
    have loop_40 : ∀ (n : Nat) (i : Nat) (H : Heap) (locs : List Loc), (i + n = tsz μ 1) → va_P D vwCl (wM q cI cZ (tk μ 1 i)) H → va_S A s.heap H locs → ∀ (ls : Array Slot), lv_has ls 4 [(0, .ref (q 0)), (1, .int (nI (1))), (3, .int (nI (i)))] → W p l e (headSpec (codeW yX4_takes cX4_takes 4 none) ({ frames := 3, cells := 0, slots := 0, locals := 71 } : Room)).room s m ([.ref (q 0), .int (nI (1))] : List Value).toArray below meth c H locs 0 0 (MQ below (WrQ none D (wM q cI cZ (tke μ 1)) A) ([.ref (q 0), .int (nI (1))] : List Value).toArray s 0 0 A) (F0 m 40 ls []) := by
      intro n
      induction n with
      | zero =>
        intro i H locs hin hP hS ls hl
        have hBw := tk_lt (cl := 1) hB hm0 i
        refine lv_iload_n hx hb dX4_takes_40 rfl (lv_at hl 2 rfl) ?_
        refine lv_aload_n hx hb dX4_takes_41 rfl (lv_at hl 0 rfl) ?_
        refine va_get (D := D) (ci := 4) (v := .ref (q 16)) (C := RX4) (T := TX4) (N := 26) hx hb htA uwX4 hown hKK.1 hP 0 rfl rfl 17 (by decide) (htA _ wd_662) (fun _ h9 => h9) rfl dX4_takes_42 ?_
        refine lv_iload_n hx hb dX4_takes_45 rfl (lv_at hl 1 rfl) ?_
        refine n_iald (g := upN (μ 16) 1 (tsz μ 1)) (cA := cI) (n := 2) (j := 1) hx hb hKK.1 hP 16 0 rfl rfl (by decide) (Nat.le_of_ble_eq_true rfl) dX4_takes_46 ?_
        refine n_icmp_ge (x := i) (y := tsz μ 1) (tgt := 106) hx hb dX4_takes_47 (by decide) (by omega) (by omega) (fun c_2 => ?_) (fun c_2 => ?_)
        rotate_left
        · exfalso; omega
        refine lv_aload_n hx hb dX4_takes_106 rfl (lv_at hl 0 rfl) ?_
        refine va_get (D := D) (ci := 4) (v := .ref (q 15)) (C := RX4) (T := TX4) (N := 26) hx hb htA uwX4 hown hKK.1 hP 0 rfl rfl 16 (by decide) (htA _ wd_661) (fun _ h9 => h9) rfl dX4_takes_107 ?_
        refine lv_iload_n hx hb dX4_takes_110 rfl (lv_at hl 1 rfl) ?_
        refine lv_aload_n hx hb dX4_takes_111 rfl (lv_at hl 0 rfl) ?_
        refine va_get (D := D) (ci := 4) (v := .int (nI (μ 0 1))) (C := RX4) (T := TX4) (N := 26) hx hb htA uwX4 hown hKK.1 hP 0 rfl rfl 13 (by decide) (htA _ wd_658) (fun _ h9 => h9) rfl dX4_takes_112 ?_
        refine n_iast (g := μ 15) (cA := cI) (n := 2) (j := 1) (v := μ 0 1) hx hb hKK.1 hP (D_addr hD rfl) hS 15 0 rfl rfl (by decide) (Nat.le_of_ble_eq_true rfl) dX4_takes_115 (fun H locs hP hS => ?_)
        have hP : va_P D vwCl (wM q cI cZ (su ((tk μ 1 i)) 15 (upN (μ 15) (1) (μ 0 1)))) H := hP
        refine lv_aload_n hx hb dX4_takes_116 rfl (lv_at hl 0 rfl) ?_
        refine va_get (D := D) (ci := 4) (v := .ref (q 19)) (C := RX4) (T := TX4) (N := 26) hx hb htA uwX4 hown hKK.1 hP 0 rfl rfl 20 (by decide) (htA _ wd_665) (fun _ h9 => h9) rfl dX4_takes_117 ?_
        refine lv_iload_n hx hb dX4_takes_120 rfl (lv_at hl 1 rfl) ?_
        refine n_iconst (k := 0) hx hb dX4_takes_121 (by decide) ?_
        refine n_iast (g := μ 19) (cA := cI) (n := 2) (j := 1) (v := 0) hx hb hKK.1 hP (D_addr hD rfl) hS 19 0 rfl rfl (by decide) (Nat.le_of_ble_eq_true rfl) dX4_takes_122 (fun H locs hP hS => ?_)
        have hP : va_P D vwCl (wM q cI cZ (su (su ((tk μ 1 i)) 15 (upN (μ 15) (1) (μ 0 1))) 19 (upN (μ 19) (1) (0)))) H := hP
        rw [show i = tsz μ 1 by omega] at hP
        exact wr_v hx hb hr hlocks hP hS dX4_takes_123
      | succ n ih =>
        intro i H locs hin hP hS ls hl
        have hBw := tk_lt (cl := 1) hB hm0 i
        refine lv_iload_n hx hb dX4_takes_40 rfl (lv_at hl 2 rfl) ?_
        refine lv_aload_n hx hb dX4_takes_41 rfl (lv_at hl 0 rfl) ?_
        refine va_get (D := D) (ci := 4) (v := .ref (q 16)) (C := RX4) (T := TX4) (N := 26) hx hb htA uwX4 hown hKK.1 hP 0 rfl rfl 17 (by decide) (htA _ wd_662) (fun _ h9 => h9) rfl dX4_takes_42 ?_
        refine lv_iload_n hx hb dX4_takes_45 rfl (lv_at hl 1 rfl) ?_
        refine n_iald (g := upN (μ 16) 1 (tsz μ 1)) (cA := cI) (n := 2) (j := 1) hx hb hKK.1 hP 16 0 rfl rfl (by decide) (Nat.le_of_ble_eq_true rfl) dX4_takes_46 ?_
        refine n_icmp_ge (x := i) (y := tsz μ 1) (tgt := 106) hx hb dX4_takes_47 (by decide) (by omega) (by omega) (fun c_3 => ?_) (fun c_3 => ?_)
        · exfalso; omega
        refine lv_aload_n hx hb dX4_takes_50 rfl (lv_at hl 0 rfl) ?_
        refine va_get (D := D) (ci := 4) (v := .ref (q 17)) (C := RX4) (T := TX4) (N := 26) hx hb htA uwX4 hown hKK.1 hP 0 rfl rfl 18 (by decide) (htA _ wd_663) (fun _ h9 => h9) rfl dX4_takes_51 ?_
        refine lv_bipush (v := nI 10) hx hb dX4_takes_54 (by decide) ?_
        refine lv_iload_n hx hb dX4_takes_56 rfl (lv_at hl 1 rfl) ?_
        refine n_imul hx hb dX4_takes_57 ?_
        refine lv_iload_n hx hb dX4_takes_58 rfl (lv_at hl 2 rfl) ?_
        refine n_iadd hx hb dX4_takes_59 ?_
        refine lv_aload_n hx hb dX4_takes_60 rfl (lv_at hl 0 rfl) ?_
        refine lv_aload_n hx hb dX4_takes_61 rfl (lv_at hl 0 rfl) ?_
        refine va_get (D := D) (ci := 4) (v := .ref (q 13)) (C := RX4) (T := TX4) (N := 26) hx hb htA uwX4 hown hKK.1 hP 0 rfl rfl 14 (by decide) (htA _ wd_659) (fun _ h9 => h9) rfl dX4_takes_62 ?_
        refine lv_iload_n hx hb dX4_takes_65 rfl (lv_at hl 1 rfl) ?_
        refine n_iald (g := μ 13) (cA := cI) (n := 2) (j := 1) hx hb hKK.1 hP 13 0 rfl rfl (by decide) (Nat.le_of_ble_eq_true rfl) dX4_takes_66 ?_
        refine lv_iconst (v := oi 0) hx hb dX4_takes_67 (by decide) ?_
        refine lv_iload_n hx hb dX4_takes_68 rfl (lv_at hl 2 rfl) ?_
        refine roV1 (v := .int (oi (fo (tk μ 1 i) (μ 13 1) 0 i (μ 0 0) 0))) (As := [.int (nI (μ 13 1)), .int (oi (0)), .int (nI (i))]) (rest := [.int (nI ((10 * 1) + i)), .ref (q 17)]) (n := 3) ⟨hx, hb, hml, hown, htA⟩ (m_foundOne l D cI cZ sa q (tk μ 1 i) (μ 13 1) 0 i H hP hBw hm0 (by decide) (by omega)) (cwV 3 htA (gdV wd_853 wd_855 wp_22 wd_5 wd_856) rfl rfl rfl (by decide +kernel) ⟨Nat.le_of_ble_eq_true rfl, Nat.le_of_ble_eq_true rfl⟩) hKK hP 0 rfl rfl rfl hl.1 rfl (Nat.le_of_ble_eq_true rfl) dX4_takes_69 (Nat.zero_le _) (Nat.zero_le _) ?_
        rw [show oi (fo (tk μ 1 i) (μ 13 1) 0 i (μ 0 0) 0) = nI (wmm μ (μ 13 1) i) from (congrArg oi (fo_tk (μ := μ) _ _)).trans (oi_pos (fo_ne (Nat.lt_of_lt_of_le (show i < tsz μ 1 by omega) (Nat.min_le_right _ _))))]
        refine n_iast (g := tkm μ 1 i) (cA := cI) (n := 20) (j := (10 * 1) + i) (v := wmm μ (μ 13 1) i) hx hb hKK.1 hP (D_addr hD rfl) hS 17 0 rfl rfl (by omega) (Nat.le_of_ble_eq_true rfl) dX4_takes_72 (fun H locs hP hS => ?_)
        have hP : va_P D vwCl (wM q cI cZ (su ((tk μ 1 i)) 17 (upN (tkm μ 1 i) ((10 * 1) + i) (wmm μ (μ 13 1) i)))) H := hP
        refine lv_aload_n hx hb dX4_takes_73 rfl (lv_at hl 0 rfl) ?_
        refine va_get (D := D) (ci := 4) (v := .ref (q 18)) (C := RX4) (T := TX4) (N := 26) hx hb htA uwX4 hown hKK.1 hP 0 rfl rfl 19 (by decide) (htA _ wd_664) (fun _ h9 => h9) rfl dX4_takes_74 ?_
        refine lv_bipush (v := nI 10) hx hb dX4_takes_77 (by decide) ?_
        refine lv_iload_n hx hb dX4_takes_79 rfl (lv_at hl 1 rfl) ?_
        refine n_imul hx hb dX4_takes_80 ?_
        refine lv_iload_n hx hb dX4_takes_81 rfl (lv_at hl 2 rfl) ?_
        refine n_iadd hx hb dX4_takes_82 ?_
        refine lv_aload_n hx hb dX4_takes_83 rfl (lv_at hl 0 rfl) ?_
        refine va_get (D := D) (ci := 4) (v := .ref (q 3)) (C := RX4) (T := TX4) (N := 26) hx hb htA uwX4 hown hKK.1 hP 0 rfl rfl 2 (by decide) (htA _ wd_647) (fun _ h9 => h9) rfl dX4_takes_84 ?_
        refine lv_aload_n hx hb dX4_takes_87 rfl (lv_at hl 0 rfl) ?_
        refine va_get (D := D) (ci := 4) (v := .ref (q 17)) (C := RX4) (T := TX4) (N := 26) hx hb htA uwX4 hown hKK.1 hP 0 rfl rfl 18 (by decide) (htA _ wd_663) (fun _ h9 => h9) rfl dX4_takes_88 ?_
        refine lv_bipush (v := nI 10) hx hb dX4_takes_91 (by decide) ?_
        refine lv_iload_n hx hb dX4_takes_93 rfl (lv_at hl 1 rfl) ?_
        refine n_imul hx hb dX4_takes_94 ?_
        refine lv_iload_n hx hb dX4_takes_95 rfl (lv_at hl 2 rfl) ?_
        refine n_iadd hx hb dX4_takes_96 ?_
        refine n_iald (g := upN (tkm μ 1 i) ((10 * 1) + i) (wmm μ (μ 13 1) i)) (cA := cI) (n := 20) (j := (10 * 1) + i) hx hb hKK.1 hP 17 0 rfl rfl (by omega) (Nat.le_of_ble_eq_true rfl) dX4_takes_97 ?_
        rw [show upN (tkm μ 1 i) ((10 * 1) + i) (wmm μ (μ 13 1) i) ((10 * 1) + i) = wmm μ (μ 13 1) i from if_pos rfl]
        refine n_iald (g := μ 3) (cA := cI) (n := 60) (j := wmm μ (μ 13 1) i) hx hb hKK.1 hP 3 0 rfl rfl (wmm_lt hm0) (Nat.le_of_ble_eq_true rfl) dX4_takes_98 ?_
        refine n_iast (g := tkw μ 1 i) (cA := cI) (n := 20) (j := (10 * 1) + i) (v := μ 3 (wmm μ (μ 13 1) i)) hx hb hKK.1 hP (D_addr hD rfl) hS 18 0 rfl rfl (by omega) (Nat.le_of_ble_eq_true rfl) dX4_takes_99 (fun H locs hP hS => ?_)
        have hP : va_P D vwCl (wM q cI cZ (su (su ((tk μ 1 i)) 17 (upN (tkm μ 1 i) ((10 * 1) + i) (wmm μ (μ 13 1) i))) 18 (upN (tkw μ 1 i) ((10 * 1) + i) (μ 3 (wmm μ (μ 13 1) i))))) H := hP
        refine lv_iinc (v := nI (i + 1)) (lv' := [(3, .int (nI (i + 1))), (0, .ref (q 0)), (1, .int (nI (1)))]) hx hb dX4_takes_100 hl (k := 2) rfl (n_inc (i) 1 rfl) (by decide) rfl (fun ls hl => ?_)
        refine lv_goto (tgt := 40) hx hb dX4_takes_103 (by decide) ?_
        exact ih (i + 1) _ _ (by omega) hP hS ls (lv_sub hl [1, 2, 0] rfl)
    have e9 : μ 14 1 = tsz μ 1 := by unfold tsz; omega
    rw [e9] at hP
    exact loop_40 (tsz μ 1) 0 _ _ (by omega) hP hS ls (lv_sub hl [2, 3, 0] rfl)
  · refine lv_iload_n hx hb dX4_takes_27 rfl (lv_at hl 0 rfl) ?_
    refine lv_goto (tgt := 37) hx hb dX4_takes_28 (by decide) ?_
    refine n_iast (g := μ 16) (cA := cI) (n := 2) (j := 1) (v := cnt (fun m9 => ifd μ (μ 13 1) 0 m9) (μ 0 0)) hx hb hKK.1 hP (D_addr hD rfl) hS 16 0 rfl rfl (by decide) (Nat.le_of_ble_eq_true rfl) dX4_takes_37 (fun H locs hP hS => ?_)
    have hP : va_P D vwCl (wM q cI cZ (su μ 16 (upN (μ 16) (1) (cnt (fun m9 => ifd μ (μ 13 1) 0 m9) (μ 0 0))))) H := hP
    refine n_iconst (k := 0) hx hb dX4_takes_38 (by decide) ?_
    refine lv_istore_n (lv' := [(3, .int (nI (0))), (2, .int (nI (cnt (fun m9 => ifd μ (μ 13 1) 0 m9) (μ 0 0)))), (0, .ref (q 0)), (1, .int (nI (1)))]) hx hb dX4_takes_39 rfl hl (by decide) rfl (fun ls hl => ?_)
    have loop_40 : ∀ (n : Nat) (i : Nat) (H : Heap) (locs : List Loc), (i + n = tsz μ 1) → va_P D vwCl (wM q cI cZ (tk μ 1 i)) H → va_S A s.heap H locs → ∀ (ls : Array Slot), lv_has ls 4 [(0, .ref (q 0)), (1, .int (nI (1))), (3, .int (nI (i)))] → W p l e (headSpec (codeW yX4_takes cX4_takes 4 none) ({ frames := 3, cells := 0, slots := 0, locals := 71 } : Room)).room s m ([.ref (q 0), .int (nI (1))] : List Value).toArray below meth c H locs 0 0 (MQ below (WrQ none D (wM q cI cZ (tke μ 1)) A) ([.ref (q 0), .int (nI (1))] : List Value).toArray s 0 0 A) (F0 m 40 ls []) := by
      intro n
      induction n with
      | zero =>
        intro i H locs hin hP hS ls hl
        have hBw := tk_lt (cl := 1) hB hm0 i
        refine lv_iload_n hx hb dX4_takes_40 rfl (lv_at hl 2 rfl) ?_
        refine lv_aload_n hx hb dX4_takes_41 rfl (lv_at hl 0 rfl) ?_
        refine va_get (D := D) (ci := 4) (v := .ref (q 16)) (C := RX4) (T := TX4) (N := 26) hx hb htA uwX4 hown hKK.1 hP 0 rfl rfl 17 (by decide) (htA _ wd_662) (fun _ h9 => h9) rfl dX4_takes_42 ?_
        refine lv_iload_n hx hb dX4_takes_45 rfl (lv_at hl 1 rfl) ?_
        refine n_iald (g := upN (μ 16) 1 (tsz μ 1)) (cA := cI) (n := 2) (j := 1) hx hb hKK.1 hP 16 0 rfl rfl (by decide) (Nat.le_of_ble_eq_true rfl) dX4_takes_46 ?_
        refine n_icmp_ge (x := i) (y := tsz μ 1) (tgt := 106) hx hb dX4_takes_47 (by decide) (by omega) (by omega) (fun c_4 => ?_) (fun c_4 => ?_)
        rotate_left
        · exfalso; omega
        refine lv_aload_n hx hb dX4_takes_106 rfl (lv_at hl 0 rfl) ?_
        refine va_get (D := D) (ci := 4) (v := .ref (q 15)) (C := RX4) (T := TX4) (N := 26) hx hb htA uwX4 hown hKK.1 hP 0 rfl rfl 16 (by decide) (htA _ wd_661) (fun _ h9 => h9) rfl dX4_takes_107 ?_
        refine lv_iload_n hx hb dX4_takes_110 rfl (lv_at hl 1 rfl) ?_
        refine lv_aload_n hx hb dX4_takes_111 rfl (lv_at hl 0 rfl) ?_
        refine va_get (D := D) (ci := 4) (v := .int (nI (μ 0 1))) (C := RX4) (T := TX4) (N := 26) hx hb htA uwX4 hown hKK.1 hP 0 rfl rfl 13 (by decide) (htA _ wd_658) (fun _ h9 => h9) rfl dX4_takes_112 ?_
        refine n_iast (g := μ 15) (cA := cI) (n := 2) (j := 1) (v := μ 0 1) hx hb hKK.1 hP (D_addr hD rfl) hS 15 0 rfl rfl (by decide) (Nat.le_of_ble_eq_true rfl) dX4_takes_115 (fun H locs hP hS => ?_)
        have hP : va_P D vwCl (wM q cI cZ (su ((tk μ 1 i)) 15 (upN (μ 15) (1) (μ 0 1)))) H := hP
        refine lv_aload_n hx hb dX4_takes_116 rfl (lv_at hl 0 rfl) ?_
        refine va_get (D := D) (ci := 4) (v := .ref (q 19)) (C := RX4) (T := TX4) (N := 26) hx hb htA uwX4 hown hKK.1 hP 0 rfl rfl 20 (by decide) (htA _ wd_665) (fun _ h9 => h9) rfl dX4_takes_117 ?_
        refine lv_iload_n hx hb dX4_takes_120 rfl (lv_at hl 1 rfl) ?_
        refine n_iconst (k := 0) hx hb dX4_takes_121 (by decide) ?_
        refine n_iast (g := μ 19) (cA := cI) (n := 2) (j := 1) (v := 0) hx hb hKK.1 hP (D_addr hD rfl) hS 19 0 rfl rfl (by decide) (Nat.le_of_ble_eq_true rfl) dX4_takes_122 (fun H locs hP hS => ?_)
        have hP : va_P D vwCl (wM q cI cZ (su (su ((tk μ 1 i)) 15 (upN (μ 15) (1) (μ 0 1))) 19 (upN (μ 19) (1) (0)))) H := hP
        rw [show i = tsz μ 1 by omega] at hP
        exact wr_v hx hb hr hlocks hP hS dX4_takes_123
      | succ n ih =>
        intro i H locs hin hP hS ls hl
        have hBw := tk_lt (cl := 1) hB hm0 i
        refine lv_iload_n hx hb dX4_takes_40 rfl (lv_at hl 2 rfl) ?_
        refine lv_aload_n hx hb dX4_takes_41 rfl (lv_at hl 0 rfl) ?_
        refine va_get (D := D) (ci := 4) (v := .ref (q 16)) (C := RX4) (T := TX4) (N := 26) hx hb htA uwX4 hown hKK.1 hP 0 rfl rfl 17 (by decide) (htA _ wd_662) (fun _ h9 => h9) rfl dX4_takes_42 ?_
        refine lv_iload_n hx hb dX4_takes_45 rfl (lv_at hl 1 rfl) ?_
        refine n_iald (g := upN (μ 16) 1 (tsz μ 1)) (cA := cI) (n := 2) (j := 1) hx hb hKK.1 hP 16 0 rfl rfl (by decide) (Nat.le_of_ble_eq_true rfl) dX4_takes_46 ?_
        refine n_icmp_ge (x := i) (y := tsz μ 1) (tgt := 106) hx hb dX4_takes_47 (by decide) (by omega) (by omega) (fun c_5 => ?_) (fun c_5 => ?_)
        · exfalso; omega
        refine lv_aload_n hx hb dX4_takes_50 rfl (lv_at hl 0 rfl) ?_
        refine va_get (D := D) (ci := 4) (v := .ref (q 17)) (C := RX4) (T := TX4) (N := 26) hx hb htA uwX4 hown hKK.1 hP 0 rfl rfl 18 (by decide) (htA _ wd_663) (fun _ h9 => h9) rfl dX4_takes_51 ?_
        refine lv_bipush (v := nI 10) hx hb dX4_takes_54 (by decide) ?_
        refine lv_iload_n hx hb dX4_takes_56 rfl (lv_at hl 1 rfl) ?_
        refine n_imul hx hb dX4_takes_57 ?_
        refine lv_iload_n hx hb dX4_takes_58 rfl (lv_at hl 2 rfl) ?_
        refine n_iadd hx hb dX4_takes_59 ?_
        refine lv_aload_n hx hb dX4_takes_60 rfl (lv_at hl 0 rfl) ?_
        refine lv_aload_n hx hb dX4_takes_61 rfl (lv_at hl 0 rfl) ?_
        refine va_get (D := D) (ci := 4) (v := .ref (q 13)) (C := RX4) (T := TX4) (N := 26) hx hb htA uwX4 hown hKK.1 hP 0 rfl rfl 14 (by decide) (htA _ wd_659) (fun _ h9 => h9) rfl dX4_takes_62 ?_
        refine lv_iload_n hx hb dX4_takes_65 rfl (lv_at hl 1 rfl) ?_
        refine n_iald (g := μ 13) (cA := cI) (n := 2) (j := 1) hx hb hKK.1 hP 13 0 rfl rfl (by decide) (Nat.le_of_ble_eq_true rfl) dX4_takes_66 ?_
        refine lv_iconst (v := oi 0) hx hb dX4_takes_67 (by decide) ?_
        refine lv_iload_n hx hb dX4_takes_68 rfl (lv_at hl 2 rfl) ?_
        refine roV1 (v := .int (oi (fo (tk μ 1 i) (μ 13 1) 0 i (μ 0 0) 0))) (As := [.int (nI (μ 13 1)), .int (oi (0)), .int (nI (i))]) (rest := [.int (nI ((10 * 1) + i)), .ref (q 17)]) (n := 3) ⟨hx, hb, hml, hown, htA⟩ (m_foundOne l D cI cZ sa q (tk μ 1 i) (μ 13 1) 0 i H hP hBw hm0 (by decide) (by omega)) (cwV 3 htA (gdV wd_853 wd_855 wp_22 wd_5 wd_856) rfl rfl rfl (by decide +kernel) ⟨Nat.le_of_ble_eq_true rfl, Nat.le_of_ble_eq_true rfl⟩) hKK hP 0 rfl rfl rfl hl.1 rfl (Nat.le_of_ble_eq_true rfl) dX4_takes_69 (Nat.zero_le _) (Nat.zero_le _) ?_
        rw [show oi (fo (tk μ 1 i) (μ 13 1) 0 i (μ 0 0) 0) = nI (wmm μ (μ 13 1) i) from (congrArg oi (fo_tk (μ := μ) _ _)).trans (oi_pos (fo_ne (Nat.lt_of_lt_of_le (show i < tsz μ 1 by omega) (Nat.min_le_right _ _))))]
        refine n_iast (g := tkm μ 1 i) (cA := cI) (n := 20) (j := (10 * 1) + i) (v := wmm μ (μ 13 1) i) hx hb hKK.1 hP (D_addr hD rfl) hS 17 0 rfl rfl (by omega) (Nat.le_of_ble_eq_true rfl) dX4_takes_72 (fun H locs hP hS => ?_)
        have hP : va_P D vwCl (wM q cI cZ (su ((tk μ 1 i)) 17 (upN (tkm μ 1 i) ((10 * 1) + i) (wmm μ (μ 13 1) i)))) H := hP
        refine lv_aload_n hx hb dX4_takes_73 rfl (lv_at hl 0 rfl) ?_
        refine va_get (D := D) (ci := 4) (v := .ref (q 18)) (C := RX4) (T := TX4) (N := 26) hx hb htA uwX4 hown hKK.1 hP 0 rfl rfl 19 (by decide) (htA _ wd_664) (fun _ h9 => h9) rfl dX4_takes_74 ?_
        refine lv_bipush (v := nI 10) hx hb dX4_takes_77 (by decide) ?_
        refine lv_iload_n hx hb dX4_takes_79 rfl (lv_at hl 1 rfl) ?_
        refine n_imul hx hb dX4_takes_80 ?_
        refine lv_iload_n hx hb dX4_takes_81 rfl (lv_at hl 2 rfl) ?_
        refine n_iadd hx hb dX4_takes_82 ?_
        refine lv_aload_n hx hb dX4_takes_83 rfl (lv_at hl 0 rfl) ?_
        refine va_get (D := D) (ci := 4) (v := .ref (q 3)) (C := RX4) (T := TX4) (N := 26) hx hb htA uwX4 hown hKK.1 hP 0 rfl rfl 2 (by decide) (htA _ wd_647) (fun _ h9 => h9) rfl dX4_takes_84 ?_
        refine lv_aload_n hx hb dX4_takes_87 rfl (lv_at hl 0 rfl) ?_
        refine va_get (D := D) (ci := 4) (v := .ref (q 17)) (C := RX4) (T := TX4) (N := 26) hx hb htA uwX4 hown hKK.1 hP 0 rfl rfl 18 (by decide) (htA _ wd_663) (fun _ h9 => h9) rfl dX4_takes_88 ?_
        refine lv_bipush (v := nI 10) hx hb dX4_takes_91 (by decide) ?_
        refine lv_iload_n hx hb dX4_takes_93 rfl (lv_at hl 1 rfl) ?_
        refine n_imul hx hb dX4_takes_94 ?_
        refine lv_iload_n hx hb dX4_takes_95 rfl (lv_at hl 2 rfl) ?_
        refine n_iadd hx hb dX4_takes_96 ?_
        refine n_iald (g := upN (tkm μ 1 i) ((10 * 1) + i) (wmm μ (μ 13 1) i)) (cA := cI) (n := 20) (j := (10 * 1) + i) hx hb hKK.1 hP 17 0 rfl rfl (by omega) (Nat.le_of_ble_eq_true rfl) dX4_takes_97 ?_
        rw [show upN (tkm μ 1 i) ((10 * 1) + i) (wmm μ (μ 13 1) i) ((10 * 1) + i) = wmm μ (μ 13 1) i from if_pos rfl]
        refine n_iald (g := μ 3) (cA := cI) (n := 60) (j := wmm μ (μ 13 1) i) hx hb hKK.1 hP 3 0 rfl rfl (wmm_lt hm0) (Nat.le_of_ble_eq_true rfl) dX4_takes_98 ?_
        refine n_iast (g := tkw μ 1 i) (cA := cI) (n := 20) (j := (10 * 1) + i) (v := μ 3 (wmm μ (μ 13 1) i)) hx hb hKK.1 hP (D_addr hD rfl) hS 18 0 rfl rfl (by omega) (Nat.le_of_ble_eq_true rfl) dX4_takes_99 (fun H locs hP hS => ?_)
        have hP : va_P D vwCl (wM q cI cZ (su (su ((tk μ 1 i)) 17 (upN (tkm μ 1 i) ((10 * 1) + i) (wmm μ (μ 13 1) i))) 18 (upN (tkw μ 1 i) ((10 * 1) + i) (μ 3 (wmm μ (μ 13 1) i))))) H := hP
        refine lv_iinc (v := nI (i + 1)) (lv' := [(3, .int (nI (i + 1))), (0, .ref (q 0)), (1, .int (nI (1)))]) hx hb dX4_takes_100 hl (k := 2) rfl (n_inc (i) 1 rfl) (by decide) rfl (fun ls hl => ?_)
        refine lv_goto (tgt := 40) hx hb dX4_takes_103 (by decide) ?_
        exact ih (i + 1) _ _ (by omega) hP hS ls (lv_sub hl [1, 2, 0] rfl)
    have e9 : cnt (fun m9 => ifd μ (μ 13 1) 0 m9) (μ 0 0) = tsz μ 1 := by unfold tsz; omega
    rw [e9] at hP
    exact loop_40 (tsz μ 1) 0 _ _ (by omega) hP hS ls (lv_sub hl [2, 3, 0] rfl)
/-- flags, both cases -/
theorem m_flags (l : Launch) (D : va_G) (cI cZ : ClassId) (sa : Nat → Nat) (q : Nat → Nat) (μ : ST) (mm k9 w0 : Nat) (A : Nat → Prop) (hD : va_D A (wM q cI cZ μ)) (hB : ∀ k i, μ k i < 1073741824) (hm0 : μ 0 0 ≤ 60) (hs9 : μ 0 1 < 2048) (hm : mm < 60) (hw : w0 < 2) (hk : k9 < 31) : Met l yX4_flags (codeW yX4_flags cX4_flags 4 (some .boolean)) ({ frames := 1, cells := 0, slots := 0, locals := 24 } : Room) (WrP D cI cZ sa (wM q cI cZ μ) [.ref (q 0), .int (nI mm), .int (nI k9), .int (nI w0)]) (WrQ (some (.int (b2i (!decide (hs (μ 3 mm) k9 = nb w0))))) D (wM q cI cZ (flw μ mm k9 w0)) A) 0 0 A := by
  by_cases h : hs (μ 3 mm) k9 = nb w0
  · exact Met_wv (Met_wr (fun H hP => m_flags_s l D cI cZ sa q μ mm k9 w0 H hP hB hm0 hs9 hm hw hk h)) (by rw [decide_eq_true h]; rfl) (by unfold flw; rw [decide_eq_true h]; rfl)
  · exact Met_wv (m_flags_d l D cI cZ sa q μ mm k9 w0 A hD hB hm0 hs9 hm hw hk h) (by rw [decide_eq_false h]; rfl) (by unfold flw; rw [decide_eq_false h]; rfl)
set_option maxHeartbeats 4000000 in
set_option maxRecDepth 100000 in
theorem r_sync_bad (l : Launch) (D : va_G) (cI cZ : ClassId) (sa : Nat → Nat) (q : Nat → Nat) (μ : ST) (x : Int32) (A : Nat → Prop) (hD : va_D A (wM q cI cZ μ)) (hbad : iw (x) (nI (0)) (nI (1)) = false) : Met l yX4_sync (codeW yX4_sync cX4_sync 8 (some .int)) ({ frames := 2, cells := 0, slots := 0, locals := 42 } : Room) (WrP D cI cZ sa (wM q cI cZ μ) [.ref (q 0), .int (x)]) (WrQ (some (.int (nI (0)))) D (wM q cI cZ (sv μ 0 2 1)) A) 0 0 A := by
  refine Met.ofW (cc := cX4_sync) (maxL := 8) (ret := (some .int)) (by decide) rfl ?_
  intro p e s m args below meth c s₁ B hml hv
  obtain ⟨rfl, hH, hKK⟩ := hv
  have hx := B.exec
  have hb := B.bytes
  have hr := B.returns
  have htA : ∀ w ∈ WA, w.before _ s = true := fun w h => atoms_spec (ws := (codeW yX4_sync cX4_sync 8 (some .int))) B.pre w (List.mem_cons_of_mem _ h)
  have hown : s.vm.findClass RX4 = some m.cls := findClass_of_methodNamed B.named
  have hlocks := B.notSynchronized
  have hP := hH
  have hS : va_S A s.heap s.heap [] := va_S.rf
  have hl := lv_entry ([.ref (q 0), .int (x)]) (n := 8) (Nat.le_of_ble_eq_true rfl)
  rw [lg_entry_eq]
  generalize (lg_sl ([.ref (q 0), .int (x)]) ++ List.replicate (8 - (lg_sl ([.ref (q 0), .int (x)])).length) Slot.unset).toArray = ls at hl ⊢
  have hl : lv_has ls 8 [(0, .ref (q 0)), (1, .int (x))] := hl
  refine lv_aload_n hx hb dX4_sync_0 rfl (lv_at hl 0 rfl) ?_
  refine lv_iload_n hx hb dX4_sync_1 rfl (lv_at hl 1 rfl) ?_
  refine roS1 (v := .int (b2i (iw (x) (nI (0)) (nI (1))))) (As := [.int (x)]) (rest := [.ref (q 0)]) (n := 1) ⟨hx, hb, hml, hown, htA⟩ (m_isClient l D cI cZ sa (x) s.heap ) (va_cwS 1 htA (gdS wd_873 wd_874 wd_5 wd_875) rfl rfl rfl (by decide +kernel) ⟨Nat.le_of_ble_eq_true rfl, Nat.le_of_ble_eq_true rfl⟩) hKK rfl hl.1 rfl (Nat.le_of_ble_eq_true rfl) dX4_sync_2 (Nat.zero_le _) (Nat.zero_le _) ?_
  refine b_ifeq (b := iw (x) (nI (0)) (nI (1))) (tgt := 12) hx hb dX4_sync_5 (by decide) (fun c_1 => ?_) (fun c_1 => ?_)
  rotate_left
  · exact absurd (c_1.symm.trans hbad) (by decide)
  refine n_iconst (k := 1) hx hb dX4_sync_12 (by decide) ?_
  refine wrV1 (v := .int (b2i (false))) (As := [.int (nI (1))]) (rest := []) (n := 1) ⟨hx, hb, hml, hown, htA⟩ (m_unfine l D cI cZ sa q μ 1 A (D_addr hD rfl) (by decide) (by decide)) (cwV 1 htA (gdV wd_735 wd_737 wp_9 wd_5 wd_738) rfl rfl rfl (by decide +kernel) ⟨Nat.le_of_ble_eq_true rfl, Nat.le_of_ble_eq_true rfl⟩) hKK hP 0 rfl rfl rfl hl.1 rfl (Nat.le_of_ble_eq_true rfl) dX4_sync_13 (Nat.zero_le _) (Nat.zero_le _) hS (fun _ h => h) (fun H1 locs hP1 hz1 hk1 hS => ?_)
  have hP : va_P D vwCl (wM q cI cZ (sv μ 0 2 (1))) H1 := hP1
  generalize H1 = H at hP hS ⊢
  refine b_ifne (b := false) (tgt := 21) hx hb dX4_sync_16 (by decide) (fun c_2 => ?_) (fun c_2 => ?_)
  · exact absurd c_2 (by decide)
  refine n_iconst (k := 0) hx hb dX4_sync_19 (by decide) ?_
  exact wr_i hx hb hr hlocks (rfl) hP hS dX4_sync_20
set_option maxHeartbeats 4000000 in
set_option maxRecDepth 100000 in
theorem r_sync_y0 (l : Launch) (D : va_G) (cI cZ : ClassId) (sa : Nat → Nat) (q : Nat → Nat) (μ : ST)  (A : Nat → Prop) (hD : va_D A (wM q cI cZ μ)) (hB : ∀ k i, μ k i < 1073741824) (hm0 : μ 0 0 ≤ 60) (hv9 : decide (μ 0 1 - (μ 15 0) ≤ 40) = true) (hsy : μ 15 0 ≤ μ 0 1) (hfl : μ 19 0 ≤ 10) (hs9 : μ 0 1 + μ 19 0 ≤ 2048) (hc20 : ∀ i, μ 20 i < 60) (hc21 : ∀ i, μ 21 i < 4) (hc22 : ∀ i, μ 22 i < 2) (h14 : μ 14 0 ≤ 10) (h23 : μ 23 0 < 1000000000) : Met l yX4_sync (codeW yX4_sync cX4_sync 8 (some .int)) ({ frames := 4, cells := 0, slots := 0, locals := 94 } : Room) (WrP D cI cZ sa (wM q cI cZ μ) [.ref (q 0), .int (nI (0))]) (WrQ (some (.int (nI ((sfin μ 0 true).2)))) D (wM q cI cZ (sye μ 0 true)) A) 0 0 A := by
  refine Met.ofW (cc := cX4_sync) (maxL := 8) (ret := (some .int)) (by decide) rfl ?_
  intro p e s m args below meth c s₁ B hml hv
  obtain ⟨rfl, hH, hKK⟩ := hv
  have hx := B.exec
  have hb := B.bytes
  have hr := B.returns
  have htA : ∀ w ∈ WA, w.before _ s = true := fun w h => atoms_spec (ws := (codeW yX4_sync cX4_sync 8 (some .int))) B.pre w (List.mem_cons_of_mem _ h)
  have hown : s.vm.findClass RX4 = some m.cls := findClass_of_methodNamed B.named
  have hlocks := B.notSynchronized
  have hP := hH
  have hS : va_S A s.heap s.heap [] := va_S.rf
  have hl := lv_entry ([.ref (q 0), .int (nI (0))]) (n := 8) (Nat.le_of_ble_eq_true rfl)
  rw [lg_entry_eq]
  generalize (lg_sl ([.ref (q 0), .int (nI (0))]) ++ List.replicate (8 - (lg_sl ([.ref (q 0), .int (nI (0))])).length) Slot.unset).toArray = ls at hl ⊢
  have hl : lv_has ls 8 [(0, .ref (q 0)), (1, .int (nI (0)))] := hl
  refine lv_aload_n hx hb dX4_sync_0 rfl (lv_at hl 0 rfl) ?_
  refine lv_iload_n hx hb dX4_sync_1 rfl (lv_at hl 1 rfl) ?_
  refine roS1 (v := .int (b2i (iw (nI (0)) (nI (0)) (nI (1))))) (As := [.int (nI (0))]) (rest := [.ref (q 0)]) (n := 1) ⟨hx, hb, hml, hown, htA⟩ (m_isClient l D cI cZ sa (nI (0)) s.heap ) (va_cwS 1 htA (gdS wd_873 wd_874 wd_5 wd_875) rfl rfl rfl (by decide +kernel) ⟨Nat.le_of_ble_eq_true rfl, Nat.le_of_ble_eq_true rfl⟩) hKK rfl hl.1 rfl (Nat.le_of_ble_eq_true rfl) dX4_sync_2 (Nat.zero_le _) (Nat.zero_le _) ?_
  refine b_ifeq (b := iw (nI (0)) (nI (0)) (nI (1))) (tgt := 12) hx hb dX4_sync_5 (by decide) (fun c_1 => ?_) (fun c_1 => ?_)
  · exact absurd (c_1.symm.trans (iw_n (by decide) (by decide) (by decide))) (by decide)
  refine n_iconst (k := 0) hx hb dX4_sync_8 (by decide) ?_
  refine lv_goto (tgt := 13) hx hb dX4_sync_9 (by decide) ?_
  refine wrV1 (v := .int (b2i (true))) (As := [.int (nI (0))]) (rest := []) (n := 1) ⟨hx, hb, hml, hown, htA⟩ (m_fine l D cI cZ sa q μ A (D_addr hD rfl) ) (cwV 1 htA (gdV wd_735 wd_737 wp_9 wd_5 wd_738) rfl rfl rfl (by decide +kernel) ⟨Nat.le_of_ble_eq_true rfl, Nat.le_of_ble_eq_true rfl⟩) hKK hP 0 rfl rfl rfl hl.1 rfl (Nat.le_of_ble_eq_true rfl) dX4_sync_13 (Nat.zero_le _) (Nat.zero_le _) hS (fun _ h => h) (fun H1 locs hP1 hz1 hk1 hS => ?_)
  have hP : va_P D vwCl (wM q cI cZ (sv μ 0 2 (0))) H1 := hP1
  generalize H1 = H at hP hS ⊢
  refine b_ifne (b := true) (tgt := 21) hx hb dX4_sync_16 (by decide) (fun c_2 => ?_) (fun c_2 => ?_)
  rotate_left
  · exact absurd c_2 (by decide)
  refine lv_aload_n hx hb dX4_sync_21 rfl (lv_at hl 0 rfl) ?_
  refine va_get (D := D) (ci := 4) (v := .ref (q 15)) (C := RX4) (T := TX4) (N := 26) hx hb htA uwX4 hown hKK.1 hP 0 rfl rfl 16 (by decide) (htA _ wd_661) (fun _ h9 => h9) rfl dX4_sync_22 ?_
  refine lv_iload_n hx hb dX4_sync_25 rfl (lv_at hl 1 rfl) ?_
  refine n_iald (g := μ 15) (cA := cI) (n := 2) (j := 0) hx hb hKK.1 hP 15 0 rfl rfl (by decide) (Nat.le_of_ble_eq_true rfl) dX4_sync_26 ?_
  refine lv_istore_n (lv' := [(2, .int (nI (μ 15 0))), (0, .ref (q 0)), (1, .int (nI (0)))]) hx hb dX4_sync_27 rfl hl (by decide) rfl (fun ls hl => ?_)
  refine lv_aload_n hx hb dX4_sync_28 rfl (lv_at hl 1 rfl) ?_
  refine va_get (D := D) (ci := 4) (v := .int (nI (μ 0 1))) (C := RX4) (T := TX4) (N := 26) hx hb htA uwX4 hown hKK.1 hP 0 rfl rfl 13 (by decide) (htA _ wd_658) (fun _ h9 => h9) rfl dX4_sync_29 ?_
  refine lv_istore_n (lv' := [(3, .int (nI (μ 0 1))), (2, .int (nI (μ 15 0))), (0, .ref (q 0)), (1, .int (nI (0)))]) hx hb dX4_sync_32 rfl hl (by decide) rfl (fun ls hl => ?_)
  refine lv_aload_n hx hb dX4_sync_33 rfl (lv_at hl 2 rfl) ?_
  refine lv_iload_n hx hb dX4_sync_34 rfl (lv_at hl 1 rfl) ?_
  refine roV1 (v := .int (b2i (decide (μ 0 1 - (μ 15 0) ≤ 40)))) (As := [.int (nI (μ 15 0))]) (rest := []) (n := 1) ⟨hx, hb, hml, hown, htA⟩ (m_tells l D cI cZ sa q (sv μ 0 2 (0)) (μ 15 0) H hP (sv_lt hB (by decide)) hm0 hsy) (cwV 1 htA (gdV wd_806 wd_808 wp_16 wd_5 wd_809) rfl rfl rfl (by decide +kernel) ⟨Nat.le_of_ble_eq_true rfl, Nat.le_of_ble_eq_true rfl⟩) hKK hP 0 rfl rfl rfl hl.1 rfl (Nat.le_of_ble_eq_true rfl) dX4_sync_35 (Nat.zero_le _) (Nat.zero_le _) ?_
  refine lv_istore (lv' := [(4, .int (b2i (decide (μ 0 1 - (μ 15 0) ≤ 40)))), (3, .int (nI (μ 0 1))), (2, .int (nI (μ 15 0))), (0, .ref (q 0)), (1, .int (nI (0)))]) hx hb dX4_sync_38 hl (by decide) rfl (fun ls hl => ?_)
  refine n_iconst (k := 0) hx hb dX4_sync_40 (by decide) ?_
  refine lv_istore (lv' := [(5, .int (nI (0))), (4, .int (b2i (decide (μ 0 1 - (μ 15 0) ≤ 40)))), (3, .int (nI (μ 0 1))), (2, .int (nI (μ 15 0))), (0, .ref (q 0)), (1, .int (nI (0)))]) hx hb dX4_sync_41 hl (by decide) rfl (fun ls hl => ?_)
  refine lv_bipush (v := nI 10) hx hb dX4_sync_43 (by decide) ?_
  refine lv_iload_n hx hb dX4_sync_45 rfl (lv_at hl 5 rfl) ?_
  refine n_imul hx hb dX4_sync_46 ?_
  refine lv_istore (lv' := [(6, .int (nI (10 * 0))), (5, .int (nI (0))), (4, .int (b2i (decide (μ 0 1 - (μ 15 0) ≤ 40)))), (3, .int (nI (μ 0 1))), (2, .int (nI (μ 15 0))), (0, .ref (q 0)), (1, .int (nI (0)))]) hx hb dX4_sync_47 hl (by decide) rfl (fun ls hl => ?_)
  have loop_49 : ∀ (n : Nat) (i cf : Nat) (ν : ST) (H : Heap) (locs : List Loc), (i + n = ν 19 0) → (ν 19 0 ≤ 10) → (∀ k i, ν k i < 1073741824) → (ν 0 0 ≤ 60) → (ν 0 1 + n ≤ 2048) → (∀ i, ν 20 i < 60) → (∀ i, ν 21 i < 4) → (∀ i, ν 22 i < 2) → (ν 14 0 ≤ 10) → (ν 23 0 < 1000000000) → (syf 0 (μ 15 0) (μ 0 1) true n i ν cf = sfin μ 0 true) → va_P D vwCl (wM q cI cZ ν) H → va_S A s.heap H locs → ∀ (ls : Array Slot), lv_has ls 8 [(0, .ref (q 0)), (1, .int (nI (0))), (2, .int (nI (μ 15 0))), (3, .int (nI (μ 0 1))), (4, .int (b2i (decide (μ 0 1 - (μ 15 0) ≤ 40)))), (5, .int (nI (cf))), (6, .int (nI (10 * 0 + i)))] → W p l e (headSpec (codeW yX4_sync cX4_sync 8 (some .int)) ({ frames := 4, cells := 0, slots := 0, locals := 94 } : Room)).room s m ([.ref (q 0), .int (nI (0))] : List Value).toArray below meth c H locs 0 0 (MQ below (WrQ (some (.int (nI ((sfin μ 0 true).2)))) D (wM q cI cZ (sye μ 0 true)) A) ([.ref (q 0), .int (nI (0))] : List Value).toArray s 0 0 A) (F0 m 49 ls []) := by
    intro n
    induction n with
    | zero =>
      intro i cf ν H locs hin h10f hBv hm0v hs9v hc20 hc21 hc22 h14v h23v hres hP hS ls hl
      refine lv_iload hx hb dX4_sync_49 (lv_at hl 6 rfl) ?_
      refine lv_bipush (v := nI 10) hx hb dX4_sync_51 (by decide) ?_
      refine lv_iload_n hx hb dX4_sync_53 rfl (lv_at hl 1 rfl) ?_
      refine n_imul hx hb dX4_sync_54 ?_
      refine lv_aload_n hx hb dX4_sync_55 rfl (lv_at hl 0 rfl) ?_
      refine va_get (D := D) (ci := 4) (v := .ref (q 19)) (C := RX4) (T := TX4) (N := 26) hx hb htA uwX4 hown hKK.1 hP 0 rfl rfl 20 (by decide) (htA _ wd_665) (fun _ h9 => h9) rfl dX4_sync_56 ?_
      refine lv_iload_n hx hb dX4_sync_59 rfl (lv_at hl 1 rfl) ?_
      refine n_iald (g := ν 19) (cA := cI) (n := 2) (j := 0) hx hb hKK.1 hP 19 0 rfl rfl (by decide) (Nat.le_of_ble_eq_true rfl) dX4_sync_60 ?_
      refine n_iadd hx hb dX4_sync_61 ?_
      refine n_icmp_ge (x := 10 * 0 + i) (y := (10 * 0) + (ν 19 0)) (tgt := 174) hx hb dX4_sync_62 (by decide) (by omega) (by omega) (fun c_3 => ?_) (fun c_3 => ?_)
      rotate_left
      · exfalso; omega
      refine lv_aload_n hx hb dX4_sync_174 rfl (lv_at hl 0 rfl) ?_
      refine va_get (D := D) (ci := 4) (v := .ref (q 23)) (C := RX4) (T := TX4) (N := 26) hx hb htA uwX4 hown hKK.1 hP 0 rfl rfl 24 (by decide) (htA _ wd_669) (fun _ h9 => h9) rfl dX4_sync_175 ?_
      refine lv_iload_n hx hb dX4_sync_178 rfl (lv_at hl 1 rfl) ?_
      refine lv_dup2_11 hx hb dX4_sync_179 rfl rfl ?_
      refine n_iald (g := ν 23) (cA := cI) (n := 2) (j := 0) hx hb hKK.1 hP 23 0 rfl rfl (by decide) (Nat.le_of_ble_eq_true rfl) dX4_sync_180 ?_
      refine lv_iload hx hb dX4_sync_181 (lv_at hl 4 rfl) ?_
      refine b_ifeq (b := decide (μ 0 1 - (μ 15 0) ≤ 40)) (tgt := 190) hx hb dX4_sync_183 (by decide) (fun c_4 => ?_) (fun c_4 => ?_)
      · exact absurd (c_4.symm.trans hv9) (by decide)
      refine n_iconst (k := 0) hx hb dX4_sync_186 (by decide) ?_
      refine lv_goto (tgt := 191) hx hb dX4_sync_187 (by decide) ?_
      refine n_iadd hx hb dX4_sync_191 ?_
      refine n_iast (g := ν 23) (cA := cI) (n := 2) (j := 0) (v := (ν 23 0) + 0) hx hb hKK.1 hP (D_addr hD rfl) hS 23 0 rfl rfl (by decide) (Nat.le_of_ble_eq_true rfl) dX4_sync_192 (fun H locs hP hS => ?_)
      have hP : va_P D vwCl (wM q cI cZ (su ν 23 (upN (ν 23) (0) ((ν 23 0) + 0)))) H := hP
      refine lv_aload_n hx hb dX4_sync_193 rfl (lv_at hl 0 rfl) ?_
      refine lv_iload_n hx hb dX4_sync_194 rfl (lv_at hl 1 rfl) ?_
      refine wrV0 (As := [.int (nI (0))]) (rest := []) (n := 1) ⟨hx, hb, hml, hown, htA⟩ (m_takes0 l D cI cZ sa q (su ν 23 (upN (ν 23) (0) ((ν 23 0) + 0))) A (D_addr hD rfl) (su_lt hBv (up_lt (hBv 23) (by omega))) hm0v h14v) (cwV 1 htA (gdV wd_892 wd_894 wp_26 wd_5 wd_895) rfl rfl rfl (by decide +kernel) ⟨Nat.le_of_ble_eq_true rfl, Nat.le_of_ble_eq_true rfl⟩) hKK hP 0 rfl rfl rfl hl.1 rfl (Nat.le_of_ble_eq_true rfl) dX4_sync_195 (Nat.zero_le _) (Nat.zero_le _) hS (fun _ h => h) (fun H1 locs hP1 hz1 hk1 hS => ?_)
      have hP : va_P D vwCl (wM q cI cZ (tke (su ν 23 (upN (ν 23) (0) ((ν 23 0) + 0))) 0)) H1 := hP1
      generalize H1 = H at hP hS ⊢
      refine lv_iload hx hb dX4_sync_198 (lv_at hl 5 rfl) ?_
      have e9 : ν = (sfin μ 0 true).1 := congrArg Prod.fst hres
      rw [e9] at hP
      exact wr_i hx hb hr hlocks (by rw [show cf = (sfin μ 0 true).2 from congrArg Prod.snd hres]) hP hS dX4_sync_200
    | succ n ih =>
      intro i cf ν H locs hin h10f hBv hm0v hs9v hc20 hc21 hc22 h14v h23v hres hP hS ls hl
      refine lv_iload hx hb dX4_sync_49 (lv_at hl 6 rfl) ?_
      refine lv_bipush (v := nI 10) hx hb dX4_sync_51 (by decide) ?_
      refine lv_iload_n hx hb dX4_sync_53 rfl (lv_at hl 1 rfl) ?_
      refine n_imul hx hb dX4_sync_54 ?_
      refine lv_aload_n hx hb dX4_sync_55 rfl (lv_at hl 0 rfl) ?_
      refine va_get (D := D) (ci := 4) (v := .ref (q 19)) (C := RX4) (T := TX4) (N := 26) hx hb htA uwX4 hown hKK.1 hP 0 rfl rfl 20 (by decide) (htA _ wd_665) (fun _ h9 => h9) rfl dX4_sync_56 ?_
      refine lv_iload_n hx hb dX4_sync_59 rfl (lv_at hl 1 rfl) ?_
      refine n_iald (g := ν 19) (cA := cI) (n := 2) (j := 0) hx hb hKK.1 hP 19 0 rfl rfl (by decide) (Nat.le_of_ble_eq_true rfl) dX4_sync_60 ?_
      refine n_iadd hx hb dX4_sync_61 ?_
      refine n_icmp_ge (x := 10 * 0 + i) (y := (10 * 0) + (ν 19 0)) (tgt := 174) hx hb dX4_sync_62 (by decide) (by omega) (by omega) (fun c_5 => ?_) (fun c_5 => ?_)
      · exfalso; omega
      refine lv_aload_n hx hb dX4_sync_65 rfl (lv_at hl 0 rfl) ?_
      refine va_get (D := D) (ci := 4) (v := .ref (q 6)) (C := RX4) (T := TX4) (N := 26) hx hb htA uwX4 hown hKK.1 hP 0 rfl rfl 5 (by decide) (htA _ wd_650) (fun _ h9 => h9) rfl dX4_sync_66 ?_
      refine lv_aload_n hx hb dX4_sync_69 rfl (lv_at hl 0 rfl) ?_
      refine va_get (D := D) (ci := 4) (v := .ref (q 20)) (C := RX4) (T := TX4) (N := 26) hx hb htA uwX4 hown hKK.1 hP 0 rfl rfl 21 (by decide) (htA _ wd_666) (fun _ h9 => h9) rfl dX4_sync_70 ?_
      refine lv_iload hx hb dX4_sync_73 (lv_at hl 6 rfl) ?_
      refine n_iald (g := ν 20) (cA := cI) (n := 20) (j := 10 * 0 + i) hx hb hKK.1 hP 20 0 rfl rfl (by omega) (Nat.le_of_ble_eq_true rfl) dX4_sync_75 ?_
      refine n_iald (g := ν 6) (cA := cI) (n := 60) (j := ν 20 (10 * 0 + i)) hx hb hKK.1 hP 6 0 rfl rfl (hc20 _) (Nat.le_of_ble_eq_true rfl) dX4_sync_76 ?_
      refine n_ifgt (x := ν 6 (ν 20 (10 * 0 + i))) (tgt := 115) hx hb dX4_sync_77 (by decide) (Nat.lt_trans (hBv 6 (ν 20 (10 * 0 + i))) (by decide)) (fun c_6 => ?_) (fun c_6 => ?_)
      · refine n_iconst (k := 1) hx hb dX4_sync_115 (by decide) ?_
        refine lv_goto (tgt := 120) hx hb dX4_sync_116 (by decide) ?_
        refine lv_istore (lv' := [(7, .int (nI (1))), (0, .ref (q 0)), (1, .int (nI (0))), (2, .int (nI (μ 15 0))), (3, .int (nI (μ 0 1))), (4, .int (b2i (decide (μ 0 1 - (μ 15 0) ≤ 40)))), (5, .int (nI (cf))), (6, .int (nI (10 * 0 + i)))]) hx hb dX4_sync_120 hl (by decide) rfl (fun ls hl => ?_)
        refine lv_iload hx hb dX4_sync_122 (lv_at hl 6 rfl) ?_
        refine lv_iload hx hb dX4_sync_124 (lv_at hl 0 rfl) ?_
        refine b_ifeq (b := true) (tgt := 133) hx hb dX4_sync_126 (by decide) (fun c_7 => ?_) (fun c_7 => ?_)
        · exact absurd c_7 (by decide)
        refine n_iconst (k := 1) hx hb dX4_sync_129 (by decide) ?_
        refine lv_goto (tgt := 134) hx hb dX4_sync_130 (by decide) ?_
        refine n_iadd hx hb dX4_sync_134 ?_
        refine lv_istore (lv' := [(5, .int (nI (cf + 1))), (7, .int (nI (1))), (0, .ref (q 0)), (1, .int (nI (0))), (2, .int (nI (μ 15 0))), (3, .int (nI (μ 0 1))), (4, .int (b2i (decide (μ 0 1 - (μ 15 0) ≤ 40)))), (6, .int (nI (10 * 0 + i)))]) hx hb dX4_sync_135 hl (by decide) rfl (fun ls hl => ?_)
        refine lv_iload hx hb dX4_sync_137 (lv_at hl 1 rfl) ?_
        refine b_ifne (b := true) (tgt := 168) hx hb dX4_sync_139 (by decide) (fun c_8 => ?_) (fun c_8 => ?_)
        rotate_left
        · exact absurd c_8 (by decide)
        refine lv_iinc (v := nI (10 * 0 + i + 1)) (lv' := [(6, .int (nI (10 * 0 + i + 1))), (5, .int (nI (cf + 1))), (7, .int (nI (1))), (0, .ref (q 0)), (1, .int (nI (0))), (2, .int (nI (μ 15 0))), (3, .int (nI (μ 0 1))), (4, .int (b2i (decide (μ 0 1 - (μ 15 0) ≤ 40))))]) hx hb dX4_sync_168 hl (k := 7) rfl (n_inc (10 * 0 + i) 1 rfl) (by decide) rfl (fun ls hl => ?_)
        refine lv_goto (tgt := 49) hx hb dX4_sync_171 (by decide) ?_
        exact ih (i + 1) (cf + 1) ν _ _ (by omega) h10f hBv hm0v (by omega) hc20 hc21 hc22 h14v h23v (by rw [← hres]; simp only [syf]; rw [show icm ν (μ 15 0) (μ 0 1) true (ν 20 (10 * 0 + i)) (ν 21 (10 * 0 + i)) (ν 22 (10 * 0 + i)) = true from by unfold icm; rw [decide_eq_false (by omega)]; rfl]; rfl) hP hS ls (lv_sub hl [3, 4, 5, 6, 7, 1, 0] rfl)
      · refine lv_iload hx hb dX4_sync_80 (lv_at hl 4 rfl) ?_
        refine b_ifeq (b := decide (μ 0 1 - (μ 15 0) ≤ 40)) (tgt := 119) hx hb dX4_sync_82 (by decide) (fun c_9 => ?_) (fun c_9 => ?_)
        · exact absurd (c_9.symm.trans hv9) (by decide)
        refine lv_aload_n hx hb dX4_sync_85 rfl (lv_at hl 0 rfl) ?_
        refine lv_aload_n hx hb dX4_sync_86 rfl (lv_at hl 0 rfl) ?_
        refine va_get (D := D) (ci := 4) (v := .ref (q 20)) (C := RX4) (T := TX4) (N := 26) hx hb htA uwX4 hown hKK.1 hP 0 rfl rfl 21 (by decide) (htA _ wd_666) (fun _ h9 => h9) rfl dX4_sync_87 ?_
        refine lv_iload hx hb dX4_sync_90 (lv_at hl 6 rfl) ?_
        refine n_iald (g := ν 20) (cA := cI) (n := 20) (j := 10 * 0 + i) hx hb hKK.1 hP 20 0 rfl rfl (by omega) (Nat.le_of_ble_eq_true rfl) dX4_sync_92 ?_
        refine lv_aload_n hx hb dX4_sync_93 rfl (lv_at hl 0 rfl) ?_
        refine va_get (D := D) (ci := 4) (v := .ref (q 21)) (C := RX4) (T := TX4) (N := 26) hx hb htA uwX4 hown hKK.1 hP 0 rfl rfl 22 (by decide) (htA _ wd_667) (fun _ h9 => h9) rfl dX4_sync_94 ?_
        refine lv_iload hx hb dX4_sync_97 (lv_at hl 6 rfl) ?_
        refine n_iald (g := ν 21) (cA := cI) (n := 20) (j := 10 * 0 + i) hx hb hKK.1 hP 21 0 rfl rfl (by omega) (Nat.le_of_ble_eq_true rfl) dX4_sync_99 ?_
        refine lv_aload_n hx hb dX4_sync_100 rfl (lv_at hl 0 rfl) ?_
        refine va_get (D := D) (ci := 4) (v := .ref (q 22)) (C := RX4) (T := TX4) (N := 26) hx hb htA uwX4 hown hKK.1 hP 0 rfl rfl 23 (by decide) (htA _ wd_668) (fun _ h9 => h9) rfl dX4_sync_101 ?_
        refine lv_iload hx hb dX4_sync_104 (lv_at hl 6 rfl) ?_
        refine n_zald (g := ν 22) (cA := cZ) (n := 20) (j := 10 * 0 + i) hx hb hKK.1 hP 22 1 rfl rfl (by omega) (Nat.le_of_ble_eq_true rfl) dX4_sync_106 ?_
        refine lv_iload_n hx hb dX4_sync_107 rfl (lv_at hl 2 rfl) ?_
        refine lv_iload_n hx hb dX4_sync_108 rfl (lv_at hl 3 rfl) ?_
        refine roV1 (v := .int (b2i (iso ν (ν 20 (10 * 0 + i)) (ν 21 (10 * 0 + i)) (ν 22 (10 * 0 + i)) (μ 15 0) (μ 0 1 - μ 15 0)))) (As := [.int (nI (ν 20 (10 * 0 + i))), .int (nI (ν 21 (10 * 0 + i))), .int (nI (ν 22 (10 * 0 + i))), .int (nI (μ 15 0)), .int (nI (μ 0 1))]) (rest := []) (n := 5) ⟨hx, hb, hml, hown, htA⟩ (m_isOtherwise l D cI cZ sa q ν (ν 20 (10 * 0 + i)) (ν 21 (10 * 0 + i)) (ν 22 (10 * 0 + i)) (μ 15 0) (μ 0 1) H hP hBv hm0v (hc20 _) (Nat.lt_trans (hc21 _) (by decide)) (hc22 _) hsy (by omega)) (cwV 5 htA (gdV wd_888 wd_890 wp_25 wd_5 wd_891) rfl rfl rfl (by decide +kernel) ⟨Nat.le_of_ble_eq_true rfl, Nat.le_of_ble_eq_true rfl⟩) hKK hP 0 rfl rfl rfl hl.1 rfl (Nat.le_of_ble_eq_true rfl) dX4_sync_109 (Nat.zero_le _) (Nat.zero_le _) ?_
        refine b_ifeq (b := iso ν (ν 20 (10 * 0 + i)) (ν 21 (10 * 0 + i)) (ν 22 (10 * 0 + i)) (μ 15 0) (μ 0 1 - μ 15 0)) (tgt := 119) hx hb dX4_sync_112 (by decide) (fun c_10 => ?_) (fun c_10 => ?_)
        · refine n_iconst (k := 0) hx hb dX4_sync_119 (by decide) ?_
          refine lv_istore (lv' := [(7, .int (nI (0))), (0, .ref (q 0)), (1, .int (nI (0))), (2, .int (nI (μ 15 0))), (3, .int (nI (μ 0 1))), (4, .int (b2i (decide (μ 0 1 - (μ 15 0) ≤ 40)))), (5, .int (nI (cf))), (6, .int (nI (10 * 0 + i)))]) hx hb dX4_sync_120 hl (by decide) rfl (fun ls hl => ?_)
          refine lv_iload hx hb dX4_sync_122 (lv_at hl 6 rfl) ?_
          refine lv_iload hx hb dX4_sync_124 (lv_at hl 0 rfl) ?_
          refine b_ifeq (b := false) (tgt := 133) hx hb dX4_sync_126 (by decide) (fun c_11 => ?_) (fun c_11 => ?_)
          rotate_left
          · exact absurd c_11 (by decide)
          refine n_iconst (k := 0) hx hb dX4_sync_133 (by decide) ?_
          refine n_iadd hx hb dX4_sync_134 ?_
          refine lv_istore (lv' := [(5, .int (nI (cf + 0))), (7, .int (nI (0))), (0, .ref (q 0)), (1, .int (nI (0))), (2, .int (nI (μ 15 0))), (3, .int (nI (μ 0 1))), (4, .int (b2i (decide (μ 0 1 - (μ 15 0) ≤ 40)))), (6, .int (nI (10 * 0 + i)))]) hx hb dX4_sync_135 hl (by decide) rfl (fun ls hl => ?_)
          refine lv_iload hx hb dX4_sync_137 (lv_at hl 1 rfl) ?_
          refine b_ifne (b := false) (tgt := 168) hx hb dX4_sync_139 (by decide) (fun c_12 => ?_) (fun c_12 => ?_)
          · exact absurd c_12 (by decide)
          refine lv_aload_n hx hb dX4_sync_142 rfl (lv_at hl 2 rfl) ?_
          refine lv_aload_n hx hb dX4_sync_143 rfl (lv_at hl 2 rfl) ?_
          refine va_get (D := D) (ci := 4) (v := .ref (q 20)) (C := RX4) (T := TX4) (N := 26) hx hb htA uwX4 hown hKK.1 hP 0 rfl rfl 21 (by decide) (htA _ wd_666) (fun _ h9 => h9) rfl dX4_sync_144 ?_
          refine lv_iload hx hb dX4_sync_147 (lv_at hl 7 rfl) ?_
          refine n_iald (g := ν 20) (cA := cI) (n := 20) (j := 10 * 0 + i) hx hb hKK.1 hP 20 0 rfl rfl (by omega) (Nat.le_of_ble_eq_true rfl) dX4_sync_149 ?_
          refine lv_aload_n hx hb dX4_sync_150 rfl (lv_at hl 2 rfl) ?_
          refine va_get (D := D) (ci := 4) (v := .ref (q 21)) (C := RX4) (T := TX4) (N := 26) hx hb htA uwX4 hown hKK.1 hP 0 rfl rfl 22 (by decide) (htA _ wd_667) (fun _ h9 => h9) rfl dX4_sync_151 ?_
          refine lv_iload hx hb dX4_sync_154 (lv_at hl 7 rfl) ?_
          refine n_iald (g := ν 21) (cA := cI) (n := 20) (j := 10 * 0 + i) hx hb hKK.1 hP 21 0 rfl rfl (by omega) (Nat.le_of_ble_eq_true rfl) dX4_sync_156 ?_
          refine lv_aload_n hx hb dX4_sync_157 rfl (lv_at hl 2 rfl) ?_
          refine va_get (D := D) (ci := 4) (v := .ref (q 22)) (C := RX4) (T := TX4) (N := 26) hx hb htA uwX4 hown hKK.1 hP 0 rfl rfl 23 (by decide) (htA _ wd_668) (fun _ h9 => h9) rfl dX4_sync_158 ?_
          refine lv_iload hx hb dX4_sync_161 (lv_at hl 7 rfl) ?_
          refine n_zald (g := ν 22) (cA := cZ) (n := 20) (j := 10 * 0 + i) hx hb hKK.1 hP 22 1 rfl rfl (by omega) (Nat.le_of_ble_eq_true rfl) dX4_sync_163 ?_
          refine wrV1 (v := .int (b2i (!decide (hs (ν 3 (ν 20 (10 * 0 + i))) (ν 21 (10 * 0 + i)) = nb (ν 22 (10 * 0 + i)))))) (As := [.int (nI (ν 20 (10 * 0 + i))), .int (nI (ν 21 (10 * 0 + i))), .int (nI (ν 22 (10 * 0 + i)))]) (rest := []) (n := 3) ⟨hx, hb, hml, hown, htA⟩ (m_flags l D cI cZ sa q ν (ν 20 (10 * 0 + i)) (ν 21 (10 * 0 + i)) (ν 22 (10 * 0 + i)) A (D_addr hD rfl) hBv hm0v (by omega) (hc20 _) (hc22 _) (Nat.lt_trans (hc21 _) (by decide))) (cwV 3 htA (gdV wd_755 wd_757 wp_12 wd_5 wd_758) rfl rfl rfl (by decide +kernel) ⟨Nat.le_of_ble_eq_true rfl, Nat.le_of_ble_eq_true rfl⟩) hKK hP 0 rfl rfl rfl hl.1 rfl (Nat.le_of_ble_eq_true rfl) dX4_sync_164 (Nat.zero_le _) (Nat.zero_le _) hS (fun _ h => h) (fun H1 locs hP1 hz1 hk1 hS => ?_)
          have hP : va_P D vwCl (wM q cI cZ (flw ν (ν 20 (10 * 0 + i)) (ν 21 (10 * 0 + i)) (ν 22 (10 * 0 + i)))) H1 := hP1
          generalize H1 = H at hP hS ⊢
          refine lv_pop hx hb dX4_sync_167 rfl ?_
          refine lv_iinc (v := nI (10 * 0 + i + 1)) (lv' := [(6, .int (nI (10 * 0 + i + 1))), (5, .int (nI (cf + 0))), (7, .int (nI (0))), (0, .ref (q 0)), (1, .int (nI (0))), (2, .int (nI (μ 15 0))), (3, .int (nI (μ 0 1))), (4, .int (b2i (decide (μ 0 1 - (μ 15 0) ≤ 40))))]) hx hb dX4_sync_168 hl (k := 7) rfl (n_inc (10 * 0 + i) 1 rfl) (by decide) rfl (fun ls hl => ?_)
          refine lv_goto (tgt := 49) hx hb dX4_sync_171 (by decide) ?_
          exact ih (i + 1) cf (flw ν (ν 20 (10 * 0 + i)) (ν 21 (10 * 0 + i)) (ν 22 (10 * 0 + i))) _ _ (by rw [flw_c rfl]; omega) (by rw [flw_c rfl]; exact h10f) (flw_lt hBv (hc20 _) (hc21 _) (hc22 _) (by omega)) (by rw [flw_00]; exact hm0v) (Nat.le_trans (Nat.add_le_add_right flw_01 n) (by omega)) (by rw [flw_c rfl]; exact hc20) (by rw [flw_c rfl]; exact hc21) (by rw [flw_c rfl]; exact hc22) (by rw [flw_c rfl]; exact h14v) (by rw [flw_c rfl]; exact h23v) (by rw [← hres]; simp only [syf]; rw [show icm ν (μ 15 0) (μ 0 1) true (ν 20 (10 * 0 + i)) (ν 21 (10 * 0 + i)) (ν 22 (10 * 0 + i)) = false from by unfold icm; rw [decide_eq_true (by omega), c_10]; rfl]; rfl) hP hS ls (lv_sub hl [3, 4, 5, 6, 7, 1, 0] rfl)
        · refine n_iconst (k := 1) hx hb dX4_sync_115 (by decide) ?_
          refine lv_goto (tgt := 120) hx hb dX4_sync_116 (by decide) ?_
          refine lv_istore (lv' := [(7, .int (nI (1))), (0, .ref (q 0)), (1, .int (nI (0))), (2, .int (nI (μ 15 0))), (3, .int (nI (μ 0 1))), (4, .int (b2i (decide (μ 0 1 - (μ 15 0) ≤ 40)))), (5, .int (nI (cf))), (6, .int (nI (10 * 0 + i)))]) hx hb dX4_sync_120 hl (by decide) rfl (fun ls hl => ?_)
          refine lv_iload hx hb dX4_sync_122 (lv_at hl 6 rfl) ?_
          refine lv_iload hx hb dX4_sync_124 (lv_at hl 0 rfl) ?_
          refine b_ifeq (b := true) (tgt := 133) hx hb dX4_sync_126 (by decide) (fun c_13 => ?_) (fun c_13 => ?_)
          · exact absurd c_13 (by decide)
          refine n_iconst (k := 1) hx hb dX4_sync_129 (by decide) ?_
          refine lv_goto (tgt := 134) hx hb dX4_sync_130 (by decide) ?_
          refine n_iadd hx hb dX4_sync_134 ?_
          refine lv_istore (lv' := [(5, .int (nI (cf + 1))), (7, .int (nI (1))), (0, .ref (q 0)), (1, .int (nI (0))), (2, .int (nI (μ 15 0))), (3, .int (nI (μ 0 1))), (4, .int (b2i (decide (μ 0 1 - (μ 15 0) ≤ 40)))), (6, .int (nI (10 * 0 + i)))]) hx hb dX4_sync_135 hl (by decide) rfl (fun ls hl => ?_)
          refine lv_iload hx hb dX4_sync_137 (lv_at hl 1 rfl) ?_
          refine b_ifne (b := true) (tgt := 168) hx hb dX4_sync_139 (by decide) (fun c_14 => ?_) (fun c_14 => ?_)
          rotate_left
          · exact absurd c_14 (by decide)
          refine lv_iinc (v := nI (10 * 0 + i + 1)) (lv' := [(6, .int (nI (10 * 0 + i + 1))), (5, .int (nI (cf + 1))), (7, .int (nI (1))), (0, .ref (q 0)), (1, .int (nI (0))), (2, .int (nI (μ 15 0))), (3, .int (nI (μ 0 1))), (4, .int (b2i (decide (μ 0 1 - (μ 15 0) ≤ 40))))]) hx hb dX4_sync_168 hl (k := 7) rfl (n_inc (10 * 0 + i) 1 rfl) (by decide) rfl (fun ls hl => ?_)
          refine lv_goto (tgt := 49) hx hb dX4_sync_171 (by decide) ?_
          exact ih (i + 1) (cf + 1) ν _ _ (by omega) h10f hBv hm0v (by omega) hc20 hc21 hc22 h14v h23v (by rw [← hres]; simp only [syf]; rw [show icm ν (μ 15 0) (μ 0 1) true (ν 20 (10 * 0 + i)) (ν 21 (10 * 0 + i)) (ν 22 (10 * 0 + i)) = true from by unfold icm; rw [decide_eq_true (by omega), c_10]; rfl]; rfl) hP hS ls (lv_sub hl [3, 4, 5, 6, 7, 1, 0] rfl)
  exact loop_49 (μ 19 0) 0 0 (sv μ 0 2 0) _ _ (Nat.zero_add _) hfl (sv_lt hB (by decide)) hm0 hs9 hc20 hc21 hc22 h14 h23 rfl hP hS ls (lv_sub hl [5, 6, 4, 3, 2, 1, 0] rfl)
set_option maxHeartbeats 4000000 in
set_option maxRecDepth 100000 in
theorem r_sync_n0 (l : Launch) (D : va_G) (cI cZ : ClassId) (sa : Nat → Nat) (q : Nat → Nat) (μ : ST)  (A : Nat → Prop) (hD : va_D A (wM q cI cZ μ)) (hB : ∀ k i, μ k i < 1073741824) (hm0 : μ 0 0 ≤ 60) (hv9 : decide (μ 0 1 - (μ 15 0) ≤ 40) = false) (hsy : μ 15 0 ≤ μ 0 1) (hfl : μ 19 0 ≤ 10) (hs9 : μ 0 1 + μ 19 0 ≤ 2048) (hc20 : ∀ i, μ 20 i < 60) (hc21 : ∀ i, μ 21 i < 4) (hc22 : ∀ i, μ 22 i < 2) (h14 : μ 14 0 ≤ 10) (h23 : μ 23 0 < 1000000000) : Met l yX4_sync (codeW yX4_sync cX4_sync 8 (some .int)) ({ frames := 4, cells := 0, slots := 0, locals := 94 } : Room) (WrP D cI cZ sa (wM q cI cZ μ) [.ref (q 0), .int (nI (0))]) (WrQ (some (.int (nI ((sfin μ 0 false).2)))) D (wM q cI cZ (sye μ 0 false)) A) 0 0 A := by
  refine Met.ofW (cc := cX4_sync) (maxL := 8) (ret := (some .int)) (by decide) rfl ?_
  intro p e s m args below meth c s₁ B hml hv
  obtain ⟨rfl, hH, hKK⟩ := hv
  have hx := B.exec
  have hb := B.bytes
  have hr := B.returns
  have htA : ∀ w ∈ WA, w.before _ s = true := fun w h => atoms_spec (ws := (codeW yX4_sync cX4_sync 8 (some .int))) B.pre w (List.mem_cons_of_mem _ h)
  have hown : s.vm.findClass RX4 = some m.cls := findClass_of_methodNamed B.named
  have hlocks := B.notSynchronized
  have hP := hH
  have hS : va_S A s.heap s.heap [] := va_S.rf
  have hl := lv_entry ([.ref (q 0), .int (nI (0))]) (n := 8) (Nat.le_of_ble_eq_true rfl)
  rw [lg_entry_eq]
  generalize (lg_sl ([.ref (q 0), .int (nI (0))]) ++ List.replicate (8 - (lg_sl ([.ref (q 0), .int (nI (0))])).length) Slot.unset).toArray = ls at hl ⊢
  have hl : lv_has ls 8 [(0, .ref (q 0)), (1, .int (nI (0)))] := hl
  refine lv_aload_n hx hb dX4_sync_0 rfl (lv_at hl 0 rfl) ?_
  refine lv_iload_n hx hb dX4_sync_1 rfl (lv_at hl 1 rfl) ?_
  refine roS1 (v := .int (b2i (iw (nI (0)) (nI (0)) (nI (1))))) (As := [.int (nI (0))]) (rest := [.ref (q 0)]) (n := 1) ⟨hx, hb, hml, hown, htA⟩ (m_isClient l D cI cZ sa (nI (0)) s.heap ) (va_cwS 1 htA (gdS wd_873 wd_874 wd_5 wd_875) rfl rfl rfl (by decide +kernel) ⟨Nat.le_of_ble_eq_true rfl, Nat.le_of_ble_eq_true rfl⟩) hKK rfl hl.1 rfl (Nat.le_of_ble_eq_true rfl) dX4_sync_2 (Nat.zero_le _) (Nat.zero_le _) ?_
  refine b_ifeq (b := iw (nI (0)) (nI (0)) (nI (1))) (tgt := 12) hx hb dX4_sync_5 (by decide) (fun c_1 => ?_) (fun c_1 => ?_)
  · exact absurd (c_1.symm.trans (iw_n (by decide) (by decide) (by decide))) (by decide)
  refine n_iconst (k := 0) hx hb dX4_sync_8 (by decide) ?_
  refine lv_goto (tgt := 13) hx hb dX4_sync_9 (by decide) ?_
  refine wrV1 (v := .int (b2i (true))) (As := [.int (nI (0))]) (rest := []) (n := 1) ⟨hx, hb, hml, hown, htA⟩ (m_fine l D cI cZ sa q μ A (D_addr hD rfl) ) (cwV 1 htA (gdV wd_735 wd_737 wp_9 wd_5 wd_738) rfl rfl rfl (by decide +kernel) ⟨Nat.le_of_ble_eq_true rfl, Nat.le_of_ble_eq_true rfl⟩) hKK hP 0 rfl rfl rfl hl.1 rfl (Nat.le_of_ble_eq_true rfl) dX4_sync_13 (Nat.zero_le _) (Nat.zero_le _) hS (fun _ h => h) (fun H1 locs hP1 hz1 hk1 hS => ?_)
  have hP : va_P D vwCl (wM q cI cZ (sv μ 0 2 (0))) H1 := hP1
  generalize H1 = H at hP hS ⊢
  refine b_ifne (b := true) (tgt := 21) hx hb dX4_sync_16 (by decide) (fun c_2 => ?_) (fun c_2 => ?_)
  rotate_left
  · exact absurd c_2 (by decide)
  refine lv_aload_n hx hb dX4_sync_21 rfl (lv_at hl 0 rfl) ?_
  refine va_get (D := D) (ci := 4) (v := .ref (q 15)) (C := RX4) (T := TX4) (N := 26) hx hb htA uwX4 hown hKK.1 hP 0 rfl rfl 16 (by decide) (htA _ wd_661) (fun _ h9 => h9) rfl dX4_sync_22 ?_
  refine lv_iload_n hx hb dX4_sync_25 rfl (lv_at hl 1 rfl) ?_
  refine n_iald (g := μ 15) (cA := cI) (n := 2) (j := 0) hx hb hKK.1 hP 15 0 rfl rfl (by decide) (Nat.le_of_ble_eq_true rfl) dX4_sync_26 ?_
  refine lv_istore_n (lv' := [(2, .int (nI (μ 15 0))), (0, .ref (q 0)), (1, .int (nI (0)))]) hx hb dX4_sync_27 rfl hl (by decide) rfl (fun ls hl => ?_)
  refine lv_aload_n hx hb dX4_sync_28 rfl (lv_at hl 1 rfl) ?_
  refine va_get (D := D) (ci := 4) (v := .int (nI (μ 0 1))) (C := RX4) (T := TX4) (N := 26) hx hb htA uwX4 hown hKK.1 hP 0 rfl rfl 13 (by decide) (htA _ wd_658) (fun _ h9 => h9) rfl dX4_sync_29 ?_
  refine lv_istore_n (lv' := [(3, .int (nI (μ 0 1))), (2, .int (nI (μ 15 0))), (0, .ref (q 0)), (1, .int (nI (0)))]) hx hb dX4_sync_32 rfl hl (by decide) rfl (fun ls hl => ?_)
  refine lv_aload_n hx hb dX4_sync_33 rfl (lv_at hl 2 rfl) ?_
  refine lv_iload_n hx hb dX4_sync_34 rfl (lv_at hl 1 rfl) ?_
  refine roV1 (v := .int (b2i (decide (μ 0 1 - (μ 15 0) ≤ 40)))) (As := [.int (nI (μ 15 0))]) (rest := []) (n := 1) ⟨hx, hb, hml, hown, htA⟩ (m_tells l D cI cZ sa q (sv μ 0 2 (0)) (μ 15 0) H hP (sv_lt hB (by decide)) hm0 hsy) (cwV 1 htA (gdV wd_806 wd_808 wp_16 wd_5 wd_809) rfl rfl rfl (by decide +kernel) ⟨Nat.le_of_ble_eq_true rfl, Nat.le_of_ble_eq_true rfl⟩) hKK hP 0 rfl rfl rfl hl.1 rfl (Nat.le_of_ble_eq_true rfl) dX4_sync_35 (Nat.zero_le _) (Nat.zero_le _) ?_
  refine lv_istore (lv' := [(4, .int (b2i (decide (μ 0 1 - (μ 15 0) ≤ 40)))), (3, .int (nI (μ 0 1))), (2, .int (nI (μ 15 0))), (0, .ref (q 0)), (1, .int (nI (0)))]) hx hb dX4_sync_38 hl (by decide) rfl (fun ls hl => ?_)
  refine n_iconst (k := 0) hx hb dX4_sync_40 (by decide) ?_
  refine lv_istore (lv' := [(5, .int (nI (0))), (4, .int (b2i (decide (μ 0 1 - (μ 15 0) ≤ 40)))), (3, .int (nI (μ 0 1))), (2, .int (nI (μ 15 0))), (0, .ref (q 0)), (1, .int (nI (0)))]) hx hb dX4_sync_41 hl (by decide) rfl (fun ls hl => ?_)
  refine lv_bipush (v := nI 10) hx hb dX4_sync_43 (by decide) ?_
  refine lv_iload_n hx hb dX4_sync_45 rfl (lv_at hl 5 rfl) ?_
  refine n_imul hx hb dX4_sync_46 ?_
  refine lv_istore (lv' := [(6, .int (nI (10 * 0))), (5, .int (nI (0))), (4, .int (b2i (decide (μ 0 1 - (μ 15 0) ≤ 40)))), (3, .int (nI (μ 0 1))), (2, .int (nI (μ 15 0))), (0, .ref (q 0)), (1, .int (nI (0)))]) hx hb dX4_sync_47 hl (by decide) rfl (fun ls hl => ?_)
  have loop_49 : ∀ (n : Nat) (i cf : Nat) (ν : ST) (H : Heap) (locs : List Loc), (i + n = ν 19 0) → (ν 19 0 ≤ 10) → (∀ k i, ν k i < 1073741824) → (ν 0 0 ≤ 60) → (ν 0 1 + n ≤ 2048) → (∀ i, ν 20 i < 60) → (∀ i, ν 21 i < 4) → (∀ i, ν 22 i < 2) → (ν 14 0 ≤ 10) → (ν 23 0 < 1000000000) → (syf 0 (μ 15 0) (μ 0 1) false n i ν cf = sfin μ 0 false) → va_P D vwCl (wM q cI cZ ν) H → va_S A s.heap H locs → ∀ (ls : Array Slot), lv_has ls 8 [(0, .ref (q 0)), (1, .int (nI (0))), (2, .int (nI (μ 15 0))), (3, .int (nI (μ 0 1))), (4, .int (b2i (decide (μ 0 1 - (μ 15 0) ≤ 40)))), (5, .int (nI (cf))), (6, .int (nI (10 * 0 + i)))] → W p l e (headSpec (codeW yX4_sync cX4_sync 8 (some .int)) ({ frames := 4, cells := 0, slots := 0, locals := 94 } : Room)).room s m ([.ref (q 0), .int (nI (0))] : List Value).toArray below meth c H locs 0 0 (MQ below (WrQ (some (.int (nI ((sfin μ 0 false).2)))) D (wM q cI cZ (sye μ 0 false)) A) ([.ref (q 0), .int (nI (0))] : List Value).toArray s 0 0 A) (F0 m 49 ls []) := by
    intro n
    induction n with
    | zero =>
      intro i cf ν H locs hin h10f hBv hm0v hs9v hc20 hc21 hc22 h14v h23v hres hP hS ls hl
      refine lv_iload hx hb dX4_sync_49 (lv_at hl 6 rfl) ?_
      refine lv_bipush (v := nI 10) hx hb dX4_sync_51 (by decide) ?_
      refine lv_iload_n hx hb dX4_sync_53 rfl (lv_at hl 1 rfl) ?_
      refine n_imul hx hb dX4_sync_54 ?_
      refine lv_aload_n hx hb dX4_sync_55 rfl (lv_at hl 0 rfl) ?_
      refine va_get (D := D) (ci := 4) (v := .ref (q 19)) (C := RX4) (T := TX4) (N := 26) hx hb htA uwX4 hown hKK.1 hP 0 rfl rfl 20 (by decide) (htA _ wd_665) (fun _ h9 => h9) rfl dX4_sync_56 ?_
      refine lv_iload_n hx hb dX4_sync_59 rfl (lv_at hl 1 rfl) ?_
      refine n_iald (g := ν 19) (cA := cI) (n := 2) (j := 0) hx hb hKK.1 hP 19 0 rfl rfl (by decide) (Nat.le_of_ble_eq_true rfl) dX4_sync_60 ?_
      refine n_iadd hx hb dX4_sync_61 ?_
      refine n_icmp_ge (x := 10 * 0 + i) (y := (10 * 0) + (ν 19 0)) (tgt := 174) hx hb dX4_sync_62 (by decide) (by omega) (by omega) (fun c_3 => ?_) (fun c_3 => ?_)
      rotate_left
      · exfalso; omega
      refine lv_aload_n hx hb dX4_sync_174 rfl (lv_at hl 0 rfl) ?_
      refine va_get (D := D) (ci := 4) (v := .ref (q 23)) (C := RX4) (T := TX4) (N := 26) hx hb htA uwX4 hown hKK.1 hP 0 rfl rfl 24 (by decide) (htA _ wd_669) (fun _ h9 => h9) rfl dX4_sync_175 ?_
      refine lv_iload_n hx hb dX4_sync_178 rfl (lv_at hl 1 rfl) ?_
      refine lv_dup2_11 hx hb dX4_sync_179 rfl rfl ?_
      refine n_iald (g := ν 23) (cA := cI) (n := 2) (j := 0) hx hb hKK.1 hP 23 0 rfl rfl (by decide) (Nat.le_of_ble_eq_true rfl) dX4_sync_180 ?_
      refine lv_iload hx hb dX4_sync_181 (lv_at hl 4 rfl) ?_
      refine b_ifeq (b := decide (μ 0 1 - (μ 15 0) ≤ 40)) (tgt := 190) hx hb dX4_sync_183 (by decide) (fun c_4 => ?_) (fun c_4 => ?_)
      rotate_left
      · exact absurd (c_4.symm.trans hv9) (by decide)
      refine n_iconst (k := 1) hx hb dX4_sync_190 (by decide) ?_
      refine n_iadd hx hb dX4_sync_191 ?_
      refine n_iast (g := ν 23) (cA := cI) (n := 2) (j := 0) (v := (ν 23 0) + 1) hx hb hKK.1 hP (D_addr hD rfl) hS 23 0 rfl rfl (by decide) (Nat.le_of_ble_eq_true rfl) dX4_sync_192 (fun H locs hP hS => ?_)
      have hP : va_P D vwCl (wM q cI cZ (su ν 23 (upN (ν 23) (0) ((ν 23 0) + 1)))) H := hP
      refine lv_aload_n hx hb dX4_sync_193 rfl (lv_at hl 0 rfl) ?_
      refine lv_iload_n hx hb dX4_sync_194 rfl (lv_at hl 1 rfl) ?_
      refine wrV0 (As := [.int (nI (0))]) (rest := []) (n := 1) ⟨hx, hb, hml, hown, htA⟩ (m_takes0 l D cI cZ sa q (su ν 23 (upN (ν 23) (0) ((ν 23 0) + 1))) A (D_addr hD rfl) (su_lt hBv (up_lt (hBv 23) (by omega))) hm0v h14v) (cwV 1 htA (gdV wd_892 wd_894 wp_26 wd_5 wd_895) rfl rfl rfl (by decide +kernel) ⟨Nat.le_of_ble_eq_true rfl, Nat.le_of_ble_eq_true rfl⟩) hKK hP 0 rfl rfl rfl hl.1 rfl (Nat.le_of_ble_eq_true rfl) dX4_sync_195 (Nat.zero_le _) (Nat.zero_le _) hS (fun _ h => h) (fun H1 locs hP1 hz1 hk1 hS => ?_)
      have hP : va_P D vwCl (wM q cI cZ (tke (su ν 23 (upN (ν 23) (0) ((ν 23 0) + 1))) 0)) H1 := hP1
      generalize H1 = H at hP hS ⊢
      refine lv_iload hx hb dX4_sync_198 (lv_at hl 5 rfl) ?_
      have e9 : ν = (sfin μ 0 false).1 := congrArg Prod.fst hres
      rw [e9] at hP
      exact wr_i hx hb hr hlocks (by rw [show cf = (sfin μ 0 false).2 from congrArg Prod.snd hres]) hP hS dX4_sync_200
    | succ n ih =>
      intro i cf ν H locs hin h10f hBv hm0v hs9v hc20 hc21 hc22 h14v h23v hres hP hS ls hl
      refine lv_iload hx hb dX4_sync_49 (lv_at hl 6 rfl) ?_
      refine lv_bipush (v := nI 10) hx hb dX4_sync_51 (by decide) ?_
      refine lv_iload_n hx hb dX4_sync_53 rfl (lv_at hl 1 rfl) ?_
      refine n_imul hx hb dX4_sync_54 ?_
      refine lv_aload_n hx hb dX4_sync_55 rfl (lv_at hl 0 rfl) ?_
      refine va_get (D := D) (ci := 4) (v := .ref (q 19)) (C := RX4) (T := TX4) (N := 26) hx hb htA uwX4 hown hKK.1 hP 0 rfl rfl 20 (by decide) (htA _ wd_665) (fun _ h9 => h9) rfl dX4_sync_56 ?_
      refine lv_iload_n hx hb dX4_sync_59 rfl (lv_at hl 1 rfl) ?_
      refine n_iald (g := ν 19) (cA := cI) (n := 2) (j := 0) hx hb hKK.1 hP 19 0 rfl rfl (by decide) (Nat.le_of_ble_eq_true rfl) dX4_sync_60 ?_
      refine n_iadd hx hb dX4_sync_61 ?_
      refine n_icmp_ge (x := 10 * 0 + i) (y := (10 * 0) + (ν 19 0)) (tgt := 174) hx hb dX4_sync_62 (by decide) (by omega) (by omega) (fun c_5 => ?_) (fun c_5 => ?_)
      · exfalso; omega
      refine lv_aload_n hx hb dX4_sync_65 rfl (lv_at hl 0 rfl) ?_
      refine va_get (D := D) (ci := 4) (v := .ref (q 6)) (C := RX4) (T := TX4) (N := 26) hx hb htA uwX4 hown hKK.1 hP 0 rfl rfl 5 (by decide) (htA _ wd_650) (fun _ h9 => h9) rfl dX4_sync_66 ?_
      refine lv_aload_n hx hb dX4_sync_69 rfl (lv_at hl 0 rfl) ?_
      refine va_get (D := D) (ci := 4) (v := .ref (q 20)) (C := RX4) (T := TX4) (N := 26) hx hb htA uwX4 hown hKK.1 hP 0 rfl rfl 21 (by decide) (htA _ wd_666) (fun _ h9 => h9) rfl dX4_sync_70 ?_
      refine lv_iload hx hb dX4_sync_73 (lv_at hl 6 rfl) ?_
      refine n_iald (g := ν 20) (cA := cI) (n := 20) (j := 10 * 0 + i) hx hb hKK.1 hP 20 0 rfl rfl (by omega) (Nat.le_of_ble_eq_true rfl) dX4_sync_75 ?_
      refine n_iald (g := ν 6) (cA := cI) (n := 60) (j := ν 20 (10 * 0 + i)) hx hb hKK.1 hP 6 0 rfl rfl (hc20 _) (Nat.le_of_ble_eq_true rfl) dX4_sync_76 ?_
      refine n_ifgt (x := ν 6 (ν 20 (10 * 0 + i))) (tgt := 115) hx hb dX4_sync_77 (by decide) (Nat.lt_trans (hBv 6 (ν 20 (10 * 0 + i))) (by decide)) (fun c_6 => ?_) (fun c_6 => ?_)
      · refine n_iconst (k := 1) hx hb dX4_sync_115 (by decide) ?_
        refine lv_goto (tgt := 120) hx hb dX4_sync_116 (by decide) ?_
        refine lv_istore (lv' := [(7, .int (nI (1))), (0, .ref (q 0)), (1, .int (nI (0))), (2, .int (nI (μ 15 0))), (3, .int (nI (μ 0 1))), (4, .int (b2i (decide (μ 0 1 - (μ 15 0) ≤ 40)))), (5, .int (nI (cf))), (6, .int (nI (10 * 0 + i)))]) hx hb dX4_sync_120 hl (by decide) rfl (fun ls hl => ?_)
        refine lv_iload hx hb dX4_sync_122 (lv_at hl 6 rfl) ?_
        refine lv_iload hx hb dX4_sync_124 (lv_at hl 0 rfl) ?_
        refine b_ifeq (b := true) (tgt := 133) hx hb dX4_sync_126 (by decide) (fun c_7 => ?_) (fun c_7 => ?_)
        · exact absurd c_7 (by decide)
        refine n_iconst (k := 1) hx hb dX4_sync_129 (by decide) ?_
        refine lv_goto (tgt := 134) hx hb dX4_sync_130 (by decide) ?_
        refine n_iadd hx hb dX4_sync_134 ?_
        refine lv_istore (lv' := [(5, .int (nI (cf + 1))), (7, .int (nI (1))), (0, .ref (q 0)), (1, .int (nI (0))), (2, .int (nI (μ 15 0))), (3, .int (nI (μ 0 1))), (4, .int (b2i (decide (μ 0 1 - (μ 15 0) ≤ 40)))), (6, .int (nI (10 * 0 + i)))]) hx hb dX4_sync_135 hl (by decide) rfl (fun ls hl => ?_)
        refine lv_iload hx hb dX4_sync_137 (lv_at hl 1 rfl) ?_
        refine b_ifne (b := true) (tgt := 168) hx hb dX4_sync_139 (by decide) (fun c_8 => ?_) (fun c_8 => ?_)
        rotate_left
        · exact absurd c_8 (by decide)
        refine lv_iinc (v := nI (10 * 0 + i + 1)) (lv' := [(6, .int (nI (10 * 0 + i + 1))), (5, .int (nI (cf + 1))), (7, .int (nI (1))), (0, .ref (q 0)), (1, .int (nI (0))), (2, .int (nI (μ 15 0))), (3, .int (nI (μ 0 1))), (4, .int (b2i (decide (μ 0 1 - (μ 15 0) ≤ 40))))]) hx hb dX4_sync_168 hl (k := 7) rfl (n_inc (10 * 0 + i) 1 rfl) (by decide) rfl (fun ls hl => ?_)
        refine lv_goto (tgt := 49) hx hb dX4_sync_171 (by decide) ?_
        exact ih (i + 1) (cf + 1) ν _ _ (by omega) h10f hBv hm0v (by omega) hc20 hc21 hc22 h14v h23v (by rw [← hres]; simp only [syf]; rw [show icm ν (μ 15 0) (μ 0 1) false (ν 20 (10 * 0 + i)) (ν 21 (10 * 0 + i)) (ν 22 (10 * 0 + i)) = true from by unfold icm; rw [decide_eq_false (by omega)]; rfl]; rfl) hP hS ls (lv_sub hl [3, 4, 5, 6, 7, 1, 0] rfl)
      · refine lv_iload hx hb dX4_sync_80 (lv_at hl 4 rfl) ?_
        refine b_ifeq (b := decide (μ 0 1 - (μ 15 0) ≤ 40)) (tgt := 119) hx hb dX4_sync_82 (by decide) (fun c_9 => ?_) (fun c_9 => ?_)
        rotate_left
        · exact absurd (c_9.symm.trans hv9) (by decide)
        refine n_iconst (k := 0) hx hb dX4_sync_119 (by decide) ?_
        refine lv_istore (lv' := [(7, .int (nI (0))), (0, .ref (q 0)), (1, .int (nI (0))), (2, .int (nI (μ 15 0))), (3, .int (nI (μ 0 1))), (4, .int (b2i (decide (μ 0 1 - (μ 15 0) ≤ 40)))), (5, .int (nI (cf))), (6, .int (nI (10 * 0 + i)))]) hx hb dX4_sync_120 hl (by decide) rfl (fun ls hl => ?_)
        refine lv_iload hx hb dX4_sync_122 (lv_at hl 6 rfl) ?_
        refine lv_iload hx hb dX4_sync_124 (lv_at hl 0 rfl) ?_
        refine b_ifeq (b := false) (tgt := 133) hx hb dX4_sync_126 (by decide) (fun c_10 => ?_) (fun c_10 => ?_)
        rotate_left
        · exact absurd c_10 (by decide)
        refine n_iconst (k := 0) hx hb dX4_sync_133 (by decide) ?_
        refine n_iadd hx hb dX4_sync_134 ?_
        refine lv_istore (lv' := [(5, .int (nI (cf + 0))), (7, .int (nI (0))), (0, .ref (q 0)), (1, .int (nI (0))), (2, .int (nI (μ 15 0))), (3, .int (nI (μ 0 1))), (4, .int (b2i (decide (μ 0 1 - (μ 15 0) ≤ 40)))), (6, .int (nI (10 * 0 + i)))]) hx hb dX4_sync_135 hl (by decide) rfl (fun ls hl => ?_)
        refine lv_iload hx hb dX4_sync_137 (lv_at hl 1 rfl) ?_
        refine b_ifne (b := false) (tgt := 168) hx hb dX4_sync_139 (by decide) (fun c_11 => ?_) (fun c_11 => ?_)
        · exact absurd c_11 (by decide)
        refine lv_aload_n hx hb dX4_sync_142 rfl (lv_at hl 2 rfl) ?_
        refine lv_aload_n hx hb dX4_sync_143 rfl (lv_at hl 2 rfl) ?_
        refine va_get (D := D) (ci := 4) (v := .ref (q 20)) (C := RX4) (T := TX4) (N := 26) hx hb htA uwX4 hown hKK.1 hP 0 rfl rfl 21 (by decide) (htA _ wd_666) (fun _ h9 => h9) rfl dX4_sync_144 ?_
        refine lv_iload hx hb dX4_sync_147 (lv_at hl 7 rfl) ?_
        refine n_iald (g := ν 20) (cA := cI) (n := 20) (j := 10 * 0 + i) hx hb hKK.1 hP 20 0 rfl rfl (by omega) (Nat.le_of_ble_eq_true rfl) dX4_sync_149 ?_
        refine lv_aload_n hx hb dX4_sync_150 rfl (lv_at hl 2 rfl) ?_
        refine va_get (D := D) (ci := 4) (v := .ref (q 21)) (C := RX4) (T := TX4) (N := 26) hx hb htA uwX4 hown hKK.1 hP 0 rfl rfl 22 (by decide) (htA _ wd_667) (fun _ h9 => h9) rfl dX4_sync_151 ?_
        refine lv_iload hx hb dX4_sync_154 (lv_at hl 7 rfl) ?_
        refine n_iald (g := ν 21) (cA := cI) (n := 20) (j := 10 * 0 + i) hx hb hKK.1 hP 21 0 rfl rfl (by omega) (Nat.le_of_ble_eq_true rfl) dX4_sync_156 ?_
        refine lv_aload_n hx hb dX4_sync_157 rfl (lv_at hl 2 rfl) ?_
        refine va_get (D := D) (ci := 4) (v := .ref (q 22)) (C := RX4) (T := TX4) (N := 26) hx hb htA uwX4 hown hKK.1 hP 0 rfl rfl 23 (by decide) (htA _ wd_668) (fun _ h9 => h9) rfl dX4_sync_158 ?_
        refine lv_iload hx hb dX4_sync_161 (lv_at hl 7 rfl) ?_
        refine n_zald (g := ν 22) (cA := cZ) (n := 20) (j := 10 * 0 + i) hx hb hKK.1 hP 22 1 rfl rfl (by omega) (Nat.le_of_ble_eq_true rfl) dX4_sync_163 ?_
        refine wrV1 (v := .int (b2i (!decide (hs (ν 3 (ν 20 (10 * 0 + i))) (ν 21 (10 * 0 + i)) = nb (ν 22 (10 * 0 + i)))))) (As := [.int (nI (ν 20 (10 * 0 + i))), .int (nI (ν 21 (10 * 0 + i))), .int (nI (ν 22 (10 * 0 + i)))]) (rest := []) (n := 3) ⟨hx, hb, hml, hown, htA⟩ (m_flags l D cI cZ sa q ν (ν 20 (10 * 0 + i)) (ν 21 (10 * 0 + i)) (ν 22 (10 * 0 + i)) A (D_addr hD rfl) hBv hm0v (by omega) (hc20 _) (hc22 _) (Nat.lt_trans (hc21 _) (by decide))) (cwV 3 htA (gdV wd_755 wd_757 wp_12 wd_5 wd_758) rfl rfl rfl (by decide +kernel) ⟨Nat.le_of_ble_eq_true rfl, Nat.le_of_ble_eq_true rfl⟩) hKK hP 0 rfl rfl rfl hl.1 rfl (Nat.le_of_ble_eq_true rfl) dX4_sync_164 (Nat.zero_le _) (Nat.zero_le _) hS (fun _ h => h) (fun H1 locs hP1 hz1 hk1 hS => ?_)
        have hP : va_P D vwCl (wM q cI cZ (flw ν (ν 20 (10 * 0 + i)) (ν 21 (10 * 0 + i)) (ν 22 (10 * 0 + i)))) H1 := hP1
        generalize H1 = H at hP hS ⊢
        refine lv_pop hx hb dX4_sync_167 rfl ?_
        refine lv_iinc (v := nI (10 * 0 + i + 1)) (lv' := [(6, .int (nI (10 * 0 + i + 1))), (5, .int (nI (cf + 0))), (7, .int (nI (0))), (0, .ref (q 0)), (1, .int (nI (0))), (2, .int (nI (μ 15 0))), (3, .int (nI (μ 0 1))), (4, .int (b2i (decide (μ 0 1 - (μ 15 0) ≤ 40))))]) hx hb dX4_sync_168 hl (k := 7) rfl (n_inc (10 * 0 + i) 1 rfl) (by decide) rfl (fun ls hl => ?_)
        refine lv_goto (tgt := 49) hx hb dX4_sync_171 (by decide) ?_
        exact ih (i + 1) cf (flw ν (ν 20 (10 * 0 + i)) (ν 21 (10 * 0 + i)) (ν 22 (10 * 0 + i))) _ _ (by rw [flw_c rfl]; omega) (by rw [flw_c rfl]; exact h10f) (flw_lt hBv (hc20 _) (hc21 _) (hc22 _) (by omega)) (by rw [flw_00]; exact hm0v) (Nat.le_trans (Nat.add_le_add_right flw_01 n) (by omega)) (by rw [flw_c rfl]; exact hc20) (by rw [flw_c rfl]; exact hc21) (by rw [flw_c rfl]; exact hc22) (by rw [flw_c rfl]; exact h14v) (by rw [flw_c rfl]; exact h23v) (by rw [← hres]; simp only [syf]; rw [show icm ν (μ 15 0) (μ 0 1) false (ν 20 (10 * 0 + i)) (ν 21 (10 * 0 + i)) (ν 22 (10 * 0 + i)) = false from by unfold icm; rw [decide_eq_true (by omega)]; rfl]; rfl) hP hS ls (lv_sub hl [3, 4, 5, 6, 7, 1, 0] rfl)
  exact loop_49 (μ 19 0) 0 0 (sv μ 0 2 0) _ _ (Nat.zero_add _) hfl (sv_lt hB (by decide)) hm0 hs9 hc20 hc21 hc22 h14 h23 rfl hP hS ls (lv_sub hl [5, 6, 4, 3, 2, 1, 0] rfl)
set_option maxHeartbeats 4000000 in
set_option maxRecDepth 100000 in
theorem r_sync_y1 (l : Launch) (D : va_G) (cI cZ : ClassId) (sa : Nat → Nat) (q : Nat → Nat) (μ : ST)  (A : Nat → Prop) (hD : va_D A (wM q cI cZ μ)) (hB : ∀ k i, μ k i < 1073741824) (hm0 : μ 0 0 ≤ 60) (hv9 : decide (μ 0 1 - (μ 15 1) ≤ 40) = true) (hsy : μ 15 1 ≤ μ 0 1) (hfl : μ 19 1 ≤ 10) (hs9 : μ 0 1 + μ 19 1 ≤ 2048) (hc20 : ∀ i, μ 20 i < 60) (hc21 : ∀ i, μ 21 i < 4) (hc22 : ∀ i, μ 22 i < 2) (h14 : μ 14 1 ≤ 10) (h23 : μ 23 1 < 1000000000) : Met l yX4_sync (codeW yX4_sync cX4_sync 8 (some .int)) ({ frames := 4, cells := 0, slots := 0, locals := 94 } : Room) (WrP D cI cZ sa (wM q cI cZ μ) [.ref (q 0), .int (nI (1))]) (WrQ (some (.int (nI ((sfin μ 1 true).2)))) D (wM q cI cZ (sye μ 1 true)) A) 0 0 A := by
  refine Met.ofW (cc := cX4_sync) (maxL := 8) (ret := (some .int)) (by decide) rfl ?_
  intro p e s m args below meth c s₁ B hml hv
  obtain ⟨rfl, hH, hKK⟩ := hv
  have hx := B.exec
  have hb := B.bytes
  have hr := B.returns
  have htA : ∀ w ∈ WA, w.before _ s = true := fun w h => atoms_spec (ws := (codeW yX4_sync cX4_sync 8 (some .int))) B.pre w (List.mem_cons_of_mem _ h)
  have hown : s.vm.findClass RX4 = some m.cls := findClass_of_methodNamed B.named
  have hlocks := B.notSynchronized
  have hP := hH
  have hS : va_S A s.heap s.heap [] := va_S.rf
  have hl := lv_entry ([.ref (q 0), .int (nI (1))]) (n := 8) (Nat.le_of_ble_eq_true rfl)
  rw [lg_entry_eq]
  generalize (lg_sl ([.ref (q 0), .int (nI (1))]) ++ List.replicate (8 - (lg_sl ([.ref (q 0), .int (nI (1))])).length) Slot.unset).toArray = ls at hl ⊢
  have hl : lv_has ls 8 [(0, .ref (q 0)), (1, .int (nI (1)))] := hl
  refine lv_aload_n hx hb dX4_sync_0 rfl (lv_at hl 0 rfl) ?_
  refine lv_iload_n hx hb dX4_sync_1 rfl (lv_at hl 1 rfl) ?_
  refine roS1 (v := .int (b2i (iw (nI (1)) (nI (0)) (nI (1))))) (As := [.int (nI (1))]) (rest := [.ref (q 0)]) (n := 1) ⟨hx, hb, hml, hown, htA⟩ (m_isClient l D cI cZ sa (nI (1)) s.heap ) (va_cwS 1 htA (gdS wd_873 wd_874 wd_5 wd_875) rfl rfl rfl (by decide +kernel) ⟨Nat.le_of_ble_eq_true rfl, Nat.le_of_ble_eq_true rfl⟩) hKK rfl hl.1 rfl (Nat.le_of_ble_eq_true rfl) dX4_sync_2 (Nat.zero_le _) (Nat.zero_le _) ?_
  refine b_ifeq (b := iw (nI (1)) (nI (0)) (nI (1))) (tgt := 12) hx hb dX4_sync_5 (by decide) (fun c_1 => ?_) (fun c_1 => ?_)
  · exact absurd (c_1.symm.trans (iw_n (by decide) (by decide) (by decide))) (by decide)
  refine n_iconst (k := 0) hx hb dX4_sync_8 (by decide) ?_
  refine lv_goto (tgt := 13) hx hb dX4_sync_9 (by decide) ?_
  refine wrV1 (v := .int (b2i (true))) (As := [.int (nI (0))]) (rest := []) (n := 1) ⟨hx, hb, hml, hown, htA⟩ (m_fine l D cI cZ sa q μ A (D_addr hD rfl) ) (cwV 1 htA (gdV wd_735 wd_737 wp_9 wd_5 wd_738) rfl rfl rfl (by decide +kernel) ⟨Nat.le_of_ble_eq_true rfl, Nat.le_of_ble_eq_true rfl⟩) hKK hP 0 rfl rfl rfl hl.1 rfl (Nat.le_of_ble_eq_true rfl) dX4_sync_13 (Nat.zero_le _) (Nat.zero_le _) hS (fun _ h => h) (fun H1 locs hP1 hz1 hk1 hS => ?_)
  have hP : va_P D vwCl (wM q cI cZ (sv μ 0 2 (0))) H1 := hP1
  generalize H1 = H at hP hS ⊢
  refine b_ifne (b := true) (tgt := 21) hx hb dX4_sync_16 (by decide) (fun c_2 => ?_) (fun c_2 => ?_)
  rotate_left
  · exact absurd c_2 (by decide)
  refine lv_aload_n hx hb dX4_sync_21 rfl (lv_at hl 0 rfl) ?_
  refine va_get (D := D) (ci := 4) (v := .ref (q 15)) (C := RX4) (T := TX4) (N := 26) hx hb htA uwX4 hown hKK.1 hP 0 rfl rfl 16 (by decide) (htA _ wd_661) (fun _ h9 => h9) rfl dX4_sync_22 ?_
  refine lv_iload_n hx hb dX4_sync_25 rfl (lv_at hl 1 rfl) ?_
  refine n_iald (g := μ 15) (cA := cI) (n := 2) (j := 1) hx hb hKK.1 hP 15 0 rfl rfl (by decide) (Nat.le_of_ble_eq_true rfl) dX4_sync_26 ?_
  refine lv_istore_n (lv' := [(2, .int (nI (μ 15 1))), (0, .ref (q 0)), (1, .int (nI (1)))]) hx hb dX4_sync_27 rfl hl (by decide) rfl (fun ls hl => ?_)
  refine lv_aload_n hx hb dX4_sync_28 rfl (lv_at hl 1 rfl) ?_
  refine va_get (D := D) (ci := 4) (v := .int (nI (μ 0 1))) (C := RX4) (T := TX4) (N := 26) hx hb htA uwX4 hown hKK.1 hP 0 rfl rfl 13 (by decide) (htA _ wd_658) (fun _ h9 => h9) rfl dX4_sync_29 ?_
  refine lv_istore_n (lv' := [(3, .int (nI (μ 0 1))), (2, .int (nI (μ 15 1))), (0, .ref (q 0)), (1, .int (nI (1)))]) hx hb dX4_sync_32 rfl hl (by decide) rfl (fun ls hl => ?_)
  refine lv_aload_n hx hb dX4_sync_33 rfl (lv_at hl 2 rfl) ?_
  refine lv_iload_n hx hb dX4_sync_34 rfl (lv_at hl 1 rfl) ?_
  refine roV1 (v := .int (b2i (decide (μ 0 1 - (μ 15 1) ≤ 40)))) (As := [.int (nI (μ 15 1))]) (rest := []) (n := 1) ⟨hx, hb, hml, hown, htA⟩ (m_tells l D cI cZ sa q (sv μ 0 2 (0)) (μ 15 1) H hP (sv_lt hB (by decide)) hm0 hsy) (cwV 1 htA (gdV wd_806 wd_808 wp_16 wd_5 wd_809) rfl rfl rfl (by decide +kernel) ⟨Nat.le_of_ble_eq_true rfl, Nat.le_of_ble_eq_true rfl⟩) hKK hP 0 rfl rfl rfl hl.1 rfl (Nat.le_of_ble_eq_true rfl) dX4_sync_35 (Nat.zero_le _) (Nat.zero_le _) ?_
  refine lv_istore (lv' := [(4, .int (b2i (decide (μ 0 1 - (μ 15 1) ≤ 40)))), (3, .int (nI (μ 0 1))), (2, .int (nI (μ 15 1))), (0, .ref (q 0)), (1, .int (nI (1)))]) hx hb dX4_sync_38 hl (by decide) rfl (fun ls hl => ?_)
  refine n_iconst (k := 0) hx hb dX4_sync_40 (by decide) ?_
  refine lv_istore (lv' := [(5, .int (nI (0))), (4, .int (b2i (decide (μ 0 1 - (μ 15 1) ≤ 40)))), (3, .int (nI (μ 0 1))), (2, .int (nI (μ 15 1))), (0, .ref (q 0)), (1, .int (nI (1)))]) hx hb dX4_sync_41 hl (by decide) rfl (fun ls hl => ?_)
  refine lv_bipush (v := nI 10) hx hb dX4_sync_43 (by decide) ?_
  refine lv_iload_n hx hb dX4_sync_45 rfl (lv_at hl 5 rfl) ?_
  refine n_imul hx hb dX4_sync_46 ?_
  refine lv_istore (lv' := [(6, .int (nI (10 * 1))), (5, .int (nI (0))), (4, .int (b2i (decide (μ 0 1 - (μ 15 1) ≤ 40)))), (3, .int (nI (μ 0 1))), (2, .int (nI (μ 15 1))), (0, .ref (q 0)), (1, .int (nI (1)))]) hx hb dX4_sync_47 hl (by decide) rfl (fun ls hl => ?_)
  have loop_49 : ∀ (n : Nat) (i cf : Nat) (ν : ST) (H : Heap) (locs : List Loc), (i + n = ν 19 1) → (ν 19 1 ≤ 10) → (∀ k i, ν k i < 1073741824) → (ν 0 0 ≤ 60) → (ν 0 1 + n ≤ 2048) → (∀ i, ν 20 i < 60) → (∀ i, ν 21 i < 4) → (∀ i, ν 22 i < 2) → (ν 14 1 ≤ 10) → (ν 23 1 < 1000000000) → (syf 1 (μ 15 1) (μ 0 1) true n i ν cf = sfin μ 1 true) → va_P D vwCl (wM q cI cZ ν) H → va_S A s.heap H locs → ∀ (ls : Array Slot), lv_has ls 8 [(0, .ref (q 0)), (1, .int (nI (1))), (2, .int (nI (μ 15 1))), (3, .int (nI (μ 0 1))), (4, .int (b2i (decide (μ 0 1 - (μ 15 1) ≤ 40)))), (5, .int (nI (cf))), (6, .int (nI (10 * 1 + i)))] → W p l e (headSpec (codeW yX4_sync cX4_sync 8 (some .int)) ({ frames := 4, cells := 0, slots := 0, locals := 94 } : Room)).room s m ([.ref (q 0), .int (nI (1))] : List Value).toArray below meth c H locs 0 0 (MQ below (WrQ (some (.int (nI ((sfin μ 1 true).2)))) D (wM q cI cZ (sye μ 1 true)) A) ([.ref (q 0), .int (nI (1))] : List Value).toArray s 0 0 A) (F0 m 49 ls []) := by
    intro n
    induction n with
    | zero =>
      intro i cf ν H locs hin h10f hBv hm0v hs9v hc20 hc21 hc22 h14v h23v hres hP hS ls hl
      refine lv_iload hx hb dX4_sync_49 (lv_at hl 6 rfl) ?_
      refine lv_bipush (v := nI 10) hx hb dX4_sync_51 (by decide) ?_
      refine lv_iload_n hx hb dX4_sync_53 rfl (lv_at hl 1 rfl) ?_
      refine n_imul hx hb dX4_sync_54 ?_
      refine lv_aload_n hx hb dX4_sync_55 rfl (lv_at hl 0 rfl) ?_
      refine va_get (D := D) (ci := 4) (v := .ref (q 19)) (C := RX4) (T := TX4) (N := 26) hx hb htA uwX4 hown hKK.1 hP 0 rfl rfl 20 (by decide) (htA _ wd_665) (fun _ h9 => h9) rfl dX4_sync_56 ?_
      refine lv_iload_n hx hb dX4_sync_59 rfl (lv_at hl 1 rfl) ?_
      refine n_iald (g := ν 19) (cA := cI) (n := 2) (j := 1) hx hb hKK.1 hP 19 0 rfl rfl (by decide) (Nat.le_of_ble_eq_true rfl) dX4_sync_60 ?_
      refine n_iadd hx hb dX4_sync_61 ?_
      refine n_icmp_ge (x := 10 * 1 + i) (y := (10 * 1) + (ν 19 1)) (tgt := 174) hx hb dX4_sync_62 (by decide) (by omega) (by omega) (fun c_3 => ?_) (fun c_3 => ?_)
      rotate_left
      · exfalso; omega
      refine lv_aload_n hx hb dX4_sync_174 rfl (lv_at hl 0 rfl) ?_
      refine va_get (D := D) (ci := 4) (v := .ref (q 23)) (C := RX4) (T := TX4) (N := 26) hx hb htA uwX4 hown hKK.1 hP 0 rfl rfl 24 (by decide) (htA _ wd_669) (fun _ h9 => h9) rfl dX4_sync_175 ?_
      refine lv_iload_n hx hb dX4_sync_178 rfl (lv_at hl 1 rfl) ?_
      refine lv_dup2_11 hx hb dX4_sync_179 rfl rfl ?_
      refine n_iald (g := ν 23) (cA := cI) (n := 2) (j := 1) hx hb hKK.1 hP 23 0 rfl rfl (by decide) (Nat.le_of_ble_eq_true rfl) dX4_sync_180 ?_
      refine lv_iload hx hb dX4_sync_181 (lv_at hl 4 rfl) ?_
      refine b_ifeq (b := decide (μ 0 1 - (μ 15 1) ≤ 40)) (tgt := 190) hx hb dX4_sync_183 (by decide) (fun c_4 => ?_) (fun c_4 => ?_)
      · exact absurd (c_4.symm.trans hv9) (by decide)
      refine n_iconst (k := 0) hx hb dX4_sync_186 (by decide) ?_
      refine lv_goto (tgt := 191) hx hb dX4_sync_187 (by decide) ?_
      refine n_iadd hx hb dX4_sync_191 ?_
      refine n_iast (g := ν 23) (cA := cI) (n := 2) (j := 1) (v := (ν 23 1) + 0) hx hb hKK.1 hP (D_addr hD rfl) hS 23 0 rfl rfl (by decide) (Nat.le_of_ble_eq_true rfl) dX4_sync_192 (fun H locs hP hS => ?_)
      have hP : va_P D vwCl (wM q cI cZ (su ν 23 (upN (ν 23) (1) ((ν 23 1) + 0)))) H := hP
      refine lv_aload_n hx hb dX4_sync_193 rfl (lv_at hl 0 rfl) ?_
      refine lv_iload_n hx hb dX4_sync_194 rfl (lv_at hl 1 rfl) ?_
      refine wrV0 (As := [.int (nI (1))]) (rest := []) (n := 1) ⟨hx, hb, hml, hown, htA⟩ (m_takes1 l D cI cZ sa q (su ν 23 (upN (ν 23) (1) ((ν 23 1) + 0))) A (D_addr hD rfl) (su_lt hBv (up_lt (hBv 23) (by omega))) hm0v h14v) (cwV 1 htA (gdV wd_892 wd_894 wp_26 wd_5 wd_895) rfl rfl rfl (by decide +kernel) ⟨Nat.le_of_ble_eq_true rfl, Nat.le_of_ble_eq_true rfl⟩) hKK hP 0 rfl rfl rfl hl.1 rfl (Nat.le_of_ble_eq_true rfl) dX4_sync_195 (Nat.zero_le _) (Nat.zero_le _) hS (fun _ h => h) (fun H1 locs hP1 hz1 hk1 hS => ?_)
      have hP : va_P D vwCl (wM q cI cZ (tke (su ν 23 (upN (ν 23) (1) ((ν 23 1) + 0))) 1)) H1 := hP1
      generalize H1 = H at hP hS ⊢
      refine lv_iload hx hb dX4_sync_198 (lv_at hl 5 rfl) ?_
      have e9 : ν = (sfin μ 1 true).1 := congrArg Prod.fst hres
      rw [e9] at hP
      exact wr_i hx hb hr hlocks (by rw [show cf = (sfin μ 1 true).2 from congrArg Prod.snd hres]) hP hS dX4_sync_200
    | succ n ih =>
      intro i cf ν H locs hin h10f hBv hm0v hs9v hc20 hc21 hc22 h14v h23v hres hP hS ls hl
      refine lv_iload hx hb dX4_sync_49 (lv_at hl 6 rfl) ?_
      refine lv_bipush (v := nI 10) hx hb dX4_sync_51 (by decide) ?_
      refine lv_iload_n hx hb dX4_sync_53 rfl (lv_at hl 1 rfl) ?_
      refine n_imul hx hb dX4_sync_54 ?_
      refine lv_aload_n hx hb dX4_sync_55 rfl (lv_at hl 0 rfl) ?_
      refine va_get (D := D) (ci := 4) (v := .ref (q 19)) (C := RX4) (T := TX4) (N := 26) hx hb htA uwX4 hown hKK.1 hP 0 rfl rfl 20 (by decide) (htA _ wd_665) (fun _ h9 => h9) rfl dX4_sync_56 ?_
      refine lv_iload_n hx hb dX4_sync_59 rfl (lv_at hl 1 rfl) ?_
      refine n_iald (g := ν 19) (cA := cI) (n := 2) (j := 1) hx hb hKK.1 hP 19 0 rfl rfl (by decide) (Nat.le_of_ble_eq_true rfl) dX4_sync_60 ?_
      refine n_iadd hx hb dX4_sync_61 ?_
      refine n_icmp_ge (x := 10 * 1 + i) (y := (10 * 1) + (ν 19 1)) (tgt := 174) hx hb dX4_sync_62 (by decide) (by omega) (by omega) (fun c_5 => ?_) (fun c_5 => ?_)
      · exfalso; omega
      refine lv_aload_n hx hb dX4_sync_65 rfl (lv_at hl 0 rfl) ?_
      refine va_get (D := D) (ci := 4) (v := .ref (q 6)) (C := RX4) (T := TX4) (N := 26) hx hb htA uwX4 hown hKK.1 hP 0 rfl rfl 5 (by decide) (htA _ wd_650) (fun _ h9 => h9) rfl dX4_sync_66 ?_
      refine lv_aload_n hx hb dX4_sync_69 rfl (lv_at hl 0 rfl) ?_
      refine va_get (D := D) (ci := 4) (v := .ref (q 20)) (C := RX4) (T := TX4) (N := 26) hx hb htA uwX4 hown hKK.1 hP 0 rfl rfl 21 (by decide) (htA _ wd_666) (fun _ h9 => h9) rfl dX4_sync_70 ?_
      refine lv_iload hx hb dX4_sync_73 (lv_at hl 6 rfl) ?_
      refine n_iald (g := ν 20) (cA := cI) (n := 20) (j := 10 * 1 + i) hx hb hKK.1 hP 20 0 rfl rfl (by omega) (Nat.le_of_ble_eq_true rfl) dX4_sync_75 ?_
      refine n_iald (g := ν 6) (cA := cI) (n := 60) (j := ν 20 (10 * 1 + i)) hx hb hKK.1 hP 6 0 rfl rfl (hc20 _) (Nat.le_of_ble_eq_true rfl) dX4_sync_76 ?_
      refine n_ifgt (x := ν 6 (ν 20 (10 * 1 + i))) (tgt := 115) hx hb dX4_sync_77 (by decide) (Nat.lt_trans (hBv 6 (ν 20 (10 * 1 + i))) (by decide)) (fun c_6 => ?_) (fun c_6 => ?_)
      · refine n_iconst (k := 1) hx hb dX4_sync_115 (by decide) ?_
        refine lv_goto (tgt := 120) hx hb dX4_sync_116 (by decide) ?_
        refine lv_istore (lv' := [(7, .int (nI (1))), (0, .ref (q 0)), (1, .int (nI (1))), (2, .int (nI (μ 15 1))), (3, .int (nI (μ 0 1))), (4, .int (b2i (decide (μ 0 1 - (μ 15 1) ≤ 40)))), (5, .int (nI (cf))), (6, .int (nI (10 * 1 + i)))]) hx hb dX4_sync_120 hl (by decide) rfl (fun ls hl => ?_)
        refine lv_iload hx hb dX4_sync_122 (lv_at hl 6 rfl) ?_
        refine lv_iload hx hb dX4_sync_124 (lv_at hl 0 rfl) ?_
        refine b_ifeq (b := true) (tgt := 133) hx hb dX4_sync_126 (by decide) (fun c_7 => ?_) (fun c_7 => ?_)
        · exact absurd c_7 (by decide)
        refine n_iconst (k := 1) hx hb dX4_sync_129 (by decide) ?_
        refine lv_goto (tgt := 134) hx hb dX4_sync_130 (by decide) ?_
        refine n_iadd hx hb dX4_sync_134 ?_
        refine lv_istore (lv' := [(5, .int (nI (cf + 1))), (7, .int (nI (1))), (0, .ref (q 0)), (1, .int (nI (1))), (2, .int (nI (μ 15 1))), (3, .int (nI (μ 0 1))), (4, .int (b2i (decide (μ 0 1 - (μ 15 1) ≤ 40)))), (6, .int (nI (10 * 1 + i)))]) hx hb dX4_sync_135 hl (by decide) rfl (fun ls hl => ?_)
        refine lv_iload hx hb dX4_sync_137 (lv_at hl 1 rfl) ?_
        refine b_ifne (b := true) (tgt := 168) hx hb dX4_sync_139 (by decide) (fun c_8 => ?_) (fun c_8 => ?_)
        rotate_left
        · exact absurd c_8 (by decide)
        refine lv_iinc (v := nI (10 * 1 + i + 1)) (lv' := [(6, .int (nI (10 * 1 + i + 1))), (5, .int (nI (cf + 1))), (7, .int (nI (1))), (0, .ref (q 0)), (1, .int (nI (1))), (2, .int (nI (μ 15 1))), (3, .int (nI (μ 0 1))), (4, .int (b2i (decide (μ 0 1 - (μ 15 1) ≤ 40))))]) hx hb dX4_sync_168 hl (k := 7) rfl (n_inc (10 * 1 + i) 1 rfl) (by decide) rfl (fun ls hl => ?_)
        refine lv_goto (tgt := 49) hx hb dX4_sync_171 (by decide) ?_
        exact ih (i + 1) (cf + 1) ν _ _ (by omega) h10f hBv hm0v (by omega) hc20 hc21 hc22 h14v h23v (by rw [← hres]; simp only [syf]; rw [show icm ν (μ 15 1) (μ 0 1) true (ν 20 (10 * 1 + i)) (ν 21 (10 * 1 + i)) (ν 22 (10 * 1 + i)) = true from by unfold icm; rw [decide_eq_false (by omega)]; rfl]; rfl) hP hS ls (lv_sub hl [3, 4, 5, 6, 7, 1, 0] rfl)
      · refine lv_iload hx hb dX4_sync_80 (lv_at hl 4 rfl) ?_
        refine b_ifeq (b := decide (μ 0 1 - (μ 15 1) ≤ 40)) (tgt := 119) hx hb dX4_sync_82 (by decide) (fun c_9 => ?_) (fun c_9 => ?_)
        · exact absurd (c_9.symm.trans hv9) (by decide)
        refine lv_aload_n hx hb dX4_sync_85 rfl (lv_at hl 0 rfl) ?_
        refine lv_aload_n hx hb dX4_sync_86 rfl (lv_at hl 0 rfl) ?_
        refine va_get (D := D) (ci := 4) (v := .ref (q 20)) (C := RX4) (T := TX4) (N := 26) hx hb htA uwX4 hown hKK.1 hP 0 rfl rfl 21 (by decide) (htA _ wd_666) (fun _ h9 => h9) rfl dX4_sync_87 ?_
        refine lv_iload hx hb dX4_sync_90 (lv_at hl 6 rfl) ?_
        refine n_iald (g := ν 20) (cA := cI) (n := 20) (j := 10 * 1 + i) hx hb hKK.1 hP 20 0 rfl rfl (by omega) (Nat.le_of_ble_eq_true rfl) dX4_sync_92 ?_
        refine lv_aload_n hx hb dX4_sync_93 rfl (lv_at hl 0 rfl) ?_
        refine va_get (D := D) (ci := 4) (v := .ref (q 21)) (C := RX4) (T := TX4) (N := 26) hx hb htA uwX4 hown hKK.1 hP 0 rfl rfl 22 (by decide) (htA _ wd_667) (fun _ h9 => h9) rfl dX4_sync_94 ?_
        refine lv_iload hx hb dX4_sync_97 (lv_at hl 6 rfl) ?_
        refine n_iald (g := ν 21) (cA := cI) (n := 20) (j := 10 * 1 + i) hx hb hKK.1 hP 21 0 rfl rfl (by omega) (Nat.le_of_ble_eq_true rfl) dX4_sync_99 ?_
        refine lv_aload_n hx hb dX4_sync_100 rfl (lv_at hl 0 rfl) ?_
        refine va_get (D := D) (ci := 4) (v := .ref (q 22)) (C := RX4) (T := TX4) (N := 26) hx hb htA uwX4 hown hKK.1 hP 0 rfl rfl 23 (by decide) (htA _ wd_668) (fun _ h9 => h9) rfl dX4_sync_101 ?_
        refine lv_iload hx hb dX4_sync_104 (lv_at hl 6 rfl) ?_
        refine n_zald (g := ν 22) (cA := cZ) (n := 20) (j := 10 * 1 + i) hx hb hKK.1 hP 22 1 rfl rfl (by omega) (Nat.le_of_ble_eq_true rfl) dX4_sync_106 ?_
        refine lv_iload_n hx hb dX4_sync_107 rfl (lv_at hl 2 rfl) ?_
        refine lv_iload_n hx hb dX4_sync_108 rfl (lv_at hl 3 rfl) ?_
        refine roV1 (v := .int (b2i (iso ν (ν 20 (10 * 1 + i)) (ν 21 (10 * 1 + i)) (ν 22 (10 * 1 + i)) (μ 15 1) (μ 0 1 - μ 15 1)))) (As := [.int (nI (ν 20 (10 * 1 + i))), .int (nI (ν 21 (10 * 1 + i))), .int (nI (ν 22 (10 * 1 + i))), .int (nI (μ 15 1)), .int (nI (μ 0 1))]) (rest := []) (n := 5) ⟨hx, hb, hml, hown, htA⟩ (m_isOtherwise l D cI cZ sa q ν (ν 20 (10 * 1 + i)) (ν 21 (10 * 1 + i)) (ν 22 (10 * 1 + i)) (μ 15 1) (μ 0 1) H hP hBv hm0v (hc20 _) (Nat.lt_trans (hc21 _) (by decide)) (hc22 _) hsy (by omega)) (cwV 5 htA (gdV wd_888 wd_890 wp_25 wd_5 wd_891) rfl rfl rfl (by decide +kernel) ⟨Nat.le_of_ble_eq_true rfl, Nat.le_of_ble_eq_true rfl⟩) hKK hP 0 rfl rfl rfl hl.1 rfl (Nat.le_of_ble_eq_true rfl) dX4_sync_109 (Nat.zero_le _) (Nat.zero_le _) ?_
        refine b_ifeq (b := iso ν (ν 20 (10 * 1 + i)) (ν 21 (10 * 1 + i)) (ν 22 (10 * 1 + i)) (μ 15 1) (μ 0 1 - μ 15 1)) (tgt := 119) hx hb dX4_sync_112 (by decide) (fun c_10 => ?_) (fun c_10 => ?_)
        · refine n_iconst (k := 0) hx hb dX4_sync_119 (by decide) ?_
          refine lv_istore (lv' := [(7, .int (nI (0))), (0, .ref (q 0)), (1, .int (nI (1))), (2, .int (nI (μ 15 1))), (3, .int (nI (μ 0 1))), (4, .int (b2i (decide (μ 0 1 - (μ 15 1) ≤ 40)))), (5, .int (nI (cf))), (6, .int (nI (10 * 1 + i)))]) hx hb dX4_sync_120 hl (by decide) rfl (fun ls hl => ?_)
          refine lv_iload hx hb dX4_sync_122 (lv_at hl 6 rfl) ?_
          refine lv_iload hx hb dX4_sync_124 (lv_at hl 0 rfl) ?_
          refine b_ifeq (b := false) (tgt := 133) hx hb dX4_sync_126 (by decide) (fun c_11 => ?_) (fun c_11 => ?_)
          rotate_left
          · exact absurd c_11 (by decide)
          refine n_iconst (k := 0) hx hb dX4_sync_133 (by decide) ?_
          refine n_iadd hx hb dX4_sync_134 ?_
          refine lv_istore (lv' := [(5, .int (nI (cf + 0))), (7, .int (nI (0))), (0, .ref (q 0)), (1, .int (nI (1))), (2, .int (nI (μ 15 1))), (3, .int (nI (μ 0 1))), (4, .int (b2i (decide (μ 0 1 - (μ 15 1) ≤ 40)))), (6, .int (nI (10 * 1 + i)))]) hx hb dX4_sync_135 hl (by decide) rfl (fun ls hl => ?_)
          refine lv_iload hx hb dX4_sync_137 (lv_at hl 1 rfl) ?_
          refine b_ifne (b := false) (tgt := 168) hx hb dX4_sync_139 (by decide) (fun c_12 => ?_) (fun c_12 => ?_)
          · exact absurd c_12 (by decide)
          refine lv_aload_n hx hb dX4_sync_142 rfl (lv_at hl 2 rfl) ?_
          refine lv_aload_n hx hb dX4_sync_143 rfl (lv_at hl 2 rfl) ?_
          refine va_get (D := D) (ci := 4) (v := .ref (q 20)) (C := RX4) (T := TX4) (N := 26) hx hb htA uwX4 hown hKK.1 hP 0 rfl rfl 21 (by decide) (htA _ wd_666) (fun _ h9 => h9) rfl dX4_sync_144 ?_
          refine lv_iload hx hb dX4_sync_147 (lv_at hl 7 rfl) ?_
          refine n_iald (g := ν 20) (cA := cI) (n := 20) (j := 10 * 1 + i) hx hb hKK.1 hP 20 0 rfl rfl (by omega) (Nat.le_of_ble_eq_true rfl) dX4_sync_149 ?_
          refine lv_aload_n hx hb dX4_sync_150 rfl (lv_at hl 2 rfl) ?_
          refine va_get (D := D) (ci := 4) (v := .ref (q 21)) (C := RX4) (T := TX4) (N := 26) hx hb htA uwX4 hown hKK.1 hP 0 rfl rfl 22 (by decide) (htA _ wd_667) (fun _ h9 => h9) rfl dX4_sync_151 ?_
          refine lv_iload hx hb dX4_sync_154 (lv_at hl 7 rfl) ?_
          refine n_iald (g := ν 21) (cA := cI) (n := 20) (j := 10 * 1 + i) hx hb hKK.1 hP 21 0 rfl rfl (by omega) (Nat.le_of_ble_eq_true rfl) dX4_sync_156 ?_
          refine lv_aload_n hx hb dX4_sync_157 rfl (lv_at hl 2 rfl) ?_
          refine va_get (D := D) (ci := 4) (v := .ref (q 22)) (C := RX4) (T := TX4) (N := 26) hx hb htA uwX4 hown hKK.1 hP 0 rfl rfl 23 (by decide) (htA _ wd_668) (fun _ h9 => h9) rfl dX4_sync_158 ?_
          refine lv_iload hx hb dX4_sync_161 (lv_at hl 7 rfl) ?_
          refine n_zald (g := ν 22) (cA := cZ) (n := 20) (j := 10 * 1 + i) hx hb hKK.1 hP 22 1 rfl rfl (by omega) (Nat.le_of_ble_eq_true rfl) dX4_sync_163 ?_
          refine wrV1 (v := .int (b2i (!decide (hs (ν 3 (ν 20 (10 * 1 + i))) (ν 21 (10 * 1 + i)) = nb (ν 22 (10 * 1 + i)))))) (As := [.int (nI (ν 20 (10 * 1 + i))), .int (nI (ν 21 (10 * 1 + i))), .int (nI (ν 22 (10 * 1 + i)))]) (rest := []) (n := 3) ⟨hx, hb, hml, hown, htA⟩ (m_flags l D cI cZ sa q ν (ν 20 (10 * 1 + i)) (ν 21 (10 * 1 + i)) (ν 22 (10 * 1 + i)) A (D_addr hD rfl) hBv hm0v (by omega) (hc20 _) (hc22 _) (Nat.lt_trans (hc21 _) (by decide))) (cwV 3 htA (gdV wd_755 wd_757 wp_12 wd_5 wd_758) rfl rfl rfl (by decide +kernel) ⟨Nat.le_of_ble_eq_true rfl, Nat.le_of_ble_eq_true rfl⟩) hKK hP 0 rfl rfl rfl hl.1 rfl (Nat.le_of_ble_eq_true rfl) dX4_sync_164 (Nat.zero_le _) (Nat.zero_le _) hS (fun _ h => h) (fun H1 locs hP1 hz1 hk1 hS => ?_)
          have hP : va_P D vwCl (wM q cI cZ (flw ν (ν 20 (10 * 1 + i)) (ν 21 (10 * 1 + i)) (ν 22 (10 * 1 + i)))) H1 := hP1
          generalize H1 = H at hP hS ⊢
          refine lv_pop hx hb dX4_sync_167 rfl ?_
          refine lv_iinc (v := nI (10 * 1 + i + 1)) (lv' := [(6, .int (nI (10 * 1 + i + 1))), (5, .int (nI (cf + 0))), (7, .int (nI (0))), (0, .ref (q 0)), (1, .int (nI (1))), (2, .int (nI (μ 15 1))), (3, .int (nI (μ 0 1))), (4, .int (b2i (decide (μ 0 1 - (μ 15 1) ≤ 40))))]) hx hb dX4_sync_168 hl (k := 7) rfl (n_inc (10 * 1 + i) 1 rfl) (by decide) rfl (fun ls hl => ?_)
          refine lv_goto (tgt := 49) hx hb dX4_sync_171 (by decide) ?_
          exact ih (i + 1) cf (flw ν (ν 20 (10 * 1 + i)) (ν 21 (10 * 1 + i)) (ν 22 (10 * 1 + i))) _ _ (by rw [flw_c rfl]; omega) (by rw [flw_c rfl]; exact h10f) (flw_lt hBv (hc20 _) (hc21 _) (hc22 _) (by omega)) (by rw [flw_00]; exact hm0v) (Nat.le_trans (Nat.add_le_add_right flw_01 n) (by omega)) (by rw [flw_c rfl]; exact hc20) (by rw [flw_c rfl]; exact hc21) (by rw [flw_c rfl]; exact hc22) (by rw [flw_c rfl]; exact h14v) (by rw [flw_c rfl]; exact h23v) (by rw [← hres]; simp only [syf]; rw [show icm ν (μ 15 1) (μ 0 1) true (ν 20 (10 * 1 + i)) (ν 21 (10 * 1 + i)) (ν 22 (10 * 1 + i)) = false from by unfold icm; rw [decide_eq_true (by omega), c_10]; rfl]; rfl) hP hS ls (lv_sub hl [3, 4, 5, 6, 7, 1, 0] rfl)
        · refine n_iconst (k := 1) hx hb dX4_sync_115 (by decide) ?_
          refine lv_goto (tgt := 120) hx hb dX4_sync_116 (by decide) ?_
          refine lv_istore (lv' := [(7, .int (nI (1))), (0, .ref (q 0)), (1, .int (nI (1))), (2, .int (nI (μ 15 1))), (3, .int (nI (μ 0 1))), (4, .int (b2i (decide (μ 0 1 - (μ 15 1) ≤ 40)))), (5, .int (nI (cf))), (6, .int (nI (10 * 1 + i)))]) hx hb dX4_sync_120 hl (by decide) rfl (fun ls hl => ?_)
          refine lv_iload hx hb dX4_sync_122 (lv_at hl 6 rfl) ?_
          refine lv_iload hx hb dX4_sync_124 (lv_at hl 0 rfl) ?_
          refine b_ifeq (b := true) (tgt := 133) hx hb dX4_sync_126 (by decide) (fun c_13 => ?_) (fun c_13 => ?_)
          · exact absurd c_13 (by decide)
          refine n_iconst (k := 1) hx hb dX4_sync_129 (by decide) ?_
          refine lv_goto (tgt := 134) hx hb dX4_sync_130 (by decide) ?_
          refine n_iadd hx hb dX4_sync_134 ?_
          refine lv_istore (lv' := [(5, .int (nI (cf + 1))), (7, .int (nI (1))), (0, .ref (q 0)), (1, .int (nI (1))), (2, .int (nI (μ 15 1))), (3, .int (nI (μ 0 1))), (4, .int (b2i (decide (μ 0 1 - (μ 15 1) ≤ 40)))), (6, .int (nI (10 * 1 + i)))]) hx hb dX4_sync_135 hl (by decide) rfl (fun ls hl => ?_)
          refine lv_iload hx hb dX4_sync_137 (lv_at hl 1 rfl) ?_
          refine b_ifne (b := true) (tgt := 168) hx hb dX4_sync_139 (by decide) (fun c_14 => ?_) (fun c_14 => ?_)
          rotate_left
          · exact absurd c_14 (by decide)
          refine lv_iinc (v := nI (10 * 1 + i + 1)) (lv' := [(6, .int (nI (10 * 1 + i + 1))), (5, .int (nI (cf + 1))), (7, .int (nI (1))), (0, .ref (q 0)), (1, .int (nI (1))), (2, .int (nI (μ 15 1))), (3, .int (nI (μ 0 1))), (4, .int (b2i (decide (μ 0 1 - (μ 15 1) ≤ 40))))]) hx hb dX4_sync_168 hl (k := 7) rfl (n_inc (10 * 1 + i) 1 rfl) (by decide) rfl (fun ls hl => ?_)
          refine lv_goto (tgt := 49) hx hb dX4_sync_171 (by decide) ?_
          exact ih (i + 1) (cf + 1) ν _ _ (by omega) h10f hBv hm0v (by omega) hc20 hc21 hc22 h14v h23v (by rw [← hres]; simp only [syf]; rw [show icm ν (μ 15 1) (μ 0 1) true (ν 20 (10 * 1 + i)) (ν 21 (10 * 1 + i)) (ν 22 (10 * 1 + i)) = true from by unfold icm; rw [decide_eq_true (by omega), c_10]; rfl]; rfl) hP hS ls (lv_sub hl [3, 4, 5, 6, 7, 1, 0] rfl)
  exact loop_49 (μ 19 1) 0 0 (sv μ 0 2 0) _ _ (Nat.zero_add _) hfl (sv_lt hB (by decide)) hm0 hs9 hc20 hc21 hc22 h14 h23 rfl hP hS ls (lv_sub hl [5, 6, 4, 3, 2, 1, 0] rfl)
set_option maxHeartbeats 4000000 in
set_option maxRecDepth 100000 in
theorem r_sync_n1 (l : Launch) (D : va_G) (cI cZ : ClassId) (sa : Nat → Nat) (q : Nat → Nat) (μ : ST)  (A : Nat → Prop) (hD : va_D A (wM q cI cZ μ)) (hB : ∀ k i, μ k i < 1073741824) (hm0 : μ 0 0 ≤ 60) (hv9 : decide (μ 0 1 - (μ 15 1) ≤ 40) = false) (hsy : μ 15 1 ≤ μ 0 1) (hfl : μ 19 1 ≤ 10) (hs9 : μ 0 1 + μ 19 1 ≤ 2048) (hc20 : ∀ i, μ 20 i < 60) (hc21 : ∀ i, μ 21 i < 4) (hc22 : ∀ i, μ 22 i < 2) (h14 : μ 14 1 ≤ 10) (h23 : μ 23 1 < 1000000000) : Met l yX4_sync (codeW yX4_sync cX4_sync 8 (some .int)) ({ frames := 4, cells := 0, slots := 0, locals := 94 } : Room) (WrP D cI cZ sa (wM q cI cZ μ) [.ref (q 0), .int (nI (1))]) (WrQ (some (.int (nI ((sfin μ 1 false).2)))) D (wM q cI cZ (sye μ 1 false)) A) 0 0 A := by
  refine Met.ofW (cc := cX4_sync) (maxL := 8) (ret := (some .int)) (by decide) rfl ?_
  intro p e s m args below meth c s₁ B hml hv
  obtain ⟨rfl, hH, hKK⟩ := hv
  have hx := B.exec
  have hb := B.bytes
  have hr := B.returns
  have htA : ∀ w ∈ WA, w.before _ s = true := fun w h => atoms_spec (ws := (codeW yX4_sync cX4_sync 8 (some .int))) B.pre w (List.mem_cons_of_mem _ h)
  have hown : s.vm.findClass RX4 = some m.cls := findClass_of_methodNamed B.named
  have hlocks := B.notSynchronized
  have hP := hH
  have hS : va_S A s.heap s.heap [] := va_S.rf
  have hl := lv_entry ([.ref (q 0), .int (nI (1))]) (n := 8) (Nat.le_of_ble_eq_true rfl)
  rw [lg_entry_eq]
  generalize (lg_sl ([.ref (q 0), .int (nI (1))]) ++ List.replicate (8 - (lg_sl ([.ref (q 0), .int (nI (1))])).length) Slot.unset).toArray = ls at hl ⊢
  have hl : lv_has ls 8 [(0, .ref (q 0)), (1, .int (nI (1)))] := hl
  refine lv_aload_n hx hb dX4_sync_0 rfl (lv_at hl 0 rfl) ?_
  refine lv_iload_n hx hb dX4_sync_1 rfl (lv_at hl 1 rfl) ?_
  refine roS1 (v := .int (b2i (iw (nI (1)) (nI (0)) (nI (1))))) (As := [.int (nI (1))]) (rest := [.ref (q 0)]) (n := 1) ⟨hx, hb, hml, hown, htA⟩ (m_isClient l D cI cZ sa (nI (1)) s.heap ) (va_cwS 1 htA (gdS wd_873 wd_874 wd_5 wd_875) rfl rfl rfl (by decide +kernel) ⟨Nat.le_of_ble_eq_true rfl, Nat.le_of_ble_eq_true rfl⟩) hKK rfl hl.1 rfl (Nat.le_of_ble_eq_true rfl) dX4_sync_2 (Nat.zero_le _) (Nat.zero_le _) ?_
  refine b_ifeq (b := iw (nI (1)) (nI (0)) (nI (1))) (tgt := 12) hx hb dX4_sync_5 (by decide) (fun c_1 => ?_) (fun c_1 => ?_)
  · exact absurd (c_1.symm.trans (iw_n (by decide) (by decide) (by decide))) (by decide)
  refine n_iconst (k := 0) hx hb dX4_sync_8 (by decide) ?_
  refine lv_goto (tgt := 13) hx hb dX4_sync_9 (by decide) ?_
  refine wrV1 (v := .int (b2i (true))) (As := [.int (nI (0))]) (rest := []) (n := 1) ⟨hx, hb, hml, hown, htA⟩ (m_fine l D cI cZ sa q μ A (D_addr hD rfl) ) (cwV 1 htA (gdV wd_735 wd_737 wp_9 wd_5 wd_738) rfl rfl rfl (by decide +kernel) ⟨Nat.le_of_ble_eq_true rfl, Nat.le_of_ble_eq_true rfl⟩) hKK hP 0 rfl rfl rfl hl.1 rfl (Nat.le_of_ble_eq_true rfl) dX4_sync_13 (Nat.zero_le _) (Nat.zero_le _) hS (fun _ h => h) (fun H1 locs hP1 hz1 hk1 hS => ?_)
  have hP : va_P D vwCl (wM q cI cZ (sv μ 0 2 (0))) H1 := hP1
  generalize H1 = H at hP hS ⊢
  refine b_ifne (b := true) (tgt := 21) hx hb dX4_sync_16 (by decide) (fun c_2 => ?_) (fun c_2 => ?_)
  rotate_left
  · exact absurd c_2 (by decide)
  refine lv_aload_n hx hb dX4_sync_21 rfl (lv_at hl 0 rfl) ?_
  refine va_get (D := D) (ci := 4) (v := .ref (q 15)) (C := RX4) (T := TX4) (N := 26) hx hb htA uwX4 hown hKK.1 hP 0 rfl rfl 16 (by decide) (htA _ wd_661) (fun _ h9 => h9) rfl dX4_sync_22 ?_
  refine lv_iload_n hx hb dX4_sync_25 rfl (lv_at hl 1 rfl) ?_
  refine n_iald (g := μ 15) (cA := cI) (n := 2) (j := 1) hx hb hKK.1 hP 15 0 rfl rfl (by decide) (Nat.le_of_ble_eq_true rfl) dX4_sync_26 ?_
  refine lv_istore_n (lv' := [(2, .int (nI (μ 15 1))), (0, .ref (q 0)), (1, .int (nI (1)))]) hx hb dX4_sync_27 rfl hl (by decide) rfl (fun ls hl => ?_)
  refine lv_aload_n hx hb dX4_sync_28 rfl (lv_at hl 1 rfl) ?_
  refine va_get (D := D) (ci := 4) (v := .int (nI (μ 0 1))) (C := RX4) (T := TX4) (N := 26) hx hb htA uwX4 hown hKK.1 hP 0 rfl rfl 13 (by decide) (htA _ wd_658) (fun _ h9 => h9) rfl dX4_sync_29 ?_
  refine lv_istore_n (lv' := [(3, .int (nI (μ 0 1))), (2, .int (nI (μ 15 1))), (0, .ref (q 0)), (1, .int (nI (1)))]) hx hb dX4_sync_32 rfl hl (by decide) rfl (fun ls hl => ?_)
  refine lv_aload_n hx hb dX4_sync_33 rfl (lv_at hl 2 rfl) ?_
  refine lv_iload_n hx hb dX4_sync_34 rfl (lv_at hl 1 rfl) ?_
  refine roV1 (v := .int (b2i (decide (μ 0 1 - (μ 15 1) ≤ 40)))) (As := [.int (nI (μ 15 1))]) (rest := []) (n := 1) ⟨hx, hb, hml, hown, htA⟩ (m_tells l D cI cZ sa q (sv μ 0 2 (0)) (μ 15 1) H hP (sv_lt hB (by decide)) hm0 hsy) (cwV 1 htA (gdV wd_806 wd_808 wp_16 wd_5 wd_809) rfl rfl rfl (by decide +kernel) ⟨Nat.le_of_ble_eq_true rfl, Nat.le_of_ble_eq_true rfl⟩) hKK hP 0 rfl rfl rfl hl.1 rfl (Nat.le_of_ble_eq_true rfl) dX4_sync_35 (Nat.zero_le _) (Nat.zero_le _) ?_
  refine lv_istore (lv' := [(4, .int (b2i (decide (μ 0 1 - (μ 15 1) ≤ 40)))), (3, .int (nI (μ 0 1))), (2, .int (nI (μ 15 1))), (0, .ref (q 0)), (1, .int (nI (1)))]) hx hb dX4_sync_38 hl (by decide) rfl (fun ls hl => ?_)
  refine n_iconst (k := 0) hx hb dX4_sync_40 (by decide) ?_
  refine lv_istore (lv' := [(5, .int (nI (0))), (4, .int (b2i (decide (μ 0 1 - (μ 15 1) ≤ 40)))), (3, .int (nI (μ 0 1))), (2, .int (nI (μ 15 1))), (0, .ref (q 0)), (1, .int (nI (1)))]) hx hb dX4_sync_41 hl (by decide) rfl (fun ls hl => ?_)
  refine lv_bipush (v := nI 10) hx hb dX4_sync_43 (by decide) ?_
  refine lv_iload_n hx hb dX4_sync_45 rfl (lv_at hl 5 rfl) ?_
  refine n_imul hx hb dX4_sync_46 ?_
  refine lv_istore (lv' := [(6, .int (nI (10 * 1))), (5, .int (nI (0))), (4, .int (b2i (decide (μ 0 1 - (μ 15 1) ≤ 40)))), (3, .int (nI (μ 0 1))), (2, .int (nI (μ 15 1))), (0, .ref (q 0)), (1, .int (nI (1)))]) hx hb dX4_sync_47 hl (by decide) rfl (fun ls hl => ?_)
  have loop_49 : ∀ (n : Nat) (i cf : Nat) (ν : ST) (H : Heap) (locs : List Loc), (i + n = ν 19 1) → (ν 19 1 ≤ 10) → (∀ k i, ν k i < 1073741824) → (ν 0 0 ≤ 60) → (ν 0 1 + n ≤ 2048) → (∀ i, ν 20 i < 60) → (∀ i, ν 21 i < 4) → (∀ i, ν 22 i < 2) → (ν 14 1 ≤ 10) → (ν 23 1 < 1000000000) → (syf 1 (μ 15 1) (μ 0 1) false n i ν cf = sfin μ 1 false) → va_P D vwCl (wM q cI cZ ν) H → va_S A s.heap H locs → ∀ (ls : Array Slot), lv_has ls 8 [(0, .ref (q 0)), (1, .int (nI (1))), (2, .int (nI (μ 15 1))), (3, .int (nI (μ 0 1))), (4, .int (b2i (decide (μ 0 1 - (μ 15 1) ≤ 40)))), (5, .int (nI (cf))), (6, .int (nI (10 * 1 + i)))] → W p l e (headSpec (codeW yX4_sync cX4_sync 8 (some .int)) ({ frames := 4, cells := 0, slots := 0, locals := 94 } : Room)).room s m ([.ref (q 0), .int (nI (1))] : List Value).toArray below meth c H locs 0 0 (MQ below (WrQ (some (.int (nI ((sfin μ 1 false).2)))) D (wM q cI cZ (sye μ 1 false)) A) ([.ref (q 0), .int (nI (1))] : List Value).toArray s 0 0 A) (F0 m 49 ls []) := by
    intro n
    induction n with
    | zero =>
      intro i cf ν H locs hin h10f hBv hm0v hs9v hc20 hc21 hc22 h14v h23v hres hP hS ls hl
      refine lv_iload hx hb dX4_sync_49 (lv_at hl 6 rfl) ?_
      refine lv_bipush (v := nI 10) hx hb dX4_sync_51 (by decide) ?_
      refine lv_iload_n hx hb dX4_sync_53 rfl (lv_at hl 1 rfl) ?_
      refine n_imul hx hb dX4_sync_54 ?_
      refine lv_aload_n hx hb dX4_sync_55 rfl (lv_at hl 0 rfl) ?_
      refine va_get (D := D) (ci := 4) (v := .ref (q 19)) (C := RX4) (T := TX4) (N := 26) hx hb htA uwX4 hown hKK.1 hP 0 rfl rfl 20 (by decide) (htA _ wd_665) (fun _ h9 => h9) rfl dX4_sync_56 ?_
      refine lv_iload_n hx hb dX4_sync_59 rfl (lv_at hl 1 rfl) ?_
      refine n_iald (g := ν 19) (cA := cI) (n := 2) (j := 1) hx hb hKK.1 hP 19 0 rfl rfl (by decide) (Nat.le_of_ble_eq_true rfl) dX4_sync_60 ?_
      refine n_iadd hx hb dX4_sync_61 ?_
      refine n_icmp_ge (x := 10 * 1 + i) (y := (10 * 1) + (ν 19 1)) (tgt := 174) hx hb dX4_sync_62 (by decide) (by omega) (by omega) (fun c_3 => ?_) (fun c_3 => ?_)
      rotate_left
      · exfalso; omega
      refine lv_aload_n hx hb dX4_sync_174 rfl (lv_at hl 0 rfl) ?_
      refine va_get (D := D) (ci := 4) (v := .ref (q 23)) (C := RX4) (T := TX4) (N := 26) hx hb htA uwX4 hown hKK.1 hP 0 rfl rfl 24 (by decide) (htA _ wd_669) (fun _ h9 => h9) rfl dX4_sync_175 ?_
      refine lv_iload_n hx hb dX4_sync_178 rfl (lv_at hl 1 rfl) ?_
      refine lv_dup2_11 hx hb dX4_sync_179 rfl rfl ?_
      refine n_iald (g := ν 23) (cA := cI) (n := 2) (j := 1) hx hb hKK.1 hP 23 0 rfl rfl (by decide) (Nat.le_of_ble_eq_true rfl) dX4_sync_180 ?_
      refine lv_iload hx hb dX4_sync_181 (lv_at hl 4 rfl) ?_
      refine b_ifeq (b := decide (μ 0 1 - (μ 15 1) ≤ 40)) (tgt := 190) hx hb dX4_sync_183 (by decide) (fun c_4 => ?_) (fun c_4 => ?_)
      rotate_left
      · exact absurd (c_4.symm.trans hv9) (by decide)
      refine n_iconst (k := 1) hx hb dX4_sync_190 (by decide) ?_
      refine n_iadd hx hb dX4_sync_191 ?_
      refine n_iast (g := ν 23) (cA := cI) (n := 2) (j := 1) (v := (ν 23 1) + 1) hx hb hKK.1 hP (D_addr hD rfl) hS 23 0 rfl rfl (by decide) (Nat.le_of_ble_eq_true rfl) dX4_sync_192 (fun H locs hP hS => ?_)
      have hP : va_P D vwCl (wM q cI cZ (su ν 23 (upN (ν 23) (1) ((ν 23 1) + 1)))) H := hP
      refine lv_aload_n hx hb dX4_sync_193 rfl (lv_at hl 0 rfl) ?_
      refine lv_iload_n hx hb dX4_sync_194 rfl (lv_at hl 1 rfl) ?_
      refine wrV0 (As := [.int (nI (1))]) (rest := []) (n := 1) ⟨hx, hb, hml, hown, htA⟩ (m_takes1 l D cI cZ sa q (su ν 23 (upN (ν 23) (1) ((ν 23 1) + 1))) A (D_addr hD rfl) (su_lt hBv (up_lt (hBv 23) (by omega))) hm0v h14v) (cwV 1 htA (gdV wd_892 wd_894 wp_26 wd_5 wd_895) rfl rfl rfl (by decide +kernel) ⟨Nat.le_of_ble_eq_true rfl, Nat.le_of_ble_eq_true rfl⟩) hKK hP 0 rfl rfl rfl hl.1 rfl (Nat.le_of_ble_eq_true rfl) dX4_sync_195 (Nat.zero_le _) (Nat.zero_le _) hS (fun _ h => h) (fun H1 locs hP1 hz1 hk1 hS => ?_)
      have hP : va_P D vwCl (wM q cI cZ (tke (su ν 23 (upN (ν 23) (1) ((ν 23 1) + 1))) 1)) H1 := hP1
      generalize H1 = H at hP hS ⊢
      refine lv_iload hx hb dX4_sync_198 (lv_at hl 5 rfl) ?_
      have e9 : ν = (sfin μ 1 false).1 := congrArg Prod.fst hres
      rw [e9] at hP
      exact wr_i hx hb hr hlocks (by rw [show cf = (sfin μ 1 false).2 from congrArg Prod.snd hres]) hP hS dX4_sync_200
    | succ n ih =>
      intro i cf ν H locs hin h10f hBv hm0v hs9v hc20 hc21 hc22 h14v h23v hres hP hS ls hl
      refine lv_iload hx hb dX4_sync_49 (lv_at hl 6 rfl) ?_
      refine lv_bipush (v := nI 10) hx hb dX4_sync_51 (by decide) ?_
      refine lv_iload_n hx hb dX4_sync_53 rfl (lv_at hl 1 rfl) ?_
      refine n_imul hx hb dX4_sync_54 ?_
      refine lv_aload_n hx hb dX4_sync_55 rfl (lv_at hl 0 rfl) ?_
      refine va_get (D := D) (ci := 4) (v := .ref (q 19)) (C := RX4) (T := TX4) (N := 26) hx hb htA uwX4 hown hKK.1 hP 0 rfl rfl 20 (by decide) (htA _ wd_665) (fun _ h9 => h9) rfl dX4_sync_56 ?_
      refine lv_iload_n hx hb dX4_sync_59 rfl (lv_at hl 1 rfl) ?_
      refine n_iald (g := ν 19) (cA := cI) (n := 2) (j := 1) hx hb hKK.1 hP 19 0 rfl rfl (by decide) (Nat.le_of_ble_eq_true rfl) dX4_sync_60 ?_
      refine n_iadd hx hb dX4_sync_61 ?_
      refine n_icmp_ge (x := 10 * 1 + i) (y := (10 * 1) + (ν 19 1)) (tgt := 174) hx hb dX4_sync_62 (by decide) (by omega) (by omega) (fun c_5 => ?_) (fun c_5 => ?_)
      · exfalso; omega
      refine lv_aload_n hx hb dX4_sync_65 rfl (lv_at hl 0 rfl) ?_
      refine va_get (D := D) (ci := 4) (v := .ref (q 6)) (C := RX4) (T := TX4) (N := 26) hx hb htA uwX4 hown hKK.1 hP 0 rfl rfl 5 (by decide) (htA _ wd_650) (fun _ h9 => h9) rfl dX4_sync_66 ?_
      refine lv_aload_n hx hb dX4_sync_69 rfl (lv_at hl 0 rfl) ?_
      refine va_get (D := D) (ci := 4) (v := .ref (q 20)) (C := RX4) (T := TX4) (N := 26) hx hb htA uwX4 hown hKK.1 hP 0 rfl rfl 21 (by decide) (htA _ wd_666) (fun _ h9 => h9) rfl dX4_sync_70 ?_
      refine lv_iload hx hb dX4_sync_73 (lv_at hl 6 rfl) ?_
      refine n_iald (g := ν 20) (cA := cI) (n := 20) (j := 10 * 1 + i) hx hb hKK.1 hP 20 0 rfl rfl (by omega) (Nat.le_of_ble_eq_true rfl) dX4_sync_75 ?_
      refine n_iald (g := ν 6) (cA := cI) (n := 60) (j := ν 20 (10 * 1 + i)) hx hb hKK.1 hP 6 0 rfl rfl (hc20 _) (Nat.le_of_ble_eq_true rfl) dX4_sync_76 ?_
      refine n_ifgt (x := ν 6 (ν 20 (10 * 1 + i))) (tgt := 115) hx hb dX4_sync_77 (by decide) (Nat.lt_trans (hBv 6 (ν 20 (10 * 1 + i))) (by decide)) (fun c_6 => ?_) (fun c_6 => ?_)
      · refine n_iconst (k := 1) hx hb dX4_sync_115 (by decide) ?_
        refine lv_goto (tgt := 120) hx hb dX4_sync_116 (by decide) ?_
        refine lv_istore (lv' := [(7, .int (nI (1))), (0, .ref (q 0)), (1, .int (nI (1))), (2, .int (nI (μ 15 1))), (3, .int (nI (μ 0 1))), (4, .int (b2i (decide (μ 0 1 - (μ 15 1) ≤ 40)))), (5, .int (nI (cf))), (6, .int (nI (10 * 1 + i)))]) hx hb dX4_sync_120 hl (by decide) rfl (fun ls hl => ?_)
        refine lv_iload hx hb dX4_sync_122 (lv_at hl 6 rfl) ?_
        refine lv_iload hx hb dX4_sync_124 (lv_at hl 0 rfl) ?_
        refine b_ifeq (b := true) (tgt := 133) hx hb dX4_sync_126 (by decide) (fun c_7 => ?_) (fun c_7 => ?_)
        · exact absurd c_7 (by decide)
        refine n_iconst (k := 1) hx hb dX4_sync_129 (by decide) ?_
        refine lv_goto (tgt := 134) hx hb dX4_sync_130 (by decide) ?_
        refine n_iadd hx hb dX4_sync_134 ?_
        refine lv_istore (lv' := [(5, .int (nI (cf + 1))), (7, .int (nI (1))), (0, .ref (q 0)), (1, .int (nI (1))), (2, .int (nI (μ 15 1))), (3, .int (nI (μ 0 1))), (4, .int (b2i (decide (μ 0 1 - (μ 15 1) ≤ 40)))), (6, .int (nI (10 * 1 + i)))]) hx hb dX4_sync_135 hl (by decide) rfl (fun ls hl => ?_)
        refine lv_iload hx hb dX4_sync_137 (lv_at hl 1 rfl) ?_
        refine b_ifne (b := true) (tgt := 168) hx hb dX4_sync_139 (by decide) (fun c_8 => ?_) (fun c_8 => ?_)
        rotate_left
        · exact absurd c_8 (by decide)
        refine lv_iinc (v := nI (10 * 1 + i + 1)) (lv' := [(6, .int (nI (10 * 1 + i + 1))), (5, .int (nI (cf + 1))), (7, .int (nI (1))), (0, .ref (q 0)), (1, .int (nI (1))), (2, .int (nI (μ 15 1))), (3, .int (nI (μ 0 1))), (4, .int (b2i (decide (μ 0 1 - (μ 15 1) ≤ 40))))]) hx hb dX4_sync_168 hl (k := 7) rfl (n_inc (10 * 1 + i) 1 rfl) (by decide) rfl (fun ls hl => ?_)
        refine lv_goto (tgt := 49) hx hb dX4_sync_171 (by decide) ?_
        exact ih (i + 1) (cf + 1) ν _ _ (by omega) h10f hBv hm0v (by omega) hc20 hc21 hc22 h14v h23v (by rw [← hres]; simp only [syf]; rw [show icm ν (μ 15 1) (μ 0 1) false (ν 20 (10 * 1 + i)) (ν 21 (10 * 1 + i)) (ν 22 (10 * 1 + i)) = true from by unfold icm; rw [decide_eq_false (by omega)]; rfl]; rfl) hP hS ls (lv_sub hl [3, 4, 5, 6, 7, 1, 0] rfl)
      · refine lv_iload hx hb dX4_sync_80 (lv_at hl 4 rfl) ?_
        refine b_ifeq (b := decide (μ 0 1 - (μ 15 1) ≤ 40)) (tgt := 119) hx hb dX4_sync_82 (by decide) (fun c_9 => ?_) (fun c_9 => ?_)
        rotate_left
        · exact absurd (c_9.symm.trans hv9) (by decide)
        refine n_iconst (k := 0) hx hb dX4_sync_119 (by decide) ?_
        refine lv_istore (lv' := [(7, .int (nI (0))), (0, .ref (q 0)), (1, .int (nI (1))), (2, .int (nI (μ 15 1))), (3, .int (nI (μ 0 1))), (4, .int (b2i (decide (μ 0 1 - (μ 15 1) ≤ 40)))), (5, .int (nI (cf))), (6, .int (nI (10 * 1 + i)))]) hx hb dX4_sync_120 hl (by decide) rfl (fun ls hl => ?_)
        refine lv_iload hx hb dX4_sync_122 (lv_at hl 6 rfl) ?_
        refine lv_iload hx hb dX4_sync_124 (lv_at hl 0 rfl) ?_
        refine b_ifeq (b := false) (tgt := 133) hx hb dX4_sync_126 (by decide) (fun c_10 => ?_) (fun c_10 => ?_)
        rotate_left
        · exact absurd c_10 (by decide)
        refine n_iconst (k := 0) hx hb dX4_sync_133 (by decide) ?_
        refine n_iadd hx hb dX4_sync_134 ?_
        refine lv_istore (lv' := [(5, .int (nI (cf + 0))), (7, .int (nI (0))), (0, .ref (q 0)), (1, .int (nI (1))), (2, .int (nI (μ 15 1))), (3, .int (nI (μ 0 1))), (4, .int (b2i (decide (μ 0 1 - (μ 15 1) ≤ 40)))), (6, .int (nI (10 * 1 + i)))]) hx hb dX4_sync_135 hl (by decide) rfl (fun ls hl => ?_)
        refine lv_iload hx hb dX4_sync_137 (lv_at hl 1 rfl) ?_
        refine b_ifne (b := false) (tgt := 168) hx hb dX4_sync_139 (by decide) (fun c_11 => ?_) (fun c_11 => ?_)
        · exact absurd c_11 (by decide)
        refine lv_aload_n hx hb dX4_sync_142 rfl (lv_at hl 2 rfl) ?_
        refine lv_aload_n hx hb dX4_sync_143 rfl (lv_at hl 2 rfl) ?_
        refine va_get (D := D) (ci := 4) (v := .ref (q 20)) (C := RX4) (T := TX4) (N := 26) hx hb htA uwX4 hown hKK.1 hP 0 rfl rfl 21 (by decide) (htA _ wd_666) (fun _ h9 => h9) rfl dX4_sync_144 ?_
        refine lv_iload hx hb dX4_sync_147 (lv_at hl 7 rfl) ?_
        refine n_iald (g := ν 20) (cA := cI) (n := 20) (j := 10 * 1 + i) hx hb hKK.1 hP 20 0 rfl rfl (by omega) (Nat.le_of_ble_eq_true rfl) dX4_sync_149 ?_
        refine lv_aload_n hx hb dX4_sync_150 rfl (lv_at hl 2 rfl) ?_
        refine va_get (D := D) (ci := 4) (v := .ref (q 21)) (C := RX4) (T := TX4) (N := 26) hx hb htA uwX4 hown hKK.1 hP 0 rfl rfl 22 (by decide) (htA _ wd_667) (fun _ h9 => h9) rfl dX4_sync_151 ?_
        refine lv_iload hx hb dX4_sync_154 (lv_at hl 7 rfl) ?_
        refine n_iald (g := ν 21) (cA := cI) (n := 20) (j := 10 * 1 + i) hx hb hKK.1 hP 21 0 rfl rfl (by omega) (Nat.le_of_ble_eq_true rfl) dX4_sync_156 ?_
        refine lv_aload_n hx hb dX4_sync_157 rfl (lv_at hl 2 rfl) ?_
        refine va_get (D := D) (ci := 4) (v := .ref (q 22)) (C := RX4) (T := TX4) (N := 26) hx hb htA uwX4 hown hKK.1 hP 0 rfl rfl 23 (by decide) (htA _ wd_668) (fun _ h9 => h9) rfl dX4_sync_158 ?_
        refine lv_iload hx hb dX4_sync_161 (lv_at hl 7 rfl) ?_
        refine n_zald (g := ν 22) (cA := cZ) (n := 20) (j := 10 * 1 + i) hx hb hKK.1 hP 22 1 rfl rfl (by omega) (Nat.le_of_ble_eq_true rfl) dX4_sync_163 ?_
        refine wrV1 (v := .int (b2i (!decide (hs (ν 3 (ν 20 (10 * 1 + i))) (ν 21 (10 * 1 + i)) = nb (ν 22 (10 * 1 + i)))))) (As := [.int (nI (ν 20 (10 * 1 + i))), .int (nI (ν 21 (10 * 1 + i))), .int (nI (ν 22 (10 * 1 + i)))]) (rest := []) (n := 3) ⟨hx, hb, hml, hown, htA⟩ (m_flags l D cI cZ sa q ν (ν 20 (10 * 1 + i)) (ν 21 (10 * 1 + i)) (ν 22 (10 * 1 + i)) A (D_addr hD rfl) hBv hm0v (by omega) (hc20 _) (hc22 _) (Nat.lt_trans (hc21 _) (by decide))) (cwV 3 htA (gdV wd_755 wd_757 wp_12 wd_5 wd_758) rfl rfl rfl (by decide +kernel) ⟨Nat.le_of_ble_eq_true rfl, Nat.le_of_ble_eq_true rfl⟩) hKK hP 0 rfl rfl rfl hl.1 rfl (Nat.le_of_ble_eq_true rfl) dX4_sync_164 (Nat.zero_le _) (Nat.zero_le _) hS (fun _ h => h) (fun H1 locs hP1 hz1 hk1 hS => ?_)
        have hP : va_P D vwCl (wM q cI cZ (flw ν (ν 20 (10 * 1 + i)) (ν 21 (10 * 1 + i)) (ν 22 (10 * 1 + i)))) H1 := hP1
        generalize H1 = H at hP hS ⊢
        refine lv_pop hx hb dX4_sync_167 rfl ?_
        refine lv_iinc (v := nI (10 * 1 + i + 1)) (lv' := [(6, .int (nI (10 * 1 + i + 1))), (5, .int (nI (cf + 0))), (7, .int (nI (0))), (0, .ref (q 0)), (1, .int (nI (1))), (2, .int (nI (μ 15 1))), (3, .int (nI (μ 0 1))), (4, .int (b2i (decide (μ 0 1 - (μ 15 1) ≤ 40))))]) hx hb dX4_sync_168 hl (k := 7) rfl (n_inc (10 * 1 + i) 1 rfl) (by decide) rfl (fun ls hl => ?_)
        refine lv_goto (tgt := 49) hx hb dX4_sync_171 (by decide) ?_
        exact ih (i + 1) cf (flw ν (ν 20 (10 * 1 + i)) (ν 21 (10 * 1 + i)) (ν 22 (10 * 1 + i))) _ _ (by rw [flw_c rfl]; omega) (by rw [flw_c rfl]; exact h10f) (flw_lt hBv (hc20 _) (hc21 _) (hc22 _) (by omega)) (by rw [flw_00]; exact hm0v) (Nat.le_trans (Nat.add_le_add_right flw_01 n) (by omega)) (by rw [flw_c rfl]; exact hc20) (by rw [flw_c rfl]; exact hc21) (by rw [flw_c rfl]; exact hc22) (by rw [flw_c rfl]; exact h14v) (by rw [flw_c rfl]; exact h23v) (by rw [← hres]; simp only [syf]; rw [show icm ν (μ 15 1) (μ 0 1) false (ν 20 (10 * 1 + i)) (ν 21 (10 * 1 + i)) (ν 22 (10 * 1 + i)) = false from by unfold icm; rw [decide_eq_true (by omega)]; rfl]; rfl) hP hS ls (lv_sub hl [3, 4, 5, 6, 7, 1, 0] rfl)
  exact loop_49 (μ 19 1) 0 0 (sv μ 0 2 0) _ _ (Nat.zero_add _) hfl (sv_lt hB (by decide)) hm0 hs9 hc20 hc21 hc22 h14 h23 rfl hP hS ls (lv_sub hl [5, 6, 4, 3, 2, 1, 0] rfl)
