set_option maxHeartbeats 4000000 in
set_option maxRecDepth 100000 in
theorem c_hasPlace (l : Launch) (D : va_G) (cI cZ : ClassId) (sa : Nat → Nat) (q k : Nat → Nat) (σ κ : ST) (x : Int32) (H : Heap) (hP : va_P D vwCl (wCS q k cI cZ σ κ) H)  : Met l yX1_hasPlace (codeW yX1_hasPlace cX1_hasPlace 2 (some .boolean)) ({ frames := 0, cells := 0, slots := 0, locals := 0 } : Room) (RoP D cI cZ sa H [.ref (k 0), .int (x)]) (RoQ (some (.int (b2i (hpl κ x)))) H) 0 0 RoF := by
  refine Met.ofW (cc := cX1_hasPlace) (maxL := 2) (ret := (some .boolean)) (by decide) rfl ?_
  intro p e s m args below meth c s₁ B hml hv
  obtain ⟨rfl, hH, hKK⟩ := hv
  subst hH
  have hx := B.exec
  have hb := B.bytes
  have hr := B.returns
  have htA : ∀ w ∈ WA, w.before _ s = true := fun w h => atoms_spec (ws := (codeW yX1_hasPlace cX1_hasPlace 2 (some .boolean))) B.pre w (List.mem_cons_of_mem _ h)
  have hown : s.vm.findClass RX1 = some m.cls := findClass_of_methodNamed B.named
  have hlocks := B.notSynchronized
  have hl := lv_entry ([.ref (k 0), .int (x)]) (n := 2) (Nat.le_of_ble_eq_true rfl)
  rw [lg_entry_eq]
  generalize (lg_sl ([.ref (k 0), .int (x)]) ++ List.replicate (2 - (lg_sl ([.ref (k 0), .int (x)])).length) Slot.unset).toArray = ls at hl ⊢
  have hl : lv_has ls 2 [(0, .ref (k 0)), (1, .int (x))] := hl
  refine lv_iload_n hx hb dX1_hasPlace_0 rfl (lv_at hl 1 rfl) ?_
  refine lv_if_lt (tgt := 22) hx hb dX1_hasPlace_1 (by decide) (fun c_1 => ?_) (fun c_1 => ?_)
  · refine n_iconst (k := 0) hx hb dX1_hasPlace_22 (by decide) ?_
    exact ro_z (v := false) hx hb hr hlocks (by simp [hpl, c_1]) dX1_hasPlace_23
  · refine lv_iload_n hx hb dX1_hasPlace_4 rfl (lv_at hl 1 rfl) ?_
    refine lv_aload_n hx hb dX1_hasPlace_5 rfl (lv_at hl 0 rfl) ?_
    refine va_get (D := D) (ci := 1) (v := .int (nI (κ 0 4))) (C := RX1) (T := TX1) (N := 11) hx hb htA uwX1 hown hKK.1 hP 0 rfl rfl 6 (by decide) (htA _ wd_94) (fun _ h9 => h9) rfl dX1_hasPlace_6 ?_
    refine lv_icmp_ge (x := x) (y := nI (κ 0 4)) (tgt := 22) hx hb dX1_hasPlace_9 (by decide) (fun c_2 => ?_) (fun c_2 => ?_)
    · refine n_iconst (k := 0) hx hb dX1_hasPlace_22 (by decide) ?_
      exact ro_z (v := false) hx hb hr hlocks (by simp [hpl, c_1, c_2]) dX1_hasPlace_23
    · refine lv_iload_n hx hb dX1_hasPlace_12 rfl (lv_at hl 1 rfl) ?_
      refine lv_bipush (v := nI 10) hx hb dX1_hasPlace_13 (by decide) ?_
      refine lv_icmp_ge (x := x) (y := nI (10)) (tgt := 22) hx hb dX1_hasPlace_15 (by decide) (fun c_3 => ?_) (fun c_3 => ?_)
      · refine n_iconst (k := 0) hx hb dX1_hasPlace_22 (by decide) ?_
        exact ro_z (v := false) hx hb hr hlocks (by simp [hpl, c_1, c_2, c_3]) dX1_hasPlace_23
      · refine n_iconst (k := 1) hx hb dX1_hasPlace_18 (by decide) ?_
        refine lv_goto (tgt := 23) hx hb dX1_hasPlace_19 (by decide) ?_
        exact ro_z (v := true) hx hb hr hlocks (by simp [hpl, c_1, c_2, c_3]) dX1_hasPlace_23
set_option maxHeartbeats 4000000 in
set_option maxRecDepth 100000 in
theorem c_placeOf (l : Launch) (D : va_G) (cI cZ : ClassId) (sa : Nat → Nat) (q k : Nat → Nat) (σ κ : ST) (x : Int32) (H : Heap) (hP : va_P D vwCl (wCS q k cI cZ σ κ) H) (h10 : κ 0 4 ≤ 10) : Met l yX1_placeOf (codeW yX1_placeOf cX1_placeOf 3 (some .int)) ({ frames := 0, cells := 0, slots := 0, locals := 0 } : Room) (RoP D cI cZ sa H [.ref (k 0), .int (x)]) (RoQ (some (.int (oi (plo κ x (κ 0 4) 0)))) H) 0 0 RoF := by
  refine Met.ofW (cc := cX1_placeOf) (maxL := 3) (ret := (some .int)) (by decide) rfl ?_
  intro p e s m args below meth c s₁ B hml hv
  obtain ⟨rfl, hH, hKK⟩ := hv
  subst hH
  have hx := B.exec
  have hb := B.bytes
  have hr := B.returns
  have htA : ∀ w ∈ WA, w.before _ s = true := fun w h => atoms_spec (ws := (codeW yX1_placeOf cX1_placeOf 3 (some .int))) B.pre w (List.mem_cons_of_mem _ h)
  have hown : s.vm.findClass RX1 = some m.cls := findClass_of_methodNamed B.named
  have hlocks := B.notSynchronized
  have hl := lv_entry ([.ref (k 0), .int (x)]) (n := 3) (Nat.le_of_ble_eq_true rfl)
  rw [lg_entry_eq]
  generalize (lg_sl ([.ref (k 0), .int (x)]) ++ List.replicate (3 - (lg_sl ([.ref (k 0), .int (x)])).length) Slot.unset).toArray = ls at hl ⊢
  have hl : lv_has ls 3 [(0, .ref (k 0)), (1, .int (x))] := hl
  refine n_iconst (k := 0) hx hb dX1_placeOf_0 (by decide) ?_
  refine lv_istore_n (lv' := [(2, .int (nI (0))), (0, .ref (k 0)), (1, .int (x))]) hx hb dX1_placeOf_1 rfl hl (by decide) rfl (fun ls hl => ?_)
  have loop_2 : ∀ (n : Nat) (pl : Nat), (pl + n = κ 0 4) → (plo κ x n pl = plo κ x (κ 0 4) 0) → ∀ (ls : Array Slot), lv_has ls 3 [(0, .ref (k 0)), (1, .int (x)), (2, .int (nI (pl)))] → W p l e (headSpec (codeW yX1_placeOf cX1_placeOf 3 (some .int)) ({ frames := 0, cells := 0, slots := 0, locals := 0 } : Room)).room s m ([.ref (k 0), .int (x)] : List Value).toArray below meth c s.heap [] 0 0 (MQ below (RoQ (some (.int (oi (plo κ x (κ 0 4) 0)))) s.heap) ([.ref (k 0), .int (x)] : List Value).toArray s 0 0 RoF) (F0 m 2 ls []) := by
    intro n
    induction n with
    | zero =>
      intro pl hin hres ls hl
      refine lv_iload_n hx hb dX1_placeOf_2 rfl (lv_at hl 2 rfl) ?_
      refine lv_aload_n hx hb dX1_placeOf_3 rfl (lv_at hl 0 rfl) ?_
      refine va_get (D := D) (ci := 1) (v := .int (nI (κ 0 4))) (C := RX1) (T := TX1) (N := 11) hx hb htA uwX1 hown hKK.1 hP 0 rfl rfl 6 (by decide) (htA _ wd_94) (fun _ h9 => h9) rfl dX1_placeOf_4 ?_
      refine n_icmp_ge (x := pl) (y := κ 0 4) (tgt := 34) hx hb dX1_placeOf_7 (by decide) (by omega) (by omega) (fun c_1 => ?_) (fun c_1 => ?_)
      rotate_left
      · exfalso; omega
      refine lv_iconst (v := oi 0) hx hb dX1_placeOf_34 (by decide) ?_
      exact ro_i hx hb hr hlocks (by rw [← hres]; rfl) dX1_placeOf_35
    | succ n ih =>
      intro pl hin hres ls hl
      refine lv_iload_n hx hb dX1_placeOf_2 rfl (lv_at hl 2 rfl) ?_
      refine lv_aload_n hx hb dX1_placeOf_3 rfl (lv_at hl 0 rfl) ?_
      refine va_get (D := D) (ci := 1) (v := .int (nI (κ 0 4))) (C := RX1) (T := TX1) (N := 11) hx hb htA uwX1 hown hKK.1 hP 0 rfl rfl 6 (by decide) (htA _ wd_94) (fun _ h9 => h9) rfl dX1_placeOf_4 ?_
      refine n_icmp_ge (x := pl) (y := κ 0 4) (tgt := 34) hx hb dX1_placeOf_7 (by decide) (by omega) (by omega) (fun c_2 => ?_) (fun c_2 => ?_)
      · exfalso; omega
      refine lv_iload_n hx hb dX1_placeOf_10 rfl (lv_at hl 2 rfl) ?_
      refine lv_bipush (v := nI 10) hx hb dX1_placeOf_11 (by decide) ?_
      refine n_icmp_ge (x := pl) (y := 10) (tgt := 34) hx hb dX1_placeOf_13 (by decide) (by omega) (by decide) (fun c_3 => ?_) (fun c_3 => ?_)
      · exfalso; omega
      refine lv_aload_n hx hb dX1_placeOf_16 rfl (lv_at hl 0 rfl) ?_
      refine va_get (D := D) (ci := 1) (v := .ref (k 1)) (C := RX1) (T := TX1) (N := 11) hx hb htA uwX1 hown hKK.1 hP 0 rfl rfl 4 (by decide) (htA _ wd_90) (fun _ h9 => h9) rfl dX1_placeOf_17 ?_
      refine lv_iload_n hx hb dX1_placeOf_20 rfl (lv_at hl 2 rfl) ?_
      refine n_iald (g := κ 1) (cA := cI) (n := 10) (j := pl) hx hb hKK.1 hP 1 0 rfl rfl (by omega) (Nat.le_of_ble_eq_true rfl) dX1_placeOf_21 ?_
      refine lv_iload_n hx hb dX1_placeOf_22 rfl (lv_at hl 1 rfl) ?_
      refine lv_icmp_ne (x := nI (κ 1 pl)) (y := x) (tgt := 28) hx hb dX1_placeOf_23 (by decide) (fun c_4 => ?_) (fun c_4 => ?_)
      · refine lv_iinc (v := nI (pl + 1)) (lv' := [(2, .int (nI (pl + 1))), (0, .ref (k 0)), (1, .int (x))]) hx hb dX1_placeOf_28 hl (k := 2) rfl (n_inc (pl) 1 rfl) (by decide) rfl (fun ls hl => ?_)
        refine lv_goto (tgt := 2) hx hb dX1_placeOf_31 (by decide) ?_
        exact ih (pl + 1) (by omega) (by rw [← hres]; simp only [plo, c_4, decide_true, decide_false, Bool.true_and, Bool.false_and, Bool.and_true, Bool.and_false, Bool.not_true, Bool.not_false, eq_self, not_true_eq_false, not_false_eq_true, cond_true, cond_false, ne_eq]) ls (lv_sub hl [1, 2, 0] rfl)
      · refine lv_iload_n hx hb dX1_placeOf_26 rfl (lv_at hl 2 rfl) ?_
        exact ro_i hx hb hr hlocks (by rw [← hres]; simp only [plo, c_4, decide_true, decide_false, Bool.true_and, Bool.false_and, Bool.and_true, Bool.and_false, Bool.not_true, Bool.not_false, eq_self, not_true_eq_false, not_false_eq_true, cond_true, cond_false, ne_eq]; rfl) dX1_placeOf_27
  exact loop_2 (κ 0 4) 0 (by omega) rfl ls (lv_sub hl [1, 2, 0] rfl)
set_option maxHeartbeats 4000000 in
set_option maxRecDepth 100000 in
theorem c_list (l : Launch) (D : va_G) (cI cZ : ClassId) (sa : Nat → Nat) (q k : Nat → Nat) (σ κ : ST) (mm kk w0 : Nat) (A : Nat → Prop) (hD : va_D A (wCS q k cI cZ σ κ)) (hfl : κ 0 5 < 10) (hw : w0 < 2) : Met l yX1_list (codeW yX1_list cX1_list 4 none) ({ frames := 0, cells := 0, slots := 0, locals := 0 } : Room) (WrP D cI cZ sa (wCS q k cI cZ σ κ) [.ref (k 0), .int (nI (mm)), .int (nI (kk)), .int (nI (w0))]) (WrQ none D (wCS q k cI cZ σ (lst κ mm kk w0)) A) 0 0 A := by
  refine Met.ofW (cc := cX1_list) (maxL := 4) (ret := none) (by decide) rfl ?_
  intro p e s m args below meth c s₁ B hml hv
  obtain ⟨rfl, hH, hKK⟩ := hv
  have hx := B.exec
  have hb := B.bytes
  have hr := B.returns
  have htA : ∀ w ∈ WA, w.before _ s = true := fun w h => atoms_spec (ws := (codeW yX1_list cX1_list 4 none)) B.pre w (List.mem_cons_of_mem _ h)
  have hown : s.vm.findClass RX1 = some m.cls := findClass_of_methodNamed B.named
  have hlocks := B.notSynchronized
  have hP := hH
  have hS : va_S A s.heap s.heap [] := va_S.rf
  have hl := lv_entry ([.ref (k 0), .int (nI (mm)), .int (nI (kk)), .int (nI (w0))]) (n := 4) (Nat.le_of_ble_eq_true rfl)
  rw [lg_entry_eq]
  generalize (lg_sl ([.ref (k 0), .int (nI (mm)), .int (nI (kk)), .int (nI (w0))]) ++ List.replicate (4 - (lg_sl ([.ref (k 0), .int (nI (mm)), .int (nI (kk)), .int (nI (w0))])).length) Slot.unset).toArray = ls at hl ⊢
  have hl : lv_has ls 4 [(0, .ref (k 0)), (1, .int (nI (mm))), (2, .int (nI (kk))), (3, .int (nI (w0)))] := hl
  refine lv_aload_n hx hb dX1_list_0 rfl (lv_at hl 0 rfl) ?_
  refine va_get (D := D) (ci := 1) (v := .int (nI (κ 0 5))) (C := RX1) (T := TX1) (N := 11) hx hb htA uwX1 hown hKK.1 hP 0 rfl rfl 10 (by decide) (htA _ wd_99) (fun _ h9 => h9) rfl dX1_list_1 ?_
  refine n_iflt (tgt := 56) hx hb dX1_list_4 (by decide) (by omega) ?_
  refine lv_aload_n hx hb dX1_list_7 rfl (lv_at hl 0 rfl) ?_
  refine va_get (D := D) (ci := 1) (v := .int (nI (κ 0 5))) (C := RX1) (T := TX1) (N := 11) hx hb htA uwX1 hown hKK.1 hP 0 rfl rfl 10 (by decide) (htA _ wd_99) (fun _ h9 => h9) rfl dX1_list_8 ?_
  refine lv_bipush (v := nI 10) hx hb dX1_list_11 (by decide) ?_
  refine n_icmp_ge (x := κ 0 5) (y := 10) (tgt := 56) hx hb dX1_list_13 (by decide) (by omega) (by decide) (fun c_2 => ?_) (fun c_2 => ?_)
  · exfalso; omega
  refine lv_aload_n hx hb dX1_list_16 rfl (lv_at hl 0 rfl) ?_
  refine va_get (D := D) (ci := 1) (v := .ref (k 3)) (C := RX1) (T := TX1) (N := 11) hx hb htA uwX1 hown hKK.1 hP 0 rfl rfl 7 (by decide) (htA _ wd_96) (fun _ h9 => h9) rfl dX1_list_17 ?_
  refine lv_aload_n hx hb dX1_list_20 rfl (lv_at hl 0 rfl) ?_
  refine va_get (D := D) (ci := 1) (v := .int (nI (κ 0 5))) (C := RX1) (T := TX1) (N := 11) hx hb htA uwX1 hown hKK.1 hP 0 rfl rfl 10 (by decide) (htA _ wd_99) (fun _ h9 => h9) rfl dX1_list_21 ?_
  refine lv_iload_n hx hb dX1_list_24 rfl (lv_at hl 1 rfl) ?_
  refine n_iast (g := κ 3) (cA := cI) (n := 10) (j := κ 0 5) (v := mm) hx hb hKK.1 hP (D_addr hD rfl) hS 3 0 rfl rfl (by omega) (Nat.le_of_ble_eq_true rfl) dX1_list_25 (fun H locs hP hS => ?_)
  have hP : va_P D vwCl (wCS q k cI cZ σ (su κ 3 (upN (κ 3) (κ 0 5) (mm)))) H := hP
  refine lv_aload_n hx hb dX1_list_26 rfl (lv_at hl 0 rfl) ?_
  refine va_get (D := D) (ci := 1) (v := .ref (k 4)) (C := RX1) (T := TX1) (N := 11) hx hb htA uwX1 hown hKK.1 hP 0 rfl rfl 8 (by decide) (htA _ wd_97) (fun _ h9 => h9) rfl dX1_list_27 ?_
  refine lv_aload_n hx hb dX1_list_30 rfl (lv_at hl 0 rfl) ?_
  refine va_get (D := D) (ci := 1) (v := .int (nI (κ 0 5))) (C := RX1) (T := TX1) (N := 11) hx hb htA uwX1 hown hKK.1 hP 0 rfl rfl 10 (by decide) (htA _ wd_99) (fun _ h9 => h9) rfl dX1_list_31 ?_
  refine lv_iload_n hx hb dX1_list_34 rfl (lv_at hl 2 rfl) ?_
  refine n_iast (g := κ 4) (cA := cI) (n := 10) (j := κ 0 5) (v := kk) hx hb hKK.1 hP (D_addr hD rfl) hS 4 0 rfl rfl (by omega) (Nat.le_of_ble_eq_true rfl) dX1_list_35 (fun H locs hP hS => ?_)
  have hP : va_P D vwCl (wCS q k cI cZ σ (su (su κ 3 (upN (κ 3) (κ 0 5) (mm))) 4 (upN (κ 4) (κ 0 5) (kk)))) H := hP
  refine lv_aload_n hx hb dX1_list_36 rfl (lv_at hl 0 rfl) ?_
  refine va_get (D := D) (ci := 1) (v := .ref (k 5)) (C := RX1) (T := TX1) (N := 11) hx hb htA uwX1 hown hKK.1 hP 0 rfl rfl 9 (by decide) (htA _ wd_98) (fun _ h9 => h9) rfl dX1_list_37 ?_
  refine lv_aload_n hx hb dX1_list_40 rfl (lv_at hl 0 rfl) ?_
  refine va_get (D := D) (ci := 1) (v := .int (nI (κ 0 5))) (C := RX1) (T := TX1) (N := 11) hx hb htA uwX1 hown hKK.1 hP 0 rfl rfl 10 (by decide) (htA _ wd_99) (fun _ h9 => h9) rfl dX1_list_41 ?_
  refine lv_iload_n hx hb dX1_list_44 rfl (lv_at hl 3 rfl) ?_
  refine n_zast (g := κ 5) (cA := cZ) (n := 10) (j := κ 0 5) (v := w0) hx hb hKK.1 hP (D_addr hD rfl) hS 5 1 rfl rfl (by omega) (by omega) (Nat.le_of_ble_eq_true rfl) dX1_list_45 (fun H locs hP hS => ?_)
  have hP : va_P D vwCl (wCS q k cI cZ σ (su (su (su κ 3 (upN (κ 3) (κ 0 5) (mm))) 4 (upN (κ 4) (κ 0 5) (kk))) 5 (upN (κ 5) (κ 0 5) (w0)))) H := hP
  refine lv_aload_n hx hb dX1_list_46 rfl (lv_at hl 0 rfl) ?_
  refine lv_dup hx hb dX1_list_47 rfl ?_
  refine va_get (D := D) (ci := 1) (v := .int (nI (κ 0 5))) (C := RX1) (T := TX1) (N := 11) hx hb htA uwX1 hown hKK.1 hP 0 rfl rfl 10 (by decide) (htA _ wd_99) (fun _ h9 => h9) rfl dX1_list_48 ?_
  refine n_iconst (k := 1) hx hb dX1_list_51 (by decide) ?_
  refine n_iadd hx hb dX1_list_52 ?_
  refine va_put (D := D) (ci := 1) (v := .int (nI ((κ 0 5) + 1))) (ty := .int) (C := RX1) (T := TX1) (N := 11) hx hb htA uwX1 tyX1 tyX1_ok nmX1 hown hKK.1 hP (D_addr hD rfl) hS 0 rfl rfl 10 (by decide) (htA _ wd_99) (fun _ h9 => h9) rfl (by decide +kernel) rfl rfl (Nat.le_of_ble_eq_true rfl) dX1_list_53 (fun H locs hP _ hS => ?_)
  have hP : va_P D vwCl (wCS q k cI cZ σ (sv (su (su (su κ 3 (upN (κ 3) (κ 0 5) (mm))) 4 (upN (κ 4) (κ 0 5) (kk))) 5 (upN (κ 5) (κ 0 5) (w0))) 0 5 ((κ 0 5) + 1))) H := hP
  exact wr_v hx hb hr hlocks hP hS dX1_list_56
set_option maxHeartbeats 4000000 in
set_option maxRecDepth 100000 in
theorem c_note (l : Launch) (D : va_G) (cI cZ : ClassId) (sa : Nat → Nat) (q k : Nat → Nat) (σ κ : ST) (pl kk w0 : Nat) (A : Nat → Prop) (hD : va_D A (wCS q k cI cZ σ κ)) (hpp : pl < κ 0 4) (h10 : κ 0 4 ≤ 10) (hC : CI κ) (hk : kk < 4) (hfl : κ 0 5 < 10) (hw : w0 < 2) : Met l yX1_note (codeW yX1_note cX1_note 4 none) ({ frames := 1, cells := 0, slots := 0, locals := 23 } : Room) (WrP D cI cZ sa (wCS q k cI cZ σ κ) [.ref (k 0), .int (nI (pl)), .int (nI (kk)), .int (nI (w0))]) (WrQ none D (wCS q k cI cZ σ (nte κ pl kk w0)) A) 0 0 A := by
  refine Met.ofW (cc := cX1_note) (maxL := 4) (ret := none) (by decide) rfl ?_
  intro p e s m args below meth c s₁ B hml hv
  obtain ⟨rfl, hH, hKK⟩ := hv
  have hx := B.exec
  have hb := B.bytes
  have hr := B.returns
  have htA : ∀ w ∈ WA, w.before _ s = true := fun w h => atoms_spec (ws := (codeW yX1_note cX1_note 4 none)) B.pre w (List.mem_cons_of_mem _ h)
  have hown : s.vm.findClass RX1 = some m.cls := findClass_of_methodNamed B.named
  have hlocks := B.notSynchronized
  have hP := hH
  have hS : va_S A s.heap s.heap [] := va_S.rf
  have hl := lv_entry ([.ref (k 0), .int (nI (pl)), .int (nI (kk)), .int (nI (w0))]) (n := 4) (Nat.le_of_ble_eq_true rfl)
  rw [lg_entry_eq]
  generalize (lg_sl ([.ref (k 0), .int (nI (pl)), .int (nI (kk)), .int (nI (w0))]) ++ List.replicate (4 - (lg_sl ([.ref (k 0), .int (nI (pl)), .int (nI (kk)), .int (nI (w0))])).length) Slot.unset).toArray = ls at hl ⊢
  have hl : lv_has ls 4 [(0, .ref (k 0)), (1, .int (nI (pl))), (2, .int (nI (kk))), (3, .int (nI (w0)))] := hl
  refine lv_aload_n hx hb dX1_note_0 rfl (lv_at hl 0 rfl) ?_
  refine lv_iload_n hx hb dX1_note_1 rfl (lv_at hl 1 rfl) ?_
  refine roV1 (v := .int (b2i (hpl κ (nI (pl))))) (As := [.int (nI (pl))]) (rest := []) (n := 1) ⟨hx, hb, hml, hown, htA⟩ (c_hasPlace l D cI cZ sa q k σ κ (nI (pl)) s.heap hP ) (cwV 1 htA (gdV wd_388 wd_389 wd_390 wd_4 wd_391) rfl rfl rfl (by decide +kernel) ⟨Nat.le_of_ble_eq_true rfl, Nat.le_of_ble_eq_true rfl⟩) hKK hP 0 rfl rfl rfl hl.1 rfl (Nat.le_of_ble_eq_true rfl) dX1_note_2 (Nat.zero_le _) (Nat.zero_le _) ?_
  refine b_ifeq (b := hpl κ (nI (pl))) (tgt := 39) hx hb dX1_note_5 (by decide) (fun c_1 => ?_) (fun c_1 => ?_)
  · exact absurd (c_1.symm.trans (hpl_n hpp h10)) (by decide)
  refine lv_aload_n hx hb dX1_note_8 rfl (lv_at hl 0 rfl) ?_
  refine va_get (D := D) (ci := 1) (v := .ref (k 2)) (C := RX1) (T := TX1) (N := 11) hx hb htA uwX1 hown hKK.1 hP 0 rfl rfl 5 (by decide) (htA _ wd_92) (fun _ h9 => h9) rfl dX1_note_9 ?_
  refine lv_iload_n hx hb dX1_note_12 rfl (lv_at hl 1 rfl) ?_
  refine lv_aload_n hx hb dX1_note_13 rfl (lv_at hl 0 rfl) ?_
  refine va_get (D := D) (ci := 1) (v := .ref (k 2)) (C := RX1) (T := TX1) (N := 11) hx hb htA uwX1 hown hKK.1 hP 0 rfl rfl 5 (by decide) (htA _ wd_92) (fun _ h9 => h9) rfl dX1_note_14 ?_
  refine lv_iload_n hx hb dX1_note_17 rfl (lv_at hl 1 rfl) ?_
  refine n_iald (g := κ 2) (cA := cI) (n := 10) (j := pl) hx hb hKK.1 hP 2 0 rfl rfl (by omega) (Nat.le_of_ble_eq_true rfl) dX1_note_18 ?_
  refine lv_i2l hx hb dX1_note_19 rfl ?_
  refine lv_iload_n hx hb dX1_note_20 rfl (lv_at hl 2 rfl) ?_
  refine lv_iload_n hx hb dX1_note_21 rfl (lv_at hl 3 rfl) ?_
  refine roN1 (v := .long (wi ((nI (κ 2 pl)).toInt64) (kk) (nb w0))) (As := [.long ((nI (κ 2 pl)).toInt64), .int (nI (kk)), .int (nI (w0))]) (rest := [.int (nI (pl)), .ref (k 2)]) (n := 3) ⟨hx, hb, hml, hown, htA⟩ (c_withn l D cI cZ sa ((nI (κ 2 pl)).toInt64) (kk) (w0) s.heap (by omega)) (cnS 3 htA (gd_c wd_315) rfl rfl rfl (ex_RX1_39 hKK.2) wd_1 wd_314 (by decide +kernel) ⟨Nat.le_of_ble_eq_true rfl, Nat.le_of_ble_eq_true rfl⟩) hKK rfl hl.1 rfl (Nat.le_of_ble_eq_true rfl) dX1_note_22 (Nat.zero_le _) (Nat.zero_le _) ?_
  refine lv_l2i hx hb dX1_note_25 rfl ?_
  rw [wi_n (hC.2.2.2.2.1 pl) hk]
  refine n_iast (g := κ 2) (cA := cI) (n := 10) (j := pl) (v := wn (κ 2 pl) kk (nb w0)) hx hb hKK.1 hP (D_addr hD rfl) hS 2 0 rfl rfl (by omega) (Nat.le_of_ble_eq_true rfl) dX1_note_26 (fun H locs hP hS => ?_)
  have hP : va_P D vwCl (wCS q k cI cZ σ (su κ 2 (upN (κ 2) (pl) (wn (κ 2 pl) kk (nb w0))))) H := hP
  refine lv_aload_n hx hb dX1_note_27 rfl (lv_at hl 0 rfl) ?_
  refine lv_aload_n hx hb dX1_note_28 rfl (lv_at hl 0 rfl) ?_
  refine va_get (D := D) (ci := 1) (v := .ref (k 1)) (C := RX1) (T := TX1) (N := 11) hx hb htA uwX1 hown hKK.1 hP 0 rfl rfl 4 (by decide) (htA _ wd_90) (fun _ h9 => h9) rfl dX1_note_29 ?_
  refine lv_iload_n hx hb dX1_note_32 rfl (lv_at hl 1 rfl) ?_
  refine n_iald (g := κ 1) (cA := cI) (n := 10) (j := pl) hx hb hKK.1 hP 1 0 rfl rfl (by omega) (Nat.le_of_ble_eq_true rfl) dX1_note_33 ?_
  refine lv_iload_n hx hb dX1_note_34 rfl (lv_at hl 2 rfl) ?_
  refine lv_iload_n hx hb dX1_note_35 rfl (lv_at hl 3 rfl) ?_
  refine wrV0 (As := [.int (nI (κ 1 pl)), .int (nI (kk)), .int (nI (w0))]) (rest := []) (n := 3) ⟨hx, hb, hml, hown, htA⟩ (c_list l D cI cZ sa q k σ (su κ 2 (upN (κ 2) (pl) (wn (κ 2 pl) kk (nb w0)))) (κ 1 pl) kk w0 A (D_addr hD rfl) hfl hw) (cwV 3 htA (gdV wd_393 wd_395 wp_4 wd_4 wd_396) rfl rfl rfl (by decide +kernel) ⟨Nat.le_of_ble_eq_true rfl, Nat.le_of_ble_eq_true rfl⟩) hKK hP 0 rfl rfl rfl hl.1 rfl (Nat.le_of_ble_eq_true rfl) dX1_note_36 (Nat.zero_le _) (Nat.zero_le _) hS (fun _ h => h) (fun H1 locs hP1 hz1 hk1 hS => ?_)
  have hP : va_P D vwCl (wCS q k cI cZ σ (lst (su κ 2 (upN (κ 2) (pl) (wn (κ 2 pl) kk (nb w0)))) (κ 1 pl) kk w0)) H1 := hP1
  generalize H1 = H at hP hS ⊢
  exact wr_v hx hb hr hlocks hP hS dX1_note_39
set_option maxHeartbeats 4000000 in
set_option maxRecDepth 100000 in
theorem c_isConflict (l : Launch) (D : va_G) (cI cZ : ClassId) (sa : Nat → Nat) (q k : Nat → Nat) (σ κ : ST) (mm kk w0 : Nat) (H : Heap) (hP : va_P D vwCl (wCS q k cI cZ σ κ) H) (hm : mm < 60) (hB : ∀ k i, σ k i < 1073741824) (hsy : κ 0 2 ≤ σ 7 0) (hw : w0 < 2) : Met l yX1_isConflict (codeW yX1_isConflict cX1_isConflict 6 (some .boolean)) ({ frames := 3, cells := 0, slots := 0, locals := 69 } : Room) (RoP D cI cZ sa H [.ref (k 0), .ref (q 1), .int (nI (mm)), .int (nI (kk)), .int (nI (w0))]) (RoQ (some (.int (b2i (icf σ κ mm kk w0)))) H) 0 0 RoF := by
  refine Met.ofW (cc := cX1_isConflict) (maxL := 6) (ret := (some .boolean)) (by decide) rfl ?_
  intro p e s m args below meth c s₁ B hml hv
  obtain ⟨rfl, hH, hKK⟩ := hv
  subst hH
  have hx := B.exec
  have hb := B.bytes
  have hr := B.returns
  have htA : ∀ w ∈ WA, w.before _ s = true := fun w h => atoms_spec (ws := (codeW yX1_isConflict cX1_isConflict 6 (some .boolean))) B.pre w (List.mem_cons_of_mem _ h)
  have hown : s.vm.findClass RX1 = some m.cls := findClass_of_methodNamed B.named
  have hlocks := B.notSynchronized
  have hl := lv_entry ([.ref (k 0), .ref (q 1), .int (nI (mm)), .int (nI (kk)), .int (nI (w0))]) (n := 6) (Nat.le_of_ble_eq_true rfl)
  rw [lg_entry_eq]
  generalize (lg_sl ([.ref (k 0), .ref (q 1), .int (nI (mm)), .int (nI (kk)), .int (nI (w0))]) ++ List.replicate (6 - (lg_sl ([.ref (k 0), .ref (q 1), .int (nI (mm)), .int (nI (kk)), .int (nI (w0))])).length) Slot.unset).toArray = ls at hl ⊢
  have hl : lv_has ls 6 [(0, .ref (k 0)), (1, .ref (q 1)), (2, .int (nI (mm))), (3, .int (nI (kk))), (4, .int (nI (w0)))] := hl
  refine lv_aload_n hx hb dX1_isConflict_0 rfl (lv_at hl 1 rfl) ?_
  refine lv_iload_n hx hb dX1_isConflict_1 rfl (lv_at hl 2 rfl) ?_
  refine roV1 (v := .int (b2i (!decide (σ 4 mm = 0)))) (As := [.int (nI (mm))]) (rest := []) (n := 1) ⟨hx, hb, hml, hown, htA⟩ (c_isThere_t l D cI cZ sa q σ mm s.heap (CS_SS hP) hm hB) (cwV 1 htA (gdV wd_417 wd_267 wd_268 wd_2 wd_269) rfl rfl rfl (by decide +kernel) ⟨Nat.le_of_ble_eq_true rfl, Nat.le_of_ble_eq_true rfl⟩) hKK hP 6 rfl rfl rfl hl.1 rfl (Nat.le_of_ble_eq_true rfl) dX1_isConflict_2 (Nat.zero_le _) (Nat.zero_le _) ?_
  refine b_ifne (b := !decide (σ 4 mm = 0)) (tgt := 10) hx hb dX1_isConflict_5 (by decide) (fun c_1 => ?_) (fun c_1 => ?_)
  · refine lv_aload_n hx hb dX1_isConflict_10 rfl (lv_at hl 1 rfl) ?_
    refine va_getN (D := D) (ci := 2) (v := .ref (q 7)) (C := RX2) (T := TX2) (N := 7) hx hb htA uwX2 hown hKK.1 hP 6 rfl rfl 5 (by decide) (va_Nw.use rfl (ex_RX1_59 hKK.2)) (fun _ h9 => h9) rfl dX1_isConflict_11 ?_
    refine lv_astore (lv' := [(5, .ref (q 7)), (0, .ref (k 0)), (1, .ref (q 1)), (2, .int (nI (mm))), (3, .int (nI (kk))), (4, .int (nI (w0)))]) hx hb dX1_isConflict_14 hl (by decide) rfl (fun ls hl => ?_)
    refine lv_aload hx hb dX1_isConflict_16 (lv_at hl 0 rfl) ?_
    refine lv_aload_n hx hb dX1_isConflict_18 rfl (lv_at hl 1 rfl) ?_
    refine va_get (D := D) (ci := 1) (v := .int (nI (κ 0 2))) (C := RX1) (T := TX1) (N := 11) hx hb htA uwX1 hown hKK.1 hP 0 rfl rfl 2 (by decide) (htA _ wd_87) (fun _ h9 => h9) rfl dX1_isConflict_19 ?_
    refine roV1 (v := .int (b2i (decide (σ 7 0 - (κ 0 2) ≤ 40)))) (As := [.int (nI (κ 0 2))]) (rest := []) (n := 1) ⟨hx, hb, hml, hown, htA⟩ (c_reach l D cI cZ sa q σ (κ 0 2) s.heap (CS_SS hP) hB hsy) (cwV 1 htA (gdV wd_418 wd_406 wd_407 wd_3 wd_408) rfl rfl rfl (by decide +kernel) ⟨Nat.le_of_ble_eq_true rfl, Nat.le_of_ble_eq_true rfl⟩) hKK hP 12 rfl rfl rfl hl.1 rfl (Nat.le_of_ble_eq_true rfl) dX1_isConflict_22 (Nat.zero_le _) (Nat.zero_le _) ?_
    refine b_ifeq (b := decide (σ 7 0 - (κ 0 2) ≤ 40)) (tgt := 48) hx hb dX1_isConflict_25 (by decide) (fun c_2 => ?_) (fun c_2 => ?_)
    · refine n_iconst (k := 0) hx hb dX1_isConflict_48 (by decide) ?_
      exact ro_z (v := false) hx hb hr hlocks (by unfold icf; rw [c_1, c_2]; rfl) dX1_isConflict_49
    · refine lv_aload hx hb dX1_isConflict_28 (lv_at hl 0 rfl) ?_
      refine lv_aload_n hx hb dX1_isConflict_30 rfl (lv_at hl 1 rfl) ?_
      refine va_get (D := D) (ci := 1) (v := .int (nI (κ 0 2))) (C := RX1) (T := TX1) (N := 11) hx hb htA uwX1 hown hKK.1 hP 0 rfl rfl 2 (by decide) (htA _ wd_87) (fun _ h9 => h9) rfl dX1_isConflict_31 ?_
      refine lv_iload_n hx hb dX1_isConflict_34 rfl (lv_at hl 3 rfl) ?_
      refine lv_iload_n hx hb dX1_isConflict_35 rfl (lv_at hl 4 rfl) ?_
      refine lv_iload hx hb dX1_isConflict_36 (lv_at hl 5 rfl) ?_
      refine roV1 (v := .int (b2i (ctr σ mm kk w0 (min (σ 7 0 - (κ 0 2)) 40) 0))) (As := [.int (nI (κ 0 2)), .int (nI (mm)), .int (nI (kk)), .int (nI (w0))]) (rest := []) (n := 4) ⟨hx, hb, hml, hown, htA⟩ (c_contradict l D cI cZ sa q σ (κ 0 2) mm kk w0 s.heap (CS_SS hP) hB hsy (by omega) hw) (cwV 4 htA (gdV wd_419 wd_420 wd_421 wd_3 wd_422) rfl rfl rfl (by decide +kernel) ⟨Nat.le_of_ble_eq_true rfl, Nat.le_of_ble_eq_true rfl⟩) hKK hP 12 rfl rfl rfl hl.1 rfl (Nat.le_of_ble_eq_true rfl) dX1_isConflict_38 (Nat.zero_le _) (Nat.zero_le _) ?_
      refine b_ifeq (b := ctr σ mm kk w0 (min (σ 7 0 - (κ 0 2)) 40) 0) (tgt := 48) hx hb dX1_isConflict_41 (by decide) (fun c_3 => ?_) (fun c_3 => ?_)
      · refine n_iconst (k := 0) hx hb dX1_isConflict_48 (by decide) ?_
        exact ro_z (v := false) hx hb hr hlocks (by unfold icf; rw [c_1, c_2, c_3]; rfl) dX1_isConflict_49
      · refine n_iconst (k := 1) hx hb dX1_isConflict_44 (by decide) ?_
        refine lv_goto (tgt := 49) hx hb dX1_isConflict_45 (by decide) ?_
        exact ro_z (v := true) hx hb hr hlocks (by unfold icf; rw [c_1, c_2, c_3]; rfl) dX1_isConflict_49
  · refine n_iconst (k := 1) hx hb dX1_isConflict_8 (by decide) ?_
    exact ro_z (v := true) hx hb hr hlocks (by unfold icf; rw [c_1]; rfl) dX1_isConflict_9
set_option maxHeartbeats 4000000 in
set_option maxRecDepth 100000 in
theorem c_leaveOut (l : Launch) (D : va_G) (cI cZ : ClassId) (sa : Nat → Nat) (q k : Nat → Nat) (σ κ : ST) (A : Nat → Prop) (hD : va_D A (wCS q k cI cZ σ κ)) (hB : ∀ k i, σ k i < 1073741824) (hC : CI κ) (hsy : κ 0 2 ≤ σ 7 0) (hfl : κ 0 5 ≤ 10) : Met l yX1_leaveOutConflicts (codeW yX1_leaveOutConflicts cX1_leaveOutConflicts 4 (some .int)) ({ frames := 4, cells := 0, slots := 0, locals := 94 } : Room) (WrP D cI cZ sa (wCS q k cI cZ σ κ) [.ref (k 0), .ref (q 1)]) (WrQ (some (.int (nI (κ 0 5 - loc σ κ (κ 0 5) 0 5)))) D (wCS q k cI cZ σ (loc σ κ (κ 0 5))) A) 0 0 A := by
  refine Met.ofW (cc := cX1_leaveOutConflicts) (maxL := 4) (ret := (some .int)) (by decide) rfl ?_
  intro p e s m args below meth c s₁ B hml hv
  obtain ⟨rfl, hH, hKK⟩ := hv
  have hx := B.exec
  have hb := B.bytes
  have hr := B.returns
  have htA : ∀ w ∈ WA, w.before _ s = true := fun w h => atoms_spec (ws := (codeW yX1_leaveOutConflicts cX1_leaveOutConflicts 4 (some .int))) B.pre w (List.mem_cons_of_mem _ h)
  have hown : s.vm.findClass RX1 = some m.cls := findClass_of_methodNamed B.named
  have hlocks := B.notSynchronized
  have hP := hH
  have hS : va_S A s.heap s.heap [] := va_S.rf
  have hl := lv_entry ([.ref (k 0), .ref (q 1)]) (n := 4) (Nat.le_of_ble_eq_true rfl)
  rw [lg_entry_eq]
  generalize (lg_sl ([.ref (k 0), .ref (q 1)]) ++ List.replicate (4 - (lg_sl ([.ref (k 0), .ref (q 1)])).length) Slot.unset).toArray = ls at hl ⊢
  have hl : lv_has ls 4 [(0, .ref (k 0)), (1, .ref (q 1))] := hl
  refine lv_aload_n hx hb dX1_leaveOutConflicts_0 rfl (lv_at hl 0 rfl) ?_
  refine va_get (D := D) (ci := 1) (v := .int (nI (κ 0 5))) (C := RX1) (T := TX1) (N := 11) hx hb htA uwX1 hown hKK.1 hP 0 rfl rfl 10 (by decide) (htA _ wd_99) (fun _ h9 => h9) rfl dX1_leaveOutConflicts_1 ?_
  refine lv_istore_n (lv' := [(2, .int (nI (κ 0 5))), (0, .ref (k 0)), (1, .ref (q 1))]) hx hb dX1_leaveOutConflicts_4 rfl hl (by decide) rfl (fun ls hl => ?_)
  refine lv_aload_n hx hb dX1_leaveOutConflicts_5 rfl (lv_at hl 1 rfl) ?_
  refine n_iconst (k := 0) hx hb dX1_leaveOutConflicts_6 (by decide) ?_
  refine va_put (D := D) (ci := 1) (v := .int (nI (0))) (ty := .int) (C := RX1) (T := TX1) (N := 11) hx hb htA uwX1 tyX1 tyX1_ok nmX1 hown hKK.1 hP (D_addr hD rfl) hS 0 rfl rfl 10 (by decide) (htA _ wd_99) (fun _ h9 => h9) rfl (by decide +kernel) rfl rfl (Nat.le_of_ble_eq_true rfl) dX1_leaveOutConflicts_7 (fun H locs hP _ hS => ?_)
  have hP : va_P D vwCl (wCS q k cI cZ σ (sv κ 0 5 (0))) H := hP
  refine n_iconst (k := 0) hx hb dX1_leaveOutConflicts_10 (by decide) ?_
  refine lv_istore_n (lv' := [(3, .int (nI (0))), (2, .int (nI (κ 0 5))), (0, .ref (k 0)), (1, .ref (q 1))]) hx hb dX1_leaveOutConflicts_11 rfl hl (by decide) rfl (fun ls hl => ?_)
  have loop_12 : ∀ (n : Nat) (i : Nat) (H : Heap) (locs : List Loc), (i + n = κ 0 5) → va_P D vwCl (wCS q k cI cZ σ (loc σ κ i)) H → va_S A s.heap H locs → ∀ (ls : Array Slot), lv_has ls 4 [(0, .ref (k 0)), (1, .ref (q 1)), (2, .int (nI (κ 0 5))), (3, .int (nI (i)))] → W p l e (headSpec (codeW yX1_leaveOutConflicts cX1_leaveOutConflicts 4 (some .int)) ({ frames := 4, cells := 0, slots := 0, locals := 94 } : Room)).room s m ([.ref (k 0), .ref (q 1)] : List Value).toArray below meth c H locs 0 0 (MQ below (WrQ (some (.int (nI (κ 0 5 - loc σ κ (κ 0 5) 0 5)))) D (wCS q k cI cZ σ (loc σ κ (κ 0 5))) A) ([.ref (k 0), .ref (q 1)] : List Value).toArray s 0 0 A) (F0 m 12 ls []) := by
    intro n
    induction n with
    | zero =>
      intro i H locs hin hP hS ls hl
      have hA := loc_all (σ := σ) hC i (by omega)
      have hAf := hA.2.1
      refine lv_iload_n hx hb dX1_leaveOutConflicts_12 rfl (lv_at hl 3 rfl) ?_
      refine lv_iload_n hx hb dX1_leaveOutConflicts_13 rfl (lv_at hl 2 rfl) ?_
      refine n_icmp_ge (x := i) (y := κ 0 5) (tgt := 77) hx hb dX1_leaveOutConflicts_14 (by decide) (by omega) (by omega) (fun c_1 => ?_) (fun c_1 => ?_)
      rotate_left
      · exfalso; omega
      refine lv_iload_n hx hb dX1_leaveOutConflicts_77 rfl (lv_at hl 2 rfl) ?_
      refine lv_aload_n hx hb dX1_leaveOutConflicts_78 rfl (lv_at hl 0 rfl) ?_
      refine va_get (D := D) (ci := 1) (v := .int (nI ((loc σ κ i) 0 5))) (C := RX1) (T := TX1) (N := 11) hx hb htA uwX1 hown hKK.1 hP 0 rfl rfl 10 (by decide) (htA _ wd_99) (fun _ h9 => h9) rfl dX1_leaveOutConflicts_79 ?_
      refine n_isub hx hb (by omega) dX1_leaveOutConflicts_82 ?_
      have hi : i = κ 0 5 := by omega
      subst hi
      exact wr_i hx hb hr hlocks (rfl) hP hS dX1_leaveOutConflicts_83
    | succ n ih =>
      intro i H locs hin hP hS ls hl
      have hA := loc_all (σ := σ) hC i (by omega)
      have hAf := hA.2.1
      refine lv_iload_n hx hb dX1_leaveOutConflicts_12 rfl (lv_at hl 3 rfl) ?_
      refine lv_iload_n hx hb dX1_leaveOutConflicts_13 rfl (lv_at hl 2 rfl) ?_
      refine n_icmp_ge (x := i) (y := κ 0 5) (tgt := 77) hx hb dX1_leaveOutConflicts_14 (by decide) (by omega) (by omega) (fun c_2 => ?_) (fun c_2 => ?_)
      · exfalso; omega
      refine lv_iload_n hx hb dX1_leaveOutConflicts_17 rfl (lv_at hl 3 rfl) ?_
      refine lv_bipush (v := nI 10) hx hb dX1_leaveOutConflicts_18 (by decide) ?_
      refine n_icmp_ge (x := i) (y := 10) (tgt := 77) hx hb dX1_leaveOutConflicts_20 (by decide) (by omega) (by decide) (fun c_3 => ?_) (fun c_3 => ?_)
      · exfalso; omega
      refine lv_aload_n hx hb dX1_leaveOutConflicts_23 rfl (lv_at hl 0 rfl) ?_
      refine lv_aload_n hx hb dX1_leaveOutConflicts_24 rfl (lv_at hl 1 rfl) ?_
      refine lv_aload_n hx hb dX1_leaveOutConflicts_25 rfl (lv_at hl 0 rfl) ?_
      refine va_get (D := D) (ci := 1) (v := .ref (k 3)) (C := RX1) (T := TX1) (N := 11) hx hb htA uwX1 hown hKK.1 hP 0 rfl rfl 7 (by decide) (htA _ wd_96) (fun _ h9 => h9) rfl dX1_leaveOutConflicts_26 ?_
      refine lv_iload_n hx hb dX1_leaveOutConflicts_29 rfl (lv_at hl 3 rfl) ?_
      refine n_iald (g := (loc σ κ i) 3) (cA := cI) (n := 10) (j := i) hx hb hKK.1 hP 3 0 rfl rfl (by omega) (Nat.le_of_ble_eq_true rfl) dX1_leaveOutConflicts_30 ?_
      refine lv_aload_n hx hb dX1_leaveOutConflicts_31 rfl (lv_at hl 0 rfl) ?_
      refine va_get (D := D) (ci := 1) (v := .ref (k 4)) (C := RX1) (T := TX1) (N := 11) hx hb htA uwX1 hown hKK.1 hP 0 rfl rfl 8 (by decide) (htA _ wd_97) (fun _ h9 => h9) rfl dX1_leaveOutConflicts_32 ?_
      refine lv_iload_n hx hb dX1_leaveOutConflicts_35 rfl (lv_at hl 3 rfl) ?_
      refine n_iald (g := (loc σ κ i) 4) (cA := cI) (n := 10) (j := i) hx hb hKK.1 hP 4 0 rfl rfl (by omega) (Nat.le_of_ble_eq_true rfl) dX1_leaveOutConflicts_36 ?_
      refine lv_aload_n hx hb dX1_leaveOutConflicts_37 rfl (lv_at hl 0 rfl) ?_
      refine va_get (D := D) (ci := 1) (v := .ref (k 5)) (C := RX1) (T := TX1) (N := 11) hx hb htA uwX1 hown hKK.1 hP 0 rfl rfl 9 (by decide) (htA _ wd_98) (fun _ h9 => h9) rfl dX1_leaveOutConflicts_38 ?_
      refine lv_iload_n hx hb dX1_leaveOutConflicts_41 rfl (lv_at hl 3 rfl) ?_
      refine n_zald (g := (loc σ κ i) 5) (cA := cZ) (n := 10) (j := i) hx hb hKK.1 hP 5 1 rfl rfl (by omega) (Nat.le_of_ble_eq_true rfl) dX1_leaveOutConflicts_42 ?_
      refine roV1 (v := .int (b2i (icf σ (loc σ κ i) ((loc σ κ i) 3 i) ((loc σ κ i) 4 i) ((loc σ κ i) 5 i)))) (As := [.ref (q 1), .int (nI ((loc σ κ i) 3 i)), .int (nI ((loc σ κ i) 4 i)), .int (nI ((loc σ κ i) 5 i))]) (rest := []) (n := 4) ⟨hx, hb, hml, hown, htA⟩ (c_isConflict l D cI cZ sa q k σ (loc σ κ i) ((loc σ κ i) 3 i) ((loc σ κ i) 4 i) ((loc σ κ i) 5 i) H hP (hA.1.1 i) hB (by rw [hA.2.2]; exact hsy) (hA.1.2.2.1 i)) (cwV 4 htA (gdV wd_413 wd_415 wp_5 wd_4 wd_416) rfl rfl rfl (by decide +kernel) ⟨Nat.le_of_ble_eq_true rfl, Nat.le_of_ble_eq_true rfl⟩) hKK hP 0 rfl rfl rfl hl.1 rfl (Nat.le_of_ble_eq_true rfl) dX1_leaveOutConflicts_43 (Nat.zero_le _) (Nat.zero_le _) ?_
      refine b_ifne (b := icf σ (loc σ κ i) ((loc σ κ i) 3 i) ((loc σ κ i) 4 i) ((loc σ κ i) 5 i)) (tgt := 71) hx hb dX1_leaveOutConflicts_46 (by decide) (fun c_4 => ?_) (fun c_4 => ?_)
      · refine lv_iinc (v := nI (i + 1)) (lv' := [(3, .int (nI (i + 1))), (0, .ref (k 0)), (1, .ref (q 1)), (2, .int (nI (κ 0 5)))]) hx hb dX1_leaveOutConflicts_71 hl (k := 3) rfl (n_inc (i) 1 rfl) (by decide) rfl (fun ls hl => ?_)
        refine lv_goto (tgt := 12) hx hb dX1_leaveOutConflicts_74 (by decide) ?_
        have e : loc σ κ (i + 1) = loc σ κ i := by simp only [loc]; rw [c_4]; rfl
        rw [← e] at hP
        exact ih (i + 1) _ _ (by omega) hP hS ls (lv_sub hl [1, 2, 3, 0] rfl)
      · refine lv_aload_n hx hb dX1_leaveOutConflicts_49 rfl (lv_at hl 0 rfl) ?_
        refine lv_aload_n hx hb dX1_leaveOutConflicts_50 rfl (lv_at hl 0 rfl) ?_
        refine va_get (D := D) (ci := 1) (v := .ref (k 3)) (C := RX1) (T := TX1) (N := 11) hx hb htA uwX1 hown hKK.1 hP 0 rfl rfl 7 (by decide) (htA _ wd_96) (fun _ h9 => h9) rfl dX1_leaveOutConflicts_51 ?_
        refine lv_iload_n hx hb dX1_leaveOutConflicts_54 rfl (lv_at hl 3 rfl) ?_
        refine n_iald (g := (loc σ κ i) 3) (cA := cI) (n := 10) (j := i) hx hb hKK.1 hP 3 0 rfl rfl (by omega) (Nat.le_of_ble_eq_true rfl) dX1_leaveOutConflicts_55 ?_
        refine lv_aload_n hx hb dX1_leaveOutConflicts_56 rfl (lv_at hl 0 rfl) ?_
        refine va_get (D := D) (ci := 1) (v := .ref (k 4)) (C := RX1) (T := TX1) (N := 11) hx hb htA uwX1 hown hKK.1 hP 0 rfl rfl 8 (by decide) (htA _ wd_97) (fun _ h9 => h9) rfl dX1_leaveOutConflicts_57 ?_
        refine lv_iload_n hx hb dX1_leaveOutConflicts_60 rfl (lv_at hl 3 rfl) ?_
        refine n_iald (g := (loc σ κ i) 4) (cA := cI) (n := 10) (j := i) hx hb hKK.1 hP 4 0 rfl rfl (by omega) (Nat.le_of_ble_eq_true rfl) dX1_leaveOutConflicts_61 ?_
        refine lv_aload_n hx hb dX1_leaveOutConflicts_62 rfl (lv_at hl 0 rfl) ?_
        refine va_get (D := D) (ci := 1) (v := .ref (k 5)) (C := RX1) (T := TX1) (N := 11) hx hb htA uwX1 hown hKK.1 hP 0 rfl rfl 9 (by decide) (htA _ wd_98) (fun _ h9 => h9) rfl dX1_leaveOutConflicts_63 ?_
        refine lv_iload_n hx hb dX1_leaveOutConflicts_66 rfl (lv_at hl 3 rfl) ?_
        refine n_zald (g := (loc σ κ i) 5) (cA := cZ) (n := 10) (j := i) hx hb hKK.1 hP 5 1 rfl rfl (by omega) (Nat.le_of_ble_eq_true rfl) dX1_leaveOutConflicts_67 ?_
        refine wrV0 (As := [.int (nI ((loc σ κ i) 3 i)), .int (nI ((loc σ κ i) 4 i)), .int (nI ((loc σ κ i) 5 i))]) (rest := []) (n := 3) ⟨hx, hb, hml, hown, htA⟩ (c_list l D cI cZ sa q k σ (loc σ κ i) ((loc σ κ i) 3 i) ((loc σ κ i) 4 i) ((loc σ κ i) 5 i) A (D_addr hD rfl) (by omega) (hA.1.2.2.1 i)) (cwV 3 htA (gdV wd_393 wd_395 wp_4 wd_4 wd_396) rfl rfl rfl (by decide +kernel) ⟨Nat.le_of_ble_eq_true rfl, Nat.le_of_ble_eq_true rfl⟩) hKK hP 0 rfl rfl rfl hl.1 rfl (Nat.le_of_ble_eq_true rfl) dX1_leaveOutConflicts_68 (Nat.zero_le _) (Nat.zero_le _) hS (fun _ h => h) (fun H1 locs hP1 hz1 hk1 hS => ?_)
        have hP : va_P D vwCl (wCS q k cI cZ σ (lst (loc σ κ i) ((loc σ κ i) 3 i) ((loc σ κ i) 4 i) ((loc σ κ i) 5 i))) H1 := hP1
        generalize H1 = H at hP hS ⊢
        refine lv_iinc (v := nI (i + 1)) (lv' := [(3, .int (nI (i + 1))), (0, .ref (k 0)), (1, .ref (q 1)), (2, .int (nI (κ 0 5)))]) hx hb dX1_leaveOutConflicts_71 hl (k := 3) rfl (n_inc (i) 1 rfl) (by decide) rfl (fun ls hl => ?_)
        refine lv_goto (tgt := 12) hx hb dX1_leaveOutConflicts_74 (by decide) ?_
        have e : loc σ κ (i + 1) = lst (loc σ κ i) ((loc σ κ i) 3 i) ((loc σ κ i) 4 i) ((loc σ κ i) 5 i) := by simp only [loc]; rw [c_4]; rfl
        rw [← e] at hP
        exact ih (i + 1) _ _ (by omega) hP hS ls (lv_sub hl [1, 2, 3, 0] rfl)
  have hP : va_P D vwCl (wCS q k cI cZ σ (loc σ κ 0)) H := hP
  exact loop_12 (κ 0 5) 0 _ _ (by omega) hP hS ls (lv_sub hl [2, 3, 1, 0] rfl)
set_option maxHeartbeats 4000000 in
set_option maxRecDepth 100000 in
theorem c_replay (l : Launch) (D : va_G) (cI cZ : ClassId) (sa : Nat → Nat) (q k : Nat → Nat) (σ κ : ST) (A : Nat → Prop) (hD : va_D A (wCS q k cI cZ σ κ)) (hB : ∀ k i, σ k i < 1000000000) (hC : CI κ) (h15 : ∀ i, σ 5 i < 16) (hfl : κ 0 5 ≤ 10) : Met l yX1_replay (codeW yX1_replay cX1_replay 3 none) ({ frames := 5, cells := 0, slots := 0, locals := 113 } : Room) (WrP D cI cZ sa (wCS q k cI cZ σ κ) [.ref (k 0), .ref (q 1)]) (WrQ none D (wCS q k cI cZ (rpl σ κ (κ 0 5)) (sv κ 0 5 0)) A) 0 0 A := by
  refine Met.ofW (cc := cX1_replay) (maxL := 3) (ret := none) (by decide) rfl ?_
  intro p e s m args below meth c s₁ B hml hv
  obtain ⟨rfl, hH, hKK⟩ := hv
  have hx := B.exec
  have hb := B.bytes
  have hr := B.returns
  have htA : ∀ w ∈ WA, w.before _ s = true := fun w h => atoms_spec (ws := (codeW yX1_replay cX1_replay 3 none)) B.pre w (List.mem_cons_of_mem _ h)
  have hown : s.vm.findClass RX1 = some m.cls := findClass_of_methodNamed B.named
  have hlocks := B.notSynchronized
  have hP := hH
  have hS : va_S A s.heap s.heap [] := va_S.rf
  have hl := lv_entry ([.ref (k 0), .ref (q 1)]) (n := 3) (Nat.le_of_ble_eq_true rfl)
  rw [lg_entry_eq]
  generalize (lg_sl ([.ref (k 0), .ref (q 1)]) ++ List.replicate (3 - (lg_sl ([.ref (k 0), .ref (q 1)])).length) Slot.unset).toArray = ls at hl ⊢
  have hl : lv_has ls 3 [(0, .ref (k 0)), (1, .ref (q 1))] := hl
  refine n_iconst (k := 0) hx hb dX1_replay_0 (by decide) ?_
  refine lv_istore_n (lv' := [(2, .int (nI (0))), (0, .ref (k 0)), (1, .ref (q 1))]) hx hb dX1_replay_1 rfl hl (by decide) rfl (fun ls hl => ?_)
  have loop_2 : ∀ (n : Nat) (i : Nat) (H : Heap) (locs : List Loc), (i + n = κ 0 5) → va_P D vwCl (wCS q k cI cZ (rpl σ κ i) κ) H → va_S A s.heap H locs → ∀ (ls : Array Slot), lv_has ls 3 [(0, .ref (k 0)), (1, .ref (q 1)), (2, .int (nI (i)))] → W p l e (headSpec (codeW yX1_replay cX1_replay 3 none) ({ frames := 5, cells := 0, slots := 0, locals := 113 } : Room)).room s m ([.ref (k 0), .ref (q 1)] : List Value).toArray below meth c H locs 0 0 (MQ below (WrQ none D (wCS q k cI cZ (rpl σ κ (κ 0 5)) (sv κ 0 5 0)) A) ([.ref (k 0), .ref (q 1)] : List Value).toArray s 0 0 A) (F0 m 2 ls []) := by
    intro n
    induction n with
    | zero =>
      intro i H locs hin hP hS ls hl
      have hR := rpl_all hC hB h15 i
      refine lv_iload_n hx hb dX1_replay_2 rfl (lv_at hl 2 rfl) ?_
      refine lv_aload_n hx hb dX1_replay_3 rfl (lv_at hl 0 rfl) ?_
      refine va_get (D := D) (ci := 1) (v := .int (nI (κ 0 5))) (C := RX1) (T := TX1) (N := 11) hx hb htA uwX1 hown hKK.1 hP 0 rfl rfl 10 (by decide) (htA _ wd_99) (fun _ h9 => h9) rfl dX1_replay_4 ?_
      refine n_icmp_ge (x := i) (y := κ 0 5) (tgt := 45) hx hb dX1_replay_7 (by decide) (by omega) (by omega) (fun c_1 => ?_) (fun c_1 => ?_)
      rotate_left
      · exfalso; omega
      refine lv_aload_n hx hb dX1_replay_45 rfl (lv_at hl 0 rfl) ?_
      refine n_iconst (k := 0) hx hb dX1_replay_46 (by decide) ?_
      refine va_put (D := D) (ci := 1) (v := .int (nI (0))) (ty := .int) (C := RX1) (T := TX1) (N := 11) hx hb htA uwX1 tyX1 tyX1_ok nmX1 hown hKK.1 hP (D_addr hD rfl) hS 0 rfl rfl 10 (by decide) (htA _ wd_99) (fun _ h9 => h9) rfl (by decide +kernel) rfl rfl (Nat.le_of_ble_eq_true rfl) dX1_replay_47 (fun H locs hP _ hS => ?_)
      have hP : va_P D vwCl (wCS q k cI cZ (rpl σ κ i) (sv κ 0 5 (0))) H := hP
      have hi : i = κ 0 5 := by omega
      subst hi
      exact wr_v hx hb hr hlocks hP hS dX1_replay_50
    | succ n ih =>
      intro i H locs hin hP hS ls hl
      have hR := rpl_all hC hB h15 i
      refine lv_iload_n hx hb dX1_replay_2 rfl (lv_at hl 2 rfl) ?_
      refine lv_aload_n hx hb dX1_replay_3 rfl (lv_at hl 0 rfl) ?_
      refine va_get (D := D) (ci := 1) (v := .int (nI (κ 0 5))) (C := RX1) (T := TX1) (N := 11) hx hb htA uwX1 hown hKK.1 hP 0 rfl rfl 10 (by decide) (htA _ wd_99) (fun _ h9 => h9) rfl dX1_replay_4 ?_
      refine n_icmp_ge (x := i) (y := κ 0 5) (tgt := 45) hx hb dX1_replay_7 (by decide) (by omega) (by omega) (fun c_2 => ?_) (fun c_2 => ?_)
      · exfalso; omega
      refine lv_iload_n hx hb dX1_replay_10 rfl (lv_at hl 2 rfl) ?_
      refine lv_bipush (v := nI 10) hx hb dX1_replay_11 (by decide) ?_
      refine n_icmp_ge (x := i) (y := 10) (tgt := 45) hx hb dX1_replay_13 (by decide) (by omega) (by decide) (fun c_3 => ?_) (fun c_3 => ?_)
      · exfalso; omega
      refine lv_aload_n hx hb dX1_replay_16 rfl (lv_at hl 1 rfl) ?_
      refine lv_aload_n hx hb dX1_replay_17 rfl (lv_at hl 0 rfl) ?_
      refine va_get (D := D) (ci := 1) (v := .ref (k 3)) (C := RX1) (T := TX1) (N := 11) hx hb htA uwX1 hown hKK.1 hP 0 rfl rfl 7 (by decide) (htA _ wd_96) (fun _ h9 => h9) rfl dX1_replay_18 ?_
      refine lv_iload_n hx hb dX1_replay_21 rfl (lv_at hl 2 rfl) ?_
      refine n_iald (g := κ 3) (cA := cI) (n := 10) (j := i) hx hb hKK.1 hP 3 0 rfl rfl (by omega) (Nat.le_of_ble_eq_true rfl) dX1_replay_22 ?_
      refine lv_aload_n hx hb dX1_replay_23 rfl (lv_at hl 0 rfl) ?_
      refine va_get (D := D) (ci := 1) (v := .ref (k 4)) (C := RX1) (T := TX1) (N := 11) hx hb htA uwX1 hown hKK.1 hP 0 rfl rfl 8 (by decide) (htA _ wd_97) (fun _ h9 => h9) rfl dX1_replay_24 ?_
      refine lv_iload_n hx hb dX1_replay_27 rfl (lv_at hl 2 rfl) ?_
      refine n_iald (g := κ 4) (cA := cI) (n := 10) (j := i) hx hb hKK.1 hP 4 0 rfl rfl (by omega) (Nat.le_of_ble_eq_true rfl) dX1_replay_28 ?_
      refine lv_aload_n hx hb dX1_replay_29 rfl (lv_at hl 0 rfl) ?_
      refine va_get (D := D) (ci := 1) (v := .ref (k 5)) (C := RX1) (T := TX1) (N := 11) hx hb htA uwX1 hown hKK.1 hP 0 rfl rfl 9 (by decide) (htA _ wd_98) (fun _ h9 => h9) rfl dX1_replay_30 ?_
      refine lv_iload_n hx hb dX1_replay_33 rfl (lv_at hl 2 rfl) ?_
      refine n_zald (g := κ 5) (cA := cZ) (n := 10) (j := i) hx hb hKK.1 hP 5 1 rfl rfl (by omega) (Nat.le_of_ble_eq_true rfl) dX1_replay_34 ?_
      refine wrV1 (v := .int (b2i (!(decide ((rpl σ κ i) 5 (κ 3 i) = wn ((rpl σ κ i) 5 (κ 3 i)) (κ 4 i) (nb (κ 5 i))))))) (As := [.int (nI (κ 3 i)), .int (nI (κ 4 i)), .int (nI (κ 5 i))]) (rest := []) (n := 3) ⟨hx, hb, hml, hown, htA⟩ (c_setKeyword l D cI cZ sa q (rpl σ κ i) (κ 3 i) (κ 4 i) (κ 5 i) (adr (wSS q cI (rpl σ κ i))) (D_adr (CS_DSS (k := k) (cZ := cZ) (σ := (rpl σ κ i)) (κ := κ) (D_addr hD rfl))) (hC.1 i) (fun a b => Nat.lt_of_lt_of_le (hR.1 a b) (by omega)) hR.2 (hC.2.1 i) (hC.2.2.1 i)) (cwV 3 htA (gdV wd_435 wd_309 wd_310 wd_2 wd_311) rfl rfl rfl (by decide +kernel) ⟨Nat.le_of_ble_eq_true rfl, Nat.le_of_ble_eq_true rfl⟩) hKK (CS_SS hP) 0 rfl rfl rfl hl.1 rfl (Nat.le_of_ble_eq_true rfl) dX1_replay_35 (Nat.zero_le _) (Nat.zero_le _) hS (fun a h => adr_in (CS_DSS (k := k) (cZ := cZ) (σ := (rpl σ κ i)) (κ := κ) (D_addr hD rfl)) a h) (fun H1 locs hP1 hz1 hk1 hS => ?_)
      have hP : va_P D vwCl (wCS q k cI cZ (sk (rpl σ κ i) (κ 3 i) (κ 4 i) (κ 5 i)) κ) H1 := CS_put hD hP hk1 hP1
      generalize H1 = H at hP hS ⊢
      refine lv_pop hx hb dX1_replay_38 rfl ?_
      refine lv_iinc (v := nI (i + 1)) (lv' := [(2, .int (nI (i + 1))), (0, .ref (k 0)), (1, .ref (q 1))]) hx hb dX1_replay_39 hl (k := 2) rfl (n_inc (i) 1 rfl) (by decide) rfl (fun ls hl => ?_)
      refine lv_goto (tgt := 2) hx hb dX1_replay_42 (by decide) ?_
      have hP : va_P D vwCl (wCS q k cI cZ (rpl σ κ (i + 1)) κ) H := hP
      exact ih (i + 1) _ _ (by omega) hP hS ls (lv_sub hl [1, 2, 0] rfl)
  have hP : va_P D vwCl (wCS q k cI cZ (rpl σ κ 0) κ) s.heap := hP
  exact loop_2 (κ 0 5) 0 _ _ (by omega) hP hS ls (lv_sub hl [1, 2, 0] rfl)
