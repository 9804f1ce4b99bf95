set_option maxHeartbeats 4000000 in
set_option maxRecDepth 100000 in
theorem c_floorMod (l : Launch) (D : va_G) (cI cZ : ClassId) (sa : Nat → Nat) (a b : Nat) (H : Heap) (ha : a < 2 ^ 31) (hb0 : 0 < b) (hb1 : b < 2 ^ 31) : Met l yJ9_floorMod_7cf53 (codeW yJ9_floorMod_7cf53 cJ9_floorMod_7cf53 3 (some .int)) ({ frames := 0, cells := 0, slots := 0, locals := 0 } : Room) (RoP D cI cZ sa H [.int (nI (a)), .int (nI (b))]) (RoQ (some (.int (nI (a % b)))) H) 0 0 RoF := by
  refine Met_ofWF (cc := cJ9_floorMod_7cf53) (maxL := 3) (ret := (some .int)) (by decide +kernel) rfl ?_
  intro p e s m args below meth c s₁ B hml hv
  obtain ⟨rfl, hH, hKK⟩ := hv
  subst hH
  have hx := B.exec
  have hb := B.bytes
  have hr := B.returns
  have htA : ∀ w ∈ WA, w.before _ s = true := fun w h => atoms_spec (ws := (codeW yJ9_floorMod_7cf53 cJ9_floorMod_7cf53 3 (some .int))) B.pre w (List.mem_cons_of_mem _ h)
  have hown : s.vm.findClass RJ9 = some m.cls := findClass_of_methodNamed B.named
  have hlocks := B.notSynchronized
  have hl := lv_entry ([.int (nI (a)), .int (nI (b))]) (n := 3) (Nat.le_of_ble_eq_true rfl)
  rw [lg_entry_eq]
  generalize (lg_sl ([.int (nI (a)), .int (nI (b))]) ++ List.replicate (3 - (lg_sl ([.int (nI (a)), .int (nI (b))])).length) Slot.unset).toArray = ls at hl ⊢
  have hl : lv_has ls 3 [(0, .int (nI (a))), (1, .int (nI (b)))] := hl
  refine lv_iload_n hx hb dJ9_floorMod_7cf53_0 rfl (lv_at hl 0 rfl) ?_
  refine lv_iload_n hx hb dJ9_floorMod_7cf53_1 rfl (lv_at hl 1 rfl) ?_
  refine n_irem hx hb ha (by omega) hb1 dJ9_floorMod_7cf53_2 ?_
  refine lv_istore_n (lv' := [(2, .int (nI (a % b))), (0, .int (nI (a))), (1, .int (nI (b)))]) hx hb dJ9_floorMod_7cf53_3 rfl hl (by decide) rfl (fun ls hl => ?_)
  refine lv_iload_n hx hb dJ9_floorMod_7cf53_4 rfl (lv_at hl 1 rfl) ?_
  refine lv_iload_n hx hb dJ9_floorMod_7cf53_5 rfl (lv_at hl 2 rfl) ?_
  refine lv_ixor hx hb dJ9_floorMod_7cf53_6 ?_
  refine lv_if_ge (tgt := 18) hx hb dJ9_floorMod_7cf53_7 (by decide) (fun c_1 => ?_) (fun c_1 => ?_)
  rotate_left
  · exact absurd (by rw [nx_xor]; exact nI_pos' (Nat.xor_lt_two_pow ha hb1)) c_1
  refine lv_iload_n hx hb dJ9_floorMod_7cf53_18 rfl (lv_at hl 0 rfl) ?_
  exact ro_i hx hb hr hlocks (rfl) dJ9_floorMod_7cf53_19
set_option maxHeartbeats 4000000 in
set_option maxRecDepth 100000 in
theorem c_slotOf (l : Launch) (D : va_G) (cI cZ : ClassId) (sa : Nat → Nat) (a : Nat) (H : Heap) (ha : a < 2 ^ 31) : Met l yX0_slotOf (codeW yX0_slotOf cX0_slotOf 1 (some .int)) ({ frames := 1, cells := 0, slots := 0, locals := 22 } : Room) (RoP D cI cZ sa H [.int (nI (a))]) (RoQ (some (.int (nI (a % 40)))) H) 0 0 RoF := by
  refine Met.ofW (cc := cX0_slotOf) (maxL := 1) (ret := (some .int)) (by decide) rfl ?_
  intro p e s m args below meth c s₁ B hml hv
  obtain ⟨rfl, hH, hKK⟩ := hv
  subst hH
  have hx := B.exec
  have hb := B.bytes
  have hr := B.returns
  have htA : ∀ w ∈ WA, w.before _ s = true := fun w h => atoms_spec (ws := (codeW yX0_slotOf cX0_slotOf 1 (some .int))) B.pre w (List.mem_cons_of_mem _ h)
  have hown : s.vm.findClass RX0 = some m.cls := findClass_of_methodNamed B.named
  have hlocks := B.notSynchronized
  have hl := lv_entry ([.int (nI (a))]) (n := 1) (Nat.le_of_ble_eq_true rfl)
  rw [lg_entry_eq]
  generalize (lg_sl ([.int (nI (a))]) ++ List.replicate (1 - (lg_sl ([.int (nI (a))])).length) Slot.unset).toArray = ls at hl ⊢
  have hl : lv_has ls 1 [(0, .int (nI (a)))] := hl
  refine lv_iload_n hx hb dX0_slotOf_0 rfl (lv_at hl 0 rfl) ?_
  refine lv_bipush (v := nI 40) hx hb dX0_slotOf_1 (by decide) ?_
  refine roS1 (v := .int (nI (a % 40))) (As := [.int (nI (a)), .int (nI (40))]) (rest := []) (n := 2) ⟨hx, hb, hml, hown, htA⟩ (c_floorMod l D cI cZ sa a 40 s.heap ha (by decide) (by decide)) (va_cwS 2 htA (gdS wd_259 wd_260 wd_10 wd_261) rfl rfl rfl (by decide +kernel) ⟨Nat.le_of_ble_eq_true rfl, Nat.le_of_ble_eq_true rfl⟩) hKK rfl hl.1 rfl (Nat.le_of_ble_eq_true rfl) dX0_slotOf_3 (Nat.zero_le _) (Nat.zero_le _) ?_
  exact ro_i hx hb hr hlocks (rfl) dX0_slotOf_6
set_option maxHeartbeats 4000000 in
set_option maxRecDepth 100000 in
theorem c_reach (l : Launch) (D : va_G) (cI cZ : ClassId) (sa : Nat → Nat) (q : Nat → Nat) (σ : ST) (st : Nat) (H : Heap) (hP : va_P D vwCl (wSS q cI σ) H) (hB : ∀ k i, σ k i < 1073741824) (hst : st ≤ σ 7 0) : Met l yX0_reachBackTo (codeW yX0_reachBackTo cX0_reachBackTo 2 (some .boolean)) ({ frames := 0, cells := 0, slots := 0, locals := 0 } : Room) (RoP D cI cZ sa H [.ref (q 7), .int (nI (st))]) (RoQ (some (.int (b2i (decide (σ 7 0 - st ≤ 40))))) H) 0 0 RoF := by
  refine Met.ofW (cc := cX0_reachBackTo) (maxL := 2) (ret := (some .boolean)) (by decide) rfl ?_
  intro p e s m args below meth c s₁ B hml hv
  obtain ⟨rfl, hH, hKK⟩ := hv
  subst hH
  have hx := B.exec
  have hb := B.bytes
  have hr := B.returns
  have htA : ∀ w ∈ WA, w.before _ s = true := fun w h => atoms_spec (ws := (codeW yX0_reachBackTo cX0_reachBackTo 2 (some .boolean))) B.pre w (List.mem_cons_of_mem _ h)
  have hown : s.vm.findClass RX0 = some m.cls := findClass_of_methodNamed B.named
  have hlocks := B.notSynchronized
  have hl := lv_entry ([.ref (q 7), .int (nI (st))]) (n := 2) (Nat.le_of_ble_eq_true rfl)
  rw [lg_entry_eq]
  generalize (lg_sl ([.ref (q 7), .int (nI (st))]) ++ List.replicate (2 - (lg_sl ([.ref (q 7), .int (nI (st))])).length) Slot.unset).toArray = ls at hl ⊢
  have hl : lv_has ls 2 [(0, .ref (q 7)), (1, .int (nI (st)))] := hl
  have hB7 := hB 7 0
  refine lv_aload_n hx hb dX0_reachBackTo_0 rfl (lv_at hl 0 rfl) ?_
  refine va_get (D := D) (ci := 0) (v := .int (nI (σ 7 0))) (C := RX0) (T := TX0) (N := 5) hx hb htA uwX0 hown hKK.1 hP 6 rfl rfl 4 (by decide) (htA _ wd_37) (fun _ h9 => h9) rfl dX0_reachBackTo_1 ?_
  refine lv_iload_n hx hb dX0_reachBackTo_4 rfl (lv_at hl 1 rfl) ?_
  refine n_isub hx hb (by omega) dX0_reachBackTo_5 ?_
  refine lv_bipush (v := nI 40) hx hb dX0_reachBackTo_6 (by decide) ?_
  refine n_icmp_gt (x := (σ 7 0) - st) (y := 40) (tgt := 15) hx hb dX0_reachBackTo_8 (by decide) (by have := hB 7 0; omega) (by decide) (fun c_1 => ?_) (fun c_1 => ?_)
  · refine n_iconst (k := 0) hx hb dX0_reachBackTo_15 (by decide) ?_
    exact ro_z (v := false) hx hb hr hlocks (by simp; omega) dX0_reachBackTo_16
  · refine n_iconst (k := 1) hx hb dX0_reachBackTo_11 (by decide) ?_
    refine lv_goto (tgt := 16) hx hb dX0_reachBackTo_12 (by decide) ?_
    exact ro_z (v := true) hx hb hr hlocks (by simp; omega) dX0_reachBackTo_16
set_option maxHeartbeats 4000000 in
set_option maxRecDepth 100000 in
theorem c_behind (l : Launch) (D : va_G) (cI cZ : ClassId) (sa : Nat → Nat) (q : Nat → Nat) (σ : ST) (st : Nat) (H : Heap) (hP : va_P D vwCl (wSS q cI σ) H) (hB : ∀ k i, σ k i < 1073741824) (hst : st ≤ σ 7 0) : Met l yX0_countBehind (codeW yX0_countBehind cX0_countBehind 2 (some .int)) ({ frames := 1, cells := 0, slots := 0, locals := 13 } : Room) (RoP D cI cZ sa H [.ref (q 7), .int (nI (st))]) (RoQ (some (.int (nI (min (σ 7 0 - st) 40)))) H) 0 0 RoF := by
  refine Met.ofW (cc := cX0_countBehind) (maxL := 2) (ret := (some .int)) (by decide) rfl ?_
  intro p e s m args below meth c s₁ B hml hv
  obtain ⟨rfl, hH, hKK⟩ := hv
  subst hH
  have hx := B.exec
  have hb := B.bytes
  have hr := B.returns
  have htA : ∀ w ∈ WA, w.before _ s = true := fun w h => atoms_spec (ws := (codeW yX0_countBehind cX0_countBehind 2 (some .int))) B.pre w (List.mem_cons_of_mem _ h)
  have hown : s.vm.findClass RX0 = some m.cls := findClass_of_methodNamed B.named
  have hlocks := B.notSynchronized
  have hl := lv_entry ([.ref (q 7), .int (nI (st))]) (n := 2) (Nat.le_of_ble_eq_true rfl)
  rw [lg_entry_eq]
  generalize (lg_sl ([.ref (q 7), .int (nI (st))]) ++ List.replicate (2 - (lg_sl ([.ref (q 7), .int (nI (st))])).length) Slot.unset).toArray = ls at hl ⊢
  have hl : lv_has ls 2 [(0, .ref (q 7)), (1, .int (nI (st)))] := hl
  have hB7 := hB 7 0
  refine lv_aload_n hx hb dX0_countBehind_0 rfl (lv_at hl 0 rfl) ?_
  refine va_get (D := D) (ci := 0) (v := .int (nI (σ 7 0))) (C := RX0) (T := TX0) (N := 5) hx hb htA uwX0 hown hKK.1 hP 6 rfl rfl 4 (by decide) (htA _ wd_37) (fun _ h9 => h9) rfl dX0_countBehind_1 ?_
  refine lv_iload_n hx hb dX0_countBehind_4 rfl (lv_at hl 1 rfl) ?_
  refine n_isub hx hb (by omega) dX0_countBehind_5 ?_
  refine lv_bipush (v := nI 40) hx hb dX0_countBehind_6 (by decide) ?_
  refine n_mmin (x := (σ 7 0) - st) (y := 40) hx hb (hml.trans hl.1.symm) hown (htA _ wd_427) (htA _ wd_241) (htA _ wd_10) (htA _ wd_242) (Nat.le_of_ble_eq_true rfl) (Nat.le_of_ble_eq_true rfl) (Nat.zero_le _) (Nat.zero_le _) (by have := hB 7 0; omega) (by decide) dX0_countBehind_8 ?_
  exact ro_i hx hb hr hlocks (rfl) dX0_countBehind_11
set_option maxHeartbeats 4000000 in
set_option maxRecDepth 100000 in
theorem c_keep (l : Launch) (D : va_G) (cI cZ : ClassId) (sa : Nat → Nat) (q : Nat → Nat) (σ : ST) (mail ob ok nk : Nat) (A : Nat → Prop) (hD : va_D A (wSS q cI σ)) (hB : ∀ k i, σ k i < 1073741824) : Met l yX0_keep (codeW yX0_keep cX0_keep 6 none) ({ frames := 2, cells := 0, slots := 0, locals := 42 } : Room) (WrP D cI cZ sa (wSS q cI σ) [.ref (q 7), .int (nI (mail)), .int (nI (ob)), .int (nI (ok)), .int (nI (nk))]) (WrQ none D (wSS q cI (kp σ mail ob ok nk)) A) 0 0 A := by
  refine Met.ofW (cc := cX0_keep) (maxL := 6) (ret := none) (by decide) rfl ?_
  intro p e s m args below meth c s₁ B hml hv
  obtain ⟨rfl, hH, hKK⟩ := hv
  have hx := B.exec
  have hb := B.bytes
  have hr := B.returns
  have htA : ∀ w ∈ WA, w.before _ s = true := fun w h => atoms_spec (ws := (codeW yX0_keep cX0_keep 6 none)) B.pre w (List.mem_cons_of_mem _ h)
  have hown : s.vm.findClass RX0 = some m.cls := findClass_of_methodNamed B.named
  have hlocks := B.notSynchronized
  have hP := hH
  have hS : va_S A s.heap s.heap [] := va_S.rf
  have hl := lv_entry ([.ref (q 7), .int (nI (mail)), .int (nI (ob)), .int (nI (ok)), .int (nI (nk))]) (n := 6) (Nat.le_of_ble_eq_true rfl)
  rw [lg_entry_eq]
  generalize (lg_sl ([.ref (q 7), .int (nI (mail)), .int (nI (ob)), .int (nI (ok)), .int (nI (nk))]) ++ List.replicate (6 - (lg_sl ([.ref (q 7), .int (nI (mail)), .int (nI (ob)), .int (nI (ok)), .int (nI (nk))])).length) Slot.unset).toArray = ls at hl ⊢
  have hl : lv_has ls 6 [(0, .ref (q 7)), (1, .int (nI (mail))), (2, .int (nI (ob))), (3, .int (nI (ok))), (4, .int (nI (nk)))] := hl
  have hB7 := hB 7 0
  refine lv_aload_n hx hb dX0_keep_0 rfl (lv_at hl 0 rfl) ?_
  refine lv_dup hx hb dX0_keep_1 rfl ?_
  refine va_get (D := D) (ci := 0) (v := .int (nI (σ 7 0))) (C := RX0) (T := TX0) (N := 5) hx hb htA uwX0 hown hKK.1 hP 6 rfl rfl 4 (by decide) (htA _ wd_37) (fun _ h9 => h9) rfl dX0_keep_2 ?_
  refine n_iconst (k := 1) hx hb dX0_keep_5 (by decide) ?_
  refine n_iadd hx hb dX0_keep_6 ?_
  refine va_put (D := D) (ci := 0) (v := .int (nI ((σ 7 0) + 1))) (ty := .int) (C := RX0) (T := TX0) (N := 5) hx hb htA uwX0 tyX0 tyX0_ok nmX0 hown hKK.1 hP (D_addr hD rfl) hS 6 rfl rfl 4 (by decide) (htA _ wd_37) (fun _ h9 => h9) rfl (by decide +kernel) rfl rfl (Nat.le_of_ble_eq_true rfl) dX0_keep_7 (fun H locs hP _ hS => ?_)
  have hP : va_P D vwCl (wSS q cI (sv σ 7 0 ((σ 7 0) + 1))) H := hP
  refine lv_aload_n hx hb dX0_keep_10 rfl (lv_at hl 0 rfl) ?_
  refine va_get (D := D) (ci := 0) (v := .int (nI ((σ 7 0) + 1))) (C := RX0) (T := TX0) (N := 5) hx hb htA uwX0 hown hKK.1 hP 6 rfl rfl 4 (by decide) (htA _ wd_37) (fun _ h9 => h9) rfl dX0_keep_11 ?_
  refine roS1 (v := .int (nI (((σ 7 0) + 1) % 40))) (As := [.int (nI ((σ 7 0) + 1))]) (rest := []) (n := 1) ⟨hx, hb, hml, hown, htA⟩ (c_slotOf l D cI cZ sa ((σ 7 0) + 1) H (by have := hB 7 0; omega)) (va_cwS 1 htA (gdS wd_256 wd_257 wd_3 wd_258) rfl rfl rfl (by decide +kernel) ⟨Nat.le_of_ble_eq_true rfl, Nat.le_of_ble_eq_true rfl⟩) hKK rfl hl.1 rfl (Nat.le_of_ble_eq_true rfl) dX0_keep_14 (Nat.zero_le _) (Nat.zero_le _) ?_
  refine lv_istore (lv' := [(5, .int (nI (((σ 7 0) + 1) % 40))), (0, .ref (q 7)), (1, .int (nI (mail))), (2, .int (nI (ob))), (3, .int (nI (ok))), (4, .int (nI (nk)))]) hx hb dX0_keep_17 hl (by decide) rfl (fun ls hl => ?_)
  refine lv_aload_n hx hb dX0_keep_19 rfl (lv_at hl 1 rfl) ?_
  refine va_get (D := D) (ci := 0) (v := .ref (q 8)) (C := RX0) (T := TX0) (N := 5) hx hb htA uwX0 hown hKK.1 hP 6 rfl rfl 0 (by decide) (htA _ wd_33) (fun _ h9 => h9) rfl dX0_keep_20 ?_
  refine lv_iload hx hb dX0_keep_23 (lv_at hl 0 rfl) ?_
  refine lv_iload_n hx hb dX0_keep_25 rfl (lv_at hl 2 rfl) ?_
  refine n_iast (g := σ 8) (cA := cI) (n := 40) (j := ((σ 7 0) + 1) % 40) (v := mail) hx hb hKK.1 hP (D_addr hD rfl) hS 7 0 rfl rfl (by omega) (Nat.le_of_ble_eq_true rfl) dX0_keep_26 (fun H locs hP hS => ?_)
  have hP : va_P D vwCl (wSS q cI (su (sv σ 7 0 ((σ 7 0) + 1)) 8 (upN (σ 8) (((σ 7 0) + 1) % 40) (mail)))) H := hP
  refine lv_aload_n hx hb dX0_keep_27 rfl (lv_at hl 1 rfl) ?_
  refine va_get (D := D) (ci := 0) (v := .ref (q 9)) (C := RX0) (T := TX0) (N := 5) hx hb htA uwX0 hown hKK.1 hP 6 rfl rfl 1 (by decide) (htA _ wd_34) (fun _ h9 => h9) rfl dX0_keep_28 ?_
  refine lv_iload hx hb dX0_keep_31 (lv_at hl 0 rfl) ?_
  refine lv_iload_n hx hb dX0_keep_33 rfl (lv_at hl 3 rfl) ?_
  refine n_iast (g := σ 9) (cA := cI) (n := 40) (j := ((σ 7 0) + 1) % 40) (v := ob) hx hb hKK.1 hP (D_addr hD rfl) hS 8 0 rfl rfl (by omega) (Nat.le_of_ble_eq_true rfl) dX0_keep_34 (fun H locs hP hS => ?_)
  have hP : va_P D vwCl (wSS q cI (su (su (sv σ 7 0 ((σ 7 0) + 1)) 8 (upN (σ 8) (((σ 7 0) + 1) % 40) (mail))) 9 (upN (σ 9) (((σ 7 0) + 1) % 40) (ob)))) H := hP
  refine lv_aload_n hx hb dX0_keep_35 rfl (lv_at hl 1 rfl) ?_
  refine va_get (D := D) (ci := 0) (v := .ref (q 10)) (C := RX0) (T := TX0) (N := 5) hx hb htA uwX0 hown hKK.1 hP 6 rfl rfl 2 (by decide) (htA _ wd_35) (fun _ h9 => h9) rfl dX0_keep_36 ?_
  refine lv_iload hx hb dX0_keep_39 (lv_at hl 0 rfl) ?_
  refine lv_iload_n hx hb dX0_keep_41 rfl (lv_at hl 4 rfl) ?_
  refine n_iast (g := σ 10) (cA := cI) (n := 40) (j := ((σ 7 0) + 1) % 40) (v := ok) hx hb hKK.1 hP (D_addr hD rfl) hS 9 0 rfl rfl (by omega) (Nat.le_of_ble_eq_true rfl) dX0_keep_42 (fun H locs hP hS => ?_)
  have hP : va_P D vwCl (wSS q cI (su (su (su (sv σ 7 0 ((σ 7 0) + 1)) 8 (upN (σ 8) (((σ 7 0) + 1) % 40) (mail))) 9 (upN (σ 9) (((σ 7 0) + 1) % 40) (ob))) 10 (upN (σ 10) (((σ 7 0) + 1) % 40) (ok)))) H := hP
  refine lv_aload_n hx hb dX0_keep_43 rfl (lv_at hl 1 rfl) ?_
  refine va_get (D := D) (ci := 0) (v := .ref (q 11)) (C := RX0) (T := TX0) (N := 5) hx hb htA uwX0 hown hKK.1 hP 6 rfl rfl 3 (by decide) (htA _ wd_36) (fun _ h9 => h9) rfl dX0_keep_44 ?_
  refine lv_iload hx hb dX0_keep_47 (lv_at hl 0 rfl) ?_
  refine lv_iload hx hb dX0_keep_49 (lv_at hl 5 rfl) ?_
  refine n_iast (g := σ 11) (cA := cI) (n := 40) (j := ((σ 7 0) + 1) % 40) (v := nk) hx hb hKK.1 hP (D_addr hD rfl) hS 10 0 rfl rfl (by omega) (Nat.le_of_ble_eq_true rfl) dX0_keep_51 (fun H locs hP hS => ?_)
  have hP : va_P D vwCl (wSS q cI (su (su (su (su (sv σ 7 0 ((σ 7 0) + 1)) 8 (upN (σ 8) (((σ 7 0) + 1) % 40) (mail))) 9 (upN (σ 9) (((σ 7 0) + 1) % 40) (ob))) 10 (upN (σ 10) (((σ 7 0) + 1) % 40) (ok))) 11 (upN (σ 11) (((σ 7 0) + 1) % 40) (nk)))) H := hP
  exact wr_v hx hb hr hlocks hP hS dX0_keep_52
set_option maxHeartbeats 4000000 in
set_option maxRecDepth 100000 in
theorem c_undo (l : Launch) (D : va_G) (cI cZ : ClassId) (sa : Nat → Nat) (q : Nat → Nat) (σ : ST) (st : Nat) (x : Int64) (any al : Nat) (H : Heap) (hP : va_P D vwCl (wSS q cI σ) H) (hB : ∀ k i, σ k i < 1073741824) (hst : st ≤ σ 7 0) : Met l yX0_undo (codeW yX0_undo cX0_undo 12 (some .long)) ({ frames := 2, cells := 0, slots := 0, locals := 42 } : Room) (RoP D cI cZ sa H [.ref (q 7), .int (nI (st)), .long (x), .int (nI (any)), .int (nI (al))]) (RoQ (some (.long (und σ any al x (min (σ 7 0 - st) 40)))) H) 0 0 RoF := by
  refine Met.ofW (cc := cX0_undo) (maxL := 12) (ret := (some .long)) (by decide) rfl ?_
  intro p e s m args below meth c s₁ B hml hv
  obtain ⟨rfl, hH, hKK⟩ := hv
  subst hH
  have hx := B.exec
  have hb := B.bytes
  have hr := B.returns
  have htA : ∀ w ∈ WA, w.before _ s = true := fun w h => atoms_spec (ws := (codeW yX0_undo cX0_undo 12 (some .long))) B.pre w (List.mem_cons_of_mem _ h)
  have hown : s.vm.findClass RX0 = some m.cls := findClass_of_methodNamed B.named
  have hlocks := B.notSynchronized
  have hl := lv_entry ([.ref (q 7), .int (nI (st)), .long (x), .int (nI (any)), .int (nI (al))]) (n := 12) (Nat.le_of_ble_eq_true rfl)
  rw [lg_entry_eq]
  generalize (lg_sl ([.ref (q 7), .int (nI (st)), .long (x), .int (nI (any)), .int (nI (al))]) ++ List.replicate (12 - (lg_sl ([.ref (q 7), .int (nI (st)), .long (x), .int (nI (any)), .int (nI (al))])).length) Slot.unset).toArray = ls at hl ⊢
  have hl : lv_has ls 12 [(0, .ref (q 7)), (1, .int (nI (st))), (2, .long (x)), (4, .int (nI (any))), (5, .int (nI (al)))] := hl
  have hB7 := hB 7 0
  refine lv_lload_n hx hb dX0_undo_0 rfl (lv_at hl 2 rfl) ?_
  refine lv_lstore (lv' := [(6, .long (x)), (0, .ref (q 7)), (1, .int (nI (st))), (2, .long (x)), (4, .int (nI (any))), (5, .int (nI (al)))]) hx hb dX0_undo_1 hl (by decide) rfl (fun ls hl => ?_)
  refine lv_aload_n hx hb dX0_undo_3 rfl (lv_at hl 1 rfl) ?_
  refine lv_iload_n hx hb dX0_undo_4 rfl (lv_at hl 2 rfl) ?_
  refine roV1 (v := .int (nI (min (σ 7 0 - st) 40))) (As := [.int (nI (st))]) (rest := []) (n := 1) ⟨hx, hb, hml, hown, htA⟩ (c_behind l D cI cZ sa q σ st s.heap hP hB (by omega)) (cwV 1 htA (gdV wd_423 wd_425 wp_6 wd_3 wd_426) rfl rfl rfl (by decide +kernel) ⟨Nat.le_of_ble_eq_true rfl, Nat.le_of_ble_eq_true rfl⟩) hKK hP 6 rfl rfl rfl hl.1 rfl (Nat.le_of_ble_eq_true rfl) dX0_undo_5 (Nat.zero_le _) (Nat.zero_le _) ?_
  refine lv_istore (lv' := [(8, .int (nI (min (σ 7 0 - st) 40))), (6, .long (x)), (0, .ref (q 7)), (1, .int (nI (st))), (2, .long (x)), (4, .int (nI (any))), (5, .int (nI (al)))]) hx hb dX0_undo_8 hl (by decide) rfl (fun ls hl => ?_)
  refine n_iconst (k := 0) hx hb dX0_undo_10 (by decide) ?_
  refine lv_istore (lv' := [(9, .int (nI (0))), (8, .int (nI (min (σ 7 0 - st) 40))), (6, .long (x)), (0, .ref (q 7)), (1, .int (nI (st))), (2, .long (x)), (4, .int (nI (any))), (5, .int (nI (al)))]) hx hb dX0_undo_11 hl (by decide) rfl (fun ls hl => ?_)
  have loop_13 : ∀ (n : Nat) (i : Nat), (i + n = min (σ 7 0 - st) 40) → ∀ (ls : Array Slot), lv_has ls 12 [(0, .ref (q 7)), (1, .int (nI (st))), (4, .int (nI (any))), (5, .int (nI (al))), (6, .long (und σ any al x i)), (8, .int (nI (min (σ 7 0 - st) 40))), (9, .int (nI (i)))] → W p l e (headSpec (codeW yX0_undo cX0_undo 12 (some .long)) ({ frames := 2, cells := 0, slots := 0, locals := 42 } : Room)).room s m ([.ref (q 7), .int (nI (st)), .long (x), .int (nI (any)), .int (nI (al))] : List Value).toArray below meth c s.heap [] 0 0 (MQ below (RoQ (some (.long (und σ any al x (min (σ 7 0 - st) 40)))) s.heap) ([.ref (q 7), .int (nI (st)), .long (x), .int (nI (any)), .int (nI (al))] : List Value).toArray s 0 0 RoF) (F0 m 13 ls []) := by
    intro n
    induction n with
    | zero =>
      intro i hin ls hl
      refine lv_iload hx hb dX0_undo_13 (lv_at hl 6 rfl) ?_
      refine lv_iload hx hb dX0_undo_15 (lv_at hl 5 rfl) ?_
      refine n_icmp_ge (x := i) (y := min (σ 7 0 - st) 40) (tgt := 77) hx hb dX0_undo_17 (by decide) (by omega) (by have := hB 7 0; omega) (fun c_1 => ?_) (fun c_1 => ?_)
      rotate_left
      · exfalso; omega
      refine lv_lload hx hb dX0_undo_77 (lv_at hl 4 rfl) ?_
      exact ro_l hx hb hr hlocks (by rw [show i = min (σ 7 0 - st) 40 by omega]) dX0_undo_79
    | succ n ih =>
      intro i hin ls hl
      refine lv_iload hx hb dX0_undo_13 (lv_at hl 6 rfl) ?_
      refine lv_iload hx hb dX0_undo_15 (lv_at hl 5 rfl) ?_
      refine n_icmp_ge (x := i) (y := min (σ 7 0 - st) 40) (tgt := 77) hx hb dX0_undo_17 (by decide) (by omega) (by have := hB 7 0; omega) (fun c_2 => ?_) (fun c_2 => ?_)
      · exfalso; omega
      refine lv_aload_n hx hb dX0_undo_20 rfl (lv_at hl 0 rfl) ?_
      refine va_get (D := D) (ci := 0) (v := .int (nI (σ 7 0))) (C := RX0) (T := TX0) (N := 5) hx hb htA uwX0 hown hKK.1 hP 6 rfl rfl 4 (by decide) (htA _ wd_37) (fun _ h9 => h9) rfl dX0_undo_21 ?_
      refine lv_iload hx hb dX0_undo_24 (lv_at hl 6 rfl) ?_
      refine n_isub hx hb (by omega) dX0_undo_26 ?_
      refine roS1 (v := .int (nI (((σ 7 0) - i) % 40))) (As := [.int (nI ((σ 7 0) - i))]) (rest := []) (n := 1) ⟨hx, hb, hml, hown, htA⟩ (c_slotOf l D cI cZ sa ((σ 7 0) - i) s.heap (by have := hB 7 0; omega)) (va_cwS 1 htA (gdS wd_256 wd_257 wd_3 wd_258) rfl rfl rfl (by decide +kernel) ⟨Nat.le_of_ble_eq_true rfl, Nat.le_of_ble_eq_true rfl⟩) hKK rfl hl.1 rfl (Nat.le_of_ble_eq_true rfl) dX0_undo_27 (Nat.zero_le _) (Nat.zero_le _) ?_
      refine lv_istore (lv' := [(10, .int (nI (((σ 7 0) - i) % 40))), (0, .ref (q 7)), (1, .int (nI (st))), (4, .int (nI (any))), (5, .int (nI (al))), (6, .long (und σ any al x i)), (8, .int (nI (min (σ 7 0 - st) 40))), (9, .int (nI (i)))]) hx hb dX0_undo_30 hl (by decide) rfl (fun ls hl => ?_)
      refine lv_aload_n hx hb dX0_undo_32 rfl (lv_at hl 1 rfl) ?_
      refine va_get (D := D) (ci := 0) (v := .ref (q 9)) (C := RX0) (T := TX0) (N := 5) hx hb htA uwX0 hown hKK.1 hP 6 rfl rfl 1 (by decide) (htA _ wd_34) (fun _ h9 => h9) rfl dX0_undo_33 ?_
      refine lv_iload hx hb dX0_undo_36 (lv_at hl 0 rfl) ?_
      refine n_iald (g := σ 9) (cA := cI) (n := 40) (j := ((σ 7 0) - i) % 40) hx hb hKK.1 hP 8 0 rfl rfl (by omega) (Nat.le_of_ble_eq_true rfl) dX0_undo_38 ?_
      refine lv_aload_n hx hb dX0_undo_39 rfl (lv_at hl 1 rfl) ?_
      refine va_get (D := D) (ci := 0) (v := .ref (q 10)) (C := RX0) (T := TX0) (N := 5) hx hb htA uwX0 hown hKK.1 hP 6 rfl rfl 2 (by decide) (htA _ wd_35) (fun _ h9 => h9) rfl dX0_undo_40 ?_
      refine lv_iload hx hb dX0_undo_43 (lv_at hl 0 rfl) ?_
      refine n_iald (g := σ 10) (cA := cI) (n := 40) (j := ((σ 7 0) - i) % 40) hx hb hKK.1 hP 9 0 rfl rfl (by omega) (Nat.le_of_ble_eq_true rfl) dX0_undo_45 ?_
      refine lv_iload hx hb dX0_undo_46 (lv_at hl 3 rfl) ?_
      refine lv_iload hx hb dX0_undo_48 (lv_at hl 4 rfl) ?_
      refine roN1 (v := .int (b2i (mt (σ 9 (((σ 7 0) - i) % 40)) (σ 10 (((σ 7 0) - i) % 40)) any al))) (As := [.int (nI (σ 9 (((σ 7 0) - i) % 40))), .int (nI (σ 10 (((σ 7 0) - i) % 40))), .int (nI (any)), .int (nI (al))]) (rest := []) (n := 4) ⟨hx, hb, hml, hown, htA⟩ (c_matches l D cI cZ sa (σ 9 (((σ 7 0) - i) % 40)) (σ 10 (((σ 7 0) - i) % 40)) any al s.heap ) (cnS 4 htA (gd_c wd_340) rfl rfl rfl (ex_RX0_44 hKK.2) wd_1 wd_339 (by decide +kernel) ⟨Nat.le_of_ble_eq_true rfl, Nat.le_of_ble_eq_true rfl⟩) hKK rfl hl.1 rfl (Nat.le_of_ble_eq_true rfl) dX0_undo_50 (Nat.zero_le _) (Nat.zero_le _) ?_
      refine lv_istore (lv' := [(11, .int (b2i (mt (σ 9 (((σ 7 0) - i) % 40)) (σ 10 (((σ 7 0) - i) % 40)) any al))), (10, .int (nI (((σ 7 0) - i) % 40))), (0, .ref (q 7)), (1, .int (nI (st))), (4, .int (nI (any))), (5, .int (nI (al))), (6, .long (und σ any al x i)), (8, .int (nI (min (σ 7 0 - st) 40))), (9, .int (nI (i)))]) hx hb dX0_undo_53 hl (by decide) rfl (fun ls hl => ?_)
      refine lv_lload hx hb dX0_undo_55 (lv_at hl 6 rfl) ?_
      refine lv_aload_n hx hb dX0_undo_57 rfl (lv_at hl 2 rfl) ?_
      refine va_get (D := D) (ci := 0) (v := .ref (q 8)) (C := RX0) (T := TX0) (N := 5) hx hb htA uwX0 hown hKK.1 hP 6 rfl rfl 0 (by decide) (htA _ wd_33) (fun _ h9 => h9) rfl dX0_undo_58 ?_
      refine lv_iload hx hb dX0_undo_61 (lv_at hl 1 rfl) ?_
      refine n_iald (g := σ 8) (cA := cI) (n := 40) (j := ((σ 7 0) - i) % 40) hx hb hKK.1 hP 7 0 rfl rfl (by omega) (Nat.le_of_ble_eq_true rfl) dX0_undo_63 ?_
      refine lv_iload hx hb dX0_undo_64 (lv_at hl 0 rfl) ?_
      refine roN1 (v := .long (wi (und σ any al x i) (σ 8 (((σ 7 0) - i) % 40)) (mt (σ 9 (((σ 7 0) - i) % 40)) (σ 10 (((σ 7 0) - i) % 40)) any al))) (As := [.long (und σ any al x i), .int (nI (σ 8 (((σ 7 0) - i) % 40))), .int (b2i (mt (σ 9 (((σ 7 0) - i) % 40)) (σ 10 (((σ 7 0) - i) % 40)) any al))]) (rest := []) (n := 3) ⟨hx, hb, hml, hown, htA⟩ (c_with l D cI cZ sa (und σ any al x i) (σ 8 (((σ 7 0) - i) % 40)) (mt (σ 9 (((σ 7 0) - i) % 40)) (σ 10 (((σ 7 0) - i) % 40)) any al) s.heap ) (cnS 3 htA (gd_c wd_315) rfl rfl rfl (ex_RX0_48 hKK.2) wd_1 wd_314 (by decide +kernel) ⟨Nat.le_of_ble_eq_true rfl, Nat.le_of_ble_eq_true rfl⟩) hKK rfl hl.1 rfl (Nat.le_of_ble_eq_true rfl) dX0_undo_66 (Nat.zero_le _) (Nat.zero_le _) ?_
      refine lv_lstore (lv' := [(6, .long (wi (und σ any al x i) (σ 8 (((σ 7 0) - i) % 40)) (mt (σ 9 (((σ 7 0) - i) % 40)) (σ 10 (((σ 7 0) - i) % 40)) any al))), (11, .int (b2i (mt (σ 9 (((σ 7 0) - i) % 40)) (σ 10 (((σ 7 0) - i) % 40)) any al))), (10, .int (nI (((σ 7 0) - i) % 40))), (0, .ref (q 7)), (1, .int (nI (st))), (4, .int (nI (any))), (5, .int (nI (al))), (8, .int (nI (min (σ 7 0 - st) 40))), (9, .int (nI (i)))]) hx hb dX0_undo_69 hl (by decide) rfl (fun ls hl => ?_)
      refine lv_iinc (v := nI (i + 1)) (lv' := [(9, .int (nI (i + 1))), (6, .long (wi (und σ any al x i) (σ 8 (((σ 7 0) - i) % 40)) (mt (σ 9 (((σ 7 0) - i) % 40)) (σ 10 (((σ 7 0) - i) % 40)) any al))), (11, .int (b2i (mt (σ 9 (((σ 7 0) - i) % 40)) (σ 10 (((σ 7 0) - i) % 40)) any al))), (10, .int (nI (((σ 7 0) - i) % 40))), (0, .ref (q 7)), (1, .int (nI (st))), (4, .int (nI (any))), (5, .int (nI (al))), (8, .int (nI (min (σ 7 0 - st) 40)))]) hx hb dX0_undo_71 hl (k := 8) rfl (n_inc (i) 1 rfl) (by decide) rfl (fun ls hl => ?_)
      refine lv_goto (tgt := 13) hx hb dX0_undo_74 (by decide) ?_
      exact ih (i + 1) (by omega) ls (lv_sub hl [4, 5, 6, 7, 1, 8, 0] rfl)
  exact loop_13 (min (σ 7 0 - st) 40) 0 (by omega) ls (lv_sub hl [3, 4, 6, 7, 2, 1, 0] rfl)
set_option maxHeartbeats 4000000 in
set_option maxRecDepth 100000 in
theorem c_touched (l : Launch) (D : va_G) (cI cZ : ClassId) (sa : Nat → Nat) (q : Nat → Nat) (σ : ST) (st : Nat) (H : Heap) (hP : va_P D vwCl (wSS q cI σ) H) (hB : ∀ k i, σ k i < 1073741824) (hst : st ≤ σ 7 0) : Met l yX0_touched (codeW yX0_touched cX0_touched 6 (some .long)) ({ frames := 2, cells := 0, slots := 0, locals := 42 } : Room) (RoP D cI cZ sa H [.ref (q 7), .int (nI (st))]) (RoQ (some (.long (tch σ (min (σ 7 0 - st) 40)))) H) 0 0 RoF := by
  refine Met.ofW (cc := cX0_touched) (maxL := 6) (ret := (some .long)) (by decide) rfl ?_
  intro p e s m args below meth c s₁ B hml hv
  obtain ⟨rfl, hH, hKK⟩ := hv
  subst hH
  have hx := B.exec
  have hb := B.bytes
  have hr := B.returns
  have htA : ∀ w ∈ WA, w.before _ s = true := fun w h => atoms_spec (ws := (codeW yX0_touched cX0_touched 6 (some .long))) B.pre w (List.mem_cons_of_mem _ h)
  have hown : s.vm.findClass RX0 = some m.cls := findClass_of_methodNamed B.named
  have hlocks := B.notSynchronized
  have hl := lv_entry ([.ref (q 7), .int (nI (st))]) (n := 6) (Nat.le_of_ble_eq_true rfl)
  rw [lg_entry_eq]
  generalize (lg_sl ([.ref (q 7), .int (nI (st))]) ++ List.replicate (6 - (lg_sl ([.ref (q 7), .int (nI (st))])).length) Slot.unset).toArray = ls at hl ⊢
  have hl : lv_has ls 6 [(0, .ref (q 7)), (1, .int (nI (st)))] := hl
  have hB7 := hB 7 0
  refine lv_lconst (v := 0) hx hb dX0_touched_0 (by decide) ?_
  refine lv_lstore_n (lv' := [(2, .long ((0 : Int64))), (0, .ref (q 7)), (1, .int (nI (st)))]) hx hb dX0_touched_1 rfl hl (by decide) rfl (fun ls hl => ?_)
  refine lv_aload_n hx hb dX0_touched_2 rfl (lv_at hl 1 rfl) ?_
  refine lv_iload_n hx hb dX0_touched_3 rfl (lv_at hl 2 rfl) ?_
  refine roV1 (v := .int (nI (min (σ 7 0 - st) 40))) (As := [.int (nI (st))]) (rest := []) (n := 1) ⟨hx, hb, hml, hown, htA⟩ (c_behind l D cI cZ sa q σ st s.heap hP hB (by omega)) (cwV 1 htA (gdV wd_423 wd_425 wp_6 wd_3 wd_426) rfl rfl rfl (by decide +kernel) ⟨Nat.le_of_ble_eq_true rfl, Nat.le_of_ble_eq_true rfl⟩) hKK hP 6 rfl rfl rfl hl.1 rfl (Nat.le_of_ble_eq_true rfl) dX0_touched_4 (Nat.zero_le _) (Nat.zero_le _) ?_
  refine lv_istore (lv' := [(4, .int (nI (min (σ 7 0 - st) 40))), (2, .long ((0 : Int64))), (0, .ref (q 7)), (1, .int (nI (st)))]) hx hb dX0_touched_7 hl (by decide) rfl (fun ls hl => ?_)
  refine n_iconst (k := 0) hx hb dX0_touched_9 (by decide) ?_
  refine lv_istore (lv' := [(5, .int (nI (0))), (4, .int (nI (min (σ 7 0 - st) 40))), (2, .long ((0 : Int64))), (0, .ref (q 7)), (1, .int (nI (st)))]) hx hb dX0_touched_10 hl (by decide) rfl (fun ls hl => ?_)
  have loop_12 : ∀ (n : Nat) (i : Nat), (i + n = min (σ 7 0 - st) 40) → ∀ (ls : Array Slot), lv_has ls 6 [(0, .ref (q 7)), (1, .int (nI (st))), (2, .long (tch σ i)), (4, .int (nI (min (σ 7 0 - st) 40))), (5, .int (nI (i)))] → W p l e (headSpec (codeW yX0_touched cX0_touched 6 (some .long)) ({ frames := 2, cells := 0, slots := 0, locals := 42 } : Room)).room s m ([.ref (q 7), .int (nI (st))] : List Value).toArray below meth c s.heap [] 0 0 (MQ below (RoQ (some (.long (tch σ (min (σ 7 0 - st) 40)))) s.heap) ([.ref (q 7), .int (nI (st))] : List Value).toArray s 0 0 RoF) (F0 m 12 ls []) := by
    intro n
    induction n with
    | zero =>
      intro i hin ls hl
      refine lv_iload hx hb dX0_touched_12 (lv_at hl 4 rfl) ?_
      refine lv_iload hx hb dX0_touched_14 (lv_at hl 3 rfl) ?_
      refine n_icmp_ge (x := i) (y := min (σ 7 0 - st) 40) (tgt := 46) hx hb dX0_touched_16 (by decide) (by omega) (by have := hB 7 0; omega) (fun c_1 => ?_) (fun c_1 => ?_)
      rotate_left
      · exfalso; omega
      refine lv_lload_n hx hb dX0_touched_46 rfl (lv_at hl 2 rfl) ?_
      exact ro_l hx hb hr hlocks (by rw [show i = min (σ 7 0 - st) 40 by omega]) dX0_touched_47
    | succ n ih =>
      intro i hin ls hl
      refine lv_iload hx hb dX0_touched_12 (lv_at hl 4 rfl) ?_
      refine lv_iload hx hb dX0_touched_14 (lv_at hl 3 rfl) ?_
      refine n_icmp_ge (x := i) (y := min (σ 7 0 - st) 40) (tgt := 46) hx hb dX0_touched_16 (by decide) (by omega) (by have := hB 7 0; omega) (fun c_2 => ?_) (fun c_2 => ?_)
      · exfalso; omega
      refine lv_lload_n hx hb dX0_touched_19 rfl (lv_at hl 2 rfl) ?_
      refine lv_aload_n hx hb dX0_touched_20 rfl (lv_at hl 0 rfl) ?_
      refine va_get (D := D) (ci := 0) (v := .ref (q 8)) (C := RX0) (T := TX0) (N := 5) hx hb htA uwX0 hown hKK.1 hP 6 rfl rfl 0 (by decide) (htA _ wd_33) (fun _ h9 => h9) rfl dX0_touched_21 ?_
      refine lv_aload_n hx hb dX0_touched_24 rfl (lv_at hl 0 rfl) ?_
      refine va_get (D := D) (ci := 0) (v := .int (nI (σ 7 0))) (C := RX0) (T := TX0) (N := 5) hx hb htA uwX0 hown hKK.1 hP 6 rfl rfl 4 (by decide) (htA _ wd_37) (fun _ h9 => h9) rfl dX0_touched_25 ?_
      refine lv_iload hx hb dX0_touched_28 (lv_at hl 4 rfl) ?_
      refine n_isub hx hb (by omega) dX0_touched_30 ?_
      refine roS1 (v := .int (nI (((σ 7 0) - i) % 40))) (As := [.int (nI ((σ 7 0) - i))]) (rest := [.ref (q 8), .long (tch σ i)]) (n := 1) ⟨hx, hb, hml, hown, htA⟩ (c_slotOf l D cI cZ sa ((σ 7 0) - i) s.heap (by have := hB 7 0; omega)) (va_cwS 1 htA (gdS wd_256 wd_257 wd_3 wd_258) rfl rfl rfl (by decide +kernel) ⟨Nat.le_of_ble_eq_true rfl, Nat.le_of_ble_eq_true rfl⟩) hKK rfl hl.1 rfl (Nat.le_of_ble_eq_true rfl) dX0_touched_31 (Nat.zero_le _) (Nat.zero_le _) ?_
      refine n_iald (g := σ 8) (cA := cI) (n := 40) (j := ((σ 7 0) - i) % 40) hx hb hKK.1 hP 7 0 rfl rfl (by omega) (Nat.le_of_ble_eq_true rfl) dX0_touched_34 ?_
      refine n_iconst (k := 1) hx hb dX0_touched_35 (by decide) ?_
      refine roN1 (v := .long (wi (tch σ i) (σ 8 (((σ 7 0) - i) % 40)) (true))) (As := [.long (tch σ i), .int (nI (σ 8 (((σ 7 0) - i) % 40))), .int (b2i (true))]) (rest := []) (n := 3) ⟨hx, hb, hml, hown, htA⟩ (c_with l D cI cZ sa (tch σ i) (σ 8 (((σ 7 0) - i) % 40)) (true) s.heap ) (cnS 3 htA (gd_c wd_315) rfl rfl rfl (ex_RX0_48 hKK.2) wd_1 wd_314 (by decide +kernel) ⟨Nat.le_of_ble_eq_true rfl, Nat.le_of_ble_eq_true rfl⟩) hKK rfl hl.1 rfl (Nat.le_of_ble_eq_true rfl) dX0_touched_36 (Nat.zero_le _) (Nat.zero_le _) ?_
      refine lv_lstore_n (lv' := [(2, .long (wi (tch σ i) (σ 8 (((σ 7 0) - i) % 40)) (true))), (0, .ref (q 7)), (1, .int (nI (st))), (4, .int (nI (min (σ 7 0 - st) 40))), (5, .int (nI (i)))]) hx hb dX0_touched_39 rfl hl (by decide) rfl (fun ls hl => ?_)
      refine lv_iinc (v := nI (i + 1)) (lv' := [(5, .int (nI (i + 1))), (2, .long (wi (tch σ i) (σ 8 (((σ 7 0) - i) % 40)) (true))), (0, .ref (q 7)), (1, .int (nI (st))), (4, .int (nI (min (σ 7 0 - st) 40)))]) hx hb dX0_touched_40 hl (k := 4) rfl (n_inc (i) 1 rfl) (by decide) rfl (fun ls hl => ?_)
      refine lv_goto (tgt := 12) hx hb dX0_touched_43 (by decide) ?_
      exact ih (i + 1) (by omega) ls (lv_sub hl [2, 3, 1, 4, 0] rfl)
  exact loop_12 (min (σ 7 0 - st) 40) 0 (by omega) ls (lv_sub hl [3, 4, 2, 1, 0] rfl)
set_option maxHeartbeats 4000000 in
set_option maxRecDepth 100000 in
theorem c_endOfPage (l : Launch) (D : va_G) (cI cZ : ClassId) (sa : Nat → Nat) (q : Nat → Nat) (σ : ST) (st pl : Nat) (H : Heap) (hP : va_P D vwCl (wSS q cI σ) H) (hB : ∀ k i, σ k i < 1073741824) (hst : st ≤ σ 7 0) : Met l yX0_endOfPage (codeW yX0_endOfPage cX0_endOfPage 8 (some .int)) ({ frames := 2, cells := 0, slots := 0, locals := 42 } : Room) (RoP D cI cZ sa H [.ref (q 7), .int (nI (st)), .int (nI (pl))]) (RoQ (some (.int (nI (pge σ st pl (min (σ 7 0 - st) 40) 0)))) H) 0 0 RoF := by
  refine Met.ofW (cc := cX0_endOfPage) (maxL := 8) (ret := (some .int)) (by decide) rfl ?_
  intro p e s m args below meth c s₁ B hml hv
  obtain ⟨rfl, hH, hKK⟩ := hv
  subst hH
  have hx := B.exec
  have hb := B.bytes
  have hr := B.returns
  have htA : ∀ w ∈ WA, w.before _ s = true := fun w h => atoms_spec (ws := (codeW yX0_endOfPage cX0_endOfPage 8 (some .int))) B.pre w (List.mem_cons_of_mem _ h)
  have hown : s.vm.findClass RX0 = some m.cls := findClass_of_methodNamed B.named
  have hlocks := B.notSynchronized
  have hl := lv_entry ([.ref (q 7), .int (nI (st)), .int (nI (pl))]) (n := 8) (Nat.le_of_ble_eq_true rfl)
  rw [lg_entry_eq]
  generalize (lg_sl ([.ref (q 7), .int (nI (st)), .int (nI (pl))]) ++ List.replicate (8 - (lg_sl ([.ref (q 7), .int (nI (st)), .int (nI (pl))])).length) Slot.unset).toArray = ls at hl ⊢
  have hl : lv_has ls 8 [(0, .ref (q 7)), (1, .int (nI (st))), (2, .int (nI (pl)))] := hl
  have hB7 := hB 7 0
  refine lv_lconst (v := 0) hx hb dX0_endOfPage_0 (by decide) ?_
  refine lv_lstore_n (lv' := [(3, .long ((0 : Int64))), (0, .ref (q 7)), (1, .int (nI (st))), (2, .int (nI (pl)))]) hx hb dX0_endOfPage_1 rfl hl (by decide) rfl (fun ls hl => ?_)
  refine lv_aload_n hx hb dX0_endOfPage_2 rfl (lv_at hl 1 rfl) ?_
  refine lv_iload_n hx hb dX0_endOfPage_3 rfl (lv_at hl 2 rfl) ?_
  refine roV1 (v := .int (nI (min (σ 7 0 - st) 40))) (As := [.int (nI (st))]) (rest := []) (n := 1) ⟨hx, hb, hml, hown, htA⟩ (c_behind l D cI cZ sa q σ st s.heap hP hB (by omega)) (cwV 1 htA (gdV wd_423 wd_425 wp_6 wd_3 wd_426) rfl rfl rfl (by decide +kernel) ⟨Nat.le_of_ble_eq_true rfl, Nat.le_of_ble_eq_true rfl⟩) hKK hP 6 rfl rfl rfl hl.1 rfl (Nat.le_of_ble_eq_true rfl) dX0_endOfPage_4 (Nat.zero_le _) (Nat.zero_le _) ?_
  refine lv_istore (lv' := [(5, .int (nI (min (σ 7 0 - st) 40))), (3, .long ((0 : Int64))), (0, .ref (q 7)), (1, .int (nI (st))), (2, .int (nI (pl)))]) hx hb dX0_endOfPage_7 hl (by decide) rfl (fun ls hl => ?_)
  refine n_iconst (k := 0) hx hb dX0_endOfPage_9 (by decide) ?_
  refine lv_istore (lv' := [(6, .int (nI (0))), (5, .int (nI (min (σ 7 0 - st) 40))), (3, .long ((0 : Int64))), (0, .ref (q 7)), (1, .int (nI (st))), (2, .int (nI (pl)))]) hx hb dX0_endOfPage_10 hl (by decide) rfl (fun ls hl => ?_)
  have loop_12 : ∀ (n : Nat) (i : Nat), (i + n = min (σ 7 0 - st) 40) → (pge σ st pl n i = pge σ st pl (min (σ 7 0 - st) 40) 0) → ∀ (ls : Array Slot), lv_has ls 8 [(0, .ref (q 7)), (1, .int (nI (st))), (2, .int (nI (pl))), (3, .long (pgs σ st i)), (5, .int (nI (min (σ 7 0 - st) 40))), (6, .int (nI (i)))] → W p l e (headSpec (codeW yX0_endOfPage cX0_endOfPage 8 (some .int)) ({ frames := 2, cells := 0, slots := 0, locals := 42 } : Room)).room s m ([.ref (q 7), .int (nI (st)), .int (nI (pl))] : List Value).toArray below meth c s.heap [] 0 0 (MQ below (RoQ (some (.int (nI (pge σ st pl (min (σ 7 0 - st) 40) 0)))) s.heap) ([.ref (q 7), .int (nI (st)), .int (nI (pl))] : List Value).toArray s 0 0 RoF) (F0 m 12 ls []) := by
    intro n
    induction n with
    | zero =>
      intro i hin hres ls hl
      refine lv_iload hx hb dX0_endOfPage_12 (lv_at hl 5 rfl) ?_
      refine lv_iload hx hb dX0_endOfPage_14 (lv_at hl 4 rfl) ?_
      refine n_icmp_ge (x := i) (y := min (σ 7 0 - st) 40) (tgt := 71) hx hb dX0_endOfPage_16 (by decide) (by omega) (by have := hB 7 0; omega) (fun c_1 => ?_) (fun c_1 => ?_)
      rotate_left
      · exfalso; omega
      refine lv_aload_n hx hb dX0_endOfPage_71 rfl (lv_at hl 0 rfl) ?_
      refine va_get (D := D) (ci := 0) (v := .int (nI (σ 7 0))) (C := RX0) (T := TX0) (N := 5) hx hb htA uwX0 hown hKK.1 hP 6 rfl rfl 4 (by decide) (htA _ wd_37) (fun _ h9 => h9) rfl dX0_endOfPage_72 ?_
      exact ro_i hx hb hr hlocks (by rw [← hres]; rfl) dX0_endOfPage_75
    | succ n ih =>
      intro i hin hres ls hl
      refine lv_iload hx hb dX0_endOfPage_12 (lv_at hl 5 rfl) ?_
      refine lv_iload hx hb dX0_endOfPage_14 (lv_at hl 4 rfl) ?_
      refine n_icmp_ge (x := i) (y := min (σ 7 0 - st) 40) (tgt := 71) hx hb dX0_endOfPage_16 (by decide) (by omega) (by have := hB 7 0; omega) (fun c_2 => ?_) (fun c_2 => ?_)
      · exfalso; omega
      refine lv_aload_n hx hb dX0_endOfPage_19 rfl (lv_at hl 0 rfl) ?_
      refine va_get (D := D) (ci := 0) (v := .ref (q 8)) (C := RX0) (T := TX0) (N := 5) hx hb htA uwX0 hown hKK.1 hP 6 rfl rfl 0 (by decide) (htA _ wd_33) (fun _ h9 => h9) rfl dX0_endOfPage_20 ?_
      refine lv_iload_n hx hb dX0_endOfPage_23 rfl (lv_at hl 1 rfl) ?_
      refine n_iconst (k := 1) hx hb dX0_endOfPage_24 (by decide) ?_
      refine n_iadd hx hb dX0_endOfPage_25 ?_
      refine lv_iload hx hb dX0_endOfPage_26 (lv_at hl 5 rfl) ?_
      refine n_iadd hx hb dX0_endOfPage_28 ?_
      refine roS1 (v := .int (nI (((st + 1) + i) % 40))) (As := [.int (nI ((st + 1) + i))]) (rest := [.ref (q 8)]) (n := 1) ⟨hx, hb, hml, hown, htA⟩ (c_slotOf l D cI cZ sa ((st + 1) + i) s.heap (by omega)) (va_cwS 1 htA (gdS wd_256 wd_257 wd_3 wd_258) rfl rfl rfl (by decide +kernel) ⟨Nat.le_of_ble_eq_true rfl, Nat.le_of_ble_eq_true rfl⟩) hKK rfl hl.1 rfl (Nat.le_of_ble_eq_true rfl) dX0_endOfPage_29 (Nat.zero_le _) (Nat.zero_le _) ?_
      refine n_iald (g := σ 8) (cA := cI) (n := 40) (j := ((st + 1) + i) % 40) hx hb hKK.1 hP 7 0 rfl rfl (by omega) (Nat.le_of_ble_eq_true rfl) dX0_endOfPage_32 ?_
      refine lv_istore (lv' := [(7, .int (nI (σ 8 (((st + 1) + i) % 40)))), (0, .ref (q 7)), (1, .int (nI (st))), (2, .int (nI (pl))), (3, .long (pgs σ st i)), (5, .int (nI (min (σ 7 0 - st) 40))), (6, .int (nI (i)))]) hx hb dX0_endOfPage_33 hl (by decide) rfl (fun ls hl => ?_)
      refine lv_lload_n hx hb dX0_endOfPage_35 rfl (lv_at hl 4 rfl) ?_
      refine lv_iload hx hb dX0_endOfPage_36 (lv_at hl 0 rfl) ?_
      refine roN1 (v := .int (b2i (hl64 (pgs σ st i) (σ 8 (((st + 1) + i) % 40))))) (As := [.long (pgs σ st i), .int (nI (σ 8 (((st + 1) + i) % 40)))]) (rest := []) (n := 2) ⟨hx, hb, hml, hown, htA⟩ (c_holds l D cI cZ sa (pgs σ st i) (σ 8 (((st + 1) + i) % 40)) s.heap ) (cnS 2 htA (gd_c wd_430) rfl rfl rfl (ex_RX0_52 hKK.2) wd_1 wd_429 (by decide +kernel) ⟨Nat.le_of_ble_eq_true rfl, Nat.le_of_ble_eq_true rfl⟩) hKK rfl hl.1 rfl (Nat.le_of_ble_eq_true rfl) dX0_endOfPage_38 (Nat.zero_le _) (Nat.zero_le _) ?_
      refine b_ifne (b := hl64 (pgs σ st i) (σ 8 (((st + 1) + i) % 40))) (tgt := 57) hx hb dX0_endOfPage_41 (by decide) (fun c_3 => ?_) (fun c_3 => ?_)
      · refine lv_lload_n hx hb dX0_endOfPage_57 rfl (lv_at hl 4 rfl) ?_
        refine lv_iload hx hb dX0_endOfPage_58 (lv_at hl 0 rfl) ?_
        refine n_iconst (k := 1) hx hb dX0_endOfPage_60 (by decide) ?_
        refine roN1 (v := .long (wi (pgs σ st i) (σ 8 (((st + 1) + i) % 40)) (true))) (As := [.long (pgs σ st i), .int (nI (σ 8 (((st + 1) + i) % 40))), .int (b2i (true))]) (rest := []) (n := 3) ⟨hx, hb, hml, hown, htA⟩ (c_with l D cI cZ sa (pgs σ st i) (σ 8 (((st + 1) + i) % 40)) (true) s.heap ) (cnS 3 htA (gd_c wd_315) rfl rfl rfl (ex_RX0_48 hKK.2) wd_1 wd_314 (by decide +kernel) ⟨Nat.le_of_ble_eq_true rfl, Nat.le_of_ble_eq_true rfl⟩) hKK rfl hl.1 rfl (Nat.le_of_ble_eq_true rfl) dX0_endOfPage_61 (Nat.zero_le _) (Nat.zero_le _) ?_
        refine lv_lstore_n (lv' := [(3, .long (wi (pgs σ st i) (σ 8 (((st + 1) + i) % 40)) (true))), (7, .int (nI (σ 8 (((st + 1) + i) % 40)))), (0, .ref (q 7)), (1, .int (nI (st))), (2, .int (nI (pl))), (5, .int (nI (min (σ 7 0 - st) 40))), (6, .int (nI (i)))]) hx hb dX0_endOfPage_64 rfl hl (by decide) rfl (fun ls hl => ?_)
        refine lv_iinc (v := nI (i + 1)) (lv' := [(6, .int (nI (i + 1))), (3, .long (wi (pgs σ st i) (σ 8 (((st + 1) + i) % 40)) (true))), (7, .int (nI (σ 8 (((st + 1) + i) % 40)))), (0, .ref (q 7)), (1, .int (nI (st))), (2, .int (nI (pl))), (5, .int (nI (min (σ 7 0 - st) 40)))]) hx hb dX0_endOfPage_65 hl (k := 6) rfl (n_inc (i) 1 rfl) (by decide) rfl (fun ls hl => ?_)
        refine lv_goto (tgt := 12) hx hb dX0_endOfPage_68 (by decide) ?_
        exact ih (i + 1) (by omega) (by rw [← hres]; simp only [pge]; rw [show pgc σ st pl i = false from by simp [pgc, c_2, c_3]]; rfl) ls (lv_sub hl [3, 4, 5, 1, 6, 0] rfl)
      · refine lv_lload_n hx hb dX0_endOfPage_44 rfl (lv_at hl 4 rfl) ?_
        refine roS1 (v := .int (bitc (pgs σ st i))) (As := [.long (pgs σ st i)]) (rest := []) (n := 1) ⟨hx, hb, hml, hown, htA⟩ (c_bitCount l D cI cZ sa (pgs σ st i) s.heap ) (va_cwS 1 htA (gdS wd_549 wd_342 wd_12 wd_343) rfl rfl rfl (by decide +kernel) ⟨Nat.le_of_ble_eq_true rfl, Nat.le_of_ble_eq_true rfl⟩) hKK rfl hl.1 rfl (Nat.le_of_ble_eq_true rfl) dX0_endOfPage_45 (Nat.zero_le _) (Nat.zero_le _) ?_
        refine lv_iload_n hx hb dX0_endOfPage_48 rfl (lv_at hl 3 rfl) ?_
        refine lv_icmp_lt (x := bitc (pgs σ st i)) (y := nI (pl)) (tgt := 57) hx hb dX0_endOfPage_49 (by decide) (fun c_4 => ?_) (fun c_4 => ?_)
        · refine lv_lload_n hx hb dX0_endOfPage_57 rfl (lv_at hl 4 rfl) ?_
          refine lv_iload hx hb dX0_endOfPage_58 (lv_at hl 0 rfl) ?_
          refine n_iconst (k := 1) hx hb dX0_endOfPage_60 (by decide) ?_
          refine roN1 (v := .long (wi (pgs σ st i) (σ 8 (((st + 1) + i) % 40)) (true))) (As := [.long (pgs σ st i), .int (nI (σ 8 (((st + 1) + i) % 40))), .int (b2i (true))]) (rest := []) (n := 3) ⟨hx, hb, hml, hown, htA⟩ (c_with l D cI cZ sa (pgs σ st i) (σ 8 (((st + 1) + i) % 40)) (true) s.heap ) (cnS 3 htA (gd_c wd_315) rfl rfl rfl (ex_RX0_48 hKK.2) wd_1 wd_314 (by decide +kernel) ⟨Nat.le_of_ble_eq_true rfl, Nat.le_of_ble_eq_true rfl⟩) hKK rfl hl.1 rfl (Nat.le_of_ble_eq_true rfl) dX0_endOfPage_61 (Nat.zero_le _) (Nat.zero_le _) ?_
          refine lv_lstore_n (lv' := [(3, .long (wi (pgs σ st i) (σ 8 (((st + 1) + i) % 40)) (true))), (7, .int (nI (σ 8 (((st + 1) + i) % 40)))), (0, .ref (q 7)), (1, .int (nI (st))), (2, .int (nI (pl))), (5, .int (nI (min (σ 7 0 - st) 40))), (6, .int (nI (i)))]) hx hb dX0_endOfPage_64 rfl hl (by decide) rfl (fun ls hl => ?_)
          refine lv_iinc (v := nI (i + 1)) (lv' := [(6, .int (nI (i + 1))), (3, .long (wi (pgs σ st i) (σ 8 (((st + 1) + i) % 40)) (true))), (7, .int (nI (σ 8 (((st + 1) + i) % 40)))), (0, .ref (q 7)), (1, .int (nI (st))), (2, .int (nI (pl))), (5, .int (nI (min (σ 7 0 - st) 40)))]) hx hb dX0_endOfPage_65 hl (k := 6) rfl (n_inc (i) 1 rfl) (by decide) rfl (fun ls hl => ?_)
          refine lv_goto (tgt := 12) hx hb dX0_endOfPage_68 (by decide) ?_
          exact ih (i + 1) (by omega) (by rw [← hres]; simp only [pge]; rw [show pgc σ st pl i = false from by simp [pgc, c_2, c_3, c_4]]; rfl) ls (lv_sub hl [3, 4, 5, 1, 6, 0] rfl)
        · refine lv_iload_n hx hb dX0_endOfPage_52 rfl (lv_at hl 2 rfl) ?_
          refine lv_iload hx hb dX0_endOfPage_53 (lv_at hl 6 rfl) ?_
          refine n_iadd hx hb dX0_endOfPage_55 ?_
          exact ro_i hx hb hr hlocks (by rw [← hres]; simp only [pge]; rw [show pgc σ st pl i = true from by simp [pgc, c_2, c_3, c_4]]; rfl) dX0_endOfPage_56
  exact loop_12 (min (σ 7 0 - st) 40) 0 (by omega) rfl ls (lv_sub hl [3, 4, 5, 2, 1, 0] rfl)
set_option maxHeartbeats 4000000 in
set_option maxRecDepth 100000 in
theorem c_contradict (l : Launch) (D : va_G) (cI cZ : ClassId) (sa : Nat → Nat) (q : Nat → Nat) (σ : ST) (st mail kw w0 : Nat) (H : Heap) (hP : va_P D vwCl (wSS q cI σ) H) (hB : ∀ k i, σ k i < 1073741824) (hst : st ≤ σ 7 0) (hm : mail < 2 ^ 31) (hw : w0 < 2) : Met l yX0_contradict (codeW yX0_contradict cX0_contradict 8 (some .boolean)) ({ frames := 2, cells := 0, slots := 0, locals := 42 } : Room) (RoP D cI cZ sa H [.ref (q 7), .int (nI (st)), .int (nI (mail)), .int (nI (kw)), .int (nI (w0))]) (RoQ (some (.int (b2i (ctr σ mail kw w0 (min (σ 7 0 - st) 40) 0)))) H) 0 0 RoF := by
  refine Met.ofW (cc := cX0_contradict) (maxL := 8) (ret := (some .boolean)) (by decide) rfl ?_
  intro p e s m args below meth c s₁ B hml hv
  obtain ⟨rfl, hH, hKK⟩ := hv
  subst hH
  have hx := B.exec
  have hb := B.bytes
  have hr := B.returns
  have htA : ∀ w ∈ WA, w.before _ s = true := fun w h => atoms_spec (ws := (codeW yX0_contradict cX0_contradict 8 (some .boolean))) B.pre w (List.mem_cons_of_mem _ h)
  have hown : s.vm.findClass RX0 = some m.cls := findClass_of_methodNamed B.named
  have hlocks := B.notSynchronized
  have hl := lv_entry ([.ref (q 7), .int (nI (st)), .int (nI (mail)), .int (nI (kw)), .int (nI (w0))]) (n := 8) (Nat.le_of_ble_eq_true rfl)
  rw [lg_entry_eq]
  generalize (lg_sl ([.ref (q 7), .int (nI (st)), .int (nI (mail)), .int (nI (kw)), .int (nI (w0))]) ++ List.replicate (8 - (lg_sl ([.ref (q 7), .int (nI (st)), .int (nI (mail)), .int (nI (kw)), .int (nI (w0))])).length) Slot.unset).toArray = ls at hl ⊢
  have hl : lv_has ls 8 [(0, .ref (q 7)), (1, .int (nI (st))), (2, .int (nI (mail))), (3, .int (nI (kw))), (4, .int (nI (w0)))] := hl
  have hB7 := hB 7 0
  refine lv_aload_n hx hb dX0_contradict_0 rfl (lv_at hl 0 rfl) ?_
  refine lv_iload_n hx hb dX0_contradict_1 rfl (lv_at hl 1 rfl) ?_
  refine roV1 (v := .int (nI (min (σ 7 0 - st) 40))) (As := [.int (nI (st))]) (rest := []) (n := 1) ⟨hx, hb, hml, hown, htA⟩ (c_behind l D cI cZ sa q σ st s.heap hP hB (by omega)) (cwV 1 htA (gdV wd_423 wd_425 wp_6 wd_3 wd_426) rfl rfl rfl (by decide +kernel) ⟨Nat.le_of_ble_eq_true rfl, Nat.le_of_ble_eq_true rfl⟩) hKK hP 6 rfl rfl rfl hl.1 rfl (Nat.le_of_ble_eq_true rfl) dX0_contradict_2 (Nat.zero_le _) (Nat.zero_le _) ?_
  refine lv_istore (lv' := [(5, .int (nI (min (σ 7 0 - st) 40))), (0, .ref (q 7)), (1, .int (nI (st))), (2, .int (nI (mail))), (3, .int (nI (kw))), (4, .int (nI (w0)))]) hx hb dX0_contradict_5 hl (by decide) rfl (fun ls hl => ?_)
  refine n_iconst (k := 0) hx hb dX0_contradict_7 (by decide) ?_
  refine lv_istore (lv' := [(6, .int (nI (0))), (5, .int (nI (min (σ 7 0 - st) 40))), (0, .ref (q 7)), (1, .int (nI (st))), (2, .int (nI (mail))), (3, .int (nI (kw))), (4, .int (nI (w0)))]) hx hb dX0_contradict_8 hl (by decide) rfl (fun ls hl => ?_)
  have loop_10 : ∀ (n : Nat) (i : Nat), (i + n = min (σ 7 0 - st) 40) → (ctr σ mail kw w0 n i = ctr σ mail kw w0 (min (σ 7 0 - st) 40) 0) → ∀ (ls : Array Slot), lv_has ls 8 [(0, .ref (q 7)), (1, .int (nI (st))), (2, .int (nI (mail))), (3, .int (nI (kw))), (4, .int (nI (w0))), (5, .int (nI (min (σ 7 0 - st) 40))), (6, .int (nI (i)))] → W p l e (headSpec (codeW yX0_contradict cX0_contradict 8 (some .boolean)) ({ frames := 2, cells := 0, slots := 0, locals := 42 } : Room)).room s m ([.ref (q 7), .int (nI (st)), .int (nI (mail)), .int (nI (kw)), .int (nI (w0))] : List Value).toArray below meth c s.heap [] 0 0 (MQ below (RoQ (some (.int (b2i (ctr σ mail kw w0 (min (σ 7 0 - st) 40) 0)))) s.heap) ([.ref (q 7), .int (nI (st)), .int (nI (mail)), .int (nI (kw)), .int (nI (w0))] : List Value).toArray s 0 0 RoF) (F0 m 10 ls []) := by
    intro n
    induction n with
    | zero =>
      intro i hin hres ls hl
      refine lv_iload hx hb dX0_contradict_10 (lv_at hl 6 rfl) ?_
      refine lv_iload hx hb dX0_contradict_12 (lv_at hl 5 rfl) ?_
      refine n_icmp_ge (x := i) (y := min (σ 7 0 - st) 40) (tgt := 92) hx hb dX0_contradict_14 (by decide) (by omega) (by have := hB 7 0; omega) (fun c_1 => ?_) (fun c_1 => ?_)
      rotate_left
      · exfalso; omega
      refine n_iconst (k := 0) hx hb dX0_contradict_92 (by decide) ?_
      exact ro_z (v := false) hx hb hr hlocks (by rw [← hres]; rfl) dX0_contradict_93
    | succ n ih =>
      intro i hin hres ls hl
      refine lv_iload hx hb dX0_contradict_10 (lv_at hl 6 rfl) ?_
      refine lv_iload hx hb dX0_contradict_12 (lv_at hl 5 rfl) ?_
      refine n_icmp_ge (x := i) (y := min (σ 7 0 - st) 40) (tgt := 92) hx hb dX0_contradict_14 (by decide) (by omega) (by have := hB 7 0; omega) (fun c_2 => ?_) (fun c_2 => ?_)
      · exfalso; omega
      refine lv_aload_n hx hb dX0_contradict_17 rfl (lv_at hl 0 rfl) ?_
      refine va_get (D := D) (ci := 0) (v := .int (nI (σ 7 0))) (C := RX0) (T := TX0) (N := 5) hx hb htA uwX0 hown hKK.1 hP 6 rfl rfl 4 (by decide) (htA _ wd_37) (fun _ h9 => h9) rfl dX0_contradict_18 ?_
      refine lv_iload hx hb dX0_contradict_21 (lv_at hl 6 rfl) ?_
      refine n_isub hx hb (by omega) dX0_contradict_23 ?_
      refine roS1 (v := .int (nI (((σ 7 0) - i) % 40))) (As := [.int (nI ((σ 7 0) - i))]) (rest := []) (n := 1) ⟨hx, hb, hml, hown, htA⟩ (c_slotOf l D cI cZ sa ((σ 7 0) - i) s.heap (by have := hB 7 0; omega)) (va_cwS 1 htA (gdS wd_256 wd_257 wd_3 wd_258) rfl rfl rfl (by decide +kernel) ⟨Nat.le_of_ble_eq_true rfl, Nat.le_of_ble_eq_true rfl⟩) hKK rfl hl.1 rfl (Nat.le_of_ble_eq_true rfl) dX0_contradict_24 (Nat.zero_le _) (Nat.zero_le _) ?_
      refine lv_istore (lv' := [(7, .int (nI (((σ 7 0) - i) % 40))), (0, .ref (q 7)), (1, .int (nI (st))), (2, .int (nI (mail))), (3, .int (nI (kw))), (4, .int (nI (w0))), (5, .int (nI (min (σ 7 0 - st) 40))), (6, .int (nI (i)))]) hx hb dX0_contradict_27 hl (by decide) rfl (fun ls hl => ?_)
      refine lv_aload_n hx hb dX0_contradict_29 rfl (lv_at hl 1 rfl) ?_
      refine va_get (D := D) (ci := 0) (v := .ref (q 8)) (C := RX0) (T := TX0) (N := 5) hx hb htA uwX0 hown hKK.1 hP 6 rfl rfl 0 (by decide) (htA _ wd_33) (fun _ h9 => h9) rfl dX0_contradict_30 ?_
      refine lv_iload hx hb dX0_contradict_33 (lv_at hl 0 rfl) ?_
      refine n_iald (g := σ 8) (cA := cI) (n := 40) (j := ((σ 7 0) - i) % 40) hx hb hKK.1 hP 7 0 rfl rfl (by omega) (Nat.le_of_ble_eq_true rfl) dX0_contradict_35 ?_
      refine lv_iload_n hx hb dX0_contradict_36 rfl (lv_at hl 3 rfl) ?_
      refine n_icmp_ne (x := σ 8 (((σ 7 0) - i) % 40)) (y := mail) (tgt := 86) hx hb dX0_contradict_37 (by decide) (by have := hB 8 (((σ 7 0) - i) % 40); have := hB 7 0; omega) hm (fun c_3 => ?_) (fun c_3 => ?_)
      · refine lv_iinc (v := nI (i + 1)) (lv' := [(6, .int (nI (i + 1))), (7, .int (nI (((σ 7 0) - i) % 40))), (0, .ref (q 7)), (1, .int (nI (st))), (2, .int (nI (mail))), (3, .int (nI (kw))), (4, .int (nI (w0))), (5, .int (nI (min (σ 7 0 - st) 40)))]) hx hb dX0_contradict_86 hl (k := 7) rfl (n_inc (i) 1 rfl) (by decide) rfl (fun ls hl => ?_)
        refine lv_goto (tgt := 10) hx hb dX0_contradict_89 (by decide) ?_
        exact ih (i + 1) (by omega) (by rw [← hres]; simp only [ctr]; rw [show ctc σ mail kw i = false from by simp only [ctc, c_2, c_3, decide_true, decide_false, Bool.true_and, Bool.false_and, Bool.and_true, Bool.and_false, Bool.not_true, Bool.not_false, eq_self, not_true_eq_false, not_false_eq_true, cond_true, cond_false, ne_eq]]; rfl) ls (lv_sub hl [2, 3, 4, 5, 6, 7, 0] rfl)
      · refine lv_aload_n hx hb dX0_contradict_40 rfl (lv_at hl 1 rfl) ?_
        refine va_get (D := D) (ci := 0) (v := .ref (q 10)) (C := RX0) (T := TX0) (N := 5) hx hb htA uwX0 hown hKK.1 hP 6 rfl rfl 2 (by decide) (htA _ wd_35) (fun _ h9 => h9) rfl dX0_contradict_41 ?_
        refine lv_iload hx hb dX0_contradict_44 (lv_at hl 0 rfl) ?_
        refine n_iald (g := σ 10) (cA := cI) (n := 40) (j := ((σ 7 0) - i) % 40) hx hb hKK.1 hP 9 0 rfl rfl (by omega) (Nat.le_of_ble_eq_true rfl) dX0_contradict_46 ?_
        refine lv_aload_n hx hb dX0_contradict_47 rfl (lv_at hl 1 rfl) ?_
        refine va_get (D := D) (ci := 0) (v := .ref (q 11)) (C := RX0) (T := TX0) (N := 5) hx hb htA uwX0 hown hKK.1 hP 6 rfl rfl 3 (by decide) (htA _ wd_36) (fun _ h9 => h9) rfl dX0_contradict_48 ?_
        refine lv_iload hx hb dX0_contradict_51 (lv_at hl 0 rfl) ?_
        refine n_iald (g := σ 11) (cA := cI) (n := 40) (j := ((σ 7 0) - i) % 40) hx hb hKK.1 hP 10 0 rfl rfl (by omega) (Nat.le_of_ble_eq_true rfl) dX0_contradict_53 ?_
        refine lv_ixor hx hb dX0_contradict_54 ?_
        refine lv_i2l hx hb dX0_contradict_55 rfl ?_
        refine lv_iload_n hx hb dX0_contradict_56 rfl (lv_at hl 4 rfl) ?_
        refine roN1 (v := .int (b2i (hl64 (((nI (σ 10 (((σ 7 0) - i) % 40))) ^^^ (nI (σ 11 (((σ 7 0) - i) % 40)))).toInt64) (kw)))) (As := [.long (((nI (σ 10 (((σ 7 0) - i) % 40))) ^^^ (nI (σ 11 (((σ 7 0) - i) % 40)))).toInt64), .int (nI (kw))]) (rest := []) (n := 2) ⟨hx, hb, hml, hown, htA⟩ (c_holds l D cI cZ sa (((nI (σ 10 (((σ 7 0) - i) % 40))) ^^^ (nI (σ 11 (((σ 7 0) - i) % 40)))).toInt64) (kw) s.heap ) (cnS 2 htA (gd_c wd_430) rfl rfl rfl (ex_RX0_52 hKK.2) wd_1 wd_429 (by decide +kernel) ⟨Nat.le_of_ble_eq_true rfl, Nat.le_of_ble_eq_true rfl⟩) hKK rfl hl.1 rfl (Nat.le_of_ble_eq_true rfl) dX0_contradict_57 (Nat.zero_le _) (Nat.zero_le _) ?_
        refine b_ifeq (b := hl64 (((nI (σ 10 (((σ 7 0) - i) % 40))) ^^^ (nI (σ 11 (((σ 7 0) - i) % 40)))).toInt64) (kw)) (tgt := 86) hx hb dX0_contradict_60 (by decide) (fun c_4 => ?_) (fun c_4 => ?_)
        · refine lv_iinc (v := nI (i + 1)) (lv' := [(6, .int (nI (i + 1))), (7, .int (nI (((σ 7 0) - i) % 40))), (0, .ref (q 7)), (1, .int (nI (st))), (2, .int (nI (mail))), (3, .int (nI (kw))), (4, .int (nI (w0))), (5, .int (nI (min (σ 7 0 - st) 40)))]) hx hb dX0_contradict_86 hl (k := 7) rfl (n_inc (i) 1 rfl) (by decide) rfl (fun ls hl => ?_)
          refine lv_goto (tgt := 10) hx hb dX0_contradict_89 (by decide) ?_
          exact ih (i + 1) (by omega) (by rw [← hres]; simp only [ctr]; rw [show ctc σ mail kw i = false from by simp only [ctc, c_2, c_3, c_4, decide_true, decide_false, Bool.true_and, Bool.false_and, Bool.and_true, Bool.and_false, Bool.not_true, Bool.not_false, eq_self, not_true_eq_false, not_false_eq_true, cond_true, cond_false, ne_eq]]; rfl) ls (lv_sub hl [2, 3, 4, 5, 6, 7, 0] rfl)
        · refine lv_aload_n hx hb dX0_contradict_63 rfl (lv_at hl 1 rfl) ?_
          refine va_get (D := D) (ci := 0) (v := .ref (q 11)) (C := RX0) (T := TX0) (N := 5) hx hb htA uwX0 hown hKK.1 hP 6 rfl rfl 3 (by decide) (htA _ wd_36) (fun _ h9 => h9) rfl dX0_contradict_64 ?_
          refine lv_iload hx hb dX0_contradict_67 (lv_at hl 0 rfl) ?_
          refine n_iald (g := σ 11) (cA := cI) (n := 40) (j := ((σ 7 0) - i) % 40) hx hb hKK.1 hP 10 0 rfl rfl (by omega) (Nat.le_of_ble_eq_true rfl) dX0_contradict_69 ?_
          refine lv_i2l hx hb dX0_contradict_70 rfl ?_
          refine lv_iload_n hx hb dX0_contradict_71 rfl (lv_at hl 4 rfl) ?_
          refine roN1 (v := .int (b2i (hl64 ((nI (σ 11 (((σ 7 0) - i) % 40))).toInt64) (kw)))) (As := [.long ((nI (σ 11 (((σ 7 0) - i) % 40))).toInt64), .int (nI (kw))]) (rest := []) (n := 2) ⟨hx, hb, hml, hown, htA⟩ (c_holds l D cI cZ sa ((nI (σ 11 (((σ 7 0) - i) % 40))).toInt64) (kw) s.heap ) (cnS 2 htA (gd_c wd_430) rfl rfl rfl (ex_RX0_52 hKK.2) wd_1 wd_429 (by decide +kernel) ⟨Nat.le_of_ble_eq_true rfl, Nat.le_of_ble_eq_true rfl⟩) hKK rfl hl.1 rfl (Nat.le_of_ble_eq_true rfl) dX0_contradict_72 (Nat.zero_le _) (Nat.zero_le _) ?_
          refine lv_iload hx hb dX0_contradict_75 (lv_at hl 5 rfl) ?_
          refine bn_icmp_eq (b := hl64 ((nI (σ 11 (((σ 7 0) - i) % 40))).toInt64) (kw)) (w := w0) (tgt := 84) hx hb (by omega) dX0_contradict_77 (by decide) (fun c_5 => ?_) (fun c_5 => ?_)
          · refine n_iconst (k := 0) hx hb dX0_contradict_84 (by decide) ?_
            exact ro_z (v := false) hx hb hr hlocks (by rw [← hres]; simp only [ctr]; rw [show ctc σ mail kw i = true from by simp only [ctc, c_2, c_3, c_4, decide_true, decide_false, Bool.true_and, Bool.false_and, Bool.and_true, Bool.and_false, Bool.not_true, Bool.not_false, eq_self, not_true_eq_false, not_false_eq_true, cond_true, cond_false, ne_eq]]; simp [c_5]) dX0_contradict_85
          · refine n_iconst (k := 1) hx hb dX0_contradict_80 (by decide) ?_
            refine lv_goto (tgt := 85) hx hb dX0_contradict_81 (by decide) ?_
            exact ro_z (v := true) hx hb hr hlocks (by rw [← hres]; simp only [ctr]; rw [show ctc σ mail kw i = true from by simp only [ctc, c_2, c_3, c_4, decide_true, decide_false, Bool.true_and, Bool.false_and, Bool.and_true, Bool.and_false, Bool.not_true, Bool.not_false, eq_self, not_true_eq_false, not_false_eq_true, cond_true, cond_false, ne_eq]]; simp [c_5]) dX0_contradict_85
  exact loop_10 (min (σ 7 0 - st) 40) 0 (by omega) rfl ls (lv_sub hl [2, 3, 4, 5, 6, 1, 0] rfl)
