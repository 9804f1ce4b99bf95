set_option maxHeartbeats 4000000 in
set_option maxRecDepth 100000 in
theorem law_head {p : Program} {l : Launch} {e : Env} {s : State} {m : MethodId} {args : Array Value} {below : List Frame} {meth : Method} {c : Code} {H : Heap} {locs : List Loc} {ls : Array Slot} {cells slots : Nat} {Q : State → Prop} {A : Nat → Prop} {D : va_G} {cI cZ : ClassId} {sa q : Nat → Nat} {qg qb qw b9 L n : Nat} {xs : Nat → Int32} {σ : ST} {K : Nat → ST} {g b w : Nat → Nat} {st M bx F : Nat}  (C : LawC p s m args c A D cI cZ sa b9 L xs) (hcs : cells ≤ room_1.cells) (hss : slots ≤ room_1.slots) (hn : n < 90) (I : LI n σ K g b w st M bx F f0) (hP : va_P D vwCl (wP q qg qb qw cI cZ σ K g b w) H) (hD : va_D A (wP q qg qb qw cI cZ σ K g b w)) (hS : va_S A s.heap H locs)  (hl : lv_has ls 17 [(0, .ref (b9)), (1, .ref (q 0)), (2, .ref (qg)), (3, .ref (qb)), (4, .ref (qw)), (5, .int (nI (σ 1 0))), (6, .int (nI (st))), (7, .int (nI (M))), (8, .int (nI (F))), (9, .int (nI (bx))), (10, .int (nI (1))), (11, .int (nI (n)))])
    (kk : ∀ (v9 r : Nat) (ls1 : Array Slot), v9 < 2147483648 → (r = 0 ∨ ∃ j, j < σ 1 0 ∧ g j = 0 ∧ r = j + 1) → lv_has ls1 17 [(0, .ref (b9)), (1, .ref (q 0)), (2, .ref (qg)), (3, .ref (qb)), (4, .ref (qw)), (5, .int (nI (σ 1 0))), (6, .int (nI (st))), (7, .int (nI (M))), (8, .int (nI (F))), (9, .int (nI (bx))), (10, .int (nI (1))), (11, .int (nI (n))), (12, .int (nI (v9))), (13, .int (oi (r))), (14, .int (nI (v9 / 10 % 2)))] → W p l e room_1 s m args below meth c H locs cells slots Q (F0 m 112 ls1 [.int (nI (v9 % 10))])) : W p l e room_1 s m args below meth c H locs cells slots Q (F0 m 53 ls []) := by
  obtain ⟨hx, hb, hml, hown, htA, hX, hbl, hKK, hL, hbA⟩ := C
  obtain ⟨J, S9, hbx, h7, G, CC⟩ := id I
  have h60 := J.1
  refine lv_iload hx hb dL_law_53 (lv_at hl 11 rfl) ?_
  refine lv_bipush (v := nI 90) hx hb dL_law_55 (by decide) ?_
  refine n_icmp_ge (x := n) (y := 90) (tgt := 772) hx hb dL_law_57 (by decide) (by omega) (by decide) (fun c_1 => ?_) (fun c_1 => ?_)
  · exfalso; omega
  refine lv_iload hx hb dL_law_60 (lv_at hl 10 rfl) ?_
  refine b_ifeq (b := true) (tgt := 772) hx hb dL_law_62 (by decide) (fun c_2 => ?_) (fun c_2 => ?_)
  · exact absurd c_2 (by decide)
  refine lv_aload_n hx hb dL_law_65 rfl (lv_at hl 0 rfl) ?_
  refine lv_iload hx hb dL_law_66 (lv_at hl 11 rfl) ?_
  obtain ⟨v9, hv, ev⟩ := tol_n L xs n
  refine toS1 (v := .int (tolI L xs n)) (b := b9) (L := L) (xs := xs) (As := [.ref b9, .int (nI n)]) (rest := []) (n := 2) ⟨hx, hb, hml, hown, htA⟩ (c_told l D cI cZ sa H b9 L xs n (by omega) (by omega)) (va_cwS 2 htA (gdS wd_462 wd_463 wd_0 wd_464) rfl rfl rfl (by decide +kernel) ⟨Nat.le_of_ble_eq_true rfl, Nat.le_of_ble_eq_true rfl⟩) hKK (hX.kept (hS.2.1 b9 hbl hbA)) rfl hl.1 rfl (Nat.le_of_ble_eq_true rfl) dL_law_68 hcs hss ?_
  rw [ev]
  refine lv_istore (lv' := [(12, .int (nI (v9))), (0, .ref (b9)), (1, .ref (q 0)), (2, .ref (qg)), (3, .ref (qb)), (4, .ref (qw)), (5, .int (nI (σ 1 0))), (6, .int (nI (st))), (7, .int (nI (M))), (8, .int (nI (F))), (9, .int (nI (bx))), (10, .int (nI (1))), (11, .int (nI (n)))]) hx hb dL_law_71 hl (by decide) rfl (fun ls hl => ?_)
  refine lv_iload hx hb dL_law_73 (lv_at hl 6 rfl) ?_
  refine n_ifne (x := σ 1 0) (tgt := 82) hx hb dL_law_75 (by decide) (by omega) (fun c_3 => ?_) (fun c_3 => ?_)
  · refine lv_aload_n hx hb dL_law_82 rfl (lv_at hl 3 rfl) ?_
    refine lv_iload hx hb dL_law_83 (lv_at hl 6 rfl) ?_
    refine lv_iload hx hb dL_law_85 (lv_at hl 0 rfl) ?_
    refine lv_bipush (v := nI 10) hx hb dL_law_87 (by decide) ?_
    refine n_idiv hx hb (by omega) (by omega) (by decide) dL_law_89 ?_
    refine lv_iload hx hb dL_law_90 (lv_at hl 6 rfl) ?_
    refine n_irem hx hb (by omega) (by omega) (by omega) dL_law_92 ?_
    refine roS1 (v := .int (oi (thr g (σ 1 0) ((v9 / 10) % (σ 1 0)) (σ 1 0) 0))) (As := [.ref (qg), .int (nI (σ 1 0)), .int (nI ((v9 / 10) % (σ 1 0)))]) (rest := []) (n := 3) ⟨hx, hb, hml, hown, htA⟩ (c_there l D cI cZ sa qg g (σ 1 0) ((v9 / 10) % (σ 1 0)) H (P_G hP) (by omega) h60 (Nat.le_trans (Nat.le_of_lt (Nat.mod_lt _ (by omega))) h60) (fun i => (G i).1)) (va_cwS 3 htA (gdS wd_466 wd_467 wd_0 wd_468) rfl rfl rfl (by decide +kernel) ⟨Nat.le_of_ble_eq_true rfl, Nat.le_of_ble_eq_true rfl⟩) hKK rfl hl.1 rfl (Nat.le_of_ble_eq_true rfl) dL_law_93 hcs hss ?_
    refine lv_istore (lv' := [(13, .int (oi (thr g (σ 1 0) ((v9 / 10) % (σ 1 0)) (σ 1 0) 0))), (12, .int (nI (v9))), (0, .ref (b9)), (1, .ref (q 0)), (2, .ref (qg)), (3, .ref (qb)), (4, .ref (qw)), (5, .int (nI (σ 1 0))), (6, .int (nI (st))), (7, .int (nI (M))), (8, .int (nI (F))), (9, .int (nI (bx))), (10, .int (nI (1))), (11, .int (nI (n)))]) hx hb dL_law_96 hl (by decide) rfl (fun ls hl => ?_)
    refine lv_iload hx hb dL_law_98 (lv_at hl 1 rfl) ?_
    refine lv_bipush (v := nI 10) hx hb dL_law_100 (by decide) ?_
    refine n_idiv hx hb (by omega) (by omega) (by decide) dL_law_102 ?_
    refine n_iconst (k := 2) hx hb dL_law_103 (by decide) ?_
    refine n_irem hx hb (by omega) (by omega) (by decide) dL_law_104 ?_
    refine lv_istore (lv' := [(14, .int (nI ((v9 / 10) % 2))), (13, .int (oi (thr g (σ 1 0) ((v9 / 10) % (σ 1 0)) (σ 1 0) 0))), (12, .int (nI (v9))), (0, .ref (b9)), (1, .ref (q 0)), (2, .ref (qg)), (3, .ref (qb)), (4, .ref (qw)), (5, .int (nI (σ 1 0))), (6, .int (nI (st))), (7, .int (nI (M))), (8, .int (nI (F))), (9, .int (nI (bx))), (10, .int (nI (1))), (11, .int (nI (n)))]) hx hb dL_law_105 hl (by decide) rfl (fun ls hl => ?_)
    refine lv_iload hx hb dL_law_107 (lv_at hl 2 rfl) ?_
    refine lv_bipush (v := nI 10) hx hb dL_law_109 (by decide) ?_
    refine n_irem hx hb (by omega) (by omega) (by decide) dL_law_111 ?_
    exact kk v9 _ _ hv (thr_or g _ (by omega) _ _) (lv_sub hl [3, 4, 5, 6, 7, 8, 9, 10, 11, 12, 13, 14, 2, 1, 0] rfl)
  · refine lv_iconst (v := oi 0) hx hb dL_law_78 (by decide) ?_
    refine lv_goto (tgt := 96) hx hb dL_law_79 (by decide) ?_
    refine lv_istore (lv' := [(13, .int (oi (0))), (12, .int (nI (v9))), (0, .ref (b9)), (1, .ref (q 0)), (2, .ref (qg)), (3, .ref (qb)), (4, .ref (qw)), (5, .int (nI (σ 1 0))), (6, .int (nI (st))), (7, .int (nI (M))), (8, .int (nI (F))), (9, .int (nI (bx))), (10, .int (nI (1))), (11, .int (nI (n)))]) hx hb dL_law_96 hl (by decide) rfl (fun ls hl => ?_)
    refine lv_iload hx hb dL_law_98 (lv_at hl 1 rfl) ?_
    refine lv_bipush (v := nI 10) hx hb dL_law_100 (by decide) ?_
    refine n_idiv hx hb (by omega) (by omega) (by decide) dL_law_102 ?_
    refine n_iconst (k := 2) hx hb dL_law_103 (by decide) ?_
    refine n_irem hx hb (by omega) (by omega) (by decide) dL_law_104 ?_
    refine lv_istore (lv' := [(14, .int (nI ((v9 / 10) % 2))), (13, .int (oi (0))), (12, .int (nI (v9))), (0, .ref (b9)), (1, .ref (q 0)), (2, .ref (qg)), (3, .ref (qb)), (4, .ref (qw)), (5, .int (nI (σ 1 0))), (6, .int (nI (st))), (7, .int (nI (M))), (8, .int (nI (F))), (9, .int (nI (bx))), (10, .int (nI (1))), (11, .int (nI (n)))]) hx hb dL_law_105 hl (by decide) rfl (fun ls hl => ?_)
    refine lv_iload hx hb dL_law_107 (lv_at hl 2 rfl) ?_
    refine lv_bipush (v := nI 10) hx hb dL_law_109 (by decide) ?_
    refine n_irem hx hb (by omega) (by omega) (by decide) dL_law_111 ?_
    exact kk v9 _ _ hv (Or.inl rfl) (lv_sub hl [3, 4, 5, 6, 7, 8, 9, 10, 11, 12, 13, 14, 2, 1, 0] rfl)
set_option maxHeartbeats 4000000 in
set_option maxRecDepth 100000 in
theorem law_tail {p : Program} {l : Launch} {e : Env} {s : State} {m : MethodId} {args : Array Value} {below : List Frame} {meth : Method} {c : Code} {H : Heap} {locs : List Loc} {ls : Array Slot} {cells slots : Nat} {Q : State → Prop} {A : Nat → Prop} {D : va_G} {cI cZ : ClassId} {sa q : Nat → Nat} {qg qb qw b9 L n : Nat} {xs : Nat → Int32} {σ : ST} {K : Nat → ST} {g b w : Nat → Nat} {st M bx F : Nat}  (C : LawC p s m args c A D cI cZ sa b9 L xs) (hcs : cells ≤ room_1.cells) (hss : slots ≤ room_1.slots) (hn : n < 90) (I : LI (n + 1) σ K g b w st M bx F f0) (hP : va_P D vwCl (wP q qg qb qw cI cZ σ K g b w) H) (hD : va_D A (wP q qg qb qw cI cZ σ K g b w)) (hS : va_S A s.heap H locs)  (hl : lv_has ls 17 [(0, .ref (b9)), (1, .ref (q 0)), (2, .ref (qg)), (3, .ref (qb)), (4, .ref (qw)), (5, .int (nI (σ 1 0))), (6, .int (nI (st))), (7, .int (nI (M))), (8, .int (nI (F))), (9, .int (nI (bx))), (10, .int (nI (1))), (11, .int (nI (n)))])
    (kk : ∀ (ls1 : Array Slot), LawS s A D cI cZ q qg qb qw b9 (n + 1) σ K g b w st M bx F H locs ls1 → W p l e room_1 s m args below meth c H locs cells slots Q (F0 m 53 ls1 [])) : W p l e room_1 s m args below meth c H locs cells slots Q (F0 m 739 ls []) := by
  obtain ⟨hx, hb, hml, hown, htA, hX, hbl, hKK, hL, hbA⟩ := C
  obtain ⟨J, S9, hbx, h7, G, CC⟩ := id I
  have h60 := J.1
  refine lv_iload hx hb dL_law_739 (lv_at hl 10 rfl) ?_
  refine b_ifeq (b := true) (tgt := 763) hx hb dL_law_741 (by decide) (fun c_1 => ?_) (fun c_1 => ?_)
  · exact absurd c_1 (by decide)
  refine lv_aload_n hx hb dL_law_744 rfl (lv_at hl 1 rfl) ?_
  refine lv_iload hx hb dL_law_745 (lv_at hl 6 rfl) ?_
  refine lv_iload hx hb dL_law_747 (lv_at hl 7 rfl) ?_
  refine lv_iload hx hb dL_law_749 (lv_at hl 9 rfl) ?_
  refine lv_iload hx hb dL_law_751 (lv_at hl 8 rfl) ?_
  refine roS1 (v := .int (b2i (true))) (As := [.ref (q 0), .int (nI (st)), .int (nI (M)), .int (nI (bx)), .int (nI (F))]) (rest := []) (n := 5) ⟨hx, hb, hml, hown, htA⟩ (kc_isTold l D cI cZ sa q σ K st M bx F H (P_X hP) J S9 hbx) (va_cwS 5 htA (gdS wd_485 wd_486 wd_0 wd_487) rfl rfl rfl (by decide +kernel) ⟨Nat.le_of_ble_eq_true rfl, Nat.le_of_ble_eq_true rfl⟩) hKK rfl hl.1 rfl (Nat.le_of_ble_eq_true rfl) dL_law_753 hcs hss ?_
  refine b_ifeq (b := true) (tgt := 763) hx hb dL_law_756 (by decide) (fun c_2 => ?_) (fun c_2 => ?_)
  · exact absurd c_2 (by decide)
  refine n_iconst (k := 1) hx hb dL_law_759 (by decide) ?_
  refine lv_goto (tgt := 764) hx hb dL_law_760 (by decide) ?_
  refine lv_istore (lv' := [(10, .int (nI (1))), (0, .ref (b9)), (1, .ref (q 0)), (2, .ref (qg)), (3, .ref (qb)), (4, .ref (qw)), (5, .int (nI (σ 1 0))), (6, .int (nI (st))), (7, .int (nI (M))), (8, .int (nI (F))), (9, .int (nI (bx))), (11, .int (nI (n)))]) hx hb dL_law_764 hl (by decide) rfl (fun ls hl => ?_)
  refine lv_iinc (v := nI (n + 1)) (lv' := [(11, .int (nI (n + 1))), (10, .int (nI (1))), (0, .ref (b9)), (1, .ref (q 0)), (2, .ref (qg)), (3, .ref (qb)), (4, .ref (qw)), (5, .int (nI (σ 1 0))), (6, .int (nI (st))), (7, .int (nI (M))), (8, .int (nI (F))), (9, .int (nI (bx)))]) hx hb dL_law_766 hl (k := 11) rfl (n_inc (n) 1 rfl) (by decide) rfl (fun ls hl => ?_)
  refine lv_goto (tgt := 53) hx hb dL_law_769 (by decide) ?_
  exact kk _ ⟨hP, hD, hS, lv_sub hl [2, 3, 4, 5, 6, 7, 8, 9, 10, 11, 1, 0] rfl⟩
set_option maxHeartbeats 4000000 in
set_option maxRecDepth 100000 in
/-- one step of the law -/
theorem law_step {p : Program} {l : Launch} {e : Env} {s : State} {m : MethodId} {args : Array Value} {below : List Frame} {meth : Method} {c : Code} {H : Heap} {locs : List Loc} {ls : Array Slot} {cells slots : Nat} {Q : State → Prop} {A : Nat → Prop} {D : va_G} {cI cZ : ClassId} {sa q : Nat → Nat} {qg qb qw b9 L n : Nat} {xs : Nat → Int32} {σ : ST} {K : Nat → ST} {g b w : Nat → Nat} {st M bx F : Nat} (C : LawC p s m args c A D cI cZ sa b9 L xs) (hcs : cells ≤ room_1.cells) (hss : slots ≤ room_1.slots) (hn : n < 90) (I : LI n σ K g b w st M bx F f0) (hSt : LawS s A D cI cZ q qg qb qw b9 n σ K g b w st M bx F H locs ls) (kk : ∀ (σ1 : ST) (K1 : Nat → ST) (g1 b1 w1 : Nat → Nat) (st1 M1 bx1 F1 : Nat) (H1 : Heap) (locs1 : List Loc) (ls1 : Array Slot), LI (n + 1) σ1 K1 g1 b1 w1 st1 M1 bx1 F1 f0 → LawS s A D cI cZ q qg qb qw b9 (n + 1) σ1 K1 g1 b1 w1 st1 M1 bx1 F1 H1 locs1 ls1 → W p l e room_1 s m args below meth c H1 locs1 cells slots Q (F0 m 53 ls1 [])) : W p l e room_1 s m args below meth c H locs cells slots Q (F0 m 53 ls []) := by
  obtain ⟨hP, hD, hS, hl⟩ := hSt
  have hK : ∀ (σ1 : ST) (K1 : Nat → ST) (g1 b1 w1 : Nat → Nat) (st1 M1 bx1 F1 : Nat) (H1 : Heap) (locs1 : List Loc) (ls1 : Array Slot), LI (n + 1) σ1 K1 g1 b1 w1 st1 M1 bx1 F1 f0 → LawS s A D cI cZ q qg qb qw b9 n σ1 K1 g1 b1 w1 st1 M1 bx1 F1 H1 locs1 ls1 → W p l e room_1 s m args below meth c H1 locs1 cells slots Q (F0 m 739 ls1 []) := fun σ1 K1 g1 b1 w1 st1 M1 bx1 F1 H1 locs1 ls1 I1 S1 => law_tail C hcs hss hn I1 S1.1 S1.2.1 S1.2.2.1 S1.2.2.2 (fun ls2 S2 => kk _ _ _ _ _ _ _ _ _ _ _ _ I1 S2)
  refine law_head C hcs hss hn I hP hD hS hl (fun v9 r ls1 hv hr hl => ?_)
  obtain ⟨hx, hb, -⟩ := id C
  have hcl : v9 / 10 % 2 < 2 := Nat.mod_lt _ (by decide)
  rcases (show v9 % 10 = 0 ∨ v9 % 10 = 1 ∨ v9 % 10 = 2 ∨ v9 % 10 = 3 ∨ v9 % 10 = 4 ∨ v9 % 10 = 5 ∨ v9 % 10 = 6 ∨ v9 % 10 = 7 ∨ v9 % 10 = 8 ∨ v9 % 10 = 9 by omega) with e | e | e | e | e | e | e | e | e | e
  · rw [e]
    refine lv_tableIn (off := 52) (tgt := 164) hx hb dL_law_112 (by decide) (by decide) (by decide) (by decide) ?_
    exact law_add C hcs hss hn I hP hD hS hv (lv_sub hl [0, 1, 2, 3, 4, 5, 6, 7, 8, 9, 10, 11, 12] rfl) hK
  · rw [e]
    refine lv_tableIn (off := 52) (tgt := 164) hx hb dL_law_112 (by decide) (by decide) (by decide) (by decide) ?_
    exact law_add C hcs hss hn I hP hD hS hv (lv_sub hl [0, 1, 2, 3, 4, 5, 6, 7, 8, 9, 10, 11, 12] rfl) hK
  · rw [e]
    refine lv_tableIn (off := 108) (tgt := 220) hx hb dL_law_112 (by decide) (by decide) (by decide) (by decide) ?_
    rcases hr with rfl | ⟨j, hj, hg, rfl⟩
    · exact law_nomail220 (K := K) (g := g) (b := b) (w := w) C (lv_sub hl [0, 1, 2, 3, 4, 5, 6, 7, 8, 9, 10, 11, 13] rfl) (hK _ _ _ _ _ _ _ _ _ _ _ _ (LI_up I) ⟨hP, hD, hS, lv_sub hl [0, 1, 2, 3, 4, 5, 6, 7, 8, 9, 10, 11] rfl⟩)
    · exact law_move C hcs hss hn I hP hD hS hv hj hg (lv_sub hl [0, 1, 2, 3, 4, 5, 6, 7, 8, 9, 10, 11, 12, 13] rfl) hK
  · rw [e]
    refine lv_tableIn (off := 172) (tgt := 284) hx hb dL_law_112 (by decide) (by decide) (by decide) (by decide) ?_
    rcases hr with rfl | ⟨j, hj, hg, rfl⟩
    · exact law_nomail284 (K := K) (g := g) (b := b) (w := w) C (lv_sub hl [0, 1, 2, 3, 4, 5, 6, 7, 8, 9, 10, 11, 13] rfl) (hK _ _ _ _ _ _ _ _ _ _ _ _ (LI_up I) ⟨hP, hD, hS, lv_sub hl [0, 1, 2, 3, 4, 5, 6, 7, 8, 9, 10, 11] rfl⟩)
    · exact law_flag C hcs hss hn I hP hD hS hv hj hg (lv_sub hl [0, 1, 2, 3, 4, 5, 6, 7, 8, 9, 10, 11, 12, 13] rfl) hK
  · rw [e]
    refine lv_tableIn (off := 172) (tgt := 284) hx hb dL_law_112 (by decide) (by decide) (by decide) (by decide) ?_
    rcases hr with rfl | ⟨j, hj, hg, rfl⟩
    · exact law_nomail284 (K := K) (g := g) (b := b) (w := w) C (lv_sub hl [0, 1, 2, 3, 4, 5, 6, 7, 8, 9, 10, 11, 13] rfl) (hK _ _ _ _ _ _ _ _ _ _ _ _ (LI_up I) ⟨hP, hD, hS, lv_sub hl [0, 1, 2, 3, 4, 5, 6, 7, 8, 9, 10, 11] rfl⟩)
    · exact law_flag C hcs hss hn I hP hD hS hv hj hg (lv_sub hl [0, 1, 2, 3, 4, 5, 6, 7, 8, 9, 10, 11, 12, 13] rfl) hK
  · rw [e]
    refine lv_tableIn (off := 283) (tgt := 395) hx hb dL_law_112 (by decide) (by decide) (by decide) (by decide) ?_
    rcases hr with rfl | ⟨j, hj, hg, rfl⟩
    · exact law_nomail395 (K := K) (g := g) (b := b) (w := w) C (lv_sub hl [0, 1, 2, 3, 4, 5, 6, 7, 8, 9, 10, 11, 13] rfl) (hK _ _ _ _ _ _ _ _ _ _ _ _ (LI_up I) ⟨hP, hD, hS, lv_sub hl [0, 1, 2, 3, 4, 5, 6, 7, 8, 9, 10, 11] rfl⟩)
    · exact law_destroy C hcs hss hn I hP hD hS hv hj hg (lv_sub hl [0, 1, 2, 3, 4, 5, 6, 7, 8, 9, 10, 11, 12, 13] rfl) hK
  · rw [e]
    refine lv_tableIn (off := 327) (tgt := 439) hx hb dL_law_112 (by decide) (by decide) (by decide) (by decide) ?_
    exact law_off C hcs hss hn I hP hD hS hv hcl (lv_sub hl [0, 1, 2, 3, 4, 5, 6, 7, 8, 9, 10, 11, 12, 14] rfl) hK
  · rw [e]
    refine lv_tableIn (off := 480) (tgt := 592) hx hb dL_law_112 (by decide) (by decide) (by decide) (by decide) ?_
    exact law_watch C hcs hss hn I hP hD hS hv hcl (lv_sub hl [0, 1, 2, 3, 4, 5, 6, 7, 8, 9, 10, 11, 12, 14] rfl) hK
  · rw [e]
    refine lv_tableIn (off := 559) (tgt := 671) hx hb dL_law_112 (by decide) (by decide) (by decide) (by decide) ?_
    exact law_snap C hcs hss hn I hP hD hS hv (lv_sub hl [0, 1, 2, 3, 4, 5, 6, 7, 8, 9, 10, 11, 12] rfl) hK
  · rw [e]
    refine lv_tableOut (tgt := 705) hx hb dL_law_112 (Or.inr (by decide)) (by decide) ?_
    exact law_sync C hcs hss hn I hP hD hS hv hcl (lv_sub hl [0, 1, 2, 3, 4, 5, 6, 7, 8, 9, 10, 11, 12, 14] rfl) hK
theorem law_exit {p : Program} {l : Launch} {e : Env} {s : State} {m : MethodId} {args : Array Value} {below : List Frame} {meth : Method} {c : Code} {H : Heap} {locs : List Loc} {ls : Array Slot} {cells slots : Nat} {Q : State → Prop} {A : Nat → Prop} {D : va_G} {cI cZ : ClassId} {sa q : Nat → Nat} {qg qb qw b9 L n : Nat} {xs : Nat → Int32} {σ : ST} {K : Nat → ST} {g b w : Nat → Nat} {st M bx F : Nat} (C : LawC p s m args c A D cI cZ sa b9 L xs) (hn : n = 90) (hSt : LawS s A D cI cZ q qg qb qw b9 n σ K g b w st M bx F H locs ls) (kx : W p l e room_1 s m args below meth c H locs cells slots Q (F0 m 772 ls [])) : W p l e room_1 s m args below meth c H locs cells slots Q (F0 m 53 ls []) := by
  obtain ⟨hP, hD, hS, hl⟩ := hSt
  obtain ⟨hx, hb, -⟩ := id C
  subst hn
  refine lv_iload hx hb dL_law_53 (lv_at hl 11 rfl) ?_
  refine lv_bipush (v := nI 90) hx hb dL_law_55 (by decide) ?_
  exact n_icmp_ge (x := 90) (y := 90) (tgt := 772) hx hb dL_law_57 (by decide) (by decide) (by decide) (fun _ => kx) (fun h => absurd h (Nat.lt_irrefl _))
theorem law_loop {p : Program} {l : Launch} {e : Env} {s : State} {m : MethodId} {args : Array Value} {below : List Frame} {meth : Method} {c : Code} {cells slots : Nat} {Q : State → Prop} {A : Nat → Prop} {D : va_G} {cI cZ : ClassId} {sa q : Nat → Nat} {qg qb qw b9 L : Nat} {xs : Nat → Int32} (C : LawC p s m args c A D cI cZ sa b9 L xs) (hcs : cells ≤ room_1.cells) (hss : slots ≤ room_1.slots)
    (kx : ∀ (H : Heap) (locs : List Loc) (ls : Array Slot), va_S A s.heap H locs → lv_has ls 17 [(10, .int (nI 1))] → W p l e room_1 s m args below meth c H locs cells slots Q (F0 m 772 ls [])) :
    ∀ (f n : Nat) (σ : ST) (K : Nat → ST) (g b w : Nat → Nat) (st M bx F : Nat) (H : Heap) (locs : List Loc) (ls : Array Slot), n + f = 90 → LI n σ K g b w st M bx F f0 → LawS s A D cI cZ q qg qb qw b9 n σ K g b w st M bx F H locs ls → W p l e room_1 s m args below meth c H locs cells slots Q (F0 m 53 ls []) := by
  intro f
  induction f with
  | zero =>
    intro n σ K g b w st M bx F H locs ls hf I hSt
    exact law_exit C (by omega) hSt (kx _ _ _ hSt.2.2.1 (lv_sub hSt.2.2.2 [10] rfl))
  | succ f ih =>
    intro n σ K g b w st M bx F H locs ls hf I hSt
    exact law_step C hcs hss (by omega) I hSt (fun σ1 K1 g1 b1 w1 st1 M1 bx1 F1 H1 locs1 ls1 I1 S1 => ih (n + 1) _ _ _ _ _ _ _ _ _ _ _ _ (by omega) I1 S1)
