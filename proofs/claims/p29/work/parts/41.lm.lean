/-! the law's own small methods -/
section IDIV
variable {p : Program} {l : Launch} {e : Env} {R : Room} {s : State} {m : MethodId} {args : Array Value} {below : List Frame} {meth : Method} {c : Code} {H H0 : Heap} {locs : List Loc} {cells slots : Nat} {Q : State → Prop}
variable {cc : ByteArray} {pc : Nat} {ls : Array Slot} {rest st0 : List Value} {A : Nat → Prop}
theorem n_idiv (hx : p.tables.exec = Jvm.exec) (hb : c.code = cc) {x y : Nat} (h1 : x < 2 ^ 31) (h0 : 0 < y) (h2 : y < 2 ^ 31) (hdg : decode cc pc = .ok (.idiv, 1))
    (kk : W p l e R s m args below meth c H locs cells slots Q (F0 m (pc + 1) ls (.int (nI (x / y)) :: rest))) : W p l e R s m args below meth c H locs cells slots Q (F0 m pc ls (.int (nI y) :: .int (nI x) :: rest)) := lv_idiv hx hb hdg (nI_ne0 h0 h2) (by rw [pk_div h1 h0 h2]; exact kk)
theorem n_sld {b L : Nat} {xs : Nat → Int32} (hx : p.tables.exec = Jvm.exec) (hb : c.code = cc) (hX : va_X b L xs s H0) (hbl : b < H0.size) (hbA : ¬ A b) (hS : va_S A H0 H locs) {j : Nat} (hj : j < L) (hL : L < 2 ^ 31) (hdg : decode cc pc = .ok (.iaload, 1))
    (kk : W p l e R s m args below meth c H locs cells slots Q (F0 m (pc + 1) ls (.int (xs j) :: rest))) : W p l e R s m args below meth c H locs cells slots Q (F0 m pc ls (.int (nI j) :: .ref b :: rest)) :=
  va_sld hx hb hX hbl hbA hS (vp_in_nI hj hL) hdg (by rw [nI_clamp (Nat.lt_trans hj hL)]; exact kk)
end IDIV
theorem wd_told : (Cond.constant RL 7 (2147483647 : Int32)) ∈ WA := tb_2 (List.mem_of_getElem? (i := 225) rfl) rfl
def tolI (L : Nat) (xs : Nat → Int32) (k : Nat) : Int32 := (if k < L then xs k else nI 26003 * nI (k + 3) * nI (k + 10)) &&& 2147483647
theorem and31 (x : Int32) : x &&& 2147483647 = nI (x.toBitVec.toNat % 2147483648) := by
  apply Int32.toBitVec_inj.1
  apply BitVec.eq_of_toNat_eq
  show (x.toBitVec &&& (2147483647 : Int32).toBitVec).toNat = (BitVec.ofNat 32 (x.toBitVec.toNat % 2147483648)).toNat
  rw [BitVec.toNat_and, BitVec.toNat_ofNat, show (2147483647 : Int32).toBitVec.toNat = 2 ^ 31 - 1 from by decide, Nat.and_two_pow_sub_one_eq_mod]
  omega
theorem tol_n (L : Nat) (xs : Nat → Int32) (k : Nat) : ∃ v, v < 2147483648 ∧ tolI L xs k = nI v := ⟨_, Nat.mod_lt _ (by decide), and31 _⟩
abbrev ToP (D : va_G) (cI cZ : ClassId) (sa : Nat → Nat) (H : Heap) (b L : Nat) (xs : Nat → Int32) (av : List Value) : Array Value → State → Prop := va_Pc av (fun U => U.heap = H ∧ va_X b L xs U H ∧ KK D cI cZ sa U)
theorem ToP.blind {H : Heap} {D : va_G} {cI cZ : ClassId} {sa : Nat → Nat} {b L : Nat} {xs : Nat → Int32} {av : List Value} : FrameBlind (ToP D cI cZ sa H b L xs av) := fun a U g mk q => by
  obtain ⟨q0, q1, q2, q3⟩ := q
  exact ⟨q0, q1, va_X.moved (u := U) (U := U.calling g mk a) (Vm.Alike.refl U.vm) q2, q3.same rfl⟩
set_option maxHeartbeats 4000000 in
set_option maxRecDepth 100000 in
theorem c_told (l : Launch) (D : va_G) (cI cZ : ClassId) (sa : Nat → Nat) (H : Heap) (b L : Nat) (xs : Nat → Int32) (k : Nat) (hL : L < 2 ^ 31) (hk : k < 2 ^ 31) : Met l yL_told (codeW yL_told cL_told 2 (some .int)) ({ frames := 0, cells := 0, slots := 0, locals := 0 } : Room) (ToP D cI cZ sa H b L xs [.ref b, .int (nI k)]) (RoQ (some (.int (tolI L xs k))) H) 0 0 RoF := by
  refine Met.ofW (cc := cL_told) (maxL := 2) (ret := (some .int)) (by decide) rfl ?_
  intro p e s m args below meth c s₁ B hml hv
  obtain ⟨rfl, hH, hX, hKK⟩ := hv
  subst hH
  have hx := B.exec
  have hb := B.bytes
  have hr := B.returns
  have htA : ∀ w ∈ WA, w.before _ s = true := fun w h => atoms_spec (ws := (codeW yL_told cL_told 2 (some .int))) B.pre w (List.mem_cons_of_mem _ h)
  have hown : s.vm.findClass RL = some m.cls := findClass_of_methodNamed B.named
  have hlocks := B.notSynchronized
  have hS : va_S RoF s.heap s.heap [] := va_S.rf
  have hbl : b < s.heap.size := by
    obtain ⟨scr, h1, -⟩ := hX
    exact (Array.getElem?_eq_some_iff.mp h1).1
  have hbA : ¬ RoF b := fun h => h
  have hl := lv_entry ([.ref b, .int (nI k)]) (n := 2) (Nat.le_of_ble_eq_true rfl)
  rw [lg_entry_eq]
  generalize (lg_sl ([.ref b, .int (nI k)]) ++ List.replicate (2 - (lg_sl ([.ref b, .int (nI k)])).length) Slot.unset).toArray = ls at hl ⊢
  have hl : lv_has ls 2 [(0, .ref b), (1, .int (nI k))] := hl
  refine lv_iload_n hx hb dL_told_0 rfl (lv_at hl 1 rfl) ?_
  refine lv_aload_n hx hb dL_told_1 rfl (lv_at hl 0 rfl) ?_
  refine va_slen hx hb hX hbl hbA hS dL_told_2 ?_
  refine W.eq (g2 := F0 m 3 ls [.int (nI L), .int (nI k)]) rfl ?_
  refine n_icmp_ge (x := k) (y := L) (tgt := 12) hx hb dL_told_3 (by decide) hk hL (fun h => ?_) (fun h => ?_)
  · refine lv_sipush (v := nI 26003) hx hb dL_told_12 (by decide) ?_
    refine lv_iload_n hx hb dL_told_15 rfl (lv_at hl 1 rfl) ?_
    refine n_iconst (k := 3) hx hb dL_told_16 (by decide) ?_
    refine n_iadd hx hb dL_told_17 ?_
    refine lv_imul hx hb dL_told_18 ?_
    refine lv_iload_n hx hb dL_told_19 rfl (lv_at hl 1 rfl) ?_
    refine lv_bipush (v := nI 10) hx hb dL_told_20 (by decide) ?_
    refine n_iadd hx hb dL_told_22 ?_
    refine lv_imul hx hb dL_told_23 ?_
    refine lv_ldc (v := (2147483647 : Int32)) hx hb hown (htA _ wd_told) dL_told_24 ?_
    refine lv_iand hx hb dL_told_26 ?_
    exact ro_i hx hb hr hlocks (by unfold tolI; rw [if_neg (by omega)]) dL_told_27
  · refine lv_aload_n hx hb dL_told_6 rfl (lv_at hl 0 rfl) ?_
    refine lv_iload_n hx hb dL_told_7 rfl (lv_at hl 1 rfl) ?_
    refine n_sld (j := k) hx hb hX hbl hbA hS h hL dL_told_8 ?_
    refine lv_goto (tgt := 24) hx hb dL_told_9 (by decide) ?_
    refine lv_ldc (v := (2147483647 : Int32)) hx hb hown (htA _ wd_told) dL_told_24 ?_
    refine lv_iand hx hb dL_told_26 ?_
    exact ro_i hx hb hr hlocks (by unfold tolI; rw [if_pos h]) dL_told_27
/-- a mail that is there, from a place on -/
def thr (g : Nat → Nat) (all v : Nat) : Nat → Nat → Nat
  | 0, _ => 0
  | n + 1, k => cond (decide (g ((v + k) % all) = 0)) ((v + k) % all + 1) (thr g all v n (k + 1))
theorem thr_or (g : Nat → Nat) {all : Nat} (v : Nat) (h0 : 0 < all) : ∀ n k, thr g all v n k = 0 ∨ ∃ j, j < all ∧ g j = 0 ∧ thr g all v n k = j + 1 := by
  intro n
  induction n with
  | zero => intro k; exact Or.inl rfl
  | succ n ih =>
    intro k
    simp only [thr]
    by_cases h : g ((v + k) % all) = 0
    · rw [decide_eq_true h, cond_true]; exact Or.inr ⟨_, Nat.mod_lt _ h0, h, rfl⟩
    · rw [decide_eq_false h, cond_false]; exact ih (k + 1)
set_option maxHeartbeats 4000000 in
set_option maxRecDepth 100000 in
theorem c_there (l : Launch) (D : va_G) (cI cZ : ClassId) (sa : Nat → Nat) (qg : Nat) (g : Nat → Nat) (all v : Nat) (H : Heap) (hP : va_P D vwCl ([(qg, .inl (cI, 60, .inl (nf (g))))]) H) (h0 : 0 < all) (hall : all ≤ 60) (hv : v ≤ 60) (hg : ∀ i, g i < 2) : Met l yL_there (codeW yL_there cL_there 4 (some .int)) ({ frames := 0, cells := 0, slots := 0, locals := 0 } : Room) (RoP D cI cZ sa H [.ref (qg), .int (nI (all)), .int (nI (v))]) (RoQ (some (.int (oi (thr g all v all 0)))) H) 0 0 RoF := by
  refine Met.ofW (cc := cL_there) (maxL := 4) (ret := (some .int)) (by decide) rfl ?_
  intro p e s m args below meth c s₁ B hml hv
  obtain ⟨rfl, hH, hKK⟩ := hv
  subst hH
  have hx := B.exec
  have hb := B.bytes
  have hr := B.returns
  have htA : ∀ w ∈ WA, w.before _ s = true := fun w h => atoms_spec (ws := (codeW yL_there cL_there 4 (some .int))) B.pre w (List.mem_cons_of_mem _ h)
  have hown : s.vm.findClass RL = some m.cls := findClass_of_methodNamed B.named
  have hlocks := B.notSynchronized
  have hl := lv_entry ([.ref (qg), .int (nI (all)), .int (nI (v))]) (n := 4) (Nat.le_of_ble_eq_true rfl)
  rw [lg_entry_eq]
  generalize (lg_sl ([.ref (qg), .int (nI (all)), .int (nI (v))]) ++ List.replicate (4 - (lg_sl ([.ref (qg), .int (nI (all)), .int (nI (v))])).length) Slot.unset).toArray = ls at hl ⊢
  have hl : lv_has ls 4 [(0, .ref (qg)), (1, .int (nI (all))), (2, .int (nI (v)))] := hl
  refine n_iconst (k := 0) hx hb dL_there_0 (by decide) ?_
  refine lv_istore_n (lv' := [(3, .int (nI (0))), (0, .ref (qg)), (1, .int (nI (all))), (2, .int (nI (v)))]) hx hb dL_there_1 rfl hl (by decide) rfl (fun ls hl => ?_)
  have loop_2 : ∀ (n : Nat) (k : Nat), (k + n = all) → (thr g all v n k = thr g all v all 0) → ∀ (ls : Array Slot), lv_has ls 4 [(0, .ref (qg)), (1, .int (nI (all))), (2, .int (nI (v))), (3, .int (nI (k)))] → W p l e (headSpec (codeW yL_there cL_there 4 (some .int)) ({ frames := 0, cells := 0, slots := 0, locals := 0 } : Room)).room s m ([.ref (qg), .int (nI (all)), .int (nI (v))] : List Value).toArray below meth c s.heap [] 0 0 (MQ below (RoQ (some (.int (oi (thr g all v all 0)))) s.heap) ([.ref (qg), .int (nI (all)), .int (nI (v))] : List Value).toArray s 0 0 RoF) (F0 m 2 ls []) := by
    intro n
    induction n with
    | zero =>
      intro k hin hres ls hl
      refine lv_iload_n hx hb dL_there_2 rfl (lv_at hl 3 rfl) ?_
      refine lv_iload_n hx hb dL_there_3 rfl (lv_at hl 1 rfl) ?_
      refine n_icmp_ge (x := k) (y := all) (tgt := 29) hx hb dL_there_4 (by decide) (by omega) (by omega) (fun c_1 => ?_) (fun c_1 => ?_)
      rotate_left
      · exfalso; omega
      refine lv_iconst (v := oi 0) hx hb dL_there_29 (by decide) ?_
      exact ro_i hx hb hr hlocks (by rw [← hres]; rfl) dL_there_30
    | succ n ih =>
      intro k hin hres ls hl
      refine lv_iload_n hx hb dL_there_2 rfl (lv_at hl 3 rfl) ?_
      refine lv_iload_n hx hb dL_there_3 rfl (lv_at hl 1 rfl) ?_
      refine n_icmp_ge (x := k) (y := all) (tgt := 29) hx hb dL_there_4 (by decide) (by omega) (by omega) (fun c_2 => ?_) (fun c_2 => ?_)
      · exfalso; omega
      refine lv_aload_n hx hb dL_there_7 rfl (lv_at hl 0 rfl) ?_
      refine lv_iload_n hx hb dL_there_8 rfl (lv_at hl 2 rfl) ?_
      refine lv_iload_n hx hb dL_there_9 rfl (lv_at hl 3 rfl) ?_
      refine n_iadd hx hb dL_there_10 ?_
      refine lv_iload_n hx hb dL_there_11 rfl (lv_at hl 1 rfl) ?_
      refine n_irem hx hb (by omega) (by omega) (by omega) dL_there_12 ?_
      refine n_iald (g := g) (cA := cI) (n := 60) (j := (v + k) % all) hx hb hKK.1 hP 0 0 rfl rfl (Nat.lt_of_lt_of_le (Nat.mod_lt _ h0) hall) (Nat.le_of_ble_eq_true rfl) dL_there_13 ?_
      refine n_ifne (x := g ((v + k) % all)) (tgt := 23) hx hb dL_there_14 (by decide) (Nat.lt_trans (hg _) (by decide)) (fun c_3 => ?_) (fun c_3 => ?_)
      · refine lv_iinc (v := nI (k + 1)) (lv' := [(3, .int (nI (k + 1))), (0, .ref (qg)), (1, .int (nI (all))), (2, .int (nI (v)))]) hx hb dL_there_23 hl (k := 3) rfl (n_inc (k) 1 rfl) (by decide) rfl (fun ls hl => ?_)
        refine lv_goto (tgt := 2) hx hb dL_there_26 (by decide) ?_
        exact ih (k + 1) (by omega) (by rw [← hres]; simp only [thr]; rw [decide_eq_false c_3]; rfl) ls (lv_sub hl [1, 2, 3, 0] rfl)
      · refine lv_iload_n hx hb dL_there_17 rfl (lv_at hl 2 rfl) ?_
        refine lv_iload_n hx hb dL_there_18 rfl (lv_at hl 3 rfl) ?_
        refine n_iadd hx hb dL_there_19 ?_
        refine lv_iload_n hx hb dL_there_20 rfl (lv_at hl 1 rfl) ?_
        refine n_irem hx hb (by omega) (by omega) (by omega) dL_there_21 ?_
        exact ro_i hx hb hr hlocks (by rw [← hres]; simp only [thr]; rw [decide_eq_true c_3]; rfl) dL_there_22
  exact loop_2 all 0 (by omega) rfl ls (lv_sub hl [1, 2, 3, 0] rfl)
set_option maxHeartbeats 4000000 in
set_option maxRecDepth 100000 in
theorem c_isFresh (l : Launch) (D : va_G) (cI cZ : ClassId) (sa : Nat → Nat) (q : Nat → Nat) (σ : ST) (K : Nat → ST) (cl bx wd : Nat) (H : Heap) (hP : va_P D vwCl (wX q cI cZ σ (K 0) (K 1)) H) (hcl : cl < 2) (hB : ∀ k i, σ k i < 20000) (hbx : bx < 6) (hwd : wd ≤ 10) (hco : σ 1 0 ≤ 60) (h10 : K cl 0 4 ≤ 10) (hst : K cl 0 2 = σ 7 0) (hwin : K cl 0 4 = min wd (cnt (pw σ (2 ^ bx) 0) 60)) (hat : ∀ i, i < K cl 0 4 → lat σ (ms (bxs σ bx) 60) (nI i) (σ 1 0) 0 0 = K cl 1 i + 1 ∧ K cl 2 i = σ 5 (K cl 1 i) ∧ σ 4 (K cl 1 i) ≠ 0 ∧ K cl 1 i < 60) : Met l yL_isFresh (codeW yL_isFresh cL_isFresh 7 (some .boolean)) ({ frames := 4, cells := 0, slots := 0, locals := 86 } : Room) (RoP D cI cZ sa H [.ref (q 0), .int (nI (cl)), .int (nI (bx)), .int (nI (wd))]) (RoQ (some (.int (b2i (true)))) H) 0 0 RoF := by
  refine Met.ofW (cc := cL_isFresh) (maxL := 7) (ret := (some .boolean)) (by decide) rfl ?_
  intro p e s m args below meth c s₁ B hml hv
  obtain ⟨rfl, hH, hKK⟩ := hv
  subst hH
  have hx := B.exec
  have hb := B.bytes
  have hr := B.returns
  have htA : ∀ w ∈ WA, w.before _ s = true := fun w h => atoms_spec (ws := (codeW yL_isFresh cL_isFresh 7 (some .boolean))) B.pre w (List.mem_cons_of_mem _ h)
  have hown : s.vm.findClass RL = some m.cls := findClass_of_methodNamed B.named
  have hlocks := B.notSynchronized
  have hl := lv_entry ([.ref (q 0), .int (nI (cl)), .int (nI (bx)), .int (nI (wd))]) (n := 7) (Nat.le_of_ble_eq_true rfl)
  rw [lg_entry_eq]
  generalize (lg_sl ([.ref (q 0), .int (nI (cl)), .int (nI (bx)), .int (nI (wd))]) ++ List.replicate (7 - (lg_sl ([.ref (q 0), .int (nI (cl)), .int (nI (bx)), .int (nI (wd))])).length) Slot.unset).toArray = ls at hl ⊢
  have hl : lv_has ls 7 [(0, .ref (q 0)), (1, .int (nI (cl))), (2, .int (nI (bx))), (3, .int (nI (wd)))] := hl
  have hB7 := hB 7 0
  refine lv_aload_n hx hb dL_isFresh_0 rfl (lv_at hl 0 rfl) ?_
  refine lv_iload_n hx hb dL_isFresh_1 rfl (lv_at hl 2 rfl) ?_
  refine lv_iconst (v := oi 0) hx hb dL_isFresh_2 (by decide) ?_
  refine roV1 (v := .int (nI (cnt (pw σ (2 ^ bx) 0) 60))) (As := [.int (nI (bx)), .int (oi (0))]) (rest := []) (n := 2) ⟨hx, hb, hml, hown, htA⟩ (kc_found l D cI cZ sa q σ K bx s.heap hP (by omega)) (cwV 2 htA (gdV wd_347 wd_348 wd_349 wd_1 wd_350) rfl rfl rfl (by decide +kernel) ⟨Nat.le_of_ble_eq_true rfl, Nat.le_of_ble_eq_true rfl⟩) hKK hP 0 rfl rfl rfl hl.1 rfl (Nat.le_of_ble_eq_true rfl) dL_isFresh_3 (Nat.zero_le _) (Nat.zero_le _) ?_
  refine lv_istore (lv' := [(4, .int (nI (cnt (pw σ (2 ^ bx) 0) 60))), (0, .ref (q 0)), (1, .int (nI (cl))), (2, .int (nI (bx))), (3, .int (nI (wd)))]) hx hb dL_isFresh_6 hl (by decide) rfl (fun ls hl => ?_)
  refine lv_aload_n hx hb dL_isFresh_8 rfl (lv_at hl 1 rfl) ?_
  refine lv_iload_n hx hb dL_isFresh_9 rfl (lv_at hl 2 rfl) ?_
  refine roV1 (v := .int (nI (K cl 0 2))) (As := [.int (nI (cl))]) (rest := []) (n := 1) ⟨hx, hb, hml, hown, htA⟩ (kc_stateOf l D cI cZ sa q σ K cl s.heap hP hcl) (cwV 1 htA (gdV wd_472 wd_473 wd_474 wd_1 wd_475) rfl rfl rfl (by decide +kernel) ⟨Nat.le_of_ble_eq_true rfl, Nat.le_of_ble_eq_true rfl⟩) hKK hP 0 rfl rfl rfl hl.1 rfl (Nat.le_of_ble_eq_true rfl) dL_isFresh_10 (Nat.zero_le _) (Nat.zero_le _) ?_
  refine lv_aload_n hx hb dL_isFresh_13 rfl (lv_at hl 1 rfl) ?_
  refine roV1 (v := .int (nI (σ 7 0))) (As := []) (rest := [.int (nI (K cl 0 2))]) (n := 0) ⟨hx, hb, hml, hown, htA⟩ (kc_state l D cI cZ sa q σ K  s.heap hP ) (cwV 0 htA (gdV wd_326 wd_327 wd_328 wd_1 wd_329) rfl rfl rfl (by decide +kernel) ⟨Nat.le_of_ble_eq_true rfl, Nat.le_of_ble_eq_true rfl⟩) hKK hP 0 rfl rfl rfl hl.1 rfl (Nat.le_of_ble_eq_true rfl) dL_isFresh_14 (Nat.zero_le _) (Nat.zero_le _) ?_
  refine n_icmp_ne (x := K cl 0 2) (y := σ 7 0) (tgt := 44) hx hb dL_isFresh_17 (by decide) (by omega) (by omega) (fun c_1 => ?_) (fun c_1 => ?_)
  · exfalso; omega
  refine lv_aload_n hx hb dL_isFresh_20 rfl (lv_at hl 1 rfl) ?_
  refine lv_iload_n hx hb dL_isFresh_21 rfl (lv_at hl 2 rfl) ?_
  refine roV1 (v := .int (nI (K cl 0 4))) (As := [.int (nI (cl))]) (rest := []) (n := 1) ⟨hx, hb, hml, hown, htA⟩ (kc_window l D cI cZ sa q σ K cl s.heap hP hcl) (cwV 1 htA (gdV wd_449 wd_450 wd_451 wd_1 wd_452) rfl rfl rfl (by decide +kernel) ⟨Nat.le_of_ble_eq_true rfl, Nat.le_of_ble_eq_true rfl⟩) hKK hP 0 rfl rfl rfl hl.1 rfl (Nat.le_of_ble_eq_true rfl) dL_isFresh_22 (Nat.zero_le _) (Nat.zero_le _) ?_
  refine lv_iload hx hb dL_isFresh_25 (lv_at hl 0 rfl) ?_
  refine lv_iload_n hx hb dL_isFresh_27 rfl (lv_at hl 4 rfl) ?_
  refine n_icmp_ge (x := cnt (pw σ (2 ^ bx) 0) 60) (y := wd) (tgt := 36) hx hb dL_isFresh_28 (by decide) (Nat.lt_of_le_of_lt (cnt_le _ _) (by decide)) (by omega) (fun c_2 => ?_) (fun c_2 => ?_)
  · refine lv_iload_n hx hb dL_isFresh_36 rfl (lv_at hl 4 rfl) ?_
    refine n_icmp_ne (x := K cl 0 4) (y := wd) (tgt := 44) hx hb dL_isFresh_37 (by decide) (by omega) (by omega) (fun c_3 => ?_) (fun c_3 => ?_)
    · exfalso; omega
    refine n_iconst (k := 1) hx hb dL_isFresh_40 (by decide) ?_
    refine lv_goto (tgt := 45) hx hb dL_isFresh_41 (by decide) ?_
    refine lv_istore (lv' := [(5, .int (nI (1))), (4, .int (nI (cnt (pw σ (2 ^ bx) 0) 60))), (0, .ref (q 0)), (1, .int (nI (cl))), (2, .int (nI (bx))), (3, .int (nI (wd)))]) hx hb dL_isFresh_45 hl (by decide) rfl (fun ls hl => ?_)
    refine n_iconst (k := 0) hx hb dL_isFresh_47 (by decide) ?_
    refine lv_istore (lv' := [(6, .int (nI (0))), (5, .int (nI (1))), (4, .int (nI (cnt (pw σ (2 ^ bx) 0) 60))), (0, .ref (q 0)), (1, .int (nI (cl))), (2, .int (nI (bx))), (3, .int (nI (wd)))]) hx hb dL_isFresh_48 hl (by decide) rfl (fun ls hl => ?_)
    have loop_50 : ∀ (n : Nat) (k : Nat), (k + n = K cl 0 4) → ∀ (ls : Array Slot), lv_has ls 7 [(0, .ref (q 0)), (1, .int (nI (cl))), (2, .int (nI (bx))), (3, .int (nI (wd))), (5, .int (nI (1))), (6, .int (nI (k)))] → W p l e (headSpec (codeW yL_isFresh cL_isFresh 7 (some .boolean)) ({ frames := 4, cells := 0, slots := 0, locals := 86 } : Room)).room s m ([.ref (q 0), .int (nI (cl)), .int (nI (bx)), .int (nI (wd))] : List Value).toArray below meth c s.heap [] 0 0 (MQ below (RoQ (some (.int (b2i (true)))) s.heap) ([.ref (q 0), .int (nI (cl)), .int (nI (bx)), .int (nI (wd))] : List Value).toArray s 0 0 RoF) (F0 m 50 ls []) := by
      intro n
      induction n with
      | zero =>
        intro k hin ls hl
        refine lv_iload hx hb dL_isFresh_50 (lv_at hl 5 rfl) ?_
        refine lv_aload_n hx hb dL_isFresh_52 rfl (lv_at hl 0 rfl) ?_
        refine lv_iload_n hx hb dL_isFresh_53 rfl (lv_at hl 1 rfl) ?_
        refine roV1 (v := .int (nI (K cl 0 4))) (As := [.int (nI (cl))]) (rest := [.int (nI (k))]) (n := 1) ⟨hx, hb, hml, hown, htA⟩ (kc_window l D cI cZ sa q σ K cl s.heap hP hcl) (cwV 1 htA (gdV wd_449 wd_450 wd_451 wd_1 wd_452) rfl rfl rfl (by decide +kernel) ⟨Nat.le_of_ble_eq_true rfl, Nat.le_of_ble_eq_true rfl⟩) hKK hP 0 rfl rfl rfl hl.1 rfl (Nat.le_of_ble_eq_true rfl) dL_isFresh_54 (Nat.zero_le _) (Nat.zero_le _) ?_
        refine n_icmp_ge (x := k) (y := K cl 0 4) (tgt := 117) hx hb dL_isFresh_57 (by decide) (by omega) (by omega) (fun c_4 => ?_) (fun c_4 => ?_)
        rotate_left
        · exfalso; omega
        refine lv_iload hx hb dL_isFresh_117 (lv_at hl 4 rfl) ?_
        exact ro_z (v := true) hx hb hr hlocks (rfl) dL_isFresh_119
      | succ n ih =>
        intro k hin ls hl
        refine lv_iload hx hb dL_isFresh_50 (lv_at hl 5 rfl) ?_
        refine lv_aload_n hx hb dL_isFresh_52 rfl (lv_at hl 0 rfl) ?_
        refine lv_iload_n hx hb dL_isFresh_53 rfl (lv_at hl 1 rfl) ?_
        refine roV1 (v := .int (nI (K cl 0 4))) (As := [.int (nI (cl))]) (rest := [.int (nI (k))]) (n := 1) ⟨hx, hb, hml, hown, htA⟩ (kc_window l D cI cZ sa q σ K cl s.heap hP hcl) (cwV 1 htA (gdV wd_449 wd_450 wd_451 wd_1 wd_452) rfl rfl rfl (by decide +kernel) ⟨Nat.le_of_ble_eq_true rfl, Nat.le_of_ble_eq_true rfl⟩) hKK hP 0 rfl rfl rfl hl.1 rfl (Nat.le_of_ble_eq_true rfl) dL_isFresh_54 (Nat.zero_le _) (Nat.zero_le _) ?_
        refine n_icmp_ge (x := k) (y := K cl 0 4) (tgt := 117) hx hb dL_isFresh_57 (by decide) (by omega) (by omega) (fun c_5 => ?_) (fun c_5 => ?_)
        · exfalso; omega
        refine lv_iload hx hb dL_isFresh_60 (lv_at hl 4 rfl) ?_
        refine b_ifeq (b := true) (tgt := 117) hx hb dL_isFresh_62 (by decide) (fun c_6 => ?_) (fun c_6 => ?_)
        · exact absurd c_6 (by decide)
        refine lv_aload_n hx hb dL_isFresh_65 rfl (lv_at hl 0 rfl) ?_
        refine lv_iload_n hx hb dL_isFresh_66 rfl (lv_at hl 1 rfl) ?_
        refine lv_iload hx hb dL_isFresh_67 (lv_at hl 5 rfl) ?_
        refine roV1 (v := .int (nI (K cl 1 k))) (As := [.int (nI (cl)), .int (nI (k))]) (rest := []) (n := 2) ⟨hx, hb, hml, hown, htA⟩ (kc_windowAt l D cI cZ sa q σ K cl k s.heap hP hcl (by omega) h10) (cwV 2 htA (gdV wd_453 wd_454 wd_455 wd_1 wd_456) rfl rfl rfl (by decide +kernel) ⟨Nat.le_of_ble_eq_true rfl, Nat.le_of_ble_eq_true rfl⟩) hKK hP 0 rfl rfl rfl hl.1 rfl (Nat.le_of_ble_eq_true rfl) dL_isFresh_69 (Nat.zero_le _) (Nat.zero_le _) ?_
        refine lv_aload_n hx hb dL_isFresh_72 rfl (lv_at hl 0 rfl) ?_
        refine lv_iload_n hx hb dL_isFresh_73 rfl (lv_at hl 2 rfl) ?_
        refine lv_iconst (v := oi 0) hx hb dL_isFresh_74 (by decide) ?_
        refine lv_iload hx hb dL_isFresh_75 (lv_at hl 5 rfl) ?_
        refine roV1 (v := .int (nI (K cl 1 k))) (As := [.int (nI (bx)), .int (oi (0)), .int (nI (k))]) (rest := [.int (nI (K cl 1 k))]) (n := 3) ⟨hx, hb, hml, hown, htA⟩ (kc_foundAt l D cI cZ sa q σ K bx k (K cl 1 k) s.heap hP hB (by omega) hco (hat k (by omega)).1) (cwV 3 htA (gdV wd_476 wd_477 wd_478 wd_1 wd_479) rfl rfl rfl (by decide +kernel) ⟨Nat.le_of_ble_eq_true rfl, Nat.le_of_ble_eq_true rfl⟩) hKK hP 0 rfl rfl rfl hl.1 rfl (Nat.le_of_ble_eq_true rfl) dL_isFresh_77 (Nat.zero_le _) (Nat.zero_le _) ?_
        refine n_icmp_ne (x := K cl 1 k) (y := K cl 1 k) (tgt := 108) hx hb dL_isFresh_80 (by decide) (Nat.lt_trans (hat k (by omega)).2.2.2 (by decide)) (Nat.lt_trans (hat k (by omega)).2.2.2 (by decide)) (fun c_7 => ?_) (fun c_7 => ?_)
        · exact absurd rfl c_7
        refine lv_aload_n hx hb dL_isFresh_83 rfl (lv_at hl 0 rfl) ?_
        refine lv_iload_n hx hb dL_isFresh_84 rfl (lv_at hl 1 rfl) ?_
        refine lv_iload hx hb dL_isFresh_85 (lv_at hl 5 rfl) ?_
        refine roV1 (v := .int (nI (K cl 2 k))) (As := [.int (nI (cl)), .int (nI (k))]) (rest := []) (n := 2) ⟨hx, hb, hml, hown, htA⟩ (kc_known l D cI cZ sa q σ K cl k s.heap hP hcl (by omega) h10) (cwV 2 htA (gdV wd_458 wd_459 wd_460 wd_1 wd_461) rfl rfl rfl (by decide +kernel) ⟨Nat.le_of_ble_eq_true rfl, Nat.le_of_ble_eq_true rfl⟩) hKK hP 0 rfl rfl rfl hl.1 rfl (Nat.le_of_ble_eq_true rfl) dL_isFresh_87 (Nat.zero_le _) (Nat.zero_le _) ?_
        refine lv_aload_n hx hb dL_isFresh_90 rfl (lv_at hl 0 rfl) ?_
        refine lv_aload_n hx hb dL_isFresh_91 rfl (lv_at hl 0 rfl) ?_
        refine lv_iload_n hx hb dL_isFresh_92 rfl (lv_at hl 1 rfl) ?_
        refine lv_iload hx hb dL_isFresh_93 (lv_at hl 5 rfl) ?_
        refine roV1 (v := .int (nI (K cl 1 k))) (As := [.int (nI (cl)), .int (nI (k))]) (rest := [.ref (q 0), .int (nI (K cl 2 k))]) (n := 2) ⟨hx, hb, hml, hown, htA⟩ (kc_windowAt l D cI cZ sa q σ K cl k s.heap hP hcl (by omega) h10) (cwV 2 htA (gdV wd_453 wd_454 wd_455 wd_1 wd_456) rfl rfl rfl (by decide +kernel) ⟨Nat.le_of_ble_eq_true rfl, Nat.le_of_ble_eq_true rfl⟩) hKK hP 0 rfl rfl rfl hl.1 rfl (Nat.le_of_ble_eq_true rfl) dL_isFresh_95 (Nat.zero_le _) (Nat.zero_le _) ?_
        refine roV1 (v := .int (nI (σ 5 (K cl 1 k)))) (As := [.int (nI (K cl 1 k))]) (rest := [.int (nI (K cl 2 k))]) (n := 1) ⟨hx, hb, hml, hown, htA⟩ (kc_keywords l D cI cZ sa q σ K (K cl 1 k) s.heap hP hB (hat k (by omega)).2.2.2 (hat k (by omega)).2.2.1) (cwV 1 htA (gdV wd_481 wd_482 wd_483 wd_1 wd_484) rfl rfl rfl (by decide +kernel) ⟨Nat.le_of_ble_eq_true rfl, Nat.le_of_ble_eq_true rfl⟩) hKK hP 0 rfl rfl rfl hl.1 rfl (Nat.le_of_ble_eq_true rfl) dL_isFresh_98 (Nat.zero_le _) (Nat.zero_le _) ?_
        refine n_icmp_ne (x := K cl 2 k) (y := σ 5 (K cl 1 k)) (tgt := 108) hx hb dL_isFresh_101 (by decide) (by rw [(hat k (by omega)).2.1]; exact Nat.lt_trans (hB 5 _) (by decide)) (Nat.lt_trans (hB 5 _) (by decide)) (fun c_8 => ?_) (fun c_8 => ?_)
        · exact absurd (hat k (by omega)).2.1 c_8
        refine n_iconst (k := 1) hx hb dL_isFresh_104 (by decide) ?_
        refine lv_goto (tgt := 109) hx hb dL_isFresh_105 (by decide) ?_
        refine lv_istore (lv' := [(5, .int (nI (1))), (0, .ref (q 0)), (1, .int (nI (cl))), (2, .int (nI (bx))), (3, .int (nI (wd))), (6, .int (nI (k)))]) hx hb dL_isFresh_109 hl (by decide) rfl (fun ls hl => ?_)
        refine lv_iinc (v := nI (k + 1)) (lv' := [(6, .int (nI (k + 1))), (5, .int (nI (1))), (0, .ref (q 0)), (1, .int (nI (cl))), (2, .int (nI (bx))), (3, .int (nI (wd)))]) hx hb dL_isFresh_111 hl (k := 5) rfl (n_inc (k) 1 rfl) (by decide) rfl (fun ls hl => ?_)
        refine lv_goto (tgt := 50) hx hb dL_isFresh_114 (by decide) ?_
        exact ih (k + 1) (by omega) ls (lv_sub hl [2, 3, 4, 5, 1, 0] rfl)
    exact loop_50 (K cl 0 4) 0 (by omega) ls (lv_sub hl [3, 4, 5, 6, 1, 0] rfl)
  · refine lv_iload hx hb dL_isFresh_31 (lv_at hl 0 rfl) ?_
    refine lv_goto (tgt := 37) hx hb dL_isFresh_33 (by decide) ?_
    refine n_icmp_ne (x := K cl 0 4) (y := cnt (pw σ (2 ^ bx) 0) 60) (tgt := 44) hx hb dL_isFresh_37 (by decide) (by omega) (Nat.lt_of_le_of_lt (cnt_le _ _) (by decide)) (fun c_9 => ?_) (fun c_9 => ?_)
    · exfalso; omega
    refine n_iconst (k := 1) hx hb dL_isFresh_40 (by decide) ?_
    refine lv_goto (tgt := 45) hx hb dL_isFresh_41 (by decide) ?_
    refine lv_istore (lv' := [(5, .int (nI (1))), (4, .int (nI (cnt (pw σ (2 ^ bx) 0) 60))), (0, .ref (q 0)), (1, .int (nI (cl))), (2, .int (nI (bx))), (3, .int (nI (wd)))]) hx hb dL_isFresh_45 hl (by decide) rfl (fun ls hl => ?_)
    refine n_iconst (k := 0) hx hb dL_isFresh_47 (by decide) ?_
    refine lv_istore (lv' := [(6, .int (nI (0))), (5, .int (nI (1))), (4, .int (nI (cnt (pw σ (2 ^ bx) 0) 60))), (0, .ref (q 0)), (1, .int (nI (cl))), (2, .int (nI (bx))), (3, .int (nI (wd)))]) hx hb dL_isFresh_48 hl (by decide) rfl (fun ls hl => ?_)
    have loop_50 : ∀ (n : Nat) (k : Nat), (k + n = K cl 0 4) → ∀ (ls : Array Slot), lv_has ls 7 [(0, .ref (q 0)), (1, .int (nI (cl))), (2, .int (nI (bx))), (3, .int (nI (wd))), (5, .int (nI (1))), (6, .int (nI (k)))] → W p l e (headSpec (codeW yL_isFresh cL_isFresh 7 (some .boolean)) ({ frames := 4, cells := 0, slots := 0, locals := 86 } : Room)).room s m ([.ref (q 0), .int (nI (cl)), .int (nI (bx)), .int (nI (wd))] : List Value).toArray below meth c s.heap [] 0 0 (MQ below (RoQ (some (.int (b2i (true)))) s.heap) ([.ref (q 0), .int (nI (cl)), .int (nI (bx)), .int (nI (wd))] : List Value).toArray s 0 0 RoF) (F0 m 50 ls []) := by
      intro n
      induction n with
      | zero =>
        intro k hin ls hl
        refine lv_iload hx hb dL_isFresh_50 (lv_at hl 5 rfl) ?_
        refine lv_aload_n hx hb dL_isFresh_52 rfl (lv_at hl 0 rfl) ?_
        refine lv_iload_n hx hb dL_isFresh_53 rfl (lv_at hl 1 rfl) ?_
        refine roV1 (v := .int (nI (K cl 0 4))) (As := [.int (nI (cl))]) (rest := [.int (nI (k))]) (n := 1) ⟨hx, hb, hml, hown, htA⟩ (kc_window l D cI cZ sa q σ K cl s.heap hP hcl) (cwV 1 htA (gdV wd_449 wd_450 wd_451 wd_1 wd_452) rfl rfl rfl (by decide +kernel) ⟨Nat.le_of_ble_eq_true rfl, Nat.le_of_ble_eq_true rfl⟩) hKK hP 0 rfl rfl rfl hl.1 rfl (Nat.le_of_ble_eq_true rfl) dL_isFresh_54 (Nat.zero_le _) (Nat.zero_le _) ?_
        refine n_icmp_ge (x := k) (y := K cl 0 4) (tgt := 117) hx hb dL_isFresh_57 (by decide) (by omega) (by omega) (fun c_10 => ?_) (fun c_10 => ?_)
        rotate_left
        · exfalso; omega
        refine lv_iload hx hb dL_isFresh_117 (lv_at hl 4 rfl) ?_
        exact ro_z (v := true) hx hb hr hlocks (rfl) dL_isFresh_119
      | succ n ih =>
        intro k hin ls hl
        refine lv_iload hx hb dL_isFresh_50 (lv_at hl 5 rfl) ?_
        refine lv_aload_n hx hb dL_isFresh_52 rfl (lv_at hl 0 rfl) ?_
        refine lv_iload_n hx hb dL_isFresh_53 rfl (lv_at hl 1 rfl) ?_
        refine roV1 (v := .int (nI (K cl 0 4))) (As := [.int (nI (cl))]) (rest := [.int (nI (k))]) (n := 1) ⟨hx, hb, hml, hown, htA⟩ (kc_window l D cI cZ sa q σ K cl s.heap hP hcl) (cwV 1 htA (gdV wd_449 wd_450 wd_451 wd_1 wd_452) rfl rfl rfl (by decide +kernel) ⟨Nat.le_of_ble_eq_true rfl, Nat.le_of_ble_eq_true rfl⟩) hKK hP 0 rfl rfl rfl hl.1 rfl (Nat.le_of_ble_eq_true rfl) dL_isFresh_54 (Nat.zero_le _) (Nat.zero_le _) ?_
        refine n_icmp_ge (x := k) (y := K cl 0 4) (tgt := 117) hx hb dL_isFresh_57 (by decide) (by omega) (by omega) (fun c_11 => ?_) (fun c_11 => ?_)
        · exfalso; omega
        refine lv_iload hx hb dL_isFresh_60 (lv_at hl 4 rfl) ?_
        refine b_ifeq (b := true) (tgt := 117) hx hb dL_isFresh_62 (by decide) (fun c_12 => ?_) (fun c_12 => ?_)
        · exact absurd c_12 (by decide)
        refine lv_aload_n hx hb dL_isFresh_65 rfl (lv_at hl 0 rfl) ?_
        refine lv_iload_n hx hb dL_isFresh_66 rfl (lv_at hl 1 rfl) ?_
        refine lv_iload hx hb dL_isFresh_67 (lv_at hl 5 rfl) ?_
        refine roV1 (v := .int (nI (K cl 1 k))) (As := [.int (nI (cl)), .int (nI (k))]) (rest := []) (n := 2) ⟨hx, hb, hml, hown, htA⟩ (kc_windowAt l D cI cZ sa q σ K cl k s.heap hP hcl (by omega) h10) (cwV 2 htA (gdV wd_453 wd_454 wd_455 wd_1 wd_456) rfl rfl rfl (by decide +kernel) ⟨Nat.le_of_ble_eq_true rfl, Nat.le_of_ble_eq_true rfl⟩) hKK hP 0 rfl rfl rfl hl.1 rfl (Nat.le_of_ble_eq_true rfl) dL_isFresh_69 (Nat.zero_le _) (Nat.zero_le _) ?_
        refine lv_aload_n hx hb dL_isFresh_72 rfl (lv_at hl 0 rfl) ?_
        refine lv_iload_n hx hb dL_isFresh_73 rfl (lv_at hl 2 rfl) ?_
        refine lv_iconst (v := oi 0) hx hb dL_isFresh_74 (by decide) ?_
        refine lv_iload hx hb dL_isFresh_75 (lv_at hl 5 rfl) ?_
        refine roV1 (v := .int (nI (K cl 1 k))) (As := [.int (nI (bx)), .int (oi (0)), .int (nI (k))]) (rest := [.int (nI (K cl 1 k))]) (n := 3) ⟨hx, hb, hml, hown, htA⟩ (kc_foundAt l D cI cZ sa q σ K bx k (K cl 1 k) s.heap hP hB (by omega) hco (hat k (by omega)).1) (cwV 3 htA (gdV wd_476 wd_477 wd_478 wd_1 wd_479) rfl rfl rfl (by decide +kernel) ⟨Nat.le_of_ble_eq_true rfl, Nat.le_of_ble_eq_true rfl⟩) hKK hP 0 rfl rfl rfl hl.1 rfl (Nat.le_of_ble_eq_true rfl) dL_isFresh_77 (Nat.zero_le _) (Nat.zero_le _) ?_
        refine n_icmp_ne (x := K cl 1 k) (y := K cl 1 k) (tgt := 108) hx hb dL_isFresh_80 (by decide) (Nat.lt_trans (hat k (by omega)).2.2.2 (by decide)) (Nat.lt_trans (hat k (by omega)).2.2.2 (by decide)) (fun c_13 => ?_) (fun c_13 => ?_)
        · exact absurd rfl c_13
        refine lv_aload_n hx hb dL_isFresh_83 rfl (lv_at hl 0 rfl) ?_
        refine lv_iload_n hx hb dL_isFresh_84 rfl (lv_at hl 1 rfl) ?_
        refine lv_iload hx hb dL_isFresh_85 (lv_at hl 5 rfl) ?_
        refine roV1 (v := .int (nI (K cl 2 k))) (As := [.int (nI (cl)), .int (nI (k))]) (rest := []) (n := 2) ⟨hx, hb, hml, hown, htA⟩ (kc_known l D cI cZ sa q σ K cl k s.heap hP hcl (by omega) h10) (cwV 2 htA (gdV wd_458 wd_459 wd_460 wd_1 wd_461) rfl rfl rfl (by decide +kernel) ⟨Nat.le_of_ble_eq_true rfl, Nat.le_of_ble_eq_true rfl⟩) hKK hP 0 rfl rfl rfl hl.1 rfl (Nat.le_of_ble_eq_true rfl) dL_isFresh_87 (Nat.zero_le _) (Nat.zero_le _) ?_
        refine lv_aload_n hx hb dL_isFresh_90 rfl (lv_at hl 0 rfl) ?_
        refine lv_aload_n hx hb dL_isFresh_91 rfl (lv_at hl 0 rfl) ?_
        refine lv_iload_n hx hb dL_isFresh_92 rfl (lv_at hl 1 rfl) ?_
        refine lv_iload hx hb dL_isFresh_93 (lv_at hl 5 rfl) ?_
        refine roV1 (v := .int (nI (K cl 1 k))) (As := [.int (nI (cl)), .int (nI (k))]) (rest := [.ref (q 0), .int (nI (K cl 2 k))]) (n := 2) ⟨hx, hb, hml, hown, htA⟩ (kc_windowAt l D cI cZ sa q σ K cl k s.heap hP hcl (by omega) h10) (cwV 2 htA (gdV wd_453 wd_454 wd_455 wd_1 wd_456) rfl rfl rfl (by decide +kernel) ⟨Nat.le_of_ble_eq_true rfl, Nat.le_of_ble_eq_true rfl⟩) hKK hP 0 rfl rfl rfl hl.1 rfl (Nat.le_of_ble_eq_true rfl) dL_isFresh_95 (Nat.zero_le _) (Nat.zero_le _) ?_
        refine roV1 (v := .int (nI (σ 5 (K cl 1 k)))) (As := [.int (nI (K cl 1 k))]) (rest := [.int (nI (K cl 2 k))]) (n := 1) ⟨hx, hb, hml, hown, htA⟩ (kc_keywords l D cI cZ sa q σ K (K cl 1 k) s.heap hP hB (hat k (by omega)).2.2.2 (hat k (by omega)).2.2.1) (cwV 1 htA (gdV wd_481 wd_482 wd_483 wd_1 wd_484) rfl rfl rfl (by decide +kernel) ⟨Nat.le_of_ble_eq_true rfl, Nat.le_of_ble_eq_true rfl⟩) hKK hP 0 rfl rfl rfl hl.1 rfl (Nat.le_of_ble_eq_true rfl) dL_isFresh_98 (Nat.zero_le _) (Nat.zero_le _) ?_
        refine n_icmp_ne (x := K cl 2 k) (y := σ 5 (K cl 1 k)) (tgt := 108) hx hb dL_isFresh_101 (by decide) (by rw [(hat k (by omega)).2.1]; exact Nat.lt_trans (hB 5 _) (by decide)) (Nat.lt_trans (hB 5 _) (by decide)) (fun c_14 => ?_) (fun c_14 => ?_)
        · exact absurd (hat k (by omega)).2.1 c_14
        refine n_iconst (k := 1) hx hb dL_isFresh_104 (by decide) ?_
        refine lv_goto (tgt := 109) hx hb dL_isFresh_105 (by decide) ?_
        refine lv_istore (lv' := [(5, .int (nI (1))), (0, .ref (q 0)), (1, .int (nI (cl))), (2, .int (nI (bx))), (3, .int (nI (wd))), (6, .int (nI (k)))]) hx hb dL_isFresh_109 hl (by decide) rfl (fun ls hl => ?_)
        refine lv_iinc (v := nI (k + 1)) (lv' := [(6, .int (nI (k + 1))), (5, .int (nI (1))), (0, .ref (q 0)), (1, .int (nI (cl))), (2, .int (nI (bx))), (3, .int (nI (wd)))]) hx hb dL_isFresh_111 hl (k := 5) rfl (n_inc (k) 1 rfl) (by decide) rfl (fun ls hl => ?_)
        refine lv_goto (tgt := 50) hx hb dL_isFresh_114 (by decide) ?_
        exact ih (k + 1) (by omega) ls (lv_sub hl [2, 3, 4, 5, 1, 0] rfl)
    exact loop_50 (K cl 0 4) 0 (by omega) ls (lv_sub hl [3, 4, 5, 6, 1, 0] rfl)
set_option maxHeartbeats 4000000 in
set_option maxRecDepth 100000 in
theorem c_isTold (l : Launch) (D : va_G) (cI cZ : ClassId) (sa : Nat → Nat) (q : Nat → Nat) (σ : ST) (K : Nat → ST) (st M bx F : Nat) (H : Heap) (hP : va_P D vwCl (wX q cI cZ σ (K 0) (K 1)) H) (hB : ∀ k i, σ k i < 20000) (h8 : ∀ i, σ 8 i < 60) (hbx : bx < 6) (hst : st ≤ σ 7 0) (hSN : SN σ st M bx F) : Met l yL_isTold (codeW yL_isTold cL_isTold 9 (some .boolean)) ({ frames := 6, cells := 0, slots := 0, locals := 144 } : Room) (RoP D cI cZ sa H [.ref (q 0), .int (nI (st)), .int (nI (M)), .int (nI (bx)), .int (nI (F))]) (RoQ (some (.int (b2i (true)))) H) 0 0 RoF := by
  refine Met.ofW (cc := cL_isTold) (maxL := 9) (ret := (some .boolean)) (by decide) rfl ?_
  intro p e s m args below meth c s₁ B hml hv
  obtain ⟨rfl, hH, hKK⟩ := hv
  subst hH
  have hx := B.exec
  have hb := B.bytes
  have hr := B.returns
  have htA : ∀ w ∈ WA, w.before _ s = true := fun w h => atoms_spec (ws := (codeW yL_isTold cL_isTold 9 (some .boolean))) B.pre w (List.mem_cons_of_mem _ h)
  have hown : s.vm.findClass RL = some m.cls := findClass_of_methodNamed B.named
  have hlocks := B.notSynchronized
  have hl := lv_entry ([.ref (q 0), .int (nI (st)), .int (nI (M)), .int (nI (bx)), .int (nI (F))]) (n := 9) (Nat.le_of_ble_eq_true rfl)
  rw [lg_entry_eq]
  generalize (lg_sl ([.ref (q 0), .int (nI (st)), .int (nI (M)), .int (nI (bx)), .int (nI (F))]) ++ List.replicate (9 - (lg_sl ([.ref (q 0), .int (nI (st)), .int (nI (M)), .int (nI (bx)), .int (nI (F))])).length) Slot.unset).toArray = ls at hl ⊢
  have hl : lv_has ls 9 [(0, .ref (q 0)), (1, .int (nI (st))), (2, .int (nI (M))), (3, .int (nI (bx))), (4, .int (nI (F)))] := hl
  have hB7 := hB 7 0
  refine lv_aload_n hx hb dL_isTold_0 rfl (lv_at hl 0 rfl) ?_
  refine lv_iload_n hx hb dL_isTold_1 rfl (lv_at hl 1 rfl) ?_
  refine roV1 (v := .int (b2i (decide (σ 7 0 - st ≤ 40)))) (As := [.int (nI (st))]) (rest := []) (n := 1) ⟨hx, hb, hml, hown, htA⟩ (kc_canTell l D cI cZ sa q σ K st s.heap hP hB hst) (cwV 1 htA (gdV wd_488 wd_489 wd_490 wd_1 wd_491) rfl rfl rfl (by decide +kernel) ⟨Nat.le_of_ble_eq_true rfl, Nat.le_of_ble_eq_true rfl⟩) hKK hP 0 rfl rfl rfl hl.1 rfl (Nat.le_of_ble_eq_true rfl) dL_isTold_2 (Nat.zero_le _) (Nat.zero_le _) ?_
  refine b_ifne (b := decide (σ 7 0 - st ≤ 40)) (tgt := 25) hx hb dL_isTold_5 (by decide) (fun c_1 => ?_) (fun c_1 => ?_)
  · have h40 := of_decide_eq_true c_1
    obtain ⟨hb1, hb2⟩ := SN_bal hSN h40
    have hc1 := cnt_le (pw σ 63 0) 60
    have hc2 := cnt_le (pw σ (2 ^ bx) 0) 60
    refine lv_aload_n hx hb dL_isTold_25 rfl (lv_at hl 0 rfl) ?_
    refine roV1 (v := .int (nI (σ 7 0))) (As := []) (rest := []) (n := 0) ⟨hx, hb, hml, hown, htA⟩ (kc_state l D cI cZ sa q σ K  s.heap hP ) (cwV 0 htA (gdV wd_326 wd_327 wd_328 wd_1 wd_329) rfl rfl rfl (by decide +kernel) ⟨Nat.le_of_ble_eq_true rfl, Nat.le_of_ble_eq_true rfl⟩) hKK hP 0 rfl rfl rfl hl.1 rfl (Nat.le_of_ble_eq_true rfl) dL_isTold_26 (Nat.zero_le _) (Nat.zero_le _) ?_
    refine lv_iload_n hx hb dL_isTold_29 rfl (lv_at hl 1 rfl) ?_
    refine n_isub hx hb (by omega) dL_isTold_30 ?_
    refine lv_bipush (v := nI 40) hx hb dL_isTold_31 (by decide) ?_
    refine n_icmp_gt (x := (σ 7 0) - st) (y := 40) (tgt := 40) hx hb dL_isTold_33 (by decide) (by omega) (by decide) (fun c_2 => ?_) (fun c_2 => ?_)
    · exfalso; omega
    refine n_iconst (k := 1) hx hb dL_isTold_36 (by decide) ?_
    refine lv_goto (tgt := 41) hx hb dL_isTold_37 (by decide) ?_
    refine lv_istore (lv' := [(5, .int (nI (1))), (0, .ref (q 0)), (1, .int (nI (st))), (2, .int (nI (M))), (3, .int (nI (bx))), (4, .int (nI (F)))]) hx hb dL_isTold_41 hl (by decide) rfl (fun ls hl => ?_)
    refine lv_iload hx hb dL_isTold_43 (lv_at hl 0 rfl) ?_
    refine b_ifeq (b := true) (tgt := 74) hx hb dL_isTold_45 (by decide) (fun c_3 => ?_) (fun c_3 => ?_)
    · exact absurd c_3 (by decide)
    refine lv_aload_n hx hb dL_isTold_48 rfl (lv_at hl 1 rfl) ?_
    refine roV1 (v := .int (nI (cnt (pw σ 63 0) 60))) (As := []) (rest := []) (n := 0) ⟨hx, hb, hml, hown, htA⟩ (kc_mails l D cI cZ sa q σ K  s.heap hP ) (cwV 0 htA (gdV wd_330 wd_331 wd_332 wd_1 wd_333) rfl rfl rfl (by decide +kernel) ⟨Nat.le_of_ble_eq_true rfl, Nat.le_of_ble_eq_true rfl⟩) hKK hP 0 rfl rfl rfl hl.1 rfl (Nat.le_of_ble_eq_true rfl) dL_isTold_49 (Nat.zero_le _) (Nat.zero_le _) ?_
    refine lv_iload_n hx hb dL_isTold_52 rfl (lv_at hl 3 rfl) ?_
    refine lv_aload_n hx hb dL_isTold_53 rfl (lv_at hl 1 rfl) ?_
    refine lv_iload_n hx hb dL_isTold_54 rfl (lv_at hl 2 rfl) ?_
    refine n_iconst (k := 0) hx hb dL_isTold_55 (by decide) ?_
    refine roV1 (v := .int (nI (crn σ 63 0 st))) (As := [.int (nI (st)), .int (nI (0))]) (rest := [.int (nI (M)), .int (nI (cnt (pw σ 63 0) 60))]) (n := 2) ⟨hx, hb, hml, hown, htA⟩ (kc_changed0 l D cI cZ sa q σ K st s.heap hP hB h8 hst h40) (cwV 2 htA (gdV wd_497 wd_498 wd_499 wd_1 wd_500) rfl rfl rfl (by decide +kernel) ⟨Nat.le_of_ble_eq_true rfl, Nat.le_of_ble_eq_true rfl⟩) hKK hP 0 rfl rfl rfl hl.1 rfl (Nat.le_of_ble_eq_true rfl) dL_isTold_56 (Nat.zero_le _) (Nat.zero_le _) ?_
    refine n_iadd hx hb dL_isTold_59 ?_
    refine lv_aload_n hx hb dL_isTold_60 rfl (lv_at hl 1 rfl) ?_
    refine lv_iload_n hx hb dL_isTold_61 rfl (lv_at hl 2 rfl) ?_
    refine n_iconst (k := 2) hx hb dL_isTold_62 (by decide) ?_
    refine roV1 (v := .int (nI (dsn σ 63 0 st))) (As := [.int (nI (st)), .int (nI (2))]) (rest := [.int (nI (M + (crn σ 63 0 st))), .int (nI (cnt (pw σ 63 0) 60))]) (n := 2) ⟨hx, hb, hml, hown, htA⟩ (kc_changed2 l D cI cZ sa q σ K st s.heap hP hB h8 hst h40) (cwV 2 htA (gdV wd_497 wd_498 wd_499 wd_1 wd_500) rfl rfl rfl (by decide +kernel) ⟨Nat.le_of_ble_eq_true rfl, Nat.le_of_ble_eq_true rfl⟩) hKK hP 0 rfl rfl rfl hl.1 rfl (Nat.le_of_ble_eq_true rfl) dL_isTold_63 (Nat.zero_le _) (Nat.zero_le _) ?_
    refine n_isub hx hb (by omega) dL_isTold_66 ?_
    refine n_icmp_ne (x := cnt (pw σ 63 0) 60) (y := (M + (crn σ 63 0 st)) - (dsn σ 63 0 st)) (tgt := 74) hx hb dL_isTold_67 (by decide) (by omega) (by omega) (fun c_4 => ?_) (fun c_4 => ?_)
    · exfalso; omega
    refine n_iconst (k := 1) hx hb dL_isTold_70 (by decide) ?_
    refine lv_goto (tgt := 75) hx hb dL_isTold_71 (by decide) ?_
    refine lv_istore (lv' := [(5, .int (nI (1))), (0, .ref (q 0)), (1, .int (nI (st))), (2, .int (nI (M))), (3, .int (nI (bx))), (4, .int (nI (F)))]) hx hb dL_isTold_75 hl (by decide) rfl (fun ls hl => ?_)
    refine lv_iload hx hb dL_isTold_77 (lv_at hl 0 rfl) ?_
    refine b_ifeq (b := true) (tgt := 113) hx hb dL_isTold_79 (by decide) (fun c_5 => ?_) (fun c_5 => ?_)
    · exact absurd c_5 (by decide)
    refine lv_aload_n hx hb dL_isTold_82 rfl (lv_at hl 1 rfl) ?_
    refine lv_iload_n hx hb dL_isTold_83 rfl (lv_at hl 4 rfl) ?_
    refine lv_iconst (v := oi 0) hx hb dL_isTold_84 (by decide) ?_
    refine roV1 (v := .int (nI (cnt (pw σ (2 ^ bx) 0) 60))) (As := [.int (nI (bx)), .int (oi (0))]) (rest := []) (n := 2) ⟨hx, hb, hml, hown, htA⟩ (kc_found l D cI cZ sa q σ K bx s.heap hP (by omega)) (cwV 2 htA (gdV wd_347 wd_348 wd_349 wd_1 wd_350) rfl rfl rfl (by decide +kernel) ⟨Nat.le_of_ble_eq_true rfl, Nat.le_of_ble_eq_true rfl⟩) hKK hP 0 rfl rfl rfl hl.1 rfl (Nat.le_of_ble_eq_true rfl) dL_isTold_85 (Nat.zero_le _) (Nat.zero_le _) ?_
    refine lv_iload hx hb dL_isTold_88 (lv_at hl 5 rfl) ?_
    refine lv_aload_n hx hb dL_isTold_90 rfl (lv_at hl 1 rfl) ?_
    refine lv_iload_n hx hb dL_isTold_91 rfl (lv_at hl 2 rfl) ?_
    refine lv_iload_n hx hb dL_isTold_92 rfl (lv_at hl 4 rfl) ?_
    refine lv_iconst (v := oi 0) hx hb dL_isTold_93 (by decide) ?_
    refine roV1 (v := .int (nI (crn σ (2 ^ bx) 0 st))) (As := [.int (nI (st)), .int (nI (bx)), .int (oi (0))]) (rest := [.int (nI (F)), .int (nI (cnt (pw σ (2 ^ bx) 0) 60))]) (n := 3) ⟨hx, hb, hml, hown, htA⟩ (kc_added l D cI cZ sa q σ K st bx s.heap hP hB h8 hst hbx h40) (cwV 3 htA (gdV wd_530 wd_531 wd_532 wd_1 wd_533) rfl rfl rfl (by decide +kernel) ⟨Nat.le_of_ble_eq_true rfl, Nat.le_of_ble_eq_true rfl⟩) hKK hP 0 rfl rfl rfl hl.1 rfl (Nat.le_of_ble_eq_true rfl) dL_isTold_94 (Nat.zero_le _) (Nat.zero_le _) ?_
    refine n_iadd hx hb dL_isTold_97 ?_
    refine lv_aload_n hx hb dL_isTold_98 rfl (lv_at hl 1 rfl) ?_
    refine lv_iload_n hx hb dL_isTold_99 rfl (lv_at hl 2 rfl) ?_
    refine lv_iload_n hx hb dL_isTold_100 rfl (lv_at hl 4 rfl) ?_
    refine lv_iconst (v := oi 0) hx hb dL_isTold_101 (by decide) ?_
    refine roV1 (v := .int (nI (dsn σ (2 ^ bx) 0 st))) (As := [.int (nI (st)), .int (nI (bx)), .int (oi (0))]) (rest := [.int (nI (F + (crn σ (2 ^ bx) 0 st))), .int (nI (cnt (pw σ (2 ^ bx) 0) 60))]) (n := 3) ⟨hx, hb, hml, hown, htA⟩ (kc_removed l D cI cZ sa q σ K st bx s.heap hP hB h8 hst hbx h40) (cwV 3 htA (gdV wd_536 wd_537 wd_538 wd_1 wd_539) rfl rfl rfl (by decide +kernel) ⟨Nat.le_of_ble_eq_true rfl, Nat.le_of_ble_eq_true rfl⟩) hKK hP 0 rfl rfl rfl hl.1 rfl (Nat.le_of_ble_eq_true rfl) dL_isTold_102 (Nat.zero_le _) (Nat.zero_le _) ?_
    refine n_isub hx hb (by omega) dL_isTold_105 ?_
    refine n_icmp_ne (x := cnt (pw σ (2 ^ bx) 0) 60) (y := (F + (crn σ (2 ^ bx) 0 st)) - (dsn σ (2 ^ bx) 0 st)) (tgt := 113) hx hb dL_isTold_106 (by decide) (by omega) (by omega) (fun c_6 => ?_) (fun c_6 => ?_)
    · exfalso; omega
    refine n_iconst (k := 1) hx hb dL_isTold_109 (by decide) ?_
    refine lv_goto (tgt := 114) hx hb dL_isTold_110 (by decide) ?_
    refine lv_istore (lv' := [(5, .int (nI (1))), (0, .ref (q 0)), (1, .int (nI (st))), (2, .int (nI (M))), (3, .int (nI (bx))), (4, .int (nI (F)))]) hx hb dL_isTold_114 hl (by decide) rfl (fun ls hl => ?_)
    refine lv_iload_n hx hb dL_isTold_116 rfl (lv_at hl 2 rfl) ?_
    refine lv_istore (lv' := [(6, .int (nI (st))), (5, .int (nI (1))), (0, .ref (q 0)), (1, .int (nI (st))), (2, .int (nI (M))), (3, .int (nI (bx))), (4, .int (nI (F)))]) hx hb dL_isTold_117 hl (by decide) rfl (fun ls hl => ?_)
    refine n_iconst (k := 0) hx hb dL_isTold_119 (by decide) ?_
    refine lv_istore (lv' := [(7, .int (nI (0))), (6, .int (nI (st))), (5, .int (nI (1))), (0, .ref (q 0)), (1, .int (nI (st))), (2, .int (nI (M))), (3, .int (nI (bx))), (4, .int (nI (F)))]) hx hb dL_isTold_120 hl (by decide) rfl (fun ls hl => ?_)
    have loop_122 : ∀ (n : Nat) (a9 k : Nat), (st + k ≤ a9) → (a9 ≤ σ 7 0) → (σ 7 0 ≤ a9 + n) → ∀ (ls : Array Slot), lv_has ls 9 [(0, .ref (q 0)), (5, .int (nI (1))), (6, .int (nI (a9))), (7, .int (nI (k)))] → W p l e (headSpec (codeW yL_isTold cL_isTold 9 (some .boolean)) ({ frames := 6, cells := 0, slots := 0, locals := 144 } : Room)).room s m ([.ref (q 0), .int (nI (st)), .int (nI (M)), .int (nI (bx)), .int (nI (F))] : List Value).toArray below meth c s.heap [] 0 0 (MQ below (RoQ (some (.int (b2i (true)))) s.heap) ([.ref (q 0), .int (nI (st)), .int (nI (M)), .int (nI (bx)), .int (nI (F))] : List Value).toArray s 0 0 RoF) (F0 m 122 ls []) := by
      intro n
      induction n with
      | zero =>
        intro a9 k h1 h2 h3 ls hl
        refine lv_iload hx hb dL_isTold_122 (lv_at hl 3 rfl) ?_
        refine lv_bipush (v := nI 41) hx hb dL_isTold_124 (by decide) ?_
        refine n_icmp_ge (x := k) (y := 41) (tgt := 190) hx hb dL_isTold_126 (by decide) (by omega) (by decide) (fun c_7 => ?_) (fun c_7 => ?_)
        · exfalso; omega
        refine lv_iload hx hb dL_isTold_129 (lv_at hl 2 rfl) ?_
        refine lv_aload_n hx hb dL_isTold_131 rfl (lv_at hl 0 rfl) ?_
        refine roV1 (v := .int (nI (σ 7 0))) (As := []) (rest := [.int (nI (a9))]) (n := 0) ⟨hx, hb, hml, hown, htA⟩ (kc_state l D cI cZ sa q σ K  s.heap hP ) (cwV 0 htA (gdV wd_326 wd_327 wd_328 wd_1 wd_329) rfl rfl rfl (by decide +kernel) ⟨Nat.le_of_ble_eq_true rfl, Nat.le_of_ble_eq_true rfl⟩) hKK hP 0 rfl rfl rfl hl.1 rfl (Nat.le_of_ble_eq_true rfl) dL_isTold_132 (Nat.zero_le _) (Nat.zero_le _) ?_
        refine n_icmp_ge (x := a9) (y := σ 7 0) (tgt := 190) hx hb dL_isTold_135 (by decide) (by omega) (by omega) (fun c_8 => ?_) (fun c_8 => ?_)
        rotate_left
        · exfalso; omega
        refine lv_iload hx hb dL_isTold_190 (lv_at hl 1 rfl) ?_
        refine b_ifeq (b := true) (tgt := 220) hx hb dL_isTold_192 (by decide) (fun c_9 => ?_) (fun c_9 => ?_)
        · exact absurd c_9 (by decide)
        refine lv_iload hx hb dL_isTold_195 (lv_at hl 2 rfl) ?_
        refine lv_aload_n hx hb dL_isTold_197 rfl (lv_at hl 0 rfl) ?_
        refine roV1 (v := .int (nI (σ 7 0))) (As := []) (rest := [.int (nI (a9))]) (n := 0) ⟨hx, hb, hml, hown, htA⟩ (kc_state l D cI cZ sa q σ K  s.heap hP ) (cwV 0 htA (gdV wd_326 wd_327 wd_328 wd_1 wd_329) rfl rfl rfl (by decide +kernel) ⟨Nat.le_of_ble_eq_true rfl, Nat.le_of_ble_eq_true rfl⟩) hKK hP 0 rfl rfl rfl hl.1 rfl (Nat.le_of_ble_eq_true rfl) dL_isTold_198 (Nat.zero_le _) (Nat.zero_le _) ?_
        refine n_icmp_ne (x := a9) (y := σ 7 0) (tgt := 220) hx hb dL_isTold_201 (by decide) (by omega) (by omega) (fun c_10 => ?_) (fun c_10 => ?_)
        · exfalso; omega
        refine lv_aload_n hx hb dL_isTold_204 rfl (lv_at hl 0 rfl) ?_
        refine lv_iload hx hb dL_isTold_205 (lv_at hl 2 rfl) ?_
        refine n_iconst (k := 1) hx hb dL_isTold_207 (by decide) ?_
        refine roV1 (v := .int (nI (pgv σ a9 1))) (As := [.int (nI (a9)), .int (nI (1))]) (rest := []) (n := 2) ⟨hx, hb, hml, hown, htA⟩ (kc_page l D cI cZ sa q σ K a9 1 s.heap hP hB (by omega) (by omega) (by omega) (by omega)) (cwV 2 htA (gdV wd_540 wd_541 wd_542 wd_1 wd_543) rfl rfl rfl (by decide +kernel) ⟨Nat.le_of_ble_eq_true rfl, Nat.le_of_ble_eq_true rfl⟩) hKK hP 0 rfl rfl rfl hl.1 rfl (Nat.le_of_ble_eq_true rfl) dL_isTold_208 (Nat.zero_le _) (Nat.zero_le _) ?_
        have he : pgv σ a9 1 = a9 := by rw [show a9 = σ 7 0 by omega]; exact pgv_end _ _
        refine lv_iload hx hb dL_isTold_211 (lv_at hl 2 rfl) ?_
        refine n_icmp_ne (x := pgv σ a9 1) (y := a9) (tgt := 220) hx hb dL_isTold_213 (by decide) (by omega) (by omega) (fun c_11 => ?_) (fun c_11 => ?_)
        · exfalso; omega
        refine n_iconst (k := 1) hx hb dL_isTold_216 (by decide) ?_
        refine lv_goto (tgt := 221) hx hb dL_isTold_217 (by decide) ?_
        exact ro_z (v := true) hx hb hr hlocks (rfl) dL_isTold_221
      | succ n ih =>
        intro a9 k h1 h2 h3 ls hl
        refine lv_iload hx hb dL_isTold_122 (lv_at hl 3 rfl) ?_
        refine lv_bipush (v := nI 41) hx hb dL_isTold_124 (by decide) ?_
        refine n_icmp_ge (x := k) (y := 41) (tgt := 190) hx hb dL_isTold_126 (by decide) (by omega) (by decide) (fun c_12 => ?_) (fun c_12 => ?_)
        · exfalso; omega
        refine lv_iload hx hb dL_isTold_129 (lv_at hl 2 rfl) ?_
        refine lv_aload_n hx hb dL_isTold_131 rfl (lv_at hl 0 rfl) ?_
        refine roV1 (v := .int (nI (σ 7 0))) (As := []) (rest := [.int (nI (a9))]) (n := 0) ⟨hx, hb, hml, hown, htA⟩ (kc_state l D cI cZ sa q σ K  s.heap hP ) (cwV 0 htA (gdV wd_326 wd_327 wd_328 wd_1 wd_329) rfl rfl rfl (by decide +kernel) ⟨Nat.le_of_ble_eq_true rfl, Nat.le_of_ble_eq_true rfl⟩) hKK hP 0 rfl rfl rfl hl.1 rfl (Nat.le_of_ble_eq_true rfl) dL_isTold_132 (Nat.zero_le _) (Nat.zero_le _) ?_
        refine n_icmp_ge (x := a9) (y := σ 7 0) (tgt := 190) hx hb dL_isTold_135 (by decide) (by omega) (by omega) (fun c_13 => ?_) (fun c_13 => ?_)
        · refine lv_iload hx hb dL_isTold_190 (lv_at hl 1 rfl) ?_
          refine b_ifeq (b := true) (tgt := 220) hx hb dL_isTold_192 (by decide) (fun c_14 => ?_) (fun c_14 => ?_)
          · exact absurd c_14 (by decide)
          refine lv_iload hx hb dL_isTold_195 (lv_at hl 2 rfl) ?_
          refine lv_aload_n hx hb dL_isTold_197 rfl (lv_at hl 0 rfl) ?_
          refine roV1 (v := .int (nI (σ 7 0))) (As := []) (rest := [.int (nI (a9))]) (n := 0) ⟨hx, hb, hml, hown, htA⟩ (kc_state l D cI cZ sa q σ K  s.heap hP ) (cwV 0 htA (gdV wd_326 wd_327 wd_328 wd_1 wd_329) rfl rfl rfl (by decide +kernel) ⟨Nat.le_of_ble_eq_true rfl, Nat.le_of_ble_eq_true rfl⟩) hKK hP 0 rfl rfl rfl hl.1 rfl (Nat.le_of_ble_eq_true rfl) dL_isTold_198 (Nat.zero_le _) (Nat.zero_le _) ?_
          refine n_icmp_ne (x := a9) (y := σ 7 0) (tgt := 220) hx hb dL_isTold_201 (by decide) (by omega) (by omega) (fun c_15 => ?_) (fun c_15 => ?_)
          · exfalso; omega
          refine lv_aload_n hx hb dL_isTold_204 rfl (lv_at hl 0 rfl) ?_
          refine lv_iload hx hb dL_isTold_205 (lv_at hl 2 rfl) ?_
          refine n_iconst (k := 1) hx hb dL_isTold_207 (by decide) ?_
          refine roV1 (v := .int (nI (pgv σ a9 1))) (As := [.int (nI (a9)), .int (nI (1))]) (rest := []) (n := 2) ⟨hx, hb, hml, hown, htA⟩ (kc_page l D cI cZ sa q σ K a9 1 s.heap hP hB (by omega) (by omega) (by omega) (by omega)) (cwV 2 htA (gdV wd_540 wd_541 wd_542 wd_1 wd_543) rfl rfl rfl (by decide +kernel) ⟨Nat.le_of_ble_eq_true rfl, Nat.le_of_ble_eq_true rfl⟩) hKK hP 0 rfl rfl rfl hl.1 rfl (Nat.le_of_ble_eq_true rfl) dL_isTold_208 (Nat.zero_le _) (Nat.zero_le _) ?_
          have he : pgv σ a9 1 = a9 := by rw [show a9 = σ 7 0 by omega]; exact pgv_end _ _
          refine lv_iload hx hb dL_isTold_211 (lv_at hl 2 rfl) ?_
          refine n_icmp_ne (x := pgv σ a9 1) (y := a9) (tgt := 220) hx hb dL_isTold_213 (by decide) (by omega) (by omega) (fun c_16 => ?_) (fun c_16 => ?_)
          · exfalso; omega
          refine n_iconst (k := 1) hx hb dL_isTold_216 (by decide) ?_
          refine lv_goto (tgt := 221) hx hb dL_isTold_217 (by decide) ?_
          exact ro_z (v := true) hx hb hr hlocks (rfl) dL_isTold_221
        · refine lv_iload hx hb dL_isTold_138 (lv_at hl 1 rfl) ?_
          refine b_ifeq (b := true) (tgt := 190) hx hb dL_isTold_140 (by decide) (fun c_17 => ?_) (fun c_17 => ?_)
          · exact absurd c_17 (by decide)
          refine lv_aload_n hx hb dL_isTold_143 rfl (lv_at hl 0 rfl) ?_
          refine lv_iload hx hb dL_isTold_144 (lv_at hl 2 rfl) ?_
          refine n_iconst (k := 1) hx hb dL_isTold_146 (by decide) ?_
          refine lv_iload hx hb dL_isTold_147 (lv_at hl 3 rfl) ?_
          refine n_iconst (k := 4) hx hb dL_isTold_149 (by decide) ?_
          refine n_irem hx hb (by omega) (by omega) (by decide) dL_isTold_150 ?_
          refine n_iadd hx hb dL_isTold_151 ?_
          refine roV1 (v := .int (nI (pgv σ a9 (1 + (k % 4))))) (As := [.int (nI (a9)), .int (nI (1 + (k % 4)))]) (rest := []) (n := 2) ⟨hx, hb, hml, hown, htA⟩ (kc_page l D cI cZ sa q σ K a9 (1 + (k % 4)) s.heap hP hB (by omega) (by omega) (by omega) (by omega)) (cwV 2 htA (gdV wd_540 wd_541 wd_542 wd_1 wd_543) rfl rfl rfl (by decide +kernel) ⟨Nat.le_of_ble_eq_true rfl, Nat.le_of_ble_eq_true rfl⟩) hKK hP 0 rfl rfl rfl hl.1 rfl (Nat.le_of_ble_eq_true rfl) dL_isTold_152 (Nat.zero_le _) (Nat.zero_le _) ?_
          have hpg := pgv_up (σ := σ) (st := a9) (pl := 1 + k % 4) (by omega) (by omega) (by omega)
          refine lv_istore (lv' := [(8, .int (nI (pgv σ a9 (1 + (k % 4))))), (0, .ref (q 0)), (5, .int (nI (1))), (6, .int (nI (a9))), (7, .int (nI (k)))]) hx hb dL_isTold_155 hl (by decide) rfl (fun ls hl => ?_)
          refine lv_iload hx hb dL_isTold_157 (lv_at hl 0 rfl) ?_
          refine lv_iload hx hb dL_isTold_159 (lv_at hl 3 rfl) ?_
          refine n_icmp_le (x := pgv σ a9 (1 + (k % 4))) (y := a9) (tgt := 177) hx hb dL_isTold_161 (by decide) (by omega) (by omega) (fun c_18 => ?_) (fun c_18 => ?_)
          · exfalso; omega
          refine lv_iload hx hb dL_isTold_164 (lv_at hl 0 rfl) ?_
          refine lv_aload_n hx hb dL_isTold_166 rfl (lv_at hl 1 rfl) ?_
          refine roV1 (v := .int (nI (σ 7 0))) (As := []) (rest := [.int (nI (pgv σ a9 (1 + (k % 4))))]) (n := 0) ⟨hx, hb, hml, hown, htA⟩ (kc_state l D cI cZ sa q σ K  s.heap hP ) (cwV 0 htA (gdV wd_326 wd_327 wd_328 wd_1 wd_329) rfl rfl rfl (by decide +kernel) ⟨Nat.le_of_ble_eq_true rfl, Nat.le_of_ble_eq_true rfl⟩) hKK hP 0 rfl rfl rfl hl.1 rfl (Nat.le_of_ble_eq_true rfl) dL_isTold_167 (Nat.zero_le _) (Nat.zero_le _) ?_
          refine n_icmp_gt (x := pgv σ a9 (1 + (k % 4))) (y := σ 7 0) (tgt := 177) hx hb dL_isTold_170 (by decide) (by omega) (by omega) (fun c_19 => ?_) (fun c_19 => ?_)
          · exfalso; omega
          refine n_iconst (k := 1) hx hb dL_isTold_173 (by decide) ?_
          refine lv_goto (tgt := 178) hx hb dL_isTold_174 (by decide) ?_
          refine lv_istore (lv' := [(5, .int (nI (1))), (8, .int (nI (pgv σ a9 (1 + (k % 4))))), (0, .ref (q 0)), (6, .int (nI (a9))), (7, .int (nI (k)))]) hx hb dL_isTold_178 hl (by decide) rfl (fun ls hl => ?_)
          refine lv_iload hx hb dL_isTold_180 (lv_at hl 1 rfl) ?_
          refine lv_istore (lv' := [(6, .int (nI (pgv σ a9 (1 + (k % 4))))), (5, .int (nI (1))), (8, .int (nI (pgv σ a9 (1 + (k % 4))))), (0, .ref (q 0)), (7, .int (nI (k)))]) hx hb dL_isTold_182 hl (by decide) rfl (fun ls hl => ?_)
          refine lv_iinc (v := nI (k + 1)) (lv' := [(7, .int (nI (k + 1))), (6, .int (nI (pgv σ a9 (1 + (k % 4))))), (5, .int (nI (1))), (8, .int (nI (pgv σ a9 (1 + (k % 4))))), (0, .ref (q 0))]) hx hb dL_isTold_184 hl (k := 4) rfl (n_inc (k) 1 rfl) (by decide) rfl (fun ls hl => ?_)
          refine lv_goto (tgt := 122) hx hb dL_isTold_187 (by decide) ?_
          exact ih (pgv σ a9 (1 + (k % 4))) (k + 1) (by omega) (by omega) (by omega) ls (lv_sub hl [4, 2, 1, 0] rfl)
    exact loop_122 (σ 7 0) st 0 (by omega) hst (by omega) ls (lv_sub hl [3, 2, 1, 0] rfl)
  · have hno := of_decide_eq_false c_1
    refine lv_aload_n hx hb dL_isTold_8 rfl (lv_at hl 0 rfl) ?_
    refine roV1 (v := .int (nI (σ 7 0))) (As := []) (rest := []) (n := 0) ⟨hx, hb, hml, hown, htA⟩ (kc_state l D cI cZ sa q σ K  s.heap hP ) (cwV 0 htA (gdV wd_326 wd_327 wd_328 wd_1 wd_329) rfl rfl rfl (by decide +kernel) ⟨Nat.le_of_ble_eq_true rfl, Nat.le_of_ble_eq_true rfl⟩) hKK hP 0 rfl rfl rfl hl.1 rfl (Nat.le_of_ble_eq_true rfl) dL_isTold_9 (Nat.zero_le _) (Nat.zero_le _) ?_
    refine lv_iload_n hx hb dL_isTold_12 rfl (lv_at hl 1 rfl) ?_
    refine n_isub hx hb (by omega) dL_isTold_13 ?_
    refine lv_bipush (v := nI 40) hx hb dL_isTold_14 (by decide) ?_
    refine n_icmp_le (x := (σ 7 0) - st) (y := 40) (tgt := 23) hx hb dL_isTold_16 (by decide) (by omega) (by decide) (fun c_20 => ?_) (fun c_20 => ?_)
    · exfalso; omega
    refine n_iconst (k := 1) hx hb dL_isTold_19 (by decide) ?_
    refine lv_goto (tgt := 24) hx hb dL_isTold_20 (by decide) ?_
    exact ro_z (v := true) hx hb hr hlocks (rfl) dL_isTold_24
