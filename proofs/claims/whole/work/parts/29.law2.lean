/-! the law's body: what it needs of the class and of the reference, call by call -/
def wT (q qm : Nat → Nat) (qo qd : Nat) (cI cZ cL cD : ClassId) (σ κ0 κ1 : ST) (g : Nat → Int64) (gd : Nat → UInt64) (μ : ST) : va_W := wL q qo qd cI cZ cL cD σ κ0 κ1 g gd ++ wM qm cI cZ μ
def outV (dd : Option Bool) (qo qd : Nat) : List Value := match dd with
  | none => []
  | some true => [.ref qd]
  | some false => [.ref qo]
def ClsOK (y : MethodName) (ws : List Cond) (σ κ0 κ1 σ1 κ2 κ3 : ST) (as : List Value) (dd : Option Bool) (k : Nat) (fg : (Nat → Int64) → Nat → Int64) (fd : (Nat → UInt64) → Nat → UInt64) : Prop := ∃ rm : Room, rm.cells = 1 ∧ rm.slots = 6 ∧ rm.frames ≤ 10 ∧ rm.locals ≤ 200 ∧ ∀ (l : Launch) (D : va_G) (cI cZ cL cD : ClassId) (sa q : Nat → Nat) (qo qd : Nat) (g : Nat → Int64) (gd : Nat → UInt64) (A : Nat → Prop), l.stackTraces = false → va_D A (wL q qo qd cI cZ cL cD σ κ0 κ1 g gd) → Met l y ws rm (LwP D cI cZ cL cD sa (wL q qo qd cI cZ cL cD σ κ0 κ1 g gd) (.ref (q 0) :: (as ++ outV dd qo qd))) (WrQ (some (.int (nI k))) D (wL q qo qd cI cZ cL cD σ1 κ2 κ3 (fg g) (fd gd)) A) 1 6 A
def RefOK (y : MethodName) (ws : List Cond) (μ μ1 : ST) (as : List Value) (r : Option Value) : Prop := ∃ rm : Room, rm.cells = 0 ∧ rm.slots = 0 ∧ rm.frames ≤ 10 ∧ rm.locals ≤ 200 ∧ ∀ (l : Launch) (D : va_G) (cI cZ : ClassId) (sa q : Nat → Nat) (A : Nat → Prop), va_D A (wM q cI cZ μ) → Met l y ws rm (WrP D cI cZ sa (wM q cI cZ μ) (.ref (q 0) :: as)) (WrQ r D (wM q cI cZ μ1) A) 0 0 A
def DirOK (y : MethodName) (ws : List Cond) (σ κ0 κ1 : ST) (r : Value) : Prop := ∃ rm : Room, rm.cells = 0 ∧ rm.slots = 0 ∧ rm.frames ≤ 10 ∧ rm.locals ≤ 200 ∧ ∀ (l : Launch) (D : va_G) (cI cZ : ClassId) (sa q : Nat → Nat) (H : Heap), va_P D vwCl (wX q cI cZ σ κ0 κ1) H → Met l y ws rm (RoP D cI cZ sa H [.ref (q 0)]) (RoQ (some r) H) 0 0 RoF
theorem LwP.blind {D : va_G} {cI cZ cL cD : ClassId} {sa : Nat → Nat} {w : va_W} {av : List Value} : FrameBlind (LwP D cI cZ cL cD sa w av) := fun a U g mk q => by
  obtain ⟨q0, q1, q2, q3, q4⟩ := q
  exact ⟨q0, q1, q2.same rfl, va_K.moved (u := U) (U := U.calling g mk a) (Vm.Alike.refl U.vm) q3, q4.warm (Vm.Alike.refl U.vm)⟩
theorem ZZ.of {s : State} {H : Heap} {locs : List Loc} (h : ZZ s.heap s) (hS : va_S (fun q => s.heap.size ≤ q) s.heap H locs) : ZZ H s :=
  ⟨(h.1.kept hS.2.1).narrow (fun q hq => Nat.le_trans hS.1 hq), (h.2.kept hS.2.1).narrow (fun q hq => Nat.le_trans hS.1 hq)⟩
theorem T_putL {A : Nat → Prop} {D : va_G} {cl : List vw_C} {q qm : Nat → Nat} {qo qd : Nat} {cI cZ cL cD : ClassId} {σ κ0 κ1 σ1 κ2 κ3 μ : ST} {g g1 : Nat → Int64} {gd gd1 : Nat → UInt64} {H H1 : Heap} (hD : va_D A (wT q qm qo qd cI cZ cL cD σ κ0 κ1 g gd μ)) (hP : va_P D cl (wT q qm qo qd cI cZ cL cD σ κ0 κ1 g gd μ) H) (hk : ∀ a : Nat, a < H.size → ¬ adr (wL q qo qd cI cZ cL cD σ κ0 κ1 g gd) a → H1[a]? = H[a]?) (h1 : va_P D cl (wL q qo qd cI cZ cL cD σ1 κ2 κ3 g1 gd1) H1) : va_P D cl (wT q qm qo qd cI cZ cL cD σ1 κ2 κ3 g1 gd1 μ) H1 := by
  have hM : va_P D cl (wM qm cI cZ μ) H1 := P_keep (hP.sub [26, 27, 28, 29, 30, 31, 32, 33, 34, 35, 36, 37, 38, 39, 40, 41, 42, 43, 44, 45, 46, 47, 48, 49] rfl) hk (D_out hD [26, 27, 28, 29, 30, 31, 32, 33, 34, 35, 36, 37, 38, 39, 40, 41, 42, 43, 44, 45, 46, 47, 48, 49] [0, 1, 2, 3, 4, 5, 6, 7, 8, 9, 10, 11, 12, 13, 14, 15, 16, 17, 18, 19, 20, 21, 22, 23, 24, 25] rfl rfl (by decide))
  exact va_P.app h1 hM
theorem T_putM {A : Nat → Prop} {D : va_G} {cl : List vw_C} {q qm : Nat → Nat} {qo qd : Nat} {cI cZ cL cD : ClassId} {σ κ0 κ1 μ μ1 : ST} {g : Nat → Int64} {gd : Nat → UInt64} {H H1 : Heap} (hD : va_D A (wT q qm qo qd cI cZ cL cD σ κ0 κ1 g gd μ)) (hP : va_P D cl (wT q qm qo qd cI cZ cL cD σ κ0 κ1 g gd μ) H) (hk : ∀ a : Nat, a < H.size → ¬ adr (wM qm cI cZ μ) a → H1[a]? = H[a]?) (h1 : va_P D cl (wM qm cI cZ μ1) H1) : va_P D cl (wT q qm qo qd cI cZ cL cD σ κ0 κ1 g gd μ1) H1 := by
  have hL : va_P D cl (wL q qo qd cI cZ cL cD σ κ0 κ1 g gd) H1 := P_keep (hP.sub [0, 1, 2, 3, 4, 5, 6, 7, 8, 9, 10, 11, 12, 13, 14, 15, 16, 17, 18, 19, 20, 21, 22, 23, 24, 25] rfl) hk (D_out hD [0, 1, 2, 3, 4, 5, 6, 7, 8, 9, 10, 11, 12, 13, 14, 15, 16, 17, 18, 19, 20, 21, 22, 23, 24, 25] [26, 27, 28, 29, 30, 31, 32, 33, 34, 35, 36, 37, 38, 39, 40, 41, 42, 43, 44, 45, 46, 47, 48, 49] rfl rfl (by decide))
  exact va_P.app hL h1
section LAWROWS
variable {p : Program} {l : Launch} {e : Env} {R : Room} {s : State} {m : MethodId} {args : Array Value} {below : List Frame} {meth : Method} {c : Code} {H H0 : Heap} {locs : List Loc} {cells slots : Nat} {cc : ByteArray} {pc : Nat} {ls : Array Slot} {rest st0 : List Value} {Q : State → Prop} {A : Nat → Prop} {D : va_G} {cI cZ cL cD : ClassId} {sa q qm : Nat → Nat} {qo qd nL : Nat} {σ κ0 κ1 σ1 κ2 κ3 μ μ1 : ST} {g : Nat → Int64} {gd : Nat → UInt64}
theorem wrRun16 {v0 : Option Value} {a9 : Array Value} {A1 A0 : Nat → Prop} {w1 : va_W} (hr : va_Run p l e R s m args below meth c H locs cells slots 1 6 (F0 m pc ls st0) rest (WrQ v0 D w1 A1 a9) A1) (hS : va_S A0 H0 H locs) (hA : ∀ q, A1 q → A0 q)
    (kk : ∀ (H1 : Heap) (locs1 : List Loc), va_P D vwCl w1 H1 → H.size ≤ H1.size → (∀ q : Nat, q < H.size → ¬ A1 q → H1[q]? = H[q]?) → va_S A0 H0 H1 locs1 → W p l e R s m args below meth c H1 locs1 (cells + 1) (slots + 6) Q (F0 m (pc + 3) ls (v0.toList ++ rest))) : W p l e R s m args below meth c H locs cells slots Q (F0 m pc ls st0) := by
  intro T hT X
  obtain ⟨v, st₀, t, T', L, h0, X', hL, e1, e2, ⟨hv, hb, hz, hk⟩, st⟩ := hr T hT X
  cases hv
  rw [h0] at hz hk
  obtain ⟨t2, a1, b1⟩ := kk T'.heap (locs ++ L) (by rw [e1]; exact hb) (by rw [e1]; exact hz) (fun q h1 h2 => by rw [e1]; exact hk q h1 h2)
    ⟨Nat.le_trans hS.1 (by rw [e1]; exact hz), fun q h1 h2 => by rw [e1, hk q (Nat.lt_of_lt_of_le h1 hS.1) (fun z => h2 (hA q z))]; exact hS.2.1 q h1 h2, fun q hq => by
      rcases List.mem_append.mp hq with h | h
      · exact hS.2.2 q h
      · exact hA _ (hL q h)⟩ T' rfl X'
  exact ⟨t2, st t2 a1, b1⟩
theorem lwS {y : MethodName} {bytes : ByteArray} {maxL n index : Nat} {ret : Option FieldType} {hh : List (Nat × Nat × Nat × Nat)} {wsx ws' : List Cond} {as : List Value} {dd : Option Bool} {k : Nat} {fg : (Nat → Int64) → Nat → Int64} {fd : (Nat → UInt64) → Nat → UInt64} (S : CallFix p m c cc nL s args WA RL) (htA : ∀ w ∈ WA, w.before args s = true) (hC : ClsOK y wsx σ κ0 κ1 σ1 κ2 κ3 as dd k fg fd) (hw : wsx = Cond.codeWith y bytes maxL ret hh :: ws') (hG : GoodIn WA (va_wsS RL index y wsx))
    (hd : y.cls ≠ "java/lang/invoke/MethodHandle" ∧ y.cls ≠ "java/lang/invoke/VarHandle" ∧ (parseMethodDescriptor y.desc).map (fun d => d.parameters.length) = some n) (hmx : maxL ≤ 7) (hR1 : 11 ≤ R.frames) (hR2 : 226 ≤ R.locals) (hst9 : l.stackTraces = false) (hKK : KK D cI cZ sa s) (hKL : va_K D vwCl (tyL cL cD) s) (hZ : ZZ H s) (hP : va_P D vwCl (wT q qm qo qd cI cZ cL cD σ κ0 κ1 g gd μ) H) (hD : va_D A (wT q qm qo qd cI cZ cL cD σ κ0 κ1 g gd μ)) (hS : va_S A H0 H locs)
    (hn : (Value.ref (q 0) :: (as ++ outV dd qo qd)).length = n) (hsize : ls.size = nL) (hst : st0 = (Value.ref (q 0) :: (as ++ outV dd qo qd)).reverse ++ rest) (hW : (rest.map fun v => v.category).sum ≤ 8) (hdg : decode cc pc = .ok (.invokestatic index, 3)) (hcs : cells + 1 ≤ R.cells) (hss : slots + 6 ≤ R.slots)
    (kk : ∀ (H1 : Heap) (locs1 : List Loc), va_P D vwCl (wT q qm qo qd cI cZ cL cD σ1 κ2 κ3 (fg g) (fd gd) μ) H1 → va_S A H0 H1 locs1 → W p l e R s m args below meth c H1 locs1 (cells + 1) (slots + 6) Q (F0 m (pc + 3) ls (.int (nI k) :: rest))) : W p l e R s m args below meth c H locs cells slots Q (F0 m pc ls st0) := by
  obtain ⟨rm, h1, h2, h3, h4, hM⟩ := hC
  have hDL : va_D A (wL q qo qd cI cZ cL cD σ κ0 κ1 g gd) := hD.sub [0, 1, 2, 3, 4, 5, 6, 7, 8, 9, 10, 11, 12, 13, 14, 15, 16, 17, 18, 19, 20, 21, 22, 23, 24, 25] (by decide) rfl
  have hPL : va_P D vwCl (wL q qo qd cI cZ cL cD σ κ0 κ1 g gd) H := hP.sub [0, 1, 2, 3, 4, 5, 6, 7, 8, 9, 10, 11, 12, 13, 14, 15, 16, 17, 18, 19, 20, 21, 22, 23, 24, 25] rfl
  exact wrRun16 (v0 := some (.int (nI k))) (rest := rest) (vx_runSW S (hM l D cI cZ cL cD sa q qo qd g gd (adr (wL q qo qd cI cZ cL cD σ κ0 κ1 g gd)) hst9 (D_adr hDL)) (vx_cwSW n htA hG hw h1 h2 hd ⟨by omega, by omega⟩) ⟨LwP.blind, fun U hU hW => ⟨rfl, by rw [hU]; exact hPL, hKK.warm hW, va_K.moved hW.alike hKL, by rw [hU]; exact hZ.warm hW.alike⟩⟩ rfl hn hsize hst (lv_room hW) hdg ⟨hcs, hss⟩) hS (fun a h => adr_in hDL a h) (fun H1 locs1 hP1 hz1 hk1 hS1 => kk H1 locs1 (T_putL hD hP hk1 hP1) hS1)
theorem lwV {y : MethodName} {bytes : ByteArray} {maxL n index : Nat} {ret : Option FieldType} {wsx ws' : List Cond} {as : List Value} {r : Option Value} (S : CallFix p m c cc nL s args WA RL) (htA : ∀ w ∈ WA, w.before args s = true) (hC : RefOK y wsx μ μ1 as r) (hw : wsx = Cond.code y bytes maxL ret :: ws') (hG : GoodIn WA (wsV RL index RX4 y wsx))
    (hd : y.cls = RX4 ∧ y.cls ≠ "java/lang/invoke/MethodHandle" ∧ y.cls ≠ "java/lang/invoke/VarHandle" ∧ (parseMethodDescriptor y.desc).map (fun d => d.parameters.length) = some n) (hmx : maxL ≤ 8) (hR1 : 11 ≤ R.frames) (hR2 : 227 ≤ R.locals) (hKK : KK D cI cZ sa s) (hP : va_P D vwCl (wT q qm qo qd cI cZ cL cD σ κ0 κ1 g gd μ) H) (hD : va_D A (wT q qm qo qd cI cZ cL cD σ κ0 κ1 g gd μ)) (hS : va_S A H0 H locs)
    (hn : as.length = n) (hsize : ls.size = nL) (hst : st0 = as.reverse ++ .ref (qm 0) :: rest) (hW : (rest.map fun v => v.category).sum ≤ 8) (hdg : decode cc pc = .ok (.invokevirtual index, 3)) (hcs : cells ≤ R.cells) (hss : slots ≤ R.slots)
    (kk : ∀ (H1 : Heap) (locs1 : List Loc), va_P D vwCl (wT q qm qo qd cI cZ cL cD σ κ0 κ1 g gd μ1) H1 → va_S A H0 H1 locs1 → W p l e R s m args below meth c H1 locs1 cells slots Q (F0 m (pc + 3) ls (r.toList ++ rest))) : W p l e R s m args below meth c H locs cells slots Q (F0 m pc ls st0) := by
  obtain ⟨rm, h1, h2, h3, h4, hM⟩ := hC
  have hDM : va_D A (wM qm cI cZ μ) := hD.sub [26, 27, 28, 29, 30, 31, 32, 33, 34, 35, 36, 37, 38, 39, 40, 41, 42, 43, 44, 45, 46, 47, 48, 49] (by decide) rfl
  have hPM : va_P D vwCl (wM qm cI cZ μ) H := hP.sub [26, 27, 28, 29, 30, 31, 32, 33, 34, 35, 36, 37, 38, 39, 40, 41, 42, 43, 44, 45, 46, 47, 48, 49] rfl
  exact wrRun (v0 := r) (rest := rest) (va_runV S (hM l D cI cZ sa qm (adr (wM qm cI cZ μ)) (D_adr hDM)) (cwV n htA hG hw h1 h2 hd ⟨by omega, by omega⟩) ⟨WrP.blind, va_recv (q0 := 0) hKK.1 hPM (rfl : vwCl[4]? = some (RX4, TX4, 26)) rfl, fun U hU hW => ⟨rfl, by rw [hU]; exact hPM, hKK.warm hW⟩⟩ rfl hn hsize hst (lv_room hW) hdg ⟨hcs, hss⟩) hS (fun a h => adr_in hDM a h) (fun H1 locs1 hP1 hz1 hk1 hS1 => kk H1 locs1 (T_putM hD hP hk1 hP1) hS1)
theorem n_sld {b L : Nat} {xs : Nat → Int32} (hx : p.tables.exec = Jvm.exec) (hb : c.code = cc) (hX : va_X b L xs s H0) (hbl : b < H0.size) (hbA : ¬ A b) (hS : va_S A H0 H locs) {j : Nat} (hj : j < L) (hL : L < 2 ^ 31) (hdg : decode cc pc = .ok (.iaload, 1))
    (kk : W p l e R s m args below meth c H locs cells slots Q (F0 m (pc + 1) ls (.int (xs j) :: rest))) : W p l e R s m args below meth c H locs cells slots Q (F0 m pc ls (.int (nI j) :: .ref b :: rest)) :=
  va_sld hx hb hX hbl hbA hS (vp_in_nI hj hL) hdg (by rw [nI_clamp (Nat.lt_trans hj hL)]; exact kk)
theorem ne0 (hx : p.tables.exec = Jvm.exec) (hb : c.code = cc) {x : Int32} (d0 : decode cc pc = .ok (.ifCond .eq 7, 3)) (d3 : decode cc (pc + 3) = .ok (.iconst 1, 1)) (d4 : decode cc (pc + 3 + 1) = .ok (.goto 4, 3)) (d7 : decode cc (pc + 7) = .ok (.iconst 0, 1))
    (kk : W p l e R s m args below meth c H locs cells slots Q (F0 m (pc + 8) ls (.int (b2i (!decide (x = 0))) :: rest))) : W p l e R s m args below meth c H locs cells slots Q (F0 m pc ls (.int x :: rest)) := by
  refine lv_if_eq (tgt := pc + 7) hx hb d0 (by omega) (fun h => ?_) (fun h => ?_)
  · refine n_iconst (k := 0) hx hb d7 (by decide) ?_
    rw [decide_eq_true h] at kk; exact kk
  · refine n_iconst (k := 1) hx hb d3 (by decide) ?_
    refine lv_goto (tgt := pc + 8) hx hb d4 (by omega) ?_
    rw [decide_eq_false h] at kk; exact kk
theorem bl0 (hx : p.tables.exec = Jvm.exec) (hb : c.code = cc) {v : Bool} (d0 : decode cc pc = .ok (.ifCond .eq 7, 3)) (d3 : decode cc (pc + 3) = .ok (.lconst 1, 1)) (d4 : decode cc (pc + 3 + 1) = .ok (.goto 4, 3)) (d7 : decode cc (pc + 7) = .ok (.lconst 0, 1))
    (kk : W p l e R s m args below meth c H locs cells slots Q (F0 m (pc + 8) ls (.long (bl v) :: rest))) : W p l e R s m args below meth c H locs cells slots Q (F0 m pc ls (.int (b2i v) :: rest)) := by
  refine b_ifeq (b := v) (tgt := pc + 7) hx hb d0 (by omega) (fun h => ?_) (fun h => ?_)
  · refine lv_lconst (v := 0) hx hb d7 (by decide) ?_
    rw [h] at kk; exact kk
  · refine lv_lconst (v := 1) hx hb d3 (by decide) ?_
    refine lv_goto (tgt := pc + 8) hx hb d4 (by omega) ?_
    rw [h] at kk; exact kk
theorem lg_self (v : Int64) : lg_cmp v v = 0 := by unfold lg_cmp; rw [if_neg (Int64.lt_irrefl), if_pos rfl]
end LAWROWS
