/-! the law's body -/
def LawC (p : Program) (s : State) (m : MethodId) (args : Array Value) (c : Code) (A : Nat → Prop) (D : va_G) (cI cZ : ClassId) (sa : Nat → Nat) (b9 L : Nat) (xs : Nat → Int32) : Prop := p.tables.exec = Jvm.exec ∧ c.code = cL_law ∧ c.maxLocals = 17 ∧ s.vm.findClass RL = some m.cls ∧ (∀ w ∈ WA, w.before args s = true) ∧ va_X b9 L xs s s.heap ∧ b9 < s.heap.size ∧ KK D cI cZ sa s ∧ L ≤ 260 ∧ ¬ A b9
def LawS (s : State) (A : Nat → Prop) (D : va_G) (cI cZ : ClassId) (q : Nat → Nat) (qg qb qw b9 n : Nat) (σ : ST) (K : Nat → ST) (g b w : Nat → Nat) (st M bx F : Nat) (H : Heap) (locs : List Loc) (ls : Array Slot) : Prop := va_P D vwCl (wP q qg qb qw cI cZ σ K g b w) H ∧ va_D A (wP q qg qb qw cI cZ σ K g b w) ∧ va_S A s.heap H locs ∧ lv_has ls 17 [(0, .ref (b9)), (1, .ref (q 0)), (2, .ref (qg)), (3, .ref (qb)), (4, .ref (qw)), (5, .int (nI (σ 1 0))), (6, .int (nI (st))), (7, .int (nI (M))), (8, .int (nI (F))), (9, .int (nI (bx))), (10, .int (nI (1))), (11, .int (nI (n)))]
section LAWROWS
variable {p : Program} {l : Launch} {e : Env} {R : Room} {s : State} {m : MethodId} {args : Array Value} {below : List Frame} {meth : Method} {c : Code} {H H0 : Heap} {locs : List Loc} {cells slots : Nat} {Q : State → Prop}
variable {cc : ByteArray} {pc : Nat} {ls : Array Slot} {rest st0 : List Value} {A : Nat → Prop} {D : va_G}
variable {y : MethodName} {bytes : ByteArray} {maxL nL n index : Nat} {ret : Option FieldType} {wsy : List Cond} {rm : Room} {Ts : List Cond} {own : String} {As : List Value} {cI cZ : ClassId} {sa : Nat → Nat}
theorem toS1 {v : Value} {b L : Nat} {xs : Nat → Int32} (S : CallFix p m c cc nL s args Ts own) (hM : Met l y wsy rm (ToP D cI cZ sa H b L xs As) (RoQ (some v) H) 0 0 RoF) (cw : CallB R s args own index y bytes maxL ret wsy rm 0 0 n ∧ (Cond.static y).before args s = true) (hKK : KK D cI cZ sa s) (hX : va_X b L xs s H) (hn : As.length = n) (hsize : ls.size = nL) (hst : st0 = As.reverse ++ rest) (hW : (rest.map fun v => v.category).sum ≤ 8) (hdg : decode cc pc = .ok (.invokestatic index, 3)) (hcs : cells ≤ R.cells) (hss : slots ≤ R.slots) (kk : W p l e R s m args below meth c H locs cells slots Q (F0 m (pc + 3) ls (v :: rest))) : W p l e R s m args below meth c H locs cells slots Q (F0 m (pc) ls (st0)) :=
  roRun (v0 := some v) (rest := rest) (va_runS S hM cw ⟨ToP.blind, fun U hU hW => ⟨rfl, hU, va_X.moved hW.alike hX, hKK.warm hW⟩⟩ rfl hn hsize hst (lv_room hW) hdg ⟨hcs, hss⟩) kk
end LAWROWS
theorem kc_isFresh (l : Launch) (D : va_G) (cI cZ : ClassId) (sa : Nat → Nat) (q : Nat → Nat) (σ : ST) (K : Nat → ST) (cl bc wc : Nat) (H : Heap) (hP : va_P D vwCl (wX q cI cZ σ (K 0) (K 1)) H) (hcl : cl < 2) (J : JS σ) (C : JC σ (K cl)) (Fr : Fresh σ (K cl)) (eb : bc = K cl 0 0) (ew : wc = K cl 0 1) : Met l yL_isFresh (codeW yL_isFresh cL_isFresh 7 (some .boolean)) ({ frames := 4, cells := 0, slots := 0, locals := 86 } : Room) (RoP D cI cZ sa H [.ref (q 0), .int (nI cl), .int (nI bc), .int (nI wc)]) (RoQ (some (.int (b2i true))) H) 0 0 RoF := by
  subst eb ew
  exact c_isFresh l D cI cZ sa q σ K cl _ _ H hP hcl J.2.2.2.2.2.2.2 C.2.1 C.2.2.1 J.1 C.2.2.2.2.1 Fr.1 Fr.2.1 Fr.2.2
theorem kc_isTold (l : Launch) (D : va_G) (cI cZ : ClassId) (sa : Nat → Nat) (q : Nat → Nat) (σ : ST) (K : Nat → ST) (st M bx F : Nat) (H : Heap) (hP : va_P D vwCl (wX q cI cZ σ (K 0) (K 1)) H) (J : JS σ) (S : SN σ st M bx F) (hbx : bx < 6) : Met l yL_isTold (codeW yL_isTold cL_isTold 9 (some .boolean)) ({ frames := 6, cells := 0, slots := 0, locals := 144 } : Room) (RoP D cI cZ sa H [.ref (q 0), .int (nI st), .int (nI M), .int (nI bx), .int (nI F)]) (RoQ (some (.int (b2i true))) H) 0 0 RoF :=
  c_isTold l D cI cZ sa q σ K st M bx F H hP J.2.2.2.2.2.2.2 J.2.2.2.2.1 hbx S.1 S
set_option maxHeartbeats 4000000 in
set_option maxRecDepth 100000 in
theorem law_add {p : Program} {l : Launch} {e : Env} {s : State} {m : MethodId} {args : Array Value} {below : List Frame} {meth : Method} {c : Code} {H : Heap} {locs : List Loc} {ls : Array Slot} {cells slots : Nat} {Q : State → Prop} {A : Nat → Prop} {D : va_G} {cI cZ : ClassId} {sa q : Nat → Nat} {qg qb qw b9 L n : Nat} {xs : Nat → Int32} {σ : ST} {K : Nat → ST} {g b w : Nat → Nat} {st M bx F : Nat} {v9 : Nat} (C : LawC p s m args c A D cI cZ sa b9 L xs) (hcs : cells ≤ room_1.cells) (hss : slots ≤ room_1.slots) (hn : n < 90) (I : LI n σ K g b w st M bx F f0) (hP : va_P D vwCl (wP q qg qb qw cI cZ σ K g b w) H) (hD : va_D A (wP q qg qb qw cI cZ σ K g b w)) (hS : va_S A s.heap H locs) (hv : v9 < 2147483648) (hl : lv_has ls 17 [(0, .ref (b9)), (1, .ref (q 0)), (2, .ref (qg)), (3, .ref (qb)), (4, .ref (qw)), (5, .int (nI (σ 1 0))), (6, .int (nI (st))), (7, .int (nI (M))), (8, .int (nI (F))), (9, .int (nI (bx))), (10, .int (nI (1))), (11, .int (nI (n))), (12, .int (nI (v9)))])
    (kk : ∀ (σ1 : ST) (K1 : Nat → ST) (g1 b1 w1 : Nat → Nat) (st1 M1 bx1 F1 : Nat) (H1 : Heap) (locs1 : List Loc) (ls1 : Array Slot), LI (n + 1) σ1 K1 g1 b1 w1 st1 M1 bx1 F1 f0 → LawS s A D cI cZ q qg qb qw b9 n σ1 K1 g1 b1 w1 st1 M1 bx1 F1 H1 locs1 ls1 → W p l e room_1 s m args below meth c H1 locs1 cells slots Q (F0 m 739 ls1 [])) : W p l e room_1 s m args below meth c H locs cells slots Q (F0 m 164 ls []) := by
  obtain ⟨hx, hb, hml, hown, htA, hX, hbl, hKK, hL, hbA⟩ := C
  obtain ⟨J, S9, hbx, h7, G, CC⟩ := id I
  have h60 := J.1
  refine lv_iload hx hb dL_law_164 (lv_at hl 5 rfl) ?_
  refine lv_bipush (v := nI 60) hx hb dL_law_166 (by decide) ?_
  refine n_icmp_ge (x := σ 1 0) (y := 60) (tgt := 739) hx hb dL_law_168 (by decide) (by omega) (by decide) (fun c_1 => ?_) (fun c_1 => ?_)
  · exact kk _ _ _ _ _ _ _ _ _ _ _ _ (LI_up I) ⟨hP, hD, hS, lv_sub hl [0, 1, 2, 3, 4, 5, 6, 7, 8, 9, 10, 11] rfl⟩
  · refine lv_aload_n hx hb dL_law_171 rfl (lv_at hl 1 rfl) ?_
    refine lv_iload hx hb dL_law_172 (lv_at hl 12 rfl) ?_
    refine lv_bipush (v := nI 10) hx hb dL_law_174 (by decide) ?_
    refine n_idiv hx hb (by omega) (by omega) (by decide) dL_law_176 ?_
    refine lv_bipush (v := nI 50) hx hb dL_law_177 (by decide) ?_
    refine n_irem hx hb (by omega) (by omega) (by decide) dL_law_179 ?_
    refine n_iconst (k := 1) hx hb dL_law_180 (by decide) ?_
    refine lv_iload hx hb dL_law_181 (lv_at hl 12 rfl) ?_
    refine lv_sipush (v := nI 500) hx hb dL_law_183 (by decide) ?_
    refine n_idiv hx hb (by omega) (by omega) (by decide) dL_law_186 ?_
    refine lv_bipush (v := nI 63) hx hb dL_law_187 (by decide) ?_
    refine n_irem hx hb (by omega) (by omega) (by decide) dL_law_189 ?_
    refine n_iadd hx hb dL_law_190 ?_
    refine lv_iload hx hb dL_law_191 (lv_at hl 12 rfl) ?_
    refine lv_bipush (v := nI 7) hx hb dL_law_193 (by decide) ?_
    refine n_idiv hx hb (by omega) (by omega) (by decide) dL_law_195 ?_
    refine lv_bipush (v := nI 10) hx hb dL_law_196 (by decide) ?_
    refine n_irem hx hb (by omega) (by omega) (by decide) dL_law_198 ?_
    refine wrV1 (v := .int (nI (σ 1 0))) (As := [.int (nI ((v9 / 10) % 50)), .int (nI (1 + ((v9 / 500) % 63))), .int (nI ((v9 / 7) % 10))]) (rest := []) (n := 3) ⟨hx, hb, hml, hown, htA⟩ (kc_add l D cI cZ sa q σ K ((v9 / 10) % 50) (1 + ((v9 / 500) % 63)) ((v9 / 7) % 10) (adr (wX q cI cZ σ (K 0) (K 1))) (D_adr (P_DX hD)) J (by omega) (by omega) (by omega) (by omega) (by omega)) (cwV 3 htA (gdV wd_135 wd_136 wd_137 wd_1 wd_138) rfl rfl rfl (by decide +kernel) ⟨Nat.le_of_ble_eq_true rfl, Nat.le_of_ble_eq_true rfl⟩) hKK (P_X hP) 0 rfl rfl rfl hl.1 rfl (Nat.le_of_ble_eq_true rfl) dL_law_199 hcs hss hS (fun a h => adr_in (P_DX hD) a h) (fun H1 locs hP1 hz1 hk1 hS => ?_)
    have hP : va_P D vwCl (wP q qg qb qw cI cZ (lc σ ((v9 / 10) % 50) (1 + ((v9 / 500) % 63)) ((v9 / 7) % 10)) K g b w) H1 := P_putX hD hP hk1 hP1
    have hD : va_D A (wP q qg qb qw cI cZ (lc σ ((v9 / 10) % 50) (1 + ((v9 / 500) % 63)) ((v9 / 7) % 10)) K g b w) := D_addr hD rfl
    generalize H1 = H at hP hS ⊢
    refine lv_iload hx hb dL_law_202 (lv_at hl 5 rfl) ?_
    refine n_icmp_ne (x := σ 1 0) (y := σ 1 0) (tgt := 211) hx hb dL_law_204 (by decide) (by omega) (by omega) (fun c_2 => ?_) (fun c_2 => ?_)
    · exfalso; omega
    refine n_iconst (k := 1) hx hb dL_law_207 (by decide) ?_
    refine lv_goto (tgt := 212) hx hb dL_law_208 (by decide) ?_
    refine lv_istore (lv' := [(10, .int (nI (1))), (0, .ref (b9)), (1, .ref (q 0)), (2, .ref (qg)), (3, .ref (qb)), (4, .ref (qw)), (5, .int (nI (σ 1 0))), (6, .int (nI (st))), (7, .int (nI (M))), (8, .int (nI (F))), (9, .int (nI (bx))), (11, .int (nI (n))), (12, .int (nI (v9)))]) hx hb dL_law_212 hl (by decide) rfl (fun ls hl => ?_)
    refine lv_iinc (v := nI (σ 1 0 + 1)) (lv' := [(5, .int (nI (σ 1 0 + 1))), (10, .int (nI (1))), (0, .ref (b9)), (1, .ref (q 0)), (2, .ref (qg)), (3, .ref (qb)), (4, .ref (qw)), (6, .int (nI (st))), (7, .int (nI (M))), (8, .int (nI (F))), (9, .int (nI (bx))), (11, .int (nI (n))), (12, .int (nI (v9)))]) hx hb dL_law_214 hl (k := 6) rfl (n_inc (σ 1 0) 1 rfl) (by decide) rfl (fun ls hl => ?_)
    refine lv_goto (tgt := 739) hx hb dL_law_217 (by decide) ?_
    exact kk _ _ _ _ _ _ _ _ _ _ _ _ (LI_add I hn (by omega) (by omega) (by omega) (by omega) (by omega)) ⟨hP, hD, hS, lv_sub hl [2, 3, 4, 5, 6, 0, 7, 8, 9, 10, 1, 11] rfl⟩
set_option maxHeartbeats 4000000 in
set_option maxRecDepth 100000 in
theorem law_move {p : Program} {l : Launch} {e : Env} {s : State} {m : MethodId} {args : Array Value} {below : List Frame} {meth : Method} {c : Code} {H : Heap} {locs : List Loc} {ls : Array Slot} {cells slots : Nat} {Q : State → Prop} {A : Nat → Prop} {D : va_G} {cI cZ : ClassId} {sa q : Nat → Nat} {qg qb qw b9 L n : Nat} {xs : Nat → Int32} {σ : ST} {K : Nat → ST} {g b w : Nat → Nat} {st M bx F : Nat} {v9 j : Nat} (C : LawC p s m args c A D cI cZ sa b9 L xs) (hcs : cells ≤ room_1.cells) (hss : slots ≤ room_1.slots) (hn : n < 90) (I : LI n σ K g b w st M bx F f0) (hP : va_P D vwCl (wP q qg qb qw cI cZ σ K g b w) H) (hD : va_D A (wP q qg qb qw cI cZ σ K g b w)) (hS : va_S A s.heap H locs) (hv : v9 < 2147483648) (hj : j < σ 1 0) (hg : g j = 0) (hl : lv_has ls 17 [(0, .ref (b9)), (1, .ref (q 0)), (2, .ref (qg)), (3, .ref (qb)), (4, .ref (qw)), (5, .int (nI (σ 1 0))), (6, .int (nI (st))), (7, .int (nI (M))), (8, .int (nI (F))), (9, .int (nI (bx))), (10, .int (nI (1))), (11, .int (nI (n))), (12, .int (nI (v9))), (13, .int (nI (j)))])
    (kk : ∀ (σ1 : ST) (K1 : Nat → ST) (g1 b1 w1 : Nat → Nat) (st1 M1 bx1 F1 : Nat) (H1 : Heap) (locs1 : List Loc) (ls1 : Array Slot), LI (n + 1) σ1 K1 g1 b1 w1 st1 M1 bx1 F1 f0 → LawS s A D cI cZ q qg qb qw b9 n σ1 K1 g1 b1 w1 st1 M1 bx1 F1 H1 locs1 ls1 → W p l e room_1 s m args below meth c H1 locs1 cells slots Q (F0 m 739 ls1 [])) : W p l e room_1 s m args below meth c H locs cells slots Q (F0 m 220 ls []) := by
  obtain ⟨hx, hb, hml, hown, htA, hX, hbl, hKK, hL, hbA⟩ := C
  obtain ⟨J, S9, hbx, h7, G, CC⟩ := id I
  have h60 := J.1
  have h40 := ((G j).2.1 hj).mp hg
  refine lv_iload hx hb dL_law_220 (lv_at hl 13 rfl) ?_
  refine n_iflt (tgt := 739) hx hb dL_law_222 (by decide) (by omega) ?_
  refine lv_aload_n hx hb dL_law_225 rfl (lv_at hl 1 rfl) ?_
  refine lv_iload hx hb dL_law_226 (lv_at hl 13 rfl) ?_
  refine n_iconst (k := 1) hx hb dL_law_228 (by decide) ?_
  refine lv_iload hx hb dL_law_229 (lv_at hl 12 rfl) ?_
  refine lv_sipush (v := nI 600) hx hb dL_law_231 (by decide) ?_
  refine n_idiv hx hb (by omega) (by omega) (by decide) dL_law_234 ?_
  refine lv_bipush (v := nI 63) hx hb dL_law_235 (by decide) ?_
  refine n_irem hx hb (by omega) (by omega) (by decide) dL_law_237 ?_
  refine n_iadd hx hb dL_law_238 ?_
  refine wrV1 (v := .int (nI (σ 4 j))) (As := [.int (nI (j)), .int (nI (1 + ((v9 / 600) % 63)))]) (rest := []) (n := 2) ⟨hx, hb, hml, hown, htA⟩ (kc_move l D cI cZ sa q σ K j (1 + ((v9 / 600) % 63)) (adr (wX q cI cZ σ (K 0) (K 1))) (D_adr (P_DX hD)) J (by omega) h40 (by omega) (by omega)) (cwV 2 htA (gdV wd_262 wd_263 wd_264 wd_1 wd_265) rfl rfl rfl (by decide +kernel) ⟨Nat.le_of_ble_eq_true rfl, Nat.le_of_ble_eq_true rfl⟩) hKK (P_X hP) 0 rfl rfl rfl hl.1 rfl (Nat.le_of_ble_eq_true rfl) dL_law_239 hcs hss hS (fun a h => adr_in (P_DX hD) a h) (fun H1 locs hP1 hz1 hk1 hS => ?_)
  have hP : va_P D vwCl (wP q qg qb qw cI cZ (mv σ j (1 + ((v9 / 600) % 63))) K g b w) H1 := P_putX hD hP hk1 hP1
  have hD : va_D A (wP q qg qb qw cI cZ (mv σ j (1 + ((v9 / 600) % 63))) K g b w) := D_addr hD rfl
  generalize H1 = H at hP hS ⊢
  refine lv_pop hx hb dL_law_242 rfl ?_
  have J2 : JS (mv σ j (1 + ((v9 / 600) % 63))) := JS_mv J hj (by omega) (by omega)
  have e4 : (mv σ j (1 + ((v9 / 600) % 63))) 4 j = 1 + v9 / 600 % 63 := by rw [mv_f.2.1]; exact upN_same _ _ _
  refine lv_aload_n hx hb dL_law_243 rfl (lv_at hl 1 rfl) ?_
  refine lv_iload hx hb dL_law_244 (lv_at hl 13 rfl) ?_
  refine n_iconst (k := 1) hx hb dL_law_246 (by decide) ?_
  refine lv_iload hx hb dL_law_247 (lv_at hl 12 rfl) ?_
  refine lv_sipush (v := nI 600) hx hb dL_law_249 (by decide) ?_
  refine n_idiv hx hb (by omega) (by omega) (by decide) dL_law_252 ?_
  refine lv_bipush (v := nI 63) hx hb dL_law_253 (by decide) ?_
  refine n_irem hx hb (by omega) (by omega) (by decide) dL_law_255 ?_
  refine n_iadd hx hb dL_law_256 ?_
  refine wrV1 (v := .int (nI ((mv σ j (1 + ((v9 / 600) % 63))) 4 j))) (As := [.int (nI (j)), .int (nI (1 + ((v9 / 600) % 63)))]) (rest := []) (n := 2) ⟨hx, hb, hml, hown, htA⟩ (kc_move l D cI cZ sa q (mv σ j (1 + ((v9 / 600) % 63))) K j (1 + ((v9 / 600) % 63)) (adr (wX q cI cZ (mv σ j (1 + ((v9 / 600) % 63))) (K 0) (K 1))) (D_adr (P_DX hD)) J2 (by omega) (by omega) (by omega) (by omega)) (cwV 2 htA (gdV wd_262 wd_263 wd_264 wd_1 wd_265) rfl rfl rfl (by decide +kernel) ⟨Nat.le_of_ble_eq_true rfl, Nat.le_of_ble_eq_true rfl⟩) hKK (P_X hP) 0 rfl rfl rfl hl.1 rfl (Nat.le_of_ble_eq_true rfl) dL_law_257 hcs hss hS (fun a h => adr_in (P_DX hD) a h) (fun H1 locs hP1 hz1 hk1 hS => ?_)
  have hP : va_P D vwCl (wP q qg qb qw cI cZ (mv (mv σ j (1 + ((v9 / 600) % 63))) j (1 + ((v9 / 600) % 63))) K g b w) H1 := P_putX hD hP hk1 hP1
  have hD : va_D A (wP q qg qb qw cI cZ (mv (mv σ j (1 + ((v9 / 600) % 63))) j (1 + ((v9 / 600) % 63))) K g b w) := D_addr hD rfl
  generalize H1 = H at hP hS ⊢
  refine n_iconst (k := 1) hx hb dL_law_260 (by decide) ?_
  refine lv_iload hx hb dL_law_261 (lv_at hl 12 rfl) ?_
  refine lv_sipush (v := nI 600) hx hb dL_law_263 (by decide) ?_
  refine n_idiv hx hb (by omega) (by omega) (by decide) dL_law_266 ?_
  refine lv_bipush (v := nI 63) hx hb dL_law_267 (by decide) ?_
  refine n_irem hx hb (by omega) (by omega) (by decide) dL_law_269 ?_
  refine n_iadd hx hb dL_law_270 ?_
  refine n_icmp_ne (x := (mv σ j (1 + ((v9 / 600) % 63))) 4 j) (y := 1 + ((v9 / 600) % 63)) (tgt := 278) hx hb dL_law_271 (by decide) (by omega) (by omega) (fun c_2 => ?_) (fun c_2 => ?_)
  · exfalso; omega
  refine n_iconst (k := 1) hx hb dL_law_274 (by decide) ?_
  refine lv_goto (tgt := 279) hx hb dL_law_275 (by decide) ?_
  refine lv_istore (lv' := [(10, .int (nI (1))), (0, .ref (b9)), (1, .ref (q 0)), (2, .ref (qg)), (3, .ref (qb)), (4, .ref (qw)), (5, .int (nI (σ 1 0))), (6, .int (nI (st))), (7, .int (nI (M))), (8, .int (nI (F))), (9, .int (nI (bx))), (11, .int (nI (n))), (12, .int (nI (v9))), (13, .int (nI (j)))]) hx hb dL_law_279 hl (by decide) rfl (fun ls hl => ?_)
  refine lv_goto (tgt := 739) hx hb dL_law_281 (by decide) ?_
  have ec : (mv (mv σ j (1 + ((v9 / 600) % 63))) j (1 + ((v9 / 600) % 63))) 1 0 = σ 1 0 := mv_f.1.trans mv_f.1
  exact kk _ _ _ _ _ _ _ _ _ _ _ _ (LI_move I hn hj hg (by omega) (by omega)) ⟨hP, hD, hS, by rw [ec]; exact lv_sub hl [1, 2, 3, 4, 5, 6, 7, 8, 9, 10, 0, 11] rfl⟩
set_option maxHeartbeats 4000000 in
set_option maxRecDepth 100000 in
theorem law_flag {p : Program} {l : Launch} {e : Env} {s : State} {m : MethodId} {args : Array Value} {below : List Frame} {meth : Method} {c : Code} {H : Heap} {locs : List Loc} {ls : Array Slot} {cells slots : Nat} {Q : State → Prop} {A : Nat → Prop} {D : va_G} {cI cZ : ClassId} {sa q : Nat → Nat} {qg qb qw b9 L n : Nat} {xs : Nat → Int32} {σ : ST} {K : Nat → ST} {g b w : Nat → Nat} {st M bx F : Nat} {v9 j : Nat} (C : LawC p s m args c A D cI cZ sa b9 L xs) (hcs : cells ≤ room_1.cells) (hss : slots ≤ room_1.slots) (hn : n < 90) (I : LI n σ K g b w st M bx F f0) (hP : va_P D vwCl (wP q qg qb qw cI cZ σ K g b w) H) (hD : va_D A (wP q qg qb qw cI cZ σ K g b w)) (hS : va_S A s.heap H locs) (hv : v9 < 2147483648) (hj : j < σ 1 0) (hg : g j = 0) (hl : lv_has ls 17 [(0, .ref (b9)), (1, .ref (q 0)), (2, .ref (qg)), (3, .ref (qb)), (4, .ref (qw)), (5, .int (nI (σ 1 0))), (6, .int (nI (st))), (7, .int (nI (M))), (8, .int (nI (F))), (9, .int (nI (bx))), (10, .int (nI (1))), (11, .int (nI (n))), (12, .int (nI (v9))), (13, .int (nI (j)))])
    (kk : ∀ (σ1 : ST) (K1 : Nat → ST) (g1 b1 w1 : Nat → Nat) (st1 M1 bx1 F1 : Nat) (H1 : Heap) (locs1 : List Loc) (ls1 : Array Slot), LI (n + 1) σ1 K1 g1 b1 w1 st1 M1 bx1 F1 f0 → LawS s A D cI cZ q qg qb qw b9 n σ1 K1 g1 b1 w1 st1 M1 bx1 F1 H1 locs1 ls1 → W p l e room_1 s m args below meth c H1 locs1 cells slots Q (F0 m 739 ls1 [])) : W p l e room_1 s m args below meth c H locs cells slots Q (F0 m 284 ls []) := by
  obtain ⟨hx, hb, hml, hown, htA, hX, hbl, hKK, hL, hbA⟩ := C
  obtain ⟨J, S9, hbx, h7, G, CC⟩ := id I
  have h60 := J.1
  have h40 := ((G j).2.1 hj).mp hg
  refine lv_iload hx hb dL_law_284 (lv_at hl 13 rfl) ?_
  refine n_iflt (tgt := 739) hx hb dL_law_286 (by decide) (by omega) ?_
  refine lv_aload_n hx hb dL_law_289 rfl (lv_at hl 1 rfl) ?_
  refine roV1 (v := .int (nI (σ 7 0))) (As := []) (rest := []) (n := 0) ⟨hx, hb, hml, hown, htA⟩ (kc_state l D cI cZ sa q σ K  H (P_X hP) ) (cwV 0 htA (gdV wd_326 wd_327 wd_328 wd_1 wd_329) rfl rfl rfl (by decide +kernel) ⟨Nat.le_of_ble_eq_true rfl, Nat.le_of_ble_eq_true rfl⟩) hKK hP 0 rfl rfl rfl hl.1 rfl (Nat.le_of_ble_eq_true rfl) dL_law_290 hcs hss ?_
  refine lv_istore (lv' := [(15, .int (nI (σ 7 0))), (0, .ref (b9)), (1, .ref (q 0)), (2, .ref (qg)), (3, .ref (qb)), (4, .ref (qw)), (5, .int (nI (σ 1 0))), (6, .int (nI (st))), (7, .int (nI (M))), (8, .int (nI (F))), (9, .int (nI (bx))), (10, .int (nI (1))), (11, .int (nI (n))), (12, .int (nI (v9))), (13, .int (nI (j)))]) hx hb dL_law_293 hl (by decide) rfl (fun ls hl => ?_)
  refine lv_aload_n hx hb dL_law_295 rfl (lv_at hl 2 rfl) ?_
  refine lv_iload hx hb dL_law_296 (lv_at hl 14 rfl) ?_
  refine lv_iload hx hb dL_law_298 (lv_at hl 13 rfl) ?_
  refine lv_sipush (v := nI 600) hx hb dL_law_300 (by decide) ?_
  refine n_idiv hx hb (by omega) (by omega) (by decide) dL_law_303 ?_
  refine n_iconst (k := 4) hx hb dL_law_304 (by decide) ?_
  refine n_irem hx hb (by omega) (by omega) (by decide) dL_law_305 ?_
  refine lv_iload hx hb dL_law_306 (lv_at hl 13 rfl) ?_
  refine lv_sipush (v := nI 2400) hx hb dL_law_308 (by decide) ?_
  refine n_idiv hx hb (by omega) (by omega) (by decide) dL_law_311 ?_
  refine n_iconst (k := 2) hx hb dL_law_312 (by decide) ?_
  refine n_irem hx hb (by omega) (by omega) (by decide) dL_law_313 ?_
  refine n_ifne (x := (v9 / 2400) % 2) (tgt := 321) hx hb dL_law_314 (by decide) (by omega) (fun c_2 => ?_) (fun c_2 => ?_)
  · refine n_iconst (k := 0) hx hb dL_law_321 (by decide) ?_
    refine wrV1 (v := .int (b2i (!(decide (σ 5 j = wn (σ 5 j) ((v9 / 600) % 4) (nb 0)))))) (As := [.int (nI (j)), .int (nI ((v9 / 600) % 4)), .int (nI (0))]) (rest := []) (n := 3) ⟨hx, hb, hml, hown, htA⟩ (kc_flag l D cI cZ sa q σ K j ((v9 / 600) % 4) 0 (adr (wX q cI cZ σ (K 0) (K 1))) (D_adr (P_DX hD)) J (by omega) h40 (by omega) (by omega)) (cwV 3 htA (gdV wd_300 wd_301 wd_302 wd_1 wd_303) rfl rfl rfl (by decide +kernel) ⟨Nat.le_of_ble_eq_true rfl, Nat.le_of_ble_eq_true rfl⟩) hKK (P_X hP) 0 rfl rfl rfl hl.1 rfl (Nat.le_of_ble_eq_true rfl) dL_law_322 hcs hss hS (fun a h => adr_in (P_DX hD) a h) (fun H1 locs hP1 hz1 hk1 hS => ?_)
    have hP : va_P D vwCl (wP q qg qb qw cI cZ (sk σ j ((v9 / 600) % 4) 0) K g b w) H1 := P_putX hD hP hk1 hP1
    have hD : va_D A (wP q qg qb qw cI cZ (sk σ j ((v9 / 600) % 4) 0) K g b w) := D_addr hD rfl
    generalize H1 = H at hP hS ⊢
    refine lv_istore (lv' := [(16, .int (b2i (!(decide (σ 5 j = wn (σ 5 j) ((v9 / 600) % 4) (nb 0)))))), (15, .int (nI (σ 7 0))), (0, .ref (b9)), (1, .ref (q 0)), (2, .ref (qg)), (3, .ref (qb)), (4, .ref (qw)), (5, .int (nI (σ 1 0))), (6, .int (nI (st))), (7, .int (nI (M))), (8, .int (nI (F))), (9, .int (nI (bx))), (10, .int (nI (1))), (11, .int (nI (n))), (12, .int (nI (v9))), (13, .int (nI (j)))]) hx hb dL_law_325 hl (by decide) rfl (fun ls hl => ?_)
    have e7 := sk_7 (σ := σ) (j := j) (k := (v9 / 600) % 4) (w := 0)
    refine lv_aload_n hx hb dL_law_327 rfl (lv_at hl 3 rfl) ?_
    refine roV1 (v := .int (nI ((sk σ j ((v9 / 600) % 4) 0) 7 0))) (As := []) (rest := []) (n := 0) ⟨hx, hb, hml, hown, htA⟩ (kc_state l D cI cZ sa q (sk σ j ((v9 / 600) % 4) 0) K  H (P_X hP) ) (cwV 0 htA (gdV wd_326 wd_327 wd_328 wd_1 wd_329) rfl rfl rfl (by decide +kernel) ⟨Nat.le_of_ble_eq_true rfl, Nat.le_of_ble_eq_true rfl⟩) hKK hP 0 rfl rfl rfl hl.1 rfl (Nat.le_of_ble_eq_true rfl) dL_law_328 hcs hss ?_
    refine lv_iload hx hb dL_law_331 (lv_at hl 0 rfl) ?_
    refine b_ifeq (b := !(decide (σ 5 j = wn (σ 5 j) ((v9 / 600) % 4) (nb 0)))) (tgt := 343) hx hb dL_law_333 (by decide) (fun c_3 => ?_) (fun c_3 => ?_)
    · rw [c_3, cond_false] at e7
      refine lv_iload hx hb dL_law_343 (lv_at hl 1 rfl) ?_
      refine n_icmp_ne (x := (sk σ j ((v9 / 600) % 4) 0) 7 0) (y := σ 7 0) (tgt := 389) hx hb dL_law_345 (by decide) (by omega) (by omega) (fun c_4 => ?_) (fun c_4 => ?_)
      · exfalso; omega
      have J2 : JS (sk σ j ((v9 / 600) % 4) 0) := JS_sk J hj (by omega) (by omega)
      have h42 : (sk σ j ((v9 / 600) % 4) 0) 4 j ≠ 0 := by rw [sk_f.2.1]; exact h40
      have id9 := sk_idem (σ := σ) (j := j) (k := (v9 / 600) % 4) (w := 0) (J.2.2.2.1 j) (by omega)
      refine lv_aload_n hx hb dL_law_348 rfl (lv_at hl 3 rfl) ?_
      refine lv_iload hx hb dL_law_349 (lv_at hl 15 rfl) ?_
      refine lv_iload hx hb dL_law_351 (lv_at hl 14 rfl) ?_
      refine lv_sipush (v := nI 600) hx hb dL_law_353 (by decide) ?_
      refine n_idiv hx hb (by omega) (by omega) (by decide) dL_law_356 ?_
      refine n_iconst (k := 4) hx hb dL_law_357 (by decide) ?_
      refine n_irem hx hb (by omega) (by omega) (by decide) dL_law_358 ?_
      refine lv_iload hx hb dL_law_359 (lv_at hl 14 rfl) ?_
      refine lv_sipush (v := nI 2400) hx hb dL_law_361 (by decide) ?_
      refine n_idiv hx hb (by omega) (by omega) (by decide) dL_law_364 ?_
      refine n_iconst (k := 2) hx hb dL_law_365 (by decide) ?_
      refine n_irem hx hb (by omega) (by omega) (by decide) dL_law_366 ?_
      refine n_ifne (x := (v9 / 2400) % 2) (tgt := 374) hx hb dL_law_367 (by decide) (by omega) (fun c_5 => ?_) (fun c_5 => ?_)
      rotate_left
      · exfalso; omega
      refine n_iconst (k := 0) hx hb dL_law_374 (by decide) ?_
      refine lv_aload_n hx hb dL_law_375 rfl (lv_at hl 3 rfl) ?_
      refine roV1 (v := .int (nI ((sk σ j ((v9 / 600) % 4) 0) 7 0))) (As := []) (rest := [.int (nI (0)), .int (nI ((v9 / 600) % 4)), .int (nI (j)), .ref (q 0)]) (n := 0) ⟨hx, hb, hml, hown, htA⟩ (kc_state l D cI cZ sa q (sk σ j ((v9 / 600) % 4) 0) K  H (P_X hP) ) (cwV 0 htA (gdV wd_326 wd_327 wd_328 wd_1 wd_329) rfl rfl rfl (by decide +kernel) ⟨Nat.le_of_ble_eq_true rfl, Nat.le_of_ble_eq_true rfl⟩) hKK hP 0 rfl rfl rfl hl.1 rfl (Nat.le_of_ble_eq_true rfl) dL_law_376 hcs hss ?_
      refine wrV1 (v := .int (b2i (!(decide ((sk σ j ((v9 / 600) % 4) 0) 5 j = wn ((sk σ j ((v9 / 600) % 4) 0) 5 j) ((v9 / 600) % 4) (nb 0)))))) (As := [.int (nI (j)), .int (nI ((v9 / 600) % 4)), .int (nI (0)), .int (nI ((sk σ j ((v9 / 600) % 4) 0) 7 0))]) (rest := []) (n := 4) ⟨hx, hb, hml, hown, htA⟩ (kc_flagIf l D cI cZ sa q (sk σ j ((v9 / 600) % 4) 0) K j ((v9 / 600) % 4) 0 (adr (wX q cI cZ (sk σ j ((v9 / 600) % 4) 0) (K 0) (K 1))) (D_adr (P_DX hD)) J2 (by omega) h42 (by omega) (by omega)) (cwV 4 htA (gdV wd_317 wd_318 wd_319 wd_1 wd_320) rfl rfl rfl (by decide +kernel) ⟨Nat.le_of_ble_eq_true rfl, Nat.le_of_ble_eq_true rfl⟩) hKK (P_X hP) 0 rfl rfl rfl hl.1 rfl (Nat.le_of_ble_eq_true rfl) dL_law_379 hcs hss hS (fun a h => adr_in (P_DX hD) a h) (fun H1 locs hP1 hz1 hk1 hS => ?_)
      have hP : va_P D vwCl (wP q qg qb qw cI cZ (sk (sk σ j ((v9 / 600) % 4) 0) j ((v9 / 600) % 4) 0) K g b w) H1 := P_putX hD hP hk1 hP1
      have hD : va_D A (wP q qg qb qw cI cZ (sk (sk σ j ((v9 / 600) % 4) 0) j ((v9 / 600) % 4) 0) K g b w) := D_addr hD rfl
      generalize H1 = H at hP hS ⊢
      refine b_ifne (b := !(decide ((sk σ j ((v9 / 600) % 4) 0) 5 j = wn ((sk σ j ((v9 / 600) % 4) 0) 5 j) ((v9 / 600) % 4) (nb 0)))) (tgt := 389) hx hb dL_law_382 (by decide) (fun c_6 => ?_) (fun c_6 => ?_)
      · rw [decide_eq_true id9] at c_6; exact absurd c_6 (by decide)
      refine n_iconst (k := 1) hx hb dL_law_385 (by decide) ?_
      refine lv_goto (tgt := 390) hx hb dL_law_386 (by decide) ?_
      refine lv_istore (lv' := [(10, .int (nI (1))), (16, .int (b2i (!(decide (σ 5 j = wn (σ 5 j) ((v9 / 600) % 4) (nb 0)))))), (15, .int (nI (σ 7 0))), (0, .ref (b9)), (1, .ref (q 0)), (2, .ref (qg)), (3, .ref (qb)), (4, .ref (qw)), (5, .int (nI (σ 1 0))), (6, .int (nI (st))), (7, .int (nI (M))), (8, .int (nI (F))), (9, .int (nI (bx))), (11, .int (nI (n))), (12, .int (nI (v9))), (13, .int (nI (j)))]) hx hb dL_law_390 hl (by decide) rfl (fun ls hl => ?_)
      refine lv_goto (tgt := 739) hx hb dL_law_392 (by decide) ?_
      have ec : (sk (sk σ j ((v9 / 600) % 4) 0) j ((v9 / 600) % 4) 0) 1 0 = σ 1 0 := sk_f.1.trans sk_f.1
      exact kk _ _ _ _ _ _ _ _ _ _ _ _ (LI_flag I hn hj (by omega)) ⟨hP, hD, hS, by rw [ec]; exact lv_sub hl [3, 4, 5, 6, 7, 8, 9, 10, 11, 12, 0, 13] rfl⟩
    · rw [c_3, cond_true] at e7
      refine lv_iload hx hb dL_law_336 (lv_at hl 1 rfl) ?_
      refine n_iconst (k := 1) hx hb dL_law_338 (by decide) ?_
      refine n_iadd hx hb dL_law_339 ?_
      refine lv_goto (tgt := 345) hx hb dL_law_340 (by decide) ?_
      refine n_icmp_ne (x := (sk σ j ((v9 / 600) % 4) 0) 7 0) (y := (σ 7 0) + 1) (tgt := 389) hx hb dL_law_345 (by decide) (by omega) (by omega) (fun c_7 => ?_) (fun c_7 => ?_)
      · exfalso; omega
      have J2 : JS (sk σ j ((v9 / 600) % 4) 0) := JS_sk J hj (by omega) (by omega)
      have h42 : (sk σ j ((v9 / 600) % 4) 0) 4 j ≠ 0 := by rw [sk_f.2.1]; exact h40
      have id9 := sk_idem (σ := σ) (j := j) (k := (v9 / 600) % 4) (w := 0) (J.2.2.2.1 j) (by omega)
      refine lv_aload_n hx hb dL_law_348 rfl (lv_at hl 3 rfl) ?_
      refine lv_iload hx hb dL_law_349 (lv_at hl 15 rfl) ?_
      refine lv_iload hx hb dL_law_351 (lv_at hl 14 rfl) ?_
      refine lv_sipush (v := nI 600) hx hb dL_law_353 (by decide) ?_
      refine n_idiv hx hb (by omega) (by omega) (by decide) dL_law_356 ?_
      refine n_iconst (k := 4) hx hb dL_law_357 (by decide) ?_
      refine n_irem hx hb (by omega) (by omega) (by decide) dL_law_358 ?_
      refine lv_iload hx hb dL_law_359 (lv_at hl 14 rfl) ?_
      refine lv_sipush (v := nI 2400) hx hb dL_law_361 (by decide) ?_
      refine n_idiv hx hb (by omega) (by omega) (by decide) dL_law_364 ?_
      refine n_iconst (k := 2) hx hb dL_law_365 (by decide) ?_
      refine n_irem hx hb (by omega) (by omega) (by decide) dL_law_366 ?_
      refine n_ifne (x := (v9 / 2400) % 2) (tgt := 374) hx hb dL_law_367 (by decide) (by omega) (fun c_8 => ?_) (fun c_8 => ?_)
      rotate_left
      · exfalso; omega
      refine n_iconst (k := 0) hx hb dL_law_374 (by decide) ?_
      refine lv_aload_n hx hb dL_law_375 rfl (lv_at hl 3 rfl) ?_
      refine roV1 (v := .int (nI ((sk σ j ((v9 / 600) % 4) 0) 7 0))) (As := []) (rest := [.int (nI (0)), .int (nI ((v9 / 600) % 4)), .int (nI (j)), .ref (q 0)]) (n := 0) ⟨hx, hb, hml, hown, htA⟩ (kc_state l D cI cZ sa q (sk σ j ((v9 / 600) % 4) 0) K  H (P_X hP) ) (cwV 0 htA (gdV wd_326 wd_327 wd_328 wd_1 wd_329) rfl rfl rfl (by decide +kernel) ⟨Nat.le_of_ble_eq_true rfl, Nat.le_of_ble_eq_true rfl⟩) hKK hP 0 rfl rfl rfl hl.1 rfl (Nat.le_of_ble_eq_true rfl) dL_law_376 hcs hss ?_
      refine wrV1 (v := .int (b2i (!(decide ((sk σ j ((v9 / 600) % 4) 0) 5 j = wn ((sk σ j ((v9 / 600) % 4) 0) 5 j) ((v9 / 600) % 4) (nb 0)))))) (As := [.int (nI (j)), .int (nI ((v9 / 600) % 4)), .int (nI (0)), .int (nI ((sk σ j ((v9 / 600) % 4) 0) 7 0))]) (rest := []) (n := 4) ⟨hx, hb, hml, hown, htA⟩ (kc_flagIf l D cI cZ sa q (sk σ j ((v9 / 600) % 4) 0) K j ((v9 / 600) % 4) 0 (adr (wX q cI cZ (sk σ j ((v9 / 600) % 4) 0) (K 0) (K 1))) (D_adr (P_DX hD)) J2 (by omega) h42 (by omega) (by omega)) (cwV 4 htA (gdV wd_317 wd_318 wd_319 wd_1 wd_320) rfl rfl rfl (by decide +kernel) ⟨Nat.le_of_ble_eq_true rfl, Nat.le_of_ble_eq_true rfl⟩) hKK (P_X hP) 0 rfl rfl rfl hl.1 rfl (Nat.le_of_ble_eq_true rfl) dL_law_379 hcs hss hS (fun a h => adr_in (P_DX hD) a h) (fun H1 locs hP1 hz1 hk1 hS => ?_)
      have hP : va_P D vwCl (wP q qg qb qw cI cZ (sk (sk σ j ((v9 / 600) % 4) 0) j ((v9 / 600) % 4) 0) K g b w) H1 := P_putX hD hP hk1 hP1
      have hD : va_D A (wP q qg qb qw cI cZ (sk (sk σ j ((v9 / 600) % 4) 0) j ((v9 / 600) % 4) 0) K g b w) := D_addr hD rfl
      generalize H1 = H at hP hS ⊢
      refine b_ifne (b := !(decide ((sk σ j ((v9 / 600) % 4) 0) 5 j = wn ((sk σ j ((v9 / 600) % 4) 0) 5 j) ((v9 / 600) % 4) (nb 0)))) (tgt := 389) hx hb dL_law_382 (by decide) (fun c_9 => ?_) (fun c_9 => ?_)
      · rw [decide_eq_true id9] at c_9; exact absurd c_9 (by decide)
      refine n_iconst (k := 1) hx hb dL_law_385 (by decide) ?_
      refine lv_goto (tgt := 390) hx hb dL_law_386 (by decide) ?_
      refine lv_istore (lv' := [(10, .int (nI (1))), (16, .int (b2i (!(decide (σ 5 j = wn (σ 5 j) ((v9 / 600) % 4) (nb 0)))))), (15, .int (nI (σ 7 0))), (0, .ref (b9)), (1, .ref (q 0)), (2, .ref (qg)), (3, .ref (qb)), (4, .ref (qw)), (5, .int (nI (σ 1 0))), (6, .int (nI (st))), (7, .int (nI (M))), (8, .int (nI (F))), (9, .int (nI (bx))), (11, .int (nI (n))), (12, .int (nI (v9))), (13, .int (nI (j)))]) hx hb dL_law_390 hl (by decide) rfl (fun ls hl => ?_)
      refine lv_goto (tgt := 739) hx hb dL_law_392 (by decide) ?_
      have ec : (sk (sk σ j ((v9 / 600) % 4) 0) j ((v9 / 600) % 4) 0) 1 0 = σ 1 0 := sk_f.1.trans sk_f.1
      exact kk _ _ _ _ _ _ _ _ _ _ _ _ (LI_flag I hn hj (by omega)) ⟨hP, hD, hS, by rw [ec]; exact lv_sub hl [3, 4, 5, 6, 7, 8, 9, 10, 11, 12, 0, 13] rfl⟩
  · refine n_iconst (k := 1) hx hb dL_law_317 (by decide) ?_
    refine lv_goto (tgt := 322) hx hb dL_law_318 (by decide) ?_
    refine wrV1 (v := .int (b2i (!(decide (σ 5 j = wn (σ 5 j) ((v9 / 600) % 4) (nb 1)))))) (As := [.int (nI (j)), .int (nI ((v9 / 600) % 4)), .int (nI (1))]) (rest := []) (n := 3) ⟨hx, hb, hml, hown, htA⟩ (kc_flag l D cI cZ sa q σ K j ((v9 / 600) % 4) 1 (adr (wX q cI cZ σ (K 0) (K 1))) (D_adr (P_DX hD)) J (by omega) h40 (by omega) (by omega)) (cwV 3 htA (gdV wd_300 wd_301 wd_302 wd_1 wd_303) rfl rfl rfl (by decide +kernel) ⟨Nat.le_of_ble_eq_true rfl, Nat.le_of_ble_eq_true rfl⟩) hKK (P_X hP) 0 rfl rfl rfl hl.1 rfl (Nat.le_of_ble_eq_true rfl) dL_law_322 hcs hss hS (fun a h => adr_in (P_DX hD) a h) (fun H1 locs hP1 hz1 hk1 hS => ?_)
    have hP : va_P D vwCl (wP q qg qb qw cI cZ (sk σ j ((v9 / 600) % 4) 1) K g b w) H1 := P_putX hD hP hk1 hP1
    have hD : va_D A (wP q qg qb qw cI cZ (sk σ j ((v9 / 600) % 4) 1) K g b w) := D_addr hD rfl
    generalize H1 = H at hP hS ⊢
    refine lv_istore (lv' := [(16, .int (b2i (!(decide (σ 5 j = wn (σ 5 j) ((v9 / 600) % 4) (nb 1)))))), (15, .int (nI (σ 7 0))), (0, .ref (b9)), (1, .ref (q 0)), (2, .ref (qg)), (3, .ref (qb)), (4, .ref (qw)), (5, .int (nI (σ 1 0))), (6, .int (nI (st))), (7, .int (nI (M))), (8, .int (nI (F))), (9, .int (nI (bx))), (10, .int (nI (1))), (11, .int (nI (n))), (12, .int (nI (v9))), (13, .int (nI (j)))]) hx hb dL_law_325 hl (by decide) rfl (fun ls hl => ?_)
    have e7 := sk_7 (σ := σ) (j := j) (k := (v9 / 600) % 4) (w := 1)
    refine lv_aload_n hx hb dL_law_327 rfl (lv_at hl 3 rfl) ?_
    refine roV1 (v := .int (nI ((sk σ j ((v9 / 600) % 4) 1) 7 0))) (As := []) (rest := []) (n := 0) ⟨hx, hb, hml, hown, htA⟩ (kc_state l D cI cZ sa q (sk σ j ((v9 / 600) % 4) 1) K  H (P_X hP) ) (cwV 0 htA (gdV wd_326 wd_327 wd_328 wd_1 wd_329) rfl rfl rfl (by decide +kernel) ⟨Nat.le_of_ble_eq_true rfl, Nat.le_of_ble_eq_true rfl⟩) hKK hP 0 rfl rfl rfl hl.1 rfl (Nat.le_of_ble_eq_true rfl) dL_law_328 hcs hss ?_
    refine lv_iload hx hb dL_law_331 (lv_at hl 0 rfl) ?_
    refine b_ifeq (b := !(decide (σ 5 j = wn (σ 5 j) ((v9 / 600) % 4) (nb 1)))) (tgt := 343) hx hb dL_law_333 (by decide) (fun c_10 => ?_) (fun c_10 => ?_)
    · rw [c_10, cond_false] at e7
      refine lv_iload hx hb dL_law_343 (lv_at hl 1 rfl) ?_
      refine n_icmp_ne (x := (sk σ j ((v9 / 600) % 4) 1) 7 0) (y := σ 7 0) (tgt := 389) hx hb dL_law_345 (by decide) (by omega) (by omega) (fun c_11 => ?_) (fun c_11 => ?_)
      · exfalso; omega
      have J2 : JS (sk σ j ((v9 / 600) % 4) 1) := JS_sk J hj (by omega) (by omega)
      have h42 : (sk σ j ((v9 / 600) % 4) 1) 4 j ≠ 0 := by rw [sk_f.2.1]; exact h40
      have id9 := sk_idem (σ := σ) (j := j) (k := (v9 / 600) % 4) (w := 1) (J.2.2.2.1 j) (by omega)
      refine lv_aload_n hx hb dL_law_348 rfl (lv_at hl 3 rfl) ?_
      refine lv_iload hx hb dL_law_349 (lv_at hl 15 rfl) ?_
      refine lv_iload hx hb dL_law_351 (lv_at hl 14 rfl) ?_
      refine lv_sipush (v := nI 600) hx hb dL_law_353 (by decide) ?_
      refine n_idiv hx hb (by omega) (by omega) (by decide) dL_law_356 ?_
      refine n_iconst (k := 4) hx hb dL_law_357 (by decide) ?_
      refine n_irem hx hb (by omega) (by omega) (by decide) dL_law_358 ?_
      refine lv_iload hx hb dL_law_359 (lv_at hl 14 rfl) ?_
      refine lv_sipush (v := nI 2400) hx hb dL_law_361 (by decide) ?_
      refine n_idiv hx hb (by omega) (by omega) (by decide) dL_law_364 ?_
      refine n_iconst (k := 2) hx hb dL_law_365 (by decide) ?_
      refine n_irem hx hb (by omega) (by omega) (by decide) dL_law_366 ?_
      refine n_ifne (x := (v9 / 2400) % 2) (tgt := 374) hx hb dL_law_367 (by decide) (by omega) (fun c_12 => ?_) (fun c_12 => ?_)
      · exfalso; omega
      refine n_iconst (k := 1) hx hb dL_law_370 (by decide) ?_
      refine lv_goto (tgt := 375) hx hb dL_law_371 (by decide) ?_
      refine lv_aload_n hx hb dL_law_375 rfl (lv_at hl 3 rfl) ?_
      refine roV1 (v := .int (nI ((sk σ j ((v9 / 600) % 4) 1) 7 0))) (As := []) (rest := [.int (nI (1)), .int (nI ((v9 / 600) % 4)), .int (nI (j)), .ref (q 0)]) (n := 0) ⟨hx, hb, hml, hown, htA⟩ (kc_state l D cI cZ sa q (sk σ j ((v9 / 600) % 4) 1) K  H (P_X hP) ) (cwV 0 htA (gdV wd_326 wd_327 wd_328 wd_1 wd_329) rfl rfl rfl (by decide +kernel) ⟨Nat.le_of_ble_eq_true rfl, Nat.le_of_ble_eq_true rfl⟩) hKK hP 0 rfl rfl rfl hl.1 rfl (Nat.le_of_ble_eq_true rfl) dL_law_376 hcs hss ?_
      refine wrV1 (v := .int (b2i (!(decide ((sk σ j ((v9 / 600) % 4) 1) 5 j = wn ((sk σ j ((v9 / 600) % 4) 1) 5 j) ((v9 / 600) % 4) (nb 1)))))) (As := [.int (nI (j)), .int (nI ((v9 / 600) % 4)), .int (nI (1)), .int (nI ((sk σ j ((v9 / 600) % 4) 1) 7 0))]) (rest := []) (n := 4) ⟨hx, hb, hml, hown, htA⟩ (kc_flagIf l D cI cZ sa q (sk σ j ((v9 / 600) % 4) 1) K j ((v9 / 600) % 4) 1 (adr (wX q cI cZ (sk σ j ((v9 / 600) % 4) 1) (K 0) (K 1))) (D_adr (P_DX hD)) J2 (by omega) h42 (by omega) (by omega)) (cwV 4 htA (gdV wd_317 wd_318 wd_319 wd_1 wd_320) rfl rfl rfl (by decide +kernel) ⟨Nat.le_of_ble_eq_true rfl, Nat.le_of_ble_eq_true rfl⟩) hKK (P_X hP) 0 rfl rfl rfl hl.1 rfl (Nat.le_of_ble_eq_true rfl) dL_law_379 hcs hss hS (fun a h => adr_in (P_DX hD) a h) (fun H1 locs hP1 hz1 hk1 hS => ?_)
      have hP : va_P D vwCl (wP q qg qb qw cI cZ (sk (sk σ j ((v9 / 600) % 4) 1) j ((v9 / 600) % 4) 1) K g b w) H1 := P_putX hD hP hk1 hP1
      have hD : va_D A (wP q qg qb qw cI cZ (sk (sk σ j ((v9 / 600) % 4) 1) j ((v9 / 600) % 4) 1) K g b w) := D_addr hD rfl
      generalize H1 = H at hP hS ⊢
      refine b_ifne (b := !(decide ((sk σ j ((v9 / 600) % 4) 1) 5 j = wn ((sk σ j ((v9 / 600) % 4) 1) 5 j) ((v9 / 600) % 4) (nb 1)))) (tgt := 389) hx hb dL_law_382 (by decide) (fun c_13 => ?_) (fun c_13 => ?_)
      · rw [decide_eq_true id9] at c_13; exact absurd c_13 (by decide)
      refine n_iconst (k := 1) hx hb dL_law_385 (by decide) ?_
      refine lv_goto (tgt := 390) hx hb dL_law_386 (by decide) ?_
      refine lv_istore (lv' := [(10, .int (nI (1))), (16, .int (b2i (!(decide (σ 5 j = wn (σ 5 j) ((v9 / 600) % 4) (nb 1)))))), (15, .int (nI (σ 7 0))), (0, .ref (b9)), (1, .ref (q 0)), (2, .ref (qg)), (3, .ref (qb)), (4, .ref (qw)), (5, .int (nI (σ 1 0))), (6, .int (nI (st))), (7, .int (nI (M))), (8, .int (nI (F))), (9, .int (nI (bx))), (11, .int (nI (n))), (12, .int (nI (v9))), (13, .int (nI (j)))]) hx hb dL_law_390 hl (by decide) rfl (fun ls hl => ?_)
      refine lv_goto (tgt := 739) hx hb dL_law_392 (by decide) ?_
      have ec : (sk (sk σ j ((v9 / 600) % 4) 1) j ((v9 / 600) % 4) 1) 1 0 = σ 1 0 := sk_f.1.trans sk_f.1
      exact kk _ _ _ _ _ _ _ _ _ _ _ _ (LI_flag I hn hj (by omega)) ⟨hP, hD, hS, by rw [ec]; exact lv_sub hl [3, 4, 5, 6, 7, 8, 9, 10, 11, 12, 0, 13] rfl⟩
    · rw [c_10, cond_true] at e7
      refine lv_iload hx hb dL_law_336 (lv_at hl 1 rfl) ?_
      refine n_iconst (k := 1) hx hb dL_law_338 (by decide) ?_
      refine n_iadd hx hb dL_law_339 ?_
      refine lv_goto (tgt := 345) hx hb dL_law_340 (by decide) ?_
      refine n_icmp_ne (x := (sk σ j ((v9 / 600) % 4) 1) 7 0) (y := (σ 7 0) + 1) (tgt := 389) hx hb dL_law_345 (by decide) (by omega) (by omega) (fun c_14 => ?_) (fun c_14 => ?_)
      · exfalso; omega
      have J2 : JS (sk σ j ((v9 / 600) % 4) 1) := JS_sk J hj (by omega) (by omega)
      have h42 : (sk σ j ((v9 / 600) % 4) 1) 4 j ≠ 0 := by rw [sk_f.2.1]; exact h40
      have id9 := sk_idem (σ := σ) (j := j) (k := (v9 / 600) % 4) (w := 1) (J.2.2.2.1 j) (by omega)
      refine lv_aload_n hx hb dL_law_348 rfl (lv_at hl 3 rfl) ?_
      refine lv_iload hx hb dL_law_349 (lv_at hl 15 rfl) ?_
      refine lv_iload hx hb dL_law_351 (lv_at hl 14 rfl) ?_
      refine lv_sipush (v := nI 600) hx hb dL_law_353 (by decide) ?_
      refine n_idiv hx hb (by omega) (by omega) (by decide) dL_law_356 ?_
      refine n_iconst (k := 4) hx hb dL_law_357 (by decide) ?_
      refine n_irem hx hb (by omega) (by omega) (by decide) dL_law_358 ?_
      refine lv_iload hx hb dL_law_359 (lv_at hl 14 rfl) ?_
      refine lv_sipush (v := nI 2400) hx hb dL_law_361 (by decide) ?_
      refine n_idiv hx hb (by omega) (by omega) (by decide) dL_law_364 ?_
      refine n_iconst (k := 2) hx hb dL_law_365 (by decide) ?_
      refine n_irem hx hb (by omega) (by omega) (by decide) dL_law_366 ?_
      refine n_ifne (x := (v9 / 2400) % 2) (tgt := 374) hx hb dL_law_367 (by decide) (by omega) (fun c_15 => ?_) (fun c_15 => ?_)
      · exfalso; omega
      refine n_iconst (k := 1) hx hb dL_law_370 (by decide) ?_
      refine lv_goto (tgt := 375) hx hb dL_law_371 (by decide) ?_
      refine lv_aload_n hx hb dL_law_375 rfl (lv_at hl 3 rfl) ?_
      refine roV1 (v := .int (nI ((sk σ j ((v9 / 600) % 4) 1) 7 0))) (As := []) (rest := [.int (nI (1)), .int (nI ((v9 / 600) % 4)), .int (nI (j)), .ref (q 0)]) (n := 0) ⟨hx, hb, hml, hown, htA⟩ (kc_state l D cI cZ sa q (sk σ j ((v9 / 600) % 4) 1) K  H (P_X hP) ) (cwV 0 htA (gdV wd_326 wd_327 wd_328 wd_1 wd_329) rfl rfl rfl (by decide +kernel) ⟨Nat.le_of_ble_eq_true rfl, Nat.le_of_ble_eq_true rfl⟩) hKK hP 0 rfl rfl rfl hl.1 rfl (Nat.le_of_ble_eq_true rfl) dL_law_376 hcs hss ?_
      refine wrV1 (v := .int (b2i (!(decide ((sk σ j ((v9 / 600) % 4) 1) 5 j = wn ((sk σ j ((v9 / 600) % 4) 1) 5 j) ((v9 / 600) % 4) (nb 1)))))) (As := [.int (nI (j)), .int (nI ((v9 / 600) % 4)), .int (nI (1)), .int (nI ((sk σ j ((v9 / 600) % 4) 1) 7 0))]) (rest := []) (n := 4) ⟨hx, hb, hml, hown, htA⟩ (kc_flagIf l D cI cZ sa q (sk σ j ((v9 / 600) % 4) 1) K j ((v9 / 600) % 4) 1 (adr (wX q cI cZ (sk σ j ((v9 / 600) % 4) 1) (K 0) (K 1))) (D_adr (P_DX hD)) J2 (by omega) h42 (by omega) (by omega)) (cwV 4 htA (gdV wd_317 wd_318 wd_319 wd_1 wd_320) rfl rfl rfl (by decide +kernel) ⟨Nat.le_of_ble_eq_true rfl, Nat.le_of_ble_eq_true rfl⟩) hKK (P_X hP) 0 rfl rfl rfl hl.1 rfl (Nat.le_of_ble_eq_true rfl) dL_law_379 hcs hss hS (fun a h => adr_in (P_DX hD) a h) (fun H1 locs hP1 hz1 hk1 hS => ?_)
      have hP : va_P D vwCl (wP q qg qb qw cI cZ (sk (sk σ j ((v9 / 600) % 4) 1) j ((v9 / 600) % 4) 1) K g b w) H1 := P_putX hD hP hk1 hP1
      have hD : va_D A (wP q qg qb qw cI cZ (sk (sk σ j ((v9 / 600) % 4) 1) j ((v9 / 600) % 4) 1) K g b w) := D_addr hD rfl
      generalize H1 = H at hP hS ⊢
      refine b_ifne (b := !(decide ((sk σ j ((v9 / 600) % 4) 1) 5 j = wn ((sk σ j ((v9 / 600) % 4) 1) 5 j) ((v9 / 600) % 4) (nb 1)))) (tgt := 389) hx hb dL_law_382 (by decide) (fun c_16 => ?_) (fun c_16 => ?_)
      · rw [decide_eq_true id9] at c_16; exact absurd c_16 (by decide)
      refine n_iconst (k := 1) hx hb dL_law_385 (by decide) ?_
      refine lv_goto (tgt := 390) hx hb dL_law_386 (by decide) ?_
      refine lv_istore (lv' := [(10, .int (nI (1))), (16, .int (b2i (!(decide (σ 5 j = wn (σ 5 j) ((v9 / 600) % 4) (nb 1)))))), (15, .int (nI (σ 7 0))), (0, .ref (b9)), (1, .ref (q 0)), (2, .ref (qg)), (3, .ref (qb)), (4, .ref (qw)), (5, .int (nI (σ 1 0))), (6, .int (nI (st))), (7, .int (nI (M))), (8, .int (nI (F))), (9, .int (nI (bx))), (11, .int (nI (n))), (12, .int (nI (v9))), (13, .int (nI (j)))]) hx hb dL_law_390 hl (by decide) rfl (fun ls hl => ?_)
      refine lv_goto (tgt := 739) hx hb dL_law_392 (by decide) ?_
      have ec : (sk (sk σ j ((v9 / 600) % 4) 1) j ((v9 / 600) % 4) 1) 1 0 = σ 1 0 := sk_f.1.trans sk_f.1
      exact kk _ _ _ _ _ _ _ _ _ _ _ _ (LI_flag I hn hj (by omega)) ⟨hP, hD, hS, by rw [ec]; exact lv_sub hl [3, 4, 5, 6, 7, 8, 9, 10, 11, 12, 0, 13] rfl⟩
set_option maxHeartbeats 4000000 in
set_option maxRecDepth 100000 in
theorem law_destroy {p : Program} {l : Launch} {e : Env} {s : State} {m : MethodId} {args : Array Value} {below : List Frame} {meth : Method} {c : Code} {H : Heap} {locs : List Loc} {ls : Array Slot} {cells slots : Nat} {Q : State → Prop} {A : Nat → Prop} {D : va_G} {cI cZ : ClassId} {sa q : Nat → Nat} {qg qb qw b9 L n : Nat} {xs : Nat → Int32} {σ : ST} {K : Nat → ST} {g b w : Nat → Nat} {st M bx F : Nat} {v9 j : Nat} (C : LawC p s m args c A D cI cZ sa b9 L xs) (hcs : cells ≤ room_1.cells) (hss : slots ≤ room_1.slots) (hn : n < 90) (I : LI n σ K g b w st M bx F f0) (hP : va_P D vwCl (wP q qg qb qw cI cZ σ K g b w) H) (hD : va_D A (wP q qg qb qw cI cZ σ K g b w)) (hS : va_S A s.heap H locs) (hv : v9 < 2147483648) (hj : j < σ 1 0) (hg : g j = 0) (hl : lv_has ls 17 [(0, .ref (b9)), (1, .ref (q 0)), (2, .ref (qg)), (3, .ref (qb)), (4, .ref (qw)), (5, .int (nI (σ 1 0))), (6, .int (nI (st))), (7, .int (nI (M))), (8, .int (nI (F))), (9, .int (nI (bx))), (10, .int (nI (1))), (11, .int (nI (n))), (12, .int (nI (v9))), (13, .int (nI (j)))])
    (kk : ∀ (σ1 : ST) (K1 : Nat → ST) (g1 b1 w1 : Nat → Nat) (st1 M1 bx1 F1 : Nat) (H1 : Heap) (locs1 : List Loc) (ls1 : Array Slot), LI (n + 1) σ1 K1 g1 b1 w1 st1 M1 bx1 F1 f0 → LawS s A D cI cZ q qg qb qw b9 n σ1 K1 g1 b1 w1 st1 M1 bx1 F1 H1 locs1 ls1 → W p l e room_1 s m args below meth c H1 locs1 cells slots Q (F0 m 739 ls1 [])) : W p l e room_1 s m args below meth c H locs cells slots Q (F0 m 395 ls []) := by
  obtain ⟨hx, hb, hml, hown, htA, hX, hbl, hKK, hL, hbA⟩ := C
  obtain ⟨J, S9, hbx, h7, G, CC⟩ := id I
  have h60 := J.1
  have h40 := ((G j).2.1 hj).mp hg
  refine lv_iload hx hb dL_law_395 (lv_at hl 13 rfl) ?_
  refine n_iflt (tgt := 739) hx hb dL_law_397 (by decide) (by omega) ?_
  refine lv_iload hx hb dL_law_400 (lv_at hl 12 rfl) ?_
  refine lv_sipush (v := nI 600) hx hb dL_law_402 (by decide) ?_
  refine n_idiv hx hb (by omega) (by omega) (by decide) dL_law_405 ?_
  refine n_iconst (k := 2) hx hb dL_law_406 (by decide) ?_
  refine n_irem hx hb (by omega) (by omega) (by decide) dL_law_407 ?_
  refine n_ifne (x := (v9 / 600) % 2) (tgt := 739) hx hb dL_law_408 (by decide) (by omega) (fun c_2 => ?_) (fun c_2 => ?_)
  · exact kk _ _ _ _ _ _ _ _ _ _ _ _ (LI_up I) ⟨hP, hD, hS, lv_sub hl [0, 1, 2, 3, 4, 5, 6, 7, 8, 9, 10, 11] rfl⟩
  · refine lv_aload_n hx hb dL_law_411 rfl (lv_at hl 2 rfl) ?_
    refine lv_iload hx hb dL_law_412 (lv_at hl 13 rfl) ?_
    refine n_iconst (k := 1) hx hb dL_law_414 (by decide) ?_
    refine n_iast (g := g) (cA := cI) (n := 60) (j := j) (v := 1) hx hb hKK.1 hP (D_addr hD rfl) hS 24 0 rfl rfl (by omega) (Nat.le_of_ble_eq_true rfl) dL_law_415 (fun H locs hP hS => ?_)
    have hP : va_P D vwCl (wP q qg qb qw cI cZ σ K (upN g (j) (1)) b w) H := hP
    have hD : va_D A (wP q qg qb qw cI cZ σ K (upN g (j) (1)) b w) := D_addr hD rfl
    refine lv_aload_n hx hb dL_law_416 rfl (lv_at hl 1 rfl) ?_
    refine lv_iload hx hb dL_law_417 (lv_at hl 13 rfl) ?_
    refine wrV1 (v := .int (nI (σ 7 0 + 1))) (As := [.int (nI (j))]) (rest := []) (n := 1) ⟨hx, hb, hml, hown, htA⟩ (kc_destroy l D cI cZ sa q σ K j (adr (wX q cI cZ σ (K 0) (K 1))) (D_adr (P_DX hD)) J (by omega) h40) (cwV 1 htA (gdV wd_322 wd_323 wd_324 wd_1 wd_325) rfl rfl rfl (by decide +kernel) ⟨Nat.le_of_ble_eq_true rfl, Nat.le_of_ble_eq_true rfl⟩) hKK (P_X hP) 0 rfl rfl rfl hl.1 rfl (Nat.le_of_ble_eq_true rfl) dL_law_419 hcs hss hS (fun a h => adr_in (P_DX hD) a h) (fun H1 locs hP1 hz1 hk1 hS => ?_)
    have hP : va_P D vwCl (wP q qg qb qw cI cZ (chg σ j 0 (σ 5 j)) K (upN g (j) (1)) b w) H1 := P_putX hD hP hk1 hP1
    have hD : va_D A (wP q qg qb qw cI cZ (chg σ j 0 (σ 5 j)) K (upN g (j) (1)) b w) := D_addr hD rfl
    generalize H1 = H at hP hS ⊢
    refine lv_aload_n hx hb dL_law_422 rfl (lv_at hl 1 rfl) ?_
    refine roV1 (v := .int (nI ((chg σ j 0 (σ 5 j)) 7 0))) (As := []) (rest := [.int (nI (σ 7 0 + 1))]) (n := 0) ⟨hx, hb, hml, hown, htA⟩ (kc_state l D cI cZ sa q (chg σ j 0 (σ 5 j)) K  H (P_X hP) ) (cwV 0 htA (gdV wd_326 wd_327 wd_328 wd_1 wd_329) rfl rfl rfl (by decide +kernel) ⟨Nat.le_of_ble_eq_true rfl, Nat.le_of_ble_eq_true rfl⟩) hKK hP 0 rfl rfl rfl hl.1 rfl (Nat.le_of_ble_eq_true rfl) dL_law_423 hcs hss ?_
    refine n_icmp_ne (x := σ 7 0 + 1) (y := (chg σ j 0 (σ 5 j)) 7 0) (tgt := 433) hx hb dL_law_426 (by decide) (by omega) (by show σ 7 0 + 1 < _; omega) (fun c_3 => ?_) (fun c_3 => ?_)
    · exact absurd rfl c_3
    refine n_iconst (k := 1) hx hb dL_law_429 (by decide) ?_
    refine lv_goto (tgt := 434) hx hb dL_law_430 (by decide) ?_
    refine lv_istore (lv' := [(10, .int (nI (1))), (0, .ref (b9)), (1, .ref (q 0)), (2, .ref (qg)), (3, .ref (qb)), (4, .ref (qw)), (5, .int (nI (σ 1 0))), (6, .int (nI (st))), (7, .int (nI (M))), (8, .int (nI (F))), (9, .int (nI (bx))), (11, .int (nI (n))), (12, .int (nI (v9))), (13, .int (nI (j)))]) hx hb dL_law_434 hl (by decide) rfl (fun ls hl => ?_)
    refine lv_goto (tgt := 739) hx hb dL_law_436 (by decide) ?_
    exact kk _ _ _ _ _ _ _ _ _ _ _ _ (LI_destroy I hn hj) ⟨hP, hD, hS, lv_sub hl [1, 2, 3, 4, 5, 6, 7, 8, 9, 10, 0, 11] rfl⟩
theorem law_nomail220 {p : Program} {l : Launch} {e : Env} {s : State} {m : MethodId} {args : Array Value} {below : List Frame} {meth : Method} {c : Code} {H : Heap} {locs : List Loc} {ls : Array Slot} {cells slots : Nat} {Q : State → Prop} {A : Nat → Prop} {D : va_G} {cI cZ : ClassId} {sa q : Nat → Nat} {qg qb qw b9 L n : Nat} {xs : Nat → Int32} {σ : ST} {K : Nat → ST} {g b w : Nat → Nat} {st M bx F : Nat} (C : LawC p s m args c A D cI cZ sa b9 L xs) (hl : lv_has ls 17 [(0, .ref (b9)), (1, .ref (q 0)), (2, .ref (qg)), (3, .ref (qb)), (4, .ref (qw)), (5, .int (nI (σ 1 0))), (6, .int (nI (st))), (7, .int (nI (M))), (8, .int (nI (F))), (9, .int (nI (bx))), (10, .int (nI (1))), (11, .int (nI (n))), (13, .int (oi (0)))]) (kk : W p l e room_1 s m args below meth c H locs cells slots Q (F0 m 739 ls [])) : W p l e room_1 s m args below meth c H locs cells slots Q (F0 m 220 ls []) := by
  obtain ⟨hx, hb, -⟩ := C
  refine lv_iload hx hb dL_law_220 (lv_at hl 12 rfl) ?_
  exact lv_if_lt (tgt := 739) hx hb dL_law_222 (by decide) (fun _ => kk) (fun h => absurd (by decide) h)
theorem law_nomail284 {p : Program} {l : Launch} {e : Env} {s : State} {m : MethodId} {args : Array Value} {below : List Frame} {meth : Method} {c : Code} {H : Heap} {locs : List Loc} {ls : Array Slot} {cells slots : Nat} {Q : State → Prop} {A : Nat → Prop} {D : va_G} {cI cZ : ClassId} {sa q : Nat → Nat} {qg qb qw b9 L n : Nat} {xs : Nat → Int32} {σ : ST} {K : Nat → ST} {g b w : Nat → Nat} {st M bx F : Nat} (C : LawC p s m args c A D cI cZ sa b9 L xs) (hl : lv_has ls 17 [(0, .ref (b9)), (1, .ref (q 0)), (2, .ref (qg)), (3, .ref (qb)), (4, .ref (qw)), (5, .int (nI (σ 1 0))), (6, .int (nI (st))), (7, .int (nI (M))), (8, .int (nI (F))), (9, .int (nI (bx))), (10, .int (nI (1))), (11, .int (nI (n))), (13, .int (oi (0)))]) (kk : W p l e room_1 s m args below meth c H locs cells slots Q (F0 m 739 ls [])) : W p l e room_1 s m args below meth c H locs cells slots Q (F0 m 284 ls []) := by
  obtain ⟨hx, hb, -⟩ := C
  refine lv_iload hx hb dL_law_284 (lv_at hl 12 rfl) ?_
  exact lv_if_lt (tgt := 739) hx hb dL_law_286 (by decide) (fun _ => kk) (fun h => absurd (by decide) h)
theorem law_nomail395 {p : Program} {l : Launch} {e : Env} {s : State} {m : MethodId} {args : Array Value} {below : List Frame} {meth : Method} {c : Code} {H : Heap} {locs : List Loc} {ls : Array Slot} {cells slots : Nat} {Q : State → Prop} {A : Nat → Prop} {D : va_G} {cI cZ : ClassId} {sa q : Nat → Nat} {qg qb qw b9 L n : Nat} {xs : Nat → Int32} {σ : ST} {K : Nat → ST} {g b w : Nat → Nat} {st M bx F : Nat} (C : LawC p s m args c A D cI cZ sa b9 L xs) (hl : lv_has ls 17 [(0, .ref (b9)), (1, .ref (q 0)), (2, .ref (qg)), (3, .ref (qb)), (4, .ref (qw)), (5, .int (nI (σ 1 0))), (6, .int (nI (st))), (7, .int (nI (M))), (8, .int (nI (F))), (9, .int (nI (bx))), (10, .int (nI (1))), (11, .int (nI (n))), (13, .int (oi (0)))]) (kk : W p l e room_1 s m args below meth c H locs cells slots Q (F0 m 739 ls [])) : W p l e room_1 s m args below meth c H locs cells slots Q (F0 m 395 ls []) := by
  obtain ⟨hx, hb, -⟩ := C
  refine lv_iload hx hb dL_law_395 (lv_at hl 12 rfl) ?_
  exact lv_if_lt (tgt := 739) hx hb dL_law_397 (by decide) (fun _ => kk) (fun h => absurd (by decide) h)
theorem upN_upN (g : Nat → Nat) (k a b : Nat) : upN (upN g k a) k b = upN g k b := by
  funext i; unfold upN; split <;> rfl
theorem upN_self0 {cl : Nat} : upN f0 cl 0 = f0 := by
  funext i; unfold upN f0; split <;> rfl
set_option maxHeartbeats 4000000 in
set_option maxRecDepth 100000 in
theorem law_off {p : Program} {l : Launch} {e : Env} {s : State} {m : MethodId} {args : Array Value} {below : List Frame} {meth : Method} {c : Code} {H : Heap} {locs : List Loc} {ls : Array Slot} {cells slots : Nat} {Q : State → Prop} {A : Nat → Prop} {D : va_G} {cI cZ : ClassId} {sa q : Nat → Nat} {qg qb qw b9 L n : Nat} {xs : Nat → Int32} {σ : ST} {K : Nat → ST} {g b w : Nat → Nat} {st M bx F : Nat} {v9 cl : Nat} (C : LawC p s m args c A D cI cZ sa b9 L xs) (hcs : cells ≤ room_1.cells) (hss : slots ≤ room_1.slots) (hn : n < 90) (I : LI n σ K g b w st M bx F f0) (hP : va_P D vwCl (wP q qg qb qw cI cZ σ K g b w) H) (hD : va_D A (wP q qg qb qw cI cZ σ K g b w)) (hS : va_S A s.heap H locs) (hv : v9 < 2147483648) (hcl : cl < 2) (hl : lv_has ls 17 [(0, .ref (b9)), (1, .ref (q 0)), (2, .ref (qg)), (3, .ref (qb)), (4, .ref (qw)), (5, .int (nI (σ 1 0))), (6, .int (nI (st))), (7, .int (nI (M))), (8, .int (nI (F))), (9, .int (nI (bx))), (10, .int (nI (1))), (11, .int (nI (n))), (12, .int (nI (v9))), (14, .int (nI (cl)))])
    (kk : ∀ (σ1 : ST) (K1 : Nat → ST) (g1 b1 w1 : Nat → Nat) (st1 M1 bx1 F1 : Nat) (H1 : Heap) (locs1 : List Loc) (ls1 : Array Slot), LI (n + 1) σ1 K1 g1 b1 w1 st1 M1 bx1 F1 f0 → LawS s A D cI cZ q qg qb qw b9 n σ1 K1 g1 b1 w1 st1 M1 bx1 F1 H1 locs1 ls1 → W p l e room_1 s m args below meth c H1 locs1 cells slots Q (F0 m 739 ls1 [])) : W p l e room_1 s m args below meth c H locs cells slots Q (F0 m 439 ls []) := by
  obtain ⟨hx, hb, hml, hown, htA, hX, hbl, hKK, hL, hbA⟩ := C
  obtain ⟨J, S9, hbx, h7, G, CC⟩ := id I
  have h60 := J.1
  refine n_iconst (k := 0) hx hb dL_law_439 (by decide) ?_
  refine lv_istore (lv' := [(15, .int (nI (0))), (0, .ref (b9)), (1, .ref (q 0)), (2, .ref (qg)), (3, .ref (qb)), (4, .ref (qw)), (5, .int (nI (σ 1 0))), (6, .int (nI (st))), (7, .int (nI (M))), (8, .int (nI (F))), (9, .int (nI (bx))), (10, .int (nI (1))), (11, .int (nI (n))), (12, .int (nI (v9))), (14, .int (nI (cl)))]) hx hb dL_law_440 hl (by decide) rfl (fun ls hl => ?_)
  have loop_442 : ∀ (n9 : Nat) (K9 : Nat → ST) (k : Nat) (H : Heap) (locs : List Loc), (k + n9 = 2) → (LI n σ K9 g b w st M bx F (upN f0 cl k)) → va_P D vwCl (wP q qg qb qw cI cZ σ K9 g b w) H → va_S A s.heap H locs → ∀ (ls : Array Slot), lv_has ls 17 [(0, .ref (b9)), (1, .ref (q 0)), (2, .ref (qg)), (3, .ref (qb)), (4, .ref (qw)), (5, .int (nI (σ 1 0))), (6, .int (nI (st))), (7, .int (nI (M))), (8, .int (nI (F))), (9, .int (nI (bx))), (10, .int (nI (1))), (11, .int (nI (n))), (12, .int (nI (v9))), (14, .int (nI (cl))), (15, .int (nI (k)))] → W p l e room_1 s m args below meth c H locs cells slots Q (F0 m 442 ls []) := by
    intro n9
    induction n9 with
    | zero =>
      intro K9 k H locs hk I9 hP hS ls hl
      have CC := I9.2.2.2.2.2
      have h10 := (CC cl hcl).1.2.2.2.2.1
      have e5 := (CC cl hcl).2.1
      have e3 := (CC cl hcl).2.2.1
      rw [upN_same] at e5
      have hD : va_D A (wP q qg qb qw cI cZ σ K9 g b w) := D_addr hD rfl
      refine lv_iload hx hb dL_law_442 (lv_at hl 14 rfl) ?_
      refine lv_aload_n hx hb dL_law_444 rfl (lv_at hl 1 rfl) ?_
      refine lv_iload hx hb dL_law_445 (lv_at hl 13 rfl) ?_
      refine roV1 (v := .int (nI (K9 cl 0 4))) (As := [.int (nI (cl))]) (rest := [.int (nI (k))]) (n := 1) ⟨hx, hb, hml, hown, htA⟩ (kc_window l D cI cZ sa q σ K9 cl H (P_X hP) hcl) (cwV 1 htA (gdV wd_449 wd_450 wd_451 wd_1 wd_452) rfl rfl rfl (by decide +kernel) ⟨Nat.le_of_ble_eq_true rfl, Nat.le_of_ble_eq_true rfl⟩) hKK hP 0 rfl rfl rfl hl.1 rfl (Nat.le_of_ble_eq_true rfl) dL_law_447 hcs hss ?_
      refine n_icmp_ge (x := k) (y := K9 cl 0 4) (tgt := 550) hx hb dL_law_450 (by decide) (by omega) (by omega) (fun c_1 => ?_) (fun c_1 => ?_)
      · refine lv_iload hx hb dL_law_550 (lv_at hl 10 rfl) ?_
        refine b_ifeq (b := true) (tgt := 586) hx hb dL_law_552 (by decide) (fun c_2 => ?_) (fun c_2 => ?_)
        · exact absurd c_2 (by decide)
        refine lv_aload_n hx hb dL_law_555 rfl (lv_at hl 1 rfl) ?_
        refine lv_iload hx hb dL_law_556 (lv_at hl 13 rfl) ?_
        refine wrV1 (v := .int (nI (K9 cl 0 5 - syB σ (syK σ (K9 cl)) 0 5))) (As := [.int (nI (cl))]) (rest := []) (n := 1) ⟨hx, hb, hml, hown, htA⟩ (kc_sync l D cI cZ sa q σ K9 cl (adr (wX q cI cZ σ (K9 0) (K9 1))) (D_adr (P_DX hD)) hcl J (by omega) (CC cl hcl).1 (by omega) (by omega)) (cwV 1 htA (gdV wd_397 wd_398 wd_399 wd_1 wd_400) rfl rfl rfl (by decide +kernel) ⟨Nat.le_of_ble_eq_true rfl, Nat.le_of_ble_eq_true rfl⟩) hKK (P_X hP) 0 rfl rfl rfl hl.1 rfl (Nat.le_of_ble_eq_true rfl) dL_law_558 hcs hss hS (fun a h => adr_in (P_DX hD) a h) (fun H1 locs hP1 hz1 hk1 hS => ?_)
        have hP : va_P D vwCl (wP q qg qb qw cI cZ (syS σ (syK σ (K9 cl))) (upK K9 cl (syD σ (syK σ (K9 cl)))) g b w) H1 := P_putX hD hP hk1 hP1
        have hD : va_D A (wP q qg qb qw cI cZ (syS σ (syK σ (K9 cl))) (upK K9 cl (syD σ (syK σ (K9 cl)))) g b w) := D_addr hD rfl
        generalize H1 = H at hP hS ⊢
        obtain ⟨I3, Fr, ec⟩ := LI_sync I9 hn hcl (f0_z cl k) (by rw [upN_same]; omega)
        have C3 := I3.2.2.2.2.2 cl hcl
        refine n_iflt (tgt := 586) hx hb dL_law_561 (by decide) (by omega) ?_
        refine lv_aload_n hx hb dL_law_564 rfl (lv_at hl 1 rfl) ?_
        refine lv_iload hx hb dL_law_565 (lv_at hl 13 rfl) ?_
        refine lv_aload_n hx hb dL_law_567 rfl (lv_at hl 3 rfl) ?_
        refine lv_iload hx hb dL_law_568 (lv_at hl 13 rfl) ?_
        refine n_iald (g := b) (cA := cI) (n := 2) (j := cl) hx hb hKK.1 hP 25 0 rfl rfl (by omega) (Nat.le_of_ble_eq_true rfl) dL_law_570 ?_
        refine lv_aload hx hb dL_law_571 (lv_at hl 4 rfl) ?_
        refine lv_iload hx hb dL_law_573 (lv_at hl 13 rfl) ?_
        refine n_iald (g := w) (cA := cI) (n := 2) (j := cl) hx hb hKK.1 hP 26 0 rfl rfl (by omega) (Nat.le_of_ble_eq_true rfl) dL_law_575 ?_
        refine roS1 (v := .int (b2i (true))) (As := [.ref (q 0), .int (nI (cl)), .int (nI (b cl)), .int (nI (w cl))]) (rest := []) (n := 4) ⟨hx, hb, hml, hown, htA⟩ (kc_isFresh l D cI cZ sa q (syS σ (syK σ (K9 cl))) (upK K9 cl (syD σ (syK σ (K9 cl)))) cl (b cl) (w cl) H (P_X hP) hcl I3.1 C3.1 Fr C3.2.2.2.1 C3.2.2.2.2) (va_cwS 4 htA (gdS wd_469 wd_470 wd_0 wd_471) rfl rfl rfl (by decide +kernel) ⟨Nat.le_of_ble_eq_true rfl, Nat.le_of_ble_eq_true rfl⟩) hKK rfl hl.1 rfl (Nat.le_of_ble_eq_true rfl) dL_law_576 hcs hss ?_
        refine b_ifeq (b := true) (tgt := 586) hx hb dL_law_579 (by decide) (fun c_4 => ?_) (fun c_4 => ?_)
        · exact absurd c_4 (by decide)
        refine n_iconst (k := 1) hx hb dL_law_582 (by decide) ?_
        refine lv_goto (tgt := 587) hx hb dL_law_583 (by decide) ?_
        refine lv_istore (lv' := [(10, .int (nI (1))), (0, .ref (b9)), (1, .ref (q 0)), (2, .ref (qg)), (3, .ref (qb)), (4, .ref (qw)), (5, .int (nI (σ 1 0))), (6, .int (nI (st))), (7, .int (nI (M))), (8, .int (nI (F))), (9, .int (nI (bx))), (11, .int (nI (n))), (12, .int (nI (v9))), (14, .int (nI (cl))), (15, .int (nI (k)))]) hx hb dL_law_587 hl (by decide) rfl (fun ls hl => ?_)
        refine lv_goto (tgt := 739) hx hb dL_law_589 (by decide) ?_
        exact kk _ _ _ _ _ _ _ _ _ _ _ _ (I3) ⟨hP, hD, hS, by rw [ec]; exact lv_sub hl [1, 2, 3, 4, 5, 6, 7, 8, 9, 10, 0, 11] rfl⟩
      · refine lv_iload hx hb dL_law_453 (lv_at hl 14 rfl) ?_
        refine n_iconst (k := 2) hx hb dL_law_455 (by decide) ?_
        refine n_icmp_ge (x := k) (y := 2) (tgt := 550) hx hb dL_law_456 (by decide) (by omega) (by decide) (fun c_5 => ?_) (fun c_5 => ?_)
        rotate_left
        · exfalso; omega
        refine lv_iload hx hb dL_law_550 (lv_at hl 10 rfl) ?_
        refine b_ifeq (b := true) (tgt := 586) hx hb dL_law_552 (by decide) (fun c_6 => ?_) (fun c_6 => ?_)
        · exact absurd c_6 (by decide)
        refine lv_aload_n hx hb dL_law_555 rfl (lv_at hl 1 rfl) ?_
        refine lv_iload hx hb dL_law_556 (lv_at hl 13 rfl) ?_
        refine wrV1 (v := .int (nI (K9 cl 0 5 - syB σ (syK σ (K9 cl)) 0 5))) (As := [.int (nI (cl))]) (rest := []) (n := 1) ⟨hx, hb, hml, hown, htA⟩ (kc_sync l D cI cZ sa q σ K9 cl (adr (wX q cI cZ σ (K9 0) (K9 1))) (D_adr (P_DX hD)) hcl J (by omega) (CC cl hcl).1 (by omega) (by omega)) (cwV 1 htA (gdV wd_397 wd_398 wd_399 wd_1 wd_400) rfl rfl rfl (by decide +kernel) ⟨Nat.le_of_ble_eq_true rfl, Nat.le_of_ble_eq_true rfl⟩) hKK (P_X hP) 0 rfl rfl rfl hl.1 rfl (Nat.le_of_ble_eq_true rfl) dL_law_558 hcs hss hS (fun a h => adr_in (P_DX hD) a h) (fun H1 locs hP1 hz1 hk1 hS => ?_)
        have hP : va_P D vwCl (wP q qg qb qw cI cZ (syS σ (syK σ (K9 cl))) (upK K9 cl (syD σ (syK σ (K9 cl)))) g b w) H1 := P_putX hD hP hk1 hP1
        have hD : va_D A (wP q qg qb qw cI cZ (syS σ (syK σ (K9 cl))) (upK K9 cl (syD σ (syK σ (K9 cl)))) g b w) := D_addr hD rfl
        generalize H1 = H at hP hS ⊢
        obtain ⟨I3, Fr, ec⟩ := LI_sync I9 hn hcl (f0_z cl k) (by rw [upN_same]; omega)
        have C3 := I3.2.2.2.2.2 cl hcl
        refine n_iflt (tgt := 586) hx hb dL_law_561 (by decide) (by omega) ?_
        refine lv_aload_n hx hb dL_law_564 rfl (lv_at hl 1 rfl) ?_
        refine lv_iload hx hb dL_law_565 (lv_at hl 13 rfl) ?_
        refine lv_aload_n hx hb dL_law_567 rfl (lv_at hl 3 rfl) ?_
        refine lv_iload hx hb dL_law_568 (lv_at hl 13 rfl) ?_
        refine n_iald (g := b) (cA := cI) (n := 2) (j := cl) hx hb hKK.1 hP 25 0 rfl rfl (by omega) (Nat.le_of_ble_eq_true rfl) dL_law_570 ?_
        refine lv_aload hx hb dL_law_571 (lv_at hl 4 rfl) ?_
        refine lv_iload hx hb dL_law_573 (lv_at hl 13 rfl) ?_
        refine n_iald (g := w) (cA := cI) (n := 2) (j := cl) hx hb hKK.1 hP 26 0 rfl rfl (by omega) (Nat.le_of_ble_eq_true rfl) dL_law_575 ?_
        refine roS1 (v := .int (b2i (true))) (As := [.ref (q 0), .int (nI (cl)), .int (nI (b cl)), .int (nI (w cl))]) (rest := []) (n := 4) ⟨hx, hb, hml, hown, htA⟩ (kc_isFresh l D cI cZ sa q (syS σ (syK σ (K9 cl))) (upK K9 cl (syD σ (syK σ (K9 cl)))) cl (b cl) (w cl) H (P_X hP) hcl I3.1 C3.1 Fr C3.2.2.2.1 C3.2.2.2.2) (va_cwS 4 htA (gdS wd_469 wd_470 wd_0 wd_471) rfl rfl rfl (by decide +kernel) ⟨Nat.le_of_ble_eq_true rfl, Nat.le_of_ble_eq_true rfl⟩) hKK rfl hl.1 rfl (Nat.le_of_ble_eq_true rfl) dL_law_576 hcs hss ?_
        refine b_ifeq (b := true) (tgt := 586) hx hb dL_law_579 (by decide) (fun c_8 => ?_) (fun c_8 => ?_)
        · exact absurd c_8 (by decide)
        refine n_iconst (k := 1) hx hb dL_law_582 (by decide) ?_
        refine lv_goto (tgt := 587) hx hb dL_law_583 (by decide) ?_
        refine lv_istore (lv' := [(10, .int (nI (1))), (0, .ref (b9)), (1, .ref (q 0)), (2, .ref (qg)), (3, .ref (qb)), (4, .ref (qw)), (5, .int (nI (σ 1 0))), (6, .int (nI (st))), (7, .int (nI (M))), (8, .int (nI (F))), (9, .int (nI (bx))), (11, .int (nI (n))), (12, .int (nI (v9))), (14, .int (nI (cl))), (15, .int (nI (k)))]) hx hb dL_law_587 hl (by decide) rfl (fun ls hl => ?_)
        refine lv_goto (tgt := 739) hx hb dL_law_589 (by decide) ?_
        exact kk _ _ _ _ _ _ _ _ _ _ _ _ (I3) ⟨hP, hD, hS, by rw [ec]; exact lv_sub hl [1, 2, 3, 4, 5, 6, 7, 8, 9, 10, 0, 11] rfl⟩
    | succ n9 ih9 =>
      intro K9 k H locs hk I9 hP hS ls hl
      have CC := I9.2.2.2.2.2
      have h10 := (CC cl hcl).1.2.2.2.2.1
      have e5 := (CC cl hcl).2.1
      have e3 := (CC cl hcl).2.2.1
      rw [upN_same] at e5
      have hD : va_D A (wP q qg qb qw cI cZ σ K9 g b w) := D_addr hD rfl
      refine lv_iload hx hb dL_law_442 (lv_at hl 14 rfl) ?_
      refine lv_aload_n hx hb dL_law_444 rfl (lv_at hl 1 rfl) ?_
      refine lv_iload hx hb dL_law_445 (lv_at hl 13 rfl) ?_
      refine roV1 (v := .int (nI (K9 cl 0 4))) (As := [.int (nI (cl))]) (rest := [.int (nI (k))]) (n := 1) ⟨hx, hb, hml, hown, htA⟩ (kc_window l D cI cZ sa q σ K9 cl H (P_X hP) hcl) (cwV 1 htA (gdV wd_449 wd_450 wd_451 wd_1 wd_452) rfl rfl rfl (by decide +kernel) ⟨Nat.le_of_ble_eq_true rfl, Nat.le_of_ble_eq_true rfl⟩) hKK hP 0 rfl rfl rfl hl.1 rfl (Nat.le_of_ble_eq_true rfl) dL_law_447 hcs hss ?_
      refine n_icmp_ge (x := k) (y := K9 cl 0 4) (tgt := 550) hx hb dL_law_450 (by decide) (by omega) (by omega) (fun c_9 => ?_) (fun c_9 => ?_)
      · refine lv_iload hx hb dL_law_550 (lv_at hl 10 rfl) ?_
        refine b_ifeq (b := true) (tgt := 586) hx hb dL_law_552 (by decide) (fun c_10 => ?_) (fun c_10 => ?_)
        · exact absurd c_10 (by decide)
        refine lv_aload_n hx hb dL_law_555 rfl (lv_at hl 1 rfl) ?_
        refine lv_iload hx hb dL_law_556 (lv_at hl 13 rfl) ?_
        refine wrV1 (v := .int (nI (K9 cl 0 5 - syB σ (syK σ (K9 cl)) 0 5))) (As := [.int (nI (cl))]) (rest := []) (n := 1) ⟨hx, hb, hml, hown, htA⟩ (kc_sync l D cI cZ sa q σ K9 cl (adr (wX q cI cZ σ (K9 0) (K9 1))) (D_adr (P_DX hD)) hcl J (by omega) (CC cl hcl).1 (by omega) (by omega)) (cwV 1 htA (gdV wd_397 wd_398 wd_399 wd_1 wd_400) rfl rfl rfl (by decide +kernel) ⟨Nat.le_of_ble_eq_true rfl, Nat.le_of_ble_eq_true rfl⟩) hKK (P_X hP) 0 rfl rfl rfl hl.1 rfl (Nat.le_of_ble_eq_true rfl) dL_law_558 hcs hss hS (fun a h => adr_in (P_DX hD) a h) (fun H1 locs hP1 hz1 hk1 hS => ?_)
        have hP : va_P D vwCl (wP q qg qb qw cI cZ (syS σ (syK σ (K9 cl))) (upK K9 cl (syD σ (syK σ (K9 cl)))) g b w) H1 := P_putX hD hP hk1 hP1
        have hD : va_D A (wP q qg qb qw cI cZ (syS σ (syK σ (K9 cl))) (upK K9 cl (syD σ (syK σ (K9 cl)))) g b w) := D_addr hD rfl
        generalize H1 = H at hP hS ⊢
        obtain ⟨I3, Fr, ec⟩ := LI_sync I9 hn hcl (f0_z cl k) (by rw [upN_same]; omega)
        have C3 := I3.2.2.2.2.2 cl hcl
        refine n_iflt (tgt := 586) hx hb dL_law_561 (by decide) (by omega) ?_
        refine lv_aload_n hx hb dL_law_564 rfl (lv_at hl 1 rfl) ?_
        refine lv_iload hx hb dL_law_565 (lv_at hl 13 rfl) ?_
        refine lv_aload_n hx hb dL_law_567 rfl (lv_at hl 3 rfl) ?_
        refine lv_iload hx hb dL_law_568 (lv_at hl 13 rfl) ?_
        refine n_iald (g := b) (cA := cI) (n := 2) (j := cl) hx hb hKK.1 hP 25 0 rfl rfl (by omega) (Nat.le_of_ble_eq_true rfl) dL_law_570 ?_
        refine lv_aload hx hb dL_law_571 (lv_at hl 4 rfl) ?_
        refine lv_iload hx hb dL_law_573 (lv_at hl 13 rfl) ?_
        refine n_iald (g := w) (cA := cI) (n := 2) (j := cl) hx hb hKK.1 hP 26 0 rfl rfl (by omega) (Nat.le_of_ble_eq_true rfl) dL_law_575 ?_
        refine roS1 (v := .int (b2i (true))) (As := [.ref (q 0), .int (nI (cl)), .int (nI (b cl)), .int (nI (w cl))]) (rest := []) (n := 4) ⟨hx, hb, hml, hown, htA⟩ (kc_isFresh l D cI cZ sa q (syS σ (syK σ (K9 cl))) (upK K9 cl (syD σ (syK σ (K9 cl)))) cl (b cl) (w cl) H (P_X hP) hcl I3.1 C3.1 Fr C3.2.2.2.1 C3.2.2.2.2) (va_cwS 4 htA (gdS wd_469 wd_470 wd_0 wd_471) rfl rfl rfl (by decide +kernel) ⟨Nat.le_of_ble_eq_true rfl, Nat.le_of_ble_eq_true rfl⟩) hKK rfl hl.1 rfl (Nat.le_of_ble_eq_true rfl) dL_law_576 hcs hss ?_
        refine b_ifeq (b := true) (tgt := 586) hx hb dL_law_579 (by decide) (fun c_12 => ?_) (fun c_12 => ?_)
        · exact absurd c_12 (by decide)
        refine n_iconst (k := 1) hx hb dL_law_582 (by decide) ?_
        refine lv_goto (tgt := 587) hx hb dL_law_583 (by decide) ?_
        refine lv_istore (lv' := [(10, .int (nI (1))), (0, .ref (b9)), (1, .ref (q 0)), (2, .ref (qg)), (3, .ref (qb)), (4, .ref (qw)), (5, .int (nI (σ 1 0))), (6, .int (nI (st))), (7, .int (nI (M))), (8, .int (nI (F))), (9, .int (nI (bx))), (11, .int (nI (n))), (12, .int (nI (v9))), (14, .int (nI (cl))), (15, .int (nI (k)))]) hx hb dL_law_587 hl (by decide) rfl (fun ls hl => ?_)
        refine lv_goto (tgt := 739) hx hb dL_law_589 (by decide) ?_
        exact kk _ _ _ _ _ _ _ _ _ _ _ _ (I3) ⟨hP, hD, hS, by rw [ec]; exact lv_sub hl [1, 2, 3, 4, 5, 6, 7, 8, 9, 10, 0, 11] rfl⟩
      · refine lv_iload hx hb dL_law_453 (lv_at hl 14 rfl) ?_
        refine n_iconst (k := 2) hx hb dL_law_455 (by decide) ?_
        refine n_icmp_ge (x := k) (y := 2) (tgt := 550) hx hb dL_law_456 (by decide) (by omega) (by decide) (fun c_13 => ?_) (fun c_13 => ?_)
        · exfalso; omega
        have hi9 : k < K9 cl 0 4 := by omega
        refine lv_aload_n hx hb dL_law_459 rfl (lv_at hl 1 rfl) ?_
        refine lv_iload hx hb dL_law_460 (lv_at hl 13 rfl) ?_
        refine lv_aload_n hx hb dL_law_462 rfl (lv_at hl 1 rfl) ?_
        refine lv_iload hx hb dL_law_463 (lv_at hl 13 rfl) ?_
        refine lv_iload hx hb dL_law_465 (lv_at hl 14 rfl) ?_
        refine roV1 (v := .int (nI (K9 cl 1 k))) (As := [.int (nI (cl)), .int (nI (k))]) (rest := [.int (nI (cl)), .ref (q 0)]) (n := 2) ⟨hx, hb, hml, hown, htA⟩ (kc_windowAt l D cI cZ sa q σ K9 cl k H (P_X hP) hcl (by omega) h10) (cwV 2 htA (gdV wd_453 wd_454 wd_455 wd_1 wd_456) rfl rfl rfl (by decide +kernel) ⟨Nat.le_of_ble_eq_true rfl, Nat.le_of_ble_eq_true rfl⟩) hKK hP 0 rfl rfl rfl hl.1 rfl (Nat.le_of_ble_eq_true rfl) dL_law_467 hcs hss ?_
        refine lv_iload hx hb dL_law_470 (lv_at hl 12 rfl) ?_
        refine lv_bipush (v := nI 20) hx hb dL_law_472 (by decide) ?_
        refine n_idiv hx hb (by omega) (by omega) (by decide) dL_law_474 ?_
        refine n_iconst (k := 4) hx hb dL_law_475 (by decide) ?_
        refine n_irem hx hb (by omega) (by omega) (by decide) dL_law_476 ?_
        refine lv_iload hx hb dL_law_477 (lv_at hl 12 rfl) ?_
        refine lv_bipush (v := nI 80) hx hb dL_law_479 (by decide) ?_
        refine n_idiv hx hb (by omega) (by omega) (by decide) dL_law_481 ?_
        refine n_iconst (k := 2) hx hb dL_law_482 (by decide) ?_
        refine n_irem hx hb (by omega) (by omega) (by decide) dL_law_483 ?_
        refine n_ifne (x := (v9 / 80) % 2) (tgt := 491) hx hb dL_law_484 (by decide) (by omega) (fun c_14 => ?_) (fun c_14 => ?_)
        · refine n_iconst (k := 0) hx hb dL_law_491 (by decide) ?_
          refine wrV1 (v := .int (nI (K9 cl 0 5 + 1))) (As := [.int (nI (cl)), .int (nI (K9 cl 1 k)), .int (nI ((v9 / 20) % 4)), .int (nI (0))]) (rest := []) (n := 4) ⟨hx, hb, hml, hown, htA⟩ (kc_flagOffline l D cI cZ sa q σ K9 cl k ((v9 / 20) % 4) 0 (adr (wX q cI cZ σ (K9 0) (K9 1))) (D_adr (P_DX hD)) hcl (CC cl hcl).1 (by omega) (by omega) (by omega) (by omega)) (cwV 4 htA (gdV wd_373 wd_374 wd_375 wd_1 wd_376) rfl rfl rfl (by decide +kernel) ⟨Nat.le_of_ble_eq_true rfl, Nat.le_of_ble_eq_true rfl⟩) hKK (P_X hP) 0 rfl rfl rfl hl.1 rfl (Nat.le_of_ble_eq_true rfl) dL_law_492 hcs hss hS (fun a h => adr_in (P_DX hD) a h) (fun H1 locs hP1 hz1 hk1 hS => ?_)
          have hP : va_P D vwCl (wP q qg qb qw cI cZ σ (upK K9 cl (nte (K9 cl) k ((v9 / 20) % 4) 0)) g b w) H1 := P_putX hD hP hk1 hP1
          have hD : va_D A (wP q qg qb qw cI cZ σ (upK K9 cl (nte (K9 cl) k ((v9 / 20) % 4) 0)) g b w) := D_addr hD rfl
          generalize H1 = H at hP hS ⊢
          refine lv_pop hx hb dL_law_495 rfl ?_
          refine lv_iload hx hb dL_law_496 (lv_at hl 10 rfl) ?_
          refine b_ifeq (b := true) (tgt := 541) hx hb dL_law_498 (by decide) (fun c_15 => ?_) (fun c_15 => ?_)
          · exact absurd c_15 (by decide)
          refine lv_aload_n hx hb dL_law_501 rfl (lv_at hl 1 rfl) ?_
          refine lv_iload hx hb dL_law_502 (lv_at hl 13 rfl) ?_
          refine lv_iload hx hb dL_law_504 (lv_at hl 14 rfl) ?_
          refine roV1 (v := .int (nI ((upK K9 cl (nte (K9 cl) k ((v9 / 20) % 4) 0)) cl 2 k))) (As := [.int (nI (cl)), .int (nI (k))]) (rest := []) (n := 2) ⟨hx, hb, hml, hown, htA⟩ (kc_known l D cI cZ sa q σ (upK K9 cl (nte (K9 cl) k ((v9 / 20) % 4) 0)) cl k H (P_X hP) hcl (by rw [upK_same]; exact hi9) (by rw [upK_same]; exact h10)) (cwV 2 htA (gdV wd_458 wd_459 wd_460 wd_1 wd_461) rfl rfl rfl (by decide +kernel) ⟨Nat.le_of_ble_eq_true rfl, Nat.le_of_ble_eq_true rfl⟩) hKK hP 0 rfl rfl rfl hl.1 rfl (Nat.le_of_ble_eq_true rfl) dL_law_506 hcs hss ?_
          rw [upK_same, nte_2]
          refine lv_iload hx hb dL_law_509 (lv_at hl 12 rfl) ?_
          refine lv_bipush (v := nI 20) hx hb dL_law_511 (by decide) ?_
          refine n_idiv hx hb (by omega) (by omega) (by decide) dL_law_513 ?_
          refine n_iconst (k := 4) hx hb dL_law_514 (by decide) ?_
          refine n_irem hx hb (by omega) (by omega) (by decide) dL_law_515 ?_
          refine lv_ishr hx hb dL_law_516 ?_
          refine n_iconst (k := 1) hx hb dL_law_517 (by decide) ?_
          refine lv_iand hx hb dL_law_518 ?_
          rw [kn_bit ((CC cl hcl).1.1.2.2.2.2.1 k) (by omega) (by decide)]
          refine lv_iload hx hb dL_law_519 (lv_at hl 12 rfl) ?_
          refine lv_bipush (v := nI 80) hx hb dL_law_521 (by decide) ?_
          refine n_idiv hx hb (by omega) (by omega) (by decide) dL_law_523 ?_
          refine n_iconst (k := 2) hx hb dL_law_524 (by decide) ?_
          refine n_irem hx hb (by omega) (by omega) (by decide) dL_law_525 ?_
          refine n_ifne (x := (v9 / 80) % 2) (tgt := 533) hx hb dL_law_526 (by decide) (by omega) (fun c_16 => ?_) (fun c_16 => ?_)
          rotate_left
          · exfalso; omega
          refine n_iconst (k := 0) hx hb dL_law_533 (by decide) ?_
          refine n_icmp_ne (x := 0) (y := 0) (tgt := 541) hx hb dL_law_534 (by decide) (by decide) (by decide) (fun c_17 => ?_) (fun c_17 => ?_)
          · exfalso; omega
          refine n_iconst (k := 1) hx hb dL_law_537 (by decide) ?_
          refine lv_goto (tgt := 542) hx hb dL_law_538 (by decide) ?_
          refine lv_istore (lv' := [(10, .int (nI (1))), (0, .ref (b9)), (1, .ref (q 0)), (2, .ref (qg)), (3, .ref (qb)), (4, .ref (qw)), (5, .int (nI (σ 1 0))), (6, .int (nI (st))), (7, .int (nI (M))), (8, .int (nI (F))), (9, .int (nI (bx))), (11, .int (nI (n))), (12, .int (nI (v9))), (14, .int (nI (cl))), (15, .int (nI (k)))]) hx hb dL_law_542 hl (by decide) rfl (fun ls hl => ?_)
          refine lv_iinc (v := nI (k + 1)) (lv' := [(15, .int (nI (k + 1))), (10, .int (nI (1))), (0, .ref (b9)), (1, .ref (q 0)), (2, .ref (qg)), (3, .ref (qb)), (4, .ref (qw)), (5, .int (nI (σ 1 0))), (6, .int (nI (st))), (7, .int (nI (M))), (8, .int (nI (F))), (9, .int (nI (bx))), (11, .int (nI (n))), (12, .int (nI (v9))), (14, .int (nI (cl)))]) hx hb dL_law_544 hl (k := 14) rfl (n_inc (k) 1 rfl) (by decide) rfl (fun ls hl => ?_)
          refine lv_goto (tgt := 442) hx hb dL_law_547 (by decide) ?_
          exact ih9 (upK K9 cl (nte (K9 cl) k ((v9 / 20) % 4) 0)) (k + 1) _ _ (by omega) (by have I8 := LI_off (i := k) (k := ((v9 / 20) % 4)) (w0 := 0) I9 hcl (by omega) (by omega) (by decide) (by rw [upN_same]; omega); rw [upN_same, upN_upN] at I8; exact I8) hP hS ls (lv_sub hl [2, 3, 4, 5, 6, 7, 8, 9, 10, 11, 1, 12, 13, 14, 0] rfl)
        · refine n_iconst (k := 1) hx hb dL_law_487 (by decide) ?_
          refine lv_goto (tgt := 492) hx hb dL_law_488 (by decide) ?_
          refine wrV1 (v := .int (nI (K9 cl 0 5 + 1))) (As := [.int (nI (cl)), .int (nI (K9 cl 1 k)), .int (nI ((v9 / 20) % 4)), .int (nI (1))]) (rest := []) (n := 4) ⟨hx, hb, hml, hown, htA⟩ (kc_flagOffline l D cI cZ sa q σ K9 cl k ((v9 / 20) % 4) 1 (adr (wX q cI cZ σ (K9 0) (K9 1))) (D_adr (P_DX hD)) hcl (CC cl hcl).1 (by omega) (by omega) (by omega) (by omega)) (cwV 4 htA (gdV wd_373 wd_374 wd_375 wd_1 wd_376) rfl rfl rfl (by decide +kernel) ⟨Nat.le_of_ble_eq_true rfl, Nat.le_of_ble_eq_true rfl⟩) hKK (P_X hP) 0 rfl rfl rfl hl.1 rfl (Nat.le_of_ble_eq_true rfl) dL_law_492 hcs hss hS (fun a h => adr_in (P_DX hD) a h) (fun H1 locs hP1 hz1 hk1 hS => ?_)
          have hP : va_P D vwCl (wP q qg qb qw cI cZ σ (upK K9 cl (nte (K9 cl) k ((v9 / 20) % 4) 1)) g b w) H1 := P_putX hD hP hk1 hP1
          have hD : va_D A (wP q qg qb qw cI cZ σ (upK K9 cl (nte (K9 cl) k ((v9 / 20) % 4) 1)) g b w) := D_addr hD rfl
          generalize H1 = H at hP hS ⊢
          refine lv_pop hx hb dL_law_495 rfl ?_
          refine lv_iload hx hb dL_law_496 (lv_at hl 10 rfl) ?_
          refine b_ifeq (b := true) (tgt := 541) hx hb dL_law_498 (by decide) (fun c_18 => ?_) (fun c_18 => ?_)
          · exact absurd c_18 (by decide)
          refine lv_aload_n hx hb dL_law_501 rfl (lv_at hl 1 rfl) ?_
          refine lv_iload hx hb dL_law_502 (lv_at hl 13 rfl) ?_
          refine lv_iload hx hb dL_law_504 (lv_at hl 14 rfl) ?_
          refine roV1 (v := .int (nI ((upK K9 cl (nte (K9 cl) k ((v9 / 20) % 4) 1)) cl 2 k))) (As := [.int (nI (cl)), .int (nI (k))]) (rest := []) (n := 2) ⟨hx, hb, hml, hown, htA⟩ (kc_known l D cI cZ sa q σ (upK K9 cl (nte (K9 cl) k ((v9 / 20) % 4) 1)) cl k H (P_X hP) hcl (by rw [upK_same]; exact hi9) (by rw [upK_same]; exact h10)) (cwV 2 htA (gdV wd_458 wd_459 wd_460 wd_1 wd_461) rfl rfl rfl (by decide +kernel) ⟨Nat.le_of_ble_eq_true rfl, Nat.le_of_ble_eq_true rfl⟩) hKK hP 0 rfl rfl rfl hl.1 rfl (Nat.le_of_ble_eq_true rfl) dL_law_506 hcs hss ?_
          rw [upK_same, nte_2]
          refine lv_iload hx hb dL_law_509 (lv_at hl 12 rfl) ?_
          refine lv_bipush (v := nI 20) hx hb dL_law_511 (by decide) ?_
          refine n_idiv hx hb (by omega) (by omega) (by decide) dL_law_513 ?_
          refine n_iconst (k := 4) hx hb dL_law_514 (by decide) ?_
          refine n_irem hx hb (by omega) (by omega) (by decide) dL_law_515 ?_
          refine lv_ishr hx hb dL_law_516 ?_
          refine n_iconst (k := 1) hx hb dL_law_517 (by decide) ?_
          refine lv_iand hx hb dL_law_518 ?_
          rw [kn_bit ((CC cl hcl).1.1.2.2.2.2.1 k) (by omega) (by decide)]
          refine lv_iload hx hb dL_law_519 (lv_at hl 12 rfl) ?_
          refine lv_bipush (v := nI 80) hx hb dL_law_521 (by decide) ?_
          refine n_idiv hx hb (by omega) (by omega) (by decide) dL_law_523 ?_
          refine n_iconst (k := 2) hx hb dL_law_524 (by decide) ?_
          refine n_irem hx hb (by omega) (by omega) (by decide) dL_law_525 ?_
          refine n_ifne (x := (v9 / 80) % 2) (tgt := 533) hx hb dL_law_526 (by decide) (by omega) (fun c_19 => ?_) (fun c_19 => ?_)
          · exfalso; omega
          refine n_iconst (k := 1) hx hb dL_law_529 (by decide) ?_
          refine lv_goto (tgt := 534) hx hb dL_law_530 (by decide) ?_
          refine n_icmp_ne (x := 1) (y := 1) (tgt := 541) hx hb dL_law_534 (by decide) (by decide) (by decide) (fun c_20 => ?_) (fun c_20 => ?_)
          · exfalso; omega
          refine n_iconst (k := 1) hx hb dL_law_537 (by decide) ?_
          refine lv_goto (tgt := 542) hx hb dL_law_538 (by decide) ?_
          refine lv_istore (lv' := [(10, .int (nI (1))), (0, .ref (b9)), (1, .ref (q 0)), (2, .ref (qg)), (3, .ref (qb)), (4, .ref (qw)), (5, .int (nI (σ 1 0))), (6, .int (nI (st))), (7, .int (nI (M))), (8, .int (nI (F))), (9, .int (nI (bx))), (11, .int (nI (n))), (12, .int (nI (v9))), (14, .int (nI (cl))), (15, .int (nI (k)))]) hx hb dL_law_542 hl (by decide) rfl (fun ls hl => ?_)
          refine lv_iinc (v := nI (k + 1)) (lv' := [(15, .int (nI (k + 1))), (10, .int (nI (1))), (0, .ref (b9)), (1, .ref (q 0)), (2, .ref (qg)), (3, .ref (qb)), (4, .ref (qw)), (5, .int (nI (σ 1 0))), (6, .int (nI (st))), (7, .int (nI (M))), (8, .int (nI (F))), (9, .int (nI (bx))), (11, .int (nI (n))), (12, .int (nI (v9))), (14, .int (nI (cl)))]) hx hb dL_law_544 hl (k := 14) rfl (n_inc (k) 1 rfl) (by decide) rfl (fun ls hl => ?_)
          refine lv_goto (tgt := 442) hx hb dL_law_547 (by decide) ?_
          exact ih9 (upK K9 cl (nte (K9 cl) k ((v9 / 20) % 4) 1)) (k + 1) _ _ (by omega) (by have I8 := LI_off (i := k) (k := ((v9 / 20) % 4)) (w0 := 1) I9 hcl (by omega) (by omega) (by decide) (by rw [upN_same]; omega); rw [upN_same, upN_upN] at I8; exact I8) hP hS ls (lv_sub hl [2, 3, 4, 5, 6, 7, 8, 9, 10, 11, 1, 12, 13, 14, 0] rfl)
  exact loop_442 2 K 0 _ _ rfl (by rw [upN_self0]; exact I) hP hS ls (lv_sub hl [1, 2, 3, 4, 5, 6, 7, 8, 9, 10, 11, 12, 13, 14, 0] rfl)
set_option maxHeartbeats 4000000 in
set_option maxRecDepth 100000 in
theorem law_watch {p : Program} {l : Launch} {e : Env} {s : State} {m : MethodId} {args : Array Value} {below : List Frame} {meth : Method} {c : Code} {H : Heap} {locs : List Loc} {ls : Array Slot} {cells slots : Nat} {Q : State → Prop} {A : Nat → Prop} {D : va_G} {cI cZ : ClassId} {sa q : Nat → Nat} {qg qb qw b9 L n : Nat} {xs : Nat → Int32} {σ : ST} {K : Nat → ST} {g b w : Nat → Nat} {st M bx F : Nat} {v9 cl : Nat} (C : LawC p s m args c A D cI cZ sa b9 L xs) (hcs : cells ≤ room_1.cells) (hss : slots ≤ room_1.slots) (hn : n < 90) (I : LI n σ K g b w st M bx F f0) (hP : va_P D vwCl (wP q qg qb qw cI cZ σ K g b w) H) (hD : va_D A (wP q qg qb qw cI cZ σ K g b w)) (hS : va_S A s.heap H locs) (hv : v9 < 2147483648) (hcl : cl < 2) (hl : lv_has ls 17 [(0, .ref (b9)), (1, .ref (q 0)), (2, .ref (qg)), (3, .ref (qb)), (4, .ref (qw)), (5, .int (nI (σ 1 0))), (6, .int (nI (st))), (7, .int (nI (M))), (8, .int (nI (F))), (9, .int (nI (bx))), (10, .int (nI (1))), (11, .int (nI (n))), (12, .int (nI (v9))), (14, .int (nI (cl)))])
    (kk : ∀ (σ1 : ST) (K1 : Nat → ST) (g1 b1 w1 : Nat → Nat) (st1 M1 bx1 F1 : Nat) (H1 : Heap) (locs1 : List Loc) (ls1 : Array Slot), LI (n + 1) σ1 K1 g1 b1 w1 st1 M1 bx1 F1 f0 → LawS s A D cI cZ q qg qb qw b9 n σ1 K1 g1 b1 w1 st1 M1 bx1 F1 H1 locs1 ls1 → W p l e room_1 s m args below meth c H1 locs1 cells slots Q (F0 m 739 ls1 [])) : W p l e room_1 s m args below meth c H locs cells slots Q (F0 m 592 ls []) := by
  obtain ⟨hx, hb, hml, hown, htA, hX, hbl, hKK, hL, hbA⟩ := C
  obtain ⟨J, S9, hbx, h7, G, CC⟩ := id I
  have h60 := J.1
  refine lv_aload_n hx hb dL_law_592 rfl (lv_at hl 3 rfl) ?_
  refine lv_iload hx hb dL_law_593 (lv_at hl 13 rfl) ?_
  refine lv_iload hx hb dL_law_595 (lv_at hl 12 rfl) ?_
  refine lv_bipush (v := nI 20) hx hb dL_law_597 (by decide) ?_
  refine n_idiv hx hb (by omega) (by omega) (by decide) dL_law_599 ?_
  refine lv_bipush (v := nI 6) hx hb dL_law_600 (by decide) ?_
  refine n_irem hx hb (by omega) (by omega) (by decide) dL_law_602 ?_
  refine n_iast (g := b) (cA := cI) (n := 2) (j := cl) (v := (v9 / 20) % 6) hx hb hKK.1 hP (D_addr hD rfl) hS 25 0 rfl rfl (by omega) (Nat.le_of_ble_eq_true rfl) dL_law_603 (fun H locs hP hS => ?_)
  have hP : va_P D vwCl (wP q qg qb qw cI cZ σ K g (upN b (cl) ((v9 / 20) % 6)) w) H := hP
  have hD : va_D A (wP q qg qb qw cI cZ σ K g (upN b (cl) ((v9 / 20) % 6)) w) := D_addr hD rfl
  refine lv_aload hx hb dL_law_604 (lv_at hl 4 rfl) ?_
  refine lv_iload hx hb dL_law_606 (lv_at hl 13 rfl) ?_
  refine n_iconst (k := 1) hx hb dL_law_608 (by decide) ?_
  refine lv_iload hx hb dL_law_609 (lv_at hl 12 rfl) ?_
  refine lv_bipush (v := nI 120) hx hb dL_law_611 (by decide) ?_
  refine n_idiv hx hb (by omega) (by omega) (by decide) dL_law_613 ?_
  refine lv_bipush (v := nI 10) hx hb dL_law_614 (by decide) ?_
  refine n_irem hx hb (by omega) (by omega) (by decide) dL_law_616 ?_
  refine n_iadd hx hb dL_law_617 ?_
  refine n_iast (g := w) (cA := cI) (n := 2) (j := cl) (v := 1 + ((v9 / 120) % 10)) hx hb hKK.1 hP (D_addr hD rfl) hS 26 0 rfl rfl (by omega) (Nat.le_of_ble_eq_true rfl) dL_law_618 (fun H locs hP hS => ?_)
  have hP : va_P D vwCl (wP q qg qb qw cI cZ σ K g (upN b (cl) ((v9 / 20) % 6)) (upN w (cl) (1 + ((v9 / 120) % 10)))) H := hP
  have hD : va_D A (wP q qg qb qw cI cZ σ K g (upN b (cl) ((v9 / 20) % 6)) (upN w (cl) (1 + ((v9 / 120) % 10)))) := D_addr hD rfl
  refine lv_aload_n hx hb dL_law_619 rfl (lv_at hl 1 rfl) ?_
  refine lv_iload hx hb dL_law_620 (lv_at hl 13 rfl) ?_
  refine lv_aload_n hx hb dL_law_622 rfl (lv_at hl 3 rfl) ?_
  refine lv_iload hx hb dL_law_623 (lv_at hl 13 rfl) ?_
  refine n_iald (g := (upN b (cl) ((v9 / 20) % 6))) (cA := cI) (n := 2) (j := cl) hx hb hKK.1 hP 25 0 rfl rfl (by omega) (Nat.le_of_ble_eq_true rfl) dL_law_625 ?_
  rw [upN_same]
  refine lv_aload hx hb dL_law_626 (lv_at hl 4 rfl) ?_
  refine lv_iload hx hb dL_law_628 (lv_at hl 13 rfl) ?_
  refine n_iald (g := (upN w (cl) (1 + ((v9 / 120) % 10)))) (cA := cI) (n := 2) (j := cl) hx hb hKK.1 hP 26 0 rfl rfl (by omega) (Nat.le_of_ble_eq_true rfl) dL_law_630 ?_
  rw [upN_same]
  refine wrV0 (As := [.int (nI (cl)), .int (nI (v9 / 20 % 6)), .int (nI (1 + v9 / 120 % 10))]) (rest := []) (n := 3) ⟨hx, hb, hml, hown, htA⟩ (kc_watch l D cI cZ sa q σ K cl (v9 / 20 % 6) (1 + v9 / 120 % 10) (adr (wX q cI cZ σ (K 0) (K 1))) (D_adr (P_DX hD)) hcl (by omega) (by omega) (by omega)) (cwV 3 htA (gdV wd_361 wd_362 wd_363 wd_1 wd_364) rfl rfl rfl (by decide +kernel) ⟨Nat.le_of_ble_eq_true rfl, Nat.le_of_ble_eq_true rfl⟩) hKK (P_X hP) 0 rfl rfl rfl hl.1 rfl (Nat.le_of_ble_eq_true rfl) dL_law_631 hcs hss hS (fun a h => adr_in (P_DX hD) a h) (fun H1 locs hP1 hz1 hk1 hS => ?_)
  have hP : va_P D vwCl (wP q qg qb qw cI cZ σ (upK K cl (sv (sv (K cl) 0 0 (v9 / 20 % 6)) 0 1 (1 + v9 / 120 % 10))) g (upN b (cl) ((v9 / 20) % 6)) (upN w (cl) (1 + ((v9 / 120) % 10)))) H1 := P_putX hD hP hk1 hP1
  have hD : va_D A (wP q qg qb qw cI cZ σ (upK K cl (sv (sv (K cl) 0 0 (v9 / 20 % 6)) 0 1 (1 + v9 / 120 % 10))) g (upN b (cl) ((v9 / 20) % 6)) (upN w (cl) (1 + ((v9 / 120) % 10)))) := D_addr hD rfl
  generalize H1 = H at hP hS ⊢
  have I2 := LI_watch (cl := cl) (b0 := v9 / 20 % 6) (wd := 1 + v9 / 120 % 10) I (by omega) (by omega)
  have C2 := I2.2.2.2.2.2 cl hcl
  have e5 := C2.2.1
  have e3 := C2.2.2.1
  rw [show f0 cl = 0 from rfl] at e5
  refine lv_aload_n hx hb dL_law_634 rfl (lv_at hl 1 rfl) ?_
  refine lv_iload hx hb dL_law_635 (lv_at hl 13 rfl) ?_
  refine wrV1 (v := .int (nI ((upK K cl (sv (sv (K cl) 0 0 (v9 / 20 % 6)) 0 1 (1 + v9 / 120 % 10))) cl 0 5 - syB σ (syK σ ((upK K cl (sv (sv (K cl) 0 0 (v9 / 20 % 6)) 0 1 (1 + v9 / 120 % 10))) cl)) 0 5))) (As := [.int (nI (cl))]) (rest := []) (n := 1) ⟨hx, hb, hml, hown, htA⟩ (kc_sync l D cI cZ sa q σ (upK K cl (sv (sv (K cl) 0 0 (v9 / 20 % 6)) 0 1 (1 + v9 / 120 % 10))) cl (adr (wX q cI cZ σ ((upK K cl (sv (sv (K cl) 0 0 (v9 / 20 % 6)) 0 1 (1 + v9 / 120 % 10))) 0) ((upK K cl (sv (sv (K cl) 0 0 (v9 / 20 % 6)) 0 1 (1 + v9 / 120 % 10))) 1))) (D_adr (P_DX hD)) hcl J (by omega) C2.1 (by omega) (by omega)) (cwV 1 htA (gdV wd_397 wd_398 wd_399 wd_1 wd_400) rfl rfl rfl (by decide +kernel) ⟨Nat.le_of_ble_eq_true rfl, Nat.le_of_ble_eq_true rfl⟩) hKK (P_X hP) 0 rfl rfl rfl hl.1 rfl (Nat.le_of_ble_eq_true rfl) dL_law_637 hcs hss hS (fun a h => adr_in (P_DX hD) a h) (fun H1 locs hP1 hz1 hk1 hS => ?_)
  have hP : va_P D vwCl (wP q qg qb qw cI cZ (syS σ (syK σ ((upK K cl (sv (sv (K cl) 0 0 (v9 / 20 % 6)) 0 1 (1 + v9 / 120 % 10))) cl))) (upK (upK K cl (sv (sv (K cl) 0 0 (v9 / 20 % 6)) 0 1 (1 + v9 / 120 % 10))) cl (syD σ (syK σ ((upK K cl (sv (sv (K cl) 0 0 (v9 / 20 % 6)) 0 1 (1 + v9 / 120 % 10))) cl)))) g (upN b (cl) ((v9 / 20) % 6)) (upN w (cl) (1 + ((v9 / 120) % 10)))) H1 := P_putX hD hP hk1 hP1
  have hD : va_D A (wP q qg qb qw cI cZ (syS σ (syK σ ((upK K cl (sv (sv (K cl) 0 0 (v9 / 20 % 6)) 0 1 (1 + v9 / 120 % 10))) cl))) (upK (upK K cl (sv (sv (K cl) 0 0 (v9 / 20 % 6)) 0 1 (1 + v9 / 120 % 10))) cl (syD σ (syK σ ((upK K cl (sv (sv (K cl) 0 0 (v9 / 20 % 6)) 0 1 (1 + v9 / 120 % 10))) cl)))) g (upN b (cl) ((v9 / 20) % 6)) (upN w (cl) (1 + ((v9 / 120) % 10)))) := D_addr hD rfl
  generalize H1 = H at hP hS ⊢
  obtain ⟨I3, Fr, ec⟩ := LI_sync I2 hn hcl (fun _ _ => rfl) (Nat.zero_le _)
  have C3 := I3.2.2.2.2.2 cl hcl
  refine n_ifne (x := (upK K cl (sv (sv (K cl) 0 0 (v9 / 20 % 6)) 0 1 (1 + v9 / 120 % 10))) cl 0 5 - syB σ (syK σ ((upK K cl (sv (sv (K cl) 0 0 (v9 / 20 % 6)) 0 1 (1 + v9 / 120 % 10))) cl)) 0 5) (tgt := 665) hx hb dL_law_640 (by decide) (by omega) (fun c_1 => ?_) (fun c_1 => ?_)
  · exfalso; omega
  refine lv_aload_n hx hb dL_law_643 rfl (lv_at hl 1 rfl) ?_
  refine lv_iload hx hb dL_law_644 (lv_at hl 13 rfl) ?_
  refine lv_aload_n hx hb dL_law_646 rfl (lv_at hl 3 rfl) ?_
  refine lv_iload hx hb dL_law_647 (lv_at hl 13 rfl) ?_
  refine n_iald (g := (upN b (cl) ((v9 / 20) % 6))) (cA := cI) (n := 2) (j := cl) hx hb hKK.1 hP 25 0 rfl rfl (by omega) (Nat.le_of_ble_eq_true rfl) dL_law_649 ?_
  refine lv_aload hx hb dL_law_650 (lv_at hl 4 rfl) ?_
  refine lv_iload hx hb dL_law_652 (lv_at hl 13 rfl) ?_
  refine n_iald (g := (upN w (cl) (1 + ((v9 / 120) % 10)))) (cA := cI) (n := 2) (j := cl) hx hb hKK.1 hP 26 0 rfl rfl (by omega) (Nat.le_of_ble_eq_true rfl) dL_law_654 ?_
  refine roS1 (v := .int (b2i (true))) (As := [.ref (q 0), .int (nI (cl)), .int (nI ((upN b (cl) ((v9 / 20) % 6)) cl)), .int (nI ((upN w (cl) (1 + ((v9 / 120) % 10))) cl))]) (rest := []) (n := 4) ⟨hx, hb, hml, hown, htA⟩ (kc_isFresh l D cI cZ sa q (syS σ (syK σ ((upK K cl (sv (sv (K cl) 0 0 (v9 / 20 % 6)) 0 1 (1 + v9 / 120 % 10))) cl))) (upK (upK K cl (sv (sv (K cl) 0 0 (v9 / 20 % 6)) 0 1 (1 + v9 / 120 % 10))) cl (syD σ (syK σ ((upK K cl (sv (sv (K cl) 0 0 (v9 / 20 % 6)) 0 1 (1 + v9 / 120 % 10))) cl)))) cl ((upN b (cl) ((v9 / 20) % 6)) cl) ((upN w (cl) (1 + ((v9 / 120) % 10))) cl) H (P_X hP) hcl I3.1 C3.1 Fr C3.2.2.2.1 C3.2.2.2.2) (va_cwS 4 htA (gdS wd_469 wd_470 wd_0 wd_471) rfl rfl rfl (by decide +kernel) ⟨Nat.le_of_ble_eq_true rfl, Nat.le_of_ble_eq_true rfl⟩) hKK rfl hl.1 rfl (Nat.le_of_ble_eq_true rfl) dL_law_655 hcs hss ?_
  refine b_ifeq (b := true) (tgt := 665) hx hb dL_law_658 (by decide) (fun c_2 => ?_) (fun c_2 => ?_)
  · exact absurd c_2 (by decide)
  refine n_iconst (k := 1) hx hb dL_law_661 (by decide) ?_
  refine lv_goto (tgt := 666) hx hb dL_law_662 (by decide) ?_
  refine lv_istore (lv' := [(10, .int (nI (1))), (0, .ref (b9)), (1, .ref (q 0)), (2, .ref (qg)), (3, .ref (qb)), (4, .ref (qw)), (5, .int (nI (σ 1 0))), (6, .int (nI (st))), (7, .int (nI (M))), (8, .int (nI (F))), (9, .int (nI (bx))), (11, .int (nI (n))), (12, .int (nI (v9))), (14, .int (nI (cl)))]) hx hb dL_law_666 hl (by decide) rfl (fun ls hl => ?_)
  refine lv_goto (tgt := 739) hx hb dL_law_668 (by decide) ?_
  exact kk _ _ _ _ _ _ _ _ _ _ _ _ (I3) ⟨hP, hD, hS, by rw [ec]; exact lv_sub hl [1, 2, 3, 4, 5, 6, 7, 8, 9, 10, 0, 11] rfl⟩
set_option maxHeartbeats 4000000 in
set_option maxRecDepth 100000 in
theorem law_snap {p : Program} {l : Launch} {e : Env} {s : State} {m : MethodId} {args : Array Value} {below : List Frame} {meth : Method} {c : Code} {H : Heap} {locs : List Loc} {ls : Array Slot} {cells slots : Nat} {Q : State → Prop} {A : Nat → Prop} {D : va_G} {cI cZ : ClassId} {sa q : Nat → Nat} {qg qb qw b9 L n : Nat} {xs : Nat → Int32} {σ : ST} {K : Nat → ST} {g b w : Nat → Nat} {st M bx F : Nat} {v9 : Nat} (C : LawC p s m args c A D cI cZ sa b9 L xs) (hcs : cells ≤ room_1.cells) (hss : slots ≤ room_1.slots) (hn : n < 90) (I : LI n σ K g b w st M bx F f0) (hP : va_P D vwCl (wP q qg qb qw cI cZ σ K g b w) H) (hD : va_D A (wP q qg qb qw cI cZ σ K g b w)) (hS : va_S A s.heap H locs) (hv : v9 < 2147483648) (hl : lv_has ls 17 [(0, .ref (b9)), (1, .ref (q 0)), (2, .ref (qg)), (3, .ref (qb)), (4, .ref (qw)), (5, .int (nI (σ 1 0))), (6, .int (nI (st))), (7, .int (nI (M))), (8, .int (nI (F))), (9, .int (nI (bx))), (10, .int (nI (1))), (11, .int (nI (n))), (12, .int (nI (v9)))])
    (kk : ∀ (σ1 : ST) (K1 : Nat → ST) (g1 b1 w1 : Nat → Nat) (st1 M1 bx1 F1 : Nat) (H1 : Heap) (locs1 : List Loc) (ls1 : Array Slot), LI (n + 1) σ1 K1 g1 b1 w1 st1 M1 bx1 F1 f0 → LawS s A D cI cZ q qg qb qw b9 n σ1 K1 g1 b1 w1 st1 M1 bx1 F1 H1 locs1 ls1 → W p l e room_1 s m args below meth c H1 locs1 cells slots Q (F0 m 739 ls1 [])) : W p l e room_1 s m args below meth c H locs cells slots Q (F0 m 671 ls []) := by
  obtain ⟨hx, hb, hml, hown, htA, hX, hbl, hKK, hL, hbA⟩ := C
  obtain ⟨J, S9, hbx, h7, G, CC⟩ := id I
  have h60 := J.1
  refine lv_aload_n hx hb dL_law_671 rfl (lv_at hl 1 rfl) ?_
  refine roV1 (v := .int (nI (σ 7 0))) (As := []) (rest := []) (n := 0) ⟨hx, hb, hml, hown, htA⟩ (kc_state l D cI cZ sa q σ K  H (P_X hP) ) (cwV 0 htA (gdV wd_326 wd_327 wd_328 wd_1 wd_329) rfl rfl rfl (by decide +kernel) ⟨Nat.le_of_ble_eq_true rfl, Nat.le_of_ble_eq_true rfl⟩) hKK hP 0 rfl rfl rfl hl.1 rfl (Nat.le_of_ble_eq_true rfl) dL_law_672 hcs hss ?_
  refine lv_istore (lv' := [(6, .int (nI (σ 7 0))), (0, .ref (b9)), (1, .ref (q 0)), (2, .ref (qg)), (3, .ref (qb)), (4, .ref (qw)), (5, .int (nI (σ 1 0))), (7, .int (nI (M))), (8, .int (nI (F))), (9, .int (nI (bx))), (10, .int (nI (1))), (11, .int (nI (n))), (12, .int (nI (v9)))]) hx hb dL_law_675 hl (by decide) rfl (fun ls hl => ?_)
  refine lv_aload_n hx hb dL_law_677 rfl (lv_at hl 2 rfl) ?_
  refine roV1 (v := .int (nI (cnt (pw σ 63 0) 60))) (As := []) (rest := []) (n := 0) ⟨hx, hb, hml, hown, htA⟩ (kc_mails l D cI cZ sa q σ K  H (P_X hP) ) (cwV 0 htA (gdV wd_330 wd_331 wd_332 wd_1 wd_333) rfl rfl rfl (by decide +kernel) ⟨Nat.le_of_ble_eq_true rfl, Nat.le_of_ble_eq_true rfl⟩) hKK hP 0 rfl rfl rfl hl.1 rfl (Nat.le_of_ble_eq_true rfl) dL_law_678 hcs hss ?_
  refine lv_istore (lv' := [(7, .int (nI (cnt (pw σ 63 0) 60))), (6, .int (nI (σ 7 0))), (0, .ref (b9)), (1, .ref (q 0)), (2, .ref (qg)), (3, .ref (qb)), (4, .ref (qw)), (5, .int (nI (σ 1 0))), (8, .int (nI (F))), (9, .int (nI (bx))), (10, .int (nI (1))), (11, .int (nI (n))), (12, .int (nI (v9)))]) hx hb dL_law_681 hl (by decide) rfl (fun ls hl => ?_)
  refine lv_iload hx hb dL_law_683 (lv_at hl 12 rfl) ?_
  refine lv_bipush (v := nI 10) hx hb dL_law_685 (by decide) ?_
  refine n_idiv hx hb (by omega) (by omega) (by decide) dL_law_687 ?_
  refine lv_bipush (v := nI 6) hx hb dL_law_688 (by decide) ?_
  refine n_irem hx hb (by omega) (by omega) (by decide) dL_law_690 ?_
  refine lv_istore (lv' := [(9, .int (nI ((v9 / 10) % 6))), (7, .int (nI (cnt (pw σ 63 0) 60))), (6, .int (nI (σ 7 0))), (0, .ref (b9)), (1, .ref (q 0)), (2, .ref (qg)), (3, .ref (qb)), (4, .ref (qw)), (5, .int (nI (σ 1 0))), (8, .int (nI (F))), (10, .int (nI (1))), (11, .int (nI (n))), (12, .int (nI (v9)))]) hx hb dL_law_691 hl (by decide) rfl (fun ls hl => ?_)
  refine lv_aload_n hx hb dL_law_693 rfl (lv_at hl 4 rfl) ?_
  refine lv_iload hx hb dL_law_694 (lv_at hl 0 rfl) ?_
  refine lv_iconst (v := oi 0) hx hb dL_law_696 (by decide) ?_
  refine roV1 (v := .int (nI (cnt (pw σ (2 ^ ((v9 / 10) % 6)) 0) 60))) (As := [.int (nI ((v9 / 10) % 6)), .int (oi (0))]) (rest := []) (n := 2) ⟨hx, hb, hml, hown, htA⟩ (kc_found l D cI cZ sa q σ K ((v9 / 10) % 6) H (P_X hP) (by omega)) (cwV 2 htA (gdV wd_347 wd_348 wd_349 wd_1 wd_350) rfl rfl rfl (by decide +kernel) ⟨Nat.le_of_ble_eq_true rfl, Nat.le_of_ble_eq_true rfl⟩) hKK hP 0 rfl rfl rfl hl.1 rfl (Nat.le_of_ble_eq_true rfl) dL_law_697 hcs hss ?_
  refine lv_istore (lv' := [(8, .int (nI (cnt (pw σ (2 ^ ((v9 / 10) % 6)) 0) 60))), (9, .int (nI ((v9 / 10) % 6))), (7, .int (nI (cnt (pw σ 63 0) 60))), (6, .int (nI (σ 7 0))), (0, .ref (b9)), (1, .ref (q 0)), (2, .ref (qg)), (3, .ref (qb)), (4, .ref (qw)), (5, .int (nI (σ 1 0))), (10, .int (nI (1))), (11, .int (nI (n))), (12, .int (nI (v9)))]) hx hb dL_law_700 hl (by decide) rfl (fun ls hl => ?_)
  refine lv_goto (tgt := 739) hx hb dL_law_702 (by decide) ?_
  exact kk _ _ _ _ _ _ _ _ _ _ _ _ (LI_snap I (by omega)) ⟨hP, hD, hS, lv_sub hl [4, 5, 6, 7, 8, 9, 3, 2, 0, 1, 10, 11] rfl⟩
set_option maxHeartbeats 4000000 in
set_option maxRecDepth 100000 in
theorem law_sync {p : Program} {l : Launch} {e : Env} {s : State} {m : MethodId} {args : Array Value} {below : List Frame} {meth : Method} {c : Code} {H : Heap} {locs : List Loc} {ls : Array Slot} {cells slots : Nat} {Q : State → Prop} {A : Nat → Prop} {D : va_G} {cI cZ : ClassId} {sa q : Nat → Nat} {qg qb qw b9 L n : Nat} {xs : Nat → Int32} {σ : ST} {K : Nat → ST} {g b w : Nat → Nat} {st M bx F : Nat} {v9 cl : Nat} (C : LawC p s m args c A D cI cZ sa b9 L xs) (hcs : cells ≤ room_1.cells) (hss : slots ≤ room_1.slots) (hn : n < 90) (I : LI n σ K g b w st M bx F f0) (hP : va_P D vwCl (wP q qg qb qw cI cZ σ K g b w) H) (hD : va_D A (wP q qg qb qw cI cZ σ K g b w)) (hS : va_S A s.heap H locs) (hv : v9 < 2147483648) (hcl : cl < 2) (hl : lv_has ls 17 [(0, .ref (b9)), (1, .ref (q 0)), (2, .ref (qg)), (3, .ref (qb)), (4, .ref (qw)), (5, .int (nI (σ 1 0))), (6, .int (nI (st))), (7, .int (nI (M))), (8, .int (nI (F))), (9, .int (nI (bx))), (10, .int (nI (1))), (11, .int (nI (n))), (12, .int (nI (v9))), (14, .int (nI (cl)))])
    (kk : ∀ (σ1 : ST) (K1 : Nat → ST) (g1 b1 w1 : Nat → Nat) (st1 M1 bx1 F1 : Nat) (H1 : Heap) (locs1 : List Loc) (ls1 : Array Slot), LI (n + 1) σ1 K1 g1 b1 w1 st1 M1 bx1 F1 f0 → LawS s A D cI cZ q qg qb qw b9 n σ1 K1 g1 b1 w1 st1 M1 bx1 F1 H1 locs1 ls1 → W p l e room_1 s m args below meth c H1 locs1 cells slots Q (F0 m 739 ls1 [])) : W p l e room_1 s m args below meth c H locs cells slots Q (F0 m 705 ls []) := by
  obtain ⟨hx, hb, hml, hown, htA, hX, hbl, hKK, hL, hbA⟩ := C
  obtain ⟨J, S9, hbx, h7, G, CC⟩ := id I
  have h60 := J.1
  have e5 := (CC cl hcl).2.1
  have e3 := (CC cl hcl).2.2.1
  rw [show f0 cl = 0 from rfl] at e5
  refine lv_aload_n hx hb dL_law_705 rfl (lv_at hl 1 rfl) ?_
  refine lv_iload hx hb dL_law_706 (lv_at hl 13 rfl) ?_
  refine wrV1 (v := .int (nI (K cl 0 5 - syB σ (syK σ (K cl)) 0 5))) (As := [.int (nI (cl))]) (rest := []) (n := 1) ⟨hx, hb, hml, hown, htA⟩ (kc_sync l D cI cZ sa q σ K cl (adr (wX q cI cZ σ (K 0) (K 1))) (D_adr (P_DX hD)) hcl J (by omega) (CC cl hcl).1 (by omega) (by omega)) (cwV 1 htA (gdV wd_397 wd_398 wd_399 wd_1 wd_400) rfl rfl rfl (by decide +kernel) ⟨Nat.le_of_ble_eq_true rfl, Nat.le_of_ble_eq_true rfl⟩) hKK (P_X hP) 0 rfl rfl rfl hl.1 rfl (Nat.le_of_ble_eq_true rfl) dL_law_708 hcs hss hS (fun a h => adr_in (P_DX hD) a h) (fun H1 locs hP1 hz1 hk1 hS => ?_)
  have hP : va_P D vwCl (wP q qg qb qw cI cZ (syS σ (syK σ (K cl))) (upK K cl (syD σ (syK σ (K cl)))) g b w) H1 := P_putX hD hP hk1 hP1
  have hD : va_D A (wP q qg qb qw cI cZ (syS σ (syK σ (K cl))) (upK K cl (syD σ (syK σ (K cl)))) g b w) := D_addr hD rfl
  generalize H1 = H at hP hS ⊢
  obtain ⟨I3, Fr, ec⟩ := LI_sync I hn hcl (fun _ _ => rfl) (Nat.zero_le _)
  have C3 := I3.2.2.2.2.2 cl hcl
  refine n_ifne (x := K cl 0 5 - syB σ (syK σ (K cl)) 0 5) (tgt := 736) hx hb dL_law_711 (by decide) (by omega) (fun c_1 => ?_) (fun c_1 => ?_)
  · exfalso; omega
  refine lv_aload_n hx hb dL_law_714 rfl (lv_at hl 1 rfl) ?_
  refine lv_iload hx hb dL_law_715 (lv_at hl 13 rfl) ?_
  refine lv_aload_n hx hb dL_law_717 rfl (lv_at hl 3 rfl) ?_
  refine lv_iload hx hb dL_law_718 (lv_at hl 13 rfl) ?_
  refine n_iald (g := b) (cA := cI) (n := 2) (j := cl) hx hb hKK.1 hP 25 0 rfl rfl (by omega) (Nat.le_of_ble_eq_true rfl) dL_law_720 ?_
  refine lv_aload hx hb dL_law_721 (lv_at hl 4 rfl) ?_
  refine lv_iload hx hb dL_law_723 (lv_at hl 13 rfl) ?_
  refine n_iald (g := w) (cA := cI) (n := 2) (j := cl) hx hb hKK.1 hP 26 0 rfl rfl (by omega) (Nat.le_of_ble_eq_true rfl) dL_law_725 ?_
  refine roS1 (v := .int (b2i (true))) (As := [.ref (q 0), .int (nI (cl)), .int (nI (b cl)), .int (nI (w cl))]) (rest := []) (n := 4) ⟨hx, hb, hml, hown, htA⟩ (kc_isFresh l D cI cZ sa q (syS σ (syK σ (K cl))) (upK K cl (syD σ (syK σ (K cl)))) cl (b cl) (w cl) H (P_X hP) hcl I3.1 C3.1 Fr C3.2.2.2.1 C3.2.2.2.2) (va_cwS 4 htA (gdS wd_469 wd_470 wd_0 wd_471) rfl rfl rfl (by decide +kernel) ⟨Nat.le_of_ble_eq_true rfl, Nat.le_of_ble_eq_true rfl⟩) hKK rfl hl.1 rfl (Nat.le_of_ble_eq_true rfl) dL_law_726 hcs hss ?_
  refine b_ifeq (b := true) (tgt := 736) hx hb dL_law_729 (by decide) (fun c_2 => ?_) (fun c_2 => ?_)
  · exact absurd c_2 (by decide)
  refine n_iconst (k := 1) hx hb dL_law_732 (by decide) ?_
  refine lv_goto (tgt := 737) hx hb dL_law_733 (by decide) ?_
  refine lv_istore (lv' := [(10, .int (nI (1))), (0, .ref (b9)), (1, .ref (q 0)), (2, .ref (qg)), (3, .ref (qb)), (4, .ref (qw)), (5, .int (nI (σ 1 0))), (6, .int (nI (st))), (7, .int (nI (M))), (8, .int (nI (F))), (9, .int (nI (bx))), (11, .int (nI (n))), (12, .int (nI (v9))), (14, .int (nI (cl)))]) hx hb dL_law_737 hl (by decide) rfl (fun ls hl => ?_)
  exact kk _ _ _ _ _ _ _ _ _ _ _ _ (I3) ⟨hP, hD, hS, by rw [ec]; exact lv_sub hl [1, 2, 3, 4, 5, 6, 7, 8, 9, 10, 0, 11] rfl⟩
