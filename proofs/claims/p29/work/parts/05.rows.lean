/-! derived rows: naturals on the stack, exact heaps, worlds by name -/
abbrev ST : Type := Nat → Nat → Nat
def su (S : ST) (k : Nat) (f : Nat → Nat) : ST := fun j => cond (Nat.beq j k) f (S j)
def sv (S : ST) (k i v : Nat) : ST := su S k (fun j => cond (Nat.beq j i) v (S k j))
def nf (g : Nat → Nat) : Nat → Int32 := fun i => nI (g i)
def upN (g : Nat → Nat) (k v : Nat) : Nat → Nat := fun i => if i = k then v else g i
def b2i (b : Bool) : Int32 := cond b 1 0
def b2n (b : Bool) : Nat := cond b 1 0
def oi (n : Nat) : Int32 := match n with
  | 0 => -1
  | k + 1 => nI k
def kf (g : Nat → Nat) : Nat → Int32 := fun i => oi (g i)
theorem nf_upd (g : Nat → Nat) (k v : Nat) : upd (nf g) k (nI v) = nf (upN g k v) := by
  funext i; unfold upd nf upN; split <;> rfl
theorem kf_upd (g : Nat → Nat) (k v : Nat) : upd (kf g) k (oi v) = kf (upN g k v) := by
  funext i; unfold upd kf upN; split <;> rfl
theorem b2i_n (b : Bool) : b2i b = nI (b2n b) := by cases b <;> rfl
theorem b2n_lt (b : Bool) : b2n b < 2 := by cases b <;> decide
theorem n_inc (j k : Nat) {n : Int} (h : n = (k : Int)) : nI j + Int32.ofInt n = nI (j + k) := by
  subst h
  rw [show Int32.ofInt ((k : Nat) : Int) = nI k from rfl, nI_add]
theorem n_dec (j : Nat) (h : 0 < j) : nI j + Int32.ofInt (-1) = nI (j - 1) := by
  obtain ⟨i, rfl⟩ : ∃ i, j = i + 1 := ⟨j - 1, by omega⟩
  rw [show Int32.ofInt (-1) = (-1 : Int32) from rfl, pk_m1, Nat.add_sub_cancel]
theorem n_decs (j : Nat) : nI (j + 1) + Int32.ofInt (-1) = nI j := by
  rw [show Int32.ofInt (-1) = (-1 : Int32) from rfl, pk_m1]
theorem n_pred (j : Nat) : nI j - nI 1 = oi j := by
  cases j with
  | zero => decide
  | succ i => show nI (i + 1) - 1 = nI i; exact nI_pred i
theorem D_addr {A : Nat → Prop} {ws ws' : va_W} (hD : va_D A ws) (h : ws.map Prod.fst = ws'.map Prod.fst) : va_D A ws' := by
  have key : ∀ (k : Nat) (q : Nat × va_E), ws'[k]? = some q → ∃ r, ws[k]? = some r ∧ r.1 = q.1 := by
    intro k q hq
    have h1 : (ws'.map Prod.fst)[k]? = some q.1 := by rw [List.getElem?_map, hq]; rfl
    rw [← h, List.getElem?_map] at h1
    cases hr : ws[k]? with
    | none => rw [hr] at h1; cases h1
    | some r => rw [hr] at h1; exact ⟨r, rfl, Option.some.inj h1⟩
  refine ⟨fun i j p q hi hj hpq => ?_, fun k q hk => ?_⟩
  · obtain ⟨r1, e1, f1⟩ := key i p hi
    obtain ⟨r2, e2, f2⟩ := key j q hj
    exact hD.1 i j r1 r2 e1 e2 (by rw [f1, f2, hpq])
  · obtain ⟨r, e1, f1⟩ := key k q hk
    rw [← f1]; exact hD.2 k r e1
/-- the addresses of a world -/
def adr (ws : va_W) : Nat → Prop := fun a => ∃ (k : Nat) (q : Nat × va_E), ws[k]? = some q ∧ q.1 = a
theorem D_adr {A : Nat → Prop} {ws : va_W} (h : va_D A ws) : va_D (adr ws) ws := ⟨h.1, fun k q hk => ⟨k, q, hk, rfl⟩⟩
theorem adr_in {A : Nat → Prop} {ws : va_W} (h : va_D A ws) : ∀ a, adr ws a → A a := fun a ha => by
  obtain ⟨k, q, hk, rfl⟩ := ha
  exact h.2 k q hk
theorem P_keep {D : va_G} {cl : List vw_C} {ws : va_W} {H H1 : Heap} {A : Nat → Prop} (h : va_P D cl ws H) (hk : ∀ a : Nat, a < H.size → ¬ A a → H1[a]? = H[a]?) (hA : ∀ (k : Nat) (q : Nat × va_E), ws[k]? = some q → ¬ A q.1) : va_P D cl ws H1 :=
  h.kept (fun k q hq => hk q.1 (h k q hq).lt (hA k q hq))
theorem P_grow {D : va_G} {cl : List vw_C} {ws : va_W} {H H1 : Heap} (h : va_P D cl ws H) (hk : ∀ a : Nat, a < H.size → H1[a]? = H[a]?) : va_P D cl ws H1 :=
  h.kept (fun k q hq => hk q.1 (h k q hq).lt)
abbrev tyA (cI cZ : ClassId) : List (ClassId × FieldType) := [(cI, .int), (cZ, .boolean)]
def KK (D : va_G) (cI cZ : ClassId) (sa : Nat → Nat) (U : State) : Prop := va_K D vwCl (tyA cI cZ) U ∧ EX sa U
theorem KK.warm {D : va_G} {cI cZ : ClassId} {sa : Nat → Nat} {s U : State} (hW : s.WarmedH U.vm) (h : KK D cI cZ sa s) : KK D cI cZ sa U := ⟨va_K.moved hW.alike h.1, h.2.warm hW⟩
theorem KK.same {D : va_G} {cI cZ : ClassId} {sa : Nat → Nat} {s U : State} (hv : s.vm = U.vm) (h : KK D cI cZ sa s) : KK D cI cZ sa U := ⟨va_K.moved (by rw [hv]; exact Vm.Alike.refl U.vm) h.1, h.2.same hv⟩
/-- an exact heap: what a method that changes nothing answers -/
def RoQ (v : Option Value) (H : Heap) : Array Value → State → Outcome → State → Prop := fun _ _ oc t => oc = .returned v ∧ t.heap = H
abbrev RoP (D : va_G) (cI cZ : ClassId) (sa : Nat → Nat) (H : Heap) (av : List Value) : Array Value → State → Prop := va_Pc av (fun U => U.heap = H ∧ KK D cI cZ sa U)
def RoF : Addr → Prop := fun _ => False
/-- a method that writes within A: its world behind it -/
def WrQ (v : Option Value) (D : va_G) (ws : va_W) (A : Nat → Prop) : Array Value → State → Outcome → State → Prop := fun _ st oc t => oc = .returned v ∧ va_P D vwCl ws t.heap ∧ va_F A st t
abbrev WrP (D : va_G) (cI cZ : ClassId) (sa : Nat → Nat) (ws : va_W) (av : List Value) : Array Value → State → Prop := va_Pc av (fun U => va_P D vwCl ws U.heap ∧ KK D cI cZ sa U)
/-- what every walk has at hand -/
abbrev codeW (y : MethodName) (cc : ByteArray) (n : Nat) (ret : Option FieldType) : List Cond := Cond.code y cc n ret :: WA
theorem Met_ofWF {l : Launch} {y : MethodName} {ws ws' : List Cond} {rm : Room} {Pc : Array Value → State → Prop} {Qc : Array Value → State → Outcome → State → Prop} {mc ms : Nat} {free : Addr → Prop} {cc : ByteArray} {maxL : Nat} {ret : Option FieldType}
    (hy : plainFor y = true) (hw : ws = Cond.code y cc maxL ret :: ws')
    (body : ∀ p e s m args below meth c s₁, BodyLoose p l y (headSpec ws rm) cc maxL ret e s m args below meth c s₁ → c.maxLocals = maxL → Pc args s →
      W p l e (headSpec ws rm).room s m args below meth c s.heap [] 0 0 (MQ below Qc args s mc ms free) (entryFrame m args maxL)) : Met l y ws rm Pc Qc mc ms free := by
  refine MetFree.of_bodySF (code := cc) (maxLocals := maxL) (ret := ret) hy ?_ ?_
  · intro args s m h hn
    obtain ⟨meth, c, h1, h2, h3, h4, h5, h6, -, -⟩ := Cond.code_spec hn (atoms_spec (ws := ws) h _ (by rw [hw]; exact List.mem_cons_self))
    exact ⟨meth, c, h1, h2, h3, h4, h5, h6⟩
  · intro p e s m args below meth c s₁ B hml hP _
    have hh0 : s₁.heap = s.heap := by rw [B.state]; rfl
    obtain ⟨t, a1, o, b1, b2, b3⟩ := body p e s m args below meth c s₁ B hml hP s₁ hh0 (Stand.of_body B)
    exact ⟨t, o, a1, b1, b2, ⟨b3.1, b3.2⟩⟩
section ROWS
variable {p : Program} {l : Launch} {e : Env} {R : Room} {s : State} {m : MethodId} {args : Array Value} {below : List Frame} {meth : Method} {c : Code} {H : Heap} {locs : List Loc} {cells slots : Nat} {Q : State → Prop}
variable {cc : ByteArray} {pc : Nat} {ls : Array Slot} {rest st0 : List Value}
theorem n_iconst (hx : p.tables.exec = Jvm.exec) (hb : c.code = cc) {n : Int} {k : Nat} (hdg : decode cc pc = .ok (.iconst n, 1)) (hv : Int32.ofInt n = nI k)
    (kk : W p l e R s m args below meth c H locs cells slots Q (F0 m (pc + 1) ls (.int (nI k) :: rest))) : W p l e R s m args below meth c H locs cells slots Q (F0 m (pc) ls (rest)) := lv_iconst hx hb hdg hv kk
theorem n_iadd (hx : p.tables.exec = Jvm.exec) (hb : c.code = cc) {x y : Nat} (hdg : decode cc pc = .ok (.iadd, 1))
    (kk : W p l e R s m args below meth c H locs cells slots Q (F0 m (pc + 1) ls (.int (nI (x + y)) :: rest))) : W p l e R s m args below meth c H locs cells slots Q (F0 m (pc) ls (.int (nI y) :: .int (nI x) :: rest)) := lv_iadd hx hb hdg (by rw [nI_add]; exact kk)
theorem n_isub (hx : p.tables.exec = Jvm.exec) (hb : c.code = cc) {x y : Nat} (hle : y ≤ x) (hdg : decode cc pc = .ok (.isub, 1))
    (kk : W p l e R s m args below meth c H locs cells slots Q (F0 m (pc + 1) ls (.int (nI (x - y)) :: rest))) : W p l e R s m args below meth c H locs cells slots Q (F0 m (pc) ls (.int (nI y) :: .int (nI x) :: rest)) := lv_isub hx hb hdg (by rw [pk_sub hle]; exact kk)
theorem n_imul (hx : p.tables.exec = Jvm.exec) (hb : c.code = cc) {x y : Nat} (hdg : decode cc pc = .ok (.imul, 1))
    (kk : W p l e R s m args below meth c H locs cells slots Q (F0 m (pc + 1) ls (.int (nI (x * y)) :: rest))) : W p l e R s m args below meth c H locs cells slots Q (F0 m (pc) ls (.int (nI y) :: .int (nI x) :: rest)) := lv_imul hx hb hdg (by rw [pk_mul]; exact kk)
theorem n_ipred (hx : p.tables.exec = Jvm.exec) (hb : c.code = cc) {x : Nat} (hdg : decode cc pc = .ok (.isub, 1))
    (kk : W p l e R s m args below meth c H locs cells slots Q (F0 m (pc + 1) ls (.int (oi x) :: rest))) : W p l e R s m args below meth c H locs cells slots Q (F0 m (pc) ls (.int (nI 1) :: .int (nI x) :: rest)) := lv_isub hx hb hdg (by rw [n_pred]; exact kk)
theorem n_ipreds (hx : p.tables.exec = Jvm.exec) (hb : c.code = cc) {x : Nat} (hdg : decode cc pc = .ok (.isub, 1))
    (kk : W p l e R s m args below meth c H locs cells slots Q (F0 m (pc + 1) ls (.int (nI x) :: rest))) : W p l e R s m args below meth c H locs cells slots Q (F0 m (pc) ls (.int (nI 1) :: .int (nI (x + 1)) :: rest)) := lv_isub hx hb hdg (by rw [n_pred]; exact kk)
theorem shl1_0 : ∀ k : Fin 31, nI 1 <<< (nI k.val &&& 31) = nI (2 ^ k.val) := by decide +kernel
theorem shl1 {k : Nat} (h : k < 31) : nI 1 <<< (nI k &&& 31) = nI (2 ^ k) := shl1_0 ⟨k, h⟩
theorem n_ishl1 (hx : p.tables.exec = Jvm.exec) (hb : c.code = cc) {y : Nat} (h : y < 31) (hdg : decode cc pc = .ok (.ishl, 1))
    (kk : W p l e R s m args below meth c H locs cells slots Q (F0 m (pc + 1) ls (.int (nI (2 ^ y)) :: rest))) : W p l e R s m args below meth c H locs cells slots Q (F0 m (pc) ls (.int (nI y) :: .int (nI 1) :: rest)) := lv_ishl hx hb hdg (by rw [shl1 h]; exact kk)
theorem nx_and (a b : Nat) : nI a &&& nI b = nI (a &&& b) := by
  apply Int32.toBitVec_inj.1
  show BitVec.ofNat 32 a &&& BitVec.ofNat 32 b = BitVec.ofNat 32 (a &&& b)
  apply BitVec.eq_of_getLsbD_eq
  intro i hi
  simp [hi]
theorem nx_xor (a b : Nat) : nI a ^^^ nI b = nI (a ^^^ b) := by
  apply Int32.toBitVec_inj.1
  show BitVec.ofNat 32 a ^^^ BitVec.ofNat 32 b = BitVec.ofNat 32 (a ^^^ b)
  apply BitVec.eq_of_getLsbD_eq
  intro i hi
  simp [hi]
theorem nx_or (a b : Nat) : nI a ||| nI b = nI (a ||| b) := by
  apply Int32.toBitVec_inj.1
  show BitVec.ofNat 32 a ||| BitVec.ofNat 32 b = BitVec.ofNat 32 (a ||| b)
  apply BitVec.eq_of_getLsbD_eq
  intro i hi
  simp [hi]
theorem n_deck (j : Nat) : nI j + Int32.ofInt (-1) = oi j := by
  cases j with
  | zero => decide
  | succ i => exact n_decs i
theorem oi_pos {n : Nat} (h : n ≠ 0) : oi n = nI (n - 1) := by
  cases n with
  | zero => exact absurd rfl h
  | succ k => rfl
theorem k_top {x : Nat} (h : x ≠ 0) (kk : W p l e R s m args below meth c H locs cells slots Q (F0 m pc ls (.int (nI (x - 1)) :: rest))) : W p l e R s m args below meth c H locs cells slots Q (F0 m pc ls (.int (oi x) :: rest)) := by
  rw [oi_pos h]; exact kk
theorem n_ixor (hx : p.tables.exec = Jvm.exec) (hb : c.code = cc) {x y : Nat} (hdg : decode cc pc = .ok (.ixor, 1))
    (kk : W p l e R s m args below meth c H locs cells slots Q (F0 m (pc + 1) ls (.int (nI (x ^^^ y)) :: rest))) : W p l e R s m args below meth c H locs cells slots Q (F0 m (pc) ls (.int (nI y) :: .int (nI x) :: rest)) := lv_ixor hx hb hdg (by rw [nx_xor]; exact kk)
theorem n_ior (hx : p.tables.exec = Jvm.exec) (hb : c.code = cc) {x y : Nat} (hdg : decode cc pc = .ok (.ior, 1))
    (kk : W p l e R s m args below meth c H locs cells slots Q (F0 m (pc + 1) ls (.int (nI (x ||| y)) :: rest))) : W p l e R s m args below meth c H locs cells slots Q (F0 m (pc) ls (.int (nI y) :: .int (nI x) :: rest)) := lv_ior hx hb hdg (by rw [nx_or]; exact kk)
theorem kn_icmp_lt (hx : p.tables.exec = Jvm.exec) (hb : c.code = cc) {x y : Nat} {off : Int} {tgt : Nat} (hdg : decode cc pc = .ok (.if_icmp .lt off, 3)) (ht : (pc : Int) + off = (tgt : Int)) (h1 : x < 2 ^ 31) (h2 : y < 2 ^ 31)
    (kt : x ≤ y → W p l e R s m args below meth c H locs cells slots Q (F0 m (tgt) ls (rest))) (kf : y < x → W p l e R s m args below meth c H locs cells slots Q (F0 m (pc + 3) ls (rest))) : W p l e R s m args below meth c H locs cells slots Q (F0 m (pc) ls (.int (nI y) :: .int (oi x) :: rest)) := lv_icmp_lt hx hb hdg ht (fun q => kt (by
    cases x with
    | zero => exact Nat.zero_le y
    | succ j => exact (nI_ltI (by omega) h2).mp q)) (fun q => kf (by
    cases x with
    | zero => exact absurd (Int32.lt_of_lt_of_le (by decide : (-1 : Int32) < 0) (nI_pos' h2)) q
    | succ j => exact Nat.lt_succ_of_le (Nat.le_of_not_lt (fun h => q ((nI_ltI (by omega) h2).mpr h)))))
theorem n_icmp_lt (hx : p.tables.exec = Jvm.exec) (hb : c.code = cc) {x y : Nat} {off : Int} {tgt : Nat} (hdg : decode cc pc = .ok (.if_icmp .lt off, 3)) (ht : (pc : Int) + off = (tgt : Int)) (h1 : x < 2 ^ 31) (h2 : y < 2 ^ 31)
    (kt : x < y → W p l e R s m args below meth c H locs cells slots Q (F0 m (tgt) ls (rest))) (kf : y ≤ x → W p l e R s m args below meth c H locs cells slots Q (F0 m (pc + 3) ls (rest))) : W p l e R s m args below meth c H locs cells slots Q (F0 m (pc) ls (.int (nI y) :: .int (nI x) :: rest)) := lv_icmp_lt hx hb hdg ht (fun q => kt ((nI_ltI h1 h2).mp q)) (fun q => kf (Nat.le_of_not_lt fun h => q ((nI_ltI h1 h2).mpr h)))
theorem n_icmp_ge (hx : p.tables.exec = Jvm.exec) (hb : c.code = cc) {x y : Nat} {off : Int} {tgt : Nat} (hdg : decode cc pc = .ok (.if_icmp .ge off, 3)) (ht : (pc : Int) + off = (tgt : Int)) (h1 : x < 2 ^ 31) (h2 : y < 2 ^ 31)
    (kt : y ≤ x → W p l e R s m args below meth c H locs cells slots Q (F0 m (tgt) ls (rest))) (kf : x < y → W p l e R s m args below meth c H locs cells slots Q (F0 m (pc + 3) ls (rest))) : W p l e R s m args below meth c H locs cells slots Q (F0 m (pc) ls (.int (nI y) :: .int (nI x) :: rest)) := lv_icmp_ge hx hb hdg ht (fun q => kt ((nI_leI h2 h1).mp q)) (fun q => kf (Nat.lt_of_not_le fun h => q ((nI_leI h2 h1).mpr h)))
theorem n_icmp_gt (hx : p.tables.exec = Jvm.exec) (hb : c.code = cc) {x y : Nat} {off : Int} {tgt : Nat} (hdg : decode cc pc = .ok (.if_icmp .gt off, 3)) (ht : (pc : Int) + off = (tgt : Int)) (h1 : x < 2 ^ 31) (h2 : y < 2 ^ 31)
    (kt : y < x → W p l e R s m args below meth c H locs cells slots Q (F0 m (tgt) ls (rest))) (kf : x ≤ y → W p l e R s m args below meth c H locs cells slots Q (F0 m (pc + 3) ls (rest))) : W p l e R s m args below meth c H locs cells slots Q (F0 m (pc) ls (.int (nI y) :: .int (nI x) :: rest)) := lv_icmp_gt hx hb hdg ht (fun q => kt ((nI_ltI h2 h1).mp q)) (fun q => kf (Nat.le_of_not_lt fun h => q ((nI_ltI h2 h1).mpr h)))
theorem n_icmp_le (hx : p.tables.exec = Jvm.exec) (hb : c.code = cc) {x y : Nat} {off : Int} {tgt : Nat} (hdg : decode cc pc = .ok (.if_icmp .le off, 3)) (ht : (pc : Int) + off = (tgt : Int)) (h1 : x < 2 ^ 31) (h2 : y < 2 ^ 31)
    (kt : x ≤ y → W p l e R s m args below meth c H locs cells slots Q (F0 m (tgt) ls (rest))) (kf : y < x → W p l e R s m args below meth c H locs cells slots Q (F0 m (pc + 3) ls (rest))) : W p l e R s m args below meth c H locs cells slots Q (F0 m (pc) ls (.int (nI y) :: .int (nI x) :: rest)) := lv_icmp_le hx hb hdg ht (fun q => kt ((nI_leI h1 h2).mp q)) (fun q => kf (Nat.lt_of_not_le fun h => q ((nI_leI h1 h2).mpr h)))
theorem n_icmp_eq (hx : p.tables.exec = Jvm.exec) (hb : c.code = cc) {x y : Nat} {off : Int} {tgt : Nat} (hdg : decode cc pc = .ok (.if_icmp .eq off, 3)) (ht : (pc : Int) + off = (tgt : Int)) (h1 : x < 2 ^ 31) (h2 : y < 2 ^ 31)
    (kt : x = y → W p l e R s m args below meth c H locs cells slots Q (F0 m (tgt) ls (rest))) (kf : x ≠ y → W p l e R s m args below meth c H locs cells slots Q (F0 m (pc + 3) ls (rest))) : W p l e R s m args below meth c H locs cells slots Q (F0 m (pc) ls (.int (nI y) :: .int (nI x) :: rest)) := lv_icmp_eq hx hb hdg ht (fun q => kt ((nI_eq h1 h2).mp q)) (fun q => kf (fun h => q ((nI_eq h1 h2).mpr h)))
theorem n_icmp_ne (hx : p.tables.exec = Jvm.exec) (hb : c.code = cc) {x y : Nat} {off : Int} {tgt : Nat} (hdg : decode cc pc = .ok (.if_icmp .ne off, 3)) (ht : (pc : Int) + off = (tgt : Int)) (h1 : x < 2 ^ 31) (h2 : y < 2 ^ 31)
    (kt : x ≠ y → W p l e R s m args below meth c H locs cells slots Q (F0 m (tgt) ls (rest))) (kf : x = y → W p l e R s m args below meth c H locs cells slots Q (F0 m (pc + 3) ls (rest))) : W p l e R s m args below meth c H locs cells slots Q (F0 m (pc) ls (.int (nI y) :: .int (nI x) :: rest)) := lv_icmp_ne hx hb hdg ht (fun q => kt (fun h => q ((nI_eq h1 h2).mpr h))) (fun q => kf ((nI_eq h1 h2).mp q))
def nb (w : Nat) : Bool := !decide (w = 0)
theorem nb_i {w : Nat} (h : w < 2) : nI w = b2i (nb w) := by rcases (show w = 0 ∨ w = 1 by omega) with rfl | rfl <;> rfl
theorem b2i_inj {a b : Bool} (h : b2i a = b2i b) : a = b := by cases a <;> cases b <;> first | rfl | exact absurd h (by decide)
theorem nb_n (b : Bool) : nb (b2n b) = b := by cases b <;> rfl
theorem iw_t {j a b : Nat} (h1 : a ≤ j) (h2 : j ≤ b) (hb : b < 2 ^ 31) : (!decide (nI j < nI a) && !decide (nI b < nI j)) = true := by
  rw [decide_eq_false (nI_nlt h1 (Nat.lt_of_le_of_lt h2 hb)), decide_eq_false (nI_nlt h2 hb)]; rfl
theorem bn_icmp_eq (hx : p.tables.exec = Jvm.exec) (hb : c.code = cc) {b : Bool} {w : Nat} (hw : w < 2) {off : Int} {tgt : Nat} (hdg : decode cc pc = .ok (.if_icmp .eq off, 3)) (ht : (pc : Int) + off = (tgt : Int))
    (kt : b = nb w → W p l e R s m args below meth c H locs cells slots Q (F0 m (tgt) ls (rest))) (kf : b ≠ nb w → W p l e R s m args below meth c H locs cells slots Q (F0 m (pc + 3) ls (rest))) : W p l e R s m args below meth c H locs cells slots Q (F0 m (pc) ls (.int (nI w) :: .int (b2i b) :: rest)) := lv_icmp_eq hx hb hdg ht (fun q => kt (b2i_inj (q.trans (nb_i hw)))) (fun q => kf (fun h => q (by rw [h, nb_i hw])))
theorem nb_icmp_eq (hx : p.tables.exec = Jvm.exec) (hb : c.code = cc) {b : Bool} {w : Nat} (hw : w < 2) {off : Int} {tgt : Nat} (hdg : decode cc pc = .ok (.if_icmp .eq off, 3)) (ht : (pc : Int) + off = (tgt : Int))
    (kt : b = nb w → W p l e R s m args below meth c H locs cells slots Q (F0 m (tgt) ls (rest))) (kf : b ≠ nb w → W p l e R s m args below meth c H locs cells slots Q (F0 m (pc + 3) ls (rest))) : W p l e R s m args below meth c H locs cells slots Q (F0 m (pc) ls (.int (b2i b) :: .int (nI w) :: rest)) := lv_icmp_eq hx hb hdg ht (fun q => kt (b2i_inj (q.symm.trans (nb_i hw)))) (fun q => kf (fun h => q (by rw [h, nb_i hw])))
theorem bn_icmp_ne (hx : p.tables.exec = Jvm.exec) (hb : c.code = cc) {b : Bool} {w : Nat} (hw : w < 2) {off : Int} {tgt : Nat} (hdg : decode cc pc = .ok (.if_icmp .ne off, 3)) (ht : (pc : Int) + off = (tgt : Int))
    (kt : b ≠ nb w → W p l e R s m args below meth c H locs cells slots Q (F0 m (tgt) ls (rest))) (kf : b = nb w → W p l e R s m args below meth c H locs cells slots Q (F0 m (pc + 3) ls (rest))) : W p l e R s m args below meth c H locs cells slots Q (F0 m (pc) ls (.int (nI w) :: .int (b2i b) :: rest)) := lv_icmp_ne hx hb hdg ht (fun q => kt (fun h => q (by rw [h, nb_i hw]))) (fun q => kf (b2i_inj (q.trans (nb_i hw))))
theorem nb_icmp_ne (hx : p.tables.exec = Jvm.exec) (hb : c.code = cc) {b : Bool} {w : Nat} (hw : w < 2) {off : Int} {tgt : Nat} (hdg : decode cc pc = .ok (.if_icmp .ne off, 3)) (ht : (pc : Int) + off = (tgt : Int))
    (kt : b ≠ nb w → W p l e R s m args below meth c H locs cells slots Q (F0 m (tgt) ls (rest))) (kf : b = nb w → W p l e R s m args below meth c H locs cells slots Q (F0 m (pc + 3) ls (rest))) : W p l e R s m args below meth c H locs cells slots Q (F0 m (pc) ls (.int (b2i b) :: .int (nI w) :: rest)) := lv_icmp_ne hx hb hdg ht (fun q => kt (fun h => q (by rw [h, nb_i hw]))) (fun q => kf (b2i_inj (q.symm.trans (nb_i hw))))
theorem n_irem (hx : p.tables.exec = Jvm.exec) (hb : c.code = cc) {x y : Nat} (h1 : x < 2 ^ 31) (h0 : 0 < y) (h2 : y < 2 ^ 31) (hdg : decode cc pc = .ok (.irem, 1))
    (kk : W p l e R s m args below meth c H locs cells slots Q (F0 m (pc + 1) ls (.int (nI (x % y)) :: rest))) : W p l e R s m args below meth c H locs cells slots Q (F0 m (pc) ls (.int (nI y) :: .int (nI x) :: rest)) := lv_irem hx hb hdg (nI_ne0 h0 h2) (by rw [pk_rem h1 h0 h2]; exact kk)
theorem oi_inj {x y : Nat} (h1 : x ≤ 2 ^ 31) (h2 : y ≤ 2 ^ 31) (h : oi x = oi y) : x = y := by
  cases x with
  | zero =>
    cases y with
    | zero => rfl
    | succ k =>
      have h9 : (-1 : Int32) = nI k := h
      exact absurd (by rw [← h9]; decide : nI k < 0) (nI_pos (by omega))
  | succ j =>
    cases y with
    | zero =>
      have h9 : nI j = (-1 : Int32) := h
      exact absurd (by rw [h9]; decide : nI j < 0) (nI_pos (by omega))
    | succ k => exact congrArg (· + 1) ((nI_eq (by omega) (by omega)).mp h)
theorem k_icmp_eq (hx : p.tables.exec = Jvm.exec) (hb : c.code = cc) {x y : Nat} {off : Int} {tgt : Nat} (hdg : decode cc pc = .ok (.if_icmp .eq off, 3)) (ht : (pc : Int) + off = (tgt : Int)) (h1 : x ≤ 2 ^ 31) (h2 : y ≤ 2 ^ 31)
    (kt : x = y → W p l e R s m args below meth c H locs cells slots Q (F0 m (tgt) ls (rest))) (kf : x ≠ y → W p l e R s m args below meth c H locs cells slots Q (F0 m (pc + 3) ls (rest))) : W p l e R s m args below meth c H locs cells slots Q (F0 m (pc) ls (.int (oi y) :: .int (oi x) :: rest)) := lv_icmp_eq hx hb hdg ht (fun q => kt (oi_inj h1 h2 q)) (fun q => kf (fun h => q (by rw [h])))
theorem k_icmp_ne (hx : p.tables.exec = Jvm.exec) (hb : c.code = cc) {x y : Nat} {off : Int} {tgt : Nat} (hdg : decode cc pc = .ok (.if_icmp .ne off, 3)) (ht : (pc : Int) + off = (tgt : Int)) (h1 : x ≤ 2 ^ 31) (h2 : y ≤ 2 ^ 31)
    (kt : x ≠ y → W p l e R s m args below meth c H locs cells slots Q (F0 m (tgt) ls (rest))) (kf : x = y → W p l e R s m args below meth c H locs cells slots Q (F0 m (pc + 3) ls (rest))) : W p l e R s m args below meth c H locs cells slots Q (F0 m (pc) ls (.int (oi y) :: .int (oi x) :: rest)) := lv_icmp_ne hx hb hdg ht (fun q => kt (fun h => q (by rw [h]))) (fun q => kf (oi_inj h1 h2 q))
theorem b_ifeq (hx : p.tables.exec = Jvm.exec) (hb : c.code = cc) {b : Bool} {off : Int} {tgt : Nat} (hdg : decode cc pc = .ok (.ifCond .eq off, 3)) (ht : (pc : Int) + off = (tgt : Int))
    (kt : b = false → W p l e R s m args below meth c H locs cells slots Q (F0 m (tgt) ls (rest))) (kf : b = true → W p l e R s m args below meth c H locs cells slots Q (F0 m (pc + 3) ls (rest))) : W p l e R s m args below meth c H locs cells slots Q (F0 m (pc) ls (.int (b2i b) :: rest)) := lv_if_eq hx hb hdg ht (fun q => kt (by cases b; rfl; exact absurd q (by decide))) (fun q => kf (by cases b; exact absurd rfl q; rfl))
theorem b_ifne (hx : p.tables.exec = Jvm.exec) (hb : c.code = cc) {b : Bool} {off : Int} {tgt : Nat} (hdg : decode cc pc = .ok (.ifCond .ne off, 3)) (ht : (pc : Int) + off = (tgt : Int))
    (kt : b = true → W p l e R s m args below meth c H locs cells slots Q (F0 m (tgt) ls (rest))) (kf : b = false → W p l e R s m args below meth c H locs cells slots Q (F0 m (pc + 3) ls (rest))) : W p l e R s m args below meth c H locs cells slots Q (F0 m (pc) ls (.int (b2i b) :: rest)) := lv_if_ne hx hb hdg ht (fun q => kt (by cases b; exact absurd rfl q; rfl)) (fun q => kf (by cases b; rfl; exact absurd q (by decide)))
theorem n_ifeq (hx : p.tables.exec = Jvm.exec) (hb : c.code = cc) {x : Nat} {off : Int} {tgt : Nat} (hdg : decode cc pc = .ok (.ifCond .eq off, 3)) (ht : (pc : Int) + off = (tgt : Int)) (h1 : x < 2 ^ 31)
    (kt : x = 0 → W p l e R s m args below meth c H locs cells slots Q (F0 m (tgt) ls (rest))) (kf : x ≠ 0 → W p l e R s m args below meth c H locs cells slots Q (F0 m (pc + 3) ls (rest))) : W p l e R s m args below meth c H locs cells slots Q (F0 m (pc) ls (.int (nI x) :: rest)) := lv_if_eq hx hb hdg ht (fun q => kt ((nI_eq h1 (by decide)).mp (q.trans nI_0.symm))) (fun q => kf (fun h => q (by rw [h]; rfl)))
theorem n_ifne (hx : p.tables.exec = Jvm.exec) (hb : c.code = cc) {x : Nat} {off : Int} {tgt : Nat} (hdg : decode cc pc = .ok (.ifCond .ne off, 3)) (ht : (pc : Int) + off = (tgt : Int)) (h1 : x < 2 ^ 31)
    (kt : x ≠ 0 → W p l e R s m args below meth c H locs cells slots Q (F0 m (tgt) ls (rest))) (kf : x = 0 → W p l e R s m args below meth c H locs cells slots Q (F0 m (pc + 3) ls (rest))) : W p l e R s m args below meth c H locs cells slots Q (F0 m (pc) ls (.int (nI x) :: rest)) := lv_if_ne hx hb hdg ht (fun q => kt (fun h => q (by rw [h]; rfl))) (fun q => kf ((nI_eq h1 (by decide)).mp (q.trans nI_0.symm)))
theorem n_ifgt (hx : p.tables.exec = Jvm.exec) (hb : c.code = cc) {x : Nat} {off : Int} {tgt : Nat} (hdg : decode cc pc = .ok (.ifCond .gt off, 3)) (ht : (pc : Int) + off = (tgt : Int)) (h1 : x < 2 ^ 31)
    (kt : 0 < x → W p l e R s m args below meth c H locs cells slots Q (F0 m (tgt) ls (rest))) (kf : x = 0 → W p l e R s m args below meth c H locs cells slots Q (F0 m (pc + 3) ls (rest))) : W p l e R s m args below meth c H locs cells slots Q (F0 m (pc) ls (.int (nI x) :: rest)) := lv_if_gt hx hb hdg ht (fun q => kt ((nI_ltI (a := 0) (by decide) h1).mp q)) (fun q => kf (by rcases Nat.eq_zero_or_pos x with h | h; exact h; exact absurd ((nI_ltI (a := 0) (by decide) h1).mpr h) q))
theorem n_ifle (hx : p.tables.exec = Jvm.exec) (hb : c.code = cc) {x : Nat} {off : Int} {tgt : Nat} (hdg : decode cc pc = .ok (.ifCond .le off, 3)) (ht : (pc : Int) + off = (tgt : Int)) (h1 : x < 2 ^ 31)
    (kt : x = 0 → W p l e R s m args below meth c H locs cells slots Q (F0 m (tgt) ls (rest))) (kf : 0 < x → W p l e R s m args below meth c H locs cells slots Q (F0 m (pc + 3) ls (rest))) : W p l e R s m args below meth c H locs cells slots Q (F0 m (pc) ls (.int (nI x) :: rest)) := lv_if_le hx hb hdg ht (fun q => kt (by rcases Nat.eq_zero_or_pos x with h | h; exact h; exact absurd q (nI_nle h h1))) (fun q => kf (by rcases Nat.eq_zero_or_pos x with h | h; exact absurd (by rw [h]; decide) q; exact h))
theorem n_iflt (hx : p.tables.exec = Jvm.exec) (hb : c.code = cc) {x : Nat} {off : Int} {tgt : Nat} (hdg : decode cc pc = .ok (.ifCond .lt off, 3)) (ht : (pc : Int) + off = (tgt : Int)) (h1 : x < 2 ^ 31)
    (kf : W p l e R s m args below meth c H locs cells slots Q (F0 m (pc + 3) ls (rest))) : W p l e R s m args below meth c H locs cells slots Q (F0 m (pc) ls (.int (nI x) :: rest)) := lv_if_lt hx hb hdg ht (fun q => absurd q (nI_pos h1)) (fun _ => kf)
theorem n_ifge (hx : p.tables.exec = Jvm.exec) (hb : c.code = cc) {x : Nat} {off : Int} {tgt : Nat} (hdg : decode cc pc = .ok (.ifCond .ge off, 3)) (ht : (pc : Int) + off = (tgt : Int)) (h1 : x < 2 ^ 31)
    (kt : W p l e R s m args below meth c H locs cells slots Q (F0 m (tgt) ls (rest))) : W p l e R s m args below meth c H locs cells slots Q (F0 m (pc) ls (.int (nI x) :: rest)) := lv_if_ge hx hb hdg ht (fun _ => kt) (fun q => absurd (nI_pos' h1) q)
theorem n_mmin (hx : p.tables.exec = Jvm.exec) (hb : c.code = cc) {own : String} {index : Nat} {x y : Nat} (hml : c.maxLocals = ls.size) (hown : s.vm.findClass own = some m.cls) (hlink : (Cond.methodLink own index Lib.Math.min.name).before args s = true) (hstat : (Cond.static Lib.Math.min.name).before args s = true) (hini : (Cond.initialized "java/lang/Math").before args s = true) (hcode : (Cond.code Lib.Math.min.name Lib.Math.min.code 2 (some .int)).before args s = true) (hframes : 1 ≤ R.frames) (hlocals : (rest.map fun v => v.category).sum + 13 ≤ R.locals) (hc : cells ≤ R.cells) (hs : slots ≤ R.slots) (h1 : x < 2 ^ 31) (h2 : y < 2 ^ 31) (hdg : decode cc pc = .ok (.invokestatic index, 3))
    (kk : W p l e R s m args below meth c H locs cells slots Q (F0 m (pc + 3) ls (.int (nI (min x y)) :: rest))) : W p l e R s m args below meth c H locs cells slots Q (F0 m (pc) ls (.int (nI y) :: .int (nI x) :: rest)) := by
  refine va_mmin hx hb hml hown hlink hstat hini hcode hframes hlocals hc hs hdg ?_
  have e : (if nI y < nI x then nI y else nI x) = nI (min x y) := by
    by_cases h : y < x
    · rw [if_pos ((nI_ltI h2 h1).mpr h), Nat.min_eq_right (Nat.le_of_lt h)]
    · rw [if_neg (fun q => h ((nI_ltI h2 h1).mp q)), Nat.min_eq_left (Nat.le_of_not_lt h)]
  rw [e]; exact kk
variable {D : va_G} {cl : List vw_C} {ws : va_W} {tys : List (ClassId × FieldType)} {a : Nat} {A : Nat → Prop} {H0 : Heap}
theorem n_iald (hx : p.tables.exec = Jvm.exec) (hb : c.code = cc) (hK : va_K D cl tys s) (hP : va_P D cl ws H) (q0 t0 : Nat) {cA : ClassId} {n : Nat} {g : Nat → Nat} (ha : ws[q0]? = some (a, .inl (cA, n, .inl (nf g)))) (ht : tys[t0]? = some (cA, .int)) {j : Nat} (hj : j < n) (hn : n < 2 ^ 31) (hdg : decode cc pc = .ok (.iaload, 1))
    (kk : W p l e R s m args below meth c H locs cells slots Q (F0 m (pc + 1) ls (.int (nI (g j)) :: rest))) : W p l e R s m args below meth c H locs cells slots Q (F0 m (pc) ls (.int (nI j) :: .ref a :: rest)) := by
  refine va_iald hx hb hK hP q0 t0 ha ht (vp_in_nI hj hn) hdg ?_
  rw [nI_clamp (Nat.lt_trans hj hn)]
  exact kk
theorem n_kald (hx : p.tables.exec = Jvm.exec) (hb : c.code = cc) (hK : va_K D cl tys s) (hP : va_P D cl ws H) (q0 t0 : Nat) {cA : ClassId} {n : Nat} {g : Nat → Nat} (ha : ws[q0]? = some (a, .inl (cA, n, .inl (kf g)))) (ht : tys[t0]? = some (cA, .int)) {j : Nat} (hj : j < n) (hn : n < 2 ^ 31) (hdg : decode cc pc = .ok (.iaload, 1))
    (kk : W p l e R s m args below meth c H locs cells slots Q (F0 m (pc + 1) ls (.int (oi (g j)) :: rest))) : W p l e R s m args below meth c H locs cells slots Q (F0 m (pc) ls (.int (nI j) :: .ref a :: rest)) := by
  refine va_iald hx hb hK hP q0 t0 ha ht (vp_in_nI hj hn) hdg ?_
  rw [nI_clamp (Nat.lt_trans hj hn)]
  exact kk
theorem n_zald (hx : p.tables.exec = Jvm.exec) (hb : c.code = cc) (hK : va_K D cl tys s) (hP : va_P D cl ws H) (q0 t0 : Nat) {cA : ClassId} {n : Nat} {g : Nat → Nat} (ha : ws[q0]? = some (a, .inl (cA, n, .inl (nf g)))) (ht : tys[t0]? = some (cA, .boolean)) {j : Nat} (hj : j < n) (hn : n < 2 ^ 31) (hdg : decode cc pc = .ok (.baload, 1))
    (kk : W p l e R s m args below meth c H locs cells slots Q (F0 m (pc + 1) ls (.int (nI (g j)) :: rest))) : W p l e R s m args below meth c H locs cells slots Q (F0 m (pc) ls (.int (nI j) :: .ref a :: rest)) := by
  refine va_zald hx hb hK hP q0 t0 ha ht (vp_in_nI hj hn) hdg ?_
  rw [nI_clamp (Nat.lt_trans hj hn)]
  exact kk
theorem n_iast (hx : p.tables.exec = Jvm.exec) (hb : c.code = cc) (hK : va_K D cl tys s) (hP : va_P D cl ws H) (hD : va_D A ws) (hS : va_S A H0 H locs) (q0 t0 : Nat) {cA : ClassId} {n : Nat} {g : Nat → Nat} (ha : ws[q0]? = some (a, .inl (cA, n, .inl (nf g)))) (ht : tys[t0]? = some (cA, .int)) {j v : Nat} (hj : j < n) (hn : n < 2 ^ 31) (hdg : decode cc pc = .ok (.iastore, 1))
    (kk : ∀ (H1 : Heap) (locs1 : List Loc), va_P D cl (ws.set q0 (a, .inl (cA, n, .inl (nf (upN g j v))))) H1 → va_S A H0 H1 locs1 → W p l e R s m args below meth c H1 locs1 cells slots Q (F0 m (pc + 1) ls (rest))) : W p l e R s m args below meth c H locs cells slots Q (F0 m (pc) ls (.int (nI v) :: .int (nI j) :: .ref a :: rest)) := by
  refine va_iast hx hb hK hP hD hS q0 t0 ha ht (vp_in_nI hj hn) hdg (fun H1 locs1 h1 _ h3 => ?_)
  rw [nI_clamp (Nat.lt_trans hj hn), nf_upd] at h1
  exact kk H1 locs1 h1 h3
theorem n_kast (hx : p.tables.exec = Jvm.exec) (hb : c.code = cc) (hK : va_K D cl tys s) (hP : va_P D cl ws H) (hD : va_D A ws) (hS : va_S A H0 H locs) (q0 t0 : Nat) {cA : ClassId} {n : Nat} {g : Nat → Nat} (ha : ws[q0]? = some (a, .inl (cA, n, .inl (kf g)))) (ht : tys[t0]? = some (cA, .int)) {j v : Nat} (hj : j < n) (hn : n < 2 ^ 31) (hdg : decode cc pc = .ok (.iastore, 1))
    (kk : ∀ (H1 : Heap) (locs1 : List Loc), va_P D cl (ws.set q0 (a, .inl (cA, n, .inl (kf (upN g j v))))) H1 → va_S A H0 H1 locs1 → W p l e R s m args below meth c H1 locs1 cells slots Q (F0 m (pc + 1) ls (rest))) : W p l e R s m args below meth c H locs cells slots Q (F0 m (pc) ls (.int (oi v) :: .int (nI j) :: .ref a :: rest)) := by
  refine va_iast hx hb hK hP hD hS q0 t0 ha ht (vp_in_nI hj hn) hdg (fun H1 locs1 h1 _ h3 => ?_)
  rw [nI_clamp (Nat.lt_trans hj hn), kf_upd] at h1
  exact kk H1 locs1 h1 h3
theorem n_zast (hx : p.tables.exec = Jvm.exec) (hb : c.code = cc) (hK : va_K D cl tys s) (hP : va_P D cl ws H) (hD : va_D A ws) (hS : va_S A H0 H locs) (q0 t0 : Nat) {cA : ClassId} {n : Nat} {g : Nat → Nat} (ha : ws[q0]? = some (a, .inl (cA, n, .inl (nf g)))) (ht : tys[t0]? = some (cA, .boolean)) {j v : Nat} (hv : v < 2) (hj : j < n) (hn : n < 2 ^ 31) (hdg : decode cc pc = .ok (.bastore, 1))
    (kk : ∀ (H1 : Heap) (locs1 : List Loc), va_P D cl (ws.set q0 (a, .inl (cA, n, .inl (nf (upN g j v))))) H1 → va_S A H0 H1 locs1 → W p l e R s m args below meth c H1 locs1 cells slots Q (F0 m (pc + 1) ls (rest))) : W p l e R s m args below meth c H locs cells slots Q (F0 m (pc) ls (.int (nI v) :: .int (nI j) :: .ref a :: rest)) := by
  refine va_zast hx hb hK hP hD hS q0 t0 ha ht (vp_in_nI hj hn) hdg (fun H1 locs1 h1 _ h3 => ?_)
  rw [nI_clamp (Nat.lt_trans hj hn), show vp_nar .boolean (nI v) = nI v from by rcases (show v = 0 ∨ v = 1 by omega) with rfl | rfl <;> rfl, nf_upd] at h1
  exact kk H1 locs1 h1 h3
/-- behind a call that changed nothing -/
theorem roRun {v0 : Option Value} {a9 : Array Value} (hr : va_Run p l e R s m args below meth c H locs cells slots 0 0 (F0 m pc ls st0) rest (RoQ v0 H a9) RoF)
    (kk : W p l e R s m args below meth c H locs cells slots Q (F0 m (pc + 3) ls (v0.toList ++ rest))) : W p l e R s m args below meth c H locs cells slots Q (F0 m pc ls st0) := by
  intro T hT X
  obtain ⟨v, st₀, t, T', L, h0, X', hL, e1, e2, ⟨hv, hb⟩, st⟩ := hr T hT X
  cases hv
  have hL0 : L = [] := by
    cases L with
    | nil => rfl
    | cons q _ => exact (hL q List.mem_cons_self).elim
  subst hL0
  rw [List.append_nil] at X'
  obtain ⟨t2, a1, b1⟩ := kk T' (e1.trans hb) X'
  exact ⟨t2, st t2 a1, b1⟩
theorem RoP.blind {D : va_G} {cI cZ : ClassId} {sa : Nat → Nat} {av : List Value} : FrameBlind (RoP D cI cZ sa H av) := fun a U g mk q => by
  obtain ⟨q0, q1, q2⟩ := q
  exact ⟨q0, q1, q2.same rfl⟩
theorem WrP.blind {D : va_G} {cI cZ : ClassId} {sa : Nat → Nat} {av : List Value} : FrameBlind (WrP D cI cZ sa ws av) := fun a U g mk q => by
  obtain ⟨q0, q1, q2⟩ := q
  exact ⟨q0, q1, q2.same rfl⟩
variable {y : MethodName} {bytes : ByteArray} {maxL nL n index : Nat} {ret : Option FieldType} {wsy : List Cond} {rm : Room} {Ts : List Cond} {own C host : String} {b : Addr} {As : List Value} {cI cZ : ClassId} {sa : Nat → Nat}
theorem cnS (n : Nat) (ht : ∀ w ∈ Ts, w.before args s = true) (hG : GoodIn Ts wsy) {ws' : List Cond} (hw : wsy = Cond.code y bytes maxL ret :: ws') (hrc : rm.cells = 0) (hrs : rm.slots = 0) (hl : va_Nw (.methodLinkNest own index y host) s) (hini : Cond.initialized y.cls ∈ Ts) (hst : Cond.static y ∈ Ts)
    (hd : y.cls ≠ "java/lang/invoke/MethodHandle" ∧ y.cls ≠ "java/lang/invoke/VarHandle" ∧ (parseMethodDescriptor y.desc).map (fun d => d.parameters.length) = some n) (hR : rm.frames + 1 ≤ R.frames ∧ 8 + (maxL + 11) + rm.locals ≤ R.locals) : va_CN R s args own index y host bytes maxL ret wsy rm 0 0 n ∧ (Cond.static y).before args s = true ∧ True := ⟨va_cnB n ht hG hw hrc hrs hl (ht _ hini) hd hR, ht _ hst, trivial⟩
theorem roV1 {v : Value} (S : CallFix p m c cc nL s args Ts own) (hM : Met l y wsy rm (RoP D cI cZ sa H (.ref b :: As)) (RoQ (some v) H) 0 0 RoF) (cw : CallW R s args own C index y bytes maxL ret wsy rm 0 0 n) (hKK : KK D cI cZ sa s) (hP : va_P D vwCl ws H) (q0 : Nat) {ci N : Nat} {T : u_T} {fs : List Value} (he : ws[q0]? = some (b, .inr (ci, fs))) (hc : vwCl[ci]? = some (C, T, N)) (hn : As.length = n) (hsize : ls.size = nL) (hst : st0 = As.reverse ++ .ref b :: rest) (hW : (rest.map fun v => v.category).sum ≤ 8) (hdg : decode cc pc = .ok (.invokevirtual index, 3)) (hcs : cells ≤ R.cells) (hss : slots ≤ R.slots) (kk : W p l e R s m args below meth c H locs cells slots Q (F0 m (pc + 3) ls (v :: rest))) : W p l e R s m args below meth c H locs cells slots Q (F0 m (pc) ls (st0)) :=
  roRun (v0 := (some v)) (rest := rest) (va_runV S hM cw ⟨RoP.blind, va_recv hKK.1 hP hc he, fun U hU hW => ⟨rfl, hU, hKK.warm hW⟩⟩ rfl hn hsize hst (lv_room hW) hdg ⟨hcs, hss⟩) kk
theorem roS1 {v : Value} (S : CallFix p m c cc nL s args Ts own) (hM : Met l y wsy rm (RoP D cI cZ sa H As) (RoQ (some v) H) 0 0 RoF) (cw : CallB R s args own index y bytes maxL ret wsy rm 0 0 n ∧ (Cond.static y).before args s = true) (hKK : KK D cI cZ sa s) (hn : As.length = n) (hsize : ls.size = nL) (hst : st0 = As.reverse ++ rest) (hW : (rest.map fun v => v.category).sum ≤ 8) (hdg : decode cc pc = .ok (.invokestatic index, 3)) (hcs : cells ≤ R.cells) (hss : slots ≤ R.slots) (kk : W p l e R s m args below meth c H locs cells slots Q (F0 m (pc + 3) ls (v :: rest))) : W p l e R s m args below meth c H locs cells slots Q (F0 m (pc) ls (st0)) :=
  roRun (v0 := (some v)) (rest := rest) (va_runS S hM cw ⟨RoP.blind, fun U hU hW => ⟨rfl, hU, hKK.warm hW⟩⟩ rfl hn hsize hst (lv_room hW) hdg ⟨hcs, hss⟩) kk
theorem roN1 {v : Value} (S : CallFix p m c cc nL s args Ts own) (hM : Met l y wsy rm (RoP D cI cZ sa H As) (RoQ (some v) H) 0 0 RoF) (cw : va_CN R s args own index y host bytes maxL ret wsy rm 0 0 n ∧ (Cond.static y).before args s = true ∧ True) (hKK : KK D cI cZ sa s) (hn : As.length = n) (hsize : ls.size = nL) (hst : st0 = As.reverse ++ rest) (hW : (rest.map fun v => v.category).sum ≤ 8) (hdg : decode cc pc = .ok (.invokestatic index, 3)) (hcs : cells ≤ R.cells) (hss : slots ≤ R.slots) (kk : W p l e R s m args below meth c H locs cells slots Q (F0 m (pc + 3) ls (v :: rest))) : W p l e R s m args below meth c H locs cells slots Q (F0 m (pc) ls (st0)) :=
  roRun (v0 := (some v)) (rest := rest) (va_runSN S hM cw ⟨RoP.blind, fun U hU hW => ⟨rfl, hU, hKK.warm hW⟩⟩ rfl hn hsize hst (lv_room hW) hdg ⟨hcs, hss⟩) kk
theorem roV0 (S : CallFix p m c cc nL s args Ts own) (hM : Met l y wsy rm (RoP D cI cZ sa H (.ref b :: As)) (RoQ none H) 0 0 RoF) (cw : CallW R s args own C index y bytes maxL ret wsy rm 0 0 n) (hKK : KK D cI cZ sa s) (hP : va_P D vwCl ws H) (q0 : Nat) {ci N : Nat} {T : u_T} {fs : List Value} (he : ws[q0]? = some (b, .inr (ci, fs))) (hc : vwCl[ci]? = some (C, T, N)) (hn : As.length = n) (hsize : ls.size = nL) (hst : st0 = As.reverse ++ .ref b :: rest) (hW : (rest.map fun v => v.category).sum ≤ 8) (hdg : decode cc pc = .ok (.invokevirtual index, 3)) (hcs : cells ≤ R.cells) (hss : slots ≤ R.slots) (kk : W p l e R s m args below meth c H locs cells slots Q (F0 m (pc + 3) ls (rest))) : W p l e R s m args below meth c H locs cells slots Q (F0 m (pc) ls (st0)) :=
  roRun (v0 := none) (rest := rest) (va_runV S hM cw ⟨RoP.blind, va_recv hKK.1 hP hc he, fun U hU hW => ⟨rfl, hU, hKK.warm hW⟩⟩ rfl hn hsize hst (lv_room hW) hdg ⟨hcs, hss⟩) kk
theorem roS0 (S : CallFix p m c cc nL s args Ts own) (hM : Met l y wsy rm (RoP D cI cZ sa H As) (RoQ none H) 0 0 RoF) (cw : CallB R s args own index y bytes maxL ret wsy rm 0 0 n ∧ (Cond.static y).before args s = true) (hKK : KK D cI cZ sa s) (hn : As.length = n) (hsize : ls.size = nL) (hst : st0 = As.reverse ++ rest) (hW : (rest.map fun v => v.category).sum ≤ 8) (hdg : decode cc pc = .ok (.invokestatic index, 3)) (hcs : cells ≤ R.cells) (hss : slots ≤ R.slots) (kk : W p l e R s m args below meth c H locs cells slots Q (F0 m (pc + 3) ls (rest))) : W p l e R s m args below meth c H locs cells slots Q (F0 m (pc) ls (st0)) :=
  roRun (v0 := none) (rest := rest) (va_runS S hM cw ⟨RoP.blind, fun U hU hW => ⟨rfl, hU, hKK.warm hW⟩⟩ rfl hn hsize hst (lv_room hW) hdg ⟨hcs, hss⟩) kk
theorem roN0 (S : CallFix p m c cc nL s args Ts own) (hM : Met l y wsy rm (RoP D cI cZ sa H As) (RoQ none H) 0 0 RoF) (cw : va_CN R s args own index y host bytes maxL ret wsy rm 0 0 n ∧ (Cond.static y).before args s = true ∧ True) (hKK : KK D cI cZ sa s) (hn : As.length = n) (hsize : ls.size = nL) (hst : st0 = As.reverse ++ rest) (hW : (rest.map fun v => v.category).sum ≤ 8) (hdg : decode cc pc = .ok (.invokestatic index, 3)) (hcs : cells ≤ R.cells) (hss : slots ≤ R.slots) (kk : W p l e R s m args below meth c H locs cells slots Q (F0 m (pc + 3) ls (rest))) : W p l e R s m args below meth c H locs cells slots Q (F0 m (pc) ls (st0)) :=
  roRun (v0 := none) (rest := rest) (va_runSN S hM cw ⟨RoP.blind, fun U hU hW => ⟨rfl, hU, hKK.warm hW⟩⟩ rfl hn hsize hst (lv_room hW) hdg ⟨hcs, hss⟩) kk
/-- behind a call that wrote within A1 -/
theorem wrRun {v0 : Option Value} {a9 : Array Value} {A1 A0 : Nat → Prop} {w1 : va_W} (hr : va_Run p l e R s m args below meth c H locs cells slots 0 0 (F0 m pc ls st0) rest (WrQ v0 D w1 A1 a9) A1) (hS : va_S A0 H0 H locs) (hA : ∀ q, A1 q → A0 q)
    (kk : ∀ (H1 : Heap) (locs1 : List Loc), va_P D vwCl w1 H1 → H.size ≤ H1.size → (∀ q : Nat, q < H.size → ¬ A1 q → H1[q]? = H[q]?) → va_S A0 H0 H1 locs1 → W p l e R s m args below meth c H1 locs1 cells slots Q (F0 m (pc + 3) ls (v0.toList ++ rest))) : W p l e R s m args below meth c H locs cells slots Q (F0 m pc ls st0) := by
  intro T hT X
  obtain ⟨v, st₀, t, T', L, h0, X', hL, e1, e2, ⟨hv, hb, hz, hk⟩, st⟩ := hr T hT X
  cases hv
  rw [h0] at hz hk
  obtain ⟨t2, a1, b1⟩ := kk T'.heap (locs ++ L) (by rw [e1]; exact hb) (by rw [e1]; exact hz) (fun q h1 h2 => by rw [e1]; exact hk q h1 h2)
    ⟨Nat.le_trans hS.1 (by rw [e1]; exact hz), fun q h1 h2 => by rw [e1, hk q (Nat.lt_of_lt_of_le h1 hS.1) (fun z => h2 (hA q z))]; exact hS.2.1 q h1 h2, fun q hq => by
      rcases List.mem_append.mp hq with h | h
      · exact hS.2.2 q h
      · exact hA _ (hL q h)⟩ T' rfl X'
  exact ⟨t2, st t2 a1, b1⟩
theorem wrV1 {v : Value} {A1 A0 : Nat → Prop} {wc w1 : va_W} (S : CallFix p m c cc nL s args Ts own) (hM : Met l y wsy rm (WrP D cI cZ sa wc (.ref b :: As)) (WrQ (some v) D w1 A1) 0 0 A1) (cw : CallW R s args own C index y bytes maxL ret wsy rm 0 0 n) (hKK : KK D cI cZ sa s) (hP : va_P D vwCl wc H) (q0 : Nat) {ci N : Nat} {T : u_T} {fs : List Value} (he : wc[q0]? = some (b, .inr (ci, fs))) (hc : vwCl[ci]? = some (C, T, N)) (hn : As.length = n) (hsize : ls.size = nL) (hst : st0 = As.reverse ++ .ref b :: rest) (hW : (rest.map fun v => v.category).sum ≤ 8) (hdg : decode cc pc = .ok (.invokevirtual index, 3)) (hcs : cells ≤ R.cells) (hss : slots ≤ R.slots) (hS : va_S A0 H0 H locs) (hA : ∀ q, A1 q → A0 q) (kk : ∀ (H1 : Heap) (locs1 : List Loc), va_P D vwCl w1 H1 → H.size ≤ H1.size → (∀ q : Nat, q < H.size → ¬ A1 q → H1[q]? = H[q]?) → va_S A0 H0 H1 locs1 → W p l e R s m args below meth c H1 locs1 cells slots Q (F0 m (pc + 3) ls (v :: rest))) : W p l e R s m args below meth c H locs cells slots Q (F0 m (pc) ls (st0)) :=
  wrRun (v0 := (some v)) (rest := rest) (va_runV S hM cw ⟨WrP.blind, va_recv hKK.1 hP hc he, fun U hU hW => ⟨rfl, by rw [hU]; exact hP, hKK.warm hW⟩⟩ rfl hn hsize hst (lv_room hW) hdg ⟨hcs, hss⟩) hS hA kk
theorem wrV0 {A1 A0 : Nat → Prop} {wc w1 : va_W} (S : CallFix p m c cc nL s args Ts own) (hM : Met l y wsy rm (WrP D cI cZ sa wc (.ref b :: As)) (WrQ none D w1 A1) 0 0 A1) (cw : CallW R s args own C index y bytes maxL ret wsy rm 0 0 n) (hKK : KK D cI cZ sa s) (hP : va_P D vwCl wc H) (q0 : Nat) {ci N : Nat} {T : u_T} {fs : List Value} (he : wc[q0]? = some (b, .inr (ci, fs))) (hc : vwCl[ci]? = some (C, T, N)) (hn : As.length = n) (hsize : ls.size = nL) (hst : st0 = As.reverse ++ .ref b :: rest) (hW : (rest.map fun v => v.category).sum ≤ 8) (hdg : decode cc pc = .ok (.invokevirtual index, 3)) (hcs : cells ≤ R.cells) (hss : slots ≤ R.slots) (hS : va_S A0 H0 H locs) (hA : ∀ q, A1 q → A0 q) (kk : ∀ (H1 : Heap) (locs1 : List Loc), va_P D vwCl w1 H1 → H.size ≤ H1.size → (∀ q : Nat, q < H.size → ¬ A1 q → H1[q]? = H[q]?) → va_S A0 H0 H1 locs1 → W p l e R s m args below meth c H1 locs1 cells slots Q (F0 m (pc + 3) ls (rest))) : W p l e R s m args below meth c H locs cells slots Q (F0 m (pc) ls (st0)) :=
  wrRun (v0 := none) (rest := rest) (va_runV S hM cw ⟨WrP.blind, va_recv hKK.1 hP hc he, fun U hU hW => ⟨rfl, by rw [hU]; exact hP, hKK.warm hW⟩⟩ rfl hn hsize hst (lv_room hW) hdg ⟨hcs, hss⟩) hS hA kk
end ROWS
section ENDS
variable {p : Program} {l : Launch} {e : Env} {R : Room} {s : State} {m : MethodId} {args : Array Value} {below : List Frame} {meth : Method} {c : Code} {H : Heap} {locs : List Loc} {cells slots : Nat} {cc : ByteArray} {pc : Nat} {ls : Array Slot}
theorem ro_r (hx : p.tables.exec = Jvm.exec) (hb : c.code = cc) {n : String} (hr : meth.sig.returnType = some (.object n)) (hlocks : meth.locks = false) {a0 a : Nat} (hv : a = a0) (hdg : decode cc pc = .ok (.areturn, 1)) : W p l e R s m args below meth c s.heap [] 0 0 (MQ below (RoQ (some (.ref a0)) s.heap) args s 0 0 RoF) (F0 m pc ls [.ref a]) :=
  W.aret hx hb hr (Or.inl ⟨n, rfl⟩) (Or.inr ⟨a, rfl⟩) (fun t ht _ => ⟨by rw [hv], ht⟩) (fun _ h => nomatch h) hdg hlocks
/-- a throw: the exact heap, and what the tables say of Throwable -/
def ZZ (H : Heap) (U : State) : Prop := vx_Zq Bundle.tN "UNASSIGNED_STACK" Bundle.steD (fun a => H.size ≤ a) U H ∧ vx_Zq Bundle.tN "SUPPRESSED_SENTINEL" Bundle.listD (fun a => H.size ≤ a) U H
theorem ZZ.warm {H : Heap} {s U : State} (hW : s.vm.Alike U.vm) (h : ZZ H s) : ZZ H U := ⟨vx_Zq.moved hW h.1, vx_Zq.moved hW h.2⟩
theorem ZZ.grow {H H1 : Heap} {U : State} (h : ZZ H U) (hz : H.size ≤ H1.size) (hk : ∀ a : Nat, a < H.size → H1[a]? = H[a]?) : ZZ H1 U :=
  ⟨(h.1.kept (fun a ha _ => hk a ha)).narrow (fun _ h => Nat.le_trans hz h), (h.2.kept (fun a ha _ => hk a ha)).narrow (fun _ h => Nat.le_trans hz h)⟩
abbrev ThP (D : va_G) (cI cZ : ClassId) (sa : Nat → Nat) (H : Heap) (av : List Value) : Array Value → State → Prop := va_Pc av (fun U => U.heap = H ∧ KK D cI cZ sa U ∧ ZZ H U)
def ThX (E : String) (H : Heap) : String → State → State → Prop := fun E' _ t => E' = E ∧ H.size ≤ t.heap.size ∧ ∀ a : Nat, a < H.size → t.heap[a]? = H[a]?
def NoQ : Array Value → State → Outcome → State → Prop := fun _ _ _ _ => False
theorem ThP.blind {H : Heap} {D : va_G} {cI cZ : ClassId} {sa : Nat → Nat} {av : List Value} : FrameBlind (ThP D cI cZ sa H av) := fun a U g mk q => by
  obtain ⟨q0, q1, q2, q3⟩ := q
  exact ⟨q0, q1, q2.same rfl, q3.warm (Vm.Alike.refl U.vm)⟩
variable {Q : State → Prop} {st0 rest : List Value} {a9 : Array Value}
theorem thRun {E : String} (hr : vx_Run p l e R s m args below meth c H locs cells slots 1 6 (F0 m pc ls st0) rest (NoQ a9) (ThX E H) RoF)
    (kx : ∀ (H1 : Heap) (ce : Cell) (q9 : Addr), H.size ≤ H1.size → (∀ a : Nat, a < H.size → H1[a]? = H[a]?) → H1[q9]? = some ce → ce.vm = .none → s.vm.findClass E = some ce.cls → vx_W p l e R s m args below meth c H1 locs (cells + 1) (slots + 6) Q (F0 m pc ls rest) q9) : W p l e R s m args below meth c H locs cells slots Q (F0 m pc ls st0) := by
  intro T hT X
  rcases hr T hT X with ⟨v, st₀, t, T', L, _, _, _, _, _, hq, _⟩ | ⟨q, st₀, t, T', L, E', ce, h0, X', hL, e1, e2, ⟨rfl, hz, hk⟩, hc, hv, hcl, st⟩
  · exact hq.elim
  · have hL0 : L = [] := by
      cases L with
      | nil => rfl
      | cons q _ => exact (hL q List.mem_cons_self).elim
    subst hL0
    rw [List.append_nil] at X'
    obtain ⟨t2, a1, b1⟩ := kx T'.heap ce q (by rw [e1]; exact hz) (fun a ha => by rw [e1]; exact hk a ha) (by rw [e1]; exact hc) hv hcl T' rfl X'
    exact ⟨t2, st.trans a1, b1⟩
variable {y : MethodName} {bytes : ByteArray} {maxL nL n index : Nat} {ret : Option FieldType} {wsy : List Cond} {rm : Room} {Ts : List Cond} {own C : String} {b : Addr} {As : List Value} {cI cZ : ClassId} {sa : Nat → Nat}
theorem thV {D : va_G} {ws : va_W} {E : String} (S : CallFix p m c cc nL s args Ts own) (hM : vx_Met l y wsy rm (ThP D cI cZ sa H (.ref b :: As)) NoQ (ThX E H) 1 6 RoF) (cw : CallW R s args own C index y bytes maxL ret wsy rm 1 6 n) (hKK : KK D cI cZ sa s) (hZ : ZZ H s) (hP : va_P D vwCl ws H) (q0 : Nat) {ci N : Nat} {T : u_T} {fs : List Value} (he : ws[q0]? = some (b, .inr (ci, fs))) (hc : vwCl[ci]? = some (C, T, N)) (hn : As.length = n) (hsize : ls.size = nL) (hst : st0 = As.reverse ++ .ref b :: rest) (hW : (rest.map fun v => v.category).sum ≤ 8) (hdg : decode cc pc = .ok (.invokevirtual index, 3)) (hcs : cells + 1 ≤ R.cells) (hss : slots + 6 ≤ R.slots)
    (kx : ∀ (H1 : Heap) (ce : Cell) (q9 : Addr), H.size ≤ H1.size → (∀ a : Nat, a < H.size → H1[a]? = H[a]?) → H1[q9]? = some ce → ce.vm = .none → s.vm.findClass E = some ce.cls → vx_W p l e R s m args below meth c H1 locs (cells + 1) (slots + 6) Q (F0 m pc ls rest) q9) : W p l e R s m args below meth c H locs cells slots Q (F0 m pc ls st0) :=
  thRun (rest := rest) (vx_runV S hM cw ⟨ThP.blind, va_recv hKK.1 hP hc he, fun U hU hW => ⟨rfl, hU, hKK.warm hW, hZ.warm hW.alike⟩⟩ rfl hn hsize hst (lv_room hW) hdg ⟨hcs, hss⟩) kx
theorem thS {D : va_G} {E : String} (S : CallFix p m c cc nL s args Ts own) (hM : vx_Met l y wsy rm (ThP D cI cZ sa H As) NoQ (ThX E H) 1 6 RoF) (cw : CallB R s args own index y bytes maxL ret wsy rm 1 6 n ∧ (Cond.static y).before args s = true) (hKK : KK D cI cZ sa s) (hZ : ZZ H s) (hn : As.length = n) (hsize : ls.size = nL) (hst : st0 = As.reverse ++ rest) (hW : (rest.map fun v => v.category).sum ≤ 8) (hdg : decode cc pc = .ok (.invokestatic index, 3)) (hcs : cells + 1 ≤ R.cells) (hss : slots + 6 ≤ R.slots)
    (kx : ∀ (H1 : Heap) (ce : Cell) (q9 : Addr), H.size ≤ H1.size → (∀ a : Nat, a < H.size → H1[a]? = H[a]?) → H1[q9]? = some ce → ce.vm = .none → s.vm.findClass E = some ce.cls → vx_W p l e R s m args below meth c H1 locs (cells + 1) (slots + 6) Q (F0 m pc ls rest) q9) : W p l e R s m args below meth c H locs cells slots Q (F0 m pc ls st0) :=
  thRun (rest := rest) (vx_runS S hM cw ⟨ThP.blind, fun U hU hW => ⟨rfl, hU, hKK.warm hW, hZ.warm hW.alike⟩⟩ rfl hn hsize hst (lv_room hW) hdg ⟨hcs, hss⟩) kx
/-- what a callee has thrown leaves this method too -/
theorem thOut {E : String} {H1 : Heap} {ce : Cell} {q9 : Addr} (hout : ∀ x ∈ c.exceptionTable.toList, False) (hlocks : meth.locks = false) (hz : H.size ≤ H1.size) (hk : ∀ a : Nat, a < H.size → H1[a]? = H[a]?) (hc : H1[q9]? = some ce) (hv : ce.vm = .none) (hcl : s.vm.findClass E = some ce.cls) : vx_W p l e R s m args below meth c H1 [] (0 + 1) (0 + 6) (vx_MQ below NoQ (ThX E H) args s 1 6 RoF) (F0 m pc ls rest) q9 :=
  vx_out (fun x h => (hout x h).elim) hlocks hc hv hcl (fun t ht _ => ⟨rfl, by rw [ht]; exact hz, fun a ha => by rw [ht]; exact hk a ha⟩) (fun _ h => nomatch h) (Nat.le_refl _) (Nat.le_refl _)
theorem ro_i (hx : p.tables.exec = Jvm.exec) (hb : c.code = cc) (hr : meth.sig.returnType = some .int) (hlocks : meth.locks = false) {v0 v : Int32} (hv : v = v0) (hdg : decode cc pc = .ok (.ireturn, 1)) : W p l e R s m args below meth c s.heap [] 0 0 (MQ below (RoQ (some (.int v0)) s.heap) args s 0 0 RoF) (F0 m pc ls [.int v]) :=
  W.iret hx hb hr (fun t ht _ => ⟨by rw [hv], ht⟩) (fun _ h => nomatch h) hdg hlocks
theorem wr_i {D : va_G} {ws : va_W} {A : Nat → Prop} (hx : p.tables.exec = Jvm.exec) (hb : c.code = cc) (hr : meth.sig.returnType = some .int) (hlocks : meth.locks = false) {v0 v : Int32} (hv : v = v0) (hP : va_P D vwCl ws H) (hS : va_S A s.heap H locs) (hdg : decode cc pc = .ok (.ireturn, 1)) : W p l e R s m args below meth c H locs 0 0 (MQ below (WrQ (some (.int v0)) D ws A) args s 0 0 A) (F0 m pc ls [.int v]) :=
  W.iret hx hb hr (fun t ht _ => ⟨by rw [hv], by rw [ht]; exact hP, hS.F ht⟩) hS.2.2 hdg hlocks
theorem ro_z (hx : p.tables.exec = Jvm.exec) (hb : c.code = cc) (hr : meth.sig.returnType = some .boolean) (hlocks : meth.locks = false) {v b : Bool} (hv : v = b) (hdg : decode cc pc = .ok (.ireturn, 1)) : W p l e R s m args below meth c s.heap [] 0 0 (MQ below (RoQ (some (.int (b2i b))) s.heap) args s 0 0 RoF) (F0 m pc ls [.int (b2i v)]) :=
  W.zret hx hb hr (by cases v <;> rfl) (fun t ht _ => ⟨by rw [hv], ht⟩) (fun _ h => nomatch h) hdg hlocks
theorem wr_z {D : va_G} {ws : va_W} {A : Nat → Prop} (hx : p.tables.exec = Jvm.exec) (hb : c.code = cc) (hr : meth.sig.returnType = some .boolean) (hlocks : meth.locks = false) {v b : Bool} (hv : v = b) (hP : va_P D vwCl ws H) (hS : va_S A s.heap H locs) (hdg : decode cc pc = .ok (.ireturn, 1)) : W p l e R s m args below meth c H locs 0 0 (MQ below (WrQ (some (.int (b2i b))) D ws A) args s 0 0 A) (F0 m pc ls [.int (b2i v)]) :=
  W.zret hx hb hr (by cases v <;> rfl) (fun t ht _ => ⟨by rw [hv], by rw [ht]; exact hP, hS.F ht⟩) hS.2.2 hdg hlocks
theorem ro_l (hx : p.tables.exec = Jvm.exec) (hb : c.code = cc) (hr : meth.sig.returnType = some .long) (hlocks : meth.locks = false) {v0 v : Int64} (hv : v = v0) (hdg : decode cc pc = .ok (.lreturn, 1)) : W p l e R s m args below meth c s.heap [] 0 0 (MQ below (RoQ (some (.long v0)) s.heap) args s 0 0 RoF) (F0 m pc ls [.long v]) :=
  W.lret hx hb hr (fun t ht _ => ⟨by rw [hv], ht⟩) (fun _ h => nomatch h) hdg hlocks
theorem wr_l {D : va_G} {ws : va_W} {A : Nat → Prop} (hx : p.tables.exec = Jvm.exec) (hb : c.code = cc) (hr : meth.sig.returnType = some .long) (hlocks : meth.locks = false) {v0 v : Int64} (hv : v = v0) (hP : va_P D vwCl ws H) (hS : va_S A s.heap H locs) (hdg : decode cc pc = .ok (.lreturn, 1)) : W p l e R s m args below meth c H locs 0 0 (MQ below (WrQ (some (.long v0)) D ws A) args s 0 0 A) (F0 m pc ls [.long v]) :=
  W.lret hx hb hr (fun t ht _ => ⟨by rw [hv], by rw [ht]; exact hP, hS.F ht⟩) hS.2.2 hdg hlocks
theorem ro_f (hx : p.tables.exec = Jvm.exec) (hb : c.code = cc) (hr : meth.sig.returnType = some .float) (hlocks : meth.locks = false) {v0 v : UInt32} (hv : v = v0) (hdg : decode cc pc = .ok (.freturn, 1)) : W p l e R s m args below meth c s.heap [] 0 0 (MQ below (RoQ (some (.float v0)) s.heap) args s 0 0 RoF) (F0 m pc ls [.float v]) :=
  W.fret hx hb hr (fun t ht _ => ⟨by rw [hv], ht⟩) (fun _ h => nomatch h) hdg hlocks
theorem wr_f {D : va_G} {ws : va_W} {A : Nat → Prop} (hx : p.tables.exec = Jvm.exec) (hb : c.code = cc) (hr : meth.sig.returnType = some .float) (hlocks : meth.locks = false) {v0 v : UInt32} (hv : v = v0) (hP : va_P D vwCl ws H) (hS : va_S A s.heap H locs) (hdg : decode cc pc = .ok (.freturn, 1)) : W p l e R s m args below meth c H locs 0 0 (MQ below (WrQ (some (.float v0)) D ws A) args s 0 0 A) (F0 m pc ls [.float v]) :=
  W.fret hx hb hr (fun t ht _ => ⟨by rw [hv], by rw [ht]; exact hP, hS.F ht⟩) hS.2.2 hdg hlocks
theorem ro_v (hx : p.tables.exec = Jvm.exec) (hb : c.code = cc) (hr : meth.sig.returnType = none) (hlocks : meth.locks = false) (hdg : decode cc pc = .ok (.return_, 1)) : W p l e R s m args below meth c s.heap [] 0 0 (MQ below (RoQ none s.heap) args s 0 0 RoF) (F0 m pc ls []) :=
  W.vret hx hb hr (fun t ht _ => ⟨rfl, ht⟩) (fun _ h => nomatch h) hdg hlocks
theorem wr_v {D : va_G} {ws : va_W} {A : Nat → Prop} (hx : p.tables.exec = Jvm.exec) (hb : c.code = cc) (hr : meth.sig.returnType = none) (hlocks : meth.locks = false) (hP : va_P D vwCl ws H) (hS : va_S A s.heap H locs) (hdg : decode cc pc = .ok (.return_, 1)) : W p l e R s m args below meth c H locs 0 0 (MQ below (WrQ none D ws A) args s 0 0 A) (F0 m pc ls []) :=
  W.vret hx hb hr (fun t ht _ => ⟨rfl, by rw [ht]; exact hP, hS.F ht⟩) hS.2.2 hdg hlocks
end ENDS
