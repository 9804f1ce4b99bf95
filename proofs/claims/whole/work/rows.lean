section
-- ===== PART A: goes FIRST, ahead of the names: the tables' words, and 'selects' of the private methods out of them =====
/-- a private method of a class that the tables say can be made, by its rows of tables_1 -/
def lw_okq (q : MethodName × Nat) : Prop := (q.1.cls ≠ "java/lang/invoke/MethodHandle" ∧ q.1.cls ≠ "java/lang/invoke/VarHandle") ∧ Cond.instantiable q.1.cls q.2 ∈ tables_1 ∧ Cond.privateMethod q.1 ∈ tables_1 ∧ Cond.instanceMethod q.1 ∈ tables_1
theorem lw_p0 : lw_okq (⟨"java/lang/Throwable", "fillInStackTrace", "(I)Ljava/lang/Throwable;"⟩, 6) := ⟨⟨by decide +kernel, by decide +kernel⟩, List.mem_of_getElem? (i := 218) (by decide +kernel), List.mem_of_getElem? (i := 216) (by decide +kernel), List.mem_of_getElem? (i := 217) (by decide +kernel)⟩
theorem lw_p1 : lw_okq (⟨"MailFollower$Server", "putInOrder", "(II)V"⟩, 7) := ⟨⟨by decide +kernel, by decide +kernel⟩, List.mem_of_getElem? (i := 23) (by decide +kernel), List.mem_of_getElem? (i := 268) (by decide +kernel), List.mem_of_getElem? (i := 269) (by decide +kernel)⟩
theorem lw_p2 : lw_okq (⟨"MailFollower$Server", "timeOf", "(I)I"⟩, 7) := ⟨⟨by decide +kernel, by decide +kernel⟩, List.mem_of_getElem? (i := 23) (by decide +kernel), List.mem_of_getElem? (i := 275) (by decide +kernel), List.mem_of_getElem? (i := 276) (by decide +kernel)⟩
theorem lw_p3 : lw_okq (⟨"MailFollower", "isState", "(I)Z"⟩, 3) := ⟨⟨by decide +kernel, by decide +kernel⟩, List.mem_of_getElem? (i := 15) (by decide +kernel), List.mem_of_getElem? (i := 405) (by decide +kernel), List.mem_of_getElem? (i := 406) (by decide +kernel)⟩
theorem lw_p4 : lw_okq (⟨"MailFollower", "requireTelling", "(I)V"⟩, 3) := ⟨⟨by decide +kernel, by decide +kernel⟩, List.mem_of_getElem? (i := 15) (by decide +kernel), List.mem_of_getElem? (i := 425) (by decide +kernel), List.mem_of_getElem? (i := 426) (by decide +kernel)⟩
theorem lw_p5 : lw_okq (⟨"MailFollower$Changes", "countBehind", "(I)I"⟩, 5) := ⟨⟨by decide +kernel, by decide +kernel⟩, List.mem_of_getElem? (i := 29) (by decide +kernel), List.mem_of_getElem? (i := 443) (by decide +kernel), List.mem_of_getElem? (i := 444) (by decide +kernel)⟩
theorem lw_p6 : lw_okq (⟨"MailFollower", "clientOf", "(I)LMailFollower$Client;"⟩, 3) := ⟨⟨by decide +kernel, by decide +kernel⟩, List.mem_of_getElem? (i := 15) (by decide +kernel), List.mem_of_getElem? (i := 534) (by decide +kernel), List.mem_of_getElem? (i := 535) (by decide +kernel)⟩
theorem lw_p7 : lw_okq (⟨"MailFollower$Client", "list", "(IIZ)V"⟩, 11) := ⟨⟨by decide +kernel, by decide +kernel⟩, List.mem_of_getElem? (i := 79) (by decide +kernel), List.mem_of_getElem? (i := 561) (by decide +kernel), List.mem_of_getElem? (i := 562) (by decide +kernel)⟩
theorem lw_p8 : lw_okq (⟨"MailFollower$Client", "isConflict", "(LMailFollower$Server;IIZ)Z"⟩, 11) := ⟨⟨by decide +kernel, by decide +kernel⟩, List.mem_of_getElem? (i := 79) (by decide +kernel), List.mem_of_getElem? (i := 580) (by decide +kernel), List.mem_of_getElem? (i := 581) (by decide +kernel)⟩
theorem lw_p9 : lw_okq (⟨"MailFollowerModel", "isFine", "(I)Z"⟩, 26) := ⟨⟨by decide +kernel, by decide +kernel⟩, List.mem_of_getElem? (i := 640) (by decide +kernel), List.mem_of_getElem? (i := 736) (by decide +kernel), List.mem_of_getElem? (i := 737) (by decide +kernel)⟩
theorem lw_p10 : lw_okq (⟨"MailFollowerModel", "notes", "(IIIZ)V"⟩, 26) := ⟨⟨by decide +kernel, by decide +kernel⟩, List.mem_of_getElem? (i := 640) (by decide +kernel), List.mem_of_getElem? (i := 740) (by decide +kernel), List.mem_of_getElem? (i := 741) (by decide +kernel)⟩
theorem lw_p11 : lw_okq (⟨"MailFollowerModel", "isThere", "(I)Z"⟩, 26) := ⟨⟨by decide +kernel, by decide +kernel⟩, List.mem_of_getElem? (i := 640) (by decide +kernel), List.mem_of_getElem? (i := 748) (by decide +kernel), List.mem_of_getElem? (i := 749) (by decide +kernel)⟩
theorem lw_p12 : lw_okq (⟨"MailFollowerModel", "flags", "(IIZ)Z"⟩, 26) := ⟨⟨by decide +kernel, by decide +kernel⟩, List.mem_of_getElem? (i := 640) (by decide +kernel), List.mem_of_getElem? (i := 756) (by decide +kernel), List.mem_of_getElem? (i := 757) (by decide +kernel)⟩
theorem lw_p13 : lw_okq (⟨"MailFollowerModel", "count", "(II)I"⟩, 26) := ⟨⟨by decide +kernel, by decide +kernel⟩, List.mem_of_getElem? (i := 640) (by decide +kernel), List.mem_of_getElem? (i := 791) (by decide +kernel), List.mem_of_getElem? (i := 792) (by decide +kernel)⟩
theorem lw_p14 : lw_okq (⟨"MailFollowerModel", "isFound", "(III)Z"⟩, 26) := ⟨⟨by decide +kernel, by decide +kernel⟩, List.mem_of_getElem? (i := 640) (by decide +kernel), List.mem_of_getElem? (i := 795) (by decide +kernel), List.mem_of_getElem? (i := 796) (by decide +kernel)⟩
theorem lw_p15 : lw_okq (⟨"MailFollowerModel", "isState", "(I)Z"⟩, 26) := ⟨⟨by decide +kernel, by decide +kernel⟩, List.mem_of_getElem? (i := 640) (by decide +kernel), List.mem_of_getElem? (i := 803) (by decide +kernel), List.mem_of_getElem? (i := 804) (by decide +kernel)⟩
def lw_privs_1 : List (MethodName × Nat) := [(⟨"java/lang/Throwable", "fillInStackTrace", "(I)Ljava/lang/Throwable;"⟩, 6), (⟨"MailFollower$Server", "putInOrder", "(II)V"⟩, 7), (⟨"MailFollower$Server", "timeOf", "(I)I"⟩, 7), (⟨"MailFollower", "isState", "(I)Z"⟩, 3), (⟨"MailFollower", "requireTelling", "(I)V"⟩, 3), (⟨"MailFollower$Changes", "countBehind", "(I)I"⟩, 5), (⟨"MailFollower", "clientOf", "(I)LMailFollower$Client;"⟩, 3), (⟨"MailFollower$Client", "list", "(IIZ)V"⟩, 11), (⟨"MailFollower$Client", "isConflict", "(LMailFollower$Server;IIZ)Z"⟩, 11), (⟨"MailFollowerModel", "isFine", "(I)Z"⟩, 26), (⟨"MailFollowerModel", "notes", "(IIIZ)V"⟩, 26), (⟨"MailFollowerModel", "isThere", "(I)Z"⟩, 26), (⟨"MailFollowerModel", "flags", "(IIZ)Z"⟩, 26), (⟨"MailFollowerModel", "count", "(II)I"⟩, 26), (⟨"MailFollowerModel", "isFound", "(III)Z"⟩, 26), (⟨"MailFollowerModel", "isState", "(I)Z"⟩, 26)]
theorem lw_r1 : ∀ q ∈ lw_privs_1, lw_okq q := List.forall_mem_cons.mpr ⟨lw_p0, List.forall_mem_cons.mpr ⟨lw_p1, List.forall_mem_cons.mpr ⟨lw_p2, List.forall_mem_cons.mpr ⟨lw_p3, List.forall_mem_cons.mpr ⟨lw_p4, List.forall_mem_cons.mpr ⟨lw_p5, List.forall_mem_cons.mpr ⟨lw_p6, List.forall_mem_cons.mpr ⟨lw_p7, List.forall_mem_cons.mpr ⟨lw_p8, List.forall_mem_cons.mpr ⟨lw_p9, List.forall_mem_cons.mpr ⟨lw_p10, List.forall_mem_cons.mpr ⟨lw_p11, List.forall_mem_cons.mpr ⟨lw_p12, List.forall_mem_cons.mpr ⟨lw_p13, List.forall_mem_cons.mpr ⟨lw_p14, List.forall_mem_cons.mpr ⟨lw_p15, fun _ h => absurd h List.not_mem_nil⟩⟩⟩⟩⟩⟩⟩⟩⟩⟩⟩⟩⟩⟩⟩⟩
theorem lw_p16 : lw_okq (⟨"MailFollowerModel", "tells", "(I)Z"⟩, 26) := ⟨⟨by decide +kernel, by decide +kernel⟩, List.mem_of_getElem? (i := 640) (by decide +kernel), List.mem_of_getElem? (i := 807) (by decide +kernel), List.mem_of_getElem? (i := 808) (by decide +kernel)⟩
theorem lw_p17 : lw_okq (⟨"MailFollowerModel", "placeOf", "(II)I"⟩, 26) := ⟨⟨by decide +kernel, by decide +kernel⟩, List.mem_of_getElem? (i := 640) (by decide +kernel), List.mem_of_getElem? (i := 815) (by decide +kernel), List.mem_of_getElem? (i := 816) (by decide +kernel)⟩
theorem lw_p18 : lw_okq (⟨"MailFollowerModel", "countChanged", "(II)I"⟩, 26) := ⟨⟨by decide +kernel, by decide +kernel⟩, List.mem_of_getElem? (i := 640) (by decide +kernel), List.mem_of_getElem? (i := 819) (by decide +kernel), List.mem_of_getElem? (i := 820) (by decide +kernel)⟩
theorem lw_p19 : lw_okq (⟨"MailFollowerModel", "changedSo", "(III)Z"⟩, 26) := ⟨⟨by decide +kernel, by decide +kernel⟩, List.mem_of_getElem? (i := 640) (by decide +kernel), List.mem_of_getElem? (i := 823) (by decide +kernel), List.mem_of_getElem? (i := 824) (by decide +kernel)⟩
theorem lw_p20 : lw_okq (⟨"MailFollowerModel", "wasThere", "(II)Z"⟩, 26) := ⟨⟨by decide +kernel, by decide +kernel⟩, List.mem_of_getElem? (i := 640) (by decide +kernel), List.mem_of_getElem? (i := 827) (by decide +kernel), List.mem_of_getElem? (i := 828) (by decide +kernel)⟩
theorem lw_p21 : lw_okq (⟨"MailFollowerModel", "isChanged", "(II)Z"⟩, 26) := ⟨⟨by decide +kernel, by decide +kernel⟩, List.mem_of_getElem? (i := 640) (by decide +kernel), List.mem_of_getElem? (i := 831) (by decide +kernel), List.mem_of_getElem? (i := 832) (by decide +kernel)⟩
theorem lw_p22 : lw_okq (⟨"MailFollowerModel", "foundOne", "(III)I"⟩, 26) := ⟨⟨by decide +kernel, by decide +kernel⟩, List.mem_of_getElem? (i := 640) (by decide +kernel), List.mem_of_getElem? (i := 854) (by decide +kernel), List.mem_of_getElem? (i := 855) (by decide +kernel)⟩
theorem lw_p23 : lw_okq (⟨"MailFollowerModel", "wasFound", "(IIII)Z"⟩, 26) := ⟨⟨by decide +kernel, by decide +kernel⟩, List.mem_of_getElem? (i := 640) (by decide +kernel), List.mem_of_getElem? (i := 862) (by decide +kernel), List.mem_of_getElem? (i := 863) (by decide +kernel)⟩
theorem lw_p24 : lw_okq (⟨"MailFollowerModel", "windowPlace", "(II)I"⟩, 26) := ⟨⟨by decide +kernel, by decide +kernel⟩, List.mem_of_getElem? (i := 640) (by decide +kernel), List.mem_of_getElem? (i := 881) (by decide +kernel), List.mem_of_getElem? (i := 882) (by decide +kernel)⟩
theorem lw_p25 : lw_okq (⟨"MailFollowerModel", "isOtherwise", "(IIZII)Z"⟩, 26) := ⟨⟨by decide +kernel, by decide +kernel⟩, List.mem_of_getElem? (i := 640) (by decide +kernel), List.mem_of_getElem? (i := 889) (by decide +kernel), List.mem_of_getElem? (i := 890) (by decide +kernel)⟩
theorem lw_p26 : lw_okq (⟨"MailFollowerModel", "takes", "(I)V"⟩, 26) := ⟨⟨by decide +kernel, by decide +kernel⟩, List.mem_of_getElem? (i := 640) (by decide +kernel), List.mem_of_getElem? (i := 893) (by decide +kernel), List.mem_of_getElem? (i := 894) (by decide +kernel)⟩
def lw_privs_2 : List (MethodName × Nat) := [(⟨"MailFollowerModel", "tells", "(I)Z"⟩, 26), (⟨"MailFollowerModel", "placeOf", "(II)I"⟩, 26), (⟨"MailFollowerModel", "countChanged", "(II)I"⟩, 26), (⟨"MailFollowerModel", "changedSo", "(III)Z"⟩, 26), (⟨"MailFollowerModel", "wasThere", "(II)Z"⟩, 26), (⟨"MailFollowerModel", "isChanged", "(II)Z"⟩, 26), (⟨"MailFollowerModel", "foundOne", "(III)I"⟩, 26), (⟨"MailFollowerModel", "wasFound", "(IIII)Z"⟩, 26), (⟨"MailFollowerModel", "windowPlace", "(II)I"⟩, 26), (⟨"MailFollowerModel", "isOtherwise", "(IIZII)Z"⟩, 26), (⟨"MailFollowerModel", "takes", "(I)V"⟩, 26)]
theorem lw_r2 : ∀ q ∈ lw_privs_2, lw_okq q := List.forall_mem_cons.mpr ⟨lw_p16, List.forall_mem_cons.mpr ⟨lw_p17, List.forall_mem_cons.mpr ⟨lw_p18, List.forall_mem_cons.mpr ⟨lw_p19, List.forall_mem_cons.mpr ⟨lw_p20, List.forall_mem_cons.mpr ⟨lw_p21, List.forall_mem_cons.mpr ⟨lw_p22, List.forall_mem_cons.mpr ⟨lw_p23, List.forall_mem_cons.mpr ⟨lw_p24, List.forall_mem_cons.mpr ⟨lw_p25, List.forall_mem_cons.mpr ⟨lw_p26, fun _ h => absurd h List.not_mem_nil⟩⟩⟩⟩⟩⟩⟩⟩⟩⟩⟩
def lw_privs : List (MethodName × Nat) := lw_privs_1 ++ (lw_privs_2)
def lw_tbl : List Cond := k2_sels lw_privs ++ tables_1
theorem lw_privs_ok : ∀ q ∈ lw_privs, lw_okq q := by
  show ∀ q ∈ lw_privs_1 ++ (lw_privs_2), lw_okq q
  exact List.forall_mem_append.mpr ⟨lw_r1, lw_r2⟩
/-- the streams that the claim lets the run draw from -/
abbrev lw_cs : List Choice := [Jvm.Choice.named "NaN.bits"]
theorem lw_bits : nanBits ∈ lw_cs := by first | decide | exact List.mem_cons_self | simp [lw_cs, nanBits]
end
section
/-! ===== BEGIN words of one list among another's, by their places ===== -/
theorem goodIn_r {big : List Cond} (ws : List Cond) (ps : List Nat) (hp : ws = ps.filterMap (fun i => big[i]?)) (h : ws.all goodWord = true) : GoodIn big ws := by
  intro w hw
  have h1 := List.all_eq_true.mp h w hw
  rw [hp] at hw
  obtain ⟨i, -, hi⟩ := List.mem_filterMap.mp hw
  have hm : w ∈ big := by first | exact List.mem_of_getElem? hi | exact List.getElem?_mem hi
  exact ⟨hm, good_of_word h1⟩
theorem goodIn_app {big a b : List Cond} (ha : GoodIn big a) (hb : GoodIn big b) : GoodIn big (a ++ b) := fun w h => (List.mem_append.mp h).elim (ha w) (hb w)
theorem goodIn_ca {big a b : List Cond} {c : Cond} (ha : GoodIn big (c :: a)) (hb : GoodIn big b) : GoodIn big (c :: (a ++ b)) := fun w h => (List.mem_cons.mp h).elim (fun e => ha w (List.mem_cons.mpr (Or.inl e))) (fun h => (List.mem_append.mp h).elim (fun h => ha w (List.mem_cons.mpr (Or.inr h))) (hb w))
theorem goodIn_sub {big ws : List Cond} (hm : ∀ w ∈ ws, w ∈ big) (h : ws.all goodWord = true) : GoodIn big ws := fun w hw => ⟨hm w hw, good_of_word (List.all_eq_true.mp h w hw)⟩
/-! ===== END ===== -/

/-! ===== BEGIN exceptions that leave a method, and their catching by the caller (launches without stack traces) ===== -/
section VXA
/-! The laws vx_back, vx_callV, vx_callS, vx_callSW, vx_throw0, vx_throwS follow proofs of the library, with one case more: JvmDerived/Free/Laws.lean (Back.of_free), Shelf42/LK1.lean (callV, callS), Shelf/KitTraced.lean (throwNew0V, throwNewS). -/
/-- where a method has thrown q: the class by its name, the cell, what was written, the world -/
def vx_T (XC : String → State → State → Prop) (st : State) (q : Addr) (t : State) (mc ms : Nat) (free : Addr → Prop) : Prop :=
  ∃ (E : String) (ce : Cell) (L : List Loc), XC E st t ∧ t.heap[q]? = some ce ∧ ce.vm = .none ∧ st.vm.findClass E = some ce.cls ∧ st.WarmedH t.vm ∧ st.sameButNew ({ t with vm := st.vm } : State) L mc ms ∧ ∀ z ∈ L, free z.base
def vx_Q (Qc : Array Value → State → Outcome → State → Prop) (XC : String → State → State → Prop) (mc ms : Nat) (free : Addr → Prop) : Array Value → State → Outcome → State → Prop := fun a st o t =>
  (Qc a st o t ∧ ∃ L, FrameEnd st o t L mc ms ∧ ∀ q ∈ L, free q.base) ∨ ∃ q, o = .threw q ∧ vx_T XC st q t mc ms free
/-- a callee that returns or throws -/
def vx_Met (l : Launch) (y : MethodName) (ws : List Cond) (rm : Room) (Pc : Array Value → State → Prop) (Qc : Array Value → State → Outcome → State → Prop) (XC : String → State → State → Prop) (mc ms : Nat) (free : Addr → Prop) : Prop :=
  MetFree l y (headSpec ws rm) Pc (fun _ _ _ _ _ => True) (vx_Q Qc XC mc ms free)
def vx_Post (XC : String → State → State → Prop) (mc ms : Nat) (free : Addr → Prop) : Pt → Array Value → Addr → Pt → Prop := fun A a q B =>
  ∃ (g : JFrame) (mk : MethodId) (t : State) (L : List Loc) (E : String) (ce : Cell), B.U.heap = t.heap ∧ B.U.vm = t.vm ∧ XC E (A.U.calling g mk a) t ∧ t.heap[q]? = some ce ∧ ce.vm = .none ∧ A.U.vm.findClass E = some ce.cls ∧ B.locs = A.locs ++ L ∧ (∀ z ∈ L, free z.base) ∧ B.cells = A.cells + mc ∧ B.slots = A.slots + ms
def vx_Back (l : Launch) (R : Room) (p : Program) (e : Env) (below : List Frame) (s : State) (sargs : Array Value) (y : MethodName) (len W9 : Nat)
    (Pre : Pt → Array Value → Prop) (Post : Pt → Array Value → Option Value → Pt → Prop) (PostX : Pt → Array Value → Addr → Pt → Prop) : Prop :=
  ∀ (m : MethodId) (meth : Method) (c : Code) (A : Pt) (g : JFrame) (ig : Instr) (mk : MethodId) (a : Array Value),
    Stand p l e R s m sargs below meth c A.U A.locs A.cells A.slots → g.method = m → g.locals.size = c.maxLocals → decode c.code g.pc = .ok (ig, len) →
    2 * g.monitorRoom + (g.stack.map fun v => v.category).sum ≤ W9 → A.U.methodNamed? y = some mk → Pre A a →
    (∃ (v : Option Value) (B : Pt), Stand p l e R s m sargs below meth c B.U B.locs B.cells B.slots ∧ Post A a v B ∧
      Steps p.tables e below (doInvoke e (A.U.setTop g) [] mk a).1 (B.U.setTop { g with pc := g.pc + len, stack := v.toList ++ g.stack })) ∨
    (∃ (q : Addr) (B : Pt), Stand p l e R s m sargs below meth c B.U B.locs B.cells B.slots ∧ PostX A a q B ∧
      Steps p.tables e below (doInvoke e (A.U.setTop g) [] mk a).1 ((B.U.setTop g).pushFrame (.throwing q)))
section Payer
variable {l : Launch} {R : Room} {p : Program} {e : Env} {below : List Frame} {s : State} {sargs : Array Value} {y : MethodName} {len W9 : Nat}
theorem vx_back {ws : List Cond} {rm : Room} {Pc : Array Value → State → Prop} {Qc : Array Value → State → Outcome → State → Prop} {XC : String → State → State → Prop} {mc ms : Nat} {free : Addr → Prop} {bytes : ByteArray} {maxL : Nat} {ret : Option FieldType}
    (hM : vx_Met l y ws rm Pc Qc XC mc ms free) (hblind : FrameBlind Pc) (hrc : rm.cells = mc) (hrs : rm.slots = ms)
    (hframes : rm.frames + 1 ≤ R.frames) (hlocals : W9 + (maxL + 11) + rm.locals ≤ R.locals)
    (hws : ∀ w ∈ ws, ∀ a' U, s.WarmedH U.vm → w.before a' U = true) (hcode : Cond.code y bytes maxL ret ∈ ws) (hinit : ∀ a' U, s.WarmedH U.vm → (Cond.initialized y.cls).before a' U = true) :
    vx_Back l R p e below s sargs y len W9 (PreOf R mc ms Pc) (PostOf Qc mc ms free) (vx_Post XC mc ms free) := by
  intro m meth c A g ig mk a X hg hsize hdg hW hn hp
  have h1 : (headSpec ws rm).pre.before a A.U = true := atoms_intro fun w hw => hws w hw _ _ X.warmed
  have h2 : (Cond.code y bytes maxL ret).before a A.U = true := hws _ hcode _ _ X.warmed
  have h3 : (Cond.initialized y.cls).before a A.U = true := hinit _ _ X.warmed
  have h4 : A.cells + (headSpec ws rm).room.cells ≤ R.cells := by rw [show (headSpec ws rm).room.cells = mc from hrc]; exact hp.1
  have h5 : A.slots + (headSpec ws rm).room.slots ≤ R.slots := by rw [show (headSpec ws rm).room.slots = ms from hrs]; exact hp.2.1
  have hPc : Pc a (A.U.calling g mk a) := hblind _ _ _ _ hp.2.2
  obtain ⟨U, Ls, c0, s0⟩ := A
  dsimp only [Pt.U, Pt.locs, Pt.cells, Pt.slots] at h1 h2 h3 h4 h5 X hn hPc ⊢
  obtain ⟨methY, cY, hmY, hcY, -, hlY, -, -, -, -⟩ := Cond.code_spec hn h2
  obtain ⟨kY, hkY, -⟩ := className_of_methodNamed hn
  have hinitY : kY.init = .initialized := Cond.initialized_spec (findClass_of_methodNamed hn) hkY h3
  have h : At U g.method c below := by rw [hg]; exact X.here
  have hlocals9 : W9 + (maxL + 11) + (headSpec ws rm).room.locals ≤ R.locals := hlocals
  have happ : (headSpec ws rm).appliesLoose y e.platform (U.calling g mk a) = true :=
    Spec.appliesLoose_calling (g := g) h hdg hn hkY hinitY
      (X.room_calling (g := g) (R' := (headSpec ws rm).room) hsize hmY hcY hframes (by rw [hlY]; omega) h4 h5) h1
  obtain ⟨mid, hmid⟩ := h.above
  have hfr : (U.setTop g).frames = (.java g :: mid) ++ below := by rw [State.frames_setTop' g h.top, hmid]; rfl
  obtain ⟨o, s₂, hsteps, -, hend, hq⟩ := Steps.callFree hM p X.admits X.cas X.clock (acts := []) hfr happ hPc trivial
  have hq' : vx_Q Qc XC mc ms free a (U.calling g mk a) o s₂ := hq
  rw [State.frames_setTop' g h.top] at hend
  obtain ⟨g₀, hg0⟩ := Option.isSome_iff_exists.mp h.top
  obtain ⟨r, hr⟩ := State.topJava?_eq_some.mp hg0
  have hr' : (({ U with heap := s₂.heap, slotsUsed := s₂.slotsUsed } : State).setVm s₂.vm).frames = .java g₀ :: r := hr
  rcases hq' with ⟨hqc, L, hfe, hL⟩ | ⟨q, rfl, E, ce, L, hx, hce, hcv, hcl, hW₂, hsm, hL⟩
  · obtain ⟨⟨v, rfl⟩, hW₂, e2, q2, q3, q4, q5, q6⟩ := id hfe
    have e3 : s₂ = ({ (U.calling g mk a).setFrames s₂.frames with heap := s₂.heap, slotsUsed := s₂.slotsUsed } : State).setVm s₂.vm := by
      have : s₂ = ({ s₂ with vm := (U.calling g mk a).vm } : State).setVm s₂.vm := rfl
      rw [e2] at this
      exact this
    obtain ⟨c₂, i₂, len₂, hc₂, hd₂, hf₂⟩ := hend
    have hW' : U.WarmedH s₂.vm := hW₂
    have hcc : c₂ = c := by
      have h1 : s₂.code? g.method = U.code? g.method := by
        rw [State.code?_eq, State.code?_eq, hW'.alike.method?]
      exact Option.some.inj (hc₂.symm.trans (h1.trans h.code))
    subst hcc
    have hlen : len₂ = len := by rw [hdg] at hd₂; cases hd₂; rfl
    subst hlen
    have hs₂ : s₂ = (({ U with heap := s₂.heap, slotsUsed := s₂.slotsUsed } : State).setVm s₂.vm).setTop { g with pc := g.pc + len₂, stack := v.toList ++ g.stack } := by
      refine e3.trans ?_
      rw [hf₂, State.calling_eq h.top, State.setFrames_setFrames, State.setTop_of_frames _ hr', hr]
      rfl
    have hsame : U.sameButNew ({ U with heap := s₂.heap, slotsUsed := s₂.slotsUsed } : State) L mc ms := by
      refine ⟨?_, q2, q3, q4, q5, q6⟩
      obtain ⟨t, ht, -⟩ := State.frames_cons hr
      show ({ U with heap := s₂.heap, slotsUsed := s₂.slotsUsed } : State) = { U.setFrames U.frames with heap := s₂.heap, slotsUsed := s₂.slotsUsed }
      rw [State.setFrames_self ht]
    subst hg
    refine Or.inl ⟨v, ⟨(({ U with heap := s₂.heap, slotsUsed := s₂.slotsUsed } : State).setVm s₂.vm), Ls ++ L, c0 + mc, s0 + ms⟩,
      ⟨X.admits, X.cas, X.clock, X.frames, X.room, X.hears, X.method, X.code, (X.here.setHeapUsed s₂.heap s₂.slotsUsed).setVm hW'.alike, X.tail, State.WarmedH.trans X.warmed hW', X.limits, X.bytes, X.same.trans (hsame.setVm s.vm)⟩,
      ⟨g, mk, s₂, L, rfl, rfl, hqc, rfl, hL, rfl, rfl⟩, ?_⟩
    show Steps p.tables e below _ ((({ U with heap := s₂.heap, slotsUsed := s₂.slotsUsed } : State).setVm s₂.vm).setTop { g with pc := g.pc + len₂, stack := v.toList ++ g.stack })
    rw [← hs₂]
    exact hsteps
  · obtain ⟨e2, q2, q3, q4, q5, q6⟩ := id hsm
    have e3 : s₂ = ({ (U.calling g mk a).setFrames s₂.frames with heap := s₂.heap, slotsUsed := s₂.slotsUsed } : State).setVm s₂.vm := by
      have : s₂ = ({ s₂ with vm := (U.calling g mk a).vm } : State).setVm s₂.vm := rfl
      rw [e2] at this
      exact this
    have hf₂ : s₂.frames = .throwing q :: .java g :: U.frames.tail := hend
    have hW' : U.WarmedH s₂.vm := hW₂
    have hs₂ : s₂ = ((({ U with heap := s₂.heap, slotsUsed := s₂.slotsUsed } : State).setVm s₂.vm).setTop g).pushFrame (.throwing q) := by
      refine e3.trans ?_
      rw [hf₂, State.calling_eq h.top, State.setFrames_setFrames, State.pushFrame, State.frames_setTop _ hr', State.setTop_of_frames _ hr', State.setFrames_setFrames, hr]
      rfl
    have hsame : U.sameButNew ({ U with heap := s₂.heap, slotsUsed := s₂.slotsUsed } : State) L mc ms := by
      refine ⟨?_, q2, q3, q4, q5, q6⟩
      obtain ⟨t, ht, -⟩ := State.frames_cons hr
      show ({ U with heap := s₂.heap, slotsUsed := s₂.slotsUsed } : State) = { U.setFrames U.frames with heap := s₂.heap, slotsUsed := s₂.slotsUsed }
      rw [State.setFrames_self ht]
    subst hg
    refine Or.inr ⟨q, ⟨(({ U with heap := s₂.heap, slotsUsed := s₂.slotsUsed } : State).setVm s₂.vm), Ls ++ L, c0 + mc, s0 + ms⟩,
      ⟨X.admits, X.cas, X.clock, X.frames, X.room, X.hears, X.method, X.code, (X.here.setHeapUsed s₂.heap s₂.slotsUsed).setVm hW'.alike, X.tail, State.WarmedH.trans X.warmed hW', X.limits, X.bytes, X.same.trans (hsame.setVm s.vm)⟩,
      ⟨g, mk, s₂, L, E, ce, rfl, rfl, hx, hce, hcv, hcl, rfl, hL, rfl, rfl⟩, ?_⟩
    show Steps p.tables e below _ (((({ U with heap := s₂.heap, slotsUsed := s₂.slotsUsed } : State).setVm s₂.vm).setTop g).pushFrame (.throwing q))
    rw [← hs₂]
    exact hsteps
end Payer
section Calls
variable {p : Program} {l : Launch} {e : Env} {R : Room} {s : State} {m : MethodId} {args : Array Value} {below : List Frame} {meth : Method} {c : Code} {T : State} {locs : List Loc} {cells slots : Nat}
theorem vx_callV (X : Stand p l e R s m args below meth c T locs cells slots) (hexec : p.tables.exec = Jvm.exec) {own C : String} {index : Nat} {y : MethodName} {bytes : ByteArray} {maxL : Nat} {ret : Option FieldType}
    (hown : s.vm.findClass own = some m.cls) (hlink : (Cond.methodLink own index y).before args s = true) (hinst : (Cond.instanceMethod y).before args s = true) (hsel : (Cond.selects C y y).before args s = true)
    (hcode : (Cond.code y bytes maxL ret).before args s = true) (hy : y.cls ≠ "java/lang/invoke/MethodHandle" ∧ y.cls ≠ "java/lang/invoke/VarHandle")
    {W9 : Nat} {Pre : Pt → Array Value → Prop} {Post : Pt → Array Value → Option Value → Pt → Prop} {PostX : Pt → Array Value → Addr → Pt → Prop} (hK : vx_Back l R p e below s args y 3 W9 Pre Post PostX)
    {b : Addr} {cellB : Cell} (hcell : T.heap[b]? = some cellB) (hobj : cellB.vm.isStatics = false) (hcls : s.vm.findClass C = some cellB.cls)
    {g : JFrame} (hg : g.method = m) (hsize : g.locals.size = c.maxLocals) {argsL rest : List Value} (hlen : ∀ sig, parseMethodDescriptor y.desc = some sig → argsL.length = sig.parameters.length)
    (hstack : g.stack = argsL.reverse ++ .ref b :: rest) (hW : 2 * g.monitorRoom + (rest.map fun v => v.category).sum ≤ W9) (hdg : decode c.code g.pc = .ok (.invokevirtual index, 3))
    (hpre : ∀ vm₁, s.WarmedH vm₁ → Pre ⟨T.setVm vm₁, locs, cells, slots⟩ (Value.ref b :: argsL).toArray) :
    (∃ (v : Option Value) (vm₁ : Vm) (B : Pt), s.WarmedH vm₁ ∧ Stand p l e R s m args below meth c B.U B.locs B.cells B.slots ∧ Post ⟨T.setVm vm₁, locs, cells, slots⟩ (Value.ref b :: argsL).toArray v B ∧
      ∀ target, Steps p.tables e below (B.U.setTop { g with pc := g.pc + 3, stack := v.toList ++ rest }) target → Steps p.tables e below (T.setTop g) target) ∨
    (∃ (q : Addr) (vm₁ : Vm) (B : Pt), s.WarmedH vm₁ ∧ Stand p l e R s m args below meth c B.U B.locs B.cells B.slots ∧ PostX ⟨T.setVm vm₁, locs, cells, slots⟩ (Value.ref b :: argsL).toArray q B ∧
      Steps p.tables e below (T.setTop g) ((B.U.setTop { g with stack := rest }).pushFrame (.throwing q))) := by
  obtain ⟨mk, methM, hnamed, hmethM, hstM, habM⟩ := Cond.instanceMethod_spec hinst
  obtain ⟨methM', cM, hmethM', -, -, -, -, -, -, hsigM⟩ := Cond.code_spec hnamed hcode
  cases hmethM.symm.trans hmethM'
  obtain ⟨c2, r2, m2, q1, q2, q3, q4, kP, hkP, hkPi⟩ := Cond.selects_spec hsel
  cases hcls.symm.trans q1
  cases (State.methodFound?_of_named hnamed hy).symm.trans q2
  cases hnamed.symm.trans q3
  have hselP : selectMethod e.platform s.vm cellB.cls mk = .method mk := by rw [Launch.admits_selectMethod X.admits]; exact q4
  obtain ⟨vm₁, X₁, hstep₁⟩ := X.invokevirtual hexec hown hlink hnamed hmethM hstM hkP hkPi hy (a := b) (cell := cellB) hcell
    (fun z h => by rw [h] at hobj; cases hobj) hselP hmethM habM hkP hkPi (g := g) hg (argsL := argsL) (rest := rest) (hlen _ hsigM) hstack hdg
  rcases hK m meth c ⟨T.setVm vm₁, locs, cells, slots⟩ { g with stack := rest } (.invokevirtual index) mk (Value.ref b :: argsL).toArray X₁ hg hsize hdg hW (X₁.named hnamed) (hpre vm₁ X₁.warmed) with ⟨v, B, X', hpost, hsteps⟩ | ⟨q, B, X', hpost, hsteps⟩
  · exact Or.inl ⟨v, vm₁, B, X₁.warmed, X', hpost, fun target h => hstep₁ _ fun acts => by rw [doInvoke_state]; exact hsteps.trans h⟩
  · exact Or.inr ⟨q, vm₁, B, X₁.warmed, X', hpost, hstep₁ _ fun acts => by rw [doInvoke_state]; exact hsteps⟩
theorem vx_callS (X : Stand p l e R s m args below meth c T locs cells slots) (hexec : p.tables.exec = Jvm.exec) {own : String} {index : Nat} {y : MethodName} {bytes : ByteArray} {maxL : Nat} {ret : Option FieldType}
    (hown : s.vm.findClass own = some m.cls) (hlink : (Cond.methodLink own index y).before args s = true) (hstat : (Cond.static y).before args s = true) (hinit : (Cond.initialized y.cls).before args s = true)
    (hcode : (Cond.code y bytes maxL ret).before args s = true) (hy : y.cls ≠ "java/lang/invoke/MethodHandle" ∧ y.cls ≠ "java/lang/invoke/VarHandle")
    {W9 : Nat} {Pre : Pt → Array Value → Prop} {Post : Pt → Array Value → Option Value → Pt → Prop} {PostX : Pt → Array Value → Addr → Pt → Prop} (hK : vx_Back l R p e below s args y 3 W9 Pre Post PostX)
    {g : JFrame} (hg : g.method = m) (hsize : g.locals.size = c.maxLocals) {argsL rest : List Value} (hlen : ∀ sig, parseMethodDescriptor y.desc = some sig → argsL.length = sig.parameters.length)
    (hstack : g.stack = argsL.reverse ++ rest) (hW : 2 * g.monitorRoom + (rest.map fun v => v.category).sum ≤ W9) (hdg : decode c.code g.pc = .ok (.invokestatic index, 3))
    (hpre : ∀ vm₁, s.WarmedH vm₁ → Pre ⟨T.setVm vm₁, locs, cells, slots⟩ argsL.toArray) :
    (∃ (v : Option Value) (vm₁ : Vm) (B : Pt), s.WarmedH vm₁ ∧ Stand p l e R s m args below meth c B.U B.locs B.cells B.slots ∧ Post ⟨T.setVm vm₁, locs, cells, slots⟩ argsL.toArray v B ∧
      ∀ target, Steps p.tables e below (B.U.setTop { g with pc := g.pc + 3, stack := v.toList ++ rest }) target → Steps p.tables e below (T.setTop g) target) ∨
    (∃ (q : Addr) (vm₁ : Vm) (B : Pt), s.WarmedH vm₁ ∧ Stand p l e R s m args below meth c B.U B.locs B.cells B.slots ∧ PostX ⟨T.setVm vm₁, locs, cells, slots⟩ argsL.toArray q B ∧
      Steps p.tables e below (T.setTop g) ((B.U.setTop { g with stack := rest }).pushFrame (.throwing q))) := by
  obtain ⟨mk, hnamed⟩ := Cond.code_named hcode
  obtain ⟨methM, cM, hmethM, -, -, -, -, -, -, hsigM⟩ := Cond.code_spec hnamed hcode
  have hstatic : methM.isStatic = true := Cond.static_spec hnamed hmethM hstat
  obtain ⟨kP, hkP, -⟩ := className_of_methodNamed hnamed
  have hinitP : kP.init = .initialized := Cond.initialized_spec (findClass_of_methodNamed hnamed) hkP hinit
  obtain ⟨vm₁, X₁, hstep₁⟩ := X.invokestatic hexec hown hlink hnamed hmethM hstatic hkP hinitP hy (g := g) hg (argsL := argsL) (rest := rest) (hlen _ hsigM) hstack hdg
  rcases hK m meth c ⟨T.setVm vm₁, locs, cells, slots⟩ { g with stack := rest } (.invokestatic index) mk argsL.toArray X₁ hg hsize hdg hW (X₁.named hnamed) (hpre vm₁ X₁.warmed) with ⟨v, B, X', hpost, hsteps⟩ | ⟨q, B, X', hpost, hsteps⟩
  · exact Or.inl ⟨v, vm₁, B, X₁.warmed, X', hpost, fun target h => hstep₁ _ fun acts => by rw [doInvoke_state]; exact hsteps.trans h⟩
  · exact Or.inr ⟨q, vm₁, B, X₁.warmed, X', hpost, hstep₁ _ fun acts => by rw [doInvoke_state]; exact hsteps⟩
end Calls
theorem vx_cls {s : State} {T : State} {vm₁ : Vm} {E : String} {k : ClassId} (hW : s.WarmedH vm₁) (h : (T.setVm vm₁).vm.findClass E = some k) : s.vm.findClass E = some k := by
  have h1 : vm₁.findClass E = some k := h
  rw [hW.alike.findClass] at h1
  exact h1
/-- the method's frame g, with q thrown over it -/
def vx_W (p : Program) (l : Launch) (e : Env) (R : Room) (s : State) (m : MethodId) (args : Array Value) (below : List Frame) (meth : Method) (c : Code) (H : Heap) (locs : List Loc) (cells slots : Nat) (Q : State → Prop) (g : JFrame) (q : Addr) : Prop :=
  ∀ T : State, T.heap = H → Stand p l e R s m args below meth c T locs cells slots → ∃ t, Steps p.tables e below ((T.setTop g).pushFrame (.throwing q)) t ∧ Q t
def vx_Run (p : Program) (l : Launch) (e : Env) (R : Room) (s : State) (m : MethodId) (args : Array Value) (below : List Frame) (meth : Method) (c : Code) (H : Heap) (locs : List Loc) (cells slots mc ms : Nat) (g : JFrame) (rest : List Value) (Qa : State → Outcome → State → Prop) (XC : String → State → State → Prop) (free : Addr → Prop) : Prop :=
  ∀ T : State, T.heap = H → Stand p l e R s m args below meth c T locs cells slots →
    (∃ (v : Option Value) (st₀ t T' : State) (L : List Loc), st₀.heap = H ∧ Stand p l e R s m args below meth c T' (locs ++ L) (cells + mc) (slots + ms) ∧ (∀ q ∈ L, free q.base) ∧ T'.heap = t.heap ∧ T'.vm = t.vm ∧ Qa st₀ (.returned v) t ∧
      Goes p e below T g T' { g with pc := g.pc + 3, stack := v.toList ++ rest }) ∨
    (∃ (q : Addr) (st₀ t T' : State) (L : List Loc) (E : String) (ce : Cell), st₀.heap = H ∧ Stand p l e R s m args below meth c T' (locs ++ L) (cells + mc) (slots + ms) ∧ (∀ z ∈ L, free z.base) ∧ T'.heap = t.heap ∧ T'.vm = t.vm ∧ XC E st₀ t ∧ t.heap[q]? = some ce ∧ ce.vm = .none ∧ s.vm.findClass E = some ce.cls ∧
      Steps p.tables e below (T.setTop g) ((T'.setTop { g with stack := rest }).pushFrame (.throwing q)))
def vx_X {S : Type} (px : S → Prop) (B : String → S → State → Prop) (A : Nat → Prop) : String → State → State → Prop := fun E st t => ∃ u : S, px u ∧ B E u t ∧ va_F A st t
section Runs
variable {p : Program} {l : Launch} {e : Env} {R : Room} {s : State} {m : MethodId} {args : Array Value} {below : List Frame} {meth : Method} {c : Code} {H : Heap} {locs : List Loc} {cells slots : Nat}
variable {y : MethodName} {bytes cc : ByteArray} {maxL nL mc ms n index : Nat} {ret : Option FieldType} {ws : List Cond} {rm : Room} {Pc : Array Value → State → Prop} {Qc : Array Value → State → Outcome → State → Prop} {XC : String → State → State → Prop} {free : Addr → Prop} {Ts : List Cond} {own C : String} {b : Addr} {As rest : List Value} {g : JFrame}
theorem vx_callBack (cb : CallB R s args own index y bytes maxL ret ws rm mc ms n) (hM : vx_Met l y ws rm Pc Qc XC mc ms free) (hbl : FrameBlind Pc) : vx_Back l R p e below s args y 3 8 (PreOf R mc ms Pc) (PostOf Qc mc ms free) (vx_Post XC mc ms free) := by
  obtain ⟨hrc, hrs, hfr, hlo, hws, hcw, -, hini, -⟩ := cb
  exact vx_back (bytes := bytes) (maxL := maxL) (ret := ret) hM hbl hrc hrs hfr hlo hws hcw (fun a' U hW => word_at hW (Or.inl (by first | rfl | simp [Cond.onTables, Cond.keeps, Cond.steady])) hini)
theorem vx_runV (S : CallFix p m c cc nL s args Ts own) (hM : vx_Met l y ws rm Pc Qc XC mc ms free) (cw : CallW R s args own C index y bytes maxL ret ws rm mc ms n) (hp : PreV s H C b Pc As)
    (hg : g.method = m) (hn : As.length = n) (hsize : g.locals.size = nL) (hstack : g.stack = As.reverse ++ .ref b :: rest) (hW : 2 * g.monitorRoom + (rest.map fun v => v.category).sum ≤ 8) (hdg : decode cc g.pc = .ok (.invokevirtual index, 3)) (hf : cells + mc ≤ R.cells ∧ slots + ms ≤ R.slots) :
    vx_Run p l e R s m args below meth c H locs cells slots mc ms g rest (Qc (Value.ref b :: As).toArray) XC free := by
  have hK : vx_Back l R p e below s args y 3 8 (PreOf R mc ms Pc) (PostOf Qc mc ms free) (vx_Post XC mc ms free) := vx_callBack cw.1 hM hp.1
  obtain ⟨⟨-, -, -, -, -, -, hcode, -, hy, hlen, hl⟩, hin, hse⟩ := cw
  obtain ⟨hx, hb, hml, ho, -⟩ := S
  obtain ⟨-, ⟨cellB, hcB, hoB, hclB⟩, hPc⟩ := hp
  intro T hT X
  rcases vx_callV X hx (C := C) (bytes := bytes) (maxL := maxL) (ret := ret) ho hl hin hse hcode hy hK (by rw [hT]; exact hcB) hoB hclB hg (hsize.trans hml.symm) (argsL := As) (rest := rest) (fun sig h => hn.trans (hlen sig h)) hstack hW (by rw [hb]; exact hdg)
    (fun vm₁ hW₁ => ⟨hf.1, hf.2, hPc (T.setVm vm₁) hT hW₁⟩) with ⟨v, vm₁, ⟨U', l2, c2, s2⟩, hW₁, X', ⟨g', mk, t, L, e1, e2, hq, h1, hL, h2, h3⟩, st⟩ | ⟨q, vm₁, ⟨U', l2, c2, s2⟩, hW₁, X', ⟨g', mk, t, L, E, ce, e1, e2, hq, hce, hcv, hcl, h1, hL, h2, h3⟩, st⟩
  · dsimp only [Pt.U, Pt.locs, Pt.cells, Pt.slots] at X' e1 e2 h1 h2 h3 st
    subst h1; subst h2; subst h3
    exact Or.inl ⟨v, (T.setVm vm₁).calling g' mk (Value.ref b :: As).toArray, t, U', L, hT, X', hL, e1, e2, hq, st⟩
  · dsimp only [Pt.U, Pt.locs, Pt.cells, Pt.slots] at X' e1 e2 h1 h2 h3 st hcl
    subst h1; subst h2; subst h3
    exact Or.inr ⟨q, (T.setVm vm₁).calling g' mk (Value.ref b :: As).toArray, t, U', L, E, ce, hT, X', hL, e1, e2, hq, hce, hcv, vx_cls hW₁ hcl, st⟩
theorem vx_runS (S : CallFix p m c cc nL s args Ts own) (hM : vx_Met l y ws rm Pc Qc XC mc ms free) (cw : CallB R s args own index y bytes maxL ret ws rm mc ms n ∧ (Cond.static y).before args s = true) (hp : PreS s H Pc As)
    (hg : g.method = m) (hn : As.length = n) (hsize : g.locals.size = nL) (hstack : g.stack = As.reverse ++ rest) (hW : 2 * g.monitorRoom + (rest.map fun v => v.category).sum ≤ 8) (hdg : decode cc g.pc = .ok (.invokestatic index, 3)) (hf : cells + mc ≤ R.cells ∧ slots + ms ≤ R.slots) :
    vx_Run p l e R s m args below meth c H locs cells slots mc ms g rest (Qc As.toArray) XC free := by
  have hK : vx_Back l R p e below s args y 3 8 (PreOf R mc ms Pc) (PostOf Qc mc ms free) (vx_Post XC mc ms free) := vx_callBack cw.1 hM hp.1
  obtain ⟨⟨-, -, -, -, -, -, hcode, hini, hy, hlen, hl⟩, hstt⟩ := cw
  obtain ⟨hx, hb, hml, ho, -⟩ := S
  intro T hT X
  rcases vx_callS X hx (bytes := bytes) (maxL := maxL) (ret := ret) ho hl hstt hini hcode hy hK hg (hsize.trans hml.symm) (argsL := As) (rest := rest) (fun sig h => hn.trans (hlen sig h)) hstack hW (by rw [hb]; exact hdg)
    (fun vm₁ hW₁ => ⟨hf.1, hf.2, hp.2 (T.setVm vm₁) hT hW₁⟩) with ⟨v, vm₁, ⟨U', l2, c2, s2⟩, hW₁, X', ⟨g', mk, t, L, e1, e2, hq, h1, hL, h2, h3⟩, st⟩ | ⟨q, vm₁, ⟨U', l2, c2, s2⟩, hW₁, X', ⟨g', mk, t, L, E, ce, e1, e2, hq, hce, hcv, hcl, h1, hL, h2, h3⟩, st⟩
  · dsimp only [Pt.U, Pt.locs, Pt.cells, Pt.slots] at X' e1 e2 h1 h2 h3 st
    subst h1; subst h2; subst h3
    exact Or.inl ⟨v, (T.setVm vm₁).calling g' mk As.toArray, t, U', L, hT, X', hL, e1, e2, hq, st⟩
  · dsimp only [Pt.U, Pt.locs, Pt.cells, Pt.slots] at X' e1 e2 h1 h2 h3 st hcl
    subst h1; subst h2; subst h3
    exact Or.inr ⟨q, (T.setVm vm₁).calling g' mk As.toArray, t, U', L, E, ce, hT, X', hL, e1, e2, hq, hce, hcv, vx_cls hW₁ hcl, st⟩
end Runs
section Rows
variable {p : Program} {l : Launch} {e : Env} {R : Room} {s : State} {m : MethodId} {args : Array Value} {below : List Frame} {meth : Method} {c : Code} {H : Heap} {locs : List Loc} {cells slots : Nat} {Q : State → Prop}
variable {mc ms : Nat} {free : Addr → Prop} {A0 A1 : Nat → Prop} {H0 : Heap} {a : Array Value} {pc : Nat} {ls : Array Slot} {st0 rest : List Value}
theorem vx_keep {st₀ t T' : State} {L : List Loc} (h0 : st₀.heap = H) (e1 : T'.heap = t.heap) (hS : va_S A0 H0 H locs) (hA : ∀ q, q < H.size → A1 q → A0 q) (hf : ∀ q, free q → A0 q) (hL : ∀ q ∈ L, free q.base) (hF : va_F A1 st₀ t) :
    H.size ≤ T'.heap.size ∧ (∀ q : Nat, q < H.size → ¬ A1 q → T'.heap[q]? = H[q]?) ∧ va_S A0 H0 T'.heap (locs ++ L) := by
  obtain ⟨hz, hk⟩ := hF
  rw [h0] at hz hk
  exact ⟨by rw [e1]; exact hz, fun q h1 h2 => by rw [e1]; exact hk q h1 h2,
    ⟨Nat.le_trans hS.1 (by rw [e1]; exact hz), fun q h1 h2 => by rw [e1, hk q (Nat.lt_of_lt_of_le h1 hS.1) (fun z => h2 (hA q (Nat.lt_of_lt_of_le h1 hS.1) z))]; exact hS.2.1 q h1 h2, fun q hq => by
      rcases List.mem_append.mp hq with h | h
      · exact hS.2.2 q h
      · exact hf _ (hL q h)⟩⟩
theorem vx_calli {S SX : Type} {post : Int32 → S → Prop} {px : SX → Prop} {B : S → State → Prop} {BX : String → SX → State → Prop} {AX : Nat → Prop} (hr : vx_Run p l e R s m args below meth c H locs cells slots mc ms (F0 m pc ls st0) rest (va_Qi post B A1 a) (vx_X px BX AX) free) (hS : va_S A0 H0 H locs) (hA : ∀ q, q < H.size → A1 q → A0 q) (hf : ∀ q, free q → A0 q) (hAX : ∀ q, q < H.size → AX q → A0 q)
    (kx : ∀ (E : String) (ce : Cell) (q9 : Addr) (u : SX) (t : State) (H1 : Heap) (locs1 : List Loc), t.heap = H1 → s.vm.Alike t.vm → px u → BX E u t → H.size ≤ H1.size → (∀ q : Nat, q < H.size → ¬ AX q → H1[q]? = H[q]?) → va_S A0 H0 H1 locs1 → H1[q9]? = some ce → ce.vm = .none → s.vm.findClass E = some ce.cls → vx_W p l e R s m args below meth c H1 locs1 (cells + mc) (slots + ms) Q (F0 m pc ls rest) q9)
    (kk : ∀ (r : Int32) (u : S) (t : State) (H1 : Heap) (locs1 : List Loc), t.heap = H1 → s.vm.Alike t.vm → post r u → B u t → H.size ≤ H1.size → (∀ q : Nat, q < H.size → ¬ A1 q → H1[q]? = H[q]?) → va_S A0 H0 H1 locs1 → W p l e R s m args below meth c H1 locs1 (cells + mc) (slots + ms) Q (F0 m (pc + 3) ls (.int r :: rest))) : W p l e R s m args below meth c H locs cells slots Q (F0 m pc ls st0) := by
  intro T hT X
  rcases hr T hT X with ⟨v, st₀, t, T', L, h0, X', hL, e1, e2, ⟨⟨r, u, hv, hp, hb⟩, hF⟩, st⟩ | ⟨q, st₀, t, T', L, E, ce, h0, X', hL, e1, e2, ⟨u, hp, hb, hF⟩, hce, hcv, hcl, st⟩
  · cases hv
    obtain ⟨k1, k2, k3⟩ := vx_keep h0 e1 hS hA hf hL hF
    obtain ⟨t2, a1, b1⟩ := kk r u t T'.heap (locs ++ L) e1.symm (by rw [← e2]; exact X'.warmed.alike) hp hb k1 k2 k3 T' rfl X'
    exact ⟨t2, st t2 a1, b1⟩
  · obtain ⟨k1, k2, k3⟩ := vx_keep h0 e1 hS hAX hf hL hF
    obtain ⟨t2, a1, b1⟩ := kx E ce q u t T'.heap (locs ++ L) e1.symm (by rw [← e2]; exact X'.warmed.alike) hp hb k1 k2 k3 (by rw [e1]; exact hce) hcv hcl T' rfl X'
    exact ⟨t2, st.trans a1, b1⟩
theorem vx_calll {S SX : Type} {post : Int64 → S → Prop} {px : SX → Prop} {B : S → State → Prop} {BX : String → SX → State → Prop} {AX : Nat → Prop} (hr : vx_Run p l e R s m args below meth c H locs cells slots mc ms (F0 m pc ls st0) rest (va_Ql post B A1 a) (vx_X px BX AX) free) (hS : va_S A0 H0 H locs) (hA : ∀ q, q < H.size → A1 q → A0 q) (hf : ∀ q, free q → A0 q) (hAX : ∀ q, q < H.size → AX q → A0 q)
    (kx : ∀ (E : String) (ce : Cell) (q9 : Addr) (u : SX) (t : State) (H1 : Heap) (locs1 : List Loc), t.heap = H1 → s.vm.Alike t.vm → px u → BX E u t → H.size ≤ H1.size → (∀ q : Nat, q < H.size → ¬ AX q → H1[q]? = H[q]?) → va_S A0 H0 H1 locs1 → H1[q9]? = some ce → ce.vm = .none → s.vm.findClass E = some ce.cls → vx_W p l e R s m args below meth c H1 locs1 (cells + mc) (slots + ms) Q (F0 m pc ls rest) q9)
    (kk : ∀ (r : Int64) (u : S) (t : State) (H1 : Heap) (locs1 : List Loc), t.heap = H1 → s.vm.Alike t.vm → post r u → B u t → H.size ≤ H1.size → (∀ q : Nat, q < H.size → ¬ A1 q → H1[q]? = H[q]?) → va_S A0 H0 H1 locs1 → W p l e R s m args below meth c H1 locs1 (cells + mc) (slots + ms) Q (F0 m (pc + 3) ls (.long r :: rest))) : W p l e R s m args below meth c H locs cells slots Q (F0 m pc ls st0) := by
  intro T hT X
  rcases hr T hT X with ⟨v, st₀, t, T', L, h0, X', hL, e1, e2, ⟨⟨r, u, hv, hp, hb⟩, hF⟩, st⟩ | ⟨q, st₀, t, T', L, E, ce, h0, X', hL, e1, e2, ⟨u, hp, hb, hF⟩, hce, hcv, hcl, st⟩
  · cases hv
    obtain ⟨k1, k2, k3⟩ := vx_keep h0 e1 hS hA hf hL hF
    obtain ⟨t2, a1, b1⟩ := kk r u t T'.heap (locs ++ L) e1.symm (by rw [← e2]; exact X'.warmed.alike) hp hb k1 k2 k3 T' rfl X'
    exact ⟨t2, st t2 a1, b1⟩
  · obtain ⟨k1, k2, k3⟩ := vx_keep h0 e1 hS hAX hf hL hF
    obtain ⟨t2, a1, b1⟩ := kx E ce q u t T'.heap (locs ++ L) e1.symm (by rw [← e2]; exact X'.warmed.alike) hp hb k1 k2 k3 (by rw [e1]; exact hce) hcv hcl T' rfl X'
    exact ⟨t2, st.trans a1, b1⟩
theorem vx_callf {S SX : Type} {post : UInt32 → S → Prop} {px : SX → Prop} {B : S → State → Prop} {BX : String → SX → State → Prop} {AX : Nat → Prop} (hr : vx_Run p l e R s m args below meth c H locs cells slots mc ms (F0 m pc ls st0) rest (va_Qf post B A1 a) (vx_X px BX AX) free) (hS : va_S A0 H0 H locs) (hA : ∀ q, q < H.size → A1 q → A0 q) (hf : ∀ q, free q → A0 q) (hAX : ∀ q, q < H.size → AX q → A0 q)
    (kx : ∀ (E : String) (ce : Cell) (q9 : Addr) (u : SX) (t : State) (H1 : Heap) (locs1 : List Loc), t.heap = H1 → s.vm.Alike t.vm → px u → BX E u t → H.size ≤ H1.size → (∀ q : Nat, q < H.size → ¬ AX q → H1[q]? = H[q]?) → va_S A0 H0 H1 locs1 → H1[q9]? = some ce → ce.vm = .none → s.vm.findClass E = some ce.cls → vx_W p l e R s m args below meth c H1 locs1 (cells + mc) (slots + ms) Q (F0 m pc ls rest) q9)
    (kk : ∀ (r : UInt32) (u : S) (t : State) (H1 : Heap) (locs1 : List Loc), t.heap = H1 → s.vm.Alike t.vm → post r u → B u t → H.size ≤ H1.size → (∀ q : Nat, q < H.size → ¬ A1 q → H1[q]? = H[q]?) → va_S A0 H0 H1 locs1 → W p l e R s m args below meth c H1 locs1 (cells + mc) (slots + ms) Q (F0 m (pc + 3) ls (.float r :: rest))) : W p l e R s m args below meth c H locs cells slots Q (F0 m pc ls st0) := by
  intro T hT X
  rcases hr T hT X with ⟨v, st₀, t, T', L, h0, X', hL, e1, e2, ⟨⟨r, u, hv, hp, hb⟩, hF⟩, st⟩ | ⟨q, st₀, t, T', L, E, ce, h0, X', hL, e1, e2, ⟨u, hp, hb, hF⟩, hce, hcv, hcl, st⟩
  · cases hv
    obtain ⟨k1, k2, k3⟩ := vx_keep h0 e1 hS hA hf hL hF
    obtain ⟨t2, a1, b1⟩ := kk r u t T'.heap (locs ++ L) e1.symm (by rw [← e2]; exact X'.warmed.alike) hp hb k1 k2 k3 T' rfl X'
    exact ⟨t2, st t2 a1, b1⟩
  · obtain ⟨k1, k2, k3⟩ := vx_keep h0 e1 hS hAX hf hL hF
    obtain ⟨t2, a1, b1⟩ := kx E ce q u t T'.heap (locs ++ L) e1.symm (by rw [← e2]; exact X'.warmed.alike) hp hb k1 k2 k3 (by rw [e1]; exact hce) hcv hcl T' rfl X'
    exact ⟨t2, st.trans a1, b1⟩
theorem vx_calld {S SX : Type} {post : UInt64 → S → Prop} {px : SX → Prop} {B : S → State → Prop} {BX : String → SX → State → Prop} {AX : Nat → Prop} (hr : vx_Run p l e R s m args below meth c H locs cells slots mc ms (F0 m pc ls st0) rest (va_Qd post B A1 a) (vx_X px BX AX) free) (hS : va_S A0 H0 H locs) (hA : ∀ q, q < H.size → A1 q → A0 q) (hf : ∀ q, free q → A0 q) (hAX : ∀ q, q < H.size → AX q → A0 q)
    (kx : ∀ (E : String) (ce : Cell) (q9 : Addr) (u : SX) (t : State) (H1 : Heap) (locs1 : List Loc), t.heap = H1 → s.vm.Alike t.vm → px u → BX E u t → H.size ≤ H1.size → (∀ q : Nat, q < H.size → ¬ AX q → H1[q]? = H[q]?) → va_S A0 H0 H1 locs1 → H1[q9]? = some ce → ce.vm = .none → s.vm.findClass E = some ce.cls → vx_W p l e R s m args below meth c H1 locs1 (cells + mc) (slots + ms) Q (F0 m pc ls rest) q9)
    (kk : ∀ (r : UInt64) (u : S) (t : State) (H1 : Heap) (locs1 : List Loc), t.heap = H1 → s.vm.Alike t.vm → post r u → B u t → H.size ≤ H1.size → (∀ q : Nat, q < H.size → ¬ A1 q → H1[q]? = H[q]?) → va_S A0 H0 H1 locs1 → W p l e R s m args below meth c H1 locs1 (cells + mc) (slots + ms) Q (F0 m (pc + 3) ls (.double r :: rest))) : W p l e R s m args below meth c H locs cells slots Q (F0 m pc ls st0) := by
  intro T hT X
  rcases hr T hT X with ⟨v, st₀, t, T', L, h0, X', hL, e1, e2, ⟨⟨r, u, hv, hp, hb⟩, hF⟩, st⟩ | ⟨q, st₀, t, T', L, E, ce, h0, X', hL, e1, e2, ⟨u, hp, hb, hF⟩, hce, hcv, hcl, st⟩
  · cases hv
    obtain ⟨k1, k2, k3⟩ := vx_keep h0 e1 hS hA hf hL hF
    obtain ⟨t2, a1, b1⟩ := kk r u t T'.heap (locs ++ L) e1.symm (by rw [← e2]; exact X'.warmed.alike) hp hb k1 k2 k3 T' rfl X'
    exact ⟨t2, st t2 a1, b1⟩
  · obtain ⟨k1, k2, k3⟩ := vx_keep h0 e1 hS hAX hf hL hF
    obtain ⟨t2, a1, b1⟩ := kx E ce q u t T'.heap (locs ++ L) e1.symm (by rw [← e2]; exact X'.warmed.alike) hp hb k1 k2 k3 (by rw [e1]; exact hce) hcv hcl T' rfl X'
    exact ⟨t2, st.trans a1, b1⟩
theorem vx_callv {S SX : Type} {post : S → Prop} {px : SX → Prop} {B : S → State → Prop} {BX : String → SX → State → Prop} {AX : Nat → Prop} (hr : vx_Run p l e R s m args below meth c H locs cells slots mc ms (F0 m pc ls st0) rest (va_Qv post B A1 a) (vx_X px BX AX) free) (hS : va_S A0 H0 H locs) (hA : ∀ q, q < H.size → A1 q → A0 q) (hf : ∀ q, free q → A0 q) (hAX : ∀ q, q < H.size → AX q → A0 q)
    (kx : ∀ (E : String) (ce : Cell) (q9 : Addr) (u : SX) (t : State) (H1 : Heap) (locs1 : List Loc), t.heap = H1 → s.vm.Alike t.vm → px u → BX E u t → H.size ≤ H1.size → (∀ q : Nat, q < H.size → ¬ AX q → H1[q]? = H[q]?) → va_S A0 H0 H1 locs1 → H1[q9]? = some ce → ce.vm = .none → s.vm.findClass E = some ce.cls → vx_W p l e R s m args below meth c H1 locs1 (cells + mc) (slots + ms) Q (F0 m pc ls rest) q9)
    (kk : ∀ (u : S) (t : State) (H1 : Heap) (locs1 : List Loc), t.heap = H1 → s.vm.Alike t.vm → post u → B u t → H.size ≤ H1.size → (∀ q : Nat, q < H.size → ¬ A1 q → H1[q]? = H[q]?) → va_S A0 H0 H1 locs1 → W p l e R s m args below meth c H1 locs1 (cells + mc) (slots + ms) Q (F0 m (pc + 3) ls (rest))) : W p l e R s m args below meth c H locs cells slots Q (F0 m pc ls st0) := by
  intro T hT X
  rcases hr T hT X with ⟨v, st₀, t, T', L, h0, X', hL, e1, e2, ⟨⟨u, hv, hp, hb⟩, hF⟩, st⟩ | ⟨q, st₀, t, T', L, E, ce, h0, X', hL, e1, e2, ⟨u, hp, hb, hF⟩, hce, hcv, hcl, st⟩
  · cases hv
    obtain ⟨k1, k2, k3⟩ := vx_keep h0 e1 hS hA hf hL hF
    obtain ⟨t2, a1, b1⟩ := kk u t T'.heap (locs ++ L) e1.symm (by rw [← e2]; exact X'.warmed.alike) hp hb k1 k2 k3 T' rfl X'
    exact ⟨t2, st t2 a1, b1⟩
  · obtain ⟨k1, k2, k3⟩ := vx_keep h0 e1 hS hAX hf hL hF
    obtain ⟨t2, a1, b1⟩ := kx E ce q u t T'.heap (locs ++ L) e1.symm (by rw [← e2]; exact X'.warmed.alike) hp hb k1 k2 k3 (by rw [e1]; exact hce) hcv hcl T' rfl X'
    exact ⟨t2, st.trans a1, b1⟩
/-- caught by the row x of this method's table; the rows ahead don't take it -/
theorem vx_catch {own name : String} {E : String} {ce : Cell} {q : Addr} (hown : s.vm.findClass own = some m.cls) (pre : List ExceptionTableEntry) (x : ExceptionTableEntry) (suf : List ExceptionTableEntry) (hsplit : c.exceptionTable.toList = pre ++ x :: suf)
    (hpass : ∀ z ∈ pre, covers z pc = false ∨ (z.catchType ≠ 0 ∧ ∃ nm : String, (Cond.classLink own z.catchType nm).before args s = true ∧ va_Nc E nm s)) (hx : covers x pc = true) (h0 : x.catchType ≠ 0)
    (hlink : (Cond.classLink own x.catchType name).before args s = true) (hcast : (Cond.castable E name).before args s = true) (hcell : H[q]? = some ce) (hv : ce.vm = .none) (hcl : s.vm.findClass E = some ce.cls)
    (kk : W p l e R s m args below meth c H locs cells slots Q (F0 m x.handlerPc ls [.ref q])) : vx_W p l e R s m args below meth c H locs cells slots Q (F0 m pc ls rest) q := by
  intro T hT X
  have hpl : e.platform.magicAccessors = ({} : Platform).magicAccessors := by rw [X.admits.platform]
  obtain ⟨c3, c4, hc3, hc4, hasg⟩ := Cond.castable_spec hcast
  cases Option.some.inj (hc3.symm.trans hcl)
  obtain ⟨c5, hc5, hcl5⟩ := Cond.classLink_spec hown hlink e.platform hpl
  cases Option.some.inj (hc4.symm.trans hc5)
  obtain ⟨vm', X', st⟩ := X.thenCaughtThrough q (g := F0 m pc ls rest) rfl (Steps.refl _) (by rw [hT]; exact hcell) (by rw [hv]; rfl) (by obtain ⟨k9, h9, -⟩ := Vm.findClass_spec hcl; exact ⟨k9, h9⟩) pre x suf hsplit
    (fun z hz => by
      rcases hpass z hz with h | ⟨hz0, nm, hl1, hn1⟩
      · exact Or.inl h
      · obtain ⟨c6, hc6, hcl6⟩ := Cond.classLink_spec hown hl1 e.platform hpl
        obtain ⟨a8, b8, h1, h2, h3⟩ := hn1
        cases Option.some.inj (h1.symm.trans hcl)
        cases Option.some.inj (h2.symm.trans hc6)
        exact Or.inr ⟨hz0, _, hcl6, h3⟩) hx (Or.inr ⟨h0, c4, hcl5, hasg⟩)
  obtain ⟨t, a1, b1⟩ := kk (T.setVm vm') hT X'
  exact ⟨t, st.trans a1, b1⟩
end Rows
section Ends
variable {p : Program} {l : Launch} {e : Env} {R : Room} {s : State} {m : MethodId} {args : Array Value} {below : List Frame} {meth : Method} {c : Code} {H : Heap} {locs : List Loc} {cells slots : Nat} {Q : State → Prop}
variable {mc ms : Nat} {free : Addr → Prop} {A0 A1 : Nat → Prop} {H0 : Heap} {a : Array Value} {ls : Array Slot} {st0 rest : List Value}
variable {Qc : Array Value → State → Outcome → State → Prop} {XC : String → State → State → Prop}
/-- what a body that may throw owes at its end -/
def vx_MQ (below : List Frame) (Qc : Array Value → State → Outcome → State → Prop) (XC : String → State → State → Prop) (a : Array Value) (s : State) (mc ms : Nat) (free : Addr → Prop) : State → Prop := fun t =>
  ∃ o, t.status = .running ∧ Ended t below o ∧ vx_Q Qc XC mc ms free a s o t
theorem vx_ret {g : JFrame} {mc ms : Nat} (k : W p l e R s m args below meth c H locs cells slots (MQ below Qc args s mc ms free) g) : W p l e R s m args below meth c H locs cells slots (vx_MQ below Qc XC args s mc ms free) g := by
  intro T hT X
  obtain ⟨t, a1, o, b1, b2, b3, b4⟩ := k T hT X
  exact ⟨t, a1, o, b1, b2, Or.inl ⟨b3, b4⟩⟩
/-- not caught here: it goes on to the caller -/
theorem vx_widen {g : JFrame} {q : Addr} {k n : Nat} (h1 : cells ≤ k) (h2 : slots ≤ n) (kk : vx_W p l e R s m args below meth c H locs k n Q g q) : vx_W p l e R s m args below meth c H locs cells slots Q g q := fun T hT X => kk T hT (stand_widen X h1 h2)
theorem vx_out {pc : Nat} {E : String} {ce : Cell} {q : Addr} {mc ms : Nat} (hout : ∀ x ∈ c.exceptionTable.toList, covers x pc = false) (hlocks : meth.locks = false) (hcell : H[q]? = some ce) (hv : ce.vm = .none) (hcl : s.vm.findClass E = some ce.cls)
    (hx : ∀ t : State, t.heap = H → s.vm.Alike t.vm → XC E s t) (hf : ∀ z ∈ locs, free z.base) (hc : cells ≤ mc) (hs : slots ≤ ms) :
    vx_W p l e R s m args below meth c H locs cells slots (vx_MQ below Qc XC args s mc ms free) (F0 m pc ls rest) q := by
  intro T hT X
  obtain ⟨st1, hrun, hend, hW, hsm⟩ := X.leaveThrown q (g := F0 m pc ls rest) rfl rfl rfl hout hlocks
  have hcell9 : (T.setFrames (.throwing q :: below)).heap[q]? = some ce := by
    show T.heap[q]? = some ce
    rw [hT]; exact hcell
  exact ⟨_, st1, .threw q, hrun, hend, Or.inr ⟨q, rfl, E, ce, locs, hx _ hT hW.alike, hcell9, hv, hcl, hW, hsm.mono hc hs, hf⟩⟩
theorem vx_frame {U : State} {k n : Nat} (h : s.sameButNew ({ U with vm := s.vm } : State) locs k n) : s.heap.size ≤ U.heap.size ∧ ∀ q : Nat, q < s.heap.size → (∀ z ∈ locs, z.base ≠ q) → U.heap[q]? = s.heap[q]? := by
  obtain ⟨-, h2, -, -, -, h6⟩ := h
  refine ⟨h2, fun q hq hz => ?_⟩
  obtain ⟨c9, e1, e2, e3, e4⟩ := h6 q _ (Array.getElem?_eq_getElem hq)
  have hs : c9.slots = (s.heap[q]).slots := Array.ext_getElem? fun i => e4 i fun hm => hz _ hm rfl
  have h9 : c9 = s.heap[q] := by
    rw [hs] at e2
    exact e2
  have e5 : U.heap[q]? = some c9 := e1
  rw [e5, h9, Array.getElem?_eq_getElem hq]
/-- the words of a throw but the four that speak of the heap -/
def vx_no (w : Cond) : Bool := decide (w ≠ .isRef (.static Bundle.tN "UNASSIGNED_STACK" Bundle.steD)) && decide (w ≠ .isRef (.static Bundle.tN "SUPPRESSED_SENTINEL" Bundle.listD)) && decide (w ≠ .laysStatic Bundle.tN "UNASSIGNED_STACK" Bundle.steD) && decide (w ≠ .laysStatic Bundle.tN "SUPPRESSED_SENTINEL" Bundle.listD)
def vx_at0 (own : String) (ic : Nat) (X : String) (names : List String) : List Cond := (Bundle.ownAtoms0 own ic X names).filter vx_no
def vx_atS (own : String) (ic : Nat) (X : String) (names : List String) : List Cond := (Bundle.ownAtoms own ic X names).filter vx_no
/-- a word that the tables alone decide, or a good one -/
def vx_ot (w : Cond) : Bool := w.onTables || goodWord w
theorem vx_ot_at {args a' : Array Value} {s U : State} {w : Cond} (hW : s.WarmedH U.vm) (hvm : s.vm = U.vm) (hg : vx_ot w = true) (h : w.before args s = true) : w.before a' U = true := by
  simp only [vx_ot, Bool.or_eq_true] at hg
  rcases hg with hg | hg
  · exact va_tabs hg hvm h
  · exact word_at hW (good_of_word hg) h
/-- a list's words: the good ones out of the method's own list, the others by premises of their own -/
theorem vx_hat {args : Array Value} {s : State} {L B : List Cond} (h1 : ∀ w ∈ L.filter goodWord, w.before args s = true) (h2 : ∀ w ∈ L.filter (fun w => !goodWord w), w ∈ B) (h3 : ∀ w ∈ B, w.before args s = true) : ∀ w ∈ L, w.before args s = true := by
  intro w hw
  by_cases g : goodWord w = true
  · exact h1 w (List.mem_filter.mpr ⟨hw, g⟩)
  · refine h3 w (h2 w (List.mem_filter.mpr ⟨hw, ?_⟩))
    show (!goodWord w) = true
    cases hgw : goodWord w
    · rfl
    · exact absurd hgw g
theorem vx_c {args : Array Value} {s : State} {w : Cond} {B : List Cond} (h : w.before args s = true) (t : ∀ w ∈ B, w.before args s = true) : ∀ w' ∈ w :: B, w'.before args s = true := fun w' h' => (List.mem_cons.mp h').elim (fun e => by rw [e]; exact h) (t w')
theorem vx_n {args : Array Value} {s : State} : ∀ w ∈ ([] : List Cond), w.before args s = true := fun _ h => nomatch h
theorem vx_own {args : Array Value} {s : State} {L : List Cond} (h1 : ∀ w ∈ L.filter vx_no, w.before args s = true)
    (hU : (Cond.isRef (.static Bundle.tN "UNASSIGNED_STACK" Bundle.steD)).before args s = true) (hN : (Cond.isRef (.static Bundle.tN "SUPPRESSED_SENTINEL" Bundle.listD)).before args s = true)
    (lU : (Cond.laysStatic Bundle.tN "UNASSIGNED_STACK" Bundle.steD).before args s = true) (lN : (Cond.laysStatic Bundle.tN "SUPPRESSED_SENTINEL" Bundle.listD).before args s = true) : ∀ w ∈ L, w.before args s = true := by
  intro w hw
  by_cases e1 : w = .isRef (.static Bundle.tN "UNASSIGNED_STACK" Bundle.steD)
  · rw [e1]; exact hU
  · by_cases e2 : w = .isRef (.static Bundle.tN "SUPPRESSED_SENTINEL" Bundle.listD)
    · rw [e2]; exact hN
    · by_cases e3 : w = .laysStatic Bundle.tN "UNASSIGNED_STACK" Bundle.steD
      · rw [e3]; exact lU
      · by_cases e4 : w = .laysStatic Bundle.tN "SUPPRESSED_SENTINEL" Bundle.listD
        · rw [e4]; exact lN
        · exact h1 w (List.mem_filter.mpr ⟨hw, by unfold vx_no; rw [decide_eq_true e1, decide_eq_true e2, decide_eq_true e3, decide_eq_true e4]; rfl⟩)
/-- where a static field lies, its class's statics cell in H -/
def vx_L (C n d : String) (A : Nat → Prop) (U : State) (H : Heap) : Prop := ∃ (c : ClassId) (k : Class) (i : Nat) (f : Field) (a : Nat) (cell : Cell), U.vm.findClass C = some c ∧ U.fieldFound? C n d = some (c, k, i, f) ∧ f.isStatic = true ∧ k.statics = some a ∧ H[a]? = some cell ∧ cell.vm.isStatics = true ∧ cell.cls = c ∧ f.slot < cell.slots.size ∧ k.staticTypes[f.slot]? = some f.type ∧ ¬ A a
theorem vx_L.moved {C n d : String} {A : Nat → Prop} {u U : State} {H : Heap} (hvm : u.vm.Alike U.vm) (h : vx_L C n d A u H) : vx_L C n d A U H := by
  obtain ⟨c, k, i, f, a, cell, h1, h2, h3, h4, h5, h6, h7, h8, h9, h10⟩ := h
  obtain ⟨k', hi', he⟩ := State.fieldFound?_setVm hvm h2
  exact ⟨c, k', i, f, a, cell, by rw [hvm.findClass]; exact h1, hi', h3, by rw [he]; exact h4, h5, h6, h7, h8, by rw [he]; exact h9, h10⟩
theorem vx_L.kept {C n d : String} {A : Nat → Prop} {U : State} {H H1 : Heap} (h : vx_L C n d A U H) (hq : ∀ a : Nat, a < H.size → ¬ A a → H1[a]? = H[a]?) : vx_L C n d A U H1 := by
  obtain ⟨c, k, i, f, a, cell, h1, h2, h3, h4, h5, h6, h7, h8, h9, h10⟩ := h
  exact ⟨c, k, i, f, a, cell, h1, h2, h3, h4, by rw [hq a (Array.getElem?_eq_some_iff.mp h5).1 h10]; exact h5, h6, h7, h8, h9, h10⟩
theorem vx_L.narrow {C n d : String} {A B : Nat → Prop} {U : State} {H : Heap} (h : vx_L C n d A U H) (hAB : ∀ q, B q → A q) : vx_L C n d B U H := by
  obtain ⟨c, k, i, f, a, cell, h1, h2, h3, h4, h5, h6, h7, h8, h9, h10⟩ := h
  exact ⟨c, k, i, f, a, cell, h1, h2, h3, h4, h5, h6, h7, h8, h9, fun z => h10 (hAB _ z)⟩
theorem vx_L.word {C n d : String} {A : Nat → Prop} {s : State} {args : Array Value} (h : vx_L C n d A s s.heap) : (Cond.laysStatic C n d).before args s = true := by
  obtain ⟨c, k, i, f, a, cell, h1, h2, h3, h4, h5, h6, h7, h8, h9, -⟩ := h
  show (Cond.laysStatic C n d).holds args s none s [] = true
  exact Cond.laysStatic_of h1 h2 h3 h4 h5 h6 h7 h8 h9
/-- .. and what it holds: null or some reference -/
def vx_Zq (C n d : String) (A : Nat → Prop) (U : State) (H : Heap) : Prop := va_Zq C n d A U H ∧ vx_L C n d A U H
theorem vx_Zq.moved {C n d : String} {A : Nat → Prop} {u U : State} {H : Heap} (hvm : u.vm.Alike U.vm) (h : vx_Zq C n d A u H) : vx_Zq C n d A U H := ⟨va_Zq.moved hvm h.1, vx_L.moved hvm h.2⟩
theorem vx_Zq.kept {C n d : String} {A : Nat → Prop} {U : State} {H H1 : Heap} (h : vx_Zq C n d A U H) (hq : ∀ a : Nat, a < H.size → ¬ A a → H1[a]? = H[a]?) : vx_Zq C n d A U H1 := ⟨va_Zq.kept h.1 hq, vx_L.kept h.2 hq⟩
theorem vx_Zq.narrow {C n d : String} {A B : Nat → Prop} {U : State} {H : Heap} (h : vx_Zq C n d A U H) (hAB : ∀ q, B q → A q) : vx_Zq C n d B U H := ⟨va_Zq.narrow h.1 hAB, vx_L.narrow h.2 hAB⟩
theorem vx_Zqof {args : Array Value} {s : State} {C n d : String} {A : Nat → Prop} (hl : (Cond.laysStatic C n d).before args s = true) (hini : (Cond.initialized C).before args s = true) (h : (Cond.isRef (.static C n d)).before args s = true) (hA : ∀ a : Nat, a < s.heap.size → ¬ A a) : vx_Zq C n d A s s.heap := by
  refine ⟨va_Zqof hl hini h hA, ?_⟩
  obtain ⟨c, k, i, f, a, cell, h1, h2, h3, h4, h5, h6, h7, h8, h9⟩ := Cond.laysStatic_spec hl
  exact ⟨c, k, i, f, a, cell, h1, h2, h3, h4, h5, h6, h7, h8, h9, hA a (Array.getElem?_eq_some_iff.mp h5).1⟩
theorem vx_isRef {C n d : String} {v : Value} {A : Nat → Prop} {s : State} {args : Array Value} (h : va_Z C n d v A s s.heap) (hv : v.isRef = true) : (Cond.isRef (.static C n d)).before args s = true := by
  obtain ⟨cf, kf, fi, f, a, cell, h1, h2, h3, h4, h5, h6, h7, -⟩ := h
  have he : (Term.static C n d).eval args s none [] s = some v := by
    simp [Term.eval, State.fieldNamed?, h1, h2, h4, h5, h6, h7]
  simp only [Cond.before, Cond.holds, Cond.value, he]
  cases v <;> simp_all [Value.isRef]
theorem vx_isRefq {C n d : String} {A : Nat → Prop} {s : State} {args : Array Value} (h : va_Zq C n d A s s.heap) : (Cond.isRef (.static C n d)).before args s = true := by
  rcases h with h | ⟨t, h⟩
  · exact vx_isRef h rfl
  · exact vx_isRef h rfl
/-- the same frame, seen from here: as if the method were called anew in this heap -/
theorem vx_rebase {T : State} (X : Stand p l e R s m args below meth c T locs cells slots) {R' : Room} (hf : R'.frames ≤ R.frames) (hl : R'.locals ≤ R.locals) (hc : cells + R'.cells ≤ R.cells) (hs : slots + R'.slots ≤ R.slots) :
    Stand p l e R' ((T.setVm s.vm).setFrames (.invoking m args :: below)) m args below meth c T [] 0 0 := by
  have htop : (T.setVm s.vm).topJava?.isSome := X.here.top
  have hF : ((T.setVm s.vm).setFrames (.invoking m args :: below)).frames = .invoking m args :: below := State.frames_setFrames _ (State.cur_lt_of_top htop)
  obtain ⟨g₀, hg0⟩ := Option.isSome_iff_exists.mp htop
  obtain ⟨r, hr⟩ := State.topJava?_eq_some.mp hg0
  have hl9 : e.platform.stackLimits (T.setVm s.vm).me = e.platform.stackLimits s.me := X.limits
  have hb9 : (T.setVm s.vm).me.stackBytes = s.me.stackBytes := X.bytes
  refine ⟨X.admits, X.cas, X.clock, hF, ?_, X.hears, X.method, X.code, X.here, X.tail, X.warmed, ?_, ?_, ?_⟩
  · have h := X.room
    have hU : ((T.setVm s.vm).setFrames (.invoking m args :: below)).localsInUse = s.localsInUse := by
      rw [State.localsInUse_invoking hF (meth := meth) (c := c) X.method X.code, State.localsInUse_invoking X.frames X.method X.code]
    simp only [State.hasRoom, Bool.and_eq_true, decide_eq_true_eq] at h ⊢
    obtain ⟨⟨⟨⟨h1, h2, h3, h4, h5, h6⟩, h7⟩, h8⟩, h9⟩ := h
    rw [X.frames, List.length_cons] at h2 h3
    have q1 := X.heapSize
    have q2 := X.used
    simp only [hF, hU, List.length_cons, State.stackLimits_setFrames, State.stackBytes_setFrames, hl9, hb9]
    refine ⟨⟨⟨⟨by omega, by omega, by omega, by omega, by omega, h6⟩, ?_⟩, ?_⟩, X.book⟩
    · show T.heap.size + R'.cells ≤ e.platform.maxCells
      omega
    · show T.slotsUsed + R'.slots ≤ e.platform.maxSlots
      omega
  · rw [State.stackLimits_setFrames]; rfl
  · rw [State.stackBytes_setFrames]; rfl
  · refine ⟨?_, Nat.le_refl _, Nat.le_refl _, ?_, ?_, fun a c9 h9 => ⟨c9, h9, rfl, rfl, fun _ _ => rfl⟩⟩
    · obtain ⟨t, ht, -⟩ := State.frames_cons hr
      show T.setVm s.vm = { ((T.setVm s.vm).setFrames (.invoking m args :: below)).setFrames (T.setVm s.vm).frames with heap := T.heap, slotsUsed := T.slotsUsed }
      rw [State.setFrames_setFrames, State.setFrames_self ht]
      rfl
    · show T.slotsUsed = T.slotsUsed + ((T.heap.toList.drop T.heap.size).map (·.slots.size)).sum
      rw [List.drop_eq_nil_of_le (Nat.le_of_eq Array.length_toList)]
      rfl
    · show ((T.heap.toList.drop T.heap.size).map (·.slots.size)).sum ≤ 0
      rw [List.drop_eq_nil_of_le (Nat.le_of_eq Array.length_toList)]
      exact Nat.le_refl _
/-- 'throw new E()': new; dup; invokespecial; athrow -/
theorem vx_throw0 {cc : ByteArray} {pc : Nat} (hexec : p.tables.exec = Jvm.exec) (hb : c.code = cc) (hl : l.stackTraces = false) {own cls : String} {names : List String} {ik ic mc ms : Nat} {A : Nat → Prop}
    (hown : s.vm.findClass own = some m.cls) (hcls : Bundle.fit cls = true) (hnames : ∀ n ∈ names, Bundle.fit n = true)
    (hk : (Cond.classLink own ik cls).before args s = true) (hini : (Cond.initialized cls).before args s = true) (hat : ∀ w ∈ vx_at0 own ic cls names, w.before args s = true)
    (hgood : ∀ w ∈ Cond.classLink own ik cls :: Cond.initialized cls :: vx_at0 own ic cls names, vx_ot w = true)
    (hU : vx_Zq Bundle.tN "UNASSIGNED_STACK" Bundle.steD A s s.heap) (hN : vx_Zq Bundle.tN "SUPPRESSED_SENTINEL" Bundle.listD A s s.heap) (hS : va_S A s.heap H locs) (hsize : ls.size = c.maxLocals)
    (d0 : decode cc pc = .ok (.new ik, 3)) (d3 : decode cc (pc + 3) = .ok (.dup, 1)) (d4 : decode cc (pc + 4) = .ok (.invokespecial ic, 3)) (d7 : decode cc (pc + 7) = .ok (.athrow, 1))
    (hout : ∀ x ∈ c.exceptionTable.toList, covers x (pc + 7) = false)
    (hRframes : names.length + 3 < R.frames) (hRlocals : (rest.map fun v => v.category).sum + (13 * (names.length + 1) + 42) ≤ R.locals) (hRcells : cells + 1 ≤ R.cells) (hRslots : slots + 6 ≤ R.slots) (hlocks : meth.locks = false)
    (hx : ∀ t : State, s.vm.Alike t.vm → H.size ≤ t.heap.size → (∀ q : Nat, q < H.size → t.heap[q]? = H[q]?) → XC cls s t)
    (hf : ∀ z ∈ locs, free z.base) (hc : cells + 1 ≤ mc) (hs : slots + 6 ≤ ms) :
    W p l e R s m args below meth c H locs cells slots (vx_MQ below Qc XC args s mc ms free) (F0 m pc ls rest) := by
  intro T hT X
  have htr : e.platform.stackTraces = false := (show e.platform.stackTraces = l.stackTraces by rw [X.admits.platform]).trans hl
  have Y := vx_rebase X (R' := { frames := R.frames, locals := R.locals, cells := 1, slots := 6 }) (Nat.le_refl _) (Nat.le_refl _) hRcells hRslots
  obtain ⟨s', hA⟩ : ∃ z, z = (T.setVm s.vm).setFrames (.invoking m args :: below) := ⟨_, rfl⟩
  rw [← hA] at Y
  have hvm : s'.vm = s.vm := by rw [hA]; rfl
  have hhp : s'.heap = H := by rw [hA]; exact hT
  have hW0 : s.WarmedH s'.vm := by rw [hvm]; exact State.WarmedH.refl s
  have hat' : ∀ w ∈ vx_at0 own ic cls names, w.before args s' = true := fun w hw => vx_ot_at hW0 hvm.symm (hgood w (List.mem_cons_of_mem _ (List.mem_cons_of_mem _ hw))) (hat w hw)
  have hk' : (Cond.classLink own ik cls).before args s' = true := vx_ot_at hW0 hvm.symm (hgood _ List.mem_cons_self) hk
  have hini' : (Cond.initialized cls).before args s' = true := vx_ot_at hW0 hvm.symm (hgood _ (List.mem_cons_of_mem _ List.mem_cons_self)) hini
  have hU' : vx_Zq Bundle.tN "UNASSIGNED_STACK" Bundle.steD A s' s'.heap := by rw [hhp]; exact vx_Zq.moved hW0.alike (hU.kept hS.2.1)
  have hN' : vx_Zq Bundle.tN "SUPPRESSED_SENTINEL" Bundle.listD A s' s'.heap := by rw [hhp]; exact vx_Zq.moved hW0.alike (hN.kept hS.2.1)
  have h : ∀ w ∈ Bundle.ownAtoms0 own ic cls names, w.before args s' = true := vx_own hat' (vx_isRefq hU'.1) (vx_isRefq hN'.1) hU'.2.word hN'.2.word
  have hown' : s'.vm.findClass own = some m.cls := by rw [hvm]; exact hown
  have hins : (Cond.instantiable cls 6).before args s' = true := h _ (by simp [Bundle.ownAtoms0])
  obtain ⟨vm₁, cX, kX, hfX, hkX, -, -, X₁, st1⟩ := Y.newCold hexec (own := own) (C := cls) (index := ik) (n := 6) hown' hk' hins hini'
    (g := F0 m pc ls rest) rfl (by rw [hb]; exact d0) (Nat.le_refl _) (Nat.le_refl _)
  generalize hT1 : (T.setVm vm₁).pushCell { cls := cX, slots := kX.instanceTypes.map defaultValue, vm := .none } = T1 at X₁ st1
  have hcat : (Value.ref T.heap.size).category = 1 := rfl
  have hcellA : T1.heap[T.heap.size]? = some (freshCell cX kX) := by rw [← hT1]; exact State.heap_pushCell_size _ _
  have d3' : decode c.code (pc + 3) = .ok (.dup, 1) := by rw [hb]; exact d3
  obtain ⟨U, hsteps, hrun, hend, hW, hsame, ce, hce, hO⟩ := X₁.ctorThrow0 hexec htr (own := own) (cls := cls) (names := names) (ic := ic) hown' hcls hnames h (fun x hx => nomatch hx) hfX hkX hcellA (by rw [hhp, hT]; exact Nat.le_refl _)
    (g := { method := m, pc := pc + 4, locals := ls, stack := .ref T.heap.size :: .ref T.heap.size :: rest, locked := none }) rfl hsize rfl rfl (rest := rest) rfl
    (by rw [hb]; exact d4) (by rw [hb]; exact d7) hout hRframes (by simp only [List.map_cons, List.sum_cons, hcat]; omega) hlocks
  obtain ⟨f1, f2⟩ := vx_frame hsame
  rw [hhp] at f1 f2
  have hWs : s.WarmedH U.vm := State.WarmedH.trans hW0 hW
  have hcl : s.vm.findClass cls = some ce.cls := by
    have h9 := hO.cls
    rw [hvm] at h9
    exact h9
  have hall : s.sameButNew ({ U with vm := s.vm } : State) locs mc ms := by
    subst hA
    obtain ⟨e1, e2⟩ := hsame
    rw [State.setFrames_setFrames] at e1
    have h2 : (T.setVm s.vm).sameButNew ({ U with vm := s.vm } : State) [] (0 + 1) (0 + 6) := ⟨e1, e2⟩
    have h3 := X.same.trans h2
    rw [List.append_nil] at h3
    exact h3.mono hc hs
  refine ⟨U, ?_, .threw T.heap.size, hrun, hend, Or.inr ⟨T.heap.size, rfl, cls, ce, locs, hx U hWs.alike f1 (fun q hq => f2 q hq (fun z hz => nomatch hz)), hce, hO.vm, hcl, hWs, hall, hf⟩⟩
  refine st1 _ ?_
  show Steps p.tables e below (T1.setTop { method := m, pc := pc + 3, locals := ls, stack := .ref T.heap.size :: rest, locked := none }) _
  jvm_step X₁.here [X₁.here.top, hexec, d3', Value.category]
  exact hsteps
/-- 'throw new E("text")': new; dup; ldc; invokespecial; athrow -/
theorem vx_throwS {cc : ByteArray} {pc : Nat} (hexec : p.tables.exec = Jvm.exec) (hb : c.code = cc) (hl : l.stackTraces = false) {own cls text : String} {names : List String} {ik is ic mc ms sa : Nat} {A : Nat → Prop}
    (hown : s.vm.findClass own = some m.cls) (hcls : Bundle.fit cls = true) (hnames : ∀ n ∈ names, Bundle.fit n = true)
    (hk : (Cond.classLink own ik cls).before args s = true) (hini : (Cond.initialized cls).before args s = true) (hstr : vk_R own is text sa s) (hat : ∀ w ∈ vx_atS own ic cls names, w.before args s = true)
    (hgood : ∀ w ∈ Cond.classLink own ik cls :: Cond.initialized cls :: vx_atS own ic cls names, vx_ot w = true)
    (hU : vx_Zq Bundle.tN "UNASSIGNED_STACK" Bundle.steD A s s.heap) (hN : vx_Zq Bundle.tN "SUPPRESSED_SENTINEL" Bundle.listD A s s.heap) (hS : va_S A s.heap H locs) (hsize : ls.size = c.maxLocals)
    (d0 : decode cc pc = .ok (.new ik, 3)) (d3 : decode cc (pc + 3) = .ok (.dup, 1)) (d4 : decode cc (pc + 4) = .ok (.ldc is, 2)) (d6 : decode cc (pc + 6) = .ok (.invokespecial ic, 3)) (d9 : decode cc (pc + 9) = .ok (.athrow, 1))
    (hout : ∀ x ∈ c.exceptionTable.toList, covers x (pc + 9) = false)
    (hRframes : names.length + 3 < R.frames) (hRlocals : (rest.map fun v => v.category).sum + (13 * (names.length + 1) + 43) ≤ R.locals) (hRcells : cells + 1 ≤ R.cells) (hRslots : slots + 6 ≤ R.slots) (hlocks : meth.locks = false)
    (hx : ∀ t : State, s.vm.Alike t.vm → H.size ≤ t.heap.size → (∀ q : Nat, q < H.size → t.heap[q]? = H[q]?) → XC cls s t)
    (hf : ∀ z ∈ locs, free z.base) (hc : cells + 1 ≤ mc) (hs : slots + 6 ≤ ms) :
    W p l e R s m args below meth c H locs cells slots (vx_MQ below Qc XC args s mc ms free) (F0 m pc ls rest) := by
  intro T hT X
  have htr : e.platform.stackTraces = false := (show e.platform.stackTraces = l.stackTraces by rw [X.admits.platform]).trans hl
  have Y := vx_rebase X (R' := { frames := R.frames, locals := R.locals, cells := 1, slots := 6 }) (Nat.le_refl _) (Nat.le_refl _) hRcells hRslots
  obtain ⟨s', hA⟩ : ∃ z, z = (T.setVm s.vm).setFrames (.invoking m args :: below) := ⟨_, rfl⟩
  rw [← hA] at Y
  have hvm : s'.vm = s.vm := by rw [hA]; rfl
  have hhp : s'.heap = H := by rw [hA]; exact hT
  have hW0 : s.WarmedH s'.vm := by rw [hvm]; exact State.WarmedH.refl s
  have hat' : ∀ w ∈ vx_atS own ic cls names, w.before args s' = true := fun w hw => vx_ot_at hW0 hvm.symm (hgood w (List.mem_cons_of_mem _ (List.mem_cons_of_mem _ hw))) (hat w hw)
  have hk' : (Cond.classLink own ik cls).before args s' = true := vx_ot_at hW0 hvm.symm (hgood _ List.mem_cons_self) hk
  have hini' : (Cond.initialized cls).before args s' = true := vx_ot_at hW0 hvm.symm (hgood _ (List.mem_cons_of_mem _ List.mem_cons_self)) hini
  have hU' : vx_Zq Bundle.tN "UNASSIGNED_STACK" Bundle.steD A s' s'.heap := by rw [hhp]; exact vx_Zq.moved hW0.alike (hU.kept hS.2.1)
  have hN' : vx_Zq Bundle.tN "SUPPRESSED_SENTINEL" Bundle.listD A s' s'.heap := by rw [hhp]; exact vx_Zq.moved hW0.alike (hN.kept hS.2.1)
  have h : ∀ w ∈ Bundle.ownAtoms own ic cls names, w.before args s' = true := vx_own hat' (vx_isRefq hU'.1) (vx_isRefq hN'.1) hU'.2.word hN'.2.word
  have hown' : s'.vm.findClass own = some m.cls := by rw [hvm]; exact hown
  have hins : (Cond.instantiable cls 6).before args s' = true := h _ (by simp [Bundle.ownAtoms])
  obtain ⟨vm₁, cX, kX, hfX, hkX, -, -, X₁, st1⟩ := Y.newCold hexec (own := own) (C := cls) (index := ik) (n := 6) hown' hk' hins hini'
    (g := F0 m pc ls rest) rfl (by rw [hb]; exact d0) (Nat.le_refl _) (Nat.le_refl _)
  generalize hT1 : (T.setVm vm₁).pushCell { cls := cX, slots := kX.instanceTypes.map defaultValue, vm := .none } = T1 at X₁ st1
  have hcat : (Value.ref T.heap.size).category = 1 := rfl
  have hcellA : T1.heap[T.heap.size]? = some (freshCell cX kX) := by rw [← hT1]; exact State.heap_pushCell_size _ _
  have d3' : decode c.code (pc + 3) = .ok (.dup, 1) := by rw [hb]; exact d3
  have d4' : decode c.code (pc + 4) = .ok (.ldc is, 2) := by rw [hb]; exact d4
  have hstr' : vk_R own is text sa s' := vk_R.warm hW0 hstr
  obtain ⟨U, hsteps, hrun, hend, hW, hsame, ce, hce, hO⟩ := X₁.ctorThrowS hexec htr (own := own) (cls := cls) (names := names) (ic := ic) hown' hcls hnames h (fun x hx => nomatch hx) hfX hkX hcellA (by rw [hhp, hT]; exact Nat.le_refl _) (msg := .ref sa) rfl
    (g := { method := m, pc := pc + 6, locals := ls, stack := .ref sa :: .ref T.heap.size :: .ref T.heap.size :: rest, locked := none }) rfl hsize rfl rfl (rest := rest) rfl
    (by rw [hb]; exact d6) (by rw [hb]; exact d9) hout hRframes (by simp only [List.map_cons, List.sum_cons, hcat]; omega) hlocks
  obtain ⟨f1, f2⟩ := vx_frame hsame
  rw [hhp] at f1 f2
  have hWs : s.WarmedH U.vm := State.WarmedH.trans hW0 hW
  have hcl : s.vm.findClass cls = some ce.cls := by
    have h9 := hO.cls
    rw [hvm] at h9
    exact h9
  have hall : s.sameButNew ({ U with vm := s.vm } : State) locs mc ms := by
    subst hA
    obtain ⟨e1, e2⟩ := hsame
    rw [State.setFrames_setFrames] at e1
    have h2 : (T.setVm s.vm).sameButNew ({ U with vm := s.vm } : State) [] (0 + 1) (0 + 6) := ⟨e1, e2⟩
    have h3 := X.same.trans h2
    rw [List.append_nil] at h3
    exact h3.mono hc hs
  refine ⟨U, ?_, .threw T.heap.size, hrun, hend, Or.inr ⟨T.heap.size, rfl, cls, ce, locs, hx U hWs.alike f1 (fun q hq => f2 q hq (fun z hz => nomatch hz)), hce, hO.vm, hcl, hWs, hall, hf⟩⟩
  refine st1 _ ?_
  show Steps p.tables e below (T1.setTop { method := m, pc := pc + 3, locals := ls, stack := .ref T.heap.size :: rest, locked := none }) _
  jvm_step X₁.here [X₁.here.top, hexec, d3', Value.category]
  exact X₁.ldcString hexec (own := own) (text := text) (index := is) (a := sa) hown' hstr'.1 hstr'.2
    (g := { method := m, pc := pc + 4, locals := ls, stack := .ref T.heap.size :: .ref T.heap.size :: rest, locked := none }) rfl d4' _ hsteps
/-- 'throw new E("text")', the text by a wide index -/
theorem vx_throwSW {cc : ByteArray} {pc : Nat} (hexec : p.tables.exec = Jvm.exec) (hb : c.code = cc) (hl : l.stackTraces = false) {own cls text : String} {names : List String} {ik is ic mc ms sa : Nat} {A : Nat → Prop}
    (hown : s.vm.findClass own = some m.cls) (hcls : Bundle.fit cls = true) (hnames : ∀ n ∈ names, Bundle.fit n = true)
    (hk : (Cond.classLink own ik cls).before args s = true) (hini : (Cond.initialized cls).before args s = true) (hstr : vk_R own is text sa s) (hat : ∀ w ∈ vx_atS own ic cls names, w.before args s = true)
    (hgood : ∀ w ∈ Cond.classLink own ik cls :: Cond.initialized cls :: vx_atS own ic cls names, vx_ot w = true)
    (hU : vx_Zq Bundle.tN "UNASSIGNED_STACK" Bundle.steD A s s.heap) (hN : vx_Zq Bundle.tN "SUPPRESSED_SENTINEL" Bundle.listD A s s.heap) (hS : va_S A s.heap H locs) (hsize : ls.size = c.maxLocals)
    (d0 : decode cc pc = .ok (.new ik, 3)) (d3 : decode cc (pc + 3) = .ok (.dup, 1)) (d4 : decode cc (pc + 4) = .ok (.ldc_w is, 3)) (d7 : decode cc (pc + 7) = .ok (.invokespecial ic, 3)) (d10 : decode cc (pc + 10) = .ok (.athrow, 1))
    (hout : ∀ x ∈ c.exceptionTable.toList, covers x (pc + 10) = false)
    (hRframes : names.length + 3 < R.frames) (hRlocals : (rest.map fun v => v.category).sum + (13 * (names.length + 1) + 43) ≤ R.locals) (hRcells : cells + 1 ≤ R.cells) (hRslots : slots + 6 ≤ R.slots) (hlocks : meth.locks = false)
    (hx : ∀ t : State, s.vm.Alike t.vm → H.size ≤ t.heap.size → (∀ q : Nat, q < H.size → t.heap[q]? = H[q]?) → XC cls s t)
    (hf : ∀ z ∈ locs, free z.base) (hc : cells + 1 ≤ mc) (hs : slots + 6 ≤ ms) :
    W p l e R s m args below meth c H locs cells slots (vx_MQ below Qc XC args s mc ms free) (F0 m pc ls rest) := by
  intro T hT X
  have htr : e.platform.stackTraces = false := (show e.platform.stackTraces = l.stackTraces by rw [X.admits.platform]).trans hl
  have Y := vx_rebase X (R' := { frames := R.frames, locals := R.locals, cells := 1, slots := 6 }) (Nat.le_refl _) (Nat.le_refl _) hRcells hRslots
  obtain ⟨s', hA⟩ : ∃ z, z = (T.setVm s.vm).setFrames (.invoking m args :: below) := ⟨_, rfl⟩
  rw [← hA] at Y
  have hvm : s'.vm = s.vm := by rw [hA]; rfl
  have hhp : s'.heap = H := by rw [hA]; exact hT
  have hW0 : s.WarmedH s'.vm := by rw [hvm]; exact State.WarmedH.refl s
  have hat' : ∀ w ∈ vx_atS own ic cls names, w.before args s' = true := fun w hw => vx_ot_at hW0 hvm.symm (hgood w (List.mem_cons_of_mem _ (List.mem_cons_of_mem _ hw))) (hat w hw)
  have hk' : (Cond.classLink own ik cls).before args s' = true := vx_ot_at hW0 hvm.symm (hgood _ List.mem_cons_self) hk
  have hini' : (Cond.initialized cls).before args s' = true := vx_ot_at hW0 hvm.symm (hgood _ (List.mem_cons_of_mem _ List.mem_cons_self)) hini
  have hU' : vx_Zq Bundle.tN "UNASSIGNED_STACK" Bundle.steD A s' s'.heap := by rw [hhp]; exact vx_Zq.moved hW0.alike (hU.kept hS.2.1)
  have hN' : vx_Zq Bundle.tN "SUPPRESSED_SENTINEL" Bundle.listD A s' s'.heap := by rw [hhp]; exact vx_Zq.moved hW0.alike (hN.kept hS.2.1)
  have h : ∀ w ∈ Bundle.ownAtoms own ic cls names, w.before args s' = true := vx_own hat' (vx_isRefq hU'.1) (vx_isRefq hN'.1) hU'.2.word hN'.2.word
  have hown' : s'.vm.findClass own = some m.cls := by rw [hvm]; exact hown
  have hins : (Cond.instantiable cls 6).before args s' = true := h _ (by simp [Bundle.ownAtoms])
  obtain ⟨vm₁, cX, kX, hfX, hkX, -, -, X₁, st1⟩ := Y.newCold hexec (own := own) (C := cls) (index := ik) (n := 6) hown' hk' hins hini'
    (g := F0 m pc ls rest) rfl (by rw [hb]; exact d0) (Nat.le_refl _) (Nat.le_refl _)
  generalize hT1 : (T.setVm vm₁).pushCell { cls := cX, slots := kX.instanceTypes.map defaultValue, vm := .none } = T1 at X₁ st1
  have hcat : (Value.ref T.heap.size).category = 1 := rfl
  have hcellA : T1.heap[T.heap.size]? = some (freshCell cX kX) := by rw [← hT1]; exact State.heap_pushCell_size _ _
  have d3' : decode c.code (pc + 3) = .ok (.dup, 1) := by rw [hb]; exact d3
  have d4' : decode c.code (pc + 4) = .ok (.ldc_w is, 3) := by rw [hb]; exact d4
  have hstr' : vk_R own is text sa s' := vk_R.warm hW0 hstr
  obtain ⟨U, hsteps, hrun, hend, hW, hsame, ce, hce, hO⟩ := X₁.ctorThrowS hexec htr (own := own) (cls := cls) (names := names) (ic := ic) hown' hcls hnames h (fun x hx => nomatch hx) hfX hkX hcellA (by rw [hhp, hT]; exact Nat.le_refl _) (msg := .ref sa) rfl
    (g := { method := m, pc := pc + 7, locals := ls, stack := .ref sa :: .ref T.heap.size :: .ref T.heap.size :: rest, locked := none }) rfl hsize rfl rfl (rest := rest) rfl
    (by rw [hb]; exact d7) (by rw [hb]; exact d10) hout hRframes (by simp only [List.map_cons, List.sum_cons, hcat]; omega) hlocks
  obtain ⟨f1, f2⟩ := vx_frame hsame
  rw [hhp] at f1 f2
  have hWs : s.WarmedH U.vm := State.WarmedH.trans hW0 hW
  have hcl : s.vm.findClass cls = some ce.cls := by
    have h9 := hO.cls
    rw [hvm] at h9
    exact h9
  have hall : s.sameButNew ({ U with vm := s.vm } : State) locs mc ms := by
    subst hA
    obtain ⟨e1, e2⟩ := hsame
    rw [State.setFrames_setFrames] at e1
    have h2 : (T.setVm s.vm).sameButNew ({ U with vm := s.vm } : State) [] (0 + 1) (0 + 6) := ⟨e1, e2⟩
    have h3 := X.same.trans h2
    rw [List.append_nil] at h3
    exact h3.mono hc hs
  refine ⟨U, ?_, .threw T.heap.size, hrun, hend, Or.inr ⟨T.heap.size, rfl, cls, ce, locs, hx U hWs.alike f1 (fun q hq => f2 q hq (fun z hz => nomatch hz)), hce, hO.vm, hcl, hWs, hall, hf⟩⟩
  refine st1 _ ?_
  show Steps p.tables e below (T1.setTop { method := m, pc := pc + 3, locals := ls, stack := .ref T.heap.size :: rest, locked := none }) _
  jvm_step X₁.here [X₁.here.top, hexec, d3', Value.category]
  exact X₁.ldcStringW hexec (own := own) (text := text) (index := is) (a := sa) hown' hstr'.1 hstr'.2
    (g := { method := m, pc := pc + 4, locals := ls, stack := .ref T.heap.size :: .ref T.heap.size :: rest, locked := none }) rfl d4' _ hsteps
end Ends
section Bodies
variable {l : Launch}
theorem vx_ofW {y : MethodName} {ws ws' : List Cond} {rm : Room} {Pc : Array Value → State → Prop} {Qc : Array Value → State → Outcome → State → Prop} {XC : String → State → State → Prop} {mc ms : Nat} {free : Addr → Prop} {cc : ByteArray} {maxL : Nat} {ret : Option FieldType}
    (hy : plainName y.cls = true) (hw : ws = Cond.code y cc maxL ret :: ws')
    (body : ∀ p e s m args below meth c s₁, BodyLoose p l y (headSpec ws rm) cc maxL ret e s m args below meth c s₁ → c.maxLocals = maxL → (∀ x ∈ c.exceptionTable.toList, False) → Pc args s →
      W p l e (headSpec ws rm).room s m args below meth c s.heap [] 0 0 (vx_MQ below Qc XC args s mc ms free) (entryFrame m args maxL)) : vx_Met l y ws rm Pc Qc XC mc ms free := by
  refine MetFree.of_bodyS (code := cc) (maxLocals := maxL) (ret := ret) hy ?_ ?_
  · intro args s m h hn
    obtain ⟨meth, c, h1, h2, h3, h4, h5, h6, -, -⟩ := Cond.code_spec hn (atoms_spec (ws := ws) h _ (by rw [hw]; exact List.mem_cons_self))
    exact ⟨meth, c, h1, h2, h3, h4, h5, h6⟩
  · intro p e s m args below meth c s₁ B hml hP _
    have hh0 : s₁.heap = s.heap := by rw [B.state]; rfl
    have ht : ∀ x ∈ c.exceptionTable.toList, False := by
      obtain ⟨meth9, c9, h1, h2, -, -, -, -, h7, -⟩ := Cond.code_spec B.named (atoms_spec (ws := ws) B.pre _ (by rw [hw]; exact List.mem_cons_self))
      cases Option.some.inj (h1.symm.trans B.method)
      cases Option.some.inj (h2.symm.trans (Stand.of_body B).code)
      intro x hx
      rw [Array.isEmpty_iff.mp h7] at hx
      cases hx
    obtain ⟨t, a1, o, b1, b2, b3⟩ := body p e s m args below meth c s₁ B hml ht hP s₁ hh0 (Stand.of_body B)
    exact ⟨t, o, a1, b1, b2, b3⟩
/-- the table of a body with handlers -/
theorem vx_table {p : Program} {x y : MethodName} {S : Spec} {cc bytes : ByteArray} {maxL maxL' : Nat} {ret ret' : Option FieldType} {e : Env} {s s₁ : State} {m : MethodId} {args : Array Value} {below : List Frame} {meth : Method} {c : Code} {hh : List (Nat × Nat × Nat × Nat)}
    (B : BodyLoose p l y S cc maxL ret e s m args below meth c s₁) (h : (Cond.codeWith y bytes maxL' ret' hh).before args s = true) : c.exceptionTable.toList = tableOf hh := by
  obtain ⟨m9, meth9, c9, hn9, h1, h2, -, -, h6, -⟩ := Cond.codeWith_spec h
  cases Option.some.inj (hn9.symm.trans B.named)
  cases Option.some.inj (h1.symm.trans B.method)
  cases Option.some.inj (h2.symm.trans (Stand.of_body B).code)
  rw [← h6, table_eq]
end Bodies
end VXA
/-! ===== END ===== -/
/-! ===== BEGIN a static call of a method with an exception table ===== -/
section VXS
variable {p : Program} {l : Launch} {e : Env} {R : Room} {s : State} {m : MethodId} {args : Array Value} {below : List Frame} {meth : Method} {c : Code} {T : State} {H : Heap} {locs : List Loc} {cells slots : Nat}
abbrev vx_CSW (R : Room) (s : State) (args : Array Value) (own : String) (index : Nat) (y : MethodName) (bytes : ByteArray) (maxL : Nat) (ret : Option FieldType) (hh : List (Nat × Nat × Nat × Nat)) (ws : List Cond) (rm : Room) (mc ms n : Nat) : Prop :=
  (rm.cells = mc ∧ rm.slots = ms ∧ rm.frames + 1 ≤ R.frames ∧ 8 + (maxL + 11) + rm.locals ≤ R.locals ∧ (∀ w ∈ ws, ∀ (a' : Array Value) (U : State), s.WarmedH U.vm → w.before a' U = true) ∧ Cond.codeWith y bytes maxL ret hh ∈ ws) ∧
  (Cond.codeWith y bytes maxL ret hh).before args s = true ∧ (Cond.initialized y.cls).before args s = true ∧ (y.cls ≠ "java/lang/invoke/MethodHandle" ∧ y.cls ≠ "java/lang/invoke/VarHandle") ∧
  (∀ sig, parseMethodDescriptor y.desc = some sig → n = sig.parameters.length) ∧ (Cond.methodLink own index y).before args s = true ∧ (Cond.static y).before args s = true
theorem vx_cwSW {own : String} {index maxL mc ms : Nat} {y : MethodName} {bytes : ByteArray} {ret : Option FieldType} {hh : List (Nat × Nat × Nat × Nat)} {Ts ws ws' : List Cond} {rm : Room} (n : Nat) (ht : ∀ w ∈ Ts, w.before args s = true) (hT : GoodIn Ts (va_wsS own index y ws)) (hw : ws = Cond.codeWith y bytes maxL ret hh :: ws') (hrc : rm.cells = mc) (hrs : rm.slots = ms)
    (hd : y.cls ≠ "java/lang/invoke/MethodHandle" ∧ y.cls ≠ "java/lang/invoke/VarHandle" ∧ (parseMethodDescriptor y.desc).map (fun d => d.parameters.length) = some n) (hR : rm.frames + 1 ≤ R.frames ∧ 8 + (maxL + 11) + rm.locals ≤ R.locals) :
    vx_CSW R s args own index y bytes maxL ret hh ws rm mc ms n := by
  have ok : ∀ w ∈ va_wsS own index y ws, w.before args s = true := fun w h => ht w (hT w h).1
  have hG : GoodIn Ts ws := fun w h => hT w (by unfold va_wsS; exact List.mem_append_right _ h)
  have hc : Cond.codeWith y bytes maxL ret hh ∈ ws := by rw [hw]; exact List.mem_cons_self
  refine ⟨⟨hrc, hrs, hR.1, hR.2, pay_in ht hG, hc⟩, ht _ (hG _ hc).1, ok _ (by simp [va_wsS]), ⟨hd.1, hd.2.1⟩, fun sig h => ?_, ok _ (by simp [va_wsS]), ok _ (by simp [va_wsS])⟩
  have h2 := hd.2.2
  rw [h] at h2
  exact (Option.some.inj h2).symm
theorem vx_callSW (X : Stand p l e R s m args below meth c T locs cells slots) (hexec : p.tables.exec = Jvm.exec) {own : String} {index : Nat} {y : MethodName} {bytes : ByteArray} {maxL : Nat} {ret : Option FieldType} {hh : List (Nat × Nat × Nat × Nat)}
    (hown : s.vm.findClass own = some m.cls) (hlink : (Cond.methodLink own index y).before args s = true) (hstat : (Cond.static y).before args s = true) (hinit : (Cond.initialized y.cls).before args s = true)
    (hcode : (Cond.codeWith y bytes maxL ret hh).before args s = true) (hy : y.cls ≠ "java/lang/invoke/MethodHandle" ∧ y.cls ≠ "java/lang/invoke/VarHandle")
    {W9 : Nat} {Pre : Pt → Array Value → Prop} {Post : Pt → Array Value → Option Value → Pt → Prop} (hK : Back l R p e below s args y 3 W9 Pre Post)
    {g : JFrame} (hg : g.method = m) (hsize : g.locals.size = c.maxLocals) {argsL rest : List Value} (hlen : ∀ sig, parseMethodDescriptor y.desc = some sig → argsL.length = sig.parameters.length)
    (hstack : g.stack = argsL.reverse ++ rest) (hW : 2 * g.monitorRoom + (rest.map fun v => v.category).sum ≤ W9) (hdg : decode c.code g.pc = .ok (.invokestatic index, 3))
    (hpre : ∀ vm₁, s.WarmedH vm₁ → Pre ⟨T.setVm vm₁, locs, cells, slots⟩ argsL.toArray) :
    ∃ (v : Option Value) (vm₁ : Vm) (B : Pt), s.WarmedH vm₁ ∧ Stand p l e R s m args below meth c B.U B.locs B.cells B.slots ∧ Post ⟨T.setVm vm₁, locs, cells, slots⟩ argsL.toArray v B ∧
      ∀ target, Steps p.tables e below (B.U.setTop { g with pc := g.pc + 3, stack := v.toList ++ rest }) target → Steps p.tables e below (T.setTop g) target := by
  obtain ⟨mk, methM, cM, hnamed, hmethM, -, -, -, -, -, -, hsigM⟩ := Cond.codeWith_spec hcode
  have hstatic : methM.isStatic = true := Cond.static_spec hnamed hmethM hstat
  obtain ⟨kP, hkP, -⟩ := className_of_methodNamed hnamed
  have hinitP : kP.init = .initialized := Cond.initialized_spec (findClass_of_methodNamed hnamed) hkP hinit
  obtain ⟨vm₁, X₁, hstep₁⟩ := X.invokestatic hexec hown hlink hnamed hmethM hstatic hkP hinitP hy (g := g) hg (argsL := argsL) (rest := rest) (hlen _ hsigM) hstack hdg
  obtain ⟨v, B, X', hpost, hsteps⟩ := hK m meth c ⟨T.setVm vm₁, locs, cells, slots⟩ { g with stack := rest } (.invokestatic index) mk argsL.toArray X₁ hg hsize hdg hW (X₁.named hnamed) (hpre vm₁ X₁.warmed)
  exact ⟨v, vm₁, B, X₁.warmed, X', hpost, fun target h => hstep₁ _ fun acts => by rw [doInvoke_state]; exact hsteps.trans h⟩
theorem vx_runSW {y : MethodName} {bytes cc : ByteArray} {maxL nL mc ms n index : Nat} {ret : Option FieldType} {hh : List (Nat × Nat × Nat × Nat)} {ws : List Cond} {rm : Room} {Pc : Array Value → State → Prop} {Qc : Array Value → State → Outcome → State → Prop} {free : Addr → Prop} {Ts : List Cond} {own : String} {As rest : List Value} {g : JFrame}
    (S : CallFix p m c cc nL s args Ts own) (hM : Met l y ws rm Pc Qc mc ms free) (cw : vx_CSW R s args own index y bytes maxL ret hh ws rm mc ms n) (hp : PreS s H Pc As)
    (hg : g.method = m) (hn : As.length = n) (hsize : g.locals.size = nL) (hstack : g.stack = As.reverse ++ rest) (hW : 2 * g.monitorRoom + (rest.map fun v => v.category).sum ≤ 8) (hdg : decode cc g.pc = .ok (.invokestatic index, 3)) (hf : cells + mc ≤ R.cells ∧ slots + ms ≤ R.slots) :
    va_Run p l e R s m args below meth c H locs cells slots mc ms g rest (Qc As.toArray) (free) := by
  obtain ⟨⟨hrc, hrs, hfr, hlo, hws, hcw⟩, hcode, hini, hy, hlen, hl, hstt⟩ := cw
  have hK : Back l R p e below s args y 3 8 (PreOf R mc ms Pc) (PostOf Qc mc ms free) := va_backW (hh := hh) (bytes := bytes) (maxL := maxL) (ret := ret) hM hp.1 hrc hrs hfr hlo hws hcw (fun a' U hW => word_at hW (Or.inl (by first | rfl | simp [Cond.onTables, Cond.keeps, Cond.steady])) hini)
  obtain ⟨hx, hb, hml, ho, -⟩ := S
  intro T hT X
  obtain ⟨v, vm₁, ⟨U', l2, c2, s2⟩, hW₁, X', ⟨g', mk, t, L, e1, e2, hq, h1, hL, h2, h3⟩, st⟩ := vx_callSW X hx (hh := hh) (bytes := bytes) (maxL := maxL) (ret := ret) ho hl hstt hini hcode hy hK hg (hsize.trans hml.symm) (argsL := As) (rest := rest) (fun sig h => hn.trans (hlen sig h)) hstack hW (by rw [hb]; exact hdg)
    (fun vm₁ hW₁ => ⟨hf.1, hf.2, hp.2 (T.setVm vm₁) hT hW₁⟩)
  dsimp only [Pt.U, Pt.locs, Pt.cells, Pt.slots] at X' e1 e2 h1 h2 h3 st
  subst h1; subst h2; subst h3
  exact ⟨v, (T.setVm vm₁).calling g' mk As.toArray, t, U', L, hT, X', hL, e1, e2, hq, st⟩
/-- not caught here, past rows that name other classes: it goes on to the caller -/
theorem vx_outP {p : Program} {l : Launch} {e : Env} {R : Room} {s : State} {m : MethodId} {args : Array Value} {below : List Frame} {meth : Method} {c : Code} {H : Heap} {locs : List Loc} {cells slots : Nat} {free : Addr → Prop} {ls : Array Slot} {rest : List Value} {Qc : Array Value → State → Outcome → State → Prop} {XC : String → State → State → Prop}
    {pc : Nat} {own E : String} {ce : Cell} {q : Addr} {mc ms : Nat} (hown : s.vm.findClass own = some m.cls) (hlocks : meth.locks = false)
    (hpass : ∀ z ∈ c.exceptionTable.toList, covers z pc = false ∨ (z.catchType ≠ 0 ∧ ∃ nm : String, (Cond.classLink own z.catchType nm).before args s = true ∧ va_Nc E nm s)) (hcell : H[q]? = some ce) (hv : ce.vm = .none) (hcl : s.vm.findClass E = some ce.cls)
    (hx : ∀ t : State, t.heap = H → s.vm.Alike t.vm → XC E s t) (hf : ∀ z ∈ locs, free z.base) (hc : cells ≤ mc) (hs : slots ≤ ms) :
    vx_W p l e R s m args below meth c H locs cells slots (vx_MQ below Qc XC args s mc ms free) (F0 m pc ls rest) q := by
  intro T hT X
  have hpl : e.platform.magicAccessors = ({} : Platform).magicAccessors := by rw [X.admits.platform]
  obtain ⟨vm', hW', X', st⟩ := X.outThrough hlocks q (g := F0 m pc ls rest) rfl rfl rfl (cell := ce) (by rw [hT]; exact hcell) (by rw [hv]; rfl)
    (by obtain ⟨k9, h9, -⟩ := Vm.findClass_spec hcl; exact ⟨k9, h9⟩) (fun z hz => by
      rcases hpass z hz with h | ⟨hz0, nm, hl1, hn1⟩
      · exact Or.inl h
      · obtain ⟨c6, hc6, hcl6⟩ := Cond.classLink_spec hown hl1 e.platform hpl
        obtain ⟨a8, b8, h1, h2, h3⟩ := hn1
        cases Option.some.inj (h1.symm.trans hcl)
        cases Option.some.inj (h2.symm.trans hc6)
        exact Or.inr ⟨hz0, _, hcl6, h3⟩)
  obtain ⟨g₀, hfr⟩ := X'.frames_eq
  have hcell9 : ((T.setVm vm').setFrames (.throwing q :: below)).heap[q]? = some ce := by
    show T.heap[q]? = some ce
    rw [hT]; exact hcell
  have hend : Ended ((T.setVm vm').setFrames (.throwing q :: below)) below (.threw q) := State.frames_setFrames _ (State.cur_lt_of_frames hfr)
  refine ⟨(T.setVm vm').setFrames (.throwing q :: below), ?_, .threw q, X'.here.running, hend, Or.inr ⟨q, rfl, E, ce, locs, hx _ hT (X'.ends _).1.alike, hcell9, hv, hcl, (X'.ends _).1, (X'.ends _).2.mono hc hs, hf⟩⟩
  rw [X.pushThrowing_eq]
  exact st
/-- a thing of a world lies in the heap -/
theorem vx_lt {D : va_G} {cl : List vw_C} {ws : va_W} {H1 : Heap} (h : va_P D cl ws H1) {k : Nat} {q : Nat × va_E} (hk : ws[k]? = some q) : q.1 < H1.size := (h k q hk).lt
end VXS
/-! ===== END ===== -/
/-! ===== BEGIN methods with a table of their own: called by a name, returning or throwing ===== -/
section VXH
/-! vx_backW, vx_callVX, vx_callSX, vx_callVW, vx_runVW, vx_runVX, vx_runSX, vx_ofWH follow the same proofs as their sisters above (Free/Laws.lean, Shelf42/LK1.lean); vx_outP calls Shelf42/NT130.lean (outThrough). -/
section
variable {l : Launch} {R : Room} {p : Program} {e : Env} {below : List Frame} {s : State} {sargs : Array Value} {y : MethodName} {len W9 : Nat}
theorem vx_backW {ws : List Cond} {rm : Room} {Pc : Array Value → State → Prop} {Qc : Array Value → State → Outcome → State → Prop} {XC : String → State → State → Prop} {mc ms : Nat} {free : Addr → Prop} {bytes : ByteArray} {maxL : Nat} {ret : Option FieldType} {hh : List (Nat × Nat × Nat × Nat)}
    (hM : vx_Met l y ws rm Pc Qc XC mc ms free) (hblind : FrameBlind Pc) (hrc : rm.cells = mc) (hrs : rm.slots = ms)
    (hframes : rm.frames + 1 ≤ R.frames) (hlocals : W9 + (maxL + 11) + rm.locals ≤ R.locals)
    (hws : ∀ w ∈ ws, ∀ a' U, s.WarmedH U.vm → w.before a' U = true) (hcode : Cond.codeWith y bytes maxL ret hh ∈ ws) (hinit : ∀ a' U, s.WarmedH U.vm → (Cond.initialized y.cls).before a' U = true) :
    vx_Back l R p e below s sargs y len W9 (PreOf R mc ms Pc) (PostOf Qc mc ms free) (vx_Post XC mc ms free) := by
  intro m meth c A g ig mk a X hg hsize hdg hW hn hp
  have h1 : (headSpec ws rm).pre.before a A.U = true := atoms_intro fun w hw => hws w hw _ _ X.warmed
  have h2 : (Cond.codeWith y bytes maxL ret hh).before a A.U = true := hws _ hcode _ _ X.warmed
  have h3 : (Cond.initialized y.cls).before a A.U = true := hinit _ _ X.warmed
  have h4 : A.cells + (headSpec ws rm).room.cells ≤ R.cells := by rw [show (headSpec ws rm).room.cells = mc from hrc]; exact hp.1
  have h5 : A.slots + (headSpec ws rm).room.slots ≤ R.slots := by rw [show (headSpec ws rm).room.slots = ms from hrs]; exact hp.2.1
  have hPc : Pc a (A.U.calling g mk a) := hblind _ _ _ _ hp.2.2
  obtain ⟨U, Ls, c0, s0⟩ := A
  dsimp only [Pt.U, Pt.locs, Pt.cells, Pt.slots] at h1 h2 h3 h4 h5 X hn hPc ⊢
  obtain ⟨m9, methY, cY, hn9, hmY, hcY, -, hlY, -⟩ := Cond.codeWith_spec h2
  cases Option.some.inj (hn9.symm.trans hn)
  obtain ⟨kY, hkY, -⟩ := className_of_methodNamed hn
  have hinitY : kY.init = .initialized := Cond.initialized_spec (findClass_of_methodNamed hn) hkY h3
  have h : At U g.method c below := by rw [hg]; exact X.here
  have hlocals9 : W9 + (maxL + 11) + (headSpec ws rm).room.locals ≤ R.locals := hlocals
  have happ : (headSpec ws rm).appliesLoose y e.platform (U.calling g mk a) = true :=
    Spec.appliesLoose_calling (g := g) h hdg hn hkY hinitY
      (X.room_calling (g := g) (R' := (headSpec ws rm).room) hsize hmY hcY hframes (by rw [hlY]; omega) h4 h5) h1
  obtain ⟨mid, hmid⟩ := h.above
  have hfr : (U.setTop g).frames = (.java g :: mid) ++ below := by rw [State.frames_setTop' g h.top, hmid]; rfl
  obtain ⟨o, s₂, hsteps, -, hend, hq⟩ := Steps.callFree hM p X.admits X.cas X.clock (acts := []) hfr happ hPc trivial
  have hq' : vx_Q Qc XC mc ms free a (U.calling g mk a) o s₂ := hq
  rw [State.frames_setTop' g h.top] at hend
  obtain ⟨g₀, hg0⟩ := Option.isSome_iff_exists.mp h.top
  obtain ⟨r, hr⟩ := State.topJava?_eq_some.mp hg0
  have hr' : (({ U with heap := s₂.heap, slotsUsed := s₂.slotsUsed } : State).setVm s₂.vm).frames = .java g₀ :: r := hr
  rcases hq' with ⟨hqc, L, hfe, hL⟩ | ⟨q, rfl, E, ce, L, hx, hce, hcv, hcl, hW₂, hsm, hL⟩
  · obtain ⟨⟨v, rfl⟩, hW₂, e2, q2, q3, q4, q5, q6⟩ := id hfe
    have e3 : s₂ = ({ (U.calling g mk a).setFrames s₂.frames with heap := s₂.heap, slotsUsed := s₂.slotsUsed } : State).setVm s₂.vm := by
      have : s₂ = ({ s₂ with vm := (U.calling g mk a).vm } : State).setVm s₂.vm := rfl
      rw [e2] at this
      exact this
    obtain ⟨c₂, i₂, len₂, hc₂, hd₂, hf₂⟩ := hend
    have hW' : U.WarmedH s₂.vm := hW₂
    have hcc : c₂ = c := by
      have h1 : s₂.code? g.method = U.code? g.method := by
        rw [State.code?_eq, State.code?_eq, hW'.alike.method?]
      exact Option.some.inj (hc₂.symm.trans (h1.trans h.code))
    subst hcc
    have hlen : len₂ = len := by rw [hdg] at hd₂; cases hd₂; rfl
    subst hlen
    have hs₂ : s₂ = (({ U with heap := s₂.heap, slotsUsed := s₂.slotsUsed } : State).setVm s₂.vm).setTop { g with pc := g.pc + len₂, stack := v.toList ++ g.stack } := by
      refine e3.trans ?_
      rw [hf₂, State.calling_eq h.top, State.setFrames_setFrames, State.setTop_of_frames _ hr', hr]
      rfl
    have hsame : U.sameButNew ({ U with heap := s₂.heap, slotsUsed := s₂.slotsUsed } : State) L mc ms := by
      refine ⟨?_, q2, q3, q4, q5, q6⟩
      obtain ⟨t, ht, -⟩ := State.frames_cons hr
      show ({ U with heap := s₂.heap, slotsUsed := s₂.slotsUsed } : State) = { U.setFrames U.frames with heap := s₂.heap, slotsUsed := s₂.slotsUsed }
      rw [State.setFrames_self ht]
    subst hg
    refine Or.inl ⟨v, ⟨(({ U with heap := s₂.heap, slotsUsed := s₂.slotsUsed } : State).setVm s₂.vm), Ls ++ L, c0 + mc, s0 + ms⟩,
      ⟨X.admits, X.cas, X.clock, X.frames, X.room, X.hears, X.method, X.code, (X.here.setHeapUsed s₂.heap s₂.slotsUsed).setVm hW'.alike, X.tail, State.WarmedH.trans X.warmed hW', X.limits, X.bytes, X.same.trans (hsame.setVm s.vm)⟩,
      ⟨g, mk, s₂, L, rfl, rfl, hqc, rfl, hL, rfl, rfl⟩, ?_⟩
    show Steps p.tables e below _ ((({ U with heap := s₂.heap, slotsUsed := s₂.slotsUsed } : State).setVm s₂.vm).setTop { g with pc := g.pc + len₂, stack := v.toList ++ g.stack })
    rw [← hs₂]
    exact hsteps
  · obtain ⟨e2, q2, q3, q4, q5, q6⟩ := id hsm
    have e3 : s₂ = ({ (U.calling g mk a).setFrames s₂.frames with heap := s₂.heap, slotsUsed := s₂.slotsUsed } : State).setVm s₂.vm := by
      have : s₂ = ({ s₂ with vm := (U.calling g mk a).vm } : State).setVm s₂.vm := rfl
      rw [e2] at this
      exact this
    have hf₂ : s₂.frames = .throwing q :: .java g :: U.frames.tail := hend
    have hW' : U.WarmedH s₂.vm := hW₂
    have hs₂ : s₂ = ((({ U with heap := s₂.heap, slotsUsed := s₂.slotsUsed } : State).setVm s₂.vm).setTop g).pushFrame (.throwing q) := by
      refine e3.trans ?_
      rw [hf₂, State.calling_eq h.top, State.setFrames_setFrames, State.pushFrame, State.frames_setTop _ hr', State.setTop_of_frames _ hr', State.setFrames_setFrames, hr]
      rfl
    have hsame : U.sameButNew ({ U with heap := s₂.heap, slotsUsed := s₂.slotsUsed } : State) L mc ms := by
      refine ⟨?_, q2, q3, q4, q5, q6⟩
      obtain ⟨t, ht, -⟩ := State.frames_cons hr
      show ({ U with heap := s₂.heap, slotsUsed := s₂.slotsUsed } : State) = { U.setFrames U.frames with heap := s₂.heap, slotsUsed := s₂.slotsUsed }
      rw [State.setFrames_self ht]
    subst hg
    refine Or.inr ⟨q, ⟨(({ U with heap := s₂.heap, slotsUsed := s₂.slotsUsed } : State).setVm s₂.vm), Ls ++ L, c0 + mc, s0 + ms⟩,
      ⟨X.admits, X.cas, X.clock, X.frames, X.room, X.hears, X.method, X.code, (X.here.setHeapUsed s₂.heap s₂.slotsUsed).setVm hW'.alike, X.tail, State.WarmedH.trans X.warmed hW', X.limits, X.bytes, X.same.trans (hsame.setVm s.vm)⟩,
      ⟨g, mk, s₂, L, E, ce, rfl, rfl, hx, hce, hcv, hcl, rfl, hL, rfl, rfl⟩, ?_⟩
    show Steps p.tables e below _ (((({ U with heap := s₂.heap, slotsUsed := s₂.slotsUsed } : State).setVm s₂.vm).setTop g).pushFrame (.throwing q))
    rw [← hs₂]
    exact hsteps
end
variable {p : Program} {l : Launch} {e : Env} {R : Room} {s : State} {m : MethodId} {args : Array Value} {below : List Frame} {meth : Method} {c : Code} {T : State} {H : Heap} {locs : List Loc} {cells slots : Nat}
theorem vx_callVX (X : Stand p l e R s m args below meth c T locs cells slots) (hexec : p.tables.exec = Jvm.exec) {own C : String} {index : Nat} {y : MethodName} {bytes : ByteArray} {maxL : Nat} {ret : Option FieldType} {hh : List (Nat × Nat × Nat × Nat)}
    (hown : s.vm.findClass own = some m.cls) (hlink : (Cond.methodLink own index y).before args s = true) (hinst : (Cond.instanceMethod y).before args s = true) (hsel : (Cond.selects C y y).before args s = true)
    (hcode : (Cond.codeWith y bytes maxL ret hh).before args s = true) (hy : y.cls ≠ "java/lang/invoke/MethodHandle" ∧ y.cls ≠ "java/lang/invoke/VarHandle")
    {W9 : Nat} {Pre : Pt → Array Value → Prop} {Post : Pt → Array Value → Option Value → Pt → Prop} {PostX : Pt → Array Value → Addr → Pt → Prop} (hK : vx_Back l R p e below s args y 3 W9 Pre Post PostX)
    {b : Addr} {cellB : Cell} (hcell : T.heap[b]? = some cellB) (hobj : cellB.vm.isStatics = false) (hcls : s.vm.findClass C = some cellB.cls)
    {g : JFrame} (hg : g.method = m) (hsize : g.locals.size = c.maxLocals) {argsL rest : List Value} (hlen : ∀ sig, parseMethodDescriptor y.desc = some sig → argsL.length = sig.parameters.length)
    (hstack : g.stack = argsL.reverse ++ .ref b :: rest) (hW : 2 * g.monitorRoom + (rest.map fun v => v.category).sum ≤ W9) (hdg : decode c.code g.pc = .ok (.invokevirtual index, 3))
    (hpre : ∀ vm₁, s.WarmedH vm₁ → Pre ⟨T.setVm vm₁, locs, cells, slots⟩ (Value.ref b :: argsL).toArray) :
    (∃ (v : Option Value) (vm₁ : Vm) (B : Pt), s.WarmedH vm₁ ∧ Stand p l e R s m args below meth c B.U B.locs B.cells B.slots ∧ Post ⟨T.setVm vm₁, locs, cells, slots⟩ (Value.ref b :: argsL).toArray v B ∧
      ∀ target, Steps p.tables e below (B.U.setTop { g with pc := g.pc + 3, stack := v.toList ++ rest }) target → Steps p.tables e below (T.setTop g) target) ∨
    (∃ (q : Addr) (vm₁ : Vm) (B : Pt), s.WarmedH vm₁ ∧ Stand p l e R s m args below meth c B.U B.locs B.cells B.slots ∧ PostX ⟨T.setVm vm₁, locs, cells, slots⟩ (Value.ref b :: argsL).toArray q B ∧
      Steps p.tables e below (T.setTop g) ((B.U.setTop { g with stack := rest }).pushFrame (.throwing q))) := by
  obtain ⟨mk, methM, hnamed, hmethM, hstM, habM⟩ := Cond.instanceMethod_spec hinst
  obtain ⟨m8, methM', cM, hn8, hmethM', -, -, -, -, -, -, hsigM⟩ := Cond.codeWith_spec hcode
  cases Option.some.inj (hn8.symm.trans hnamed)
  cases hmethM.symm.trans hmethM'
  obtain ⟨c2, r2, m2, q1, q2, q3, q4, kP, hkP, hkPi⟩ := Cond.selects_spec hsel
  cases hcls.symm.trans q1
  cases (State.methodFound?_of_named hnamed hy).symm.trans q2
  cases hnamed.symm.trans q3
  have hselP : selectMethod e.platform s.vm cellB.cls mk = .method mk := by rw [Launch.admits_selectMethod X.admits]; exact q4
  obtain ⟨vm₁, X₁, hstep₁⟩ := X.invokevirtual hexec hown hlink hnamed hmethM hstM hkP hkPi hy (a := b) (cell := cellB) hcell
    (fun z h => by rw [h] at hobj; cases hobj) hselP hmethM habM hkP hkPi (g := g) hg (argsL := argsL) (rest := rest) (hlen _ hsigM) hstack hdg
  rcases hK m meth c ⟨T.setVm vm₁, locs, cells, slots⟩ { g with stack := rest } (.invokevirtual index) mk (Value.ref b :: argsL).toArray X₁ hg hsize hdg hW (X₁.named hnamed) (hpre vm₁ X₁.warmed) with ⟨v, B, X', hpost, hsteps⟩ | ⟨q, B, X', hpost, hsteps⟩
  · exact Or.inl ⟨v, vm₁, B, X₁.warmed, X', hpost, fun target h => hstep₁ _ fun acts => by rw [doInvoke_state]; exact hsteps.trans h⟩
  · exact Or.inr ⟨q, vm₁, B, X₁.warmed, X', hpost, hstep₁ _ fun acts => by rw [doInvoke_state]; exact hsteps⟩
theorem vx_callSX (X : Stand p l e R s m args below meth c T locs cells slots) (hexec : p.tables.exec = Jvm.exec) {own : String} {index : Nat} {y : MethodName} {bytes : ByteArray} {maxL : Nat} {ret : Option FieldType} {hh : List (Nat × Nat × Nat × Nat)}
    (hown : s.vm.findClass own = some m.cls) (hlink : (Cond.methodLink own index y).before args s = true) (hstat : (Cond.static y).before args s = true) (hinit : (Cond.initialized y.cls).before args s = true)
    (hcode : (Cond.codeWith y bytes maxL ret hh).before args s = true) (hy : y.cls ≠ "java/lang/invoke/MethodHandle" ∧ y.cls ≠ "java/lang/invoke/VarHandle")
    {W9 : Nat} {Pre : Pt → Array Value → Prop} {Post : Pt → Array Value → Option Value → Pt → Prop} {PostX : Pt → Array Value → Addr → Pt → Prop} (hK : vx_Back l R p e below s args y 3 W9 Pre Post PostX)
    {g : JFrame} (hg : g.method = m) (hsize : g.locals.size = c.maxLocals) {argsL rest : List Value} (hlen : ∀ sig, parseMethodDescriptor y.desc = some sig → argsL.length = sig.parameters.length)
    (hstack : g.stack = argsL.reverse ++ rest) (hW : 2 * g.monitorRoom + (rest.map fun v => v.category).sum ≤ W9) (hdg : decode c.code g.pc = .ok (.invokestatic index, 3))
    (hpre : ∀ vm₁, s.WarmedH vm₁ → Pre ⟨T.setVm vm₁, locs, cells, slots⟩ argsL.toArray) :
    (∃ (v : Option Value) (vm₁ : Vm) (B : Pt), s.WarmedH vm₁ ∧ Stand p l e R s m args below meth c B.U B.locs B.cells B.slots ∧ Post ⟨T.setVm vm₁, locs, cells, slots⟩ argsL.toArray v B ∧
      ∀ target, Steps p.tables e below (B.U.setTop { g with pc := g.pc + 3, stack := v.toList ++ rest }) target → Steps p.tables e below (T.setTop g) target) ∨
    (∃ (q : Addr) (vm₁ : Vm) (B : Pt), s.WarmedH vm₁ ∧ Stand p l e R s m args below meth c B.U B.locs B.cells B.slots ∧ PostX ⟨T.setVm vm₁, locs, cells, slots⟩ argsL.toArray q B ∧
      Steps p.tables e below (T.setTop g) ((B.U.setTop { g with stack := rest }).pushFrame (.throwing q))) := by
  obtain ⟨mk, methM, cM, hnamed, hmethM, -, -, -, -, -, -, hsigM⟩ := Cond.codeWith_spec hcode
  have hstatic : methM.isStatic = true := Cond.static_spec hnamed hmethM hstat
  obtain ⟨kP, hkP, -⟩ := className_of_methodNamed hnamed
  have hinitP : kP.init = .initialized := Cond.initialized_spec (findClass_of_methodNamed hnamed) hkP hinit
  obtain ⟨vm₁, X₁, hstep₁⟩ := X.invokestatic hexec hown hlink hnamed hmethM hstatic hkP hinitP hy (g := g) hg (argsL := argsL) (rest := rest) (hlen _ hsigM) hstack hdg
  rcases hK m meth c ⟨T.setVm vm₁, locs, cells, slots⟩ { g with stack := rest } (.invokestatic index) mk argsL.toArray X₁ hg hsize hdg hW (X₁.named hnamed) (hpre vm₁ X₁.warmed) with ⟨v, B, X', hpost, hsteps⟩ | ⟨q, B, X', hpost, hsteps⟩
  · exact Or.inl ⟨v, vm₁, B, X₁.warmed, X', hpost, fun target h => hstep₁ _ fun acts => by rw [doInvoke_state]; exact hsteps.trans h⟩
  · exact Or.inr ⟨q, vm₁, B, X₁.warmed, X', hpost, hstep₁ _ fun acts => by rw [doInvoke_state]; exact hsteps⟩
theorem vx_callVW (X : Stand p l e R s m args below meth c T locs cells slots) (hexec : p.tables.exec = Jvm.exec) {own C : String} {index : Nat} {y : MethodName} {bytes : ByteArray} {maxL : Nat} {ret : Option FieldType} {hh : List (Nat × Nat × Nat × Nat)}
    (hown : s.vm.findClass own = some m.cls) (hlink : (Cond.methodLink own index y).before args s = true) (hinst : (Cond.instanceMethod y).before args s = true) (hsel : (Cond.selects C y y).before args s = true)
    (hcode : (Cond.codeWith y bytes maxL ret hh).before args s = true) (hy : y.cls ≠ "java/lang/invoke/MethodHandle" ∧ y.cls ≠ "java/lang/invoke/VarHandle")
    {W9 : Nat} {Pre : Pt → Array Value → Prop} {Post : Pt → Array Value → Option Value → Pt → Prop} (hK : Back l R p e below s args y 3 W9 Pre Post)
    {b : Addr} {cellB : Cell} (hcell : T.heap[b]? = some cellB) (hobj : cellB.vm.isStatics = false) (hcls : s.vm.findClass C = some cellB.cls)
    {g : JFrame} (hg : g.method = m) (hsize : g.locals.size = c.maxLocals) {argsL rest : List Value} (hlen : ∀ sig, parseMethodDescriptor y.desc = some sig → argsL.length = sig.parameters.length)
    (hstack : g.stack = argsL.reverse ++ .ref b :: rest) (hW : 2 * g.monitorRoom + (rest.map fun v => v.category).sum ≤ W9) (hdg : decode c.code g.pc = .ok (.invokevirtual index, 3))
    (hpre : ∀ vm₁, s.WarmedH vm₁ → Pre ⟨T.setVm vm₁, locs, cells, slots⟩ (Value.ref b :: argsL).toArray) :
    ∃ (v : Option Value) (vm₁ : Vm) (B : Pt), s.WarmedH vm₁ ∧ Stand p l e R s m args below meth c B.U B.locs B.cells B.slots ∧ Post ⟨T.setVm vm₁, locs, cells, slots⟩ (Value.ref b :: argsL).toArray v B ∧
      ∀ target, Steps p.tables e below (B.U.setTop { g with pc := g.pc + 3, stack := v.toList ++ rest }) target → Steps p.tables e below (T.setTop g) target := by
  obtain ⟨mk, methM, hnamed, hmethM, hstM, habM⟩ := Cond.instanceMethod_spec hinst
  obtain ⟨m8, methM', cM, hn8, hmethM', -, -, -, -, -, -, hsigM⟩ := Cond.codeWith_spec hcode
  cases Option.some.inj (hn8.symm.trans hnamed)
  cases hmethM.symm.trans hmethM'
  obtain ⟨c2, r2, m2, q1, q2, q3, q4, kP, hkP, hkPi⟩ := Cond.selects_spec hsel
  cases hcls.symm.trans q1
  cases (State.methodFound?_of_named hnamed hy).symm.trans q2
  cases hnamed.symm.trans q3
  have hselP : selectMethod e.platform s.vm cellB.cls mk = .method mk := by rw [Launch.admits_selectMethod X.admits]; exact q4
  obtain ⟨vm₁, X₁, hstep₁⟩ := X.invokevirtual hexec hown hlink hnamed hmethM hstM hkP hkPi hy (a := b) (cell := cellB) hcell
    (fun z h => by rw [h] at hobj; cases hobj) hselP hmethM habM hkP hkPi (g := g) hg (argsL := argsL) (rest := rest) (hlen _ hsigM) hstack hdg
  obtain ⟨v, B, X', hpost, hsteps⟩ := hK m meth c ⟨T.setVm vm₁, locs, cells, slots⟩ { g with stack := rest } (.invokevirtual index) mk (Value.ref b :: argsL).toArray X₁ hg hsize hdg hW (X₁.named hnamed) (hpre vm₁ X₁.warmed)
  exact ⟨v, vm₁, B, X₁.warmed, X', hpost, fun target h => hstep₁ _ fun acts => by rw [doInvoke_state]; exact hsteps.trans h⟩
abbrev vx_CVW (R : Room) (s : State) (args : Array Value) (own C : String) (index : Nat) (y : MethodName) (bytes : ByteArray) (maxL : Nat) (ret : Option FieldType) (hh : List (Nat × Nat × Nat × Nat)) (ws : List Cond) (rm : Room) (mc ms n : Nat) : Prop :=
  (rm.cells = mc ∧ rm.slots = ms ∧ rm.frames + 1 ≤ R.frames ∧ 8 + (maxL + 11) + rm.locals ≤ R.locals ∧ (∀ w ∈ ws, ∀ (a' : Array Value) (U : State), s.WarmedH U.vm → w.before a' U = true) ∧ Cond.codeWith y bytes maxL ret hh ∈ ws) ∧
  (Cond.codeWith y bytes maxL ret hh).before args s = true ∧ (Cond.initialized y.cls).before args s = true ∧ (y.cls ≠ "java/lang/invoke/MethodHandle" ∧ y.cls ≠ "java/lang/invoke/VarHandle") ∧
  (∀ sig, parseMethodDescriptor y.desc = some sig → n = sig.parameters.length) ∧ (Cond.methodLink own index y).before args s = true ∧ (Cond.instanceMethod y).before args s = true ∧ (Cond.selects C y y).before args s = true
theorem vx_cwVW {own C : String} {index maxL mc ms : Nat} {y : MethodName} {bytes : ByteArray} {ret : Option FieldType} {hh : List (Nat × Nat × Nat × Nat)} {Ts ws ws' : List Cond} {rm : Room} (n : Nat) (ht : ∀ w ∈ Ts, w.before args s = true) (hT : GoodIn Ts (wsV own index C y ws)) (hw : ws = Cond.codeWith y bytes maxL ret hh :: ws') (hrc : rm.cells = mc) (hrs : rm.slots = ms)
    (hd : y.cls = C ∧ y.cls ≠ "java/lang/invoke/MethodHandle" ∧ y.cls ≠ "java/lang/invoke/VarHandle" ∧ (parseMethodDescriptor y.desc).map (fun d => d.parameters.length) = some n) (hR : rm.frames + 1 ≤ R.frames ∧ 8 + (maxL + 11) + rm.locals ≤ R.locals) :
    vx_CVW R s args own C index y bytes maxL ret hh ws rm mc ms n := by
  obtain ⟨hC, hd⟩ := hd
  subst hC
  have ok : ∀ w ∈ wsV own index y.cls y ws, w.before args s = true := fun w h => ht w (hT w h).1
  have hG : GoodIn Ts ws := fun w h => hT w (by unfold wsV; exact List.mem_append_right _ h)
  have hc : Cond.codeWith y bytes maxL ret hh ∈ ws := by rw [hw]; exact List.mem_cons_self
  refine ⟨⟨hrc, hrs, hR.1, hR.2, pay_in ht hG, hc⟩, ht _ (hG _ hc).1, ok _ (by simp [wsV]), ⟨hd.1, hd.2.1⟩, fun sig h => ?_, ok _ (by simp [wsV]), ok _ (by simp [wsV]), ok _ (by simp [wsV])⟩
  have h2 := hd.2.2
  rw [h] at h2
  exact (Option.some.inj h2).symm
theorem vx_runVW {y : MethodName} {bytes cc : ByteArray} {maxL nL mc ms n index : Nat} {ret : Option FieldType} {hh : List (Nat × Nat × Nat × Nat)} {ws : List Cond} {rm : Room} {Pc : Array Value → State → Prop} {Qc : Array Value → State → Outcome → State → Prop} {free : Addr → Prop} {Ts : List Cond} {own C : String} {b : Addr} {As rest : List Value} {g : JFrame}
    (S : CallFix p m c cc nL s args Ts own) (hM : Met l y ws rm Pc Qc mc ms free) (cw : vx_CVW R s args own C index y bytes maxL ret hh ws rm mc ms n) (hp : PreV s H C b Pc As)
    (hg : g.method = m) (hn : As.length = n) (hsize : g.locals.size = nL) (hstack : g.stack = As.reverse ++ .ref b :: rest) (hW : 2 * g.monitorRoom + (rest.map fun v => v.category).sum ≤ 8) (hdg : decode cc g.pc = .ok (.invokevirtual index, 3)) (hf : cells + mc ≤ R.cells ∧ slots + ms ≤ R.slots) :
    va_Run p l e R s m args below meth c H locs cells slots mc ms g rest (Qc (Value.ref b :: As).toArray) free := by
  obtain ⟨⟨hrc, hrs, hfr, hlo, hws, hcw⟩, hcode, hini, hy, hlen, hl, hin, hse⟩ := cw
  have hK : Back l R p e below s args y 3 8 (PreOf R mc ms Pc) (PostOf Qc mc ms free) := va_backW (hh := hh) (bytes := bytes) (maxL := maxL) (ret := ret) hM hp.1 hrc hrs hfr hlo hws hcw (fun a' U hW => word_at hW (Or.inl (by first | rfl | simp [Cond.onTables, Cond.keeps, Cond.steady])) hini)
  obtain ⟨hx, hb, hml, ho, -⟩ := S
  obtain ⟨-, ⟨cellB, hcB, hoB, hclB⟩, hPc⟩ := hp
  intro T hT X
  obtain ⟨v, vm₁, ⟨U', l2, c2, s2⟩, hW₁, X', ⟨g', mk, t, L, e1, e2, hq, h1, hL, h2, h3⟩, st⟩ := vx_callVW X hx (C := C) (hh := hh) (bytes := bytes) (maxL := maxL) (ret := ret) ho hl hin hse hcode hy hK (by rw [hT]; exact hcB) hoB hclB hg (hsize.trans hml.symm) (argsL := As) (rest := rest) (fun sig h => hn.trans (hlen sig h)) hstack hW (by rw [hb]; exact hdg)
    (fun vm₁ hW₁ => ⟨hf.1, hf.2, hPc (T.setVm vm₁) hT hW₁⟩)
  dsimp only [Pt.U, Pt.locs, Pt.cells, Pt.slots] at X' e1 e2 h1 h2 h3 st
  subst h1; subst h2; subst h3
  exact ⟨v, (T.setVm vm₁).calling g' mk (Value.ref b :: As).toArray, t, U', L, hT, X', hL, e1, e2, hq, st⟩
section
variable {y : MethodName} {bytes cc : ByteArray} {maxL nL mc ms n index : Nat} {ret : Option FieldType} {ws : List Cond} {rm : Room} {Pc : Array Value → State → Prop} {Qc : Array Value → State → Outcome → State → Prop} {XC : String → State → State → Prop} {free : Addr → Prop} {Ts : List Cond} {own C : String} {b : Addr} {As rest : List Value} {g : JFrame}
theorem vx_runVX {hh : List (Nat × Nat × Nat × Nat)} (S : CallFix p m c cc nL s args Ts own) (hM : vx_Met l y ws rm Pc Qc XC mc ms free) (cw : vx_CVW R s args own C index y bytes maxL ret hh ws rm mc ms n) (hp : PreV s H C b Pc As)
    (hg : g.method = m) (hn : As.length = n) (hsize : g.locals.size = nL) (hstack : g.stack = As.reverse ++ .ref b :: rest) (hW : 2 * g.monitorRoom + (rest.map fun v => v.category).sum ≤ 8) (hdg : decode cc g.pc = .ok (.invokevirtual index, 3)) (hf : cells + mc ≤ R.cells ∧ slots + ms ≤ R.slots) :
    vx_Run p l e R s m args below meth c H locs cells slots mc ms g rest (Qc (Value.ref b :: As).toArray) XC free := by
  obtain ⟨⟨hrc, hrs, hfr, hlo, hws, hcw⟩, hcode, hini, hy, hlen, hl, hin, hse⟩ := cw
  have hK : vx_Back l R p e below s args y 3 8 (PreOf R mc ms Pc) (PostOf Qc mc ms free) (vx_Post XC mc ms free) := vx_backW (hh := hh) (bytes := bytes) (maxL := maxL) (ret := ret) hM hp.1 hrc hrs hfr hlo hws hcw (fun a' U hW => word_at hW (Or.inl (by first | rfl | simp [Cond.onTables, Cond.keeps, Cond.steady])) hini)
  obtain ⟨hx, hb, hml, ho, -⟩ := S
  obtain ⟨-, ⟨cellB, hcB, hoB, hclB⟩, hPc⟩ := hp
  intro T hT X
  rcases vx_callVX X hx (C := C) (hh := hh) (bytes := bytes) (maxL := maxL) (ret := ret) ho hl hin hse hcode hy hK (by rw [hT]; exact hcB) hoB hclB hg (hsize.trans hml.symm) (argsL := As) (rest := rest) (fun sig h => hn.trans (hlen sig h)) hstack hW (by rw [hb]; exact hdg)
    (fun vm₁ hW₁ => ⟨hf.1, hf.2, hPc (T.setVm vm₁) hT hW₁⟩) with ⟨v, vm₁, ⟨U', l2, c2, s2⟩, hW₁, X', ⟨g', mk, t, L, e1, e2, hq, h1, hL, h2, h3⟩, st⟩ | ⟨q, vm₁, ⟨U', l2, c2, s2⟩, hW₁, X', ⟨g', mk, t, L, E, ce, e1, e2, hq, hce, hcv, hcl, h1, hL, h2, h3⟩, st⟩
  · dsimp only [Pt.U, Pt.locs, Pt.cells, Pt.slots] at X' e1 e2 h1 h2 h3 st
    subst h1; subst h2; subst h3
    exact Or.inl ⟨v, (T.setVm vm₁).calling g' mk (Value.ref b :: As).toArray, t, U', L, hT, X', hL, e1, e2, hq, st⟩
  · dsimp only [Pt.U, Pt.locs, Pt.cells, Pt.slots] at X' e1 e2 h1 h2 h3 st hcl
    subst h1; subst h2; subst h3
    exact Or.inr ⟨q, (T.setVm vm₁).calling g' mk (Value.ref b :: As).toArray, t, U', L, E, ce, hT, X', hL, e1, e2, hq, hce, hcv, vx_cls hW₁ hcl, st⟩
theorem vx_runSX {hh : List (Nat × Nat × Nat × Nat)} (S : CallFix p m c cc nL s args Ts own) (hM : vx_Met l y ws rm Pc Qc XC mc ms free) (cw : vx_CSW R s args own index y bytes maxL ret hh ws rm mc ms n) (hp : PreS s H Pc As)
    (hg : g.method = m) (hn : As.length = n) (hsize : g.locals.size = nL) (hstack : g.stack = As.reverse ++ rest) (hW : 2 * g.monitorRoom + (rest.map fun v => v.category).sum ≤ 8) (hdg : decode cc g.pc = .ok (.invokestatic index, 3)) (hf : cells + mc ≤ R.cells ∧ slots + ms ≤ R.slots) :
    vx_Run p l e R s m args below meth c H locs cells slots mc ms g rest (Qc As.toArray) XC free := by
  obtain ⟨⟨hrc, hrs, hfr, hlo, hws, hcw⟩, hcode, hini, hy, hlen, hl, hstt⟩ := cw
  have hK : vx_Back l R p e below s args y 3 8 (PreOf R mc ms Pc) (PostOf Qc mc ms free) (vx_Post XC mc ms free) := vx_backW (hh := hh) (bytes := bytes) (maxL := maxL) (ret := ret) hM hp.1 hrc hrs hfr hlo hws hcw (fun a' U hW => word_at hW (Or.inl (by first | rfl | simp [Cond.onTables, Cond.keeps, Cond.steady])) hini)
  obtain ⟨hx, hb, hml, ho, -⟩ := S
  intro T hT X
  rcases vx_callSX X hx (hh := hh) (bytes := bytes) (maxL := maxL) (ret := ret) ho hl hstt hini hcode hy hK hg (hsize.trans hml.symm) (argsL := As) (rest := rest) (fun sig h => hn.trans (hlen sig h)) hstack hW (by rw [hb]; exact hdg)
    (fun vm₁ hW₁ => ⟨hf.1, hf.2, hp.2 (T.setVm vm₁) hT hW₁⟩) with ⟨v, vm₁, ⟨U', l2, c2, s2⟩, hW₁, X', ⟨g', mk, t, L, e1, e2, hq, h1, hL, h2, h3⟩, st⟩ | ⟨q, vm₁, ⟨U', l2, c2, s2⟩, hW₁, X', ⟨g', mk, t, L, E, ce, e1, e2, hq, hce, hcv, hcl, h1, hL, h2, h3⟩, st⟩
  · dsimp only [Pt.U, Pt.locs, Pt.cells, Pt.slots] at X' e1 e2 h1 h2 h3 st
    subst h1; subst h2; subst h3
    exact Or.inl ⟨v, (T.setVm vm₁).calling g' mk As.toArray, t, U', L, hT, X', hL, e1, e2, hq, st⟩
  · dsimp only [Pt.U, Pt.locs, Pt.cells, Pt.slots] at X' e1 e2 h1 h2 h3 st hcl
    subst h1; subst h2; subst h3
    exact Or.inr ⟨q, (T.setVm vm₁).calling g' mk As.toArray, t, U', L, E, ce, hT, X', hL, e1, e2, hq, hce, hcv, vx_cls hW₁ hcl, st⟩
end
end VXH
theorem vx_ofWH {l : Launch} {y : MethodName} {ws ws' : List Cond} {rm : Room} {Pc : Array Value → State → Prop} {Qc : Array Value → State → Outcome → State → Prop} {XC : String → State → State → Prop} {mc ms : Nat} {free : Addr → Prop} {cc : ByteArray} {maxL : Nat} {ret : Option FieldType} {hh : List (Nat × Nat × Nat × Nat)}
    (hy : plainName y.cls = true) (hw : ws = Cond.codeWith y cc maxL ret hh :: ws')
    (body : ∀ p e s m args below meth c s₁, BodyLoose p l y (headSpec ws rm) cc maxL ret e s m args below meth c s₁ → c.maxLocals = maxL → Pc args s →
      W p l e (headSpec ws rm).room s m args below meth c s.heap [] 0 0 (vx_MQ below Qc XC args s mc ms free) (entryFrame m args maxL)) : vx_Met l y ws rm Pc Qc XC mc ms free := by
  refine MetFree.of_bodyS (code := cc) (maxLocals := maxL) (ret := ret) hy ?_ ?_
  · intro args s m h hn
    obtain ⟨m9, meth, c, hn9, h1, h2, h3, h4, -, h5, h6, -⟩ := Cond.codeWith_spec (atoms_spec (ws := ws) h _ (by rw [hw]; exact List.mem_cons_self))
    cases hn.symm.trans hn9
    exact ⟨meth, c, h1, h2, h3, h4, h5, h6⟩
  · intro p e s m args below meth c s₁ B hml hP _
    have hh0 : s₁.heap = s.heap := by rw [B.state]; rfl
    obtain ⟨t, a1, o, b1, b2, b3⟩ := body p e s m args below meth c s₁ B hml hP s₁ hh0 (Stand.of_body B)
    exact ⟨t, o, a1, b1, b2, b3⟩
/-! ===== END ===== -/
end
section
def RX0 : String := "MailFollower$Changes"
def TX0 : u_T := fun k => match k with
  | 0 => ("MailFollower$Changes", "mailRow", "[I", true)
  | 1 => ("MailFollower$Changes", "boxesBefore", "[I", true)
  | 2 => ("MailFollower$Changes", "keywordsBefore", "[I", true)
  | 3 => ("MailFollower$Changes", "keywordsAfter", "[I", true)
  | _ => ("MailFollower$Changes", "latest", "I", false)
def tyX0 : Nat → FieldType := fun k => match k with
  | 0 => .array .int
  | 1 => .array .int
  | 2 => .array .int
  | 3 => .array .int
  | _ => .int
abbrev wsX00 : List Cond := u_ws RX0 TX0 5
theorem nmX0 : ∀ a, a < 5 → ∀ b, b < 5 → a ≠ b → (TX0 a).2.1 ≠ (TX0 b).2.1 := by decide +kernel
theorem tyX0_ok : ∀ k, k < 5 → parseFieldDescriptor (TX0 k).2.2.1 = some (tyX0 k) := by decide +kernel
abbrev cX0_init : ByteArray := prog_2_method_1_code
def yX0_init : MethodName := ⟨RX0, "<init>", "()V"⟩
abbrev cX0_slotOf : ByteArray := prog_2_method_2_code
def yX0_slotOf : MethodName := ⟨RX0, "slotOf", "(I)I"⟩
abbrev cX0_keep : ByteArray := prog_2_method_3_code
def yX0_keep : MethodName := ⟨RX0, "keep", "(IIII)V"⟩
abbrev cX0_reachBackTo : ByteArray := prog_2_method_4_code
def yX0_reachBackTo : MethodName := ⟨RX0, "reachBackTo", "(I)Z"⟩
abbrev cX0_countBehind : ByteArray := prog_2_method_5_code
def yX0_countBehind : MethodName := ⟨RX0, "countBehind", "(I)I"⟩
abbrev cX0_undo : ByteArray := prog_2_method_6_code
def yX0_undo : MethodName := ⟨RX0, "undo", "(IJII)J"⟩
abbrev cX0_touched : ByteArray := prog_2_method_7_code
def yX0_touched : MethodName := ⟨RX0, "touched", "(I)J"⟩
abbrev cX0_endOfPage : ByteArray := prog_2_method_8_code
def yX0_endOfPage : MethodName := ⟨RX0, "endOfPage", "(II)I"⟩
abbrev cX0_contradict : ByteArray := prog_2_method_9_code
def yX0_contradict : MethodName := ⟨RX0, "contradict", "(IIIZ)Z"⟩
def RX1 : String := "MailFollower$Client"
def TX1 : u_T := fun k => match k with
  | 0 => ("MailFollower$Client", "box", "I", false)
  | 1 => ("MailFollower$Client", "width", "I", false)
  | 2 => ("MailFollower$Client", "syncState", "I", false)
  | 3 => ("MailFollower$Client", "loads", "I", false)
  | 4 => ("MailFollower$Client", "windowMails", "[I", true)
  | 5 => ("MailFollower$Client", "windowKeywords", "[I", true)
  | 6 => ("MailFollower$Client", "windowSize", "I", false)
  | 7 => ("MailFollower$Client", "flagMails", "[I", true)
  | 8 => ("MailFollower$Client", "flagKeywords", "[I", true)
  | 9 => ("MailFollower$Client", "flagSets", "[Z", true)
  | _ => ("MailFollower$Client", "flags", "I", false)
def tyX1 : Nat → FieldType := fun k => match k with
  | 0 => .int
  | 1 => .int
  | 2 => .int
  | 3 => .int
  | 4 => .array .int
  | 5 => .array .int
  | 6 => .int
  | 7 => .array .int
  | 8 => .array .int
  | 9 => .array .boolean
  | _ => .int
abbrev wsX10 : List Cond := u_ws RX1 TX1 11
theorem nmX1 : ∀ a, a < 11 → ∀ b, b < 11 → a ≠ b → (TX1 a).2.1 ≠ (TX1 b).2.1 := by decide +kernel
theorem tyX1_ok : ∀ k, k < 11 → parseFieldDescriptor (TX1 k).2.2.1 = some (tyX1 k) := by decide +kernel
abbrev cX1_init : ByteArray := prog_3_method_1_code
def yX1_init : MethodName := ⟨RX1, "<init>", "()V"⟩
abbrev cX1_hasPlace : ByteArray := prog_3_method_2_code
def yX1_hasPlace : MethodName := ⟨RX1, "hasPlace", "(I)Z"⟩
abbrev cX1_placeOf : ByteArray := prog_3_method_3_code
def yX1_placeOf : MethodName := ⟨RX1, "placeOf", "(I)I"⟩
abbrev cX1_note : ByteArray := prog_3_method_4_code
def yX1_note : MethodName := ⟨RX1, "note", "(IIZ)V"⟩
abbrev cX1_list : ByteArray := prog_3_method_5_code
def yX1_list : MethodName := ⟨RX1, "list", "(IIZ)V"⟩
abbrev cX1_leaveOutConflicts : ByteArray := prog_3_method_6_code
def yX1_leaveOutConflicts : MethodName := ⟨RX1, "leaveOutConflicts", "(LMailFollower$Server;)I"⟩
abbrev cX1_isConflict : ByteArray := prog_3_method_7_code
def yX1_isConflict : MethodName := ⟨RX1, "isConflict", "(LMailFollower$Server;IIZ)Z"⟩
abbrev cX1_replay : ByteArray := prog_3_method_8_code
def yX1_replay : MethodName := ⟨RX1, "replay", "(LMailFollower$Server;)V"⟩
abbrev cX1_load : ByteArray := prog_3_method_9_code
def yX1_load : MethodName := ⟨RX1, "load", "(LMailFollower$Server;)V"⟩
def RX2 : String := "MailFollower$Server"
def TX2 : u_T := fun k => match k with
  | 0 => ("MailFollower$Server", "times", "[I", true)
  | 1 => ("MailFollower$Server", "threads", "[I", true)
  | 2 => ("MailFollower$Server", "boxRow", "[I", true)
  | 3 => ("MailFollower$Server", "keywordRow", "[I", true)
  | 4 => ("MailFollower$Server", "order", "[I", true)
  | 5 => ("MailFollower$Server", "changes", "LMailFollower$Changes;", true)
  | _ => ("MailFollower$Server", "come", "I", false)
def tyX2 : Nat → FieldType := fun k => match k with
  | 0 => .array .int
  | 1 => .array .int
  | 2 => .array .int
  | 3 => .array .int
  | 4 => .array .int
  | 5 => .object "MailFollower$Changes"
  | _ => .int
abbrev wsX20 : List Cond := u_ws RX2 TX2 7
theorem nmX2 : ∀ a, a < 7 → ∀ b, b < 7 → a ≠ b → (TX2 a).2.1 ≠ (TX2 b).2.1 := by decide +kernel
theorem tyX2_ok : ∀ k, k < 7 → parseFieldDescriptor (TX2 k).2.2.1 = some (tyX2 k) := by decide +kernel
abbrev cX2_init : ByteArray := prog_4_method_1_code
def yX2_init : MethodName := ⟨RX2, "<init>", "()V"⟩
abbrev cX2_boxesOf : ByteArray := prog_4_method_2_code
def yX2_boxesOf : MethodName := ⟨RX2, "boxesOf", "(I)I"⟩
abbrev cX2_keywordsOf : ByteArray := prog_4_method_3_code
def yX2_keywordsOf : MethodName := ⟨RX2, "keywordsOf", "(I)I"⟩
abbrev cX2_timeOf : ByteArray := prog_4_method_4_code
def yX2_timeOf : MethodName := ⟨RX2, "timeOf", "(I)I"⟩
abbrev cX2_isThere : ByteArray := prog_4_method_5_code
def yX2_isThere : MethodName := ⟨RX2, "isThere", "(I)Z"⟩
abbrev cX2_letCome : ByteArray := prog_4_method_6_code
def yX2_letCome : MethodName := ⟨RX2, "letCome", "(III)I"⟩
abbrev cX2_putInOrder : ByteArray := prog_4_method_7_code
def yX2_putInOrder : MethodName := ⟨RX2, "putInOrder", "(II)V"⟩
abbrev cX2_setKeyword : ByteArray := prog_4_method_8_code
def yX2_setKeyword : MethodName := ⟨RX2, "setKeyword", "(IIZ)Z"⟩
abbrev cX2_change : ByteArray := prog_4_method_9_code
def yX2_change : MethodName := ⟨RX2, "change", "(III)Z"⟩
abbrev cX2_countThread : ByteArray := prog_4_method_10_code
def yX2_countThread : MethodName := ⟨RX2, "countThread", "(I)I"⟩
abbrev cX2_matching : ByteArray := prog_4_method_11_code
def yX2_matching : MethodName := ⟨RX2, "matching", "(II)J"⟩
abbrev cX2_matchingAt : ByteArray := prog_4_method_12_code
def yX2_matchingAt : MethodName := ⟨RX2, "matchingAt", "(III)J"⟩
abbrev cX2_changedSince : ByteArray := prog_4_method_13_code
def yX2_changedSince : MethodName := ⟨RX2, "changedSince", "(II)J"⟩
abbrev cX2_latestAt : ByteArray := prog_4_method_14_code
def yX2_latestAt : MethodName := ⟨RX2, "latestAt", "(JI)I"⟩
def RX3 : String := "MailFollower"
def TX3 : u_T := fun k => match k with
  | 0 => ("MailFollower", "server", "LMailFollower$Server;", true)
  | 1 => ("MailFollower", "firstClient", "LMailFollower$Client;", true)
  | _ => ("MailFollower", "secondClient", "LMailFollower$Client;", true)
def tyX3 : Nat → FieldType := fun k => match k with
  | 0 => .object "MailFollower$Server"
  | 1 => .object "MailFollower$Client"
  | _ => .object "MailFollower$Client"
abbrev wsX30 : List Cond := u_ws RX3 TX3 3
theorem nmX3 : ∀ a, a < 3 → ∀ b, b < 3 → a ≠ b → (TX3 a).2.1 ≠ (TX3 b).2.1 := by decide +kernel
theorem tyX3_ok : ∀ k, k < 3 → parseFieldDescriptor (TX3 k).2.2.1 = some (tyX3 k) := by decide +kernel
abbrev cX3_init : ByteArray := prog_1_method_1_code
def yX3_init : MethodName := ⟨RX3, "<init>", "()V"⟩
abbrev cX3_add : ByteArray := prog_1_method_2_code
def yX3_add : MethodName := ⟨RX3, "add", "(III)I"⟩
abbrev cX3_move : ByteArray := prog_1_method_3_code
def yX3_move : MethodName := ⟨RX3, "move", "(II)I"⟩
abbrev cX3_flag : ByteArray := prog_1_method_4_code
def yX3_flag : MethodName := ⟨RX3, "flag", "(IIZ)Z"⟩
abbrev cX3_flagIf : ByteArray := prog_1_method_5_code
def yX3_flagIf : MethodName := ⟨RX3, "flagIf", "(IIZI)Z"⟩
abbrev cX3_destroy : ByteArray := prog_1_method_6_code
def yX3_destroy : MethodName := ⟨RX3, "destroy", "(I)I"⟩
abbrev cX3_state : ByteArray := prog_1_method_7_code
def yX3_state : MethodName := ⟨RX3, "state", "()I"⟩
abbrev cX3_mails : ByteArray := prog_1_method_8_code
def yX3_mails : MethodName := ⟨RX3, "mails", "()I"⟩
abbrev cX3_keywords : ByteArray := prog_1_method_9_code
def yX3_keywords : MethodName := ⟨RX3, "keywords", "(I)I"⟩
abbrev cX3_inThread : ByteArray := prog_1_method_10_code
def yX3_inThread : MethodName := ⟨RX3, "inThread", "(I)I"⟩
abbrev cX3_share : ByteArray := prog_1_method_11_code
def yX3_share : MethodName := ⟨RX3, "share", "(II)F"⟩
abbrev cX3_canTell : ByteArray := prog_1_method_12_code
def yX3_canTell : MethodName := ⟨RX3, "canTell", "(I)Z"⟩
abbrev cX3_changed : ByteArray := prog_1_method_13_code
def yX3_changed : MethodName := ⟨RX3, "changed", "(II)I"⟩
abbrev cX3_changedAt : ByteArray := prog_1_method_14_code
def yX3_changedAt : MethodName := ⟨RX3, "changedAt", "(III)I"⟩
abbrev cX3_page : ByteArray := prog_1_method_15_code
def yX3_page : MethodName := ⟨RX3, "page", "(II)I"⟩
abbrev cX3_found : ByteArray := prog_1_method_16_code
def yX3_found : MethodName := ⟨RX3, "found", "(II)I"⟩
abbrev cX3_foundAt : ByteArray := prog_1_method_17_code
def yX3_foundAt : MethodName := ⟨RX3, "foundAt", "(III)I"⟩
abbrev cX3_removed : ByteArray := prog_1_method_18_code
def yX3_removed : MethodName := ⟨RX3, "removed", "(III)I"⟩
abbrev cX3_added : ByteArray := prog_1_method_19_code
def yX3_added : MethodName := ⟨RX3, "added", "(III)I"⟩
abbrev cX3_watch : ByteArray := prog_1_method_20_code
def yX3_watch : MethodName := ⟨RX3, "watch", "(III)V"⟩
abbrev cX3_flagOffline : ByteArray := prog_1_method_21_code
def yX3_flagOffline : MethodName := ⟨RX3, "flagOffline", "(IIIZ)I"⟩
abbrev cX3_sync : ByteArray := prog_1_method_22_code
def yX3_sync : MethodName := ⟨RX3, "sync", "(I)I"⟩
abbrev cX3_stateOf : ByteArray := prog_1_method_23_code
def yX3_stateOf : MethodName := ⟨RX3, "stateOf", "(I)I"⟩
abbrev cX3_window : ByteArray := prog_1_method_24_code
def yX3_window : MethodName := ⟨RX3, "window", "(I)I"⟩
abbrev cX3_windowAt : ByteArray := prog_1_method_25_code
def yX3_windowAt : MethodName := ⟨RX3, "windowAt", "(II)I"⟩
abbrev cX3_known : ByteArray := prog_1_method_26_code
def yX3_known : MethodName := ⟨RX3, "known", "(II)I"⟩
abbrev cX3_freshLoads : ByteArray := prog_1_method_27_code
def yX3_freshLoads : MethodName := ⟨RX3, "freshLoads", "(I)I"⟩
abbrev cX3_isWithin : ByteArray := prog_1_method_28_code
def yX3_isWithin : MethodName := ⟨RX3, "isWithin", "(III)Z"⟩
abbrev cX3_isBox : ByteArray := prog_1_method_29_code
def yX3_isBox : MethodName := ⟨RX3, "isBox", "(I)Z"⟩
abbrev cX3_isBoxSet : ByteArray := prog_1_method_30_code
def yX3_isBoxSet : MethodName := ⟨RX3, "isBoxSet", "(I)Z"⟩
abbrev cX3_isThread : ByteArray := prog_1_method_31_code
def yX3_isThread : MethodName := ⟨RX3, "isThread", "(I)Z"⟩
abbrev cX3_isKeyword : ByteArray := prog_1_method_32_code
def yX3_isKeyword : MethodName := ⟨RX3, "isKeyword", "(I)Z"⟩
abbrev cX3_isQueryKeyword : ByteArray := prog_1_method_33_code
def yX3_isQueryKeyword : MethodName := ⟨RX3, "isQueryKeyword", "(I)Z"⟩
abbrev cX3_isWay : ByteArray := prog_1_method_34_code
def yX3_isWay : MethodName := ⟨RX3, "isWay", "(I)Z"⟩
abbrev cX3_isClient : ByteArray := prog_1_method_35_code
def yX3_isClient : MethodName := ⟨RX3, "isClient", "(I)Z"⟩
abbrev cX3_requireClient : ByteArray := prog_1_method_36_code
def yX3_requireClient : MethodName := ⟨RX3, "requireClient", "(I)V"⟩
abbrev cX3_requireMail : ByteArray := prog_1_method_37_code
def yX3_requireMail : MethodName := ⟨RX3, "requireMail", "(Z)V"⟩
abbrev cX3_requireTelling : ByteArray := prog_1_method_38_code
def yX3_requireTelling : MethodName := ⟨RX3, "requireTelling", "(I)V"⟩
abbrev cX3_isState : ByteArray := prog_1_method_39_code
def yX3_isState : MethodName := ⟨RX3, "isState", "(I)Z"⟩
abbrev cX3_clientOf : ByteArray := prog_1_method_40_code
def yX3_clientOf : MethodName := ⟨RX3, "clientOf", "(I)LMailFollower$Client;"⟩
abbrev cX3_asked : ByteArray := prog_1_method_41_code
def yX3_asked : MethodName := ⟨RX3, "asked", "(I)I"⟩
abbrev cX3_holds : ByteArray := prog_1_method_42_code
def yX3_holds : MethodName := ⟨RX3, "holds", "(JI)Z"⟩
abbrev cX3_with : ByteArray := prog_1_method_43_code
def yX3_with : MethodName := ⟨RX3, "with", "(JIZ)J"⟩
abbrev cX3_lowestAt : ByteArray := prog_1_method_44_code
def yX3_lowestAt : MethodName := ⟨RX3, "lowestAt", "(JI)I"⟩
abbrev cX3_matches : ByteArray := prog_1_method_45_code
def yX3_matches : MethodName := ⟨RX3, "matches", "(IIII)Z"⟩
def RX4 : String := "MailFollowerModel"
def TX4 : u_T := fun k => match k with
  | 0 => ("MailFollowerModel", "time", "[I", true)
  | 1 => ("MailFollowerModel", "boxes", "[I", true)
  | 2 => ("MailFollowerModel", "words", "[I", true)
  | 3 => ("MailFollowerModel", "thread", "[I", true)
  | 4 => ("MailFollowerModel", "came", "[I", true)
  | 5 => ("MailFollowerModel", "gone", "[I", true)
  | 6 => ("MailFollowerModel", "mails", "I", false)
  | 7 => ("MailFollowerModel", "kind", "[I", true)
  | 8 => ("MailFollowerModel", "of", "[I", true)
  | 9 => ("MailFollowerModel", "boxesBefore", "[I", true)
  | 10 => ("MailFollowerModel", "wordsBefore", "[I", true)
  | 11 => ("MailFollowerModel", "keyword", "[I", true)
  | 12 => ("MailFollowerModel", "isSet", "[Z", true)
  | 13 => ("MailFollowerModel", "state", "I", false)
  | 14 => ("MailFollowerModel", "box", "[I", true)
  | 15 => ("MailFollowerModel", "width", "[I", true)
  | 16 => ("MailFollowerModel", "stateOf", "[I", true)
  | 17 => ("MailFollowerModel", "windows", "[I", true)
  | 18 => ("MailFollowerModel", "windowMail", "[I", true)
  | 19 => ("MailFollowerModel", "windowWords", "[I", true)
  | 20 => ("MailFollowerModel", "flags", "[I", true)
  | 21 => ("MailFollowerModel", "flagMail", "[I", true)
  | 22 => ("MailFollowerModel", "flagWord", "[I", true)
  | 23 => ("MailFollowerModel", "flagSet", "[Z", true)
  | 24 => ("MailFollowerModel", "fresh", "[I", true)
  | _ => ("MailFollowerModel", "thrown", "I", false)
def tyX4 : Nat → FieldType := fun k => match k with
  | 0 => .array .int
  | 1 => .array .int
  | 2 => .array .int
  | 3 => .array .int
  | 4 => .array .int
  | 5 => .array .int
  | 6 => .int
  | 7 => .array .int
  | 8 => .array .int
  | 9 => .array .int
  | 10 => .array .int
  | 11 => .array .int
  | 12 => .array .boolean
  | 13 => .int
  | 14 => .array .int
  | 15 => .array .int
  | 16 => .array .int
  | 17 => .array .int
  | 18 => .array .int
  | 19 => .array .int
  | 20 => .array .int
  | 21 => .array .int
  | 22 => .array .int
  | 23 => .array .boolean
  | 24 => .array .int
  | _ => .int
abbrev wsX40 : List Cond := u_ws RX4 TX4 26
theorem nmX4 : ∀ a, a < 26 → ∀ b, b < 26 → a ≠ b → (TX4 a).2.1 ≠ (TX4 b).2.1 := by decide +kernel
theorem tyX4_ok : ∀ k, k < 26 → parseFieldDescriptor (TX4 k).2.2.1 = some (tyX4 k) := by decide +kernel
abbrev cX4_init : ByteArray := prog_6_method_1_code
def yX4_init : MethodName := ⟨RX4, "<init>", "()V"⟩
abbrev cX4_thrown : ByteArray := prog_6_method_2_code
def yX4_thrown : MethodName := ⟨RX4, "thrown", "()I"⟩
abbrev cX4_in : ByteArray := prog_6_method_3_code
def yX4_in : MethodName := ⟨RX4, "in", "(III)Z"⟩
abbrev cX4_isFine : ByteArray := prog_6_method_4_code
def yX4_isFine : MethodName := ⟨RX4, "isFine", "(I)Z"⟩
abbrev cX4_has : ByteArray := prog_6_method_5_code
def yX4_has : MethodName := ⟨RX4, "has", "(II)Z"⟩
abbrev cX4_isThere : ByteArray := prog_6_method_6_code
def yX4_isThere : MethodName := ⟨RX4, "isThere", "(I)Z"⟩
abbrev cX4_wasThere : ByteArray := prog_6_method_7_code
def yX4_wasThere : MethodName := ⟨RX4, "wasThere", "(II)Z"⟩
abbrev cX4_notes : ByteArray := prog_6_method_8_code
def yX4_notes : MethodName := ⟨RX4, "notes", "(IIIZ)V"⟩
abbrev cX4_add : ByteArray := prog_6_method_9_code
def yX4_add : MethodName := ⟨RX4, "add", "(III)I"⟩
abbrev cX4_move : ByteArray := prog_6_method_10_code
def yX4_move : MethodName := ⟨RX4, "move", "(II)I"⟩
abbrev cX4_flags : ByteArray := prog_6_method_11_code
def yX4_flags : MethodName := ⟨RX4, "flags", "(IIZ)Z"⟩
abbrev cX4_flag : ByteArray := prog_6_method_12_code
def yX4_flag : MethodName := ⟨RX4, "flag", "(IIZ)Z"⟩
abbrev cX4_flagIf : ByteArray := prog_6_method_13_code
def yX4_flagIf : MethodName := ⟨RX4, "flagIf", "(IIZI)Z"⟩
abbrev cX4_destroy : ByteArray := prog_6_method_14_code
def yX4_destroy : MethodName := ⟨RX4, "destroy", "(I)I"⟩
abbrev cX4_state : ByteArray := prog_6_method_15_code
def yX4_state : MethodName := ⟨RX4, "state", "()I"⟩
abbrev cX4_mails : ByteArray := prog_6_method_16_code
def yX4_mails : MethodName := ⟨RX4, "mails", "()I"⟩
abbrev cX4_keywords : ByteArray := prog_6_method_17_code
def yX4_keywords : MethodName := ⟨RX4, "keywords", "(I)I"⟩
abbrev cX4_inThread : ByteArray := prog_6_method_18_code
def yX4_inThread : MethodName := ⟨RX4, "inThread", "(I)I"⟩
abbrev cX4_isFound : ByteArray := prog_6_method_19_code
def yX4_isFound : MethodName := ⟨RX4, "isFound", "(III)Z"⟩
abbrev cX4_count : ByteArray := prog_6_method_20_code
def yX4_count : MethodName := ⟨RX4, "count", "(II)I"⟩
abbrev cX4_share : ByteArray := prog_6_method_21_code
def yX4_share : MethodName := ⟨RX4, "share", "(II)F"⟩
abbrev cX4_isState : ByteArray := prog_6_method_22_code
def yX4_isState : MethodName := ⟨RX4, "isState", "(I)Z"⟩
abbrev cX4_tells : ByteArray := prog_6_method_23_code
def yX4_tells : MethodName := ⟨RX4, "tells", "(I)Z"⟩
abbrev cX4_canTell : ByteArray := prog_6_method_24_code
def yX4_canTell : MethodName := ⟨RX4, "canTell", "(I)Z"⟩
abbrev cX4_isChanged : ByteArray := prog_6_method_25_code
def yX4_isChanged : MethodName := ⟨RX4, "isChanged", "(II)Z"⟩
abbrev cX4_changedSo : ByteArray := prog_6_method_26_code
def yX4_changedSo : MethodName := ⟨RX4, "changedSo", "(III)Z"⟩
abbrev cX4_placeOf : ByteArray := prog_6_method_27_code
def yX4_placeOf : MethodName := ⟨RX4, "placeOf", "(II)I"⟩
abbrev cX4_countChanged : ByteArray := prog_6_method_28_code
def yX4_countChanged : MethodName := ⟨RX4, "countChanged", "(II)I"⟩
abbrev cX4_changed : ByteArray := prog_6_method_29_code
def yX4_changed : MethodName := ⟨RX4, "changed", "(II)I"⟩
abbrev cX4_changedAt : ByteArray := prog_6_method_30_code
def yX4_changedAt : MethodName := ⟨RX4, "changedAt", "(III)I"⟩
abbrev cX4_page : ByteArray := prog_6_method_31_code
def yX4_page : MethodName := ⟨RX4, "page", "(II)I"⟩
abbrev cX4_isQuery : ByteArray := prog_6_method_32_code
def yX4_isQuery : MethodName := ⟨RX4, "isQuery", "(II)Z"⟩
abbrev cX4_found : ByteArray := prog_6_method_33_code
def yX4_found : MethodName := ⟨RX4, "found", "(II)I"⟩
abbrev cX4_foundOne : ByteArray := prog_6_method_34_code
def yX4_foundOne : MethodName := ⟨RX4, "foundOne", "(III)I"⟩
abbrev cX4_foundAt : ByteArray := prog_6_method_35_code
def yX4_foundAt : MethodName := ⟨RX4, "foundAt", "(III)I"⟩
abbrev cX4_wasFound : ByteArray := prog_6_method_36_code
def yX4_wasFound : MethodName := ⟨RX4, "wasFound", "(IIII)Z"⟩
abbrev cX4_removed : ByteArray := prog_6_method_37_code
def yX4_removed : MethodName := ⟨RX4, "removed", "(III)I"⟩
abbrev cX4_added : ByteArray := prog_6_method_38_code
def yX4_added : MethodName := ⟨RX4, "added", "(III)I"⟩
abbrev cX4_isClient : ByteArray := prog_6_method_39_code
def yX4_isClient : MethodName := ⟨RX4, "isClient", "(I)Z"⟩
abbrev cX4_watch : ByteArray := prog_6_method_40_code
def yX4_watch : MethodName := ⟨RX4, "watch", "(III)V"⟩
abbrev cX4_windowPlace : ByteArray := prog_6_method_41_code
def yX4_windowPlace : MethodName := ⟨RX4, "windowPlace", "(II)I"⟩
abbrev cX4_flagOffline : ByteArray := prog_6_method_42_code
def yX4_flagOffline : MethodName := ⟨RX4, "flagOffline", "(IIIZ)I"⟩
abbrev cX4_isOtherwise : ByteArray := prog_6_method_43_code
def yX4_isOtherwise : MethodName := ⟨RX4, "isOtherwise", "(IIZII)Z"⟩
abbrev cX4_takes : ByteArray := prog_6_method_44_code
def yX4_takes : MethodName := ⟨RX4, "takes", "(I)V"⟩
abbrev cX4_sync : ByteArray := prog_6_method_45_code
def yX4_sync : MethodName := ⟨RX4, "sync", "(I)I"⟩
abbrev cX4_stateOf : ByteArray := prog_6_method_46_code
def yX4_stateOf : MethodName := ⟨RX4, "stateOf", "(I)I"⟩
abbrev cX4_window : ByteArray := prog_6_method_47_code
def yX4_window : MethodName := ⟨RX4, "window", "(I)I"⟩
abbrev cX4_windowAt : ByteArray := prog_6_method_48_code
def yX4_windowAt : MethodName := ⟨RX4, "windowAt", "(II)I"⟩
abbrev cX4_known : ByteArray := prog_6_method_49_code
def yX4_known : MethodName := ⟨RX4, "known", "(II)I"⟩
abbrev cX4_freshLoads : ByteArray := prog_6_method_50_code
def yX4_freshLoads : MethodName := ⟨RX4, "freshLoads", "(I)I"⟩
def RJ13 : String := "java/lang/Long"
def TJ13 : u_T := fun k => match k with
  | _ => ("", "", "", false)
def tyJ13 : Nat → FieldType := fun k => match k with
  | _ => .int
abbrev wsJ130 : List Cond := u_ws RJ13 TJ13 0
theorem nmJ13 : ∀ a, a < 0 → ∀ b, b < 0 → a ≠ b → (TJ13 a).2.1 ≠ (TJ13 b).2.1 := by decide +kernel
theorem tyJ13_ok : ∀ k, k < 0 → parseFieldDescriptor (TJ13 k).2.2.1 = some (tyJ13 k) := by decide +kernel
abbrev cJ13_bitCount_95d88 : ByteArray := prog_11_method_50_code
def yJ13_bitCount_95d88 : MethodName := ⟨RJ13, "bitCount", "(J)I"⟩
def RJ9 : String := "java/lang/Math"
def TJ9 : u_T := fun k => match k with
  | _ => ("", "", "", false)
def tyJ9 : Nat → FieldType := fun k => match k with
  | _ => .int
abbrev wsJ90 : List Cond := u_ws RJ9 TJ9 0
theorem nmJ9 : ∀ a, a < 0 → ∀ b, b < 0 → a ≠ b → (TJ9 a).2.1 ≠ (TJ9 b).2.1 := by decide +kernel
theorem tyJ9_ok : ∀ k, k < 0 → parseFieldDescriptor (TJ9 k).2.2.1 = some (tyJ9 k) := by decide +kernel
abbrev cJ9_floorMod_7cf53 : ByteArray := prog_12_method_50_code
def yJ9_floorMod_7cf53 : MethodName := ⟨RJ9, "floorMod", "(II)I"⟩
abbrev cJ9_min_7cf53 : ByteArray := prog_12_method_69_code
def yJ9_min_7cf53 : MethodName := ⟨RJ9, "min", "(II)I"⟩
def RJ0 : String := "java/lang/String"
def TJ0 : u_T := fun k => match k with
  | _ => ("", "", "", false)
def tyJ0 : Nat → FieldType := fun k => match k with
  | _ => .int
abbrev wsJ00 : List Cond := u_ws RJ0 TJ0 0
theorem nmJ0 : ∀ a, a < 0 → ∀ b, b < 0 → a ≠ b → (TJ0 a).2.1 ≠ (TJ0 b).2.1 := by decide +kernel
theorem tyJ0_ok : ∀ k, k < 0 → parseFieldDescriptor (TJ0 k).2.2.1 = some (tyJ0 k) := by decide +kernel
def RL : String := "MailFollowerLaw"
abbrev cL_add : ByteArray := method_3_code
def yL_add : MethodName := ⟨RL, "add", "(LMailFollower;III[J)I"⟩
abbrev cL_move : ByteArray := method_4_code
def yL_move : MethodName := ⟨RL, "move", "(LMailFollower;II[J)I"⟩
abbrev cL_flag : ByteArray := method_5_code
def yL_flag : MethodName := ⟨RL, "flag", "(LMailFollower;IIZ[J)I"⟩
abbrev cL_flagIf : ByteArray := method_6_code
def yL_flagIf : MethodName := ⟨RL, "flagIf", "(LMailFollower;IIZI[J)I"⟩
abbrev cL_destroy : ByteArray := method_7_code
def yL_destroy : MethodName := ⟨RL, "destroy", "(LMailFollower;I[J)I"⟩
abbrev cL_keywords : ByteArray := method_8_code
def yL_keywords : MethodName := ⟨RL, "keywords", "(LMailFollower;I[J)I"⟩
abbrev cL_inThread : ByteArray := method_9_code
def yL_inThread : MethodName := ⟨RL, "inThread", "(LMailFollower;I[J)I"⟩
abbrev cL_share : ByteArray := method_10_code
def yL_share : MethodName := ⟨RL, "share", "(LMailFollower;II[D)I"⟩
abbrev cL_canTell : ByteArray := method_11_code
def yL_canTell : MethodName := ⟨RL, "canTell", "(LMailFollower;I[J)I"⟩
abbrev cL_changed : ByteArray := method_12_code
def yL_changed : MethodName := ⟨RL, "changed", "(LMailFollower;II[J)I"⟩
abbrev cL_changedAt : ByteArray := method_13_code
def yL_changedAt : MethodName := ⟨RL, "changedAt", "(LMailFollower;III[J)I"⟩
abbrev cL_page : ByteArray := method_14_code
def yL_page : MethodName := ⟨RL, "page", "(LMailFollower;II[J)I"⟩
abbrev cL_found : ByteArray := method_15_code
def yL_found : MethodName := ⟨RL, "found", "(LMailFollower;II[J)I"⟩
abbrev cL_foundAt : ByteArray := method_16_code
def yL_foundAt : MethodName := ⟨RL, "foundAt", "(LMailFollower;III[J)I"⟩
abbrev cL_removed : ByteArray := method_17_code
def yL_removed : MethodName := ⟨RL, "removed", "(LMailFollower;III[J)I"⟩
abbrev cL_added : ByteArray := method_18_code
def yL_added : MethodName := ⟨RL, "added", "(LMailFollower;III[J)I"⟩
abbrev cL_watch : ByteArray := method_19_code
def yL_watch : MethodName := ⟨RL, "watch", "(LMailFollower;III)I"⟩
abbrev cL_flagOffline : ByteArray := method_20_code
def yL_flagOffline : MethodName := ⟨RL, "flagOffline", "(LMailFollower;IIIZ[J)I"⟩
abbrev cL_sync : ByteArray := method_21_code
def yL_sync : MethodName := ⟨RL, "sync", "(LMailFollower;I[J)I"⟩
abbrev cL_stateOf : ByteArray := method_22_code
def yL_stateOf : MethodName := ⟨RL, "stateOf", "(LMailFollower;I[J)I"⟩
abbrev cL_window : ByteArray := method_23_code
def yL_window : MethodName := ⟨RL, "window", "(LMailFollower;I[J)I"⟩
abbrev cL_windowAt : ByteArray := method_24_code
def yL_windowAt : MethodName := ⟨RL, "windowAt", "(LMailFollower;II[J)I"⟩
abbrev cL_known : ByteArray := method_25_code
def yL_known : MethodName := ⟨RL, "known", "(LMailFollower;II[J)I"⟩
abbrev cL_freshLoads : ByteArray := method_26_code
def yL_freshLoads : MethodName := ⟨RL, "freshLoads", "(LMailFollower;I[J)I"⟩
abbrev cL_law : ByteArray := code
def yL_law : MethodName := ⟨RL, "law", "([I)Z"⟩
abbrev vwCl : List vw_C := [(RX0, TX0, 5), (RX1, TX1, 11), (RX2, TX2, 7), (RX3, TX3, 3), (RX4, TX4, 26)]
/-! words: the good ones of the tables, one list for every method -/
def WA : List Cond := lw_tbl.filter goodWord
theorem tb_1 {w : Cond} (h : w ∈ tables_1_1) (hg : goodWord w = true) : w ∈ WA := List.mem_filter.mpr ⟨List.mem_append_right _ (show w ∈ tables_1_1 ++ (tables_1_2 ++ (tables_1_3 ++ tables_1_4)) from List.mem_append_left _ h), hg⟩
theorem tb_2 {w : Cond} (h : w ∈ tables_1_2) (hg : goodWord w = true) : w ∈ WA := List.mem_filter.mpr ⟨List.mem_append_right _ (show w ∈ tables_1_1 ++ (tables_1_2 ++ (tables_1_3 ++ tables_1_4)) from List.mem_append_right _ (List.mem_append_left _ h)), hg⟩
theorem tb_3 {w : Cond} (h : w ∈ tables_1_3) (hg : goodWord w = true) : w ∈ WA := List.mem_filter.mpr ⟨List.mem_append_right _ (show w ∈ tables_1_1 ++ (tables_1_2 ++ (tables_1_3 ++ tables_1_4)) from List.mem_append_right _ (List.mem_append_right _ (List.mem_append_left _ h))), hg⟩
theorem tb_4 {w : Cond} (h : w ∈ tables_1_4) (hg : goodWord w = true) : w ∈ WA := List.mem_filter.mpr ⟨List.mem_append_right _ (show w ∈ tables_1_1 ++ (tables_1_2 ++ (tables_1_3 ++ tables_1_4)) from List.mem_append_right _ (List.mem_append_right _ (List.mem_append_right _ h))), hg⟩
theorem tb_p {w : Cond} (h : w ∈ k2_sels lw_privs) (hg : goodWord w = true) : w ∈ WA := List.mem_filter.mpr ⟨List.mem_append_left _ h, hg⟩
theorem wd_0 : (.initialized RL : Cond) ∈ WA := tb_1 (List.mem_of_getElem? (i := 0) rfl) rfl
theorem wd_1 : (.initialized RX3 : Cond) ∈ WA := tb_1 (List.mem_of_getElem? (i := 1) rfl) rfl
theorem wd_2 : (.initialized RX2 : Cond) ∈ WA := tb_1 (List.mem_of_getElem? (i := 2) rfl) rfl
theorem wd_3 : (.initialized RX0 : Cond) ∈ WA := tb_1 (List.mem_of_getElem? (i := 3) rfl) rfl
theorem wd_4 : (.initialized RX1 : Cond) ∈ WA := tb_1 (List.mem_of_getElem? (i := 4) rfl) rfl
theorem wd_5 : (.initialized RX4 : Cond) ∈ WA := tb_1 (List.mem_of_getElem? (i := 5) rfl) rfl
theorem wd_6 : (.initialized "java/lang/Throwable" : Cond) ∈ WA := tb_1 (List.mem_of_getElem? (i := 6) rfl) rfl
theorem wd_7 : (.initialized "java/lang/Exception" : Cond) ∈ WA := tb_1 (List.mem_of_getElem? (i := 7) rfl) rfl
theorem wd_8 : (.initialized "java/lang/RuntimeException" : Cond) ∈ WA := tb_1 (List.mem_of_getElem? (i := 8) rfl) rfl
theorem wd_9 : (.initialized "java/lang/IllegalArgumentException" : Cond) ∈ WA := tb_1 (List.mem_of_getElem? (i := 9) rfl) rfl
theorem wd_10 : (.initialized "java/lang/IllegalStateException" : Cond) ∈ WA := tb_1 (List.mem_of_getElem? (i := 10) rfl) rfl
theorem wd_11 : (.initialized RJ9 : Cond) ∈ WA := tb_1 (List.mem_of_getElem? (i := 11) rfl) rfl
theorem wd_12 : (.initialized "java/lang/IndexOutOfBoundsException" : Cond) ∈ WA := tb_1 (List.mem_of_getElem? (i := 12) rfl) rfl
theorem wd_13 : (.initialized RJ13 : Cond) ∈ WA := tb_1 (List.mem_of_getElem? (i := 13) rfl) rfl
theorem wd_14 : (.classLink RL 8 "MailFollower" : Cond) ∈ WA := tb_1 (List.mem_of_getElem? (i := 14) rfl) rfl
theorem wd_15 : (.instantiable RX3 3 : Cond) ∈ WA := tb_1 (List.mem_of_getElem? (i := 15) rfl) rfl
theorem wd_16 : (.methodLink RL 96 yX3_init : Cond) ∈ WA := tb_1 (List.mem_of_getElem? (i := 16) rfl) rfl
theorem wd_17 : (.instanceMethod yX3_init : Cond) ∈ WA := tb_1 (List.mem_of_getElem? (i := 17) rfl) rfl
theorem wd_18 : (.code yX3_init cX3_init 1 none : Cond) ∈ WA := tb_1 (List.mem_of_getElem? (i := 18) rfl) rfl
theorem wd_19 : (.methodLink RX3 1 objectInit : Cond) ∈ WA := tb_1 (List.mem_of_getElem? (i := 19) rfl) rfl
theorem wd_20 : (.instanceMethod objectInit : Cond) ∈ WA := tb_1 (List.mem_of_getElem? (i := 20) rfl) rfl
theorem wd_21 : (.code objectInit ⟨#[0xb1]⟩ 1 none : Cond) ∈ WA := tb_1 (List.mem_of_getElem? (i := 21) rfl) rfl
theorem wd_22 : (.classLink RX3 7 "MailFollower$Server" : Cond) ∈ WA := tb_1 (List.mem_of_getElem? (i := 22) rfl) rfl
theorem wd_23 : (.instantiable RX2 7 : Cond) ∈ WA := tb_1 (List.mem_of_getElem? (i := 23) rfl) rfl
theorem wd_24 : (.methodLink RX3 9 yX2_init : Cond) ∈ WA := tb_1 (List.mem_of_getElem? (i := 24) rfl) rfl
theorem wd_25 : (.instanceMethod yX2_init : Cond) ∈ WA := tb_1 (List.mem_of_getElem? (i := 25) rfl) rfl
theorem wd_26 : (.code yX2_init cX2_init 1 none : Cond) ∈ WA := tb_1 (List.mem_of_getElem? (i := 26) rfl) rfl
theorem wd_27 : (.methodLink RX2 3 objectInit : Cond) ∈ WA := tb_1 (List.mem_of_getElem? (i := 27) rfl) rfl
theorem wd_28 : (.classLink RX2 27 "MailFollower$Changes" : Cond) ∈ WA := tb_1 (List.mem_of_getElem? (i := 28) rfl) rfl
theorem wd_29 : (.instantiable RX0 5 : Cond) ∈ WA := tb_1 (List.mem_of_getElem? (i := 29) rfl) rfl
theorem wd_30 : (.methodLink RX2 29 yX0_init : Cond) ∈ WA := tb_1 (List.mem_of_getElem? (i := 30) rfl) rfl
theorem wd_31 : (.instanceMethod yX0_init : Cond) ∈ WA := tb_1 (List.mem_of_getElem? (i := 31) rfl) rfl
theorem wd_32 : (.code yX0_init cX0_init 1 none : Cond) ∈ WA := tb_1 (List.mem_of_getElem? (i := 32) rfl) rfl
theorem wd_33 : (.methodLink RX0 3 objectInit : Cond) ∈ WA := tb_1 (List.mem_of_getElem? (i := 33) rfl) rfl
theorem wd_34 : (.fieldLink RX0 9 "MailFollower$Changes" "mailRow" "[I" : Cond) ∈ WA := tb_1 (List.mem_of_getElem? (i := 34) rfl) rfl
theorem wd_35 : (.fieldLink RX0 15 "MailFollower$Changes" "boxesBefore" "[I" : Cond) ∈ WA := tb_1 (List.mem_of_getElem? (i := 35) rfl) rfl
theorem wd_36 : (.fieldLink RX0 18 "MailFollower$Changes" "keywordsBefore" "[I" : Cond) ∈ WA := tb_1 (List.mem_of_getElem? (i := 36) rfl) rfl
theorem wd_37 : (.fieldLink RX0 21 "MailFollower$Changes" "keywordsAfter" "[I" : Cond) ∈ WA := tb_1 (List.mem_of_getElem? (i := 37) rfl) rfl
theorem wd_38 : (.fieldLink RX0 30 "MailFollower$Changes" "latest" "I" : Cond) ∈ WA := tb_1 (List.mem_of_getElem? (i := 38) rfl) rfl
theorem wd_41 : (.laysFinal RX0 "MailFollower$Changes" "mailRow" "[I" : Cond) ∈ WA := tb_1 (List.mem_of_getElem? (i := 41) rfl) rfl
theorem wd_43 : (.laysFinal RX0 "MailFollower$Changes" "boxesBefore" "[I" : Cond) ∈ WA := tb_1 (List.mem_of_getElem? (i := 43) rfl) rfl
theorem wd_45 : (.laysFinal RX0 "MailFollower$Changes" "keywordsBefore" "[I" : Cond) ∈ WA := tb_1 (List.mem_of_getElem? (i := 45) rfl) rfl
theorem wd_47 : (.laysFinal RX0 "MailFollower$Changes" "keywordsAfter" "[I" : Cond) ∈ WA := tb_1 (List.mem_of_getElem? (i := 47) rfl) rfl
theorem wd_49 : (.lays RX0 "MailFollower$Changes" "latest" "I" : Cond) ∈ WA := tb_1 (List.mem_of_getElem? (i := 49) rfl) rfl
theorem wd_51 : (.superclass RX0 "java/lang/Object" : Cond) ∈ WA := tb_1 (List.mem_of_getElem? (i := 51) rfl) rfl
theorem wd_52 : (.arrayClass .int : Cond) ∈ WA := tb_1 (List.mem_of_getElem? (i := 52) rfl) rfl
theorem wd_53 : (.fieldLink RX2 9 "MailFollower$Server" "times" "[I" : Cond) ∈ WA := tb_1 (List.mem_of_getElem? (i := 53) rfl) rfl
theorem wd_54 : (.fieldLink RX2 15 "MailFollower$Server" "threads" "[I" : Cond) ∈ WA := tb_1 (List.mem_of_getElem? (i := 54) rfl) rfl
theorem wd_55 : (.fieldLink RX2 18 "MailFollower$Server" "boxRow" "[I" : Cond) ∈ WA := tb_1 (List.mem_of_getElem? (i := 55) rfl) rfl
theorem wd_56 : (.fieldLink RX2 21 "MailFollower$Server" "keywordRow" "[I" : Cond) ∈ WA := tb_1 (List.mem_of_getElem? (i := 56) rfl) rfl
theorem wd_57 : (.fieldLink RX2 24 "MailFollower$Server" "order" "[I" : Cond) ∈ WA := tb_1 (List.mem_of_getElem? (i := 57) rfl) rfl
theorem wd_58 : (.fieldLink RX2 30 "MailFollower$Server" "changes" "LMailFollower$Changes;" : Cond) ∈ WA := tb_1 (List.mem_of_getElem? (i := 58) rfl) rfl
theorem wd_62 : (.fieldLink RX2 42 "MailFollower$Server" "come" "I" : Cond) ∈ WA := tb_1 (List.mem_of_getElem? (i := 62) rfl) rfl
theorem wd_63 : (.laysFinal RX2 "MailFollower$Server" "times" "[I" : Cond) ∈ WA := tb_1 (List.mem_of_getElem? (i := 63) rfl) rfl
theorem wd_65 : (.laysFinal RX2 "MailFollower$Server" "threads" "[I" : Cond) ∈ WA := tb_1 (List.mem_of_getElem? (i := 65) rfl) rfl
theorem wd_67 : (.laysFinal RX2 "MailFollower$Server" "boxRow" "[I" : Cond) ∈ WA := tb_1 (List.mem_of_getElem? (i := 67) rfl) rfl
theorem wd_69 : (.laysFinal RX2 "MailFollower$Server" "keywordRow" "[I" : Cond) ∈ WA := tb_1 (List.mem_of_getElem? (i := 69) rfl) rfl
theorem wd_71 : (.laysFinal RX2 "MailFollower$Server" "order" "[I" : Cond) ∈ WA := tb_1 (List.mem_of_getElem? (i := 71) rfl) rfl
theorem wd_73 : (.laysFinal RX2 "MailFollower$Server" "changes" "LMailFollower$Changes;" : Cond) ∈ WA := tb_1 (List.mem_of_getElem? (i := 73) rfl) rfl
theorem wd_75 : (.lays RX2 "MailFollower$Server" "come" "I" : Cond) ∈ WA := tb_1 (List.mem_of_getElem? (i := 75) rfl) rfl
theorem wd_77 : (.superclass RX2 "java/lang/Object" : Cond) ∈ WA := tb_1 (List.mem_of_getElem? (i := 77) rfl) rfl
theorem wd_78 : (.classLink RX3 16 "MailFollower$Client" : Cond) ∈ WA := tb_1 (List.mem_of_getElem? (i := 78) rfl) rfl
theorem wd_79 : (.instantiable RX1 11 : Cond) ∈ WA := tb_1 (List.mem_of_getElem? (i := 79) rfl) rfl
theorem wd_80 : (.methodLink RX3 18 yX1_init : Cond) ∈ WA := tb_1 (List.mem_of_getElem? (i := 80) rfl) rfl
theorem wd_81 : (.instanceMethod yX1_init : Cond) ∈ WA := tb_1 (List.mem_of_getElem? (i := 81) rfl) rfl
theorem wd_82 : (.code yX1_init cX1_init 1 none : Cond) ∈ WA := tb_1 (List.mem_of_getElem? (i := 82) rfl) rfl
theorem wd_83 : (.methodLink RX1 3 objectInit : Cond) ∈ WA := tb_1 (List.mem_of_getElem? (i := 83) rfl) rfl
theorem wd_84 : (.fieldLink RX1 82 "MailFollower$Client" "box" "I" : Cond) ∈ WA := tb_1 (List.mem_of_getElem? (i := 84) rfl) rfl
theorem wd_86 : (.fieldLink RX1 9 "MailFollower$Client" "width" "I" : Cond) ∈ WA := tb_1 (List.mem_of_getElem? (i := 86) rfl) rfl
theorem wd_88 : (.fieldLink RX1 63 "MailFollower$Client" "syncState" "I" : Cond) ∈ WA := tb_1 (List.mem_of_getElem? (i := 88) rfl) rfl
theorem wd_91 : (.fieldLink RX1 15 "MailFollower$Client" "windowMails" "[I" : Cond) ∈ WA := tb_1 (List.mem_of_getElem? (i := 91) rfl) rfl
theorem wd_93 : (.fieldLink RX1 19 "MailFollower$Client" "windowKeywords" "[I" : Cond) ∈ WA := tb_1 (List.mem_of_getElem? (i := 93) rfl) rfl
theorem wd_95 : (.fieldLink RX1 32 "MailFollower$Client" "windowSize" "I" : Cond) ∈ WA := tb_1 (List.mem_of_getElem? (i := 95) rfl) rfl
theorem wd_97 : (.fieldLink RX1 22 "MailFollower$Client" "flagMails" "[I" : Cond) ∈ WA := tb_1 (List.mem_of_getElem? (i := 97) rfl) rfl
theorem wd_98 : (.fieldLink RX1 25 "MailFollower$Client" "flagKeywords" "[I" : Cond) ∈ WA := tb_1 (List.mem_of_getElem? (i := 98) rfl) rfl
theorem wd_99 : (.fieldLink RX1 28 "MailFollower$Client" "flagSets" "[Z" : Cond) ∈ WA := tb_1 (List.mem_of_getElem? (i := 99) rfl) rfl
theorem wd_100 : (.fieldLink RX1 47 "MailFollower$Client" "flags" "I" : Cond) ∈ WA := tb_1 (List.mem_of_getElem? (i := 100) rfl) rfl
theorem wd_102 : (.lays RX1 "MailFollower$Client" "box" "I" : Cond) ∈ WA := tb_1 (List.mem_of_getElem? (i := 102) rfl) rfl
theorem wd_104 : (.lays RX1 "MailFollower$Client" "width" "I" : Cond) ∈ WA := tb_1 (List.mem_of_getElem? (i := 104) rfl) rfl
theorem wd_106 : (.lays RX1 "MailFollower$Client" "syncState" "I" : Cond) ∈ WA := tb_1 (List.mem_of_getElem? (i := 106) rfl) rfl
theorem wd_108 : (.lays RX1 "MailFollower$Client" "loads" "I" : Cond) ∈ WA := tb_1 (List.mem_of_getElem? (i := 108) rfl) rfl
theorem wd_110 : (.laysFinal RX1 "MailFollower$Client" "windowMails" "[I" : Cond) ∈ WA := tb_1 (List.mem_of_getElem? (i := 110) rfl) rfl
theorem wd_112 : (.laysFinal RX1 "MailFollower$Client" "windowKeywords" "[I" : Cond) ∈ WA := tb_1 (List.mem_of_getElem? (i := 112) rfl) rfl
theorem wd_114 : (.lays RX1 "MailFollower$Client" "windowSize" "I" : Cond) ∈ WA := tb_1 (List.mem_of_getElem? (i := 114) rfl) rfl
theorem wd_116 : (.laysFinal RX1 "MailFollower$Client" "flagMails" "[I" : Cond) ∈ WA := tb_1 (List.mem_of_getElem? (i := 116) rfl) rfl
theorem wd_118 : (.laysFinal RX1 "MailFollower$Client" "flagKeywords" "[I" : Cond) ∈ WA := tb_1 (List.mem_of_getElem? (i := 118) rfl) rfl
theorem wd_120 : (.laysFinal RX1 "MailFollower$Client" "flagSets" "[Z" : Cond) ∈ WA := tb_1 (List.mem_of_getElem? (i := 120) rfl) rfl
theorem wd_122 : (.lays RX1 "MailFollower$Client" "flags" "I" : Cond) ∈ WA := tb_1 (List.mem_of_getElem? (i := 122) rfl) rfl
theorem wd_124 : (.superclass RX1 "java/lang/Object" : Cond) ∈ WA := tb_1 (List.mem_of_getElem? (i := 124) rfl) rfl
theorem wd_125 : (.arrayClass .boolean : Cond) ∈ WA := tb_1 (List.mem_of_getElem? (i := 125) rfl) rfl
theorem wd_126 : (.fieldLink RX3 10 "MailFollower" "server" "LMailFollower$Server;" : Cond) ∈ WA := tb_1 (List.mem_of_getElem? (i := 126) rfl) rfl
theorem wd_127 : (.fieldLink RX3 19 "MailFollower" "firstClient" "LMailFollower$Client;" : Cond) ∈ WA := tb_1 (List.mem_of_getElem? (i := 127) rfl) rfl
theorem wd_128 : (.fieldLink RX3 23 "MailFollower" "secondClient" "LMailFollower$Client;" : Cond) ∈ WA := tb_1 (List.mem_of_getElem? (i := 128) rfl) rfl
theorem wd_129 : (.laysFinal RX3 "MailFollower" "server" "LMailFollower$Server;" : Cond) ∈ WA := tb_1 (List.mem_of_getElem? (i := 129) rfl) rfl
theorem wd_131 : (.laysFinal RX3 "MailFollower" "firstClient" "LMailFollower$Client;" : Cond) ∈ WA := tb_1 (List.mem_of_getElem? (i := 131) rfl) rfl
theorem wd_133 : (.laysFinal RX3 "MailFollower" "secondClient" "LMailFollower$Client;" : Cond) ∈ WA := tb_1 (List.mem_of_getElem? (i := 133) rfl) rfl
theorem wd_135 : (.superclass RX3 "java/lang/Object" : Cond) ∈ WA := tb_1 (List.mem_of_getElem? (i := 135) rfl) rfl
theorem wd_136 : (.methodLink RL 126 yX3_state : Cond) ∈ WA := tb_1 (List.mem_of_getElem? (i := 136) rfl) rfl
theorem wd_137 : (.instanceMethod yX3_state : Cond) ∈ WA := tb_1 (List.mem_of_getElem? (i := 137) rfl) rfl
theorem wd_138 : (.selects RX3 yX3_state yX3_state : Cond) ∈ WA := tb_1 (List.mem_of_getElem? (i := 138) rfl) rfl
theorem wd_139 : (.code yX3_state cX3_state 1 (some .int) : Cond) ∈ WA := tb_1 (List.mem_of_getElem? (i := 139) rfl) rfl
theorem wd_140 : (.methodLink RL 130 yX3_mails : Cond) ∈ WA := tb_1 (List.mem_of_getElem? (i := 140) rfl) rfl
theorem wd_141 : (.instanceMethod yX3_mails : Cond) ∈ WA := tb_1 (List.mem_of_getElem? (i := 141) rfl) rfl
theorem wd_142 : (.selects RX3 yX3_mails yX3_mails : Cond) ∈ WA := tb_1 (List.mem_of_getElem? (i := 142) rfl) rfl
theorem wd_143 : (.code yX3_mails cX3_mails 1 (some .int) : Cond) ∈ WA := tb_1 (List.mem_of_getElem? (i := 143) rfl) rfl
theorem wd_144 : (.methodLink RX3 96 yX2_matching : Cond) ∈ WA := tb_1 (List.mem_of_getElem? (i := 144) rfl) rfl
theorem wd_145 : (.instanceMethod yX2_matching : Cond) ∈ WA := tb_1 (List.mem_of_getElem? (i := 145) rfl) rfl
theorem wd_146 : (.selects RX2 yX2_matching yX2_matching : Cond) ∈ WA := tb_1 (List.mem_of_getElem? (i := 146) rfl) rfl
theorem wd_147 : (.code yX2_matching cX2_matching 6 (some .long) : Cond) ∈ WA := tb_1 (List.mem_of_getElem? (i := 147) rfl) rfl
theorem wd_149 : (.static yX3_matches : Cond) ∈ WA := tb_1 (List.mem_of_getElem? (i := 149) rfl) rfl
theorem wd_150 : (.code yX3_matches cX3_matches 4 (some .boolean) : Cond) ∈ WA := tb_1 (List.mem_of_getElem? (i := 150) rfl) rfl
theorem wd_152 : (.static yX3_with : Cond) ∈ WA := tb_1 (List.mem_of_getElem? (i := 152) rfl) rfl
theorem wd_153 : (.code yX3_with cX3_with 4 (some .long) : Cond) ∈ WA := tb_1 (List.mem_of_getElem? (i := 153) rfl) rfl
theorem wd_154 : (.constantLong RX3 161 (-1) : Cond) ∈ WA := tb_1 (List.mem_of_getElem? (i := 154) rfl) rfl
theorem wd_155 : (.methodLink RX3 100 yJ13_bitCount_95d88 : Cond) ∈ WA := tb_1 (List.mem_of_getElem? (i := 155) rfl) rfl
theorem wd_156 : (.static yJ13_bitCount_95d88 : Cond) ∈ WA := tb_1 (List.mem_of_getElem? (i := 156) rfl) rfl
theorem wd_157 : (.code yJ13_bitCount_95d88 cJ13_bitCount_95d88 2 (some .int) : Cond) ∈ WA := tb_1 (List.mem_of_getElem? (i := 157) rfl) rfl
theorem wd_158 : (.constantLong RJ13 314 (6148914691236517205) : Cond) ∈ WA := tb_1 (List.mem_of_getElem? (i := 158) rfl) rfl
theorem wd_159 : (.constantLong RJ13 316 (3689348814741910323) : Cond) ∈ WA := tb_1 (List.mem_of_getElem? (i := 159) rfl) rfl
theorem wd_160 : (.constantLong RJ13 318 (1085102592571150095) : Cond) ∈ WA := tb_1 (List.mem_of_getElem? (i := 160) rfl) rfl
theorem wd_161 : (.methodLink RL 100 yL_add : Cond) ∈ WA := tb_1 (List.mem_of_getElem? (i := 161) rfl) rfl
theorem wd_162 : (.static yL_add : Cond) ∈ WA := tb_1 (List.mem_of_getElem? (i := 162) rfl) rfl
theorem wd_163 : (.codeWith yL_add cL_add 6 (some .int) [(0, 12, 15, 13), (0, 12, 19, 15)] : Cond) ∈ WA := tb_1 (List.mem_of_getElem? (i := 163) rfl) rfl
theorem wd_164 : (.classLink RL 13 "java/lang/IllegalArgumentException" : Cond) ∈ WA := tb_1 (List.mem_of_getElem? (i := 164) rfl) rfl
theorem wd_165 : (.classLink RL 15 "java/lang/IllegalStateException" : Cond) ∈ WA := tb_1 (List.mem_of_getElem? (i := 165) rfl) rfl
theorem wd_166 : (.methodLink RL 7 yX3_add : Cond) ∈ WA := tb_1 (List.mem_of_getElem? (i := 166) rfl) rfl
theorem wd_167 : (.instanceMethod yX3_add : Cond) ∈ WA := tb_1 (List.mem_of_getElem? (i := 167) rfl) rfl
theorem wd_168 : (.selects RX3 yX3_add yX3_add : Cond) ∈ WA := tb_1 (List.mem_of_getElem? (i := 168) rfl) rfl
theorem wd_169 : (.code yX3_add cX3_add 4 (some .int) : Cond) ∈ WA := tb_1 (List.mem_of_getElem? (i := 169) rfl) rfl
theorem wd_170 : (.methodLink RX3 26 yX3_isWithin : Cond) ∈ WA := tb_1 (List.mem_of_getElem? (i := 170) rfl) rfl
theorem wd_171 : (.static yX3_isWithin : Cond) ∈ WA := tb_1 (List.mem_of_getElem? (i := 171) rfl) rfl
theorem wd_172 : (.code yX3_isWithin cX3_isWithin 3 (some .boolean) : Cond) ∈ WA := tb_1 (List.mem_of_getElem? (i := 172) rfl) rfl
theorem wd_173 : (.methodLink RX3 30 yX3_isBoxSet : Cond) ∈ WA := tb_1 (List.mem_of_getElem? (i := 173) rfl) rfl
theorem wd_174 : (.static yX3_isBoxSet : Cond) ∈ WA := tb_1 (List.mem_of_getElem? (i := 174) rfl) rfl
theorem wd_175 : (.code yX3_isBoxSet cX3_isBoxSet 1 (some .boolean) : Cond) ∈ WA := tb_1 (List.mem_of_getElem? (i := 175) rfl) rfl
theorem wd_176 : (.methodLink RX3 34 yX3_isThread : Cond) ∈ WA := tb_1 (List.mem_of_getElem? (i := 176) rfl) rfl
theorem wd_177 : (.static yX3_isThread : Cond) ∈ WA := tb_1 (List.mem_of_getElem? (i := 177) rfl) rfl
theorem wd_178 : (.code yX3_isThread cX3_isThread 1 (some .boolean) : Cond) ∈ WA := tb_1 (List.mem_of_getElem? (i := 178) rfl) rfl
theorem wd_179 : (.classLink RX3 37 "java/lang/IllegalArgumentException" : Cond) ∈ WA := tb_1 (List.mem_of_getElem? (i := 179) rfl) rfl
theorem wd_180 : (.instantiable "java/lang/IllegalArgumentException" 6 : Cond) ∈ WA := tb_1 (List.mem_of_getElem? (i := 180) rfl) rfl
theorem wd_188 : (.selects "java/lang/IllegalArgumentException" ⟨"java/lang/Throwable", "fillInStackTrace", "(I)Ljava/lang/Throwable;"⟩ ⟨"java/lang/Throwable", "fillInStackTrace", "(I)Ljava/lang/Throwable;"⟩ : Cond) ∈ WA := tb_1 (List.mem_of_getElem? (i := 188) rfl) rfl
theorem wd_189 : (.selects "java/lang/IllegalArgumentException" ⟨"java/lang/Throwable", "fillInStackTrace", "()Ljava/lang/Throwable;"⟩ ⟨"java/lang/Throwable", "fillInStackTrace", "()Ljava/lang/Throwable;"⟩ : Cond) ∈ WA := tb_1 (List.mem_of_getElem? (i := 189) rfl) rfl
theorem wd_190 : (.lays "java/lang/IllegalArgumentException" "java/lang/Throwable" "cause" "Ljava/lang/Throwable;" : Cond) ∈ WA := tb_1 (List.mem_of_getElem? (i := 190) rfl) rfl
theorem wd_191 : (.lays "java/lang/Throwable" "java/lang/Throwable" "cause" "Ljava/lang/Throwable;" : Cond) ∈ WA := tb_1 (List.mem_of_getElem? (i := 191) rfl) rfl
theorem wd_192 : (.lays "java/lang/IllegalArgumentException" "java/lang/Throwable" "stackTrace" "[Ljava/lang/StackTraceElement;" : Cond) ∈ WA := tb_1 (List.mem_of_getElem? (i := 192) rfl) rfl
theorem wd_193 : (.lays "java/lang/Throwable" "java/lang/Throwable" "stackTrace" "[Ljava/lang/StackTraceElement;" : Cond) ∈ WA := tb_1 (List.mem_of_getElem? (i := 193) rfl) rfl
theorem wd_194 : (.lays "java/lang/IllegalArgumentException" "java/lang/Throwable" "suppressedExceptions" "Ljava/util/List;" : Cond) ∈ WA := tb_1 (List.mem_of_getElem? (i := 194) rfl) rfl
theorem wd_195 : (.lays "java/lang/Throwable" "java/lang/Throwable" "suppressedExceptions" "Ljava/util/List;" : Cond) ∈ WA := tb_1 (List.mem_of_getElem? (i := 195) rfl) rfl
theorem wd_196 : (.lays "java/lang/IllegalArgumentException" "java/lang/Throwable" "detailMessage" "Ljava/lang/String;" : Cond) ∈ WA := tb_1 (List.mem_of_getElem? (i := 196) rfl) rfl
theorem wd_197 : (.lays "java/lang/Throwable" "java/lang/Throwable" "detailMessage" "Ljava/lang/String;" : Cond) ∈ WA := tb_1 (List.mem_of_getElem? (i := 197) rfl) rfl
theorem wd_198 : (.lays "java/lang/IllegalArgumentException" "java/lang/Throwable" "backtrace" "Ljava/lang/Object;" : Cond) ∈ WA := tb_1 (List.mem_of_getElem? (i := 198) rfl) rfl
theorem wd_199 : (.lays "java/lang/Throwable" "java/lang/Throwable" "backtrace" "Ljava/lang/Object;" : Cond) ∈ WA := tb_1 (List.mem_of_getElem? (i := 199) rfl) rfl
theorem wd_200 : (.fieldLink "java/lang/Throwable" 198 "java/lang/Throwable" "backtrace" "Ljava/lang/Object;" : Cond) ∈ WA := tb_1 (List.mem_of_getElem? (i := 200) rfl) rfl
theorem wd_201 : (.superclass "java/lang/Throwable" "java/lang/Object" : Cond) ∈ WA := tb_1 (List.mem_of_getElem? (i := 201) rfl) rfl
theorem wd_202 : (.instanceMethod ⟨"java/lang/Throwable", "<init>", "()V"⟩ : Cond) ∈ WA := tb_1 (List.mem_of_getElem? (i := 202) rfl) rfl
theorem wd_204 : (.methodLink "java/lang/Throwable" 1 objectInit : Cond) ∈ WA := tb_1 (List.mem_of_getElem? (i := 204) rfl) rfl
theorem wd_205 : (.fieldLink "java/lang/Throwable" 13 "java/lang/Throwable" "UNASSIGNED_STACK" "[Ljava/lang/StackTraceElement;" : Cond) ∈ WA := tb_1 (List.mem_of_getElem? (i := 205) rfl) rfl
theorem wd_207 : (.fieldLink "java/lang/Throwable" 20 "java/lang/Throwable" "SUPPRESSED_SENTINEL" "Ljava/util/List;" : Cond) ∈ WA := tb_1 (List.mem_of_getElem? (i := 207) rfl) rfl
theorem wd_209 : (.methodLink "java/lang/Throwable" 27 ⟨"java/lang/Throwable", "fillInStackTrace", "()Ljava/lang/Throwable;"⟩ : Cond) ∈ WA := tb_1 (List.mem_of_getElem? (i := 209) rfl) rfl
theorem wd_210 : (.instanceMethod ⟨"java/lang/Throwable", "fillInStackTrace", "()Ljava/lang/Throwable;"⟩ : Cond) ∈ WA := tb_1 (List.mem_of_getElem? (i := 210) rfl) rfl
theorem wd_211 : (.sameMethod "java/lang/Throwable" "java/lang/Throwable" "fillInStackTrace" "()Ljava/lang/Throwable;" : Cond) ∈ WA := tb_1 (List.mem_of_getElem? (i := 211) rfl) rfl
theorem wd_212 : (.selects "java/lang/IllegalStateException" ⟨"java/lang/Throwable", "fillInStackTrace", "()Ljava/lang/Throwable;"⟩ ⟨"java/lang/Throwable", "fillInStackTrace", "()Ljava/lang/Throwable;"⟩ : Cond) ∈ WA := tb_1 (List.mem_of_getElem? (i := 212) rfl) rfl
theorem wd_213 : (.selects "java/lang/IndexOutOfBoundsException" ⟨"java/lang/Throwable", "fillInStackTrace", "()Ljava/lang/Throwable;"⟩ ⟨"java/lang/Throwable", "fillInStackTrace", "()Ljava/lang/Throwable;"⟩ : Cond) ∈ WA := tb_1 (List.mem_of_getElem? (i := 213) rfl) rfl
theorem wd_215 : (.methodLink "java/lang/Throwable" 202 ⟨"java/lang/Throwable", "fillInStackTrace", "(I)Ljava/lang/Throwable;"⟩ : Cond) ∈ WA := tb_1 (List.mem_of_getElem? (i := 215) rfl) rfl
theorem wd_217 : (.instanceMethod ⟨"java/lang/Throwable", "fillInStackTrace", "(I)Ljava/lang/Throwable;"⟩ : Cond) ∈ WA := tb_1 (List.mem_of_getElem? (i := 217) rfl) rfl
theorem wd_218 : (.instantiable "java/lang/Throwable" 6 : Cond) ∈ WA := tb_1 (List.mem_of_getElem? (i := 218) rfl) rfl
theorem wd_221 : (.methodLink RX3 41 ⟨"java/lang/IllegalArgumentException", "<init>", "(Ljava/lang/String;)V"⟩ : Cond) ∈ WA := tb_1 (List.mem_of_getElem? (i := 221) rfl) rfl
theorem wd_222 : (.instanceMethod ⟨"java/lang/IllegalArgumentException", "<init>", "(Ljava/lang/String;)V"⟩ : Cond) ∈ WA := tb_1 (List.mem_of_getElem? (i := 222) rfl) rfl
theorem wd_224 : (.methodLink "java/lang/IllegalArgumentException" 7 ⟨"java/lang/RuntimeException", "<init>", "(Ljava/lang/String;)V"⟩ : Cond) ∈ WA := tb_1 (List.mem_of_getElem? (i := 224) rfl) rfl
theorem wd_225 : (.instanceMethod ⟨"java/lang/RuntimeException", "<init>", "(Ljava/lang/String;)V"⟩ : Cond) ∈ WA := tb_1 (List.mem_of_getElem? (i := 225) rfl) rfl
theorem wd_227 : (.methodLink "java/lang/RuntimeException" 7 ⟨"java/lang/Exception", "<init>", "(Ljava/lang/String;)V"⟩ : Cond) ∈ WA := tb_1 (List.mem_of_getElem? (i := 227) rfl) rfl
theorem wd_228 : (.instanceMethod ⟨"java/lang/Exception", "<init>", "(Ljava/lang/String;)V"⟩ : Cond) ∈ WA := tb_1 (List.mem_of_getElem? (i := 228) rfl) rfl
theorem wd_230 : (.methodLink "java/lang/Exception" 7 ⟨"java/lang/Throwable", "<init>", "(Ljava/lang/String;)V"⟩ : Cond) ∈ WA := tb_1 (List.mem_of_getElem? (i := 230) rfl) rfl
theorem wd_231 : (.instanceMethod ⟨"java/lang/Throwable", "<init>", "(Ljava/lang/String;)V"⟩ : Cond) ∈ WA := tb_1 (List.mem_of_getElem? (i := 231) rfl) rfl
theorem wd_234 : (.fieldLink "java/lang/Throwable" 31 "java/lang/Throwable" "detailMessage" "Ljava/lang/String;" : Cond) ∈ WA := tb_1 (List.mem_of_getElem? (i := 234) rfl) rfl
theorem wd_235 : (.fieldLink "java/lang/Throwable" 7 "java/lang/Throwable" "cause" "Ljava/lang/Throwable;" : Cond) ∈ WA := tb_1 (List.mem_of_getElem? (i := 235) rfl) rfl
theorem wd_236 : (.fieldLink "java/lang/Throwable" 17 "java/lang/Throwable" "stackTrace" "[Ljava/lang/StackTraceElement;" : Cond) ∈ WA := tb_1 (List.mem_of_getElem? (i := 236) rfl) rfl
theorem wd_237 : (.fieldLink "java/lang/Throwable" 24 "java/lang/Throwable" "suppressedExceptions" "Ljava/util/List;" : Cond) ∈ WA := tb_1 (List.mem_of_getElem? (i := 237) rfl) rfl
theorem wd_242 : (.lays "java/lang/IllegalArgumentException" "java/lang/Throwable" "depth" "I" : Cond) ∈ WA := tb_2 (List.mem_of_getElem? (i := 2) rfl) rfl
theorem wd_245 : (.superclass "java/lang/IllegalArgumentException" "java/lang/RuntimeException" : Cond) ∈ WA := tb_2 (List.mem_of_getElem? (i := 5) rfl) rfl
theorem wd_246 : (.arrayClass .byte : Cond) ∈ WA := tb_2 (List.mem_of_getElem? (i := 6) rfl) rfl
theorem wd_247 : (.classLink RX3 48 "java/lang/IllegalStateException" : Cond) ∈ WA := tb_2 (List.mem_of_getElem? (i := 7) rfl) rfl
theorem wd_248 : (.instantiable "java/lang/IllegalStateException" 6 : Cond) ∈ WA := tb_2 (List.mem_of_getElem? (i := 8) rfl) rfl
theorem wd_250 : (.selects "java/lang/IllegalStateException" ⟨"java/lang/Throwable", "fillInStackTrace", "(I)Ljava/lang/Throwable;"⟩ ⟨"java/lang/Throwable", "fillInStackTrace", "(I)Ljava/lang/Throwable;"⟩ : Cond) ∈ WA := tb_2 (List.mem_of_getElem? (i := 10) rfl) rfl
theorem wd_251 : (.lays "java/lang/IllegalStateException" "java/lang/Throwable" "cause" "Ljava/lang/Throwable;" : Cond) ∈ WA := tb_2 (List.mem_of_getElem? (i := 11) rfl) rfl
theorem wd_252 : (.lays "java/lang/IllegalStateException" "java/lang/Throwable" "stackTrace" "[Ljava/lang/StackTraceElement;" : Cond) ∈ WA := tb_2 (List.mem_of_getElem? (i := 12) rfl) rfl
theorem wd_253 : (.lays "java/lang/IllegalStateException" "java/lang/Throwable" "suppressedExceptions" "Ljava/util/List;" : Cond) ∈ WA := tb_2 (List.mem_of_getElem? (i := 13) rfl) rfl
theorem wd_254 : (.lays "java/lang/IllegalStateException" "java/lang/Throwable" "detailMessage" "Ljava/lang/String;" : Cond) ∈ WA := tb_2 (List.mem_of_getElem? (i := 14) rfl) rfl
theorem wd_255 : (.lays "java/lang/IllegalStateException" "java/lang/Throwable" "backtrace" "Ljava/lang/Object;" : Cond) ∈ WA := tb_2 (List.mem_of_getElem? (i := 15) rfl) rfl
theorem wd_257 : (.methodLink RX3 52 ⟨"java/lang/IllegalStateException", "<init>", "(Ljava/lang/String;)V"⟩ : Cond) ∈ WA := tb_2 (List.mem_of_getElem? (i := 17) rfl) rfl
theorem wd_258 : (.instanceMethod ⟨"java/lang/IllegalStateException", "<init>", "(Ljava/lang/String;)V"⟩ : Cond) ∈ WA := tb_2 (List.mem_of_getElem? (i := 18) rfl) rfl
theorem wd_260 : (.methodLink "java/lang/IllegalStateException" 7 ⟨"java/lang/RuntimeException", "<init>", "(Ljava/lang/String;)V"⟩ : Cond) ∈ WA := tb_2 (List.mem_of_getElem? (i := 20) rfl) rfl
theorem wd_261 : (.lays "java/lang/IllegalStateException" "java/lang/Throwable" "depth" "I" : Cond) ∈ WA := tb_2 (List.mem_of_getElem? (i := 21) rfl) rfl
theorem wd_262 : (.superclass "java/lang/IllegalStateException" "java/lang/RuntimeException" : Cond) ∈ WA := tb_2 (List.mem_of_getElem? (i := 22) rfl) rfl
theorem wd_263 : (.methodLink RX3 53 yX2_letCome : Cond) ∈ WA := tb_2 (List.mem_of_getElem? (i := 23) rfl) rfl
theorem wd_264 : (.instanceMethod yX2_letCome : Cond) ∈ WA := tb_2 (List.mem_of_getElem? (i := 24) rfl) rfl
theorem wd_265 : (.selects RX2 yX2_letCome yX2_letCome : Cond) ∈ WA := tb_2 (List.mem_of_getElem? (i := 25) rfl) rfl
theorem wd_266 : (.code yX2_letCome cX2_letCome 5 (some .int) : Cond) ∈ WA := tb_2 (List.mem_of_getElem? (i := 26) rfl) rfl
theorem wd_267 : (.methodLink RX2 46 yX2_putInOrder : Cond) ∈ WA := tb_2 (List.mem_of_getElem? (i := 27) rfl) rfl
theorem wd_269 : (.instanceMethod yX2_putInOrder : Cond) ∈ WA := tb_2 (List.mem_of_getElem? (i := 29) rfl) rfl
theorem wd_270 : (.code yX2_putInOrder cX2_putInOrder 4 none : Cond) ∈ WA := tb_2 (List.mem_of_getElem? (i := 30) rfl) rfl
theorem wd_271 : (.methodLink RX2 53 yJ9_min_7cf53 : Cond) ∈ WA := tb_2 (List.mem_of_getElem? (i := 31) rfl) rfl
theorem wd_272 : (.static yJ9_min_7cf53 : Cond) ∈ WA := tb_2 (List.mem_of_getElem? (i := 32) rfl) rfl
theorem wd_273 : (.code yJ9_min_7cf53 cJ9_min_7cf53 2 (some .int) : Cond) ∈ WA := tb_2 (List.mem_of_getElem? (i := 33) rfl) rfl
theorem wd_274 : (.methodLink RX2 59 yX2_timeOf : Cond) ∈ WA := tb_2 (List.mem_of_getElem? (i := 34) rfl) rfl
theorem wd_276 : (.instanceMethod yX2_timeOf : Cond) ∈ WA := tb_2 (List.mem_of_getElem? (i := 36) rfl) rfl
theorem wd_277 : (.code yX2_timeOf cX2_timeOf 2 (some .int) : Cond) ∈ WA := tb_2 (List.mem_of_getElem? (i := 37) rfl) rfl
theorem wd_279 : (.methodLink RX2 50 yX2_change : Cond) ∈ WA := tb_2 (List.mem_of_getElem? (i := 39) rfl) rfl
theorem wd_280 : (.instanceMethod yX2_change : Cond) ∈ WA := tb_2 (List.mem_of_getElem? (i := 40) rfl) rfl
theorem wd_281 : (.selects RX2 yX2_change yX2_change : Cond) ∈ WA := tb_2 (List.mem_of_getElem? (i := 41) rfl) rfl
theorem wd_282 : (.code yX2_change cX2_change 4 (some .boolean) : Cond) ∈ WA := tb_2 (List.mem_of_getElem? (i := 42) rfl) rfl
theorem wd_283 : (.methodLink RX2 69 yX0_keep : Cond) ∈ WA := tb_2 (List.mem_of_getElem? (i := 43) rfl) rfl
theorem wd_284 : (.instanceMethod yX0_keep : Cond) ∈ WA := tb_2 (List.mem_of_getElem? (i := 44) rfl) rfl
theorem wd_285 : (.selects RX0 yX0_keep yX0_keep : Cond) ∈ WA := tb_2 (List.mem_of_getElem? (i := 45) rfl) rfl
theorem wd_286 : (.code yX0_keep cX0_keep 6 none : Cond) ∈ WA := tb_2 (List.mem_of_getElem? (i := 46) rfl) rfl
theorem wd_287 : (.methodLink RX0 34 yX0_slotOf : Cond) ∈ WA := tb_2 (List.mem_of_getElem? (i := 47) rfl) rfl
theorem wd_288 : (.static yX0_slotOf : Cond) ∈ WA := tb_2 (List.mem_of_getElem? (i := 48) rfl) rfl
theorem wd_289 : (.code yX0_slotOf cX0_slotOf 1 (some .int) : Cond) ∈ WA := tb_2 (List.mem_of_getElem? (i := 49) rfl) rfl
theorem wd_290 : (.methodLink RX0 24 yJ9_floorMod_7cf53 : Cond) ∈ WA := tb_2 (List.mem_of_getElem? (i := 50) rfl) rfl
theorem wd_291 : (.static yJ9_floorMod_7cf53 : Cond) ∈ WA := tb_2 (List.mem_of_getElem? (i := 51) rfl) rfl
theorem wd_292 : (.code yJ9_floorMod_7cf53 cJ9_floorMod_7cf53 3 (some .int) : Cond) ∈ WA := tb_2 (List.mem_of_getElem? (i := 52) rfl) rfl
theorem wd_293 : (.methodLink RL 110 yL_move : Cond) ∈ WA := tb_2 (List.mem_of_getElem? (i := 53) rfl) rfl
theorem wd_294 : (.static yL_move : Cond) ∈ WA := tb_2 (List.mem_of_getElem? (i := 54) rfl) rfl
theorem wd_295 : (.codeWith yL_move cL_move 5 (some .int) [(0, 10, 13, 21), (0, 10, 17, 13)] : Cond) ∈ WA := tb_2 (List.mem_of_getElem? (i := 55) rfl) rfl
theorem wd_296 : (.classLink RL 21 "java/lang/IndexOutOfBoundsException" : Cond) ∈ WA := tb_2 (List.mem_of_getElem? (i := 56) rfl) rfl
theorem wd_297 : (.methodLink RL 17 yX3_move : Cond) ∈ WA := tb_2 (List.mem_of_getElem? (i := 57) rfl) rfl
theorem wd_298 : (.instanceMethod yX3_move : Cond) ∈ WA := tb_2 (List.mem_of_getElem? (i := 58) rfl) rfl
theorem wd_299 : (.selects RX3 yX3_move yX3_move : Cond) ∈ WA := tb_2 (List.mem_of_getElem? (i := 59) rfl) rfl
theorem wd_300 : (.code yX3_move cX3_move 4 (some .int) : Cond) ∈ WA := tb_2 (List.mem_of_getElem? (i := 60) rfl) rfl
theorem wd_301 : (.methodLink RX3 57 yX2_isThere : Cond) ∈ WA := tb_2 (List.mem_of_getElem? (i := 61) rfl) rfl
theorem wd_302 : (.instanceMethod yX2_isThere : Cond) ∈ WA := tb_2 (List.mem_of_getElem? (i := 62) rfl) rfl
theorem wd_303 : (.selects RX2 yX2_isThere yX2_isThere : Cond) ∈ WA := tb_2 (List.mem_of_getElem? (i := 63) rfl) rfl
theorem wd_304 : (.code yX2_isThere cX2_isThere 2 (some .boolean) : Cond) ∈ WA := tb_2 (List.mem_of_getElem? (i := 64) rfl) rfl
theorem wd_305 : (.methodLink RX2 38 yX2_boxesOf : Cond) ∈ WA := tb_2 (List.mem_of_getElem? (i := 65) rfl) rfl
theorem wd_306 : (.instanceMethod yX2_boxesOf : Cond) ∈ WA := tb_2 (List.mem_of_getElem? (i := 66) rfl) rfl
theorem wd_307 : (.selects RX2 yX2_boxesOf yX2_boxesOf : Cond) ∈ WA := tb_2 (List.mem_of_getElem? (i := 67) rfl) rfl
theorem wd_308 : (.code yX2_boxesOf cX2_boxesOf 2 (some .int) : Cond) ∈ WA := tb_2 (List.mem_of_getElem? (i := 68) rfl) rfl
theorem wd_309 : (.methodLink RX3 60 yX3_requireMail : Cond) ∈ WA := tb_2 (List.mem_of_getElem? (i := 69) rfl) rfl
theorem wd_310 : (.static yX3_requireMail : Cond) ∈ WA := tb_2 (List.mem_of_getElem? (i := 70) rfl) rfl
theorem wd_311 : (.code yX3_requireMail cX3_requireMail 1 none : Cond) ∈ WA := tb_2 (List.mem_of_getElem? (i := 71) rfl) rfl
theorem wd_312 : (.classLink RX3 220 "java/lang/IndexOutOfBoundsException" : Cond) ∈ WA := tb_2 (List.mem_of_getElem? (i := 72) rfl) rfl
theorem wd_313 : (.instantiable "java/lang/IndexOutOfBoundsException" 6 : Cond) ∈ WA := tb_2 (List.mem_of_getElem? (i := 73) rfl) rfl
theorem wd_315 : (.selects "java/lang/IndexOutOfBoundsException" ⟨"java/lang/Throwable", "fillInStackTrace", "(I)Ljava/lang/Throwable;"⟩ ⟨"java/lang/Throwable", "fillInStackTrace", "(I)Ljava/lang/Throwable;"⟩ : Cond) ∈ WA := tb_2 (List.mem_of_getElem? (i := 75) rfl) rfl
theorem wd_316 : (.lays "java/lang/IndexOutOfBoundsException" "java/lang/Throwable" "cause" "Ljava/lang/Throwable;" : Cond) ∈ WA := tb_2 (List.mem_of_getElem? (i := 76) rfl) rfl
theorem wd_317 : (.lays "java/lang/IndexOutOfBoundsException" "java/lang/Throwable" "stackTrace" "[Ljava/lang/StackTraceElement;" : Cond) ∈ WA := tb_2 (List.mem_of_getElem? (i := 77) rfl) rfl
theorem wd_318 : (.lays "java/lang/IndexOutOfBoundsException" "java/lang/Throwable" "suppressedExceptions" "Ljava/util/List;" : Cond) ∈ WA := tb_2 (List.mem_of_getElem? (i := 78) rfl) rfl
theorem wd_319 : (.lays "java/lang/IndexOutOfBoundsException" "java/lang/Throwable" "detailMessage" "Ljava/lang/String;" : Cond) ∈ WA := tb_2 (List.mem_of_getElem? (i := 79) rfl) rfl
theorem wd_320 : (.lays "java/lang/IndexOutOfBoundsException" "java/lang/Throwable" "backtrace" "Ljava/lang/Object;" : Cond) ∈ WA := tb_2 (List.mem_of_getElem? (i := 80) rfl) rfl
theorem wd_322 : (.methodLink RX3 224 ⟨"java/lang/IndexOutOfBoundsException", "<init>", "(Ljava/lang/String;)V"⟩ : Cond) ∈ WA := tb_2 (List.mem_of_getElem? (i := 82) rfl) rfl
theorem wd_323 : (.instanceMethod ⟨"java/lang/IndexOutOfBoundsException", "<init>", "(Ljava/lang/String;)V"⟩ : Cond) ∈ WA := tb_2 (List.mem_of_getElem? (i := 83) rfl) rfl
theorem wd_325 : (.methodLink "java/lang/IndexOutOfBoundsException" 7 ⟨"java/lang/RuntimeException", "<init>", "(Ljava/lang/String;)V"⟩ : Cond) ∈ WA := tb_2 (List.mem_of_getElem? (i := 85) rfl) rfl
theorem wd_326 : (.lays "java/lang/IndexOutOfBoundsException" "java/lang/Throwable" "depth" "I" : Cond) ∈ WA := tb_2 (List.mem_of_getElem? (i := 86) rfl) rfl
theorem wd_327 : (.superclass "java/lang/IndexOutOfBoundsException" "java/lang/RuntimeException" : Cond) ∈ WA := tb_2 (List.mem_of_getElem? (i := 87) rfl) rfl
theorem wd_329 : (.methodLink RX3 66 yX2_boxesOf : Cond) ∈ WA := tb_2 (List.mem_of_getElem? (i := 89) rfl) rfl
theorem wd_330 : (.methodLink RX3 70 yX2_keywordsOf : Cond) ∈ WA := tb_2 (List.mem_of_getElem? (i := 90) rfl) rfl
theorem wd_331 : (.instanceMethod yX2_keywordsOf : Cond) ∈ WA := tb_2 (List.mem_of_getElem? (i := 91) rfl) rfl
theorem wd_332 : (.selects RX2 yX2_keywordsOf yX2_keywordsOf : Cond) ∈ WA := tb_2 (List.mem_of_getElem? (i := 92) rfl) rfl
theorem wd_333 : (.code yX2_keywordsOf cX2_keywordsOf 2 (some .int) : Cond) ∈ WA := tb_2 (List.mem_of_getElem? (i := 93) rfl) rfl
theorem wd_334 : (.methodLink RX3 73 yX2_change : Cond) ∈ WA := tb_2 (List.mem_of_getElem? (i := 94) rfl) rfl
theorem wd_335 : (.methodLink RL 114 yL_flag : Cond) ∈ WA := tb_2 (List.mem_of_getElem? (i := 95) rfl) rfl
theorem wd_336 : (.static yL_flag : Cond) ∈ WA := tb_2 (List.mem_of_getElem? (i := 96) rfl) rfl
theorem wd_337 : (.codeWith yL_flag cL_flag 6 (some .int) [(0, 19, 22, 21), (0, 19, 26, 13)] : Cond) ∈ WA := tb_2 (List.mem_of_getElem? (i := 97) rfl) rfl
theorem wd_338 : (.methodLink RL 23 yX3_flag : Cond) ∈ WA := tb_2 (List.mem_of_getElem? (i := 98) rfl) rfl
theorem wd_339 : (.instanceMethod yX3_flag : Cond) ∈ WA := tb_2 (List.mem_of_getElem? (i := 99) rfl) rfl
theorem wd_340 : (.selects RX3 yX3_flag yX3_flag : Cond) ∈ WA := tb_2 (List.mem_of_getElem? (i := 100) rfl) rfl
theorem wd_341 : (.code yX3_flag cX3_flag 4 (some .boolean) : Cond) ∈ WA := tb_2 (List.mem_of_getElem? (i := 101) rfl) rfl
theorem wd_342 : (.methodLink RX3 76 yX3_isKeyword : Cond) ∈ WA := tb_2 (List.mem_of_getElem? (i := 102) rfl) rfl
theorem wd_343 : (.static yX3_isKeyword : Cond) ∈ WA := tb_2 (List.mem_of_getElem? (i := 103) rfl) rfl
theorem wd_344 : (.code yX3_isKeyword cX3_isKeyword 1 (some .boolean) : Cond) ∈ WA := tb_2 (List.mem_of_getElem? (i := 104) rfl) rfl
theorem wd_346 : (.methodLink RX3 81 yX2_setKeyword : Cond) ∈ WA := tb_2 (List.mem_of_getElem? (i := 106) rfl) rfl
theorem wd_347 : (.instanceMethod yX2_setKeyword : Cond) ∈ WA := tb_2 (List.mem_of_getElem? (i := 107) rfl) rfl
theorem wd_348 : (.selects RX2 yX2_setKeyword yX2_setKeyword : Cond) ∈ WA := tb_2 (List.mem_of_getElem? (i := 108) rfl) rfl
theorem wd_349 : (.code yX2_setKeyword cX2_setKeyword 4 (some .boolean) : Cond) ∈ WA := tb_2 (List.mem_of_getElem? (i := 109) rfl) rfl
theorem wd_350 : (.methodLink RX2 62 yX2_keywordsOf : Cond) ∈ WA := tb_2 (List.mem_of_getElem? (i := 110) rfl) rfl
theorem wd_351 : (.methodLink RL 118 yL_flagIf : Cond) ∈ WA := tb_2 (List.mem_of_getElem? (i := 111) rfl) rfl
theorem wd_352 : (.static yL_flagIf : Cond) ∈ WA := tb_2 (List.mem_of_getElem? (i := 112) rfl) rfl
theorem wd_353 : (.codeWith yL_flagIf cL_flagIf 7 (some .int) [(0, 21, 24, 21), (0, 21, 28, 13), (0, 21, 32, 15)] : Cond) ∈ WA := tb_2 (List.mem_of_getElem? (i := 113) rfl) rfl
theorem wd_354 : (.methodLink RL 27 yX3_flagIf : Cond) ∈ WA := tb_2 (List.mem_of_getElem? (i := 114) rfl) rfl
theorem wd_355 : (.instanceMethod yX3_flagIf : Cond) ∈ WA := tb_2 (List.mem_of_getElem? (i := 115) rfl) rfl
theorem wd_356 : (.selects RX3 yX3_flagIf yX3_flagIf : Cond) ∈ WA := tb_2 (List.mem_of_getElem? (i := 116) rfl) rfl
theorem wd_357 : (.code yX3_flagIf cX3_flagIf 5 (some .boolean) : Cond) ∈ WA := tb_2 (List.mem_of_getElem? (i := 117) rfl) rfl
theorem wd_359 : (.methodLink RL 122 yL_destroy : Cond) ∈ WA := tb_2 (List.mem_of_getElem? (i := 119) rfl) rfl
theorem wd_360 : (.static yL_destroy : Cond) ∈ WA := tb_2 (List.mem_of_getElem? (i := 120) rfl) rfl
theorem wd_361 : (.codeWith yL_destroy cL_destroy 4 (some .int) [(0, 9, 12, 21)] : Cond) ∈ WA := tb_2 (List.mem_of_getElem? (i := 121) rfl) rfl
theorem wd_362 : (.methodLink RL 31 yX3_destroy : Cond) ∈ WA := tb_2 (List.mem_of_getElem? (i := 122) rfl) rfl
theorem wd_363 : (.instanceMethod yX3_destroy : Cond) ∈ WA := tb_2 (List.mem_of_getElem? (i := 123) rfl) rfl
theorem wd_364 : (.selects RX3 yX3_destroy yX3_destroy : Cond) ∈ WA := tb_2 (List.mem_of_getElem? (i := 124) rfl) rfl
theorem wd_365 : (.code yX3_destroy cX3_destroy 2 (some .int) : Cond) ∈ WA := tb_2 (List.mem_of_getElem? (i := 125) rfl) rfl
theorem wd_366 : (.methodLink RL 134 yL_keywords : Cond) ∈ WA := tb_2 (List.mem_of_getElem? (i := 126) rfl) rfl
theorem wd_367 : (.static yL_keywords : Cond) ∈ WA := tb_2 (List.mem_of_getElem? (i := 127) rfl) rfl
theorem wd_368 : (.codeWith yL_keywords cL_keywords 4 (some .int) [(0, 9, 12, 21)] : Cond) ∈ WA := tb_2 (List.mem_of_getElem? (i := 128) rfl) rfl
theorem wd_369 : (.methodLink RL 35 yX3_keywords : Cond) ∈ WA := tb_2 (List.mem_of_getElem? (i := 129) rfl) rfl
theorem wd_370 : (.instanceMethod yX3_keywords : Cond) ∈ WA := tb_2 (List.mem_of_getElem? (i := 130) rfl) rfl
theorem wd_371 : (.selects RX3 yX3_keywords yX3_keywords : Cond) ∈ WA := tb_2 (List.mem_of_getElem? (i := 131) rfl) rfl
theorem wd_372 : (.code yX3_keywords cX3_keywords 2 (some .int) : Cond) ∈ WA := tb_2 (List.mem_of_getElem? (i := 132) rfl) rfl
theorem wd_373 : (.methodLink RL 137 yL_inThread : Cond) ∈ WA := tb_2 (List.mem_of_getElem? (i := 133) rfl) rfl
theorem wd_374 : (.static yL_inThread : Cond) ∈ WA := tb_2 (List.mem_of_getElem? (i := 134) rfl) rfl
theorem wd_375 : (.codeWith yL_inThread cL_inThread 4 (some .int) [(0, 9, 12, 13)] : Cond) ∈ WA := tb_2 (List.mem_of_getElem? (i := 135) rfl) rfl
theorem wd_376 : (.methodLink RL 38 yX3_inThread : Cond) ∈ WA := tb_2 (List.mem_of_getElem? (i := 136) rfl) rfl
theorem wd_377 : (.instanceMethod yX3_inThread : Cond) ∈ WA := tb_2 (List.mem_of_getElem? (i := 137) rfl) rfl
theorem wd_378 : (.selects RX3 yX3_inThread yX3_inThread : Cond) ∈ WA := tb_2 (List.mem_of_getElem? (i := 138) rfl) rfl
theorem wd_379 : (.code yX3_inThread cX3_inThread 2 (some .int) : Cond) ∈ WA := tb_2 (List.mem_of_getElem? (i := 139) rfl) rfl
theorem wd_381 : (.methodLink RX3 108 yX2_countThread : Cond) ∈ WA := tb_2 (List.mem_of_getElem? (i := 141) rfl) rfl
theorem wd_382 : (.instanceMethod yX2_countThread : Cond) ∈ WA := tb_2 (List.mem_of_getElem? (i := 142) rfl) rfl
theorem wd_383 : (.selects RX2 yX2_countThread yX2_countThread : Cond) ∈ WA := tb_2 (List.mem_of_getElem? (i := 143) rfl) rfl
theorem wd_384 : (.code yX2_countThread cX2_countThread 4 (some .int) : Cond) ∈ WA := tb_2 (List.mem_of_getElem? (i := 144) rfl) rfl
theorem wd_385 : (.methodLink RX2 73 yX2_isThere : Cond) ∈ WA := tb_2 (List.mem_of_getElem? (i := 145) rfl) rfl
theorem wd_386 : (.methodLink RL 140 yL_share : Cond) ∈ WA := tb_2 (List.mem_of_getElem? (i := 146) rfl) rfl
theorem wd_387 : (.static yL_share : Cond) ∈ WA := tb_2 (List.mem_of_getElem? (i := 147) rfl) rfl
theorem wd_388 : (.codeWith yL_share cL_share 5 (some .int) [(0, 10, 13, 13)] : Cond) ∈ WA := tb_2 (List.mem_of_getElem? (i := 148) rfl) rfl
theorem wd_389 : (.methodLink RL 41 yX3_share : Cond) ∈ WA := tb_2 (List.mem_of_getElem? (i := 149) rfl) rfl
theorem wd_390 : (.instanceMethod yX3_share : Cond) ∈ WA := tb_2 (List.mem_of_getElem? (i := 150) rfl) rfl
theorem wd_391 : (.selects RX3 yX3_share yX3_share : Cond) ∈ WA := tb_2 (List.mem_of_getElem? (i := 151) rfl) rfl
theorem wd_392 : (.code yX3_share cX3_share 5 (some .float) : Cond) ∈ WA := tb_2 (List.mem_of_getElem? (i := 152) rfl) rfl
theorem wd_393 : (.methodLink RX3 111 yX3_isBox : Cond) ∈ WA := tb_2 (List.mem_of_getElem? (i := 153) rfl) rfl
theorem wd_394 : (.static yX3_isBox : Cond) ∈ WA := tb_2 (List.mem_of_getElem? (i := 154) rfl) rfl
theorem wd_395 : (.code yX3_isBox cX3_isBox 1 (some .boolean) : Cond) ∈ WA := tb_2 (List.mem_of_getElem? (i := 155) rfl) rfl
theorem wd_397 : (.methodLink RL 144 yL_canTell : Cond) ∈ WA := tb_2 (List.mem_of_getElem? (i := 157) rfl) rfl
theorem wd_398 : (.static yL_canTell : Cond) ∈ WA := tb_2 (List.mem_of_getElem? (i := 158) rfl) rfl
theorem wd_399 : (.codeWith yL_canTell cL_canTell 4 (some .int) [(0, 16, 19, 13)] : Cond) ∈ WA := tb_2 (List.mem_of_getElem? (i := 159) rfl) rfl
theorem wd_400 : (.methodLink RL 45 yX3_canTell : Cond) ∈ WA := tb_2 (List.mem_of_getElem? (i := 160) rfl) rfl
theorem wd_401 : (.instanceMethod yX3_canTell : Cond) ∈ WA := tb_2 (List.mem_of_getElem? (i := 161) rfl) rfl
theorem wd_402 : (.selects RX3 yX3_canTell yX3_canTell : Cond) ∈ WA := tb_2 (List.mem_of_getElem? (i := 162) rfl) rfl
theorem wd_403 : (.code yX3_canTell cX3_canTell 2 (some .boolean) : Cond) ∈ WA := tb_2 (List.mem_of_getElem? (i := 163) rfl) rfl
theorem wd_404 : (.methodLink RX3 116 yX3_isState : Cond) ∈ WA := tb_2 (List.mem_of_getElem? (i := 164) rfl) rfl
theorem wd_406 : (.instanceMethod yX3_isState : Cond) ∈ WA := tb_2 (List.mem_of_getElem? (i := 166) rfl) rfl
theorem wd_407 : (.code yX3_isState cX3_isState 2 (some .boolean) : Cond) ∈ WA := tb_2 (List.mem_of_getElem? (i := 167) rfl) rfl
theorem wd_409 : (.methodLink RX3 121 yX0_reachBackTo : Cond) ∈ WA := tb_2 (List.mem_of_getElem? (i := 169) rfl) rfl
theorem wd_410 : (.instanceMethod yX0_reachBackTo : Cond) ∈ WA := tb_2 (List.mem_of_getElem? (i := 170) rfl) rfl
theorem wd_411 : (.selects RX0 yX0_reachBackTo yX0_reachBackTo : Cond) ∈ WA := tb_2 (List.mem_of_getElem? (i := 171) rfl) rfl
theorem wd_412 : (.code yX0_reachBackTo cX0_reachBackTo 2 (some .boolean) : Cond) ∈ WA := tb_2 (List.mem_of_getElem? (i := 172) rfl) rfl
theorem wd_413 : (.methodLink RL 147 yL_changed : Cond) ∈ WA := tb_2 (List.mem_of_getElem? (i := 173) rfl) rfl
theorem wd_414 : (.static yL_changed : Cond) ∈ WA := tb_2 (List.mem_of_getElem? (i := 174) rfl) rfl
theorem wd_415 : (.codeWith yL_changed cL_changed 5 (some .int) [(0, 10, 13, 13), (0, 10, 17, 15)] : Cond) ∈ WA := tb_2 (List.mem_of_getElem? (i := 175) rfl) rfl
theorem wd_416 : (.methodLink RL 49 yX3_changed : Cond) ∈ WA := tb_2 (List.mem_of_getElem? (i := 176) rfl) rfl
theorem wd_417 : (.instanceMethod yX3_changed : Cond) ∈ WA := tb_2 (List.mem_of_getElem? (i := 177) rfl) rfl
theorem wd_418 : (.selects RX3 yX3_changed yX3_changed : Cond) ∈ WA := tb_2 (List.mem_of_getElem? (i := 178) rfl) rfl
theorem wd_419 : (.code yX3_changed cX3_changed 3 (some .int) : Cond) ∈ WA := tb_2 (List.mem_of_getElem? (i := 179) rfl) rfl
theorem wd_420 : (.methodLink RX3 124 yX3_isWay : Cond) ∈ WA := tb_2 (List.mem_of_getElem? (i := 180) rfl) rfl
theorem wd_421 : (.static yX3_isWay : Cond) ∈ WA := tb_2 (List.mem_of_getElem? (i := 181) rfl) rfl
theorem wd_422 : (.code yX3_isWay cX3_isWay 1 (some .boolean) : Cond) ∈ WA := tb_2 (List.mem_of_getElem? (i := 182) rfl) rfl
theorem wd_424 : (.methodLink RX3 129 yX3_requireTelling : Cond) ∈ WA := tb_2 (List.mem_of_getElem? (i := 184) rfl) rfl
theorem wd_426 : (.instanceMethod yX3_requireTelling : Cond) ∈ WA := tb_2 (List.mem_of_getElem? (i := 186) rfl) rfl
theorem wd_427 : (.code yX3_requireTelling cX3_requireTelling 2 none : Cond) ∈ WA := tb_2 (List.mem_of_getElem? (i := 187) rfl) rfl
theorem wd_429 : (.methodLink RX3 133 yX2_changedSince : Cond) ∈ WA := tb_2 (List.mem_of_getElem? (i := 189) rfl) rfl
theorem wd_430 : (.instanceMethod yX2_changedSince : Cond) ∈ WA := tb_2 (List.mem_of_getElem? (i := 190) rfl) rfl
theorem wd_431 : (.selects RX2 yX2_changedSince yX2_changedSince : Cond) ∈ WA := tb_2 (List.mem_of_getElem? (i := 191) rfl) rfl
theorem wd_432 : (.code yX2_changedSince cX2_changedSince 7 (some .long) : Cond) ∈ WA := tb_2 (List.mem_of_getElem? (i := 192) rfl) rfl
theorem wd_433 : (.methodLink RX2 81 yX2_matching : Cond) ∈ WA := tb_2 (List.mem_of_getElem? (i := 193) rfl) rfl
theorem wd_434 : (.methodLink RX2 89 yX2_matchingAt : Cond) ∈ WA := tb_2 (List.mem_of_getElem? (i := 194) rfl) rfl
theorem wd_435 : (.instanceMethod yX2_matchingAt : Cond) ∈ WA := tb_2 (List.mem_of_getElem? (i := 195) rfl) rfl
theorem wd_436 : (.selects RX2 yX2_matchingAt yX2_matchingAt : Cond) ∈ WA := tb_2 (List.mem_of_getElem? (i := 196) rfl) rfl
theorem wd_437 : (.code yX2_matchingAt cX2_matchingAt 4 (some .long) : Cond) ∈ WA := tb_2 (List.mem_of_getElem? (i := 197) rfl) rfl
theorem wd_438 : (.methodLink RX2 85 yX0_undo : Cond) ∈ WA := tb_2 (List.mem_of_getElem? (i := 198) rfl) rfl
theorem wd_439 : (.instanceMethod yX0_undo : Cond) ∈ WA := tb_2 (List.mem_of_getElem? (i := 199) rfl) rfl
theorem wd_440 : (.selects RX0 yX0_undo yX0_undo : Cond) ∈ WA := tb_2 (List.mem_of_getElem? (i := 200) rfl) rfl
theorem wd_441 : (.code yX0_undo cX0_undo 12 (some .long) : Cond) ∈ WA := tb_2 (List.mem_of_getElem? (i := 201) rfl) rfl
theorem wd_442 : (.methodLink RX0 41 yX0_countBehind : Cond) ∈ WA := tb_2 (List.mem_of_getElem? (i := 202) rfl) rfl
theorem wd_444 : (.instanceMethod yX0_countBehind : Cond) ∈ WA := tb_2 (List.mem_of_getElem? (i := 204) rfl) rfl
theorem wd_445 : (.code yX0_countBehind cX0_countBehind 2 (some .int) : Cond) ∈ WA := tb_2 (List.mem_of_getElem? (i := 205) rfl) rfl
theorem wd_446 : (.methodLink RX0 38 yJ9_min_7cf53 : Cond) ∈ WA := tb_2 (List.mem_of_getElem? (i := 206) rfl) rfl
theorem wd_449 : (.constantLong RX2 93 (-1) : Cond) ∈ WA := tb_2 (List.mem_of_getElem? (i := 209) rfl) rfl
theorem wd_450 : (.methodLink RX2 95 yX0_touched : Cond) ∈ WA := tb_2 (List.mem_of_getElem? (i := 210) rfl) rfl
theorem wd_451 : (.instanceMethod yX0_touched : Cond) ∈ WA := tb_2 (List.mem_of_getElem? (i := 211) rfl) rfl
theorem wd_452 : (.selects RX0 yX0_touched yX0_touched : Cond) ∈ WA := tb_2 (List.mem_of_getElem? (i := 212) rfl) rfl
theorem wd_453 : (.code yX0_touched cX0_touched 6 (some .long) : Cond) ∈ WA := tb_2 (List.mem_of_getElem? (i := 213) rfl) rfl
theorem wd_454 : (.methodLink RL 150 yL_changedAt : Cond) ∈ WA := tb_2 (List.mem_of_getElem? (i := 214) rfl) rfl
theorem wd_455 : (.static yL_changedAt : Cond) ∈ WA := tb_2 (List.mem_of_getElem? (i := 215) rfl) rfl
theorem wd_456 : (.codeWith yL_changedAt cL_changedAt 6 (some .int) [(0, 12, 15, 13), (0, 12, 19, 15), (0, 12, 23, 21)] : Cond) ∈ WA := tb_2 (List.mem_of_getElem? (i := 216) rfl) rfl
theorem wd_457 : (.methodLink RL 52 yX3_changedAt : Cond) ∈ WA := tb_2 (List.mem_of_getElem? (i := 217) rfl) rfl
theorem wd_458 : (.instanceMethod yX3_changedAt : Cond) ∈ WA := tb_2 (List.mem_of_getElem? (i := 218) rfl) rfl
theorem wd_459 : (.selects RX3 yX3_changedAt yX3_changedAt : Cond) ∈ WA := tb_2 (List.mem_of_getElem? (i := 219) rfl) rfl
theorem wd_460 : (.code yX3_changedAt cX3_changedAt 5 (some .int) : Cond) ∈ WA := tb_2 (List.mem_of_getElem? (i := 220) rfl) rfl
theorem wd_461 : (.methodLink RX3 136 yX3_lowestAt : Cond) ∈ WA := tb_2 (List.mem_of_getElem? (i := 221) rfl) rfl
theorem wd_462 : (.static yX3_lowestAt : Cond) ∈ WA := tb_2 (List.mem_of_getElem? (i := 222) rfl) rfl
theorem wd_463 : (.code yX3_lowestAt cX3_lowestAt 5 (some .int) : Cond) ∈ WA := tb_2 (List.mem_of_getElem? (i := 223) rfl) rfl
theorem wd_464 : (.methodLink RX3 236 yX3_holds : Cond) ∈ WA := tb_2 (List.mem_of_getElem? (i := 224) rfl) rfl
theorem wd_465 : (.static yX3_holds : Cond) ∈ WA := tb_2 (List.mem_of_getElem? (i := 225) rfl) rfl
theorem wd_466 : (.code yX3_holds cX3_holds 3 (some .boolean) : Cond) ∈ WA := tb_2 (List.mem_of_getElem? (i := 226) rfl) rfl
theorem wd_467 : (.methodLink RL 153 yL_page : Cond) ∈ WA := tb_2 (List.mem_of_getElem? (i := 227) rfl) rfl
theorem wd_468 : (.static yL_page : Cond) ∈ WA := tb_2 (List.mem_of_getElem? (i := 228) rfl) rfl
theorem wd_469 : (.codeWith yL_page cL_page 5 (some .int) [(0, 10, 13, 13), (0, 10, 17, 15)] : Cond) ∈ WA := tb_2 (List.mem_of_getElem? (i := 229) rfl) rfl
theorem wd_470 : (.methodLink RL 55 yX3_page : Cond) ∈ WA := tb_2 (List.mem_of_getElem? (i := 230) rfl) rfl
theorem wd_471 : (.instanceMethod yX3_page : Cond) ∈ WA := tb_2 (List.mem_of_getElem? (i := 231) rfl) rfl
theorem wd_472 : (.selects RX3 yX3_page yX3_page : Cond) ∈ WA := tb_2 (List.mem_of_getElem? (i := 232) rfl) rfl
theorem wd_473 : (.code yX3_page cX3_page 3 (some .int) : Cond) ∈ WA := tb_2 (List.mem_of_getElem? (i := 233) rfl) rfl
theorem wd_475 : (.methodLink RX3 142 yX0_endOfPage : Cond) ∈ WA := tb_2 (List.mem_of_getElem? (i := 235) rfl) rfl
theorem wd_476 : (.instanceMethod yX0_endOfPage : Cond) ∈ WA := tb_2 (List.mem_of_getElem? (i := 236) rfl) rfl
theorem wd_477 : (.selects RX0 yX0_endOfPage yX0_endOfPage : Cond) ∈ WA := tb_2 (List.mem_of_getElem? (i := 237) rfl) rfl
theorem wd_478 : (.code yX0_endOfPage cX0_endOfPage 8 (some .int) : Cond) ∈ WA := tb_2 (List.mem_of_getElem? (i := 238) rfl) rfl
theorem wd_480 : (.methodLink RX0 56 yJ13_bitCount_95d88 : Cond) ∈ WA := tb_3 (List.mem_of_getElem? (i := 0) rfl) rfl
theorem wd_481 : (.methodLink RL 156 yL_found : Cond) ∈ WA := tb_3 (List.mem_of_getElem? (i := 1) rfl) rfl
theorem wd_482 : (.static yL_found : Cond) ∈ WA := tb_3 (List.mem_of_getElem? (i := 2) rfl) rfl
theorem wd_483 : (.codeWith yL_found cL_found 5 (some .int) [(0, 10, 13, 13)] : Cond) ∈ WA := tb_3 (List.mem_of_getElem? (i := 3) rfl) rfl
theorem wd_484 : (.methodLink RL 58 yX3_found : Cond) ∈ WA := tb_3 (List.mem_of_getElem? (i := 4) rfl) rfl
theorem wd_485 : (.instanceMethod yX3_found : Cond) ∈ WA := tb_3 (List.mem_of_getElem? (i := 5) rfl) rfl
theorem wd_486 : (.selects RX3 yX3_found yX3_found : Cond) ∈ WA := tb_3 (List.mem_of_getElem? (i := 6) rfl) rfl
theorem wd_487 : (.code yX3_found cX3_found 3 (some .int) : Cond) ∈ WA := tb_3 (List.mem_of_getElem? (i := 7) rfl) rfl
theorem wd_488 : (.methodLink RX3 146 yX3_isQueryKeyword : Cond) ∈ WA := tb_3 (List.mem_of_getElem? (i := 8) rfl) rfl
theorem wd_489 : (.static yX3_isQueryKeyword : Cond) ∈ WA := tb_3 (List.mem_of_getElem? (i := 9) rfl) rfl
theorem wd_490 : (.code yX3_isQueryKeyword cX3_isQueryKeyword 1 (some .boolean) : Cond) ∈ WA := tb_3 (List.mem_of_getElem? (i := 10) rfl) rfl
theorem wd_491 : (.methodLink RX3 149 yX3_asked : Cond) ∈ WA := tb_3 (List.mem_of_getElem? (i := 11) rfl) rfl
theorem wd_492 : (.static yX3_asked : Cond) ∈ WA := tb_3 (List.mem_of_getElem? (i := 12) rfl) rfl
theorem wd_493 : (.code yX3_asked cX3_asked 1 (some .int) : Cond) ∈ WA := tb_3 (List.mem_of_getElem? (i := 13) rfl) rfl
theorem wd_494 : (.methodLink RL 159 yL_foundAt : Cond) ∈ WA := tb_3 (List.mem_of_getElem? (i := 14) rfl) rfl
theorem wd_495 : (.static yL_foundAt : Cond) ∈ WA := tb_3 (List.mem_of_getElem? (i := 15) rfl) rfl
theorem wd_496 : (.codeWith yL_foundAt cL_foundAt 6 (some .int) [(0, 12, 15, 13), (0, 12, 19, 21)] : Cond) ∈ WA := tb_3 (List.mem_of_getElem? (i := 16) rfl) rfl
theorem wd_497 : (.methodLink RL 61 yX3_foundAt : Cond) ∈ WA := tb_3 (List.mem_of_getElem? (i := 17) rfl) rfl
theorem wd_498 : (.instanceMethod yX3_foundAt : Cond) ∈ WA := tb_3 (List.mem_of_getElem? (i := 18) rfl) rfl
theorem wd_499 : (.selects RX3 yX3_foundAt yX3_foundAt : Cond) ∈ WA := tb_3 (List.mem_of_getElem? (i := 19) rfl) rfl
theorem wd_500 : (.code yX3_foundAt cX3_foundAt 5 (some .int) : Cond) ∈ WA := tb_3 (List.mem_of_getElem? (i := 20) rfl) rfl
theorem wd_501 : (.methodLink RX3 152 yX2_latestAt : Cond) ∈ WA := tb_3 (List.mem_of_getElem? (i := 21) rfl) rfl
theorem wd_502 : (.instanceMethod yX2_latestAt : Cond) ∈ WA := tb_3 (List.mem_of_getElem? (i := 22) rfl) rfl
theorem wd_503 : (.selects RX2 yX2_latestAt yX2_latestAt : Cond) ∈ WA := tb_3 (List.mem_of_getElem? (i := 23) rfl) rfl
theorem wd_504 : (.code yX2_latestAt cX2_latestAt 6 (some .int) : Cond) ∈ WA := tb_3 (List.mem_of_getElem? (i := 24) rfl) rfl
theorem wd_506 : (.methodLink RL 162 yL_removed : Cond) ∈ WA := tb_3 (List.mem_of_getElem? (i := 26) rfl) rfl
theorem wd_507 : (.static yL_removed : Cond) ∈ WA := tb_3 (List.mem_of_getElem? (i := 27) rfl) rfl
theorem wd_508 : (.codeWith yL_removed cL_removed 6 (some .int) [(0, 12, 15, 13), (0, 12, 19, 15)] : Cond) ∈ WA := tb_3 (List.mem_of_getElem? (i := 28) rfl) rfl
theorem wd_509 : (.methodLink RL 64 yX3_removed : Cond) ∈ WA := tb_3 (List.mem_of_getElem? (i := 29) rfl) rfl
theorem wd_510 : (.instanceMethod yX3_removed : Cond) ∈ WA := tb_3 (List.mem_of_getElem? (i := 30) rfl) rfl
theorem wd_511 : (.selects RX3 yX3_removed yX3_removed : Cond) ∈ WA := tb_3 (List.mem_of_getElem? (i := 31) rfl) rfl
theorem wd_512 : (.code yX3_removed cX3_removed 6 (some .int) : Cond) ∈ WA := tb_3 (List.mem_of_getElem? (i := 32) rfl) rfl
theorem wd_514 : (.methodLink RX3 157 yX2_matchingAt : Cond) ∈ WA := tb_3 (List.mem_of_getElem? (i := 34) rfl) rfl
theorem wd_515 : (.methodLink RL 165 yL_added : Cond) ∈ WA := tb_3 (List.mem_of_getElem? (i := 35) rfl) rfl
theorem wd_516 : (.static yL_added : Cond) ∈ WA := tb_3 (List.mem_of_getElem? (i := 36) rfl) rfl
theorem wd_517 : (.codeWith yL_added cL_added 6 (some .int) [(0, 12, 15, 13), (0, 12, 19, 15)] : Cond) ∈ WA := tb_3 (List.mem_of_getElem? (i := 37) rfl) rfl
theorem wd_518 : (.methodLink RL 67 yX3_added : Cond) ∈ WA := tb_3 (List.mem_of_getElem? (i := 38) rfl) rfl
theorem wd_519 : (.instanceMethod yX3_added : Cond) ∈ WA := tb_3 (List.mem_of_getElem? (i := 39) rfl) rfl
theorem wd_520 : (.selects RX3 yX3_added yX3_added : Cond) ∈ WA := tb_3 (List.mem_of_getElem? (i := 40) rfl) rfl
theorem wd_521 : (.code yX3_added cX3_added 6 (some .int) : Cond) ∈ WA := tb_3 (List.mem_of_getElem? (i := 41) rfl) rfl
theorem wd_522 : (.methodLink RL 168 yL_watch : Cond) ∈ WA := tb_3 (List.mem_of_getElem? (i := 42) rfl) rfl
theorem wd_523 : (.static yL_watch : Cond) ∈ WA := tb_3 (List.mem_of_getElem? (i := 43) rfl) rfl
theorem wd_524 : (.codeWith yL_watch cL_watch 5 (some .int) [(0, 7, 10, 13)] : Cond) ∈ WA := tb_3 (List.mem_of_getElem? (i := 44) rfl) rfl
theorem wd_525 : (.methodLink RL 70 yX3_watch : Cond) ∈ WA := tb_3 (List.mem_of_getElem? (i := 45) rfl) rfl
theorem wd_526 : (.instanceMethod yX3_watch : Cond) ∈ WA := tb_3 (List.mem_of_getElem? (i := 46) rfl) rfl
theorem wd_527 : (.selects RX3 yX3_watch yX3_watch : Cond) ∈ WA := tb_3 (List.mem_of_getElem? (i := 47) rfl) rfl
theorem wd_528 : (.code yX3_watch cX3_watch 5 none : Cond) ∈ WA := tb_3 (List.mem_of_getElem? (i := 48) rfl) rfl
theorem wd_529 : (.methodLink RX3 163 yX3_isClient : Cond) ∈ WA := tb_3 (List.mem_of_getElem? (i := 49) rfl) rfl
theorem wd_530 : (.static yX3_isClient : Cond) ∈ WA := tb_3 (List.mem_of_getElem? (i := 50) rfl) rfl
theorem wd_531 : (.code yX3_isClient cX3_isClient 1 (some .boolean) : Cond) ∈ WA := tb_3 (List.mem_of_getElem? (i := 51) rfl) rfl
theorem wd_533 : (.methodLink RX3 168 yX3_clientOf : Cond) ∈ WA := tb_3 (List.mem_of_getElem? (i := 53) rfl) rfl
theorem wd_535 : (.instanceMethod yX3_clientOf : Cond) ∈ WA := tb_3 (List.mem_of_getElem? (i := 55) rfl) rfl
theorem wd_536 : (.code yX3_clientOf cX3_clientOf 2 (some (.object "MailFollower$Client")) : Cond) ∈ WA := tb_3 (List.mem_of_getElem? (i := 56) rfl) rfl
theorem wd_537 : (.methodLink RL 172 yL_flagOffline : Cond) ∈ WA := tb_3 (List.mem_of_getElem? (i := 57) rfl) rfl
theorem wd_538 : (.static yL_flagOffline : Cond) ∈ WA := tb_3 (List.mem_of_getElem? (i := 58) rfl) rfl
theorem wd_539 : (.codeWith yL_flagOffline cL_flagOffline 7 (some .int) [(0, 14, 17, 13), (0, 14, 21, 15)] : Cond) ∈ WA := tb_3 (List.mem_of_getElem? (i := 59) rfl) rfl
theorem wd_540 : (.methodLink RL 74 yX3_flagOffline : Cond) ∈ WA := tb_3 (List.mem_of_getElem? (i := 60) rfl) rfl
theorem wd_541 : (.instanceMethod yX3_flagOffline : Cond) ∈ WA := tb_3 (List.mem_of_getElem? (i := 61) rfl) rfl
theorem wd_542 : (.selects RX3 yX3_flagOffline yX3_flagOffline : Cond) ∈ WA := tb_3 (List.mem_of_getElem? (i := 62) rfl) rfl
theorem wd_543 : (.code yX3_flagOffline cX3_flagOffline 7 (some .int) : Cond) ∈ WA := tb_3 (List.mem_of_getElem? (i := 63) rfl) rfl
theorem wd_545 : (.methodLink RX3 180 yX1_placeOf : Cond) ∈ WA := tb_3 (List.mem_of_getElem? (i := 65) rfl) rfl
theorem wd_546 : (.instanceMethod yX1_placeOf : Cond) ∈ WA := tb_3 (List.mem_of_getElem? (i := 66) rfl) rfl
theorem wd_547 : (.selects RX1 yX1_placeOf yX1_placeOf : Cond) ∈ WA := tb_3 (List.mem_of_getElem? (i := 67) rfl) rfl
theorem wd_548 : (.code yX1_placeOf cX1_placeOf 3 (some .int) : Cond) ∈ WA := tb_3 (List.mem_of_getElem? (i := 68) rfl) rfl
theorem wd_551 : (.methodLink RX3 190 yX1_note : Cond) ∈ WA := tb_3 (List.mem_of_getElem? (i := 71) rfl) rfl
theorem wd_552 : (.instanceMethod yX1_note : Cond) ∈ WA := tb_3 (List.mem_of_getElem? (i := 72) rfl) rfl
theorem wd_553 : (.selects RX1 yX1_note yX1_note : Cond) ∈ WA := tb_3 (List.mem_of_getElem? (i := 73) rfl) rfl
theorem wd_554 : (.code yX1_note cX1_note 4 none : Cond) ∈ WA := tb_3 (List.mem_of_getElem? (i := 74) rfl) rfl
theorem wd_555 : (.methodLink RX1 35 yX1_hasPlace : Cond) ∈ WA := tb_3 (List.mem_of_getElem? (i := 75) rfl) rfl
theorem wd_556 : (.instanceMethod yX1_hasPlace : Cond) ∈ WA := tb_3 (List.mem_of_getElem? (i := 76) rfl) rfl
theorem wd_557 : (.selects RX1 yX1_hasPlace yX1_hasPlace : Cond) ∈ WA := tb_3 (List.mem_of_getElem? (i := 77) rfl) rfl
theorem wd_558 : (.code yX1_hasPlace cX1_hasPlace 2 (some .boolean) : Cond) ∈ WA := tb_3 (List.mem_of_getElem? (i := 78) rfl) rfl
theorem wd_560 : (.methodLink RX1 43 yX1_list : Cond) ∈ WA := tb_3 (List.mem_of_getElem? (i := 80) rfl) rfl
theorem wd_562 : (.instanceMethod yX1_list : Cond) ∈ WA := tb_3 (List.mem_of_getElem? (i := 82) rfl) rfl
theorem wd_563 : (.code yX1_list cX1_list 4 none : Cond) ∈ WA := tb_3 (List.mem_of_getElem? (i := 83) rfl) rfl
theorem wd_564 : (.methodLink RL 176 yL_sync : Cond) ∈ WA := tb_3 (List.mem_of_getElem? (i := 84) rfl) rfl
theorem wd_565 : (.static yL_sync : Cond) ∈ WA := tb_3 (List.mem_of_getElem? (i := 85) rfl) rfl
theorem wd_566 : (.codeWith yL_sync cL_sync 4 (some .int) [(0, 9, 12, 13)] : Cond) ∈ WA := tb_3 (List.mem_of_getElem? (i := 86) rfl) rfl
theorem wd_567 : (.methodLink RL 78 yX3_sync : Cond) ∈ WA := tb_3 (List.mem_of_getElem? (i := 87) rfl) rfl
theorem wd_568 : (.instanceMethod yX3_sync : Cond) ∈ WA := tb_3 (List.mem_of_getElem? (i := 88) rfl) rfl
theorem wd_569 : (.selects RX3 yX3_sync yX3_sync : Cond) ∈ WA := tb_3 (List.mem_of_getElem? (i := 89) rfl) rfl
theorem wd_570 : (.code yX3_sync cX3_sync 4 (some .int) : Cond) ∈ WA := tb_3 (List.mem_of_getElem? (i := 90) rfl) rfl
theorem wd_571 : (.methodLink RX3 194 yX3_requireClient : Cond) ∈ WA := tb_3 (List.mem_of_getElem? (i := 91) rfl) rfl
theorem wd_572 : (.static yX3_requireClient : Cond) ∈ WA := tb_3 (List.mem_of_getElem? (i := 92) rfl) rfl
theorem wd_573 : (.code yX3_requireClient cX3_requireClient 1 none : Cond) ∈ WA := tb_3 (List.mem_of_getElem? (i := 93) rfl) rfl
theorem wd_575 : (.methodLink RX3 203 yX1_leaveOutConflicts : Cond) ∈ WA := tb_3 (List.mem_of_getElem? (i := 95) rfl) rfl
theorem wd_576 : (.instanceMethod yX1_leaveOutConflicts : Cond) ∈ WA := tb_3 (List.mem_of_getElem? (i := 96) rfl) rfl
theorem wd_577 : (.selects RX1 yX1_leaveOutConflicts yX1_leaveOutConflicts : Cond) ∈ WA := tb_3 (List.mem_of_getElem? (i := 97) rfl) rfl
theorem wd_578 : (.code yX1_leaveOutConflicts cX1_leaveOutConflicts 4 (some .int) : Cond) ∈ WA := tb_3 (List.mem_of_getElem? (i := 98) rfl) rfl
theorem wd_579 : (.methodLink RX1 50 yX1_isConflict : Cond) ∈ WA := tb_3 (List.mem_of_getElem? (i := 99) rfl) rfl
theorem wd_581 : (.instanceMethod yX1_isConflict : Cond) ∈ WA := tb_3 (List.mem_of_getElem? (i := 101) rfl) rfl
theorem wd_582 : (.code yX1_isConflict cX1_isConflict 6 (some .boolean) : Cond) ∈ WA := tb_3 (List.mem_of_getElem? (i := 102) rfl) rfl
theorem wd_583 : (.methodLink RX1 54 yX2_isThere : Cond) ∈ WA := tb_3 (List.mem_of_getElem? (i := 103) rfl) rfl
theorem wd_584 : (.methodLink RX1 66 yX0_reachBackTo : Cond) ∈ WA := tb_3 (List.mem_of_getElem? (i := 104) rfl) rfl
theorem wd_585 : (.methodLink RX1 71 yX0_contradict : Cond) ∈ WA := tb_3 (List.mem_of_getElem? (i := 105) rfl) rfl
theorem wd_586 : (.instanceMethod yX0_contradict : Cond) ∈ WA := tb_3 (List.mem_of_getElem? (i := 106) rfl) rfl
theorem wd_587 : (.selects RX0 yX0_contradict yX0_contradict : Cond) ∈ WA := tb_3 (List.mem_of_getElem? (i := 107) rfl) rfl
theorem wd_588 : (.code yX0_contradict cX0_contradict 8 (some .boolean) : Cond) ∈ WA := tb_3 (List.mem_of_getElem? (i := 108) rfl) rfl
theorem wd_589 : (.methodLink RX3 207 yX1_replay : Cond) ∈ WA := tb_3 (List.mem_of_getElem? (i := 109) rfl) rfl
theorem wd_590 : (.instanceMethod yX1_replay : Cond) ∈ WA := tb_3 (List.mem_of_getElem? (i := 110) rfl) rfl
theorem wd_591 : (.selects RX1 yX1_replay yX1_replay : Cond) ∈ WA := tb_3 (List.mem_of_getElem? (i := 111) rfl) rfl
theorem wd_592 : (.code yX1_replay cX1_replay 3 none : Cond) ∈ WA := tb_3 (List.mem_of_getElem? (i := 112) rfl) rfl
theorem wd_593 : (.methodLink RX1 75 yX2_setKeyword : Cond) ∈ WA := tb_3 (List.mem_of_getElem? (i := 113) rfl) rfl
theorem wd_594 : (.methodLink RX3 211 yX1_load : Cond) ∈ WA := tb_3 (List.mem_of_getElem? (i := 114) rfl) rfl
theorem wd_595 : (.instanceMethod yX1_load : Cond) ∈ WA := tb_3 (List.mem_of_getElem? (i := 115) rfl) rfl
theorem wd_596 : (.selects RX1 yX1_load yX1_load : Cond) ∈ WA := tb_3 (List.mem_of_getElem? (i := 116) rfl) rfl
theorem wd_597 : (.code yX1_load cX1_load 6 none : Cond) ∈ WA := tb_3 (List.mem_of_getElem? (i := 117) rfl) rfl
theorem wd_598 : (.methodLink RX1 85 yX2_matching : Cond) ∈ WA := tb_3 (List.mem_of_getElem? (i := 118) rfl) rfl
theorem wd_599 : (.methodLink RX1 89 yJ13_bitCount_95d88 : Cond) ∈ WA := tb_3 (List.mem_of_getElem? (i := 119) rfl) rfl
theorem wd_600 : (.methodLink RX1 95 yJ9_min_7cf53 : Cond) ∈ WA := tb_3 (List.mem_of_getElem? (i := 120) rfl) rfl
theorem wd_601 : (.methodLink RX1 101 yX2_latestAt : Cond) ∈ WA := tb_3 (List.mem_of_getElem? (i := 121) rfl) rfl
theorem wd_602 : (.methodLink RX1 105 yX2_keywordsOf : Cond) ∈ WA := tb_3 (List.mem_of_getElem? (i := 122) rfl) rfl
theorem wd_603 : (.methodLink RL 179 yL_stateOf : Cond) ∈ WA := tb_3 (List.mem_of_getElem? (i := 123) rfl) rfl
theorem wd_604 : (.static yL_stateOf : Cond) ∈ WA := tb_3 (List.mem_of_getElem? (i := 124) rfl) rfl
theorem wd_605 : (.codeWith yL_stateOf cL_stateOf 4 (some .int) [(0, 9, 12, 13)] : Cond) ∈ WA := tb_3 (List.mem_of_getElem? (i := 125) rfl) rfl
theorem wd_606 : (.methodLink RL 81 yX3_stateOf : Cond) ∈ WA := tb_3 (List.mem_of_getElem? (i := 126) rfl) rfl
theorem wd_607 : (.instanceMethod yX3_stateOf : Cond) ∈ WA := tb_3 (List.mem_of_getElem? (i := 127) rfl) rfl
theorem wd_608 : (.selects RX3 yX3_stateOf yX3_stateOf : Cond) ∈ WA := tb_3 (List.mem_of_getElem? (i := 128) rfl) rfl
theorem wd_609 : (.code yX3_stateOf cX3_stateOf 2 (some .int) : Cond) ∈ WA := tb_3 (List.mem_of_getElem? (i := 129) rfl) rfl
theorem wd_610 : (.methodLink RL 182 yL_window : Cond) ∈ WA := tb_3 (List.mem_of_getElem? (i := 130) rfl) rfl
theorem wd_611 : (.static yL_window : Cond) ∈ WA := tb_3 (List.mem_of_getElem? (i := 131) rfl) rfl
theorem wd_612 : (.codeWith yL_window cL_window 4 (some .int) [(0, 9, 12, 13)] : Cond) ∈ WA := tb_3 (List.mem_of_getElem? (i := 132) rfl) rfl
theorem wd_613 : (.methodLink RL 84 yX3_window : Cond) ∈ WA := tb_3 (List.mem_of_getElem? (i := 133) rfl) rfl
theorem wd_614 : (.instanceMethod yX3_window : Cond) ∈ WA := tb_3 (List.mem_of_getElem? (i := 134) rfl) rfl
theorem wd_615 : (.selects RX3 yX3_window yX3_window : Cond) ∈ WA := tb_3 (List.mem_of_getElem? (i := 135) rfl) rfl
theorem wd_616 : (.code yX3_window cX3_window 2 (some .int) : Cond) ∈ WA := tb_3 (List.mem_of_getElem? (i := 136) rfl) rfl
theorem wd_617 : (.methodLink RL 185 yL_windowAt : Cond) ∈ WA := tb_3 (List.mem_of_getElem? (i := 137) rfl) rfl
theorem wd_618 : (.static yL_windowAt : Cond) ∈ WA := tb_3 (List.mem_of_getElem? (i := 138) rfl) rfl
theorem wd_619 : (.codeWith yL_windowAt cL_windowAt 5 (some .int) [(0, 10, 13, 13), (0, 10, 17, 21)] : Cond) ∈ WA := tb_3 (List.mem_of_getElem? (i := 139) rfl) rfl
theorem wd_620 : (.methodLink RL 87 yX3_windowAt : Cond) ∈ WA := tb_3 (List.mem_of_getElem? (i := 140) rfl) rfl
theorem wd_621 : (.instanceMethod yX3_windowAt : Cond) ∈ WA := tb_3 (List.mem_of_getElem? (i := 141) rfl) rfl
theorem wd_622 : (.selects RX3 yX3_windowAt yX3_windowAt : Cond) ∈ WA := tb_3 (List.mem_of_getElem? (i := 142) rfl) rfl
theorem wd_623 : (.code yX3_windowAt cX3_windowAt 4 (some .int) : Cond) ∈ WA := tb_3 (List.mem_of_getElem? (i := 143) rfl) rfl
theorem wd_624 : (.methodLink RX3 217 yX1_hasPlace : Cond) ∈ WA := tb_3 (List.mem_of_getElem? (i := 144) rfl) rfl
theorem wd_625 : (.methodLink RL 188 yL_known : Cond) ∈ WA := tb_3 (List.mem_of_getElem? (i := 145) rfl) rfl
theorem wd_626 : (.static yL_known : Cond) ∈ WA := tb_3 (List.mem_of_getElem? (i := 146) rfl) rfl
theorem wd_627 : (.codeWith yL_known cL_known 5 (some .int) [(0, 10, 13, 13), (0, 10, 17, 21)] : Cond) ∈ WA := tb_3 (List.mem_of_getElem? (i := 147) rfl) rfl
theorem wd_628 : (.methodLink RL 90 yX3_known : Cond) ∈ WA := tb_3 (List.mem_of_getElem? (i := 148) rfl) rfl
theorem wd_629 : (.instanceMethod yX3_known : Cond) ∈ WA := tb_3 (List.mem_of_getElem? (i := 149) rfl) rfl
theorem wd_630 : (.selects RX3 yX3_known yX3_known : Cond) ∈ WA := tb_3 (List.mem_of_getElem? (i := 150) rfl) rfl
theorem wd_631 : (.code yX3_known cX3_known 4 (some .int) : Cond) ∈ WA := tb_3 (List.mem_of_getElem? (i := 151) rfl) rfl
theorem wd_632 : (.methodLink RL 191 yL_freshLoads : Cond) ∈ WA := tb_3 (List.mem_of_getElem? (i := 152) rfl) rfl
theorem wd_633 : (.static yL_freshLoads : Cond) ∈ WA := tb_3 (List.mem_of_getElem? (i := 153) rfl) rfl
theorem wd_634 : (.codeWith yL_freshLoads cL_freshLoads 4 (some .int) [(0, 9, 12, 13)] : Cond) ∈ WA := tb_3 (List.mem_of_getElem? (i := 154) rfl) rfl
theorem wd_635 : (.methodLink RL 93 yX3_freshLoads : Cond) ∈ WA := tb_3 (List.mem_of_getElem? (i := 155) rfl) rfl
theorem wd_636 : (.instanceMethod yX3_freshLoads : Cond) ∈ WA := tb_3 (List.mem_of_getElem? (i := 156) rfl) rfl
theorem wd_637 : (.selects RX3 yX3_freshLoads yX3_freshLoads : Cond) ∈ WA := tb_3 (List.mem_of_getElem? (i := 157) rfl) rfl
theorem wd_638 : (.code yX3_freshLoads cX3_freshLoads 2 (some .int) : Cond) ∈ WA := tb_3 (List.mem_of_getElem? (i := 158) rfl) rfl
theorem wd_639 : (.classLink RL 97 "MailFollowerModel" : Cond) ∈ WA := tb_3 (List.mem_of_getElem? (i := 159) rfl) rfl
theorem wd_640 : (.instantiable RX4 26 : Cond) ∈ WA := tb_3 (List.mem_of_getElem? (i := 160) rfl) rfl
theorem wd_641 : (.methodLink RL 99 yX4_init : Cond) ∈ WA := tb_3 (List.mem_of_getElem? (i := 161) rfl) rfl
theorem wd_642 : (.instanceMethod yX4_init : Cond) ∈ WA := tb_3 (List.mem_of_getElem? (i := 162) rfl) rfl
theorem wd_643 : (.code yX4_init cX4_init 1 none : Cond) ∈ WA := tb_3 (List.mem_of_getElem? (i := 163) rfl) rfl
theorem wd_644 : (.methodLink RX4 1 objectInit : Cond) ∈ WA := tb_3 (List.mem_of_getElem? (i := 164) rfl) rfl
theorem wd_645 : (.fieldLink RX4 7 "MailFollowerModel" "time" "[I" : Cond) ∈ WA := tb_3 (List.mem_of_getElem? (i := 165) rfl) rfl
theorem wd_646 : (.fieldLink RX4 13 "MailFollowerModel" "boxes" "[I" : Cond) ∈ WA := tb_3 (List.mem_of_getElem? (i := 166) rfl) rfl
theorem wd_647 : (.fieldLink RX4 16 "MailFollowerModel" "words" "[I" : Cond) ∈ WA := tb_3 (List.mem_of_getElem? (i := 167) rfl) rfl
theorem wd_648 : (.fieldLink RX4 19 "MailFollowerModel" "thread" "[I" : Cond) ∈ WA := tb_3 (List.mem_of_getElem? (i := 168) rfl) rfl
theorem wd_649 : (.fieldLink RX4 22 "MailFollowerModel" "came" "[I" : Cond) ∈ WA := tb_3 (List.mem_of_getElem? (i := 169) rfl) rfl
theorem wd_650 : (.fieldLink RX4 25 "MailFollowerModel" "gone" "[I" : Cond) ∈ WA := tb_3 (List.mem_of_getElem? (i := 170) rfl) rfl
theorem wd_651 : (.fieldLink RX4 84 "MailFollowerModel" "mails" "I" : Cond) ∈ WA := tb_3 (List.mem_of_getElem? (i := 171) rfl) rfl
theorem wd_652 : (.fieldLink RX4 28 "MailFollowerModel" "kind" "[I" : Cond) ∈ WA := tb_3 (List.mem_of_getElem? (i := 172) rfl) rfl
theorem wd_653 : (.fieldLink RX4 31 "MailFollowerModel" "of" "[I" : Cond) ∈ WA := tb_3 (List.mem_of_getElem? (i := 173) rfl) rfl
theorem wd_654 : (.fieldLink RX4 34 "MailFollowerModel" "boxesBefore" "[I" : Cond) ∈ WA := tb_3 (List.mem_of_getElem? (i := 174) rfl) rfl
theorem wd_655 : (.fieldLink RX4 37 "MailFollowerModel" "wordsBefore" "[I" : Cond) ∈ WA := tb_3 (List.mem_of_getElem? (i := 175) rfl) rfl
theorem wd_656 : (.fieldLink RX4 40 "MailFollowerModel" "keyword" "[I" : Cond) ∈ WA := tb_3 (List.mem_of_getElem? (i := 176) rfl) rfl
theorem wd_657 : (.fieldLink RX4 43 "MailFollowerModel" "isSet" "[Z" : Cond) ∈ WA := tb_3 (List.mem_of_getElem? (i := 177) rfl) rfl
theorem wd_658 : (.fieldLink RX4 91 "MailFollowerModel" "state" "I" : Cond) ∈ WA := tb_3 (List.mem_of_getElem? (i := 178) rfl) rfl
theorem wd_659 : (.fieldLink RX4 47 "MailFollowerModel" "box" "[I" : Cond) ∈ WA := tb_3 (List.mem_of_getElem? (i := 179) rfl) rfl
theorem wd_660 : (.fieldLink RX4 50 "MailFollowerModel" "width" "[I" : Cond) ∈ WA := tb_3 (List.mem_of_getElem? (i := 180) rfl) rfl
theorem wd_661 : (.fieldLink RX4 53 "MailFollowerModel" "stateOf" "[I" : Cond) ∈ WA := tb_3 (List.mem_of_getElem? (i := 181) rfl) rfl
theorem wd_662 : (.fieldLink RX4 56 "MailFollowerModel" "windows" "[I" : Cond) ∈ WA := tb_3 (List.mem_of_getElem? (i := 182) rfl) rfl
theorem wd_663 : (.fieldLink RX4 59 "MailFollowerModel" "windowMail" "[I" : Cond) ∈ WA := tb_3 (List.mem_of_getElem? (i := 183) rfl) rfl
theorem wd_664 : (.fieldLink RX4 62 "MailFollowerModel" "windowWords" "[I" : Cond) ∈ WA := tb_3 (List.mem_of_getElem? (i := 184) rfl) rfl
theorem wd_665 : (.fieldLink RX4 65 "MailFollowerModel" "flags" "[I" : Cond) ∈ WA := tb_3 (List.mem_of_getElem? (i := 185) rfl) rfl
theorem wd_666 : (.fieldLink RX4 68 "MailFollowerModel" "flagMail" "[I" : Cond) ∈ WA := tb_3 (List.mem_of_getElem? (i := 186) rfl) rfl
theorem wd_667 : (.fieldLink RX4 71 "MailFollowerModel" "flagWord" "[I" : Cond) ∈ WA := tb_3 (List.mem_of_getElem? (i := 187) rfl) rfl
theorem wd_668 : (.fieldLink RX4 74 "MailFollowerModel" "flagSet" "[Z" : Cond) ∈ WA := tb_3 (List.mem_of_getElem? (i := 188) rfl) rfl
theorem wd_669 : (.fieldLink RX4 77 "MailFollowerModel" "fresh" "[I" : Cond) ∈ WA := tb_3 (List.mem_of_getElem? (i := 189) rfl) rfl
theorem wd_670 : (.fieldLink RX4 80 "MailFollowerModel" "thrown" "I" : Cond) ∈ WA := tb_3 (List.mem_of_getElem? (i := 190) rfl) rfl
theorem wd_671 : (.laysFinal RX4 "MailFollowerModel" "time" "[I" : Cond) ∈ WA := tb_3 (List.mem_of_getElem? (i := 191) rfl) rfl
theorem wd_673 : (.laysFinal RX4 "MailFollowerModel" "boxes" "[I" : Cond) ∈ WA := tb_3 (List.mem_of_getElem? (i := 193) rfl) rfl
theorem wd_675 : (.laysFinal RX4 "MailFollowerModel" "words" "[I" : Cond) ∈ WA := tb_3 (List.mem_of_getElem? (i := 195) rfl) rfl
theorem wd_677 : (.laysFinal RX4 "MailFollowerModel" "thread" "[I" : Cond) ∈ WA := tb_3 (List.mem_of_getElem? (i := 197) rfl) rfl
theorem wd_679 : (.laysFinal RX4 "MailFollowerModel" "came" "[I" : Cond) ∈ WA := tb_3 (List.mem_of_getElem? (i := 199) rfl) rfl
theorem wd_681 : (.laysFinal RX4 "MailFollowerModel" "gone" "[I" : Cond) ∈ WA := tb_3 (List.mem_of_getElem? (i := 201) rfl) rfl
theorem wd_683 : (.lays RX4 "MailFollowerModel" "mails" "I" : Cond) ∈ WA := tb_3 (List.mem_of_getElem? (i := 203) rfl) rfl
theorem wd_685 : (.laysFinal RX4 "MailFollowerModel" "kind" "[I" : Cond) ∈ WA := tb_3 (List.mem_of_getElem? (i := 205) rfl) rfl
theorem wd_687 : (.laysFinal RX4 "MailFollowerModel" "of" "[I" : Cond) ∈ WA := tb_3 (List.mem_of_getElem? (i := 207) rfl) rfl
theorem wd_689 : (.laysFinal RX4 "MailFollowerModel" "boxesBefore" "[I" : Cond) ∈ WA := tb_3 (List.mem_of_getElem? (i := 209) rfl) rfl
theorem wd_691 : (.laysFinal RX4 "MailFollowerModel" "wordsBefore" "[I" : Cond) ∈ WA := tb_3 (List.mem_of_getElem? (i := 211) rfl) rfl
theorem wd_693 : (.laysFinal RX4 "MailFollowerModel" "keyword" "[I" : Cond) ∈ WA := tb_3 (List.mem_of_getElem? (i := 213) rfl) rfl
theorem wd_695 : (.laysFinal RX4 "MailFollowerModel" "isSet" "[Z" : Cond) ∈ WA := tb_3 (List.mem_of_getElem? (i := 215) rfl) rfl
theorem wd_697 : (.lays RX4 "MailFollowerModel" "state" "I" : Cond) ∈ WA := tb_3 (List.mem_of_getElem? (i := 217) rfl) rfl
theorem wd_699 : (.laysFinal RX4 "MailFollowerModel" "box" "[I" : Cond) ∈ WA := tb_3 (List.mem_of_getElem? (i := 219) rfl) rfl
theorem wd_701 : (.laysFinal RX4 "MailFollowerModel" "width" "[I" : Cond) ∈ WA := tb_3 (List.mem_of_getElem? (i := 221) rfl) rfl
theorem wd_703 : (.laysFinal RX4 "MailFollowerModel" "stateOf" "[I" : Cond) ∈ WA := tb_3 (List.mem_of_getElem? (i := 223) rfl) rfl
theorem wd_705 : (.laysFinal RX4 "MailFollowerModel" "windows" "[I" : Cond) ∈ WA := tb_3 (List.mem_of_getElem? (i := 225) rfl) rfl
theorem wd_707 : (.laysFinal RX4 "MailFollowerModel" "windowMail" "[I" : Cond) ∈ WA := tb_3 (List.mem_of_getElem? (i := 227) rfl) rfl
theorem wd_709 : (.laysFinal RX4 "MailFollowerModel" "windowWords" "[I" : Cond) ∈ WA := tb_3 (List.mem_of_getElem? (i := 229) rfl) rfl
theorem wd_711 : (.laysFinal RX4 "MailFollowerModel" "flags" "[I" : Cond) ∈ WA := tb_3 (List.mem_of_getElem? (i := 231) rfl) rfl
theorem wd_713 : (.laysFinal RX4 "MailFollowerModel" "flagMail" "[I" : Cond) ∈ WA := tb_3 (List.mem_of_getElem? (i := 233) rfl) rfl
theorem wd_715 : (.laysFinal RX4 "MailFollowerModel" "flagWord" "[I" : Cond) ∈ WA := tb_3 (List.mem_of_getElem? (i := 235) rfl) rfl
theorem wd_717 : (.laysFinal RX4 "MailFollowerModel" "flagSet" "[Z" : Cond) ∈ WA := tb_3 (List.mem_of_getElem? (i := 237) rfl) rfl
theorem wd_719 : (.laysFinal RX4 "MailFollowerModel" "fresh" "[I" : Cond) ∈ WA := tb_3 (List.mem_of_getElem? (i := 239) rfl) rfl
theorem wd_721 : (.lays RX4 "MailFollowerModel" "thrown" "I" : Cond) ∈ WA := tb_4 (List.mem_of_getElem? (i := 1) rfl) rfl
theorem wd_723 : (.superclass RX4 "java/lang/Object" : Cond) ∈ WA := tb_4 (List.mem_of_getElem? (i := 3) rfl) rfl
theorem wd_724 : (.methodLink RL 106 yX4_thrown : Cond) ∈ WA := tb_4 (List.mem_of_getElem? (i := 4) rfl) rfl
theorem wd_725 : (.instanceMethod yX4_thrown : Cond) ∈ WA := tb_4 (List.mem_of_getElem? (i := 5) rfl) rfl
theorem wd_726 : (.selects RX4 yX4_thrown yX4_thrown : Cond) ∈ WA := tb_4 (List.mem_of_getElem? (i := 6) rfl) rfl
theorem wd_727 : (.code yX4_thrown cX4_thrown 1 (some .int) : Cond) ∈ WA := tb_4 (List.mem_of_getElem? (i := 7) rfl) rfl
theorem wd_728 : (.methodLink RL 105 yX4_add : Cond) ∈ WA := tb_4 (List.mem_of_getElem? (i := 8) rfl) rfl
theorem wd_729 : (.instanceMethod yX4_add : Cond) ∈ WA := tb_4 (List.mem_of_getElem? (i := 9) rfl) rfl
theorem wd_730 : (.selects RX4 yX4_add yX4_add : Cond) ∈ WA := tb_4 (List.mem_of_getElem? (i := 10) rfl) rfl
theorem wd_731 : (.code yX4_add cX4_add 4 (some .int) : Cond) ∈ WA := tb_4 (List.mem_of_getElem? (i := 11) rfl) rfl
theorem wd_732 : (.methodLink RX4 87 yX4_in : Cond) ∈ WA := tb_4 (List.mem_of_getElem? (i := 12) rfl) rfl
theorem wd_733 : (.static yX4_in : Cond) ∈ WA := tb_4 (List.mem_of_getElem? (i := 13) rfl) rfl
theorem wd_734 : (.code yX4_in cX4_in 3 (some .boolean) : Cond) ∈ WA := tb_4 (List.mem_of_getElem? (i := 14) rfl) rfl
theorem wd_735 : (.methodLink RX4 94 yX4_isFine : Cond) ∈ WA := tb_4 (List.mem_of_getElem? (i := 15) rfl) rfl
theorem wd_737 : (.instanceMethod yX4_isFine : Cond) ∈ WA := tb_4 (List.mem_of_getElem? (i := 17) rfl) rfl
theorem wd_738 : (.code yX4_isFine cX4_isFine 2 (some .boolean) : Cond) ∈ WA := tb_4 (List.mem_of_getElem? (i := 18) rfl) rfl
theorem wd_739 : (.methodLink RX4 98 yX4_notes : Cond) ∈ WA := tb_4 (List.mem_of_getElem? (i := 19) rfl) rfl
theorem wd_741 : (.instanceMethod yX4_notes : Cond) ∈ WA := tb_4 (List.mem_of_getElem? (i := 21) rfl) rfl
theorem wd_742 : (.code yX4_notes cX4_notes 5 none : Cond) ∈ WA := tb_4 (List.mem_of_getElem? (i := 22) rfl) rfl
theorem wd_743 : (.methodLink RL 113 yX4_move : Cond) ∈ WA := tb_4 (List.mem_of_getElem? (i := 23) rfl) rfl
theorem wd_744 : (.instanceMethod yX4_move : Cond) ∈ WA := tb_4 (List.mem_of_getElem? (i := 24) rfl) rfl
theorem wd_745 : (.selects RX4 yX4_move yX4_move : Cond) ∈ WA := tb_4 (List.mem_of_getElem? (i := 25) rfl) rfl
theorem wd_746 : (.code yX4_move cX4_move 4 (some .int) : Cond) ∈ WA := tb_4 (List.mem_of_getElem? (i := 26) rfl) rfl
theorem wd_747 : (.methodLink RX4 102 yX4_isThere : Cond) ∈ WA := tb_4 (List.mem_of_getElem? (i := 27) rfl) rfl
theorem wd_749 : (.instanceMethod yX4_isThere : Cond) ∈ WA := tb_4 (List.mem_of_getElem? (i := 29) rfl) rfl
theorem wd_750 : (.code yX4_isThere cX4_isThere 2 (some .boolean) : Cond) ∈ WA := tb_4 (List.mem_of_getElem? (i := 30) rfl) rfl
theorem wd_751 : (.methodLink RL 117 yX4_flag : Cond) ∈ WA := tb_4 (List.mem_of_getElem? (i := 31) rfl) rfl
theorem wd_752 : (.instanceMethod yX4_flag : Cond) ∈ WA := tb_4 (List.mem_of_getElem? (i := 32) rfl) rfl
theorem wd_753 : (.selects RX4 yX4_flag yX4_flag : Cond) ∈ WA := tb_4 (List.mem_of_getElem? (i := 33) rfl) rfl
theorem wd_754 : (.code yX4_flag cX4_flag 4 (some .boolean) : Cond) ∈ WA := tb_4 (List.mem_of_getElem? (i := 34) rfl) rfl
theorem wd_755 : (.methodLink RX4 109 yX4_flags : Cond) ∈ WA := tb_4 (List.mem_of_getElem? (i := 35) rfl) rfl
theorem wd_757 : (.instanceMethod yX4_flags : Cond) ∈ WA := tb_4 (List.mem_of_getElem? (i := 37) rfl) rfl
theorem wd_758 : (.code yX4_flags cX4_flags 4 (some .boolean) : Cond) ∈ WA := tb_4 (List.mem_of_getElem? (i := 38) rfl) rfl
theorem wd_759 : (.methodLink RX4 105 yX4_has : Cond) ∈ WA := tb_4 (List.mem_of_getElem? (i := 39) rfl) rfl
theorem wd_760 : (.static yX4_has : Cond) ∈ WA := tb_4 (List.mem_of_getElem? (i := 40) rfl) rfl
theorem wd_761 : (.code yX4_has cX4_has 2 (some .boolean) : Cond) ∈ WA := tb_4 (List.mem_of_getElem? (i := 41) rfl) rfl
theorem wd_762 : (.methodLink RL 121 yX4_flagIf : Cond) ∈ WA := tb_4 (List.mem_of_getElem? (i := 42) rfl) rfl
theorem wd_763 : (.instanceMethod yX4_flagIf : Cond) ∈ WA := tb_4 (List.mem_of_getElem? (i := 43) rfl) rfl
theorem wd_764 : (.selects RX4 yX4_flagIf yX4_flagIf : Cond) ∈ WA := tb_4 (List.mem_of_getElem? (i := 44) rfl) rfl
theorem wd_765 : (.code yX4_flagIf cX4_flagIf 6 (some .boolean) : Cond) ∈ WA := tb_4 (List.mem_of_getElem? (i := 45) rfl) rfl
theorem wd_766 : (.methodLink RL 125 yX4_destroy : Cond) ∈ WA := tb_4 (List.mem_of_getElem? (i := 46) rfl) rfl
theorem wd_767 : (.instanceMethod yX4_destroy : Cond) ∈ WA := tb_4 (List.mem_of_getElem? (i := 47) rfl) rfl
theorem wd_768 : (.selects RX4 yX4_destroy yX4_destroy : Cond) ∈ WA := tb_4 (List.mem_of_getElem? (i := 48) rfl) rfl
theorem wd_769 : (.code yX4_destroy cX4_destroy 2 (some .int) : Cond) ∈ WA := tb_4 (List.mem_of_getElem? (i := 49) rfl) rfl
theorem wd_770 : (.methodLink RL 129 yX4_state : Cond) ∈ WA := tb_4 (List.mem_of_getElem? (i := 50) rfl) rfl
theorem wd_771 : (.instanceMethod yX4_state : Cond) ∈ WA := tb_4 (List.mem_of_getElem? (i := 51) rfl) rfl
theorem wd_772 : (.selects RX4 yX4_state yX4_state : Cond) ∈ WA := tb_4 (List.mem_of_getElem? (i := 52) rfl) rfl
theorem wd_773 : (.code yX4_state cX4_state 1 (some .int) : Cond) ∈ WA := tb_4 (List.mem_of_getElem? (i := 53) rfl) rfl
theorem wd_774 : (.methodLink RL 133 yX4_mails : Cond) ∈ WA := tb_4 (List.mem_of_getElem? (i := 54) rfl) rfl
theorem wd_775 : (.instanceMethod yX4_mails : Cond) ∈ WA := tb_4 (List.mem_of_getElem? (i := 55) rfl) rfl
theorem wd_776 : (.selects RX4 yX4_mails yX4_mails : Cond) ∈ WA := tb_4 (List.mem_of_getElem? (i := 56) rfl) rfl
theorem wd_777 : (.code yX4_mails cX4_mails 3 (some .int) : Cond) ∈ WA := tb_4 (List.mem_of_getElem? (i := 57) rfl) rfl
theorem wd_778 : (.methodLink RL 136 yX4_keywords : Cond) ∈ WA := tb_4 (List.mem_of_getElem? (i := 58) rfl) rfl
theorem wd_779 : (.instanceMethod yX4_keywords : Cond) ∈ WA := tb_4 (List.mem_of_getElem? (i := 59) rfl) rfl
theorem wd_780 : (.selects RX4 yX4_keywords yX4_keywords : Cond) ∈ WA := tb_4 (List.mem_of_getElem? (i := 60) rfl) rfl
theorem wd_781 : (.code yX4_keywords cX4_keywords 2 (some .int) : Cond) ∈ WA := tb_4 (List.mem_of_getElem? (i := 61) rfl) rfl
theorem wd_782 : (.methodLink RL 139 yX4_inThread : Cond) ∈ WA := tb_4 (List.mem_of_getElem? (i := 62) rfl) rfl
theorem wd_783 : (.instanceMethod yX4_inThread : Cond) ∈ WA := tb_4 (List.mem_of_getElem? (i := 63) rfl) rfl
theorem wd_784 : (.selects RX4 yX4_inThread yX4_inThread : Cond) ∈ WA := tb_4 (List.mem_of_getElem? (i := 64) rfl) rfl
theorem wd_785 : (.code yX4_inThread cX4_inThread 4 (some .int) : Cond) ∈ WA := tb_4 (List.mem_of_getElem? (i := 65) rfl) rfl
theorem wd_786 : (.methodLink RL 143 yX4_share : Cond) ∈ WA := tb_4 (List.mem_of_getElem? (i := 66) rfl) rfl
theorem wd_787 : (.instanceMethod yX4_share : Cond) ∈ WA := tb_4 (List.mem_of_getElem? (i := 67) rfl) rfl
theorem wd_788 : (.selects RX4 yX4_share yX4_share : Cond) ∈ WA := tb_4 (List.mem_of_getElem? (i := 68) rfl) rfl
theorem wd_789 : (.code yX4_share cX4_share 4 (some .float) : Cond) ∈ WA := tb_4 (List.mem_of_getElem? (i := 69) rfl) rfl
theorem wd_790 : (.methodLink RX4 115 yX4_count : Cond) ∈ WA := tb_4 (List.mem_of_getElem? (i := 70) rfl) rfl
theorem wd_792 : (.instanceMethod yX4_count : Cond) ∈ WA := tb_4 (List.mem_of_getElem? (i := 72) rfl) rfl
theorem wd_793 : (.code yX4_count cX4_count 5 (some .int) : Cond) ∈ WA := tb_4 (List.mem_of_getElem? (i := 73) rfl) rfl
theorem wd_794 : (.methodLink RX4 112 yX4_isFound : Cond) ∈ WA := tb_4 (List.mem_of_getElem? (i := 74) rfl) rfl
theorem wd_796 : (.instanceMethod yX4_isFound : Cond) ∈ WA := tb_4 (List.mem_of_getElem? (i := 76) rfl) rfl
theorem wd_797 : (.code yX4_isFound cX4_isFound 4 (some .boolean) : Cond) ∈ WA := tb_4 (List.mem_of_getElem? (i := 77) rfl) rfl
theorem wd_798 : (.methodLink RL 146 yX4_canTell : Cond) ∈ WA := tb_4 (List.mem_of_getElem? (i := 78) rfl) rfl
theorem wd_799 : (.instanceMethod yX4_canTell : Cond) ∈ WA := tb_4 (List.mem_of_getElem? (i := 79) rfl) rfl
theorem wd_800 : (.selects RX4 yX4_canTell yX4_canTell : Cond) ∈ WA := tb_4 (List.mem_of_getElem? (i := 80) rfl) rfl
theorem wd_801 : (.code yX4_canTell cX4_canTell 2 (some .boolean) : Cond) ∈ WA := tb_4 (List.mem_of_getElem? (i := 81) rfl) rfl
theorem wd_802 : (.methodLink RX4 119 yX4_isState : Cond) ∈ WA := tb_4 (List.mem_of_getElem? (i := 82) rfl) rfl
theorem wd_804 : (.instanceMethod yX4_isState : Cond) ∈ WA := tb_4 (List.mem_of_getElem? (i := 84) rfl) rfl
theorem wd_805 : (.code yX4_isState cX4_isState 2 (some .boolean) : Cond) ∈ WA := tb_4 (List.mem_of_getElem? (i := 85) rfl) rfl
theorem wd_806 : (.methodLink RX4 122 yX4_tells : Cond) ∈ WA := tb_4 (List.mem_of_getElem? (i := 86) rfl) rfl
theorem wd_808 : (.instanceMethod yX4_tells : Cond) ∈ WA := tb_4 (List.mem_of_getElem? (i := 88) rfl) rfl
theorem wd_809 : (.code yX4_tells cX4_tells 2 (some .boolean) : Cond) ∈ WA := tb_4 (List.mem_of_getElem? (i := 89) rfl) rfl
theorem wd_810 : (.methodLink RL 149 yX4_changed : Cond) ∈ WA := tb_4 (List.mem_of_getElem? (i := 90) rfl) rfl
theorem wd_811 : (.instanceMethod yX4_changed : Cond) ∈ WA := tb_4 (List.mem_of_getElem? (i := 91) rfl) rfl
theorem wd_812 : (.selects RX4 yX4_changed yX4_changed : Cond) ∈ WA := tb_4 (List.mem_of_getElem? (i := 92) rfl) rfl
theorem wd_813 : (.code yX4_changed cX4_changed 3 (some .int) : Cond) ∈ WA := tb_4 (List.mem_of_getElem? (i := 93) rfl) rfl
theorem wd_814 : (.methodLink RX4 134 yX4_placeOf : Cond) ∈ WA := tb_4 (List.mem_of_getElem? (i := 94) rfl) rfl
theorem wd_816 : (.instanceMethod yX4_placeOf : Cond) ∈ WA := tb_4 (List.mem_of_getElem? (i := 96) rfl) rfl
theorem wd_817 : (.code yX4_placeOf cX4_placeOf 3 (some .int) : Cond) ∈ WA := tb_4 (List.mem_of_getElem? (i := 97) rfl) rfl
theorem wd_818 : (.methodLink RX4 137 yX4_countChanged : Cond) ∈ WA := tb_4 (List.mem_of_getElem? (i := 98) rfl) rfl
theorem wd_820 : (.instanceMethod yX4_countChanged : Cond) ∈ WA := tb_4 (List.mem_of_getElem? (i := 100) rfl) rfl
theorem wd_821 : (.code yX4_countChanged cX4_countChanged 5 (some .int) : Cond) ∈ WA := tb_4 (List.mem_of_getElem? (i := 101) rfl) rfl
theorem wd_822 : (.methodLink RX4 131 yX4_changedSo : Cond) ∈ WA := tb_4 (List.mem_of_getElem? (i := 102) rfl) rfl
theorem wd_824 : (.instanceMethod yX4_changedSo : Cond) ∈ WA := tb_4 (List.mem_of_getElem? (i := 104) rfl) rfl
theorem wd_825 : (.code yX4_changedSo cX4_changedSo 6 (some .boolean) : Cond) ∈ WA := tb_4 (List.mem_of_getElem? (i := 105) rfl) rfl
theorem wd_826 : (.methodLink RX4 125 yX4_wasThere : Cond) ∈ WA := tb_4 (List.mem_of_getElem? (i := 106) rfl) rfl
theorem wd_828 : (.instanceMethod yX4_wasThere : Cond) ∈ WA := tb_4 (List.mem_of_getElem? (i := 108) rfl) rfl
theorem wd_829 : (.code yX4_wasThere cX4_wasThere 3 (some .boolean) : Cond) ∈ WA := tb_4 (List.mem_of_getElem? (i := 109) rfl) rfl
theorem wd_830 : (.methodLink RX4 128 yX4_isChanged : Cond) ∈ WA := tb_4 (List.mem_of_getElem? (i := 110) rfl) rfl
theorem wd_832 : (.instanceMethod yX4_isChanged : Cond) ∈ WA := tb_4 (List.mem_of_getElem? (i := 112) rfl) rfl
theorem wd_833 : (.code yX4_isChanged cX4_isChanged 5 (some .boolean) : Cond) ∈ WA := tb_4 (List.mem_of_getElem? (i := 113) rfl) rfl
theorem wd_834 : (.methodLink RL 152 yX4_changedAt : Cond) ∈ WA := tb_4 (List.mem_of_getElem? (i := 114) rfl) rfl
theorem wd_835 : (.instanceMethod yX4_changedAt : Cond) ∈ WA := tb_4 (List.mem_of_getElem? (i := 115) rfl) rfl
theorem wd_836 : (.selects RX4 yX4_changedAt yX4_changedAt : Cond) ∈ WA := tb_4 (List.mem_of_getElem? (i := 116) rfl) rfl
theorem wd_837 : (.code yX4_changedAt cX4_changedAt 7 (some .int) : Cond) ∈ WA := tb_4 (List.mem_of_getElem? (i := 117) rfl) rfl
theorem wd_838 : (.methodLink RL 155 yX4_page : Cond) ∈ WA := tb_4 (List.mem_of_getElem? (i := 118) rfl) rfl
theorem wd_839 : (.instanceMethod yX4_page : Cond) ∈ WA := tb_4 (List.mem_of_getElem? (i := 119) rfl) rfl
theorem wd_840 : (.selects RX4 yX4_page yX4_page : Cond) ∈ WA := tb_4 (List.mem_of_getElem? (i := 120) rfl) rfl
theorem wd_841 : (.code yX4_page cX4_page 7 (some .int) : Cond) ∈ WA := tb_4 (List.mem_of_getElem? (i := 121) rfl) rfl
theorem wd_842 : (.methodLink RL 158 yX4_found : Cond) ∈ WA := tb_4 (List.mem_of_getElem? (i := 122) rfl) rfl
theorem wd_843 : (.instanceMethod yX4_found : Cond) ∈ WA := tb_4 (List.mem_of_getElem? (i := 123) rfl) rfl
theorem wd_844 : (.selects RX4 yX4_found yX4_found : Cond) ∈ WA := tb_4 (List.mem_of_getElem? (i := 124) rfl) rfl
theorem wd_845 : (.code yX4_found cX4_found 3 (some .int) : Cond) ∈ WA := tb_4 (List.mem_of_getElem? (i := 125) rfl) rfl
theorem wd_846 : (.methodLink RX4 140 yX4_isQuery : Cond) ∈ WA := tb_4 (List.mem_of_getElem? (i := 126) rfl) rfl
theorem wd_847 : (.static yX4_isQuery : Cond) ∈ WA := tb_4 (List.mem_of_getElem? (i := 127) rfl) rfl
theorem wd_848 : (.code yX4_isQuery cX4_isQuery 2 (some .boolean) : Cond) ∈ WA := tb_4 (List.mem_of_getElem? (i := 128) rfl) rfl
theorem wd_849 : (.methodLink RL 161 yX4_foundAt : Cond) ∈ WA := tb_4 (List.mem_of_getElem? (i := 129) rfl) rfl
theorem wd_850 : (.instanceMethod yX4_foundAt : Cond) ∈ WA := tb_4 (List.mem_of_getElem? (i := 130) rfl) rfl
theorem wd_851 : (.selects RX4 yX4_foundAt yX4_foundAt : Cond) ∈ WA := tb_4 (List.mem_of_getElem? (i := 131) rfl) rfl
theorem wd_852 : (.code yX4_foundAt cX4_foundAt 5 (some .int) : Cond) ∈ WA := tb_4 (List.mem_of_getElem? (i := 132) rfl) rfl
theorem wd_853 : (.methodLink RX4 143 yX4_foundOne : Cond) ∈ WA := tb_4 (List.mem_of_getElem? (i := 133) rfl) rfl
theorem wd_855 : (.instanceMethod yX4_foundOne : Cond) ∈ WA := tb_4 (List.mem_of_getElem? (i := 135) rfl) rfl
theorem wd_856 : (.code yX4_foundOne cX4_foundOne 8 (some .int) : Cond) ∈ WA := tb_4 (List.mem_of_getElem? (i := 136) rfl) rfl
theorem wd_857 : (.methodLink RL 164 yX4_removed : Cond) ∈ WA := tb_4 (List.mem_of_getElem? (i := 137) rfl) rfl
theorem wd_858 : (.instanceMethod yX4_removed : Cond) ∈ WA := tb_4 (List.mem_of_getElem? (i := 138) rfl) rfl
theorem wd_859 : (.selects RX4 yX4_removed yX4_removed : Cond) ∈ WA := tb_4 (List.mem_of_getElem? (i := 139) rfl) rfl
theorem wd_860 : (.code yX4_removed cX4_removed 6 (some .int) : Cond) ∈ WA := tb_4 (List.mem_of_getElem? (i := 140) rfl) rfl
theorem wd_861 : (.methodLink RX4 147 yX4_wasFound : Cond) ∈ WA := tb_4 (List.mem_of_getElem? (i := 141) rfl) rfl
theorem wd_863 : (.instanceMethod yX4_wasFound : Cond) ∈ WA := tb_4 (List.mem_of_getElem? (i := 143) rfl) rfl
theorem wd_864 : (.code yX4_wasFound cX4_wasFound 8 (some .boolean) : Cond) ∈ WA := tb_4 (List.mem_of_getElem? (i := 144) rfl) rfl
theorem wd_865 : (.methodLink RL 167 yX4_added : Cond) ∈ WA := tb_4 (List.mem_of_getElem? (i := 145) rfl) rfl
theorem wd_866 : (.instanceMethod yX4_added : Cond) ∈ WA := tb_4 (List.mem_of_getElem? (i := 146) rfl) rfl
theorem wd_867 : (.selects RX4 yX4_added yX4_added : Cond) ∈ WA := tb_4 (List.mem_of_getElem? (i := 147) rfl) rfl
theorem wd_868 : (.code yX4_added cX4_added 6 (some .int) : Cond) ∈ WA := tb_4 (List.mem_of_getElem? (i := 148) rfl) rfl
theorem wd_869 : (.methodLink RL 171 yX4_watch : Cond) ∈ WA := tb_4 (List.mem_of_getElem? (i := 149) rfl) rfl
theorem wd_870 : (.instanceMethod yX4_watch : Cond) ∈ WA := tb_4 (List.mem_of_getElem? (i := 150) rfl) rfl
theorem wd_871 : (.selects RX4 yX4_watch yX4_watch : Cond) ∈ WA := tb_4 (List.mem_of_getElem? (i := 151) rfl) rfl
theorem wd_872 : (.code yX4_watch cX4_watch 4 none : Cond) ∈ WA := tb_4 (List.mem_of_getElem? (i := 152) rfl) rfl
theorem wd_873 : (.methodLink RX4 151 yX4_isClient : Cond) ∈ WA := tb_4 (List.mem_of_getElem? (i := 153) rfl) rfl
theorem wd_874 : (.static yX4_isClient : Cond) ∈ WA := tb_4 (List.mem_of_getElem? (i := 154) rfl) rfl
theorem wd_875 : (.code yX4_isClient cX4_isClient 1 (some .boolean) : Cond) ∈ WA := tb_4 (List.mem_of_getElem? (i := 155) rfl) rfl
theorem wd_876 : (.methodLink RL 175 yX4_flagOffline : Cond) ∈ WA := tb_4 (List.mem_of_getElem? (i := 156) rfl) rfl
theorem wd_877 : (.instanceMethod yX4_flagOffline : Cond) ∈ WA := tb_4 (List.mem_of_getElem? (i := 157) rfl) rfl
theorem wd_878 : (.selects RX4 yX4_flagOffline yX4_flagOffline : Cond) ∈ WA := tb_4 (List.mem_of_getElem? (i := 158) rfl) rfl
theorem wd_879 : (.code yX4_flagOffline cX4_flagOffline 8 (some .int) : Cond) ∈ WA := tb_4 (List.mem_of_getElem? (i := 159) rfl) rfl
theorem wd_880 : (.methodLink RX4 154 yX4_windowPlace : Cond) ∈ WA := tb_4 (List.mem_of_getElem? (i := 160) rfl) rfl
theorem wd_882 : (.instanceMethod yX4_windowPlace : Cond) ∈ WA := tb_4 (List.mem_of_getElem? (i := 162) rfl) rfl
theorem wd_883 : (.code yX4_windowPlace cX4_windowPlace 5 (some .int) : Cond) ∈ WA := tb_4 (List.mem_of_getElem? (i := 163) rfl) rfl
theorem wd_884 : (.methodLink RL 178 yX4_sync : Cond) ∈ WA := tb_4 (List.mem_of_getElem? (i := 164) rfl) rfl
theorem wd_885 : (.instanceMethod yX4_sync : Cond) ∈ WA := tb_4 (List.mem_of_getElem? (i := 165) rfl) rfl
theorem wd_886 : (.selects RX4 yX4_sync yX4_sync : Cond) ∈ WA := tb_4 (List.mem_of_getElem? (i := 166) rfl) rfl
theorem wd_887 : (.code yX4_sync cX4_sync 8 (some .int) : Cond) ∈ WA := tb_4 (List.mem_of_getElem? (i := 167) rfl) rfl
theorem wd_888 : (.methodLink RX4 157 yX4_isOtherwise : Cond) ∈ WA := tb_4 (List.mem_of_getElem? (i := 168) rfl) rfl
theorem wd_890 : (.instanceMethod yX4_isOtherwise : Cond) ∈ WA := tb_4 (List.mem_of_getElem? (i := 170) rfl) rfl
theorem wd_891 : (.code yX4_isOtherwise cX4_isOtherwise 8 (some .boolean) : Cond) ∈ WA := tb_4 (List.mem_of_getElem? (i := 171) rfl) rfl
theorem wd_892 : (.methodLink RX4 161 yX4_takes : Cond) ∈ WA := tb_4 (List.mem_of_getElem? (i := 172) rfl) rfl
theorem wd_894 : (.instanceMethod yX4_takes : Cond) ∈ WA := tb_4 (List.mem_of_getElem? (i := 174) rfl) rfl
theorem wd_895 : (.code yX4_takes cX4_takes 4 none : Cond) ∈ WA := tb_4 (List.mem_of_getElem? (i := 175) rfl) rfl
theorem wd_896 : (.methodLink RL 181 yX4_stateOf : Cond) ∈ WA := tb_4 (List.mem_of_getElem? (i := 176) rfl) rfl
theorem wd_897 : (.instanceMethod yX4_stateOf : Cond) ∈ WA := tb_4 (List.mem_of_getElem? (i := 177) rfl) rfl
theorem wd_898 : (.selects RX4 yX4_stateOf yX4_stateOf : Cond) ∈ WA := tb_4 (List.mem_of_getElem? (i := 178) rfl) rfl
theorem wd_899 : (.code yX4_stateOf cX4_stateOf 2 (some .int) : Cond) ∈ WA := tb_4 (List.mem_of_getElem? (i := 179) rfl) rfl
theorem wd_900 : (.methodLink RL 184 yX4_window : Cond) ∈ WA := tb_4 (List.mem_of_getElem? (i := 180) rfl) rfl
theorem wd_901 : (.instanceMethod yX4_window : Cond) ∈ WA := tb_4 (List.mem_of_getElem? (i := 181) rfl) rfl
theorem wd_902 : (.selects RX4 yX4_window yX4_window : Cond) ∈ WA := tb_4 (List.mem_of_getElem? (i := 182) rfl) rfl
theorem wd_903 : (.code yX4_window cX4_window 2 (some .int) : Cond) ∈ WA := tb_4 (List.mem_of_getElem? (i := 183) rfl) rfl
theorem wd_904 : (.methodLink RL 187 yX4_windowAt : Cond) ∈ WA := tb_4 (List.mem_of_getElem? (i := 184) rfl) rfl
theorem wd_905 : (.instanceMethod yX4_windowAt : Cond) ∈ WA := tb_4 (List.mem_of_getElem? (i := 185) rfl) rfl
theorem wd_906 : (.selects RX4 yX4_windowAt yX4_windowAt : Cond) ∈ WA := tb_4 (List.mem_of_getElem? (i := 186) rfl) rfl
theorem wd_907 : (.code yX4_windowAt cX4_windowAt 4 (some .int) : Cond) ∈ WA := tb_4 (List.mem_of_getElem? (i := 187) rfl) rfl
theorem wd_908 : (.methodLink RL 190 yX4_known : Cond) ∈ WA := tb_4 (List.mem_of_getElem? (i := 188) rfl) rfl
theorem wd_909 : (.instanceMethod yX4_known : Cond) ∈ WA := tb_4 (List.mem_of_getElem? (i := 189) rfl) rfl
theorem wd_910 : (.selects RX4 yX4_known yX4_known : Cond) ∈ WA := tb_4 (List.mem_of_getElem? (i := 190) rfl) rfl
theorem wd_911 : (.code yX4_known cX4_known 4 (some .int) : Cond) ∈ WA := tb_4 (List.mem_of_getElem? (i := 191) rfl) rfl
theorem wd_912 : (.methodLink RL 193 yX4_freshLoads : Cond) ∈ WA := tb_4 (List.mem_of_getElem? (i := 192) rfl) rfl
theorem wd_913 : (.instanceMethod yX4_freshLoads : Cond) ∈ WA := tb_4 (List.mem_of_getElem? (i := 193) rfl) rfl
theorem wd_914 : (.selects RX4 yX4_freshLoads yX4_freshLoads : Cond) ∈ WA := tb_4 (List.mem_of_getElem? (i := 194) rfl) rfl
theorem wd_915 : (.code yX4_freshLoads cX4_freshLoads 2 (some .int) : Cond) ∈ WA := tb_4 (List.mem_of_getElem? (i := 195) rfl) rfl
theorem wd_916 : (.arrayClass .long : Cond) ∈ WA := tb_4 (List.mem_of_getElem? (i := 196) rfl) rfl
theorem wd_917 : (.arrayClass .double : Cond) ∈ WA := tb_4 (List.mem_of_getElem? (i := 197) rfl) rfl
theorem wd_918 : (.sameMethod "java/lang/Throwable" "java/lang/Throwable" "fillInStackTrace" "(I)Ljava/lang/Throwable;" : Cond) ∈ WA := tb_4 (List.mem_of_getElem? (i := 198) rfl) rfl
theorem wp_1 : (.selects RX2 yX2_putInOrder yX2_putInOrder : Cond) ∈ WA := tb_p (List.mem_of_getElem? (i := 1) rfl) rfl
theorem wp_2 : (.selects RX2 yX2_timeOf yX2_timeOf : Cond) ∈ WA := tb_p (List.mem_of_getElem? (i := 2) rfl) rfl
theorem wp_3 : (.selects RX3 yX3_isState yX3_isState : Cond) ∈ WA := tb_p (List.mem_of_getElem? (i := 3) rfl) rfl
theorem wp_4 : (.selects RX3 yX3_requireTelling yX3_requireTelling : Cond) ∈ WA := tb_p (List.mem_of_getElem? (i := 4) rfl) rfl
theorem wp_5 : (.selects RX0 yX0_countBehind yX0_countBehind : Cond) ∈ WA := tb_p (List.mem_of_getElem? (i := 5) rfl) rfl
theorem wp_6 : (.selects RX3 yX3_clientOf yX3_clientOf : Cond) ∈ WA := tb_p (List.mem_of_getElem? (i := 6) rfl) rfl
theorem wp_7 : (.selects RX1 yX1_list yX1_list : Cond) ∈ WA := tb_p (List.mem_of_getElem? (i := 7) rfl) rfl
theorem wp_8 : (.selects RX1 yX1_isConflict yX1_isConflict : Cond) ∈ WA := tb_p (List.mem_of_getElem? (i := 8) rfl) rfl
theorem wp_9 : (.selects RX4 yX4_isFine yX4_isFine : Cond) ∈ WA := tb_p (List.mem_of_getElem? (i := 9) rfl) rfl
theorem wp_10 : (.selects RX4 yX4_notes yX4_notes : Cond) ∈ WA := tb_p (List.mem_of_getElem? (i := 10) rfl) rfl
theorem wp_11 : (.selects RX4 yX4_isThere yX4_isThere : Cond) ∈ WA := tb_p (List.mem_of_getElem? (i := 11) rfl) rfl
theorem wp_12 : (.selects RX4 yX4_flags yX4_flags : Cond) ∈ WA := tb_p (List.mem_of_getElem? (i := 12) rfl) rfl
theorem wp_13 : (.selects RX4 yX4_count yX4_count : Cond) ∈ WA := tb_p (List.mem_of_getElem? (i := 13) rfl) rfl
theorem wp_14 : (.selects RX4 yX4_isFound yX4_isFound : Cond) ∈ WA := tb_p (List.mem_of_getElem? (i := 14) rfl) rfl
theorem wp_15 : (.selects RX4 yX4_isState yX4_isState : Cond) ∈ WA := tb_p (List.mem_of_getElem? (i := 15) rfl) rfl
theorem wp_16 : (.selects RX4 yX4_tells yX4_tells : Cond) ∈ WA := tb_p (List.mem_of_getElem? (i := 16) rfl) rfl
theorem wp_17 : (.selects RX4 yX4_placeOf yX4_placeOf : Cond) ∈ WA := tb_p (List.mem_of_getElem? (i := 17) rfl) rfl
theorem wp_18 : (.selects RX4 yX4_countChanged yX4_countChanged : Cond) ∈ WA := tb_p (List.mem_of_getElem? (i := 18) rfl) rfl
theorem wp_19 : (.selects RX4 yX4_changedSo yX4_changedSo : Cond) ∈ WA := tb_p (List.mem_of_getElem? (i := 19) rfl) rfl
theorem wp_20 : (.selects RX4 yX4_wasThere yX4_wasThere : Cond) ∈ WA := tb_p (List.mem_of_getElem? (i := 20) rfl) rfl
theorem wp_21 : (.selects RX4 yX4_isChanged yX4_isChanged : Cond) ∈ WA := tb_p (List.mem_of_getElem? (i := 21) rfl) rfl
theorem wp_22 : (.selects RX4 yX4_foundOne yX4_foundOne : Cond) ∈ WA := tb_p (List.mem_of_getElem? (i := 22) rfl) rfl
theorem wp_23 : (.selects RX4 yX4_wasFound yX4_wasFound : Cond) ∈ WA := tb_p (List.mem_of_getElem? (i := 23) rfl) rfl
theorem wp_24 : (.selects RX4 yX4_windowPlace yX4_windowPlace : Cond) ∈ WA := tb_p (List.mem_of_getElem? (i := 24) rfl) rfl
theorem wp_25 : (.selects RX4 yX4_isOtherwise yX4_isOtherwise : Cond) ∈ WA := tb_p (List.mem_of_getElem? (i := 25) rfl) rfl
theorem wp_26 : (.selects RX4 yX4_takes yX4_takes : Cond) ∈ WA := tb_p (List.mem_of_getElem? (i := 26) rfl) rfl
theorem wl_X0_0 : u_lay RX0 TX0 0 ∈ WA := tb_1 (List.mem_of_getElem? (i := 41) rfl) rfl
theorem wl_X0_1 : u_lay RX0 TX0 1 ∈ WA := tb_1 (List.mem_of_getElem? (i := 43) rfl) rfl
theorem wl_X0_2 : u_lay RX0 TX0 2 ∈ WA := tb_1 (List.mem_of_getElem? (i := 45) rfl) rfl
theorem wl_X0_3 : u_lay RX0 TX0 3 ∈ WA := tb_1 (List.mem_of_getElem? (i := 47) rfl) rfl
theorem wl_X0_4 : u_lay RX0 TX0 4 ∈ WA := tb_1 (List.mem_of_getElem? (i := 49) rfl) rfl
theorem uwX0 : ∀ w ∈ u_ws RX0 TX0 5, w ∈ WA := by
  intro w hw
  obtain ⟨k, hk, rfl⟩ := List.mem_map.mp hw
  have hk := List.mem_range.mp hk
  match k, hk with
  | 0, _ => exact wl_X0_0
  | 1, _ => exact wl_X0_1
  | 2, _ => exact wl_X0_2
  | 3, _ => exact wl_X0_3
  | 4, _ => exact wl_X0_4
  | k + 5, hk => exact absurd hk (by omega)
theorem wl_X1_0 : u_lay RX1 TX1 0 ∈ WA := tb_1 (List.mem_of_getElem? (i := 102) rfl) rfl
theorem wl_X1_1 : u_lay RX1 TX1 1 ∈ WA := tb_1 (List.mem_of_getElem? (i := 104) rfl) rfl
theorem wl_X1_2 : u_lay RX1 TX1 2 ∈ WA := tb_1 (List.mem_of_getElem? (i := 106) rfl) rfl
theorem wl_X1_3 : u_lay RX1 TX1 3 ∈ WA := tb_1 (List.mem_of_getElem? (i := 108) rfl) rfl
theorem wl_X1_4 : u_lay RX1 TX1 4 ∈ WA := tb_1 (List.mem_of_getElem? (i := 110) rfl) rfl
theorem wl_X1_5 : u_lay RX1 TX1 5 ∈ WA := tb_1 (List.mem_of_getElem? (i := 112) rfl) rfl
theorem wl_X1_6 : u_lay RX1 TX1 6 ∈ WA := tb_1 (List.mem_of_getElem? (i := 114) rfl) rfl
theorem wl_X1_7 : u_lay RX1 TX1 7 ∈ WA := tb_1 (List.mem_of_getElem? (i := 116) rfl) rfl
theorem wl_X1_8 : u_lay RX1 TX1 8 ∈ WA := tb_1 (List.mem_of_getElem? (i := 118) rfl) rfl
theorem wl_X1_9 : u_lay RX1 TX1 9 ∈ WA := tb_1 (List.mem_of_getElem? (i := 120) rfl) rfl
theorem wl_X1_10 : u_lay RX1 TX1 10 ∈ WA := tb_1 (List.mem_of_getElem? (i := 122) rfl) rfl
theorem uwX1 : ∀ w ∈ u_ws RX1 TX1 11, w ∈ WA := by
  intro w hw
  obtain ⟨k, hk, rfl⟩ := List.mem_map.mp hw
  have hk := List.mem_range.mp hk
  match k, hk with
  | 0, _ => exact wl_X1_0
  | 1, _ => exact wl_X1_1
  | 2, _ => exact wl_X1_2
  | 3, _ => exact wl_X1_3
  | 4, _ => exact wl_X1_4
  | 5, _ => exact wl_X1_5
  | 6, _ => exact wl_X1_6
  | 7, _ => exact wl_X1_7
  | 8, _ => exact wl_X1_8
  | 9, _ => exact wl_X1_9
  | 10, _ => exact wl_X1_10
  | k + 11, hk => exact absurd hk (by omega)
theorem wl_X2_0 : u_lay RX2 TX2 0 ∈ WA := tb_1 (List.mem_of_getElem? (i := 63) rfl) rfl
theorem wl_X2_1 : u_lay RX2 TX2 1 ∈ WA := tb_1 (List.mem_of_getElem? (i := 65) rfl) rfl
theorem wl_X2_2 : u_lay RX2 TX2 2 ∈ WA := tb_1 (List.mem_of_getElem? (i := 67) rfl) rfl
theorem wl_X2_3 : u_lay RX2 TX2 3 ∈ WA := tb_1 (List.mem_of_getElem? (i := 69) rfl) rfl
theorem wl_X2_4 : u_lay RX2 TX2 4 ∈ WA := tb_1 (List.mem_of_getElem? (i := 71) rfl) rfl
theorem wl_X2_5 : u_lay RX2 TX2 5 ∈ WA := tb_1 (List.mem_of_getElem? (i := 73) rfl) rfl
theorem wl_X2_6 : u_lay RX2 TX2 6 ∈ WA := tb_1 (List.mem_of_getElem? (i := 75) rfl) rfl
theorem uwX2 : ∀ w ∈ u_ws RX2 TX2 7, w ∈ WA := by
  intro w hw
  obtain ⟨k, hk, rfl⟩ := List.mem_map.mp hw
  have hk := List.mem_range.mp hk
  match k, hk with
  | 0, _ => exact wl_X2_0
  | 1, _ => exact wl_X2_1
  | 2, _ => exact wl_X2_2
  | 3, _ => exact wl_X2_3
  | 4, _ => exact wl_X2_4
  | 5, _ => exact wl_X2_5
  | 6, _ => exact wl_X2_6
  | k + 7, hk => exact absurd hk (by omega)
theorem wl_X3_0 : u_lay RX3 TX3 0 ∈ WA := tb_1 (List.mem_of_getElem? (i := 129) rfl) rfl
theorem wl_X3_1 : u_lay RX3 TX3 1 ∈ WA := tb_1 (List.mem_of_getElem? (i := 131) rfl) rfl
theorem wl_X3_2 : u_lay RX3 TX3 2 ∈ WA := tb_1 (List.mem_of_getElem? (i := 133) rfl) rfl
theorem uwX3 : ∀ w ∈ u_ws RX3 TX3 3, w ∈ WA := by
  intro w hw
  obtain ⟨k, hk, rfl⟩ := List.mem_map.mp hw
  have hk := List.mem_range.mp hk
  match k, hk with
  | 0, _ => exact wl_X3_0
  | 1, _ => exact wl_X3_1
  | 2, _ => exact wl_X3_2
  | k + 3, hk => exact absurd hk (by omega)
theorem wl_X4_0 : u_lay RX4 TX4 0 ∈ WA := tb_3 (List.mem_of_getElem? (i := 191) rfl) rfl
theorem wl_X4_1 : u_lay RX4 TX4 1 ∈ WA := tb_3 (List.mem_of_getElem? (i := 193) rfl) rfl
theorem wl_X4_2 : u_lay RX4 TX4 2 ∈ WA := tb_3 (List.mem_of_getElem? (i := 195) rfl) rfl
theorem wl_X4_3 : u_lay RX4 TX4 3 ∈ WA := tb_3 (List.mem_of_getElem? (i := 197) rfl) rfl
theorem wl_X4_4 : u_lay RX4 TX4 4 ∈ WA := tb_3 (List.mem_of_getElem? (i := 199) rfl) rfl
theorem wl_X4_5 : u_lay RX4 TX4 5 ∈ WA := tb_3 (List.mem_of_getElem? (i := 201) rfl) rfl
theorem wl_X4_6 : u_lay RX4 TX4 6 ∈ WA := tb_3 (List.mem_of_getElem? (i := 203) rfl) rfl
theorem wl_X4_7 : u_lay RX4 TX4 7 ∈ WA := tb_3 (List.mem_of_getElem? (i := 205) rfl) rfl
theorem wl_X4_8 : u_lay RX4 TX4 8 ∈ WA := tb_3 (List.mem_of_getElem? (i := 207) rfl) rfl
theorem wl_X4_9 : u_lay RX4 TX4 9 ∈ WA := tb_3 (List.mem_of_getElem? (i := 209) rfl) rfl
theorem wl_X4_10 : u_lay RX4 TX4 10 ∈ WA := tb_3 (List.mem_of_getElem? (i := 211) rfl) rfl
theorem wl_X4_11 : u_lay RX4 TX4 11 ∈ WA := tb_3 (List.mem_of_getElem? (i := 213) rfl) rfl
theorem wl_X4_12 : u_lay RX4 TX4 12 ∈ WA := tb_3 (List.mem_of_getElem? (i := 215) rfl) rfl
theorem wl_X4_13 : u_lay RX4 TX4 13 ∈ WA := tb_3 (List.mem_of_getElem? (i := 217) rfl) rfl
theorem wl_X4_14 : u_lay RX4 TX4 14 ∈ WA := tb_3 (List.mem_of_getElem? (i := 219) rfl) rfl
theorem wl_X4_15 : u_lay RX4 TX4 15 ∈ WA := tb_3 (List.mem_of_getElem? (i := 221) rfl) rfl
theorem wl_X4_16 : u_lay RX4 TX4 16 ∈ WA := tb_3 (List.mem_of_getElem? (i := 223) rfl) rfl
theorem wl_X4_17 : u_lay RX4 TX4 17 ∈ WA := tb_3 (List.mem_of_getElem? (i := 225) rfl) rfl
theorem wl_X4_18 : u_lay RX4 TX4 18 ∈ WA := tb_3 (List.mem_of_getElem? (i := 227) rfl) rfl
theorem wl_X4_19 : u_lay RX4 TX4 19 ∈ WA := tb_3 (List.mem_of_getElem? (i := 229) rfl) rfl
theorem wl_X4_20 : u_lay RX4 TX4 20 ∈ WA := tb_3 (List.mem_of_getElem? (i := 231) rfl) rfl
theorem wl_X4_21 : u_lay RX4 TX4 21 ∈ WA := tb_3 (List.mem_of_getElem? (i := 233) rfl) rfl
theorem wl_X4_22 : u_lay RX4 TX4 22 ∈ WA := tb_3 (List.mem_of_getElem? (i := 235) rfl) rfl
theorem wl_X4_23 : u_lay RX4 TX4 23 ∈ WA := tb_3 (List.mem_of_getElem? (i := 237) rfl) rfl
theorem wl_X4_24 : u_lay RX4 TX4 24 ∈ WA := tb_3 (List.mem_of_getElem? (i := 239) rfl) rfl
theorem wl_X4_25 : u_lay RX4 TX4 25 ∈ WA := tb_4 (List.mem_of_getElem? (i := 1) rfl) rfl
theorem uwX4 : ∀ w ∈ u_ws RX4 TX4 26, w ∈ WA := by
  intro w hw
  obtain ⟨k, hk, rfl⟩ := List.mem_map.mp hw
  have hk := List.mem_range.mp hk
  match k, hk with
  | 0, _ => exact wl_X4_0
  | 1, _ => exact wl_X4_1
  | 2, _ => exact wl_X4_2
  | 3, _ => exact wl_X4_3
  | 4, _ => exact wl_X4_4
  | 5, _ => exact wl_X4_5
  | 6, _ => exact wl_X4_6
  | 7, _ => exact wl_X4_7
  | 8, _ => exact wl_X4_8
  | 9, _ => exact wl_X4_9
  | 10, _ => exact wl_X4_10
  | 11, _ => exact wl_X4_11
  | 12, _ => exact wl_X4_12
  | 13, _ => exact wl_X4_13
  | 14, _ => exact wl_X4_14
  | 15, _ => exact wl_X4_15
  | 16, _ => exact wl_X4_16
  | 17, _ => exact wl_X4_17
  | 18, _ => exact wl_X4_18
  | 19, _ => exact wl_X4_19
  | 20, _ => exact wl_X4_20
  | 21, _ => exact wl_X4_21
  | 22, _ => exact wl_X4_22
  | 23, _ => exact wl_X4_23
  | 24, _ => exact wl_X4_24
  | 25, _ => exact wl_X4_25
  | k + 26, hk => exact absurd hk (by omega)
theorem exA0 : ∀ w ∈ (vx_atS RX3 41 "java/lang/IllegalArgumentException" ["java/lang/RuntimeException", "java/lang/Exception"]).filter goodWord, w ∈ lw_tbl := by decide +kernel
theorem exA : ∀ w ∈ (vx_atS RX3 41 "java/lang/IllegalArgumentException" ["java/lang/RuntimeException", "java/lang/Exception"]).filter goodWord, w ∈ WA := fun w h => List.mem_filter.mpr ⟨exA0 w h, (List.mem_filter.mp h).2⟩
theorem exS0 : ∀ w ∈ (vx_atS RX3 52 "java/lang/IllegalStateException" ["java/lang/RuntimeException", "java/lang/Exception"]).filter goodWord, w ∈ lw_tbl := by decide +kernel
theorem exS : ∀ w ∈ (vx_atS RX3 52 "java/lang/IllegalStateException" ["java/lang/RuntimeException", "java/lang/Exception"]).filter goodWord, w ∈ WA := fun w h => List.mem_filter.mpr ⟨exS0 w h, (List.mem_filter.mp h).2⟩
theorem exI0 : ∀ w ∈ (vx_atS RX3 224 "java/lang/IndexOutOfBoundsException" ["java/lang/RuntimeException", "java/lang/Exception"]).filter goodWord, w ∈ lw_tbl := by decide +kernel
theorem exI : ∀ w ∈ (vx_atS RX3 224 "java/lang/IndexOutOfBoundsException" ["java/lang/RuntimeException", "java/lang/Exception"]).filter goodWord, w ∈ WA := fun w h => List.mem_filter.mpr ⟨exI0 w h, (List.mem_filter.mp h).2⟩
theorem wa_good : ∀ w ∈ WA, (w.onTables && w.keeps) = true ∨ ∃ ty, w = .arrayClass ty := fun w h => good_of_word (List.mem_filter.mp h).2
theorem wa_tbl : ∀ w ∈ WA, w ∈ lw_tbl := fun w h => (List.mem_filter.mp h).1
theorem gd_c {c : Cond} (h : c ∈ WA) : GoodIn WA (c :: WA) := fun w hw => (List.mem_cons.mp hw).elim (fun e => by rw [e]; exact ⟨h, wa_good _ h⟩) (fun h => ⟨h, wa_good _ h⟩)
theorem gd_a {a b : List Cond} (h1 : ∀ w ∈ a, w ∈ WA) (h2 : GoodIn WA b) : GoodIn WA (a ++ b) := fun w hw => (List.mem_append.mp hw).elim (fun h => ⟨h1 w h, wa_good _ (h1 w h)⟩) (h2 w)
theorem gdV {own C : String} {idx : Nat} {y : MethodName} {c : Cond} (h1 : Cond.methodLink own idx y ∈ WA) (h2 : Cond.instanceMethod y ∈ WA) (h3 : Cond.selects C y y ∈ WA) (h4 : Cond.initialized C ∈ WA) (h5 : c ∈ WA) : GoodIn WA (wsV own idx C y (c :: WA)) := gd_a (List.forall_mem_cons.mpr ⟨h1, List.forall_mem_cons.mpr ⟨h2, List.forall_mem_cons.mpr ⟨h3, List.forall_mem_cons.mpr ⟨h4, fun _ h => nomatch h⟩⟩⟩⟩) (gd_c h5)
theorem gdS {own : String} {idx : Nat} {y : MethodName} {c : Cond} (h1 : Cond.methodLink own idx y ∈ WA) (h2 : Cond.static y ∈ WA) (h4 : Cond.initialized y.cls ∈ WA) (h5 : c ∈ WA) : GoodIn WA (va_wsS own idx y (c :: WA)) := gd_a (List.forall_mem_cons.mpr ⟨h1, List.forall_mem_cons.mpr ⟨h2, List.forall_mem_cons.mpr ⟨h4, fun _ h => nomatch h⟩⟩⟩) (gd_c h5)
end
section
theorem dX0_init_0 : decode cX0_init 0 = .ok (.aload_n 0, 1) := by decide +kernel
theorem dX0_init_1 : decode cX0_init 1 = .ok (.invokespecial 3, 3) := by decide +kernel
theorem dX0_init_4 : decode cX0_init 4 = .ok (.aload_n 0, 1) := by decide +kernel
theorem dX0_init_5 : decode cX0_init 5 = .ok (.bipush 40, 2) := by decide +kernel
theorem dX0_init_7 : decode cX0_init 7 = .ok (.newarray .int, 2) := by decide +kernel
theorem dX0_init_9 : decode cX0_init 9 = .ok (.putfield 9, 3) := by decide +kernel
theorem dX0_init_12 : decode cX0_init 12 = .ok (.aload_n 0, 1) := by decide +kernel
theorem dX0_init_13 : decode cX0_init 13 = .ok (.bipush 40, 2) := by decide +kernel
theorem dX0_init_15 : decode cX0_init 15 = .ok (.newarray .int, 2) := by decide +kernel
theorem dX0_init_17 : decode cX0_init 17 = .ok (.putfield 15, 3) := by decide +kernel
theorem dX0_init_20 : decode cX0_init 20 = .ok (.aload_n 0, 1) := by decide +kernel
theorem dX0_init_21 : decode cX0_init 21 = .ok (.bipush 40, 2) := by decide +kernel
theorem dX0_init_23 : decode cX0_init 23 = .ok (.newarray .int, 2) := by decide +kernel
theorem dX0_init_25 : decode cX0_init 25 = .ok (.putfield 18, 3) := by decide +kernel
theorem dX0_init_28 : decode cX0_init 28 = .ok (.aload_n 0, 1) := by decide +kernel
theorem dX0_init_29 : decode cX0_init 29 = .ok (.bipush 40, 2) := by decide +kernel
theorem dX0_init_31 : decode cX0_init 31 = .ok (.newarray .int, 2) := by decide +kernel
theorem dX0_init_33 : decode cX0_init 33 = .ok (.putfield 21, 3) := by decide +kernel
theorem dX0_init_36 : decode cX0_init 36 = .ok (.return_, 1) := by decide +kernel
theorem dX0_slotOf_0 : decode cX0_slotOf 0 = .ok (.iload_n 0, 1) := by decide +kernel
theorem dX0_slotOf_1 : decode cX0_slotOf 1 = .ok (.bipush 40, 2) := by decide +kernel
theorem dX0_slotOf_3 : decode cX0_slotOf 3 = .ok (.invokestatic 24, 3) := by decide +kernel
theorem dX0_slotOf_6 : decode cX0_slotOf 6 = .ok (.ireturn, 1) := by decide +kernel
theorem dX0_keep_0 : decode cX0_keep 0 = .ok (.aload_n 0, 1) := by decide +kernel
theorem dX0_keep_1 : decode cX0_keep 1 = .ok (.dup, 1) := by decide +kernel
theorem dX0_keep_2 : decode cX0_keep 2 = .ok (.getfield 30, 3) := by decide +kernel
theorem dX0_keep_5 : decode cX0_keep 5 = .ok (.iconst 1, 1) := by decide +kernel
theorem dX0_keep_6 : decode cX0_keep 6 = .ok (.iadd, 1) := by decide +kernel
theorem dX0_keep_7 : decode cX0_keep 7 = .ok (.putfield 30, 3) := by decide +kernel
theorem dX0_keep_10 : decode cX0_keep 10 = .ok (.aload_n 0, 1) := by decide +kernel
theorem dX0_keep_11 : decode cX0_keep 11 = .ok (.getfield 30, 3) := by decide +kernel
theorem dX0_keep_14 : decode cX0_keep 14 = .ok (.invokestatic 34, 3) := by decide +kernel
theorem dX0_keep_17 : decode cX0_keep 17 = .ok (.istore 5, 2) := by decide +kernel
theorem dX0_keep_19 : decode cX0_keep 19 = .ok (.aload_n 0, 1) := by decide +kernel
theorem dX0_keep_20 : decode cX0_keep 20 = .ok (.getfield 9, 3) := by decide +kernel
theorem dX0_keep_23 : decode cX0_keep 23 = .ok (.iload 5, 2) := by decide +kernel
theorem dX0_keep_25 : decode cX0_keep 25 = .ok (.iload_n 1, 1) := by decide +kernel
theorem dX0_keep_26 : decode cX0_keep 26 = .ok (.iastore, 1) := by decide +kernel
theorem dX0_keep_27 : decode cX0_keep 27 = .ok (.aload_n 0, 1) := by decide +kernel
theorem dX0_keep_28 : decode cX0_keep 28 = .ok (.getfield 15, 3) := by decide +kernel
theorem dX0_keep_31 : decode cX0_keep 31 = .ok (.iload 5, 2) := by decide +kernel
theorem dX0_keep_33 : decode cX0_keep 33 = .ok (.iload_n 2, 1) := by decide +kernel
theorem dX0_keep_34 : decode cX0_keep 34 = .ok (.iastore, 1) := by decide +kernel
theorem dX0_keep_35 : decode cX0_keep 35 = .ok (.aload_n 0, 1) := by decide +kernel
theorem dX0_keep_36 : decode cX0_keep 36 = .ok (.getfield 18, 3) := by decide +kernel
theorem dX0_keep_39 : decode cX0_keep 39 = .ok (.iload 5, 2) := by decide +kernel
theorem dX0_keep_41 : decode cX0_keep 41 = .ok (.iload_n 3, 1) := by decide +kernel
theorem dX0_keep_42 : decode cX0_keep 42 = .ok (.iastore, 1) := by decide +kernel
theorem dX0_keep_43 : decode cX0_keep 43 = .ok (.aload_n 0, 1) := by decide +kernel
theorem dX0_keep_44 : decode cX0_keep 44 = .ok (.getfield 21, 3) := by decide +kernel
theorem dX0_keep_47 : decode cX0_keep 47 = .ok (.iload 5, 2) := by decide +kernel
theorem dX0_keep_49 : decode cX0_keep 49 = .ok (.iload 4, 2) := by decide +kernel
theorem dX0_keep_51 : decode cX0_keep 51 = .ok (.iastore, 1) := by decide +kernel
theorem dX0_keep_52 : decode cX0_keep 52 = .ok (.return_, 1) := by decide +kernel
theorem dX0_reachBackTo_0 : decode cX0_reachBackTo 0 = .ok (.aload_n 0, 1) := by decide +kernel
theorem dX0_reachBackTo_1 : decode cX0_reachBackTo 1 = .ok (.getfield 30, 3) := by decide +kernel
theorem dX0_reachBackTo_4 : decode cX0_reachBackTo 4 = .ok (.iload_n 1, 1) := by decide +kernel
theorem dX0_reachBackTo_5 : decode cX0_reachBackTo 5 = .ok (.isub, 1) := by decide +kernel
theorem dX0_reachBackTo_6 : decode cX0_reachBackTo 6 = .ok (.bipush 40, 2) := by decide +kernel
theorem dX0_reachBackTo_8 : decode cX0_reachBackTo 8 = .ok (.if_icmp .gt 7, 3) := by decide +kernel
theorem dX0_reachBackTo_11 : decode cX0_reachBackTo 11 = .ok (.iconst 1, 1) := by decide +kernel
theorem dX0_reachBackTo_12 : decode cX0_reachBackTo 12 = .ok (.goto 4, 3) := by decide +kernel
theorem dX0_reachBackTo_15 : decode cX0_reachBackTo 15 = .ok (.iconst 0, 1) := by decide +kernel
theorem dX0_reachBackTo_16 : decode cX0_reachBackTo 16 = .ok (.ireturn, 1) := by decide +kernel
theorem dX0_countBehind_0 : decode cX0_countBehind 0 = .ok (.aload_n 0, 1) := by decide +kernel
theorem dX0_countBehind_1 : decode cX0_countBehind 1 = .ok (.getfield 30, 3) := by decide +kernel
theorem dX0_countBehind_4 : decode cX0_countBehind 4 = .ok (.iload_n 1, 1) := by decide +kernel
theorem dX0_countBehind_5 : decode cX0_countBehind 5 = .ok (.isub, 1) := by decide +kernel
theorem dX0_countBehind_6 : decode cX0_countBehind 6 = .ok (.bipush 40, 2) := by decide +kernel
theorem dX0_countBehind_8 : decode cX0_countBehind 8 = .ok (.invokestatic 38, 3) := by decide +kernel
theorem dX0_countBehind_11 : decode cX0_countBehind 11 = .ok (.ireturn, 1) := by decide +kernel
theorem dX0_undo_0 : decode cX0_undo 0 = .ok (.lload_n 2, 1) := by decide +kernel
theorem dX0_undo_1 : decode cX0_undo 1 = .ok (.lstore 6, 2) := by decide +kernel
theorem dX0_undo_3 : decode cX0_undo 3 = .ok (.aload_n 0, 1) := by decide +kernel
theorem dX0_undo_4 : decode cX0_undo 4 = .ok (.iload_n 1, 1) := by decide +kernel
theorem dX0_undo_5 : decode cX0_undo 5 = .ok (.invokevirtual 41, 3) := by decide +kernel
theorem dX0_undo_8 : decode cX0_undo 8 = .ok (.istore 8, 2) := by decide +kernel
theorem dX0_undo_10 : decode cX0_undo 10 = .ok (.iconst 0, 1) := by decide +kernel
theorem dX0_undo_11 : decode cX0_undo 11 = .ok (.istore 9, 2) := by decide +kernel
theorem dX0_undo_13 : decode cX0_undo 13 = .ok (.iload 9, 2) := by decide +kernel
theorem dX0_undo_15 : decode cX0_undo 15 = .ok (.iload 8, 2) := by decide +kernel
theorem dX0_undo_17 : decode cX0_undo 17 = .ok (.if_icmp .ge 60, 3) := by decide +kernel
theorem dX0_undo_20 : decode cX0_undo 20 = .ok (.aload_n 0, 1) := by decide +kernel
theorem dX0_undo_21 : decode cX0_undo 21 = .ok (.getfield 30, 3) := by decide +kernel
theorem dX0_undo_24 : decode cX0_undo 24 = .ok (.iload 9, 2) := by decide +kernel
theorem dX0_undo_26 : decode cX0_undo 26 = .ok (.isub, 1) := by decide +kernel
theorem dX0_undo_27 : decode cX0_undo 27 = .ok (.invokestatic 34, 3) := by decide +kernel
theorem dX0_undo_30 : decode cX0_undo 30 = .ok (.istore 10, 2) := by decide +kernel
theorem dX0_undo_32 : decode cX0_undo 32 = .ok (.aload_n 0, 1) := by decide +kernel
theorem dX0_undo_33 : decode cX0_undo 33 = .ok (.getfield 15, 3) := by decide +kernel
theorem dX0_undo_36 : decode cX0_undo 36 = .ok (.iload 10, 2) := by decide +kernel
theorem dX0_undo_38 : decode cX0_undo 38 = .ok (.iaload, 1) := by decide +kernel
theorem dX0_undo_39 : decode cX0_undo 39 = .ok (.aload_n 0, 1) := by decide +kernel
theorem dX0_undo_40 : decode cX0_undo 40 = .ok (.getfield 18, 3) := by decide +kernel
theorem dX0_undo_43 : decode cX0_undo 43 = .ok (.iload 10, 2) := by decide +kernel
theorem dX0_undo_45 : decode cX0_undo 45 = .ok (.iaload, 1) := by decide +kernel
theorem dX0_undo_46 : decode cX0_undo 46 = .ok (.iload 4, 2) := by decide +kernel
theorem dX0_undo_48 : decode cX0_undo 48 = .ok (.iload 5, 2) := by decide +kernel
theorem dX0_undo_50 : decode cX0_undo 50 = .ok (.invokestatic 44, 3) := by decide +kernel
theorem dX0_undo_53 : decode cX0_undo 53 = .ok (.istore 11, 2) := by decide +kernel
theorem dX0_undo_55 : decode cX0_undo 55 = .ok (.lload 6, 2) := by decide +kernel
theorem dX0_undo_57 : decode cX0_undo 57 = .ok (.aload_n 0, 1) := by decide +kernel
theorem dX0_undo_58 : decode cX0_undo 58 = .ok (.getfield 9, 3) := by decide +kernel
theorem dX0_undo_61 : decode cX0_undo 61 = .ok (.iload 10, 2) := by decide +kernel
theorem dX0_undo_63 : decode cX0_undo 63 = .ok (.iaload, 1) := by decide +kernel
theorem dX0_undo_64 : decode cX0_undo 64 = .ok (.iload 11, 2) := by decide +kernel
theorem dX0_undo_66 : decode cX0_undo 66 = .ok (.invokestatic 48, 3) := by decide +kernel
theorem dX0_undo_69 : decode cX0_undo 69 = .ok (.lstore 6, 2) := by decide +kernel
theorem dX0_undo_71 : decode cX0_undo 71 = .ok (.iinc 9 1, 3) := by decide +kernel
theorem dX0_undo_74 : decode cX0_undo 74 = .ok (.goto (-61), 3) := by decide +kernel
theorem dX0_undo_77 : decode cX0_undo 77 = .ok (.lload 6, 2) := by decide +kernel
theorem dX0_undo_79 : decode cX0_undo 79 = .ok (.lreturn, 1) := by decide +kernel
theorem dX0_touched_0 : decode cX0_touched 0 = .ok (.lconst 0, 1) := by decide +kernel
theorem dX0_touched_1 : decode cX0_touched 1 = .ok (.lstore_n 2, 1) := by decide +kernel
theorem dX0_touched_2 : decode cX0_touched 2 = .ok (.aload_n 0, 1) := by decide +kernel
theorem dX0_touched_3 : decode cX0_touched 3 = .ok (.iload_n 1, 1) := by decide +kernel
theorem dX0_touched_4 : decode cX0_touched 4 = .ok (.invokevirtual 41, 3) := by decide +kernel
theorem dX0_touched_7 : decode cX0_touched 7 = .ok (.istore 4, 2) := by decide +kernel
theorem dX0_touched_9 : decode cX0_touched 9 = .ok (.iconst 0, 1) := by decide +kernel
theorem dX0_touched_10 : decode cX0_touched 10 = .ok (.istore 5, 2) := by decide +kernel
theorem dX0_touched_12 : decode cX0_touched 12 = .ok (.iload 5, 2) := by decide +kernel
theorem dX0_touched_14 : decode cX0_touched 14 = .ok (.iload 4, 2) := by decide +kernel
theorem dX0_touched_16 : decode cX0_touched 16 = .ok (.if_icmp .ge 30, 3) := by decide +kernel
theorem dX0_touched_19 : decode cX0_touched 19 = .ok (.lload_n 2, 1) := by decide +kernel
theorem dX0_touched_20 : decode cX0_touched 20 = .ok (.aload_n 0, 1) := by decide +kernel
theorem dX0_touched_21 : decode cX0_touched 21 = .ok (.getfield 9, 3) := by decide +kernel
theorem dX0_touched_24 : decode cX0_touched 24 = .ok (.aload_n 0, 1) := by decide +kernel
theorem dX0_touched_25 : decode cX0_touched 25 = .ok (.getfield 30, 3) := by decide +kernel
theorem dX0_touched_28 : decode cX0_touched 28 = .ok (.iload 5, 2) := by decide +kernel
theorem dX0_touched_30 : decode cX0_touched 30 = .ok (.isub, 1) := by decide +kernel
theorem dX0_touched_31 : decode cX0_touched 31 = .ok (.invokestatic 34, 3) := by decide +kernel
theorem dX0_touched_34 : decode cX0_touched 34 = .ok (.iaload, 1) := by decide +kernel
theorem dX0_touched_35 : decode cX0_touched 35 = .ok (.iconst 1, 1) := by decide +kernel
theorem dX0_touched_36 : decode cX0_touched 36 = .ok (.invokestatic 48, 3) := by decide +kernel
theorem dX0_touched_39 : decode cX0_touched 39 = .ok (.lstore_n 2, 1) := by decide +kernel
theorem dX0_touched_40 : decode cX0_touched 40 = .ok (.iinc 5 1, 3) := by decide +kernel
theorem dX0_touched_43 : decode cX0_touched 43 = .ok (.goto (-31), 3) := by decide +kernel
theorem dX0_touched_46 : decode cX0_touched 46 = .ok (.lload_n 2, 1) := by decide +kernel
theorem dX0_touched_47 : decode cX0_touched 47 = .ok (.lreturn, 1) := by decide +kernel
theorem dX0_endOfPage_0 : decode cX0_endOfPage 0 = .ok (.lconst 0, 1) := by decide +kernel
theorem dX0_endOfPage_1 : decode cX0_endOfPage 1 = .ok (.lstore_n 3, 1) := by decide +kernel
theorem dX0_endOfPage_2 : decode cX0_endOfPage 2 = .ok (.aload_n 0, 1) := by decide +kernel
theorem dX0_endOfPage_3 : decode cX0_endOfPage 3 = .ok (.iload_n 1, 1) := by decide +kernel
theorem dX0_endOfPage_4 : decode cX0_endOfPage 4 = .ok (.invokevirtual 41, 3) := by decide +kernel
theorem dX0_endOfPage_7 : decode cX0_endOfPage 7 = .ok (.istore 5, 2) := by decide +kernel
theorem dX0_endOfPage_9 : decode cX0_endOfPage 9 = .ok (.iconst 0, 1) := by decide +kernel
theorem dX0_endOfPage_10 : decode cX0_endOfPage 10 = .ok (.istore 6, 2) := by decide +kernel
theorem dX0_endOfPage_12 : decode cX0_endOfPage 12 = .ok (.iload 6, 2) := by decide +kernel
theorem dX0_endOfPage_14 : decode cX0_endOfPage 14 = .ok (.iload 5, 2) := by decide +kernel
theorem dX0_endOfPage_16 : decode cX0_endOfPage 16 = .ok (.if_icmp .ge 55, 3) := by decide +kernel
theorem dX0_endOfPage_19 : decode cX0_endOfPage 19 = .ok (.aload_n 0, 1) := by decide +kernel
theorem dX0_endOfPage_20 : decode cX0_endOfPage 20 = .ok (.getfield 9, 3) := by decide +kernel
theorem dX0_endOfPage_23 : decode cX0_endOfPage 23 = .ok (.iload_n 1, 1) := by decide +kernel
theorem dX0_endOfPage_24 : decode cX0_endOfPage 24 = .ok (.iconst 1, 1) := by decide +kernel
theorem dX0_endOfPage_25 : decode cX0_endOfPage 25 = .ok (.iadd, 1) := by decide +kernel
theorem dX0_endOfPage_26 : decode cX0_endOfPage 26 = .ok (.iload 6, 2) := by decide +kernel
theorem dX0_endOfPage_28 : decode cX0_endOfPage 28 = .ok (.iadd, 1) := by decide +kernel
theorem dX0_endOfPage_29 : decode cX0_endOfPage 29 = .ok (.invokestatic 34, 3) := by decide +kernel
theorem dX0_endOfPage_32 : decode cX0_endOfPage 32 = .ok (.iaload, 1) := by decide +kernel
theorem dX0_endOfPage_33 : decode cX0_endOfPage 33 = .ok (.istore 7, 2) := by decide +kernel
theorem dX0_endOfPage_35 : decode cX0_endOfPage 35 = .ok (.lload_n 3, 1) := by decide +kernel
theorem dX0_endOfPage_36 : decode cX0_endOfPage 36 = .ok (.iload 7, 2) := by decide +kernel
theorem dX0_endOfPage_38 : decode cX0_endOfPage 38 = .ok (.invokestatic 52, 3) := by decide +kernel
theorem dX0_endOfPage_41 : decode cX0_endOfPage 41 = .ok (.ifCond .ne 16, 3) := by decide +kernel
theorem dX0_endOfPage_44 : decode cX0_endOfPage 44 = .ok (.lload_n 3, 1) := by decide +kernel
theorem dX0_endOfPage_45 : decode cX0_endOfPage 45 = .ok (.invokestatic 56, 3) := by decide +kernel
theorem dX0_endOfPage_48 : decode cX0_endOfPage 48 = .ok (.iload_n 2, 1) := by decide +kernel
theorem dX0_endOfPage_49 : decode cX0_endOfPage 49 = .ok (.if_icmp .lt 8, 3) := by decide +kernel
theorem dX0_endOfPage_52 : decode cX0_endOfPage 52 = .ok (.iload_n 1, 1) := by decide +kernel
theorem dX0_endOfPage_53 : decode cX0_endOfPage 53 = .ok (.iload 6, 2) := by decide +kernel
theorem dX0_endOfPage_55 : decode cX0_endOfPage 55 = .ok (.iadd, 1) := by decide +kernel
theorem dX0_endOfPage_56 : decode cX0_endOfPage 56 = .ok (.ireturn, 1) := by decide +kernel
theorem dX0_endOfPage_57 : decode cX0_endOfPage 57 = .ok (.lload_n 3, 1) := by decide +kernel
theorem dX0_endOfPage_58 : decode cX0_endOfPage 58 = .ok (.iload 7, 2) := by decide +kernel
theorem dX0_endOfPage_60 : decode cX0_endOfPage 60 = .ok (.iconst 1, 1) := by decide +kernel
theorem dX0_endOfPage_61 : decode cX0_endOfPage 61 = .ok (.invokestatic 48, 3) := by decide +kernel
theorem dX0_endOfPage_64 : decode cX0_endOfPage 64 = .ok (.lstore_n 3, 1) := by decide +kernel
theorem dX0_endOfPage_65 : decode cX0_endOfPage 65 = .ok (.iinc 6 1, 3) := by decide +kernel
theorem dX0_endOfPage_68 : decode cX0_endOfPage 68 = .ok (.goto (-56), 3) := by decide +kernel
theorem dX0_endOfPage_71 : decode cX0_endOfPage 71 = .ok (.aload_n 0, 1) := by decide +kernel
theorem dX0_endOfPage_72 : decode cX0_endOfPage 72 = .ok (.getfield 30, 3) := by decide +kernel
theorem dX0_endOfPage_75 : decode cX0_endOfPage 75 = .ok (.ireturn, 1) := by decide +kernel
theorem dX0_contradict_0 : decode cX0_contradict 0 = .ok (.aload_n 0, 1) := by decide +kernel
theorem dX0_contradict_1 : decode cX0_contradict 1 = .ok (.iload_n 1, 1) := by decide +kernel
theorem dX0_contradict_2 : decode cX0_contradict 2 = .ok (.invokevirtual 41, 3) := by decide +kernel
theorem dX0_contradict_5 : decode cX0_contradict 5 = .ok (.istore 5, 2) := by decide +kernel
theorem dX0_contradict_7 : decode cX0_contradict 7 = .ok (.iconst 0, 1) := by decide +kernel
theorem dX0_contradict_8 : decode cX0_contradict 8 = .ok (.istore 6, 2) := by decide +kernel
theorem dX0_contradict_10 : decode cX0_contradict 10 = .ok (.iload 6, 2) := by decide +kernel
theorem dX0_contradict_12 : decode cX0_contradict 12 = .ok (.iload 5, 2) := by decide +kernel
theorem dX0_contradict_14 : decode cX0_contradict 14 = .ok (.if_icmp .ge 78, 3) := by decide +kernel
theorem dX0_contradict_17 : decode cX0_contradict 17 = .ok (.aload_n 0, 1) := by decide +kernel
theorem dX0_contradict_18 : decode cX0_contradict 18 = .ok (.getfield 30, 3) := by decide +kernel
theorem dX0_contradict_21 : decode cX0_contradict 21 = .ok (.iload 6, 2) := by decide +kernel
theorem dX0_contradict_23 : decode cX0_contradict 23 = .ok (.isub, 1) := by decide +kernel
theorem dX0_contradict_24 : decode cX0_contradict 24 = .ok (.invokestatic 34, 3) := by decide +kernel
theorem dX0_contradict_27 : decode cX0_contradict 27 = .ok (.istore 7, 2) := by decide +kernel
theorem dX0_contradict_29 : decode cX0_contradict 29 = .ok (.aload_n 0, 1) := by decide +kernel
theorem dX0_contradict_30 : decode cX0_contradict 30 = .ok (.getfield 9, 3) := by decide +kernel
theorem dX0_contradict_33 : decode cX0_contradict 33 = .ok (.iload 7, 2) := by decide +kernel
theorem dX0_contradict_35 : decode cX0_contradict 35 = .ok (.iaload, 1) := by decide +kernel
theorem dX0_contradict_36 : decode cX0_contradict 36 = .ok (.iload_n 2, 1) := by decide +kernel
theorem dX0_contradict_37 : decode cX0_contradict 37 = .ok (.if_icmp .ne 49, 3) := by decide +kernel
theorem dX0_contradict_40 : decode cX0_contradict 40 = .ok (.aload_n 0, 1) := by decide +kernel
theorem dX0_contradict_41 : decode cX0_contradict 41 = .ok (.getfield 18, 3) := by decide +kernel
theorem dX0_contradict_44 : decode cX0_contradict 44 = .ok (.iload 7, 2) := by decide +kernel
theorem dX0_contradict_46 : decode cX0_contradict 46 = .ok (.iaload, 1) := by decide +kernel
theorem dX0_contradict_47 : decode cX0_contradict 47 = .ok (.aload_n 0, 1) := by decide +kernel
theorem dX0_contradict_48 : decode cX0_contradict 48 = .ok (.getfield 21, 3) := by decide +kernel
theorem dX0_contradict_51 : decode cX0_contradict 51 = .ok (.iload 7, 2) := by decide +kernel
theorem dX0_contradict_53 : decode cX0_contradict 53 = .ok (.iaload, 1) := by decide +kernel
theorem dX0_contradict_54 : decode cX0_contradict 54 = .ok (.ixor, 1) := by decide +kernel
theorem dX0_contradict_55 : decode cX0_contradict 55 = .ok (.i2l, 1) := by decide +kernel
theorem dX0_contradict_56 : decode cX0_contradict 56 = .ok (.iload_n 3, 1) := by decide +kernel
theorem dX0_contradict_57 : decode cX0_contradict 57 = .ok (.invokestatic 52, 3) := by decide +kernel
theorem dX0_contradict_60 : decode cX0_contradict 60 = .ok (.ifCond .eq 26, 3) := by decide +kernel
theorem dX0_contradict_63 : decode cX0_contradict 63 = .ok (.aload_n 0, 1) := by decide +kernel
theorem dX0_contradict_64 : decode cX0_contradict 64 = .ok (.getfield 21, 3) := by decide +kernel
theorem dX0_contradict_67 : decode cX0_contradict 67 = .ok (.iload 7, 2) := by decide +kernel
theorem dX0_contradict_69 : decode cX0_contradict 69 = .ok (.iaload, 1) := by decide +kernel
theorem dX0_contradict_70 : decode cX0_contradict 70 = .ok (.i2l, 1) := by decide +kernel
theorem dX0_contradict_71 : decode cX0_contradict 71 = .ok (.iload_n 3, 1) := by decide +kernel
theorem dX0_contradict_72 : decode cX0_contradict 72 = .ok (.invokestatic 52, 3) := by decide +kernel
theorem dX0_contradict_75 : decode cX0_contradict 75 = .ok (.iload 4, 2) := by decide +kernel
theorem dX0_contradict_77 : decode cX0_contradict 77 = .ok (.if_icmp .eq 7, 3) := by decide +kernel
theorem dX0_contradict_80 : decode cX0_contradict 80 = .ok (.iconst 1, 1) := by decide +kernel
theorem dX0_contradict_81 : decode cX0_contradict 81 = .ok (.goto 4, 3) := by decide +kernel
theorem dX0_contradict_84 : decode cX0_contradict 84 = .ok (.iconst 0, 1) := by decide +kernel
theorem dX0_contradict_85 : decode cX0_contradict 85 = .ok (.ireturn, 1) := by decide +kernel
theorem dX0_contradict_86 : decode cX0_contradict 86 = .ok (.iinc 6 1, 3) := by decide +kernel
theorem dX0_contradict_89 : decode cX0_contradict 89 = .ok (.goto (-79), 3) := by decide +kernel
theorem dX0_contradict_92 : decode cX0_contradict 92 = .ok (.iconst 0, 1) := by decide +kernel
theorem dX0_contradict_93 : decode cX0_contradict 93 = .ok (.ireturn, 1) := by decide +kernel
theorem dX1_init_0 : decode cX1_init 0 = .ok (.aload_n 0, 1) := by decide +kernel
theorem dX1_init_1 : decode cX1_init 1 = .ok (.invokespecial 3, 3) := by decide +kernel
theorem dX1_init_4 : decode cX1_init 4 = .ok (.aload_n 0, 1) := by decide +kernel
theorem dX1_init_5 : decode cX1_init 5 = .ok (.iconst 5, 1) := by decide +kernel
theorem dX1_init_6 : decode cX1_init 6 = .ok (.putfield 9, 3) := by decide +kernel
theorem dX1_init_9 : decode cX1_init 9 = .ok (.aload_n 0, 1) := by decide +kernel
theorem dX1_init_10 : decode cX1_init 10 = .ok (.bipush 10, 2) := by decide +kernel
theorem dX1_init_12 : decode cX1_init 12 = .ok (.newarray .int, 2) := by decide +kernel
theorem dX1_init_14 : decode cX1_init 14 = .ok (.putfield 15, 3) := by decide +kernel
theorem dX1_init_17 : decode cX1_init 17 = .ok (.aload_n 0, 1) := by decide +kernel
theorem dX1_init_18 : decode cX1_init 18 = .ok (.bipush 10, 2) := by decide +kernel
theorem dX1_init_20 : decode cX1_init 20 = .ok (.newarray .int, 2) := by decide +kernel
theorem dX1_init_22 : decode cX1_init 22 = .ok (.putfield 19, 3) := by decide +kernel
theorem dX1_init_25 : decode cX1_init 25 = .ok (.aload_n 0, 1) := by decide +kernel
theorem dX1_init_26 : decode cX1_init 26 = .ok (.bipush 10, 2) := by decide +kernel
theorem dX1_init_28 : decode cX1_init 28 = .ok (.newarray .int, 2) := by decide +kernel
theorem dX1_init_30 : decode cX1_init 30 = .ok (.putfield 22, 3) := by decide +kernel
theorem dX1_init_33 : decode cX1_init 33 = .ok (.aload_n 0, 1) := by decide +kernel
theorem dX1_init_34 : decode cX1_init 34 = .ok (.bipush 10, 2) := by decide +kernel
theorem dX1_init_36 : decode cX1_init 36 = .ok (.newarray .int, 2) := by decide +kernel
theorem dX1_init_38 : decode cX1_init 38 = .ok (.putfield 25, 3) := by decide +kernel
theorem dX1_init_41 : decode cX1_init 41 = .ok (.aload_n 0, 1) := by decide +kernel
theorem dX1_init_42 : decode cX1_init 42 = .ok (.bipush 10, 2) := by decide +kernel
theorem dX1_init_44 : decode cX1_init 44 = .ok (.newarray .boolean, 2) := by decide +kernel
theorem dX1_init_46 : decode cX1_init 46 = .ok (.putfield 28, 3) := by decide +kernel
theorem dX1_init_49 : decode cX1_init 49 = .ok (.return_, 1) := by decide +kernel
theorem dX1_hasPlace_0 : decode cX1_hasPlace 0 = .ok (.iload_n 1, 1) := by decide +kernel
theorem dX1_hasPlace_1 : decode cX1_hasPlace 1 = .ok (.ifCond .lt 21, 3) := by decide +kernel
theorem dX1_hasPlace_4 : decode cX1_hasPlace 4 = .ok (.iload_n 1, 1) := by decide +kernel
theorem dX1_hasPlace_5 : decode cX1_hasPlace 5 = .ok (.aload_n 0, 1) := by decide +kernel
theorem dX1_hasPlace_6 : decode cX1_hasPlace 6 = .ok (.getfield 32, 3) := by decide +kernel
theorem dX1_hasPlace_9 : decode cX1_hasPlace 9 = .ok (.if_icmp .ge 13, 3) := by decide +kernel
theorem dX1_hasPlace_12 : decode cX1_hasPlace 12 = .ok (.iload_n 1, 1) := by decide +kernel
theorem dX1_hasPlace_13 : decode cX1_hasPlace 13 = .ok (.bipush 10, 2) := by decide +kernel
theorem dX1_hasPlace_15 : decode cX1_hasPlace 15 = .ok (.if_icmp .ge 7, 3) := by decide +kernel
theorem dX1_hasPlace_18 : decode cX1_hasPlace 18 = .ok (.iconst 1, 1) := by decide +kernel
theorem dX1_hasPlace_19 : decode cX1_hasPlace 19 = .ok (.goto 4, 3) := by decide +kernel
theorem dX1_hasPlace_22 : decode cX1_hasPlace 22 = .ok (.iconst 0, 1) := by decide +kernel
theorem dX1_hasPlace_23 : decode cX1_hasPlace 23 = .ok (.ireturn, 1) := by decide +kernel
theorem dX1_placeOf_0 : decode cX1_placeOf 0 = .ok (.iconst 0, 1) := by decide +kernel
theorem dX1_placeOf_1 : decode cX1_placeOf 1 = .ok (.istore_n 2, 1) := by decide +kernel
theorem dX1_placeOf_2 : decode cX1_placeOf 2 = .ok (.iload_n 2, 1) := by decide +kernel
theorem dX1_placeOf_3 : decode cX1_placeOf 3 = .ok (.aload_n 0, 1) := by decide +kernel
theorem dX1_placeOf_4 : decode cX1_placeOf 4 = .ok (.getfield 32, 3) := by decide +kernel
theorem dX1_placeOf_7 : decode cX1_placeOf 7 = .ok (.if_icmp .ge 27, 3) := by decide +kernel
theorem dX1_placeOf_10 : decode cX1_placeOf 10 = .ok (.iload_n 2, 1) := by decide +kernel
theorem dX1_placeOf_11 : decode cX1_placeOf 11 = .ok (.bipush 10, 2) := by decide +kernel
theorem dX1_placeOf_13 : decode cX1_placeOf 13 = .ok (.if_icmp .ge 21, 3) := by decide +kernel
theorem dX1_placeOf_16 : decode cX1_placeOf 16 = .ok (.aload_n 0, 1) := by decide +kernel
theorem dX1_placeOf_17 : decode cX1_placeOf 17 = .ok (.getfield 15, 3) := by decide +kernel
theorem dX1_placeOf_20 : decode cX1_placeOf 20 = .ok (.iload_n 2, 1) := by decide +kernel
theorem dX1_placeOf_21 : decode cX1_placeOf 21 = .ok (.iaload, 1) := by decide +kernel
theorem dX1_placeOf_22 : decode cX1_placeOf 22 = .ok (.iload_n 1, 1) := by decide +kernel
theorem dX1_placeOf_23 : decode cX1_placeOf 23 = .ok (.if_icmp .ne 5, 3) := by decide +kernel
theorem dX1_placeOf_26 : decode cX1_placeOf 26 = .ok (.iload_n 2, 1) := by decide +kernel
theorem dX1_placeOf_27 : decode cX1_placeOf 27 = .ok (.ireturn, 1) := by decide +kernel
theorem dX1_placeOf_28 : decode cX1_placeOf 28 = .ok (.iinc 2 1, 3) := by decide +kernel
theorem dX1_placeOf_31 : decode cX1_placeOf 31 = .ok (.goto (-29), 3) := by decide +kernel
theorem dX1_placeOf_34 : decode cX1_placeOf 34 = .ok (.iconst (-1), 1) := by decide +kernel
theorem dX1_placeOf_35 : decode cX1_placeOf 35 = .ok (.ireturn, 1) := by decide +kernel
theorem dX1_note_0 : decode cX1_note 0 = .ok (.aload_n 0, 1) := by decide +kernel
theorem dX1_note_1 : decode cX1_note 1 = .ok (.iload_n 1, 1) := by decide +kernel
theorem dX1_note_2 : decode cX1_note 2 = .ok (.invokevirtual 35, 3) := by decide +kernel
theorem dX1_note_5 : decode cX1_note 5 = .ok (.ifCond .eq 34, 3) := by decide +kernel
theorem dX1_note_8 : decode cX1_note 8 = .ok (.aload_n 0, 1) := by decide +kernel
theorem dX1_note_9 : decode cX1_note 9 = .ok (.getfield 19, 3) := by decide +kernel
theorem dX1_note_12 : decode cX1_note 12 = .ok (.iload_n 1, 1) := by decide +kernel
theorem dX1_note_13 : decode cX1_note 13 = .ok (.aload_n 0, 1) := by decide +kernel
theorem dX1_note_14 : decode cX1_note 14 = .ok (.getfield 19, 3) := by decide +kernel
theorem dX1_note_17 : decode cX1_note 17 = .ok (.iload_n 1, 1) := by decide +kernel
theorem dX1_note_18 : decode cX1_note 18 = .ok (.iaload, 1) := by decide +kernel
theorem dX1_note_19 : decode cX1_note 19 = .ok (.i2l, 1) := by decide +kernel
theorem dX1_note_20 : decode cX1_note 20 = .ok (.iload_n 2, 1) := by decide +kernel
theorem dX1_note_21 : decode cX1_note 21 = .ok (.iload_n 3, 1) := by decide +kernel
theorem dX1_note_22 : decode cX1_note 22 = .ok (.invokestatic 39, 3) := by decide +kernel
theorem dX1_note_25 : decode cX1_note 25 = .ok (.l2i, 1) := by decide +kernel
theorem dX1_note_26 : decode cX1_note 26 = .ok (.iastore, 1) := by decide +kernel
theorem dX1_note_27 : decode cX1_note 27 = .ok (.aload_n 0, 1) := by decide +kernel
theorem dX1_note_28 : decode cX1_note 28 = .ok (.aload_n 0, 1) := by decide +kernel
theorem dX1_note_29 : decode cX1_note 29 = .ok (.getfield 15, 3) := by decide +kernel
theorem dX1_note_32 : decode cX1_note 32 = .ok (.iload_n 1, 1) := by decide +kernel
theorem dX1_note_33 : decode cX1_note 33 = .ok (.iaload, 1) := by decide +kernel
theorem dX1_note_34 : decode cX1_note 34 = .ok (.iload_n 2, 1) := by decide +kernel
theorem dX1_note_35 : decode cX1_note 35 = .ok (.iload_n 3, 1) := by decide +kernel
theorem dX1_note_36 : decode cX1_note 36 = .ok (.invokevirtual 43, 3) := by decide +kernel
theorem dX1_note_39 : decode cX1_note 39 = .ok (.return_, 1) := by decide +kernel
theorem dX1_list_0 : decode cX1_list 0 = .ok (.aload_n 0, 1) := by decide +kernel
theorem dX1_list_1 : decode cX1_list 1 = .ok (.getfield 47, 3) := by decide +kernel
theorem dX1_list_4 : decode cX1_list 4 = .ok (.ifCond .lt 52, 3) := by decide +kernel
theorem dX1_list_7 : decode cX1_list 7 = .ok (.aload_n 0, 1) := by decide +kernel
theorem dX1_list_8 : decode cX1_list 8 = .ok (.getfield 47, 3) := by decide +kernel
theorem dX1_list_11 : decode cX1_list 11 = .ok (.bipush 10, 2) := by decide +kernel
theorem dX1_list_13 : decode cX1_list 13 = .ok (.if_icmp .ge 43, 3) := by decide +kernel
theorem dX1_list_16 : decode cX1_list 16 = .ok (.aload_n 0, 1) := by decide +kernel
theorem dX1_list_17 : decode cX1_list 17 = .ok (.getfield 22, 3) := by decide +kernel
theorem dX1_list_20 : decode cX1_list 20 = .ok (.aload_n 0, 1) := by decide +kernel
theorem dX1_list_21 : decode cX1_list 21 = .ok (.getfield 47, 3) := by decide +kernel
theorem dX1_list_24 : decode cX1_list 24 = .ok (.iload_n 1, 1) := by decide +kernel
theorem dX1_list_25 : decode cX1_list 25 = .ok (.iastore, 1) := by decide +kernel
theorem dX1_list_26 : decode cX1_list 26 = .ok (.aload_n 0, 1) := by decide +kernel
theorem dX1_list_27 : decode cX1_list 27 = .ok (.getfield 25, 3) := by decide +kernel
theorem dX1_list_30 : decode cX1_list 30 = .ok (.aload_n 0, 1) := by decide +kernel
theorem dX1_list_31 : decode cX1_list 31 = .ok (.getfield 47, 3) := by decide +kernel
theorem dX1_list_34 : decode cX1_list 34 = .ok (.iload_n 2, 1) := by decide +kernel
theorem dX1_list_35 : decode cX1_list 35 = .ok (.iastore, 1) := by decide +kernel
theorem dX1_list_36 : decode cX1_list 36 = .ok (.aload_n 0, 1) := by decide +kernel
theorem dX1_list_37 : decode cX1_list 37 = .ok (.getfield 28, 3) := by decide +kernel
theorem dX1_list_40 : decode cX1_list 40 = .ok (.aload_n 0, 1) := by decide +kernel
theorem dX1_list_41 : decode cX1_list 41 = .ok (.getfield 47, 3) := by decide +kernel
theorem dX1_list_44 : decode cX1_list 44 = .ok (.iload_n 3, 1) := by decide +kernel
theorem dX1_list_45 : decode cX1_list 45 = .ok (.bastore, 1) := by decide +kernel
theorem dX1_list_46 : decode cX1_list 46 = .ok (.aload_n 0, 1) := by decide +kernel
theorem dX1_list_47 : decode cX1_list 47 = .ok (.dup, 1) := by decide +kernel
theorem dX1_list_48 : decode cX1_list 48 = .ok (.getfield 47, 3) := by decide +kernel
theorem dX1_list_51 : decode cX1_list 51 = .ok (.iconst 1, 1) := by decide +kernel
theorem dX1_list_52 : decode cX1_list 52 = .ok (.iadd, 1) := by decide +kernel
theorem dX1_list_53 : decode cX1_list 53 = .ok (.putfield 47, 3) := by decide +kernel
theorem dX1_list_56 : decode cX1_list 56 = .ok (.return_, 1) := by decide +kernel
theorem dX1_leaveOutConflicts_0 : decode cX1_leaveOutConflicts 0 = .ok (.aload_n 0, 1) := by decide +kernel
theorem dX1_leaveOutConflicts_1 : decode cX1_leaveOutConflicts 1 = .ok (.getfield 47, 3) := by decide +kernel
theorem dX1_leaveOutConflicts_4 : decode cX1_leaveOutConflicts 4 = .ok (.istore_n 2, 1) := by decide +kernel
theorem dX1_leaveOutConflicts_5 : decode cX1_leaveOutConflicts 5 = .ok (.aload_n 0, 1) := by decide +kernel
theorem dX1_leaveOutConflicts_6 : decode cX1_leaveOutConflicts 6 = .ok (.iconst 0, 1) := by decide +kernel
theorem dX1_leaveOutConflicts_7 : decode cX1_leaveOutConflicts 7 = .ok (.putfield 47, 3) := by decide +kernel
theorem dX1_leaveOutConflicts_10 : decode cX1_leaveOutConflicts 10 = .ok (.iconst 0, 1) := by decide +kernel
theorem dX1_leaveOutConflicts_11 : decode cX1_leaveOutConflicts 11 = .ok (.istore_n 3, 1) := by decide +kernel
theorem dX1_leaveOutConflicts_12 : decode cX1_leaveOutConflicts 12 = .ok (.iload_n 3, 1) := by decide +kernel
theorem dX1_leaveOutConflicts_13 : decode cX1_leaveOutConflicts 13 = .ok (.iload_n 2, 1) := by decide +kernel
theorem dX1_leaveOutConflicts_14 : decode cX1_leaveOutConflicts 14 = .ok (.if_icmp .ge 63, 3) := by decide +kernel
theorem dX1_leaveOutConflicts_17 : decode cX1_leaveOutConflicts 17 = .ok (.iload_n 3, 1) := by decide +kernel
theorem dX1_leaveOutConflicts_18 : decode cX1_leaveOutConflicts 18 = .ok (.bipush 10, 2) := by decide +kernel
theorem dX1_leaveOutConflicts_20 : decode cX1_leaveOutConflicts 20 = .ok (.if_icmp .ge 57, 3) := by decide +kernel
theorem dX1_leaveOutConflicts_23 : decode cX1_leaveOutConflicts 23 = .ok (.aload_n 0, 1) := by decide +kernel
theorem dX1_leaveOutConflicts_24 : decode cX1_leaveOutConflicts 24 = .ok (.aload_n 1, 1) := by decide +kernel
theorem dX1_leaveOutConflicts_25 : decode cX1_leaveOutConflicts 25 = .ok (.aload_n 0, 1) := by decide +kernel
theorem dX1_leaveOutConflicts_26 : decode cX1_leaveOutConflicts 26 = .ok (.getfield 22, 3) := by decide +kernel
theorem dX1_leaveOutConflicts_29 : decode cX1_leaveOutConflicts 29 = .ok (.iload_n 3, 1) := by decide +kernel
theorem dX1_leaveOutConflicts_30 : decode cX1_leaveOutConflicts 30 = .ok (.iaload, 1) := by decide +kernel
theorem dX1_leaveOutConflicts_31 : decode cX1_leaveOutConflicts 31 = .ok (.aload_n 0, 1) := by decide +kernel
theorem dX1_leaveOutConflicts_32 : decode cX1_leaveOutConflicts 32 = .ok (.getfield 25, 3) := by decide +kernel
theorem dX1_leaveOutConflicts_35 : decode cX1_leaveOutConflicts 35 = .ok (.iload_n 3, 1) := by decide +kernel
theorem dX1_leaveOutConflicts_36 : decode cX1_leaveOutConflicts 36 = .ok (.iaload, 1) := by decide +kernel
theorem dX1_leaveOutConflicts_37 : decode cX1_leaveOutConflicts 37 = .ok (.aload_n 0, 1) := by decide +kernel
theorem dX1_leaveOutConflicts_38 : decode cX1_leaveOutConflicts 38 = .ok (.getfield 28, 3) := by decide +kernel
theorem dX1_leaveOutConflicts_41 : decode cX1_leaveOutConflicts 41 = .ok (.iload_n 3, 1) := by decide +kernel
theorem dX1_leaveOutConflicts_42 : decode cX1_leaveOutConflicts 42 = .ok (.baload, 1) := by decide +kernel
theorem dX1_leaveOutConflicts_43 : decode cX1_leaveOutConflicts 43 = .ok (.invokevirtual 50, 3) := by decide +kernel
theorem dX1_leaveOutConflicts_46 : decode cX1_leaveOutConflicts 46 = .ok (.ifCond .ne 25, 3) := by decide +kernel
theorem dX1_leaveOutConflicts_49 : decode cX1_leaveOutConflicts 49 = .ok (.aload_n 0, 1) := by decide +kernel
theorem dX1_leaveOutConflicts_50 : decode cX1_leaveOutConflicts 50 = .ok (.aload_n 0, 1) := by decide +kernel
theorem dX1_leaveOutConflicts_51 : decode cX1_leaveOutConflicts 51 = .ok (.getfield 22, 3) := by decide +kernel
theorem dX1_leaveOutConflicts_54 : decode cX1_leaveOutConflicts 54 = .ok (.iload_n 3, 1) := by decide +kernel
theorem dX1_leaveOutConflicts_55 : decode cX1_leaveOutConflicts 55 = .ok (.iaload, 1) := by decide +kernel
theorem dX1_leaveOutConflicts_56 : decode cX1_leaveOutConflicts 56 = .ok (.aload_n 0, 1) := by decide +kernel
theorem dX1_leaveOutConflicts_57 : decode cX1_leaveOutConflicts 57 = .ok (.getfield 25, 3) := by decide +kernel
theorem dX1_leaveOutConflicts_60 : decode cX1_leaveOutConflicts 60 = .ok (.iload_n 3, 1) := by decide +kernel
theorem dX1_leaveOutConflicts_61 : decode cX1_leaveOutConflicts 61 = .ok (.iaload, 1) := by decide +kernel
theorem dX1_leaveOutConflicts_62 : decode cX1_leaveOutConflicts 62 = .ok (.aload_n 0, 1) := by decide +kernel
theorem dX1_leaveOutConflicts_63 : decode cX1_leaveOutConflicts 63 = .ok (.getfield 28, 3) := by decide +kernel
theorem dX1_leaveOutConflicts_66 : decode cX1_leaveOutConflicts 66 = .ok (.iload_n 3, 1) := by decide +kernel
theorem dX1_leaveOutConflicts_67 : decode cX1_leaveOutConflicts 67 = .ok (.baload, 1) := by decide +kernel
theorem dX1_leaveOutConflicts_68 : decode cX1_leaveOutConflicts 68 = .ok (.invokevirtual 43, 3) := by decide +kernel
theorem dX1_leaveOutConflicts_71 : decode cX1_leaveOutConflicts 71 = .ok (.iinc 3 1, 3) := by decide +kernel
theorem dX1_leaveOutConflicts_74 : decode cX1_leaveOutConflicts 74 = .ok (.goto (-62), 3) := by decide +kernel
theorem dX1_leaveOutConflicts_77 : decode cX1_leaveOutConflicts 77 = .ok (.iload_n 2, 1) := by decide +kernel
theorem dX1_leaveOutConflicts_78 : decode cX1_leaveOutConflicts 78 = .ok (.aload_n 0, 1) := by decide +kernel
theorem dX1_leaveOutConflicts_79 : decode cX1_leaveOutConflicts 79 = .ok (.getfield 47, 3) := by decide +kernel
theorem dX1_leaveOutConflicts_82 : decode cX1_leaveOutConflicts 82 = .ok (.isub, 1) := by decide +kernel
theorem dX1_leaveOutConflicts_83 : decode cX1_leaveOutConflicts 83 = .ok (.ireturn, 1) := by decide +kernel
theorem dX1_isConflict_0 : decode cX1_isConflict 0 = .ok (.aload_n 1, 1) := by decide +kernel
theorem dX1_isConflict_1 : decode cX1_isConflict 1 = .ok (.iload_n 2, 1) := by decide +kernel
theorem dX1_isConflict_2 : decode cX1_isConflict 2 = .ok (.invokevirtual 54, 3) := by decide +kernel
theorem dX1_isConflict_5 : decode cX1_isConflict 5 = .ok (.ifCond .ne 5, 3) := by decide +kernel
theorem dX1_isConflict_8 : decode cX1_isConflict 8 = .ok (.iconst 1, 1) := by decide +kernel
theorem dX1_isConflict_9 : decode cX1_isConflict 9 = .ok (.ireturn, 1) := by decide +kernel
theorem dX1_isConflict_10 : decode cX1_isConflict 10 = .ok (.aload_n 1, 1) := by decide +kernel
theorem dX1_isConflict_11 : decode cX1_isConflict 11 = .ok (.getfield 59, 3) := by decide +kernel
theorem dX1_isConflict_14 : decode cX1_isConflict 14 = .ok (.astore 5, 2) := by decide +kernel
theorem dX1_isConflict_16 : decode cX1_isConflict 16 = .ok (.aload 5, 2) := by decide +kernel
theorem dX1_isConflict_18 : decode cX1_isConflict 18 = .ok (.aload_n 0, 1) := by decide +kernel
theorem dX1_isConflict_19 : decode cX1_isConflict 19 = .ok (.getfield 63, 3) := by decide +kernel
theorem dX1_isConflict_22 : decode cX1_isConflict 22 = .ok (.invokevirtual 66, 3) := by decide +kernel
theorem dX1_isConflict_25 : decode cX1_isConflict 25 = .ok (.ifCond .eq 23, 3) := by decide +kernel
theorem dX1_isConflict_28 : decode cX1_isConflict 28 = .ok (.aload 5, 2) := by decide +kernel
theorem dX1_isConflict_30 : decode cX1_isConflict 30 = .ok (.aload_n 0, 1) := by decide +kernel
theorem dX1_isConflict_31 : decode cX1_isConflict 31 = .ok (.getfield 63, 3) := by decide +kernel
theorem dX1_isConflict_34 : decode cX1_isConflict 34 = .ok (.iload_n 2, 1) := by decide +kernel
theorem dX1_isConflict_35 : decode cX1_isConflict 35 = .ok (.iload_n 3, 1) := by decide +kernel
theorem dX1_isConflict_36 : decode cX1_isConflict 36 = .ok (.iload 4, 2) := by decide +kernel
theorem dX1_isConflict_38 : decode cX1_isConflict 38 = .ok (.invokevirtual 71, 3) := by decide +kernel
theorem dX1_isConflict_41 : decode cX1_isConflict 41 = .ok (.ifCond .eq 7, 3) := by decide +kernel
theorem dX1_isConflict_44 : decode cX1_isConflict 44 = .ok (.iconst 1, 1) := by decide +kernel
theorem dX1_isConflict_45 : decode cX1_isConflict 45 = .ok (.goto 4, 3) := by decide +kernel
theorem dX1_isConflict_48 : decode cX1_isConflict 48 = .ok (.iconst 0, 1) := by decide +kernel
theorem dX1_isConflict_49 : decode cX1_isConflict 49 = .ok (.ireturn, 1) := by decide +kernel
theorem dX1_replay_0 : decode cX1_replay 0 = .ok (.iconst 0, 1) := by decide +kernel
theorem dX1_replay_1 : decode cX1_replay 1 = .ok (.istore_n 2, 1) := by decide +kernel
theorem dX1_replay_2 : decode cX1_replay 2 = .ok (.iload_n 2, 1) := by decide +kernel
theorem dX1_replay_3 : decode cX1_replay 3 = .ok (.aload_n 0, 1) := by decide +kernel
theorem dX1_replay_4 : decode cX1_replay 4 = .ok (.getfield 47, 3) := by decide +kernel
theorem dX1_replay_7 : decode cX1_replay 7 = .ok (.if_icmp .ge 38, 3) := by decide +kernel
theorem dX1_replay_10 : decode cX1_replay 10 = .ok (.iload_n 2, 1) := by decide +kernel
theorem dX1_replay_11 : decode cX1_replay 11 = .ok (.bipush 10, 2) := by decide +kernel
theorem dX1_replay_13 : decode cX1_replay 13 = .ok (.if_icmp .ge 32, 3) := by decide +kernel
theorem dX1_replay_16 : decode cX1_replay 16 = .ok (.aload_n 1, 1) := by decide +kernel
theorem dX1_replay_17 : decode cX1_replay 17 = .ok (.aload_n 0, 1) := by decide +kernel
theorem dX1_replay_18 : decode cX1_replay 18 = .ok (.getfield 22, 3) := by decide +kernel
theorem dX1_replay_21 : decode cX1_replay 21 = .ok (.iload_n 2, 1) := by decide +kernel
theorem dX1_replay_22 : decode cX1_replay 22 = .ok (.iaload, 1) := by decide +kernel
theorem dX1_replay_23 : decode cX1_replay 23 = .ok (.aload_n 0, 1) := by decide +kernel
theorem dX1_replay_24 : decode cX1_replay 24 = .ok (.getfield 25, 3) := by decide +kernel
theorem dX1_replay_27 : decode cX1_replay 27 = .ok (.iload_n 2, 1) := by decide +kernel
theorem dX1_replay_28 : decode cX1_replay 28 = .ok (.iaload, 1) := by decide +kernel
theorem dX1_replay_29 : decode cX1_replay 29 = .ok (.aload_n 0, 1) := by decide +kernel
theorem dX1_replay_30 : decode cX1_replay 30 = .ok (.getfield 28, 3) := by decide +kernel
theorem dX1_replay_33 : decode cX1_replay 33 = .ok (.iload_n 2, 1) := by decide +kernel
theorem dX1_replay_34 : decode cX1_replay 34 = .ok (.baload, 1) := by decide +kernel
theorem dX1_replay_35 : decode cX1_replay 35 = .ok (.invokevirtual 75, 3) := by decide +kernel
theorem dX1_replay_38 : decode cX1_replay 38 = .ok (.pop, 1) := by decide +kernel
theorem dX1_replay_39 : decode cX1_replay 39 = .ok (.iinc 2 1, 3) := by decide +kernel
theorem dX1_replay_42 : decode cX1_replay 42 = .ok (.goto (-40), 3) := by decide +kernel
theorem dX1_replay_45 : decode cX1_replay 45 = .ok (.aload_n 0, 1) := by decide +kernel
theorem dX1_replay_46 : decode cX1_replay 46 = .ok (.iconst 0, 1) := by decide +kernel
theorem dX1_replay_47 : decode cX1_replay 47 = .ok (.putfield 47, 3) := by decide +kernel
theorem dX1_replay_50 : decode cX1_replay 50 = .ok (.return_, 1) := by decide +kernel
theorem dX1_load_0 : decode cX1_load 0 = .ok (.aload_n 0, 1) := by decide +kernel
theorem dX1_load_1 : decode cX1_load 1 = .ok (.aload_n 1, 1) := by decide +kernel
theorem dX1_load_2 : decode cX1_load 2 = .ok (.getfield 59, 3) := by decide +kernel
theorem dX1_load_5 : decode cX1_load 5 = .ok (.getfield 79, 3) := by decide +kernel
theorem dX1_load_8 : decode cX1_load 8 = .ok (.putfield 63, 3) := by decide +kernel
theorem dX1_load_11 : decode cX1_load 11 = .ok (.aload_n 1, 1) := by decide +kernel
theorem dX1_load_12 : decode cX1_load 12 = .ok (.iconst 1, 1) := by decide +kernel
theorem dX1_load_13 : decode cX1_load 13 = .ok (.aload_n 0, 1) := by decide +kernel
theorem dX1_load_14 : decode cX1_load 14 = .ok (.getfield 82, 3) := by decide +kernel
theorem dX1_load_17 : decode cX1_load 17 = .ok (.ishl, 1) := by decide +kernel
theorem dX1_load_18 : decode cX1_load 18 = .ok (.iconst 0, 1) := by decide +kernel
theorem dX1_load_19 : decode cX1_load 19 = .ok (.invokevirtual 85, 3) := by decide +kernel
theorem dX1_load_22 : decode cX1_load 22 = .ok (.lstore_n 2, 1) := by decide +kernel
theorem dX1_load_23 : decode cX1_load 23 = .ok (.aload_n 0, 1) := by decide +kernel
theorem dX1_load_24 : decode cX1_load 24 = .ok (.aload_n 0, 1) := by decide +kernel
theorem dX1_load_25 : decode cX1_load 25 = .ok (.getfield 9, 3) := by decide +kernel
theorem dX1_load_28 : decode cX1_load 28 = .ok (.lload_n 2, 1) := by decide +kernel
theorem dX1_load_29 : decode cX1_load 29 = .ok (.invokestatic 89, 3) := by decide +kernel
theorem dX1_load_32 : decode cX1_load 32 = .ok (.invokestatic 95, 3) := by decide +kernel
theorem dX1_load_35 : decode cX1_load 35 = .ok (.putfield 32, 3) := by decide +kernel
theorem dX1_load_38 : decode cX1_load 38 = .ok (.iconst 0, 1) := by decide +kernel
theorem dX1_load_39 : decode cX1_load 39 = .ok (.istore 4, 2) := by decide +kernel
theorem dX1_load_41 : decode cX1_load 41 = .ok (.iload 4, 2) := by decide +kernel
theorem dX1_load_43 : decode cX1_load 43 = .ok (.aload_n 0, 1) := by decide +kernel
theorem dX1_load_44 : decode cX1_load 44 = .ok (.getfield 32, 3) := by decide +kernel
theorem dX1_load_47 : decode cX1_load 47 = .ok (.if_icmp .ge 47, 3) := by decide +kernel
theorem dX1_load_50 : decode cX1_load 50 = .ok (.iload 4, 2) := by decide +kernel
theorem dX1_load_52 : decode cX1_load 52 = .ok (.bipush 10, 2) := by decide +kernel
theorem dX1_load_54 : decode cX1_load 54 = .ok (.if_icmp .ge 40, 3) := by decide +kernel
theorem dX1_load_57 : decode cX1_load 57 = .ok (.aload_n 1, 1) := by decide +kernel
theorem dX1_load_58 : decode cX1_load 58 = .ok (.lload_n 2, 1) := by decide +kernel
theorem dX1_load_59 : decode cX1_load 59 = .ok (.iload 4, 2) := by decide +kernel
theorem dX1_load_61 : decode cX1_load 61 = .ok (.invokevirtual 101, 3) := by decide +kernel
theorem dX1_load_64 : decode cX1_load 64 = .ok (.istore 5, 2) := by decide +kernel
theorem dX1_load_66 : decode cX1_load 66 = .ok (.aload_n 0, 1) := by decide +kernel
theorem dX1_load_67 : decode cX1_load 67 = .ok (.getfield 15, 3) := by decide +kernel
theorem dX1_load_70 : decode cX1_load 70 = .ok (.iload 4, 2) := by decide +kernel
theorem dX1_load_72 : decode cX1_load 72 = .ok (.iload 5, 2) := by decide +kernel
theorem dX1_load_74 : decode cX1_load 74 = .ok (.iastore, 1) := by decide +kernel
theorem dX1_load_75 : decode cX1_load 75 = .ok (.aload_n 0, 1) := by decide +kernel
theorem dX1_load_76 : decode cX1_load 76 = .ok (.getfield 19, 3) := by decide +kernel
theorem dX1_load_79 : decode cX1_load 79 = .ok (.iload 4, 2) := by decide +kernel
theorem dX1_load_81 : decode cX1_load 81 = .ok (.aload_n 1, 1) := by decide +kernel
theorem dX1_load_82 : decode cX1_load 82 = .ok (.iload 5, 2) := by decide +kernel
theorem dX1_load_84 : decode cX1_load 84 = .ok (.invokevirtual 105, 3) := by decide +kernel
theorem dX1_load_87 : decode cX1_load 87 = .ok (.iastore, 1) := by decide +kernel
theorem dX1_load_88 : decode cX1_load 88 = .ok (.iinc 4 1, 3) := by decide +kernel
theorem dX1_load_91 : decode cX1_load 91 = .ok (.goto (-50), 3) := by decide +kernel
theorem dX1_load_94 : decode cX1_load 94 = .ok (.return_, 1) := by decide +kernel
theorem dX2_init_0 : decode cX2_init 0 = .ok (.aload_n 0, 1) := by decide +kernel
theorem dX2_init_1 : decode cX2_init 1 = .ok (.invokespecial 3, 3) := by decide +kernel
theorem dX2_init_4 : decode cX2_init 4 = .ok (.aload_n 0, 1) := by decide +kernel
theorem dX2_init_5 : decode cX2_init 5 = .ok (.bipush 60, 2) := by decide +kernel
theorem dX2_init_7 : decode cX2_init 7 = .ok (.newarray .int, 2) := by decide +kernel
theorem dX2_init_9 : decode cX2_init 9 = .ok (.putfield 9, 3) := by decide +kernel
theorem dX2_init_12 : decode cX2_init 12 = .ok (.aload_n 0, 1) := by decide +kernel
theorem dX2_init_13 : decode cX2_init 13 = .ok (.bipush 60, 2) := by decide +kernel
theorem dX2_init_15 : decode cX2_init 15 = .ok (.newarray .int, 2) := by decide +kernel
theorem dX2_init_17 : decode cX2_init 17 = .ok (.putfield 15, 3) := by decide +kernel
theorem dX2_init_20 : decode cX2_init 20 = .ok (.aload_n 0, 1) := by decide +kernel
theorem dX2_init_21 : decode cX2_init 21 = .ok (.bipush 60, 2) := by decide +kernel
theorem dX2_init_23 : decode cX2_init 23 = .ok (.newarray .int, 2) := by decide +kernel
theorem dX2_init_25 : decode cX2_init 25 = .ok (.putfield 18, 3) := by decide +kernel
theorem dX2_init_28 : decode cX2_init 28 = .ok (.aload_n 0, 1) := by decide +kernel
theorem dX2_init_29 : decode cX2_init 29 = .ok (.bipush 60, 2) := by decide +kernel
theorem dX2_init_31 : decode cX2_init 31 = .ok (.newarray .int, 2) := by decide +kernel
theorem dX2_init_33 : decode cX2_init 33 = .ok (.putfield 21, 3) := by decide +kernel
theorem dX2_init_36 : decode cX2_init 36 = .ok (.aload_n 0, 1) := by decide +kernel
theorem dX2_init_37 : decode cX2_init 37 = .ok (.bipush 60, 2) := by decide +kernel
theorem dX2_init_39 : decode cX2_init 39 = .ok (.newarray .int, 2) := by decide +kernel
theorem dX2_init_41 : decode cX2_init 41 = .ok (.putfield 24, 3) := by decide +kernel
theorem dX2_init_44 : decode cX2_init 44 = .ok (.aload_n 0, 1) := by decide +kernel
theorem dX2_init_45 : decode cX2_init 45 = .ok (.new 27, 3) := by decide +kernel
theorem dX2_init_48 : decode cX2_init 48 = .ok (.dup, 1) := by decide +kernel
theorem dX2_init_49 : decode cX2_init 49 = .ok (.invokespecial 29, 3) := by decide +kernel
theorem dX2_init_52 : decode cX2_init 52 = .ok (.putfield 30, 3) := by decide +kernel
theorem dX2_init_55 : decode cX2_init 55 = .ok (.return_, 1) := by decide +kernel
theorem dX2_boxesOf_0 : decode cX2_boxesOf 0 = .ok (.iload_n 1, 1) := by decide +kernel
theorem dX2_boxesOf_1 : decode cX2_boxesOf 1 = .ok (.iconst 0, 1) := by decide +kernel
theorem dX2_boxesOf_2 : decode cX2_boxesOf 2 = .ok (.bipush 59, 2) := by decide +kernel
theorem dX2_boxesOf_4 : decode cX2_boxesOf 4 = .ok (.invokestatic 34, 3) := by decide +kernel
theorem dX2_boxesOf_7 : decode cX2_boxesOf 7 = .ok (.ifCond .eq 12, 3) := by decide +kernel
theorem dX2_boxesOf_10 : decode cX2_boxesOf 10 = .ok (.aload_n 0, 1) := by decide +kernel
theorem dX2_boxesOf_11 : decode cX2_boxesOf 11 = .ok (.getfield 18, 3) := by decide +kernel
theorem dX2_boxesOf_14 : decode cX2_boxesOf 14 = .ok (.iload_n 1, 1) := by decide +kernel
theorem dX2_boxesOf_15 : decode cX2_boxesOf 15 = .ok (.iaload, 1) := by decide +kernel
theorem dX2_boxesOf_16 : decode cX2_boxesOf 16 = .ok (.goto 4, 3) := by decide +kernel
theorem dX2_boxesOf_19 : decode cX2_boxesOf 19 = .ok (.iconst 0, 1) := by decide +kernel
theorem dX2_boxesOf_20 : decode cX2_boxesOf 20 = .ok (.ireturn, 1) := by decide +kernel
theorem dX2_keywordsOf_0 : decode cX2_keywordsOf 0 = .ok (.iload_n 1, 1) := by decide +kernel
theorem dX2_keywordsOf_1 : decode cX2_keywordsOf 1 = .ok (.iconst 0, 1) := by decide +kernel
theorem dX2_keywordsOf_2 : decode cX2_keywordsOf 2 = .ok (.bipush 59, 2) := by decide +kernel
theorem dX2_keywordsOf_4 : decode cX2_keywordsOf 4 = .ok (.invokestatic 34, 3) := by decide +kernel
theorem dX2_keywordsOf_7 : decode cX2_keywordsOf 7 = .ok (.ifCond .eq 12, 3) := by decide +kernel
theorem dX2_keywordsOf_10 : decode cX2_keywordsOf 10 = .ok (.aload_n 0, 1) := by decide +kernel
theorem dX2_keywordsOf_11 : decode cX2_keywordsOf 11 = .ok (.getfield 21, 3) := by decide +kernel
theorem dX2_keywordsOf_14 : decode cX2_keywordsOf 14 = .ok (.iload_n 1, 1) := by decide +kernel
theorem dX2_keywordsOf_15 : decode cX2_keywordsOf 15 = .ok (.iaload, 1) := by decide +kernel
theorem dX2_keywordsOf_16 : decode cX2_keywordsOf 16 = .ok (.goto 4, 3) := by decide +kernel
theorem dX2_keywordsOf_19 : decode cX2_keywordsOf 19 = .ok (.iconst 0, 1) := by decide +kernel
theorem dX2_keywordsOf_20 : decode cX2_keywordsOf 20 = .ok (.ireturn, 1) := by decide +kernel
theorem dX2_timeOf_0 : decode cX2_timeOf 0 = .ok (.iload_n 1, 1) := by decide +kernel
theorem dX2_timeOf_1 : decode cX2_timeOf 1 = .ok (.iconst 0, 1) := by decide +kernel
theorem dX2_timeOf_2 : decode cX2_timeOf 2 = .ok (.bipush 59, 2) := by decide +kernel
theorem dX2_timeOf_4 : decode cX2_timeOf 4 = .ok (.invokestatic 34, 3) := by decide +kernel
theorem dX2_timeOf_7 : decode cX2_timeOf 7 = .ok (.ifCond .eq 12, 3) := by decide +kernel
theorem dX2_timeOf_10 : decode cX2_timeOf 10 = .ok (.aload_n 0, 1) := by decide +kernel
theorem dX2_timeOf_11 : decode cX2_timeOf 11 = .ok (.getfield 9, 3) := by decide +kernel
theorem dX2_timeOf_14 : decode cX2_timeOf 14 = .ok (.iload_n 1, 1) := by decide +kernel
theorem dX2_timeOf_15 : decode cX2_timeOf 15 = .ok (.iaload, 1) := by decide +kernel
theorem dX2_timeOf_16 : decode cX2_timeOf 16 = .ok (.goto 4, 3) := by decide +kernel
theorem dX2_timeOf_19 : decode cX2_timeOf 19 = .ok (.iconst 0, 1) := by decide +kernel
theorem dX2_timeOf_20 : decode cX2_timeOf 20 = .ok (.ireturn, 1) := by decide +kernel
theorem dX2_isThere_0 : decode cX2_isThere 0 = .ok (.aload_n 0, 1) := by decide +kernel
theorem dX2_isThere_1 : decode cX2_isThere 1 = .ok (.iload_n 1, 1) := by decide +kernel
theorem dX2_isThere_2 : decode cX2_isThere 2 = .ok (.invokevirtual 38, 3) := by decide +kernel
theorem dX2_isThere_5 : decode cX2_isThere 5 = .ok (.ifCond .eq 7, 3) := by decide +kernel
theorem dX2_isThere_8 : decode cX2_isThere 8 = .ok (.iconst 1, 1) := by decide +kernel
theorem dX2_isThere_9 : decode cX2_isThere 9 = .ok (.goto 4, 3) := by decide +kernel
theorem dX2_isThere_12 : decode cX2_isThere 12 = .ok (.iconst 0, 1) := by decide +kernel
theorem dX2_isThere_13 : decode cX2_isThere 13 = .ok (.ireturn, 1) := by decide +kernel
theorem dX2_letCome_0 : decode cX2_letCome 0 = .ok (.aload_n 0, 1) := by decide +kernel
theorem dX2_letCome_1 : decode cX2_letCome 1 = .ok (.getfield 42, 3) := by decide +kernel
theorem dX2_letCome_4 : decode cX2_letCome 4 = .ok (.istore 4, 2) := by decide +kernel
theorem dX2_letCome_6 : decode cX2_letCome 6 = .ok (.iload 4, 2) := by decide +kernel
theorem dX2_letCome_8 : decode cX2_letCome 8 = .ok (.ifCond .lt 52, 3) := by decide +kernel
theorem dX2_letCome_11 : decode cX2_letCome 11 = .ok (.iload 4, 2) := by decide +kernel
theorem dX2_letCome_13 : decode cX2_letCome 13 = .ok (.bipush 60, 2) := by decide +kernel
theorem dX2_letCome_15 : decode cX2_letCome 15 = .ok (.if_icmp .ge 45, 3) := by decide +kernel
theorem dX2_letCome_18 : decode cX2_letCome 18 = .ok (.aload_n 0, 1) := by decide +kernel
theorem dX2_letCome_19 : decode cX2_letCome 19 = .ok (.getfield 9, 3) := by decide +kernel
theorem dX2_letCome_22 : decode cX2_letCome 22 = .ok (.iload 4, 2) := by decide +kernel
theorem dX2_letCome_24 : decode cX2_letCome 24 = .ok (.iload_n 1, 1) := by decide +kernel
theorem dX2_letCome_25 : decode cX2_letCome 25 = .ok (.iastore, 1) := by decide +kernel
theorem dX2_letCome_26 : decode cX2_letCome 26 = .ok (.aload_n 0, 1) := by decide +kernel
theorem dX2_letCome_27 : decode cX2_letCome 27 = .ok (.getfield 15, 3) := by decide +kernel
theorem dX2_letCome_30 : decode cX2_letCome 30 = .ok (.iload 4, 2) := by decide +kernel
theorem dX2_letCome_32 : decode cX2_letCome 32 = .ok (.iload_n 3, 1) := by decide +kernel
theorem dX2_letCome_33 : decode cX2_letCome 33 = .ok (.iastore, 1) := by decide +kernel
theorem dX2_letCome_34 : decode cX2_letCome 34 = .ok (.aload_n 0, 1) := by decide +kernel
theorem dX2_letCome_35 : decode cX2_letCome 35 = .ok (.iload 4, 2) := by decide +kernel
theorem dX2_letCome_37 : decode cX2_letCome 37 = .ok (.iload_n 1, 1) := by decide +kernel
theorem dX2_letCome_38 : decode cX2_letCome 38 = .ok (.invokevirtual 46, 3) := by decide +kernel
theorem dX2_letCome_41 : decode cX2_letCome 41 = .ok (.aload_n 0, 1) := by decide +kernel
theorem dX2_letCome_42 : decode cX2_letCome 42 = .ok (.dup, 1) := by decide +kernel
theorem dX2_letCome_43 : decode cX2_letCome 43 = .ok (.getfield 42, 3) := by decide +kernel
theorem dX2_letCome_46 : decode cX2_letCome 46 = .ok (.iconst 1, 1) := by decide +kernel
theorem dX2_letCome_47 : decode cX2_letCome 47 = .ok (.iadd, 1) := by decide +kernel
theorem dX2_letCome_48 : decode cX2_letCome 48 = .ok (.putfield 42, 3) := by decide +kernel
theorem dX2_letCome_51 : decode cX2_letCome 51 = .ok (.aload_n 0, 1) := by decide +kernel
theorem dX2_letCome_52 : decode cX2_letCome 52 = .ok (.iload 4, 2) := by decide +kernel
theorem dX2_letCome_54 : decode cX2_letCome 54 = .ok (.iload_n 2, 1) := by decide +kernel
theorem dX2_letCome_55 : decode cX2_letCome 55 = .ok (.iconst 0, 1) := by decide +kernel
theorem dX2_letCome_56 : decode cX2_letCome 56 = .ok (.invokevirtual 50, 3) := by decide +kernel
theorem dX2_letCome_59 : decode cX2_letCome 59 = .ok (.pop, 1) := by decide +kernel
theorem dX2_letCome_60 : decode cX2_letCome 60 = .ok (.iload 4, 2) := by decide +kernel
theorem dX2_letCome_62 : decode cX2_letCome 62 = .ok (.ireturn, 1) := by decide +kernel
theorem dX2_putInOrder_0 : decode cX2_putInOrder 0 = .ok (.aload_n 0, 1) := by decide +kernel
theorem dX2_putInOrder_1 : decode cX2_putInOrder 1 = .ok (.getfield 42, 3) := by decide +kernel
theorem dX2_putInOrder_4 : decode cX2_putInOrder 4 = .ok (.bipush 59, 2) := by decide +kernel
theorem dX2_putInOrder_6 : decode cX2_putInOrder 6 = .ok (.invokestatic 53, 3) := by decide +kernel
theorem dX2_putInOrder_9 : decode cX2_putInOrder 9 = .ok (.istore_n 3, 1) := by decide +kernel
theorem dX2_putInOrder_10 : decode cX2_putInOrder 10 = .ok (.iload_n 3, 1) := by decide +kernel
theorem dX2_putInOrder_11 : decode cX2_putInOrder 11 = .ok (.ifCond .le 39, 3) := by decide +kernel
theorem dX2_putInOrder_14 : decode cX2_putInOrder 14 = .ok (.aload_n 0, 1) := by decide +kernel
theorem dX2_putInOrder_15 : decode cX2_putInOrder 15 = .ok (.aload_n 0, 1) := by decide +kernel
theorem dX2_putInOrder_16 : decode cX2_putInOrder 16 = .ok (.getfield 24, 3) := by decide +kernel
theorem dX2_putInOrder_19 : decode cX2_putInOrder 19 = .ok (.iload_n 3, 1) := by decide +kernel
theorem dX2_putInOrder_20 : decode cX2_putInOrder 20 = .ok (.iconst 1, 1) := by decide +kernel
theorem dX2_putInOrder_21 : decode cX2_putInOrder 21 = .ok (.isub, 1) := by decide +kernel
theorem dX2_putInOrder_22 : decode cX2_putInOrder 22 = .ok (.iaload, 1) := by decide +kernel
theorem dX2_putInOrder_23 : decode cX2_putInOrder 23 = .ok (.invokevirtual 59, 3) := by decide +kernel
theorem dX2_putInOrder_26 : decode cX2_putInOrder 26 = .ok (.iload_n 2, 1) := by decide +kernel
theorem dX2_putInOrder_27 : decode cX2_putInOrder 27 = .ok (.if_icmp .gt 23, 3) := by decide +kernel
theorem dX2_putInOrder_30 : decode cX2_putInOrder 30 = .ok (.aload_n 0, 1) := by decide +kernel
theorem dX2_putInOrder_31 : decode cX2_putInOrder 31 = .ok (.getfield 24, 3) := by decide +kernel
theorem dX2_putInOrder_34 : decode cX2_putInOrder 34 = .ok (.iload_n 3, 1) := by decide +kernel
theorem dX2_putInOrder_35 : decode cX2_putInOrder 35 = .ok (.aload_n 0, 1) := by decide +kernel
theorem dX2_putInOrder_36 : decode cX2_putInOrder 36 = .ok (.getfield 24, 3) := by decide +kernel
theorem dX2_putInOrder_39 : decode cX2_putInOrder 39 = .ok (.iload_n 3, 1) := by decide +kernel
theorem dX2_putInOrder_40 : decode cX2_putInOrder 40 = .ok (.iconst 1, 1) := by decide +kernel
theorem dX2_putInOrder_41 : decode cX2_putInOrder 41 = .ok (.isub, 1) := by decide +kernel
theorem dX2_putInOrder_42 : decode cX2_putInOrder 42 = .ok (.iaload, 1) := by decide +kernel
theorem dX2_putInOrder_43 : decode cX2_putInOrder 43 = .ok (.iastore, 1) := by decide +kernel
theorem dX2_putInOrder_44 : decode cX2_putInOrder 44 = .ok (.iinc 3 (-1), 3) := by decide +kernel
theorem dX2_putInOrder_47 : decode cX2_putInOrder 47 = .ok (.goto (-37), 3) := by decide +kernel
theorem dX2_putInOrder_50 : decode cX2_putInOrder 50 = .ok (.aload_n 0, 1) := by decide +kernel
theorem dX2_putInOrder_51 : decode cX2_putInOrder 51 = .ok (.getfield 24, 3) := by decide +kernel
theorem dX2_putInOrder_54 : decode cX2_putInOrder 54 = .ok (.iload_n 3, 1) := by decide +kernel
theorem dX2_putInOrder_55 : decode cX2_putInOrder 55 = .ok (.iload_n 1, 1) := by decide +kernel
theorem dX2_putInOrder_56 : decode cX2_putInOrder 56 = .ok (.iastore, 1) := by decide +kernel
theorem dX2_putInOrder_57 : decode cX2_putInOrder 57 = .ok (.return_, 1) := by decide +kernel
theorem dX2_setKeyword_0 : decode cX2_setKeyword 0 = .ok (.aload_n 0, 1) := by decide +kernel
theorem dX2_setKeyword_1 : decode cX2_setKeyword 1 = .ok (.iload_n 1, 1) := by decide +kernel
theorem dX2_setKeyword_2 : decode cX2_setKeyword 2 = .ok (.aload_n 0, 1) := by decide +kernel
theorem dX2_setKeyword_3 : decode cX2_setKeyword 3 = .ok (.iload_n 1, 1) := by decide +kernel
theorem dX2_setKeyword_4 : decode cX2_setKeyword 4 = .ok (.invokevirtual 38, 3) := by decide +kernel
theorem dX2_setKeyword_7 : decode cX2_setKeyword 7 = .ok (.aload_n 0, 1) := by decide +kernel
theorem dX2_setKeyword_8 : decode cX2_setKeyword 8 = .ok (.iload_n 1, 1) := by decide +kernel
theorem dX2_setKeyword_9 : decode cX2_setKeyword 9 = .ok (.invokevirtual 62, 3) := by decide +kernel
theorem dX2_setKeyword_12 : decode cX2_setKeyword 12 = .ok (.i2l, 1) := by decide +kernel
theorem dX2_setKeyword_13 : decode cX2_setKeyword 13 = .ok (.iload_n 2, 1) := by decide +kernel
theorem dX2_setKeyword_14 : decode cX2_setKeyword 14 = .ok (.iload_n 3, 1) := by decide +kernel
theorem dX2_setKeyword_15 : decode cX2_setKeyword 15 = .ok (.invokestatic 65, 3) := by decide +kernel
theorem dX2_setKeyword_18 : decode cX2_setKeyword 18 = .ok (.l2i, 1) := by decide +kernel
theorem dX2_setKeyword_19 : decode cX2_setKeyword 19 = .ok (.invokevirtual 50, 3) := by decide +kernel
theorem dX2_setKeyword_22 : decode cX2_setKeyword 22 = .ok (.ireturn, 1) := by decide +kernel
theorem dX2_change_0 : decode cX2_change 0 = .ok (.iload_n 1, 1) := by decide +kernel
theorem dX2_change_1 : decode cX2_change 1 = .ok (.iconst 0, 1) := by decide +kernel
theorem dX2_change_2 : decode cX2_change 2 = .ok (.bipush 59, 2) := by decide +kernel
theorem dX2_change_4 : decode cX2_change 4 = .ok (.invokestatic 34, 3) := by decide +kernel
theorem dX2_change_7 : decode cX2_change 7 = .ok (.ifCond .eq 23, 3) := by decide +kernel
theorem dX2_change_10 : decode cX2_change 10 = .ok (.aload_n 0, 1) := by decide +kernel
theorem dX2_change_11 : decode cX2_change 11 = .ok (.getfield 18, 3) := by decide +kernel
theorem dX2_change_14 : decode cX2_change 14 = .ok (.iload_n 1, 1) := by decide +kernel
theorem dX2_change_15 : decode cX2_change 15 = .ok (.iaload, 1) := by decide +kernel
theorem dX2_change_16 : decode cX2_change 16 = .ok (.iload_n 2, 1) := by decide +kernel
theorem dX2_change_17 : decode cX2_change 17 = .ok (.if_icmp .ne 15, 3) := by decide +kernel
theorem dX2_change_20 : decode cX2_change 20 = .ok (.aload_n 0, 1) := by decide +kernel
theorem dX2_change_21 : decode cX2_change 21 = .ok (.getfield 21, 3) := by decide +kernel
theorem dX2_change_24 : decode cX2_change 24 = .ok (.iload_n 1, 1) := by decide +kernel
theorem dX2_change_25 : decode cX2_change 25 = .ok (.iaload, 1) := by decide +kernel
theorem dX2_change_26 : decode cX2_change 26 = .ok (.iload_n 3, 1) := by decide +kernel
theorem dX2_change_27 : decode cX2_change 27 = .ok (.if_icmp .ne 5, 3) := by decide +kernel
theorem dX2_change_30 : decode cX2_change 30 = .ok (.iconst 0, 1) := by decide +kernel
theorem dX2_change_31 : decode cX2_change 31 = .ok (.ireturn, 1) := by decide +kernel
theorem dX2_change_32 : decode cX2_change 32 = .ok (.aload_n 0, 1) := by decide +kernel
theorem dX2_change_33 : decode cX2_change 33 = .ok (.getfield 30, 3) := by decide +kernel
theorem dX2_change_36 : decode cX2_change 36 = .ok (.iload_n 1, 1) := by decide +kernel
theorem dX2_change_37 : decode cX2_change 37 = .ok (.aload_n 0, 1) := by decide +kernel
theorem dX2_change_38 : decode cX2_change 38 = .ok (.getfield 18, 3) := by decide +kernel
theorem dX2_change_41 : decode cX2_change 41 = .ok (.iload_n 1, 1) := by decide +kernel
theorem dX2_change_42 : decode cX2_change 42 = .ok (.iaload, 1) := by decide +kernel
theorem dX2_change_43 : decode cX2_change 43 = .ok (.aload_n 0, 1) := by decide +kernel
theorem dX2_change_44 : decode cX2_change 44 = .ok (.getfield 21, 3) := by decide +kernel
theorem dX2_change_47 : decode cX2_change 47 = .ok (.iload_n 1, 1) := by decide +kernel
theorem dX2_change_48 : decode cX2_change 48 = .ok (.iaload, 1) := by decide +kernel
theorem dX2_change_49 : decode cX2_change 49 = .ok (.iload_n 3, 1) := by decide +kernel
theorem dX2_change_50 : decode cX2_change 50 = .ok (.invokevirtual 69, 3) := by decide +kernel
theorem dX2_change_53 : decode cX2_change 53 = .ok (.aload_n 0, 1) := by decide +kernel
theorem dX2_change_54 : decode cX2_change 54 = .ok (.getfield 18, 3) := by decide +kernel
theorem dX2_change_57 : decode cX2_change 57 = .ok (.iload_n 1, 1) := by decide +kernel
theorem dX2_change_58 : decode cX2_change 58 = .ok (.iload_n 2, 1) := by decide +kernel
theorem dX2_change_59 : decode cX2_change 59 = .ok (.iastore, 1) := by decide +kernel
theorem dX2_change_60 : decode cX2_change 60 = .ok (.aload_n 0, 1) := by decide +kernel
theorem dX2_change_61 : decode cX2_change 61 = .ok (.getfield 21, 3) := by decide +kernel
theorem dX2_change_64 : decode cX2_change 64 = .ok (.iload_n 1, 1) := by decide +kernel
theorem dX2_change_65 : decode cX2_change 65 = .ok (.iload_n 3, 1) := by decide +kernel
theorem dX2_change_66 : decode cX2_change 66 = .ok (.iastore, 1) := by decide +kernel
theorem dX2_change_67 : decode cX2_change 67 = .ok (.iconst 1, 1) := by decide +kernel
theorem dX2_change_68 : decode cX2_change 68 = .ok (.ireturn, 1) := by decide +kernel
theorem dX2_countThread_0 : decode cX2_countThread 0 = .ok (.iconst 0, 1) := by decide +kernel
theorem dX2_countThread_1 : decode cX2_countThread 1 = .ok (.istore_n 2, 1) := by decide +kernel
theorem dX2_countThread_2 : decode cX2_countThread 2 = .ok (.iconst 0, 1) := by decide +kernel
theorem dX2_countThread_3 : decode cX2_countThread 3 = .ok (.istore_n 3, 1) := by decide +kernel
theorem dX2_countThread_4 : decode cX2_countThread 4 = .ok (.iload_n 3, 1) := by decide +kernel
theorem dX2_countThread_5 : decode cX2_countThread 5 = .ok (.bipush 60, 2) := by decide +kernel
theorem dX2_countThread_7 : decode cX2_countThread 7 = .ok (.if_icmp .ge 30, 3) := by decide +kernel
theorem dX2_countThread_10 : decode cX2_countThread 10 = .ok (.aload_n 0, 1) := by decide +kernel
theorem dX2_countThread_11 : decode cX2_countThread 11 = .ok (.iload_n 3, 1) := by decide +kernel
theorem dX2_countThread_12 : decode cX2_countThread 12 = .ok (.invokevirtual 73, 3) := by decide +kernel
theorem dX2_countThread_15 : decode cX2_countThread 15 = .ok (.ifCond .eq 16, 3) := by decide +kernel
theorem dX2_countThread_18 : decode cX2_countThread 18 = .ok (.aload_n 0, 1) := by decide +kernel
theorem dX2_countThread_19 : decode cX2_countThread 19 = .ok (.getfield 15, 3) := by decide +kernel
theorem dX2_countThread_22 : decode cX2_countThread 22 = .ok (.iload_n 3, 1) := by decide +kernel
theorem dX2_countThread_23 : decode cX2_countThread 23 = .ok (.iaload, 1) := by decide +kernel
theorem dX2_countThread_24 : decode cX2_countThread 24 = .ok (.iload_n 1, 1) := by decide +kernel
theorem dX2_countThread_25 : decode cX2_countThread 25 = .ok (.if_icmp .ne 6, 3) := by decide +kernel
theorem dX2_countThread_28 : decode cX2_countThread 28 = .ok (.iinc 2 1, 3) := by decide +kernel
theorem dX2_countThread_31 : decode cX2_countThread 31 = .ok (.iinc 3 1, 3) := by decide +kernel
theorem dX2_countThread_34 : decode cX2_countThread 34 = .ok (.goto (-30), 3) := by decide +kernel
theorem dX2_countThread_37 : decode cX2_countThread 37 = .ok (.iload_n 2, 1) := by decide +kernel
theorem dX2_countThread_38 : decode cX2_countThread 38 = .ok (.ireturn, 1) := by decide +kernel
theorem dX2_matching_0 : decode cX2_matching 0 = .ok (.lconst 0, 1) := by decide +kernel
theorem dX2_matching_1 : decode cX2_matching 1 = .ok (.lstore_n 3, 1) := by decide +kernel
theorem dX2_matching_2 : decode cX2_matching 2 = .ok (.iconst 0, 1) := by decide +kernel
theorem dX2_matching_3 : decode cX2_matching 3 = .ok (.istore 5, 2) := by decide +kernel
theorem dX2_matching_5 : decode cX2_matching 5 = .ok (.iload 5, 2) := by decide +kernel
theorem dX2_matching_7 : decode cX2_matching 7 = .ok (.bipush 60, 2) := by decide +kernel
theorem dX2_matching_9 : decode cX2_matching 9 = .ok (.if_icmp .ge 35, 3) := by decide +kernel
theorem dX2_matching_12 : decode cX2_matching 12 = .ok (.lload_n 3, 1) := by decide +kernel
theorem dX2_matching_13 : decode cX2_matching 13 = .ok (.iload 5, 2) := by decide +kernel
theorem dX2_matching_15 : decode cX2_matching 15 = .ok (.aload_n 0, 1) := by decide +kernel
theorem dX2_matching_16 : decode cX2_matching 16 = .ok (.getfield 18, 3) := by decide +kernel
theorem dX2_matching_19 : decode cX2_matching 19 = .ok (.iload 5, 2) := by decide +kernel
theorem dX2_matching_21 : decode cX2_matching 21 = .ok (.iaload, 1) := by decide +kernel
theorem dX2_matching_22 : decode cX2_matching 22 = .ok (.aload_n 0, 1) := by decide +kernel
theorem dX2_matching_23 : decode cX2_matching 23 = .ok (.getfield 21, 3) := by decide +kernel
theorem dX2_matching_26 : decode cX2_matching 26 = .ok (.iload 5, 2) := by decide +kernel
theorem dX2_matching_28 : decode cX2_matching 28 = .ok (.iaload, 1) := by decide +kernel
theorem dX2_matching_29 : decode cX2_matching 29 = .ok (.iload_n 1, 1) := by decide +kernel
theorem dX2_matching_30 : decode cX2_matching 30 = .ok (.iload_n 2, 1) := by decide +kernel
theorem dX2_matching_31 : decode cX2_matching 31 = .ok (.invokestatic 77, 3) := by decide +kernel
theorem dX2_matching_34 : decode cX2_matching 34 = .ok (.invokestatic 65, 3) := by decide +kernel
theorem dX2_matching_37 : decode cX2_matching 37 = .ok (.lstore_n 3, 1) := by decide +kernel
theorem dX2_matching_38 : decode cX2_matching 38 = .ok (.iinc 5 1, 3) := by decide +kernel
theorem dX2_matching_41 : decode cX2_matching 41 = .ok (.goto (-36), 3) := by decide +kernel
theorem dX2_matching_44 : decode cX2_matching 44 = .ok (.lload_n 3, 1) := by decide +kernel
theorem dX2_matching_45 : decode cX2_matching 45 = .ok (.lreturn, 1) := by decide +kernel
theorem dX2_matchingAt_0 : decode cX2_matchingAt 0 = .ok (.aload_n 0, 1) := by decide +kernel
theorem dX2_matchingAt_1 : decode cX2_matchingAt 1 = .ok (.getfield 30, 3) := by decide +kernel
theorem dX2_matchingAt_4 : decode cX2_matchingAt 4 = .ok (.iload_n 1, 1) := by decide +kernel
theorem dX2_matchingAt_5 : decode cX2_matchingAt 5 = .ok (.aload_n 0, 1) := by decide +kernel
theorem dX2_matchingAt_6 : decode cX2_matchingAt 6 = .ok (.iload_n 2, 1) := by decide +kernel
theorem dX2_matchingAt_7 : decode cX2_matchingAt 7 = .ok (.iload_n 3, 1) := by decide +kernel
theorem dX2_matchingAt_8 : decode cX2_matchingAt 8 = .ok (.invokevirtual 81, 3) := by decide +kernel
theorem dX2_matchingAt_11 : decode cX2_matchingAt 11 = .ok (.iload_n 2, 1) := by decide +kernel
theorem dX2_matchingAt_12 : decode cX2_matchingAt 12 = .ok (.iload_n 3, 1) := by decide +kernel
theorem dX2_matchingAt_13 : decode cX2_matchingAt 13 = .ok (.invokevirtual 85, 3) := by decide +kernel
theorem dX2_matchingAt_16 : decode cX2_matchingAt 16 = .ok (.lreturn, 1) := by decide +kernel
theorem dX2_changedSince_0 : decode cX2_changedSince 0 = .ok (.aload_n 0, 1) := by decide +kernel
theorem dX2_changedSince_1 : decode cX2_changedSince 1 = .ok (.bipush 63, 2) := by decide +kernel
theorem dX2_changedSince_3 : decode cX2_changedSince 3 = .ok (.iconst 0, 1) := by decide +kernel
theorem dX2_changedSince_4 : decode cX2_changedSince 4 = .ok (.invokevirtual 81, 3) := by decide +kernel
theorem dX2_changedSince_7 : decode cX2_changedSince 7 = .ok (.lstore_n 3, 1) := by decide +kernel
theorem dX2_changedSince_8 : decode cX2_changedSince 8 = .ok (.aload_n 0, 1) := by decide +kernel
theorem dX2_changedSince_9 : decode cX2_changedSince 9 = .ok (.iload_n 1, 1) := by decide +kernel
theorem dX2_changedSince_10 : decode cX2_changedSince 10 = .ok (.bipush 63, 2) := by decide +kernel
theorem dX2_changedSince_12 : decode cX2_changedSince 12 = .ok (.iconst 0, 1) := by decide +kernel
theorem dX2_changedSince_13 : decode cX2_changedSince 13 = .ok (.invokevirtual 89, 3) := by decide +kernel
theorem dX2_changedSince_16 : decode cX2_changedSince 16 = .ok (.lstore 5, 2) := by decide +kernel
theorem dX2_changedSince_18 : decode cX2_changedSince 18 = .ok (.iload_n 2, 1) := by decide +kernel
theorem dX2_changedSince_19 : decode cX2_changedSince 19 = .ok (.ifCond .ne 12, 3) := by decide +kernel
theorem dX2_changedSince_22 : decode cX2_changedSince 22 = .ok (.lload_n 3, 1) := by decide +kernel
theorem dX2_changedSince_23 : decode cX2_changedSince 23 = .ok (.lload 5, 2) := by decide +kernel
theorem dX2_changedSince_25 : decode cX2_changedSince 25 = .ok (.ldc2_w 93, 3) := by decide +kernel
theorem dX2_changedSince_28 : decode cX2_changedSince 28 = .ok (.lxor, 1) := by decide +kernel
theorem dX2_changedSince_29 : decode cX2_changedSince 29 = .ok (.land, 1) := by decide +kernel
theorem dX2_changedSince_30 : decode cX2_changedSince 30 = .ok (.lreturn, 1) := by decide +kernel
theorem dX2_changedSince_31 : decode cX2_changedSince 31 = .ok (.iload_n 2, 1) := by decide +kernel
theorem dX2_changedSince_32 : decode cX2_changedSince 32 = .ok (.iconst 2, 1) := by decide +kernel
theorem dX2_changedSince_33 : decode cX2_changedSince 33 = .ok (.if_icmp .ne 12, 3) := by decide +kernel
theorem dX2_changedSince_36 : decode cX2_changedSince 36 = .ok (.lload 5, 2) := by decide +kernel
theorem dX2_changedSince_38 : decode cX2_changedSince 38 = .ok (.lload_n 3, 1) := by decide +kernel
theorem dX2_changedSince_39 : decode cX2_changedSince 39 = .ok (.ldc2_w 93, 3) := by decide +kernel
theorem dX2_changedSince_42 : decode cX2_changedSince 42 = .ok (.lxor, 1) := by decide +kernel
theorem dX2_changedSince_43 : decode cX2_changedSince 43 = .ok (.land, 1) := by decide +kernel
theorem dX2_changedSince_44 : decode cX2_changedSince 44 = .ok (.lreturn, 1) := by decide +kernel
theorem dX2_changedSince_45 : decode cX2_changedSince 45 = .ok (.lload_n 3, 1) := by decide +kernel
theorem dX2_changedSince_46 : decode cX2_changedSince 46 = .ok (.lload 5, 2) := by decide +kernel
theorem dX2_changedSince_48 : decode cX2_changedSince 48 = .ok (.land, 1) := by decide +kernel
theorem dX2_changedSince_49 : decode cX2_changedSince 49 = .ok (.aload_n 0, 1) := by decide +kernel
theorem dX2_changedSince_50 : decode cX2_changedSince 50 = .ok (.getfield 30, 3) := by decide +kernel
theorem dX2_changedSince_53 : decode cX2_changedSince 53 = .ok (.iload_n 1, 1) := by decide +kernel
theorem dX2_changedSince_54 : decode cX2_changedSince 54 = .ok (.invokevirtual 95, 3) := by decide +kernel
theorem dX2_changedSince_57 : decode cX2_changedSince 57 = .ok (.land, 1) := by decide +kernel
theorem dX2_changedSince_58 : decode cX2_changedSince 58 = .ok (.lreturn, 1) := by decide +kernel
theorem dX2_latestAt_0 : decode cX2_latestAt 0 = .ok (.iconst 0, 1) := by decide +kernel
theorem dX2_latestAt_1 : decode cX2_latestAt 1 = .ok (.istore 4, 2) := by decide +kernel
theorem dX2_latestAt_3 : decode cX2_latestAt 3 = .ok (.iconst 0, 1) := by decide +kernel
theorem dX2_latestAt_4 : decode cX2_latestAt 4 = .ok (.istore 5, 2) := by decide +kernel
theorem dX2_latestAt_6 : decode cX2_latestAt 6 = .ok (.iload 5, 2) := by decide +kernel
theorem dX2_latestAt_8 : decode cX2_latestAt 8 = .ok (.aload_n 0, 1) := by decide +kernel
theorem dX2_latestAt_9 : decode cX2_latestAt 9 = .ok (.getfield 42, 3) := by decide +kernel
theorem dX2_latestAt_12 : decode cX2_latestAt 12 = .ok (.if_icmp .ge 47, 3) := by decide +kernel
theorem dX2_latestAt_15 : decode cX2_latestAt 15 = .ok (.iload 5, 2) := by decide +kernel
theorem dX2_latestAt_17 : decode cX2_latestAt 17 = .ok (.bipush 60, 2) := by decide +kernel
theorem dX2_latestAt_19 : decode cX2_latestAt 19 = .ok (.if_icmp .ge 40, 3) := by decide +kernel
theorem dX2_latestAt_22 : decode cX2_latestAt 22 = .ok (.lload_n 1, 1) := by decide +kernel
theorem dX2_latestAt_23 : decode cX2_latestAt 23 = .ok (.aload_n 0, 1) := by decide +kernel
theorem dX2_latestAt_24 : decode cX2_latestAt 24 = .ok (.getfield 24, 3) := by decide +kernel
theorem dX2_latestAt_27 : decode cX2_latestAt 27 = .ok (.iload 5, 2) := by decide +kernel
theorem dX2_latestAt_29 : decode cX2_latestAt 29 = .ok (.iaload, 1) := by decide +kernel
theorem dX2_latestAt_30 : decode cX2_latestAt 30 = .ok (.invokestatic 99, 3) := by decide +kernel
theorem dX2_latestAt_33 : decode cX2_latestAt 33 = .ok (.ifCond .eq 20, 3) := by decide +kernel
theorem dX2_latestAt_36 : decode cX2_latestAt 36 = .ok (.iload 4, 2) := by decide +kernel
theorem dX2_latestAt_38 : decode cX2_latestAt 38 = .ok (.iload_n 3, 1) := by decide +kernel
theorem dX2_latestAt_39 : decode cX2_latestAt 39 = .ok (.if_icmp .ne 11, 3) := by decide +kernel
theorem dX2_latestAt_42 : decode cX2_latestAt 42 = .ok (.aload_n 0, 1) := by decide +kernel
theorem dX2_latestAt_43 : decode cX2_latestAt 43 = .ok (.getfield 24, 3) := by decide +kernel
theorem dX2_latestAt_46 : decode cX2_latestAt 46 = .ok (.iload 5, 2) := by decide +kernel
theorem dX2_latestAt_48 : decode cX2_latestAt 48 = .ok (.iaload, 1) := by decide +kernel
theorem dX2_latestAt_49 : decode cX2_latestAt 49 = .ok (.ireturn, 1) := by decide +kernel
theorem dX2_latestAt_50 : decode cX2_latestAt 50 = .ok (.iinc 4 1, 3) := by decide +kernel
theorem dX2_latestAt_53 : decode cX2_latestAt 53 = .ok (.iinc 5 1, 3) := by decide +kernel
theorem dX2_latestAt_56 : decode cX2_latestAt 56 = .ok (.goto (-50), 3) := by decide +kernel
theorem dX2_latestAt_59 : decode cX2_latestAt 59 = .ok (.iconst (-1), 1) := by decide +kernel
theorem dX2_latestAt_60 : decode cX2_latestAt 60 = .ok (.ireturn, 1) := by decide +kernel
theorem dX3_init_0 : decode cX3_init 0 = .ok (.aload_n 0, 1) := by decide +kernel
theorem dX3_init_1 : decode cX3_init 1 = .ok (.invokespecial 1, 3) := by decide +kernel
theorem dX3_init_4 : decode cX3_init 4 = .ok (.aload_n 0, 1) := by decide +kernel
theorem dX3_init_5 : decode cX3_init 5 = .ok (.new 7, 3) := by decide +kernel
theorem dX3_init_8 : decode cX3_init 8 = .ok (.dup, 1) := by decide +kernel
theorem dX3_init_9 : decode cX3_init 9 = .ok (.invokespecial 9, 3) := by decide +kernel
theorem dX3_init_12 : decode cX3_init 12 = .ok (.putfield 10, 3) := by decide +kernel
theorem dX3_init_15 : decode cX3_init 15 = .ok (.aload_n 0, 1) := by decide +kernel
theorem dX3_init_16 : decode cX3_init 16 = .ok (.new 16, 3) := by decide +kernel
theorem dX3_init_19 : decode cX3_init 19 = .ok (.dup, 1) := by decide +kernel
theorem dX3_init_20 : decode cX3_init 20 = .ok (.invokespecial 18, 3) := by decide +kernel
theorem dX3_init_23 : decode cX3_init 23 = .ok (.putfield 19, 3) := by decide +kernel
theorem dX3_init_26 : decode cX3_init 26 = .ok (.aload_n 0, 1) := by decide +kernel
theorem dX3_init_27 : decode cX3_init 27 = .ok (.new 16, 3) := by decide +kernel
theorem dX3_init_30 : decode cX3_init 30 = .ok (.dup, 1) := by decide +kernel
theorem dX3_init_31 : decode cX3_init 31 = .ok (.invokespecial 18, 3) := by decide +kernel
theorem dX3_init_34 : decode cX3_init 34 = .ok (.putfield 23, 3) := by decide +kernel
theorem dX3_init_37 : decode cX3_init 37 = .ok (.return_, 1) := by decide +kernel
theorem dX3_add_0 : decode cX3_add 0 = .ok (.iload_n 1, 1) := by decide +kernel
theorem dX3_add_1 : decode cX3_add 1 = .ok (.iconst 0, 1) := by decide +kernel
theorem dX3_add_2 : decode cX3_add 2 = .ok (.sipush 9999, 3) := by decide +kernel
theorem dX3_add_5 : decode cX3_add 5 = .ok (.invokestatic 26, 3) := by decide +kernel
theorem dX3_add_8 : decode cX3_add 8 = .ok (.ifCond .eq 17, 3) := by decide +kernel
theorem dX3_add_11 : decode cX3_add 11 = .ok (.iload_n 2, 1) := by decide +kernel
theorem dX3_add_12 : decode cX3_add 12 = .ok (.invokestatic 30, 3) := by decide +kernel
theorem dX3_add_15 : decode cX3_add 15 = .ok (.ifCond .eq 10, 3) := by decide +kernel
theorem dX3_add_18 : decode cX3_add 18 = .ok (.iload_n 3, 1) := by decide +kernel
theorem dX3_add_19 : decode cX3_add 19 = .ok (.invokestatic 34, 3) := by decide +kernel
theorem dX3_add_22 : decode cX3_add 22 = .ok (.ifCond .ne 13, 3) := by decide +kernel
theorem dX3_add_25 : decode cX3_add 25 = .ok (.new 37, 3) := by decide +kernel
theorem dX3_add_28 : decode cX3_add 28 = .ok (.dup, 1) := by decide +kernel
theorem dX3_add_29 : decode cX3_add 29 = .ok (.ldc 39, 2) := by decide +kernel
theorem dX3_add_31 : decode cX3_add 31 = .ok (.invokespecial 41, 3) := by decide +kernel
theorem dX3_add_34 : decode cX3_add 34 = .ok (.athrow, 1) := by decide +kernel
theorem dX3_add_35 : decode cX3_add 35 = .ok (.aload_n 0, 1) := by decide +kernel
theorem dX3_add_36 : decode cX3_add 36 = .ok (.getfield 10, 3) := by decide +kernel
theorem dX3_add_39 : decode cX3_add 39 = .ok (.getfield 44, 3) := by decide +kernel
theorem dX3_add_42 : decode cX3_add 42 = .ok (.bipush 60, 2) := by decide +kernel
theorem dX3_add_44 : decode cX3_add 44 = .ok (.if_icmp .lt 13, 3) := by decide +kernel
theorem dX3_add_47 : decode cX3_add 47 = .ok (.new 48, 3) := by decide +kernel
theorem dX3_add_50 : decode cX3_add 50 = .ok (.dup, 1) := by decide +kernel
theorem dX3_add_51 : decode cX3_add 51 = .ok (.ldc 50, 2) := by decide +kernel
theorem dX3_add_53 : decode cX3_add 53 = .ok (.invokespecial 52, 3) := by decide +kernel
theorem dX3_add_56 : decode cX3_add 56 = .ok (.athrow, 1) := by decide +kernel
theorem dX3_add_57 : decode cX3_add 57 = .ok (.aload_n 0, 1) := by decide +kernel
theorem dX3_add_58 : decode cX3_add 58 = .ok (.getfield 10, 3) := by decide +kernel
theorem dX3_add_61 : decode cX3_add 61 = .ok (.iload_n 1, 1) := by decide +kernel
theorem dX3_add_62 : decode cX3_add 62 = .ok (.iload_n 2, 1) := by decide +kernel
theorem dX3_add_63 : decode cX3_add 63 = .ok (.iload_n 3, 1) := by decide +kernel
theorem dX3_add_64 : decode cX3_add 64 = .ok (.invokevirtual 53, 3) := by decide +kernel
theorem dX3_add_67 : decode cX3_add 67 = .ok (.ireturn, 1) := by decide +kernel
theorem dX3_move_0 : decode cX3_move 0 = .ok (.aload_n 0, 1) := by decide +kernel
theorem dX3_move_1 : decode cX3_move 1 = .ok (.getfield 10, 3) := by decide +kernel
theorem dX3_move_4 : decode cX3_move 4 = .ok (.iload_n 1, 1) := by decide +kernel
theorem dX3_move_5 : decode cX3_move 5 = .ok (.invokevirtual 57, 3) := by decide +kernel
theorem dX3_move_8 : decode cX3_move 8 = .ok (.invokestatic 60, 3) := by decide +kernel
theorem dX3_move_11 : decode cX3_move 11 = .ok (.iload_n 2, 1) := by decide +kernel
theorem dX3_move_12 : decode cX3_move 12 = .ok (.invokestatic 30, 3) := by decide +kernel
theorem dX3_move_15 : decode cX3_move 15 = .ok (.ifCond .ne 13, 3) := by decide +kernel
theorem dX3_move_18 : decode cX3_move 18 = .ok (.new 37, 3) := by decide +kernel
theorem dX3_move_21 : decode cX3_move 21 = .ok (.dup, 1) := by decide +kernel
theorem dX3_move_22 : decode cX3_move 22 = .ok (.ldc 64, 2) := by decide +kernel
theorem dX3_move_24 : decode cX3_move 24 = .ok (.invokespecial 41, 3) := by decide +kernel
theorem dX3_move_27 : decode cX3_move 27 = .ok (.athrow, 1) := by decide +kernel
theorem dX3_move_28 : decode cX3_move 28 = .ok (.aload_n 0, 1) := by decide +kernel
theorem dX3_move_29 : decode cX3_move 29 = .ok (.getfield 10, 3) := by decide +kernel
theorem dX3_move_32 : decode cX3_move 32 = .ok (.iload_n 1, 1) := by decide +kernel
theorem dX3_move_33 : decode cX3_move 33 = .ok (.invokevirtual 66, 3) := by decide +kernel
theorem dX3_move_36 : decode cX3_move 36 = .ok (.istore_n 3, 1) := by decide +kernel
theorem dX3_move_37 : decode cX3_move 37 = .ok (.aload_n 0, 1) := by decide +kernel
theorem dX3_move_38 : decode cX3_move 38 = .ok (.getfield 10, 3) := by decide +kernel
theorem dX3_move_41 : decode cX3_move 41 = .ok (.iload_n 1, 1) := by decide +kernel
theorem dX3_move_42 : decode cX3_move 42 = .ok (.iload_n 2, 1) := by decide +kernel
theorem dX3_move_43 : decode cX3_move 43 = .ok (.aload_n 0, 1) := by decide +kernel
theorem dX3_move_44 : decode cX3_move 44 = .ok (.getfield 10, 3) := by decide +kernel
theorem dX3_move_47 : decode cX3_move 47 = .ok (.iload_n 1, 1) := by decide +kernel
theorem dX3_move_48 : decode cX3_move 48 = .ok (.invokevirtual 70, 3) := by decide +kernel
theorem dX3_move_51 : decode cX3_move 51 = .ok (.invokevirtual 73, 3) := by decide +kernel
theorem dX3_move_54 : decode cX3_move 54 = .ok (.pop, 1) := by decide +kernel
theorem dX3_move_55 : decode cX3_move 55 = .ok (.iload_n 3, 1) := by decide +kernel
theorem dX3_move_56 : decode cX3_move 56 = .ok (.ireturn, 1) := by decide +kernel
theorem dX3_flag_0 : decode cX3_flag 0 = .ok (.aload_n 0, 1) := by decide +kernel
theorem dX3_flag_1 : decode cX3_flag 1 = .ok (.getfield 10, 3) := by decide +kernel
theorem dX3_flag_4 : decode cX3_flag 4 = .ok (.iload_n 1, 1) := by decide +kernel
theorem dX3_flag_5 : decode cX3_flag 5 = .ok (.invokevirtual 57, 3) := by decide +kernel
theorem dX3_flag_8 : decode cX3_flag 8 = .ok (.invokestatic 60, 3) := by decide +kernel
theorem dX3_flag_11 : decode cX3_flag 11 = .ok (.iload_n 2, 1) := by decide +kernel
theorem dX3_flag_12 : decode cX3_flag 12 = .ok (.invokestatic 76, 3) := by decide +kernel
theorem dX3_flag_15 : decode cX3_flag 15 = .ok (.ifCond .ne 13, 3) := by decide +kernel
theorem dX3_flag_18 : decode cX3_flag 18 = .ok (.new 37, 3) := by decide +kernel
theorem dX3_flag_21 : decode cX3_flag 21 = .ok (.dup, 1) := by decide +kernel
theorem dX3_flag_22 : decode cX3_flag 22 = .ok (.ldc 79, 2) := by decide +kernel
theorem dX3_flag_24 : decode cX3_flag 24 = .ok (.invokespecial 41, 3) := by decide +kernel
theorem dX3_flag_27 : decode cX3_flag 27 = .ok (.athrow, 1) := by decide +kernel
theorem dX3_flag_28 : decode cX3_flag 28 = .ok (.aload_n 0, 1) := by decide +kernel
theorem dX3_flag_29 : decode cX3_flag 29 = .ok (.getfield 10, 3) := by decide +kernel
theorem dX3_flag_32 : decode cX3_flag 32 = .ok (.iload_n 1, 1) := by decide +kernel
theorem dX3_flag_33 : decode cX3_flag 33 = .ok (.iload_n 2, 1) := by decide +kernel
theorem dX3_flag_34 : decode cX3_flag 34 = .ok (.iload_n 3, 1) := by decide +kernel
theorem dX3_flag_35 : decode cX3_flag 35 = .ok (.invokevirtual 81, 3) := by decide +kernel
theorem dX3_flag_38 : decode cX3_flag 38 = .ok (.ireturn, 1) := by decide +kernel
theorem dX3_flagIf_0 : decode cX3_flagIf 0 = .ok (.aload_n 0, 1) := by decide +kernel
theorem dX3_flagIf_1 : decode cX3_flagIf 1 = .ok (.getfield 10, 3) := by decide +kernel
theorem dX3_flagIf_4 : decode cX3_flagIf 4 = .ok (.iload_n 1, 1) := by decide +kernel
theorem dX3_flagIf_5 : decode cX3_flagIf 5 = .ok (.invokevirtual 57, 3) := by decide +kernel
theorem dX3_flagIf_8 : decode cX3_flagIf 8 = .ok (.invokestatic 60, 3) := by decide +kernel
theorem dX3_flagIf_11 : decode cX3_flagIf 11 = .ok (.iload_n 2, 1) := by decide +kernel
theorem dX3_flagIf_12 : decode cX3_flagIf 12 = .ok (.invokestatic 76, 3) := by decide +kernel
theorem dX3_flagIf_15 : decode cX3_flagIf 15 = .ok (.ifCond .ne 13, 3) := by decide +kernel
theorem dX3_flagIf_18 : decode cX3_flagIf 18 = .ok (.new 37, 3) := by decide +kernel
theorem dX3_flagIf_21 : decode cX3_flagIf 21 = .ok (.dup, 1) := by decide +kernel
theorem dX3_flagIf_22 : decode cX3_flagIf 22 = .ok (.ldc 79, 2) := by decide +kernel
theorem dX3_flagIf_24 : decode cX3_flagIf 24 = .ok (.invokespecial 41, 3) := by decide +kernel
theorem dX3_flagIf_27 : decode cX3_flagIf 27 = .ok (.athrow, 1) := by decide +kernel
theorem dX3_flagIf_28 : decode cX3_flagIf 28 = .ok (.iload 4, 2) := by decide +kernel
theorem dX3_flagIf_30 : decode cX3_flagIf 30 = .ok (.aload_n 0, 1) := by decide +kernel
theorem dX3_flagIf_31 : decode cX3_flagIf 31 = .ok (.getfield 10, 3) := by decide +kernel
theorem dX3_flagIf_34 : decode cX3_flagIf 34 = .ok (.getfield 85, 3) := by decide +kernel
theorem dX3_flagIf_37 : decode cX3_flagIf 37 = .ok (.getfield 89, 3) := by decide +kernel
theorem dX3_flagIf_40 : decode cX3_flagIf 40 = .ok (.if_icmp .eq 13, 3) := by decide +kernel
theorem dX3_flagIf_43 : decode cX3_flagIf 43 = .ok (.new 48, 3) := by decide +kernel
theorem dX3_flagIf_46 : decode cX3_flagIf 46 = .ok (.dup, 1) := by decide +kernel
theorem dX3_flagIf_47 : decode cX3_flagIf 47 = .ok (.ldc 94, 2) := by decide +kernel
theorem dX3_flagIf_49 : decode cX3_flagIf 49 = .ok (.invokespecial 52, 3) := by decide +kernel
theorem dX3_flagIf_52 : decode cX3_flagIf 52 = .ok (.athrow, 1) := by decide +kernel
theorem dX3_flagIf_53 : decode cX3_flagIf 53 = .ok (.aload_n 0, 1) := by decide +kernel
theorem dX3_flagIf_54 : decode cX3_flagIf 54 = .ok (.getfield 10, 3) := by decide +kernel
theorem dX3_flagIf_57 : decode cX3_flagIf 57 = .ok (.iload_n 1, 1) := by decide +kernel
theorem dX3_flagIf_58 : decode cX3_flagIf 58 = .ok (.iload_n 2, 1) := by decide +kernel
theorem dX3_flagIf_59 : decode cX3_flagIf 59 = .ok (.iload_n 3, 1) := by decide +kernel
theorem dX3_flagIf_60 : decode cX3_flagIf 60 = .ok (.invokevirtual 81, 3) := by decide +kernel
theorem dX3_flagIf_63 : decode cX3_flagIf 63 = .ok (.ireturn, 1) := by decide +kernel
theorem dX3_destroy_0 : decode cX3_destroy 0 = .ok (.aload_n 0, 1) := by decide +kernel
theorem dX3_destroy_1 : decode cX3_destroy 1 = .ok (.getfield 10, 3) := by decide +kernel
theorem dX3_destroy_4 : decode cX3_destroy 4 = .ok (.iload_n 1, 1) := by decide +kernel
theorem dX3_destroy_5 : decode cX3_destroy 5 = .ok (.invokevirtual 57, 3) := by decide +kernel
theorem dX3_destroy_8 : decode cX3_destroy 8 = .ok (.invokestatic 60, 3) := by decide +kernel
theorem dX3_destroy_11 : decode cX3_destroy 11 = .ok (.aload_n 0, 1) := by decide +kernel
theorem dX3_destroy_12 : decode cX3_destroy 12 = .ok (.getfield 10, 3) := by decide +kernel
theorem dX3_destroy_15 : decode cX3_destroy 15 = .ok (.iload_n 1, 1) := by decide +kernel
theorem dX3_destroy_16 : decode cX3_destroy 16 = .ok (.iconst 0, 1) := by decide +kernel
theorem dX3_destroy_17 : decode cX3_destroy 17 = .ok (.aload_n 0, 1) := by decide +kernel
theorem dX3_destroy_18 : decode cX3_destroy 18 = .ok (.getfield 10, 3) := by decide +kernel
theorem dX3_destroy_21 : decode cX3_destroy 21 = .ok (.iload_n 1, 1) := by decide +kernel
theorem dX3_destroy_22 : decode cX3_destroy 22 = .ok (.invokevirtual 70, 3) := by decide +kernel
theorem dX3_destroy_25 : decode cX3_destroy 25 = .ok (.invokevirtual 73, 3) := by decide +kernel
theorem dX3_destroy_28 : decode cX3_destroy 28 = .ok (.pop, 1) := by decide +kernel
theorem dX3_destroy_29 : decode cX3_destroy 29 = .ok (.aload_n 0, 1) := by decide +kernel
theorem dX3_destroy_30 : decode cX3_destroy 30 = .ok (.getfield 10, 3) := by decide +kernel
theorem dX3_destroy_33 : decode cX3_destroy 33 = .ok (.getfield 85, 3) := by decide +kernel
theorem dX3_destroy_36 : decode cX3_destroy 36 = .ok (.getfield 89, 3) := by decide +kernel
theorem dX3_destroy_39 : decode cX3_destroy 39 = .ok (.ireturn, 1) := by decide +kernel
theorem dX3_state_0 : decode cX3_state 0 = .ok (.aload_n 0, 1) := by decide +kernel
theorem dX3_state_1 : decode cX3_state 1 = .ok (.getfield 10, 3) := by decide +kernel
theorem dX3_state_4 : decode cX3_state 4 = .ok (.getfield 85, 3) := by decide +kernel
theorem dX3_state_7 : decode cX3_state 7 = .ok (.getfield 89, 3) := by decide +kernel
theorem dX3_state_10 : decode cX3_state 10 = .ok (.ireturn, 1) := by decide +kernel
theorem dX3_mails_0 : decode cX3_mails 0 = .ok (.aload_n 0, 1) := by decide +kernel
theorem dX3_mails_1 : decode cX3_mails 1 = .ok (.getfield 10, 3) := by decide +kernel
theorem dX3_mails_4 : decode cX3_mails 4 = .ok (.bipush 63, 2) := by decide +kernel
theorem dX3_mails_6 : decode cX3_mails 6 = .ok (.iconst 0, 1) := by decide +kernel
theorem dX3_mails_7 : decode cX3_mails 7 = .ok (.invokevirtual 96, 3) := by decide +kernel
theorem dX3_mails_10 : decode cX3_mails 10 = .ok (.invokestatic 100, 3) := by decide +kernel
theorem dX3_mails_13 : decode cX3_mails 13 = .ok (.ireturn, 1) := by decide +kernel
theorem dX3_keywords_0 : decode cX3_keywords 0 = .ok (.aload_n 0, 1) := by decide +kernel
theorem dX3_keywords_1 : decode cX3_keywords 1 = .ok (.getfield 10, 3) := by decide +kernel
theorem dX3_keywords_4 : decode cX3_keywords 4 = .ok (.iload_n 1, 1) := by decide +kernel
theorem dX3_keywords_5 : decode cX3_keywords 5 = .ok (.invokevirtual 57, 3) := by decide +kernel
theorem dX3_keywords_8 : decode cX3_keywords 8 = .ok (.invokestatic 60, 3) := by decide +kernel
theorem dX3_keywords_11 : decode cX3_keywords 11 = .ok (.aload_n 0, 1) := by decide +kernel
theorem dX3_keywords_12 : decode cX3_keywords 12 = .ok (.getfield 10, 3) := by decide +kernel
theorem dX3_keywords_15 : decode cX3_keywords 15 = .ok (.iload_n 1, 1) := by decide +kernel
theorem dX3_keywords_16 : decode cX3_keywords 16 = .ok (.invokevirtual 70, 3) := by decide +kernel
theorem dX3_keywords_19 : decode cX3_keywords 19 = .ok (.ireturn, 1) := by decide +kernel
theorem dX3_inThread_0 : decode cX3_inThread 0 = .ok (.iload_n 1, 1) := by decide +kernel
theorem dX3_inThread_1 : decode cX3_inThread 1 = .ok (.invokestatic 34, 3) := by decide +kernel
theorem dX3_inThread_4 : decode cX3_inThread 4 = .ok (.ifCond .ne 13, 3) := by decide +kernel
theorem dX3_inThread_7 : decode cX3_inThread 7 = .ok (.new 37, 3) := by decide +kernel
theorem dX3_inThread_10 : decode cX3_inThread 10 = .ok (.dup, 1) := by decide +kernel
theorem dX3_inThread_11 : decode cX3_inThread 11 = .ok (.ldc 106, 2) := by decide +kernel
theorem dX3_inThread_13 : decode cX3_inThread 13 = .ok (.invokespecial 41, 3) := by decide +kernel
theorem dX3_inThread_16 : decode cX3_inThread 16 = .ok (.athrow, 1) := by decide +kernel
theorem dX3_inThread_17 : decode cX3_inThread 17 = .ok (.aload_n 0, 1) := by decide +kernel
theorem dX3_inThread_18 : decode cX3_inThread 18 = .ok (.getfield 10, 3) := by decide +kernel
theorem dX3_inThread_21 : decode cX3_inThread 21 = .ok (.iload_n 1, 1) := by decide +kernel
theorem dX3_inThread_22 : decode cX3_inThread 22 = .ok (.invokevirtual 108, 3) := by decide +kernel
theorem dX3_inThread_25 : decode cX3_inThread 25 = .ok (.ireturn, 1) := by decide +kernel
theorem dX3_share_0 : decode cX3_share 0 = .ok (.iload_n 1, 1) := by decide +kernel
theorem dX3_share_1 : decode cX3_share 1 = .ok (.invokestatic 111, 3) := by decide +kernel
theorem dX3_share_4 : decode cX3_share 4 = .ok (.ifCond .eq 10, 3) := by decide +kernel
theorem dX3_share_7 : decode cX3_share 7 = .ok (.iload_n 2, 1) := by decide +kernel
theorem dX3_share_8 : decode cX3_share 8 = .ok (.invokestatic 76, 3) := by decide +kernel
theorem dX3_share_11 : decode cX3_share 11 = .ok (.ifCond .ne 13, 3) := by decide +kernel
theorem dX3_share_14 : decode cX3_share 14 = .ok (.new 37, 3) := by decide +kernel
theorem dX3_share_17 : decode cX3_share 17 = .ok (.dup, 1) := by decide +kernel
theorem dX3_share_18 : decode cX3_share 18 = .ok (.ldc 114, 2) := by decide +kernel
theorem dX3_share_20 : decode cX3_share 20 = .ok (.invokespecial 41, 3) := by decide +kernel
theorem dX3_share_23 : decode cX3_share 23 = .ok (.athrow, 1) := by decide +kernel
theorem dX3_share_24 : decode cX3_share 24 = .ok (.aload_n 0, 1) := by decide +kernel
theorem dX3_share_25 : decode cX3_share 25 = .ok (.getfield 10, 3) := by decide +kernel
theorem dX3_share_28 : decode cX3_share 28 = .ok (.iconst 1, 1) := by decide +kernel
theorem dX3_share_29 : decode cX3_share 29 = .ok (.iload_n 1, 1) := by decide +kernel
theorem dX3_share_30 : decode cX3_share 30 = .ok (.ishl, 1) := by decide +kernel
theorem dX3_share_31 : decode cX3_share 31 = .ok (.iconst 0, 1) := by decide +kernel
theorem dX3_share_32 : decode cX3_share 32 = .ok (.invokevirtual 96, 3) := by decide +kernel
theorem dX3_share_35 : decode cX3_share 35 = .ok (.invokestatic 100, 3) := by decide +kernel
theorem dX3_share_38 : decode cX3_share 38 = .ok (.istore_n 3, 1) := by decide +kernel
theorem dX3_share_39 : decode cX3_share 39 = .ok (.iload_n 3, 1) := by decide +kernel
theorem dX3_share_40 : decode cX3_share 40 = .ok (.ifCond .ne 5, 3) := by decide +kernel
theorem dX3_share_43 : decode cX3_share 43 = .ok (.fconst 0, 1) := by decide +kernel
theorem dX3_share_44 : decode cX3_share 44 = .ok (.freturn, 1) := by decide +kernel
theorem dX3_share_45 : decode cX3_share 45 = .ok (.aload_n 0, 1) := by decide +kernel
theorem dX3_share_46 : decode cX3_share 46 = .ok (.getfield 10, 3) := by decide +kernel
theorem dX3_share_49 : decode cX3_share 49 = .ok (.iconst 1, 1) := by decide +kernel
theorem dX3_share_50 : decode cX3_share 50 = .ok (.iload_n 1, 1) := by decide +kernel
theorem dX3_share_51 : decode cX3_share 51 = .ok (.ishl, 1) := by decide +kernel
theorem dX3_share_52 : decode cX3_share 52 = .ok (.iconst 1, 1) := by decide +kernel
theorem dX3_share_53 : decode cX3_share 53 = .ok (.iload_n 2, 1) := by decide +kernel
theorem dX3_share_54 : decode cX3_share 54 = .ok (.ishl, 1) := by decide +kernel
theorem dX3_share_55 : decode cX3_share 55 = .ok (.invokevirtual 96, 3) := by decide +kernel
theorem dX3_share_58 : decode cX3_share 58 = .ok (.invokestatic 100, 3) := by decide +kernel
theorem dX3_share_61 : decode cX3_share 61 = .ok (.istore 4, 2) := by decide +kernel
theorem dX3_share_63 : decode cX3_share 63 = .ok (.iload 4, 2) := by decide +kernel
theorem dX3_share_65 : decode cX3_share 65 = .ok (.i2f, 1) := by decide +kernel
theorem dX3_share_66 : decode cX3_share 66 = .ok (.iload_n 3, 1) := by decide +kernel
theorem dX3_share_67 : decode cX3_share 67 = .ok (.i2f, 1) := by decide +kernel
theorem dX3_share_68 : decode cX3_share 68 = .ok (.fdiv, 1) := by decide +kernel
theorem dX3_share_69 : decode cX3_share 69 = .ok (.freturn, 1) := by decide +kernel
theorem dX3_canTell_0 : decode cX3_canTell 0 = .ok (.aload_n 0, 1) := by decide +kernel
theorem dX3_canTell_1 : decode cX3_canTell 1 = .ok (.iload_n 1, 1) := by decide +kernel
theorem dX3_canTell_2 : decode cX3_canTell 2 = .ok (.invokevirtual 116, 3) := by decide +kernel
theorem dX3_canTell_5 : decode cX3_canTell 5 = .ok (.ifCond .ne 13, 3) := by decide +kernel
theorem dX3_canTell_8 : decode cX3_canTell 8 = .ok (.new 37, 3) := by decide +kernel
theorem dX3_canTell_11 : decode cX3_canTell 11 = .ok (.dup, 1) := by decide +kernel
theorem dX3_canTell_12 : decode cX3_canTell 12 = .ok (.ldc 119, 2) := by decide +kernel
theorem dX3_canTell_14 : decode cX3_canTell 14 = .ok (.invokespecial 41, 3) := by decide +kernel
theorem dX3_canTell_17 : decode cX3_canTell 17 = .ok (.athrow, 1) := by decide +kernel
theorem dX3_canTell_18 : decode cX3_canTell 18 = .ok (.aload_n 0, 1) := by decide +kernel
theorem dX3_canTell_19 : decode cX3_canTell 19 = .ok (.getfield 10, 3) := by decide +kernel
theorem dX3_canTell_22 : decode cX3_canTell 22 = .ok (.getfield 85, 3) := by decide +kernel
theorem dX3_canTell_25 : decode cX3_canTell 25 = .ok (.iload_n 1, 1) := by decide +kernel
theorem dX3_canTell_26 : decode cX3_canTell 26 = .ok (.invokevirtual 121, 3) := by decide +kernel
theorem dX3_canTell_29 : decode cX3_canTell 29 = .ok (.ireturn, 1) := by decide +kernel
theorem dX3_changed_0 : decode cX3_changed 0 = .ok (.aload_n 0, 1) := by decide +kernel
theorem dX3_changed_1 : decode cX3_changed 1 = .ok (.iload_n 1, 1) := by decide +kernel
theorem dX3_changed_2 : decode cX3_changed 2 = .ok (.invokevirtual 116, 3) := by decide +kernel
theorem dX3_changed_5 : decode cX3_changed 5 = .ok (.ifCond .eq 10, 3) := by decide +kernel
theorem dX3_changed_8 : decode cX3_changed 8 = .ok (.iload_n 2, 1) := by decide +kernel
theorem dX3_changed_9 : decode cX3_changed 9 = .ok (.invokestatic 124, 3) := by decide +kernel
theorem dX3_changed_12 : decode cX3_changed 12 = .ok (.ifCond .ne 13, 3) := by decide +kernel
theorem dX3_changed_15 : decode cX3_changed 15 = .ok (.new 37, 3) := by decide +kernel
theorem dX3_changed_18 : decode cX3_changed 18 = .ok (.dup, 1) := by decide +kernel
theorem dX3_changed_19 : decode cX3_changed 19 = .ok (.ldc 127, 2) := by decide +kernel
theorem dX3_changed_21 : decode cX3_changed 21 = .ok (.invokespecial 41, 3) := by decide +kernel
theorem dX3_changed_24 : decode cX3_changed 24 = .ok (.athrow, 1) := by decide +kernel
theorem dX3_changed_25 : decode cX3_changed 25 = .ok (.aload_n 0, 1) := by decide +kernel
theorem dX3_changed_26 : decode cX3_changed 26 = .ok (.iload_n 1, 1) := by decide +kernel
theorem dX3_changed_27 : decode cX3_changed 27 = .ok (.invokevirtual 129, 3) := by decide +kernel
theorem dX3_changed_30 : decode cX3_changed 30 = .ok (.aload_n 0, 1) := by decide +kernel
theorem dX3_changed_31 : decode cX3_changed 31 = .ok (.getfield 10, 3) := by decide +kernel
theorem dX3_changed_34 : decode cX3_changed 34 = .ok (.iload_n 1, 1) := by decide +kernel
theorem dX3_changed_35 : decode cX3_changed 35 = .ok (.iload_n 2, 1) := by decide +kernel
theorem dX3_changed_36 : decode cX3_changed 36 = .ok (.invokevirtual 133, 3) := by decide +kernel
theorem dX3_changed_39 : decode cX3_changed 39 = .ok (.invokestatic 100, 3) := by decide +kernel
theorem dX3_changed_42 : decode cX3_changed 42 = .ok (.ireturn, 1) := by decide +kernel
theorem dX3_changedAt_0 : decode cX3_changedAt 0 = .ok (.aload_n 0, 1) := by decide +kernel
theorem dX3_changedAt_1 : decode cX3_changedAt 1 = .ok (.iload_n 1, 1) := by decide +kernel
theorem dX3_changedAt_2 : decode cX3_changedAt 2 = .ok (.invokevirtual 116, 3) := by decide +kernel
theorem dX3_changedAt_5 : decode cX3_changedAt 5 = .ok (.ifCond .eq 10, 3) := by decide +kernel
theorem dX3_changedAt_8 : decode cX3_changedAt 8 = .ok (.iload_n 2, 1) := by decide +kernel
theorem dX3_changedAt_9 : decode cX3_changedAt 9 = .ok (.invokestatic 124, 3) := by decide +kernel
theorem dX3_changedAt_12 : decode cX3_changedAt 12 = .ok (.ifCond .ne 13, 3) := by decide +kernel
theorem dX3_changedAt_15 : decode cX3_changedAt 15 = .ok (.new 37, 3) := by decide +kernel
theorem dX3_changedAt_18 : decode cX3_changedAt 18 = .ok (.dup, 1) := by decide +kernel
theorem dX3_changedAt_19 : decode cX3_changedAt 19 = .ok (.ldc 127, 2) := by decide +kernel
theorem dX3_changedAt_21 : decode cX3_changedAt 21 = .ok (.invokespecial 41, 3) := by decide +kernel
theorem dX3_changedAt_24 : decode cX3_changedAt 24 = .ok (.athrow, 1) := by decide +kernel
theorem dX3_changedAt_25 : decode cX3_changedAt 25 = .ok (.aload_n 0, 1) := by decide +kernel
theorem dX3_changedAt_26 : decode cX3_changedAt 26 = .ok (.iload_n 1, 1) := by decide +kernel
theorem dX3_changedAt_27 : decode cX3_changedAt 27 = .ok (.invokevirtual 129, 3) := by decide +kernel
theorem dX3_changedAt_30 : decode cX3_changedAt 30 = .ok (.aload_n 0, 1) := by decide +kernel
theorem dX3_changedAt_31 : decode cX3_changedAt 31 = .ok (.getfield 10, 3) := by decide +kernel
theorem dX3_changedAt_34 : decode cX3_changedAt 34 = .ok (.iload_n 1, 1) := by decide +kernel
theorem dX3_changedAt_35 : decode cX3_changedAt 35 = .ok (.iload_n 2, 1) := by decide +kernel
theorem dX3_changedAt_36 : decode cX3_changedAt 36 = .ok (.invokevirtual 133, 3) := by decide +kernel
theorem dX3_changedAt_39 : decode cX3_changedAt 39 = .ok (.iload_n 3, 1) := by decide +kernel
theorem dX3_changedAt_40 : decode cX3_changedAt 40 = .ok (.invokestatic 136, 3) := by decide +kernel
theorem dX3_changedAt_43 : decode cX3_changedAt 43 = .ok (.istore 4, 2) := by decide +kernel
theorem dX3_changedAt_45 : decode cX3_changedAt 45 = .ok (.iload 4, 2) := by decide +kernel
theorem dX3_changedAt_47 : decode cX3_changedAt 47 = .ok (.iconst (-1), 1) := by decide +kernel
theorem dX3_changedAt_48 : decode cX3_changedAt 48 = .ok (.if_icmp .eq 7, 3) := by decide +kernel
theorem dX3_changedAt_51 : decode cX3_changedAt 51 = .ok (.iconst 1, 1) := by decide +kernel
theorem dX3_changedAt_52 : decode cX3_changedAt 52 = .ok (.goto 4, 3) := by decide +kernel
theorem dX3_changedAt_55 : decode cX3_changedAt 55 = .ok (.iconst 0, 1) := by decide +kernel
theorem dX3_changedAt_56 : decode cX3_changedAt 56 = .ok (.invokestatic 60, 3) := by decide +kernel
theorem dX3_changedAt_59 : decode cX3_changedAt 59 = .ok (.iload 4, 2) := by decide +kernel
theorem dX3_changedAt_61 : decode cX3_changedAt 61 = .ok (.ireturn, 1) := by decide +kernel
theorem dX3_page_0 : decode cX3_page 0 = .ok (.aload_n 0, 1) := by decide +kernel
theorem dX3_page_1 : decode cX3_page 1 = .ok (.iload_n 1, 1) := by decide +kernel
theorem dX3_page_2 : decode cX3_page 2 = .ok (.invokevirtual 116, 3) := by decide +kernel
theorem dX3_page_5 : decode cX3_page 5 = .ok (.ifCond .eq 13, 3) := by decide +kernel
theorem dX3_page_8 : decode cX3_page 8 = .ok (.iload_n 2, 1) := by decide +kernel
theorem dX3_page_9 : decode cX3_page 9 = .ok (.iconst 1, 1) := by decide +kernel
theorem dX3_page_10 : decode cX3_page 10 = .ok (.bipush 20, 2) := by decide +kernel
theorem dX3_page_12 : decode cX3_page 12 = .ok (.invokestatic 26, 3) := by decide +kernel
theorem dX3_page_15 : decode cX3_page 15 = .ok (.ifCond .ne 13, 3) := by decide +kernel
theorem dX3_page_18 : decode cX3_page 18 = .ok (.new 37, 3) := by decide +kernel
theorem dX3_page_21 : decode cX3_page 21 = .ok (.dup, 1) := by decide +kernel
theorem dX3_page_22 : decode cX3_page 22 = .ok (.ldc 140, 2) := by decide +kernel
theorem dX3_page_24 : decode cX3_page 24 = .ok (.invokespecial 41, 3) := by decide +kernel
theorem dX3_page_27 : decode cX3_page 27 = .ok (.athrow, 1) := by decide +kernel
theorem dX3_page_28 : decode cX3_page 28 = .ok (.aload_n 0, 1) := by decide +kernel
theorem dX3_page_29 : decode cX3_page 29 = .ok (.iload_n 1, 1) := by decide +kernel
theorem dX3_page_30 : decode cX3_page 30 = .ok (.invokevirtual 129, 3) := by decide +kernel
theorem dX3_page_33 : decode cX3_page 33 = .ok (.aload_n 0, 1) := by decide +kernel
theorem dX3_page_34 : decode cX3_page 34 = .ok (.getfield 10, 3) := by decide +kernel
theorem dX3_page_37 : decode cX3_page 37 = .ok (.getfield 85, 3) := by decide +kernel
theorem dX3_page_40 : decode cX3_page 40 = .ok (.iload_n 1, 1) := by decide +kernel
theorem dX3_page_41 : decode cX3_page 41 = .ok (.iload_n 2, 1) := by decide +kernel
theorem dX3_page_42 : decode cX3_page 42 = .ok (.invokevirtual 142, 3) := by decide +kernel
theorem dX3_page_45 : decode cX3_page 45 = .ok (.ireturn, 1) := by decide +kernel
theorem dX3_found_0 : decode cX3_found 0 = .ok (.iload_n 1, 1) := by decide +kernel
theorem dX3_found_1 : decode cX3_found 1 = .ok (.invokestatic 111, 3) := by decide +kernel
theorem dX3_found_4 : decode cX3_found 4 = .ok (.ifCond .eq 10, 3) := by decide +kernel
theorem dX3_found_7 : decode cX3_found 7 = .ok (.iload_n 2, 1) := by decide +kernel
theorem dX3_found_8 : decode cX3_found 8 = .ok (.invokestatic 146, 3) := by decide +kernel
theorem dX3_found_11 : decode cX3_found 11 = .ok (.ifCond .ne 13, 3) := by decide +kernel
theorem dX3_found_14 : decode cX3_found 14 = .ok (.new 37, 3) := by decide +kernel
theorem dX3_found_17 : decode cX3_found 17 = .ok (.dup, 1) := by decide +kernel
theorem dX3_found_18 : decode cX3_found 18 = .ok (.ldc 114, 2) := by decide +kernel
theorem dX3_found_20 : decode cX3_found 20 = .ok (.invokespecial 41, 3) := by decide +kernel
theorem dX3_found_23 : decode cX3_found 23 = .ok (.athrow, 1) := by decide +kernel
theorem dX3_found_24 : decode cX3_found 24 = .ok (.aload_n 0, 1) := by decide +kernel
theorem dX3_found_25 : decode cX3_found 25 = .ok (.getfield 10, 3) := by decide +kernel
theorem dX3_found_28 : decode cX3_found 28 = .ok (.iconst 1, 1) := by decide +kernel
theorem dX3_found_29 : decode cX3_found 29 = .ok (.iload_n 1, 1) := by decide +kernel
theorem dX3_found_30 : decode cX3_found 30 = .ok (.ishl, 1) := by decide +kernel
theorem dX3_found_31 : decode cX3_found 31 = .ok (.iload_n 2, 1) := by decide +kernel
theorem dX3_found_32 : decode cX3_found 32 = .ok (.invokestatic 149, 3) := by decide +kernel
theorem dX3_found_35 : decode cX3_found 35 = .ok (.invokevirtual 96, 3) := by decide +kernel
theorem dX3_found_38 : decode cX3_found 38 = .ok (.invokestatic 100, 3) := by decide +kernel
theorem dX3_found_41 : decode cX3_found 41 = .ok (.ireturn, 1) := by decide +kernel
theorem dX3_foundAt_0 : decode cX3_foundAt 0 = .ok (.iload_n 1, 1) := by decide +kernel
theorem dX3_foundAt_1 : decode cX3_foundAt 1 = .ok (.invokestatic 111, 3) := by decide +kernel
theorem dX3_foundAt_4 : decode cX3_foundAt 4 = .ok (.ifCond .eq 10, 3) := by decide +kernel
theorem dX3_foundAt_7 : decode cX3_foundAt 7 = .ok (.iload_n 2, 1) := by decide +kernel
theorem dX3_foundAt_8 : decode cX3_foundAt 8 = .ok (.invokestatic 146, 3) := by decide +kernel
theorem dX3_foundAt_11 : decode cX3_foundAt 11 = .ok (.ifCond .ne 13, 3) := by decide +kernel
theorem dX3_foundAt_14 : decode cX3_foundAt 14 = .ok (.new 37, 3) := by decide +kernel
theorem dX3_foundAt_17 : decode cX3_foundAt 17 = .ok (.dup, 1) := by decide +kernel
theorem dX3_foundAt_18 : decode cX3_foundAt 18 = .ok (.ldc 114, 2) := by decide +kernel
theorem dX3_foundAt_20 : decode cX3_foundAt 20 = .ok (.invokespecial 41, 3) := by decide +kernel
theorem dX3_foundAt_23 : decode cX3_foundAt 23 = .ok (.athrow, 1) := by decide +kernel
theorem dX3_foundAt_24 : decode cX3_foundAt 24 = .ok (.aload_n 0, 1) := by decide +kernel
theorem dX3_foundAt_25 : decode cX3_foundAt 25 = .ok (.getfield 10, 3) := by decide +kernel
theorem dX3_foundAt_28 : decode cX3_foundAt 28 = .ok (.aload_n 0, 1) := by decide +kernel
theorem dX3_foundAt_29 : decode cX3_foundAt 29 = .ok (.getfield 10, 3) := by decide +kernel
theorem dX3_foundAt_32 : decode cX3_foundAt 32 = .ok (.iconst 1, 1) := by decide +kernel
theorem dX3_foundAt_33 : decode cX3_foundAt 33 = .ok (.iload_n 1, 1) := by decide +kernel
theorem dX3_foundAt_34 : decode cX3_foundAt 34 = .ok (.ishl, 1) := by decide +kernel
theorem dX3_foundAt_35 : decode cX3_foundAt 35 = .ok (.iload_n 2, 1) := by decide +kernel
theorem dX3_foundAt_36 : decode cX3_foundAt 36 = .ok (.invokestatic 149, 3) := by decide +kernel
theorem dX3_foundAt_39 : decode cX3_foundAt 39 = .ok (.invokevirtual 96, 3) := by decide +kernel
theorem dX3_foundAt_42 : decode cX3_foundAt 42 = .ok (.iload_n 3, 1) := by decide +kernel
theorem dX3_foundAt_43 : decode cX3_foundAt 43 = .ok (.invokevirtual 152, 3) := by decide +kernel
theorem dX3_foundAt_46 : decode cX3_foundAt 46 = .ok (.istore 4, 2) := by decide +kernel
theorem dX3_foundAt_48 : decode cX3_foundAt 48 = .ok (.iload 4, 2) := by decide +kernel
theorem dX3_foundAt_50 : decode cX3_foundAt 50 = .ok (.iconst (-1), 1) := by decide +kernel
theorem dX3_foundAt_51 : decode cX3_foundAt 51 = .ok (.if_icmp .eq 7, 3) := by decide +kernel
theorem dX3_foundAt_54 : decode cX3_foundAt 54 = .ok (.iconst 1, 1) := by decide +kernel
theorem dX3_foundAt_55 : decode cX3_foundAt 55 = .ok (.goto 4, 3) := by decide +kernel
theorem dX3_foundAt_58 : decode cX3_foundAt 58 = .ok (.iconst 0, 1) := by decide +kernel
theorem dX3_foundAt_59 : decode cX3_foundAt 59 = .ok (.invokestatic 60, 3) := by decide +kernel
theorem dX3_foundAt_62 : decode cX3_foundAt 62 = .ok (.iload 4, 2) := by decide +kernel
theorem dX3_foundAt_64 : decode cX3_foundAt 64 = .ok (.ireturn, 1) := by decide +kernel
theorem dX3_removed_0 : decode cX3_removed 0 = .ok (.aload_n 0, 1) := by decide +kernel
theorem dX3_removed_1 : decode cX3_removed 1 = .ok (.iload_n 1, 1) := by decide +kernel
theorem dX3_removed_2 : decode cX3_removed 2 = .ok (.invokevirtual 116, 3) := by decide +kernel
theorem dX3_removed_5 : decode cX3_removed 5 = .ok (.ifCond .eq 17, 3) := by decide +kernel
theorem dX3_removed_8 : decode cX3_removed 8 = .ok (.iload_n 2, 1) := by decide +kernel
theorem dX3_removed_9 : decode cX3_removed 9 = .ok (.invokestatic 111, 3) := by decide +kernel
theorem dX3_removed_12 : decode cX3_removed 12 = .ok (.ifCond .eq 10, 3) := by decide +kernel
theorem dX3_removed_15 : decode cX3_removed 15 = .ok (.iload_n 3, 1) := by decide +kernel
theorem dX3_removed_16 : decode cX3_removed 16 = .ok (.invokestatic 146, 3) := by decide +kernel
theorem dX3_removed_19 : decode cX3_removed 19 = .ok (.ifCond .ne 13, 3) := by decide +kernel
theorem dX3_removed_22 : decode cX3_removed 22 = .ok (.new 37, 3) := by decide +kernel
theorem dX3_removed_25 : decode cX3_removed 25 = .ok (.dup, 1) := by decide +kernel
theorem dX3_removed_26 : decode cX3_removed 26 = .ok (.ldc 155, 2) := by decide +kernel
theorem dX3_removed_28 : decode cX3_removed 28 = .ok (.invokespecial 41, 3) := by decide +kernel
theorem dX3_removed_31 : decode cX3_removed 31 = .ok (.athrow, 1) := by decide +kernel
theorem dX3_removed_32 : decode cX3_removed 32 = .ok (.aload_n 0, 1) := by decide +kernel
theorem dX3_removed_33 : decode cX3_removed 33 = .ok (.iload_n 1, 1) := by decide +kernel
theorem dX3_removed_34 : decode cX3_removed 34 = .ok (.invokevirtual 129, 3) := by decide +kernel
theorem dX3_removed_37 : decode cX3_removed 37 = .ok (.aload_n 0, 1) := by decide +kernel
theorem dX3_removed_38 : decode cX3_removed 38 = .ok (.getfield 10, 3) := by decide +kernel
theorem dX3_removed_41 : decode cX3_removed 41 = .ok (.iload_n 1, 1) := by decide +kernel
theorem dX3_removed_42 : decode cX3_removed 42 = .ok (.iconst 1, 1) := by decide +kernel
theorem dX3_removed_43 : decode cX3_removed 43 = .ok (.iload_n 2, 1) := by decide +kernel
theorem dX3_removed_44 : decode cX3_removed 44 = .ok (.ishl, 1) := by decide +kernel
theorem dX3_removed_45 : decode cX3_removed 45 = .ok (.iload_n 3, 1) := by decide +kernel
theorem dX3_removed_46 : decode cX3_removed 46 = .ok (.invokestatic 149, 3) := by decide +kernel
theorem dX3_removed_49 : decode cX3_removed 49 = .ok (.invokevirtual 157, 3) := by decide +kernel
theorem dX3_removed_52 : decode cX3_removed 52 = .ok (.lstore 4, 2) := by decide +kernel
theorem dX3_removed_54 : decode cX3_removed 54 = .ok (.lload 4, 2) := by decide +kernel
theorem dX3_removed_56 : decode cX3_removed 56 = .ok (.aload_n 0, 1) := by decide +kernel
theorem dX3_removed_57 : decode cX3_removed 57 = .ok (.getfield 10, 3) := by decide +kernel
theorem dX3_removed_60 : decode cX3_removed 60 = .ok (.iconst 1, 1) := by decide +kernel
theorem dX3_removed_61 : decode cX3_removed 61 = .ok (.iload_n 2, 1) := by decide +kernel
theorem dX3_removed_62 : decode cX3_removed 62 = .ok (.ishl, 1) := by decide +kernel
theorem dX3_removed_63 : decode cX3_removed 63 = .ok (.iload_n 3, 1) := by decide +kernel
theorem dX3_removed_64 : decode cX3_removed 64 = .ok (.invokestatic 149, 3) := by decide +kernel
theorem dX3_removed_67 : decode cX3_removed 67 = .ok (.invokevirtual 96, 3) := by decide +kernel
theorem dX3_removed_70 : decode cX3_removed 70 = .ok (.ldc2_w 161, 3) := by decide +kernel
theorem dX3_removed_73 : decode cX3_removed 73 = .ok (.lxor, 1) := by decide +kernel
theorem dX3_removed_74 : decode cX3_removed 74 = .ok (.land, 1) := by decide +kernel
theorem dX3_removed_75 : decode cX3_removed 75 = .ok (.invokestatic 100, 3) := by decide +kernel
theorem dX3_removed_78 : decode cX3_removed 78 = .ok (.ireturn, 1) := by decide +kernel
theorem dX3_added_0 : decode cX3_added 0 = .ok (.aload_n 0, 1) := by decide +kernel
theorem dX3_added_1 : decode cX3_added 1 = .ok (.iload_n 1, 1) := by decide +kernel
theorem dX3_added_2 : decode cX3_added 2 = .ok (.invokevirtual 116, 3) := by decide +kernel
theorem dX3_added_5 : decode cX3_added 5 = .ok (.ifCond .eq 17, 3) := by decide +kernel
theorem dX3_added_8 : decode cX3_added 8 = .ok (.iload_n 2, 1) := by decide +kernel
theorem dX3_added_9 : decode cX3_added 9 = .ok (.invokestatic 111, 3) := by decide +kernel
theorem dX3_added_12 : decode cX3_added 12 = .ok (.ifCond .eq 10, 3) := by decide +kernel
theorem dX3_added_15 : decode cX3_added 15 = .ok (.iload_n 3, 1) := by decide +kernel
theorem dX3_added_16 : decode cX3_added 16 = .ok (.invokestatic 146, 3) := by decide +kernel
theorem dX3_added_19 : decode cX3_added 19 = .ok (.ifCond .ne 13, 3) := by decide +kernel
theorem dX3_added_22 : decode cX3_added 22 = .ok (.new 37, 3) := by decide +kernel
theorem dX3_added_25 : decode cX3_added 25 = .ok (.dup, 1) := by decide +kernel
theorem dX3_added_26 : decode cX3_added 26 = .ok (.ldc 155, 2) := by decide +kernel
theorem dX3_added_28 : decode cX3_added 28 = .ok (.invokespecial 41, 3) := by decide +kernel
theorem dX3_added_31 : decode cX3_added 31 = .ok (.athrow, 1) := by decide +kernel
theorem dX3_added_32 : decode cX3_added 32 = .ok (.aload_n 0, 1) := by decide +kernel
theorem dX3_added_33 : decode cX3_added 33 = .ok (.iload_n 1, 1) := by decide +kernel
theorem dX3_added_34 : decode cX3_added 34 = .ok (.invokevirtual 129, 3) := by decide +kernel
theorem dX3_added_37 : decode cX3_added 37 = .ok (.aload_n 0, 1) := by decide +kernel
theorem dX3_added_38 : decode cX3_added 38 = .ok (.getfield 10, 3) := by decide +kernel
theorem dX3_added_41 : decode cX3_added 41 = .ok (.iload_n 1, 1) := by decide +kernel
theorem dX3_added_42 : decode cX3_added 42 = .ok (.iconst 1, 1) := by decide +kernel
theorem dX3_added_43 : decode cX3_added 43 = .ok (.iload_n 2, 1) := by decide +kernel
theorem dX3_added_44 : decode cX3_added 44 = .ok (.ishl, 1) := by decide +kernel
theorem dX3_added_45 : decode cX3_added 45 = .ok (.iload_n 3, 1) := by decide +kernel
theorem dX3_added_46 : decode cX3_added 46 = .ok (.invokestatic 149, 3) := by decide +kernel
theorem dX3_added_49 : decode cX3_added 49 = .ok (.invokevirtual 157, 3) := by decide +kernel
theorem dX3_added_52 : decode cX3_added 52 = .ok (.lstore 4, 2) := by decide +kernel
theorem dX3_added_54 : decode cX3_added 54 = .ok (.aload_n 0, 1) := by decide +kernel
theorem dX3_added_55 : decode cX3_added 55 = .ok (.getfield 10, 3) := by decide +kernel
theorem dX3_added_58 : decode cX3_added 58 = .ok (.iconst 1, 1) := by decide +kernel
theorem dX3_added_59 : decode cX3_added 59 = .ok (.iload_n 2, 1) := by decide +kernel
theorem dX3_added_60 : decode cX3_added 60 = .ok (.ishl, 1) := by decide +kernel
theorem dX3_added_61 : decode cX3_added 61 = .ok (.iload_n 3, 1) := by decide +kernel
theorem dX3_added_62 : decode cX3_added 62 = .ok (.invokestatic 149, 3) := by decide +kernel
theorem dX3_added_65 : decode cX3_added 65 = .ok (.invokevirtual 96, 3) := by decide +kernel
theorem dX3_added_68 : decode cX3_added 68 = .ok (.lload 4, 2) := by decide +kernel
theorem dX3_added_70 : decode cX3_added 70 = .ok (.ldc2_w 161, 3) := by decide +kernel
theorem dX3_added_73 : decode cX3_added 73 = .ok (.lxor, 1) := by decide +kernel
theorem dX3_added_74 : decode cX3_added 74 = .ok (.land, 1) := by decide +kernel
theorem dX3_added_75 : decode cX3_added 75 = .ok (.invokestatic 100, 3) := by decide +kernel
theorem dX3_added_78 : decode cX3_added 78 = .ok (.ireturn, 1) := by decide +kernel
theorem dX3_watch_0 : decode cX3_watch 0 = .ok (.iload_n 1, 1) := by decide +kernel
theorem dX3_watch_1 : decode cX3_watch 1 = .ok (.invokestatic 163, 3) := by decide +kernel
theorem dX3_watch_4 : decode cX3_watch 4 = .ok (.ifCond .eq 20, 3) := by decide +kernel
theorem dX3_watch_7 : decode cX3_watch 7 = .ok (.iload_n 2, 1) := by decide +kernel
theorem dX3_watch_8 : decode cX3_watch 8 = .ok (.invokestatic 111, 3) := by decide +kernel
end
section
theorem dX3_watch_11 : decode cX3_watch 11 = .ok (.ifCond .eq 13, 3) := by decide +kernel
theorem dX3_watch_14 : decode cX3_watch 14 = .ok (.iload_n 3, 1) := by decide +kernel
theorem dX3_watch_15 : decode cX3_watch 15 = .ok (.iconst 1, 1) := by decide +kernel
theorem dX3_watch_16 : decode cX3_watch 16 = .ok (.bipush 10, 2) := by decide +kernel
theorem dX3_watch_18 : decode cX3_watch 18 = .ok (.invokestatic 26, 3) := by decide +kernel
theorem dX3_watch_21 : decode cX3_watch 21 = .ok (.ifCond .ne 13, 3) := by decide +kernel
theorem dX3_watch_24 : decode cX3_watch 24 = .ok (.new 37, 3) := by decide +kernel
theorem dX3_watch_27 : decode cX3_watch 27 = .ok (.dup, 1) := by decide +kernel
theorem dX3_watch_28 : decode cX3_watch 28 = .ok (.ldc 166, 2) := by decide +kernel
theorem dX3_watch_30 : decode cX3_watch 30 = .ok (.invokespecial 41, 3) := by decide +kernel
theorem dX3_watch_33 : decode cX3_watch 33 = .ok (.athrow, 1) := by decide +kernel
theorem dX3_watch_34 : decode cX3_watch 34 = .ok (.aload_n 0, 1) := by decide +kernel
theorem dX3_watch_35 : decode cX3_watch 35 = .ok (.iload_n 1, 1) := by decide +kernel
theorem dX3_watch_36 : decode cX3_watch 36 = .ok (.invokevirtual 168, 3) := by decide +kernel
theorem dX3_watch_39 : decode cX3_watch 39 = .ok (.astore 4, 2) := by decide +kernel
theorem dX3_watch_41 : decode cX3_watch 41 = .ok (.aload 4, 2) := by decide +kernel
theorem dX3_watch_43 : decode cX3_watch 43 = .ok (.iload_n 2, 1) := by decide +kernel
theorem dX3_watch_44 : decode cX3_watch 44 = .ok (.putfield 172, 3) := by decide +kernel
theorem dX3_watch_47 : decode cX3_watch 47 = .ok (.aload 4, 2) := by decide +kernel
theorem dX3_watch_49 : decode cX3_watch 49 = .ok (.iload_n 3, 1) := by decide +kernel
theorem dX3_watch_50 : decode cX3_watch 50 = .ok (.putfield 175, 3) := by decide +kernel
theorem dX3_watch_53 : decode cX3_watch 53 = .ok (.return_, 1) := by decide +kernel
theorem dX3_flagOffline_0 : decode cX3_flagOffline 0 = .ok (.iload_n 1, 1) := by decide +kernel
theorem dX3_flagOffline_1 : decode cX3_flagOffline 1 = .ok (.invokestatic 163, 3) := by decide +kernel
theorem dX3_flagOffline_4 : decode cX3_flagOffline 4 = .ok (.ifCond .eq 10, 3) := by decide +kernel
theorem dX3_flagOffline_7 : decode cX3_flagOffline 7 = .ok (.iload_n 3, 1) := by decide +kernel
theorem dX3_flagOffline_8 : decode cX3_flagOffline 8 = .ok (.invokestatic 76, 3) := by decide +kernel
theorem dX3_flagOffline_11 : decode cX3_flagOffline 11 = .ok (.ifCond .ne 13, 3) := by decide +kernel
theorem dX3_flagOffline_14 : decode cX3_flagOffline 14 = .ok (.new 37, 3) := by decide +kernel
theorem dX3_flagOffline_17 : decode cX3_flagOffline 17 = .ok (.dup, 1) := by decide +kernel
theorem dX3_flagOffline_18 : decode cX3_flagOffline 18 = .ok (.ldc 178, 2) := by decide +kernel
theorem dX3_flagOffline_20 : decode cX3_flagOffline 20 = .ok (.invokespecial 41, 3) := by decide +kernel
theorem dX3_flagOffline_23 : decode cX3_flagOffline 23 = .ok (.athrow, 1) := by decide +kernel
theorem dX3_flagOffline_24 : decode cX3_flagOffline 24 = .ok (.aload_n 0, 1) := by decide +kernel
theorem dX3_flagOffline_25 : decode cX3_flagOffline 25 = .ok (.iload_n 1, 1) := by decide +kernel
theorem dX3_flagOffline_26 : decode cX3_flagOffline 26 = .ok (.invokevirtual 168, 3) := by decide +kernel
theorem dX3_flagOffline_29 : decode cX3_flagOffline 29 = .ok (.astore 5, 2) := by decide +kernel
theorem dX3_flagOffline_31 : decode cX3_flagOffline 31 = .ok (.aload 5, 2) := by decide +kernel
theorem dX3_flagOffline_33 : decode cX3_flagOffline 33 = .ok (.iload_n 2, 1) := by decide +kernel
theorem dX3_flagOffline_34 : decode cX3_flagOffline 34 = .ok (.invokevirtual 180, 3) := by decide +kernel
theorem dX3_flagOffline_37 : decode cX3_flagOffline 37 = .ok (.istore 6, 2) := by decide +kernel
theorem dX3_flagOffline_39 : decode cX3_flagOffline 39 = .ok (.iload 6, 2) := by decide +kernel
theorem dX3_flagOffline_41 : decode cX3_flagOffline 41 = .ok (.iconst (-1), 1) := by decide +kernel
theorem dX3_flagOffline_42 : decode cX3_flagOffline 42 = .ok (.if_icmp .ne 13, 3) := by decide +kernel
theorem dX3_flagOffline_45 : decode cX3_flagOffline 45 = .ok (.new 37, 3) := by decide +kernel
theorem dX3_flagOffline_48 : decode cX3_flagOffline 48 = .ok (.dup, 1) := by decide +kernel
theorem dX3_flagOffline_49 : decode cX3_flagOffline 49 = .ok (.ldc 183, 2) := by decide +kernel
theorem dX3_flagOffline_51 : decode cX3_flagOffline 51 = .ok (.invokespecial 41, 3) := by decide +kernel
theorem dX3_flagOffline_54 : decode cX3_flagOffline 54 = .ok (.athrow, 1) := by decide +kernel
theorem dX3_flagOffline_55 : decode cX3_flagOffline 55 = .ok (.aload 5, 2) := by decide +kernel
theorem dX3_flagOffline_57 : decode cX3_flagOffline 57 = .ok (.getfield 185, 3) := by decide +kernel
theorem dX3_flagOffline_60 : decode cX3_flagOffline 60 = .ok (.bipush 10, 2) := by decide +kernel
theorem dX3_flagOffline_62 : decode cX3_flagOffline 62 = .ok (.if_icmp .lt 13, 3) := by decide +kernel
theorem dX3_flagOffline_65 : decode cX3_flagOffline 65 = .ok (.new 48, 3) := by decide +kernel
theorem dX3_flagOffline_68 : decode cX3_flagOffline 68 = .ok (.dup, 1) := by decide +kernel
theorem dX3_flagOffline_69 : decode cX3_flagOffline 69 = .ok (.ldc 188, 2) := by decide +kernel
theorem dX3_flagOffline_71 : decode cX3_flagOffline 71 = .ok (.invokespecial 52, 3) := by decide +kernel
theorem dX3_flagOffline_74 : decode cX3_flagOffline 74 = .ok (.athrow, 1) := by decide +kernel
theorem dX3_flagOffline_75 : decode cX3_flagOffline 75 = .ok (.aload 5, 2) := by decide +kernel
theorem dX3_flagOffline_77 : decode cX3_flagOffline 77 = .ok (.iload 6, 2) := by decide +kernel
theorem dX3_flagOffline_79 : decode cX3_flagOffline 79 = .ok (.iload_n 3, 1) := by decide +kernel
theorem dX3_flagOffline_80 : decode cX3_flagOffline 80 = .ok (.iload 4, 2) := by decide +kernel
theorem dX3_flagOffline_82 : decode cX3_flagOffline 82 = .ok (.invokevirtual 190, 3) := by decide +kernel
theorem dX3_flagOffline_85 : decode cX3_flagOffline 85 = .ok (.aload 5, 2) := by decide +kernel
theorem dX3_flagOffline_87 : decode cX3_flagOffline 87 = .ok (.getfield 185, 3) := by decide +kernel
theorem dX3_flagOffline_90 : decode cX3_flagOffline 90 = .ok (.ireturn, 1) := by decide +kernel
theorem dX3_sync_0 : decode cX3_sync 0 = .ok (.iload_n 1, 1) := by decide +kernel
theorem dX3_sync_1 : decode cX3_sync 1 = .ok (.invokestatic 194, 3) := by decide +kernel
theorem dX3_sync_4 : decode cX3_sync 4 = .ok (.aload_n 0, 1) := by decide +kernel
theorem dX3_sync_5 : decode cX3_sync 5 = .ok (.iload_n 1, 1) := by decide +kernel
theorem dX3_sync_6 : decode cX3_sync 6 = .ok (.invokevirtual 168, 3) := by decide +kernel
theorem dX3_sync_9 : decode cX3_sync 9 = .ok (.astore_n 2, 1) := by decide +kernel
theorem dX3_sync_10 : decode cX3_sync 10 = .ok (.aload_n 0, 1) := by decide +kernel
theorem dX3_sync_11 : decode cX3_sync 11 = .ok (.getfield 10, 3) := by decide +kernel
theorem dX3_sync_14 : decode cX3_sync 14 = .ok (.getfield 85, 3) := by decide +kernel
theorem dX3_sync_17 : decode cX3_sync 17 = .ok (.aload_n 2, 1) := by decide +kernel
theorem dX3_sync_18 : decode cX3_sync 18 = .ok (.getfield 197, 3) := by decide +kernel
theorem dX3_sync_21 : decode cX3_sync 21 = .ok (.invokevirtual 121, 3) := by decide +kernel
theorem dX3_sync_24 : decode cX3_sync 24 = .ok (.ifCond .ne 13, 3) := by decide +kernel
theorem dX3_sync_27 : decode cX3_sync 27 = .ok (.aload_n 2, 1) := by decide +kernel
theorem dX3_sync_28 : decode cX3_sync 28 = .ok (.dup, 1) := by decide +kernel
theorem dX3_sync_29 : decode cX3_sync 29 = .ok (.getfield 200, 3) := by decide +kernel
theorem dX3_sync_32 : decode cX3_sync 32 = .ok (.iconst 1, 1) := by decide +kernel
theorem dX3_sync_33 : decode cX3_sync 33 = .ok (.iadd, 1) := by decide +kernel
theorem dX3_sync_34 : decode cX3_sync 34 = .ok (.putfield 200, 3) := by decide +kernel
theorem dX3_sync_37 : decode cX3_sync 37 = .ok (.aload_n 2, 1) := by decide +kernel
theorem dX3_sync_38 : decode cX3_sync 38 = .ok (.aload_n 0, 1) := by decide +kernel
theorem dX3_sync_39 : decode cX3_sync 39 = .ok (.getfield 10, 3) := by decide +kernel
theorem dX3_sync_42 : decode cX3_sync 42 = .ok (.invokevirtual 203, 3) := by decide +kernel
theorem dX3_sync_45 : decode cX3_sync 45 = .ok (.istore_n 3, 1) := by decide +kernel
theorem dX3_sync_46 : decode cX3_sync 46 = .ok (.aload_n 2, 1) := by decide +kernel
theorem dX3_sync_47 : decode cX3_sync 47 = .ok (.aload_n 0, 1) := by decide +kernel
theorem dX3_sync_48 : decode cX3_sync 48 = .ok (.getfield 10, 3) := by decide +kernel
theorem dX3_sync_51 : decode cX3_sync 51 = .ok (.invokevirtual 207, 3) := by decide +kernel
theorem dX3_sync_54 : decode cX3_sync 54 = .ok (.aload_n 2, 1) := by decide +kernel
theorem dX3_sync_55 : decode cX3_sync 55 = .ok (.aload_n 0, 1) := by decide +kernel
theorem dX3_sync_56 : decode cX3_sync 56 = .ok (.getfield 10, 3) := by decide +kernel
theorem dX3_sync_59 : decode cX3_sync 59 = .ok (.invokevirtual 211, 3) := by decide +kernel
theorem dX3_sync_62 : decode cX3_sync 62 = .ok (.iload_n 3, 1) := by decide +kernel
theorem dX3_sync_63 : decode cX3_sync 63 = .ok (.ireturn, 1) := by decide +kernel
theorem dX3_stateOf_0 : decode cX3_stateOf 0 = .ok (.iload_n 1, 1) := by decide +kernel
theorem dX3_stateOf_1 : decode cX3_stateOf 1 = .ok (.invokestatic 194, 3) := by decide +kernel
theorem dX3_stateOf_4 : decode cX3_stateOf 4 = .ok (.aload_n 0, 1) := by decide +kernel
theorem dX3_stateOf_5 : decode cX3_stateOf 5 = .ok (.iload_n 1, 1) := by decide +kernel
theorem dX3_stateOf_6 : decode cX3_stateOf 6 = .ok (.invokevirtual 168, 3) := by decide +kernel
theorem dX3_stateOf_9 : decode cX3_stateOf 9 = .ok (.getfield 197, 3) := by decide +kernel
theorem dX3_stateOf_12 : decode cX3_stateOf 12 = .ok (.ireturn, 1) := by decide +kernel
theorem dX3_window_0 : decode cX3_window 0 = .ok (.iload_n 1, 1) := by decide +kernel
theorem dX3_window_1 : decode cX3_window 1 = .ok (.invokestatic 194, 3) := by decide +kernel
theorem dX3_window_4 : decode cX3_window 4 = .ok (.aload_n 0, 1) := by decide +kernel
theorem dX3_window_5 : decode cX3_window 5 = .ok (.iload_n 1, 1) := by decide +kernel
theorem dX3_window_6 : decode cX3_window 6 = .ok (.invokevirtual 168, 3) := by decide +kernel
theorem dX3_window_9 : decode cX3_window 9 = .ok (.getfield 214, 3) := by decide +kernel
theorem dX3_window_12 : decode cX3_window 12 = .ok (.ireturn, 1) := by decide +kernel
theorem dX3_windowAt_0 : decode cX3_windowAt 0 = .ok (.iload_n 1, 1) := by decide +kernel
theorem dX3_windowAt_1 : decode cX3_windowAt 1 = .ok (.invokestatic 194, 3) := by decide +kernel
theorem dX3_windowAt_4 : decode cX3_windowAt 4 = .ok (.aload_n 0, 1) := by decide +kernel
theorem dX3_windowAt_5 : decode cX3_windowAt 5 = .ok (.iload_n 1, 1) := by decide +kernel
theorem dX3_windowAt_6 : decode cX3_windowAt 6 = .ok (.invokevirtual 168, 3) := by decide +kernel
theorem dX3_windowAt_9 : decode cX3_windowAt 9 = .ok (.astore_n 3, 1) := by decide +kernel
theorem dX3_windowAt_10 : decode cX3_windowAt 10 = .ok (.aload_n 3, 1) := by decide +kernel
theorem dX3_windowAt_11 : decode cX3_windowAt 11 = .ok (.iload_n 2, 1) := by decide +kernel
theorem dX3_windowAt_12 : decode cX3_windowAt 12 = .ok (.invokevirtual 217, 3) := by decide +kernel
theorem dX3_windowAt_15 : decode cX3_windowAt 15 = .ok (.ifCond .ne 13, 3) := by decide +kernel
theorem dX3_windowAt_18 : decode cX3_windowAt 18 = .ok (.new 220, 3) := by decide +kernel
theorem dX3_windowAt_21 : decode cX3_windowAt 21 = .ok (.dup, 1) := by decide +kernel
theorem dX3_windowAt_22 : decode cX3_windowAt 22 = .ok (.ldc 222, 2) := by decide +kernel
theorem dX3_windowAt_24 : decode cX3_windowAt 24 = .ok (.invokespecial 224, 3) := by decide +kernel
theorem dX3_windowAt_27 : decode cX3_windowAt 27 = .ok (.athrow, 1) := by decide +kernel
theorem dX3_windowAt_28 : decode cX3_windowAt 28 = .ok (.aload_n 3, 1) := by decide +kernel
theorem dX3_windowAt_29 : decode cX3_windowAt 29 = .ok (.getfield 225, 3) := by decide +kernel
theorem dX3_windowAt_32 : decode cX3_windowAt 32 = .ok (.iload_n 2, 1) := by decide +kernel
theorem dX3_windowAt_33 : decode cX3_windowAt 33 = .ok (.iaload, 1) := by decide +kernel
theorem dX3_windowAt_34 : decode cX3_windowAt 34 = .ok (.ireturn, 1) := by decide +kernel
theorem dX3_known_0 : decode cX3_known 0 = .ok (.iload_n 1, 1) := by decide +kernel
theorem dX3_known_1 : decode cX3_known 1 = .ok (.invokestatic 194, 3) := by decide +kernel
theorem dX3_known_4 : decode cX3_known 4 = .ok (.aload_n 0, 1) := by decide +kernel
theorem dX3_known_5 : decode cX3_known 5 = .ok (.iload_n 1, 1) := by decide +kernel
theorem dX3_known_6 : decode cX3_known 6 = .ok (.invokevirtual 168, 3) := by decide +kernel
theorem dX3_known_9 : decode cX3_known 9 = .ok (.astore_n 3, 1) := by decide +kernel
theorem dX3_known_10 : decode cX3_known 10 = .ok (.aload_n 3, 1) := by decide +kernel
theorem dX3_known_11 : decode cX3_known 11 = .ok (.iload_n 2, 1) := by decide +kernel
theorem dX3_known_12 : decode cX3_known 12 = .ok (.invokevirtual 217, 3) := by decide +kernel
theorem dX3_known_15 : decode cX3_known 15 = .ok (.ifCond .ne 13, 3) := by decide +kernel
theorem dX3_known_18 : decode cX3_known 18 = .ok (.new 220, 3) := by decide +kernel
theorem dX3_known_21 : decode cX3_known 21 = .ok (.dup, 1) := by decide +kernel
theorem dX3_known_22 : decode cX3_known 22 = .ok (.ldc 222, 2) := by decide +kernel
theorem dX3_known_24 : decode cX3_known 24 = .ok (.invokespecial 224, 3) := by decide +kernel
theorem dX3_known_27 : decode cX3_known 27 = .ok (.athrow, 1) := by decide +kernel
theorem dX3_known_28 : decode cX3_known 28 = .ok (.aload_n 3, 1) := by decide +kernel
theorem dX3_known_29 : decode cX3_known 29 = .ok (.getfield 229, 3) := by decide +kernel
theorem dX3_known_32 : decode cX3_known 32 = .ok (.iload_n 2, 1) := by decide +kernel
theorem dX3_known_33 : decode cX3_known 33 = .ok (.iaload, 1) := by decide +kernel
theorem dX3_known_34 : decode cX3_known 34 = .ok (.ireturn, 1) := by decide +kernel
theorem dX3_freshLoads_0 : decode cX3_freshLoads 0 = .ok (.iload_n 1, 1) := by decide +kernel
theorem dX3_freshLoads_1 : decode cX3_freshLoads 1 = .ok (.invokestatic 194, 3) := by decide +kernel
theorem dX3_freshLoads_4 : decode cX3_freshLoads 4 = .ok (.aload_n 0, 1) := by decide +kernel
theorem dX3_freshLoads_5 : decode cX3_freshLoads 5 = .ok (.iload_n 1, 1) := by decide +kernel
theorem dX3_freshLoads_6 : decode cX3_freshLoads 6 = .ok (.invokevirtual 168, 3) := by decide +kernel
theorem dX3_freshLoads_9 : decode cX3_freshLoads 9 = .ok (.getfield 200, 3) := by decide +kernel
theorem dX3_freshLoads_12 : decode cX3_freshLoads 12 = .ok (.ireturn, 1) := by decide +kernel
theorem dX3_isWithin_0 : decode cX3_isWithin 0 = .ok (.iload_n 0, 1) := by decide +kernel
theorem dX3_isWithin_1 : decode cX3_isWithin 1 = .ok (.iload_n 1, 1) := by decide +kernel
theorem dX3_isWithin_2 : decode cX3_isWithin 2 = .ok (.if_icmp .lt 12, 3) := by decide +kernel
theorem dX3_isWithin_5 : decode cX3_isWithin 5 = .ok (.iload_n 0, 1) := by decide +kernel
theorem dX3_isWithin_6 : decode cX3_isWithin 6 = .ok (.iload_n 2, 1) := by decide +kernel
theorem dX3_isWithin_7 : decode cX3_isWithin 7 = .ok (.if_icmp .gt 7, 3) := by decide +kernel
theorem dX3_isWithin_10 : decode cX3_isWithin 10 = .ok (.iconst 1, 1) := by decide +kernel
theorem dX3_isWithin_11 : decode cX3_isWithin 11 = .ok (.goto 4, 3) := by decide +kernel
theorem dX3_isWithin_14 : decode cX3_isWithin 14 = .ok (.iconst 0, 1) := by decide +kernel
theorem dX3_isWithin_15 : decode cX3_isWithin 15 = .ok (.ireturn, 1) := by decide +kernel
theorem dX3_isBox_0 : decode cX3_isBox 0 = .ok (.iload_n 0, 1) := by decide +kernel
theorem dX3_isBox_1 : decode cX3_isBox 1 = .ok (.iconst 0, 1) := by decide +kernel
theorem dX3_isBox_2 : decode cX3_isBox 2 = .ok (.iconst 5, 1) := by decide +kernel
theorem dX3_isBox_3 : decode cX3_isBox 3 = .ok (.invokestatic 26, 3) := by decide +kernel
theorem dX3_isBox_6 : decode cX3_isBox 6 = .ok (.ireturn, 1) := by decide +kernel
theorem dX3_isBoxSet_0 : decode cX3_isBoxSet 0 = .ok (.iload_n 0, 1) := by decide +kernel
theorem dX3_isBoxSet_1 : decode cX3_isBoxSet 1 = .ok (.iconst 1, 1) := by decide +kernel
theorem dX3_isBoxSet_2 : decode cX3_isBoxSet 2 = .ok (.bipush 63, 2) := by decide +kernel
theorem dX3_isBoxSet_4 : decode cX3_isBoxSet 4 = .ok (.invokestatic 26, 3) := by decide +kernel
theorem dX3_isBoxSet_7 : decode cX3_isBoxSet 7 = .ok (.ireturn, 1) := by decide +kernel
theorem dX3_isThread_0 : decode cX3_isThread 0 = .ok (.iload_n 0, 1) := by decide +kernel
theorem dX3_isThread_1 : decode cX3_isThread 1 = .ok (.iconst 0, 1) := by decide +kernel
theorem dX3_isThread_2 : decode cX3_isThread 2 = .ok (.bipush 9, 2) := by decide +kernel
theorem dX3_isThread_4 : decode cX3_isThread 4 = .ok (.invokestatic 26, 3) := by decide +kernel
theorem dX3_isThread_7 : decode cX3_isThread 7 = .ok (.ireturn, 1) := by decide +kernel
theorem dX3_isKeyword_0 : decode cX3_isKeyword 0 = .ok (.iload_n 0, 1) := by decide +kernel
theorem dX3_isKeyword_1 : decode cX3_isKeyword 1 = .ok (.iconst 0, 1) := by decide +kernel
theorem dX3_isKeyword_2 : decode cX3_isKeyword 2 = .ok (.iconst 3, 1) := by decide +kernel
theorem dX3_isKeyword_3 : decode cX3_isKeyword 3 = .ok (.invokestatic 26, 3) := by decide +kernel
theorem dX3_isKeyword_6 : decode cX3_isKeyword 6 = .ok (.ireturn, 1) := by decide +kernel
theorem dX3_isQueryKeyword_0 : decode cX3_isQueryKeyword 0 = .ok (.iload_n 0, 1) := by decide +kernel
theorem dX3_isQueryKeyword_1 : decode cX3_isQueryKeyword 1 = .ok (.iconst (-1), 1) := by decide +kernel
theorem dX3_isQueryKeyword_2 : decode cX3_isQueryKeyword 2 = .ok (.if_icmp .eq 10, 3) := by decide +kernel
theorem dX3_isQueryKeyword_5 : decode cX3_isQueryKeyword 5 = .ok (.iload_n 0, 1) := by decide +kernel
theorem dX3_isQueryKeyword_6 : decode cX3_isQueryKeyword 6 = .ok (.invokestatic 76, 3) := by decide +kernel
theorem dX3_isQueryKeyword_9 : decode cX3_isQueryKeyword 9 = .ok (.ifCond .eq 7, 3) := by decide +kernel
theorem dX3_isQueryKeyword_12 : decode cX3_isQueryKeyword 12 = .ok (.iconst 1, 1) := by decide +kernel
theorem dX3_isQueryKeyword_13 : decode cX3_isQueryKeyword 13 = .ok (.goto 4, 3) := by decide +kernel
theorem dX3_isQueryKeyword_16 : decode cX3_isQueryKeyword 16 = .ok (.iconst 0, 1) := by decide +kernel
theorem dX3_isQueryKeyword_17 : decode cX3_isQueryKeyword 17 = .ok (.ireturn, 1) := by decide +kernel
theorem dX3_isWay_0 : decode cX3_isWay 0 = .ok (.iload_n 0, 1) := by decide +kernel
theorem dX3_isWay_1 : decode cX3_isWay 1 = .ok (.iconst 0, 1) := by decide +kernel
theorem dX3_isWay_2 : decode cX3_isWay 2 = .ok (.iconst 2, 1) := by decide +kernel
theorem dX3_isWay_3 : decode cX3_isWay 3 = .ok (.invokestatic 26, 3) := by decide +kernel
theorem dX3_isWay_6 : decode cX3_isWay 6 = .ok (.ireturn, 1) := by decide +kernel
theorem dX3_isClient_0 : decode cX3_isClient 0 = .ok (.iload_n 0, 1) := by decide +kernel
theorem dX3_isClient_1 : decode cX3_isClient 1 = .ok (.iconst 0, 1) := by decide +kernel
theorem dX3_isClient_2 : decode cX3_isClient 2 = .ok (.iconst 1, 1) := by decide +kernel
theorem dX3_isClient_3 : decode cX3_isClient 3 = .ok (.invokestatic 26, 3) := by decide +kernel
theorem dX3_isClient_6 : decode cX3_isClient 6 = .ok (.ireturn, 1) := by decide +kernel
theorem dX3_requireClient_0 : decode cX3_requireClient 0 = .ok (.iload_n 0, 1) := by decide +kernel
theorem dX3_requireClient_1 : decode cX3_requireClient 1 = .ok (.invokestatic 163, 3) := by decide +kernel
theorem dX3_requireClient_4 : decode cX3_requireClient 4 = .ok (.ifCond .ne 13, 3) := by decide +kernel
theorem dX3_requireClient_7 : decode cX3_requireClient 7 = .ok (.new 37, 3) := by decide +kernel
theorem dX3_requireClient_10 : decode cX3_requireClient 10 = .ok (.dup, 1) := by decide +kernel
theorem dX3_requireClient_11 : decode cX3_requireClient 11 = .ok (.ldc 232, 2) := by decide +kernel
theorem dX3_requireClient_13 : decode cX3_requireClient 13 = .ok (.invokespecial 41, 3) := by decide +kernel
theorem dX3_requireClient_16 : decode cX3_requireClient 16 = .ok (.athrow, 1) := by decide +kernel
theorem dX3_requireClient_17 : decode cX3_requireClient 17 = .ok (.return_, 1) := by decide +kernel
theorem dX3_requireMail_0 : decode cX3_requireMail 0 = .ok (.iload_n 0, 1) := by decide +kernel
theorem dX3_requireMail_1 : decode cX3_requireMail 1 = .ok (.ifCond .ne 13, 3) := by decide +kernel
theorem dX3_requireMail_4 : decode cX3_requireMail 4 = .ok (.new 220, 3) := by decide +kernel
theorem dX3_requireMail_7 : decode cX3_requireMail 7 = .ok (.dup, 1) := by decide +kernel
theorem dX3_requireMail_8 : decode cX3_requireMail 8 = .ok (.ldc 222, 2) := by decide +kernel
theorem dX3_requireMail_10 : decode cX3_requireMail 10 = .ok (.invokespecial 224, 3) := by decide +kernel
theorem dX3_requireMail_13 : decode cX3_requireMail 13 = .ok (.athrow, 1) := by decide +kernel
theorem dX3_requireMail_14 : decode cX3_requireMail 14 = .ok (.return_, 1) := by decide +kernel
theorem dX3_requireTelling_0 : decode cX3_requireTelling 0 = .ok (.aload_n 0, 1) := by decide +kernel
theorem dX3_requireTelling_1 : decode cX3_requireTelling 1 = .ok (.getfield 10, 3) := by decide +kernel
theorem dX3_requireTelling_4 : decode cX3_requireTelling 4 = .ok (.getfield 85, 3) := by decide +kernel
theorem dX3_requireTelling_7 : decode cX3_requireTelling 7 = .ok (.iload_n 1, 1) := by decide +kernel
theorem dX3_requireTelling_8 : decode cX3_requireTelling 8 = .ok (.invokevirtual 121, 3) := by decide +kernel
theorem dX3_requireTelling_11 : decode cX3_requireTelling 11 = .ok (.ifCond .ne 13, 3) := by decide +kernel
theorem dX3_requireTelling_14 : decode cX3_requireTelling 14 = .ok (.new 48, 3) := by decide +kernel
theorem dX3_requireTelling_17 : decode cX3_requireTelling 17 = .ok (.dup, 1) := by decide +kernel
theorem dX3_requireTelling_18 : decode cX3_requireTelling 18 = .ok (.ldc 234, 2) := by decide +kernel
theorem dX3_requireTelling_20 : decode cX3_requireTelling 20 = .ok (.invokespecial 52, 3) := by decide +kernel
theorem dX3_requireTelling_23 : decode cX3_requireTelling 23 = .ok (.athrow, 1) := by decide +kernel
theorem dX3_requireTelling_24 : decode cX3_requireTelling 24 = .ok (.return_, 1) := by decide +kernel
theorem dX3_isState_0 : decode cX3_isState 0 = .ok (.iload_n 1, 1) := by decide +kernel
theorem dX3_isState_1 : decode cX3_isState 1 = .ok (.iconst 0, 1) := by decide +kernel
theorem dX3_isState_2 : decode cX3_isState 2 = .ok (.aload_n 0, 1) := by decide +kernel
theorem dX3_isState_3 : decode cX3_isState 3 = .ok (.getfield 10, 3) := by decide +kernel
theorem dX3_isState_6 : decode cX3_isState 6 = .ok (.getfield 85, 3) := by decide +kernel
theorem dX3_isState_9 : decode cX3_isState 9 = .ok (.getfield 89, 3) := by decide +kernel
theorem dX3_isState_12 : decode cX3_isState 12 = .ok (.invokestatic 26, 3) := by decide +kernel
theorem dX3_isState_15 : decode cX3_isState 15 = .ok (.ireturn, 1) := by decide +kernel
theorem dX3_clientOf_0 : decode cX3_clientOf 0 = .ok (.iload_n 1, 1) := by decide +kernel
theorem dX3_clientOf_1 : decode cX3_clientOf 1 = .ok (.ifCond .ne 10, 3) := by decide +kernel
theorem dX3_clientOf_4 : decode cX3_clientOf 4 = .ok (.aload_n 0, 1) := by decide +kernel
theorem dX3_clientOf_5 : decode cX3_clientOf 5 = .ok (.getfield 19, 3) := by decide +kernel
theorem dX3_clientOf_8 : decode cX3_clientOf 8 = .ok (.goto 7, 3) := by decide +kernel
theorem dX3_clientOf_11 : decode cX3_clientOf 11 = .ok (.aload_n 0, 1) := by decide +kernel
theorem dX3_clientOf_12 : decode cX3_clientOf 12 = .ok (.getfield 23, 3) := by decide +kernel
theorem dX3_clientOf_15 : decode cX3_clientOf 15 = .ok (.areturn, 1) := by decide +kernel
theorem dX3_asked_0 : decode cX3_asked 0 = .ok (.iload_n 0, 1) := by decide +kernel
theorem dX3_asked_1 : decode cX3_asked 1 = .ok (.iconst (-1), 1) := by decide +kernel
theorem dX3_asked_2 : decode cX3_asked 2 = .ok (.if_icmp .ne 7, 3) := by decide +kernel
theorem dX3_asked_5 : decode cX3_asked 5 = .ok (.iconst 0, 1) := by decide +kernel
theorem dX3_asked_6 : decode cX3_asked 6 = .ok (.goto 6, 3) := by decide +kernel
theorem dX3_asked_9 : decode cX3_asked 9 = .ok (.iconst 1, 1) := by decide +kernel
theorem dX3_asked_10 : decode cX3_asked 10 = .ok (.iload_n 0, 1) := by decide +kernel
theorem dX3_asked_11 : decode cX3_asked 11 = .ok (.ishl, 1) := by decide +kernel
theorem dX3_asked_12 : decode cX3_asked 12 = .ok (.ireturn, 1) := by decide +kernel
theorem dX3_holds_0 : decode cX3_holds 0 = .ok (.lload_n 0, 1) := by decide +kernel
theorem dX3_holds_1 : decode cX3_holds 1 = .ok (.iload_n 2, 1) := by decide +kernel
theorem dX3_holds_2 : decode cX3_holds 2 = .ok (.lshr, 1) := by decide +kernel
theorem dX3_holds_3 : decode cX3_holds 3 = .ok (.lconst 1, 1) := by decide +kernel
theorem dX3_holds_4 : decode cX3_holds 4 = .ok (.land, 1) := by decide +kernel
theorem dX3_holds_5 : decode cX3_holds 5 = .ok (.lconst 1, 1) := by decide +kernel
theorem dX3_holds_6 : decode cX3_holds 6 = .ok (.lcmp, 1) := by decide +kernel
theorem dX3_holds_7 : decode cX3_holds 7 = .ok (.ifCond .ne 7, 3) := by decide +kernel
theorem dX3_holds_10 : decode cX3_holds 10 = .ok (.iconst 1, 1) := by decide +kernel
theorem dX3_holds_11 : decode cX3_holds 11 = .ok (.goto 4, 3) := by decide +kernel
theorem dX3_holds_14 : decode cX3_holds 14 = .ok (.iconst 0, 1) := by decide +kernel
theorem dX3_holds_15 : decode cX3_holds 15 = .ok (.ireturn, 1) := by decide +kernel
theorem dX3_with_0 : decode cX3_with 0 = .ok (.iload_n 3, 1) := by decide +kernel
theorem dX3_with_1 : decode cX3_with 1 = .ok (.ifCond .eq 11, 3) := by decide +kernel
theorem dX3_with_4 : decode cX3_with 4 = .ok (.lload_n 0, 1) := by decide +kernel
theorem dX3_with_5 : decode cX3_with 5 = .ok (.lconst 1, 1) := by decide +kernel
theorem dX3_with_6 : decode cX3_with 6 = .ok (.iload_n 2, 1) := by decide +kernel
theorem dX3_with_7 : decode cX3_with 7 = .ok (.lshl, 1) := by decide +kernel
theorem dX3_with_8 : decode cX3_with 8 = .ok (.lor, 1) := by decide +kernel
theorem dX3_with_9 : decode cX3_with 9 = .ok (.goto 12, 3) := by decide +kernel
theorem dX3_with_12 : decode cX3_with 12 = .ok (.lload_n 0, 1) := by decide +kernel
theorem dX3_with_13 : decode cX3_with 13 = .ok (.lconst 1, 1) := by decide +kernel
theorem dX3_with_14 : decode cX3_with 14 = .ok (.iload_n 2, 1) := by decide +kernel
theorem dX3_with_15 : decode cX3_with 15 = .ok (.lshl, 1) := by decide +kernel
theorem dX3_with_16 : decode cX3_with 16 = .ok (.ldc2_w 161, 3) := by decide +kernel
theorem dX3_with_19 : decode cX3_with 19 = .ok (.lxor, 1) := by decide +kernel
theorem dX3_with_20 : decode cX3_with 20 = .ok (.land, 1) := by decide +kernel
theorem dX3_with_21 : decode cX3_with 21 = .ok (.lreturn, 1) := by decide +kernel
theorem dX3_lowestAt_0 : decode cX3_lowestAt 0 = .ok (.iconst 0, 1) := by decide +kernel
theorem dX3_lowestAt_1 : decode cX3_lowestAt 1 = .ok (.istore_n 3, 1) := by decide +kernel
theorem dX3_lowestAt_2 : decode cX3_lowestAt 2 = .ok (.iconst 0, 1) := by decide +kernel
theorem dX3_lowestAt_3 : decode cX3_lowestAt 3 = .ok (.istore 4, 2) := by decide +kernel
theorem dX3_lowestAt_5 : decode cX3_lowestAt 5 = .ok (.iload 4, 2) := by decide +kernel
theorem dX3_lowestAt_7 : decode cX3_lowestAt 7 = .ok (.bipush 60, 2) := by decide +kernel
theorem dX3_lowestAt_9 : decode cX3_lowestAt 9 = .ok (.if_icmp .ge 29, 3) := by decide +kernel
theorem dX3_lowestAt_12 : decode cX3_lowestAt 12 = .ok (.lload_n 0, 1) := by decide +kernel
theorem dX3_lowestAt_13 : decode cX3_lowestAt 13 = .ok (.iload 4, 2) := by decide +kernel
theorem dX3_lowestAt_15 : decode cX3_lowestAt 15 = .ok (.invokestatic 236, 3) := by decide +kernel
theorem dX3_lowestAt_18 : decode cX3_lowestAt 18 = .ok (.ifCond .eq 14, 3) := by decide +kernel
theorem dX3_lowestAt_21 : decode cX3_lowestAt 21 = .ok (.iload_n 3, 1) := by decide +kernel
theorem dX3_lowestAt_22 : decode cX3_lowestAt 22 = .ok (.iload_n 2, 1) := by decide +kernel
theorem dX3_lowestAt_23 : decode cX3_lowestAt 23 = .ok (.if_icmp .ne 6, 3) := by decide +kernel
theorem dX3_lowestAt_26 : decode cX3_lowestAt 26 = .ok (.iload 4, 2) := by decide +kernel
theorem dX3_lowestAt_28 : decode cX3_lowestAt 28 = .ok (.ireturn, 1) := by decide +kernel
theorem dX3_lowestAt_29 : decode cX3_lowestAt 29 = .ok (.iinc 3 1, 3) := by decide +kernel
theorem dX3_lowestAt_32 : decode cX3_lowestAt 32 = .ok (.iinc 4 1, 3) := by decide +kernel
theorem dX3_lowestAt_35 : decode cX3_lowestAt 35 = .ok (.goto (-30), 3) := by decide +kernel
theorem dX3_lowestAt_38 : decode cX3_lowestAt 38 = .ok (.iconst (-1), 1) := by decide +kernel
theorem dX3_lowestAt_39 : decode cX3_lowestAt 39 = .ok (.ireturn, 1) := by decide +kernel
theorem dX3_matches_0 : decode cX3_matches 0 = .ok (.iload_n 0, 1) := by decide +kernel
theorem dX3_matches_1 : decode cX3_matches 1 = .ok (.iload_n 2, 1) := by decide +kernel
theorem dX3_matches_2 : decode cX3_matches 2 = .ok (.iand, 1) := by decide +kernel
theorem dX3_matches_3 : decode cX3_matches 3 = .ok (.ifCond .eq 14, 3) := by decide +kernel
theorem dX3_matches_6 : decode cX3_matches 6 = .ok (.iload_n 1, 1) := by decide +kernel
theorem dX3_matches_7 : decode cX3_matches 7 = .ok (.iload_n 3, 1) := by decide +kernel
theorem dX3_matches_8 : decode cX3_matches 8 = .ok (.iand, 1) := by decide +kernel
theorem dX3_matches_9 : decode cX3_matches 9 = .ok (.iload_n 3, 1) := by decide +kernel
theorem dX3_matches_10 : decode cX3_matches 10 = .ok (.if_icmp .ne 7, 3) := by decide +kernel
theorem dX3_matches_13 : decode cX3_matches 13 = .ok (.iconst 1, 1) := by decide +kernel
theorem dX3_matches_14 : decode cX3_matches 14 = .ok (.goto 4, 3) := by decide +kernel
theorem dX3_matches_17 : decode cX3_matches 17 = .ok (.iconst 0, 1) := by decide +kernel
theorem dX3_matches_18 : decode cX3_matches 18 = .ok (.ireturn, 1) := by decide +kernel
theorem dX4_init_0 : decode cX4_init 0 = .ok (.aload_n 0, 1) := by decide +kernel
theorem dX4_init_1 : decode cX4_init 1 = .ok (.invokespecial 1, 3) := by decide +kernel
theorem dX4_init_4 : decode cX4_init 4 = .ok (.aload_n 0, 1) := by decide +kernel
theorem dX4_init_5 : decode cX4_init 5 = .ok (.bipush 60, 2) := by decide +kernel
theorem dX4_init_7 : decode cX4_init 7 = .ok (.newarray .int, 2) := by decide +kernel
theorem dX4_init_9 : decode cX4_init 9 = .ok (.putfield 7, 3) := by decide +kernel
theorem dX4_init_12 : decode cX4_init 12 = .ok (.aload_n 0, 1) := by decide +kernel
theorem dX4_init_13 : decode cX4_init 13 = .ok (.bipush 60, 2) := by decide +kernel
theorem dX4_init_15 : decode cX4_init 15 = .ok (.newarray .int, 2) := by decide +kernel
theorem dX4_init_17 : decode cX4_init 17 = .ok (.putfield 13, 3) := by decide +kernel
theorem dX4_init_20 : decode cX4_init 20 = .ok (.aload_n 0, 1) := by decide +kernel
theorem dX4_init_21 : decode cX4_init 21 = .ok (.bipush 60, 2) := by decide +kernel
theorem dX4_init_23 : decode cX4_init 23 = .ok (.newarray .int, 2) := by decide +kernel
theorem dX4_init_25 : decode cX4_init 25 = .ok (.putfield 16, 3) := by decide +kernel
theorem dX4_init_28 : decode cX4_init 28 = .ok (.aload_n 0, 1) := by decide +kernel
theorem dX4_init_29 : decode cX4_init 29 = .ok (.bipush 60, 2) := by decide +kernel
theorem dX4_init_31 : decode cX4_init 31 = .ok (.newarray .int, 2) := by decide +kernel
theorem dX4_init_33 : decode cX4_init 33 = .ok (.putfield 19, 3) := by decide +kernel
theorem dX4_init_36 : decode cX4_init 36 = .ok (.aload_n 0, 1) := by decide +kernel
theorem dX4_init_37 : decode cX4_init 37 = .ok (.bipush 60, 2) := by decide +kernel
theorem dX4_init_39 : decode cX4_init 39 = .ok (.newarray .int, 2) := by decide +kernel
theorem dX4_init_41 : decode cX4_init 41 = .ok (.putfield 22, 3) := by decide +kernel
theorem dX4_init_44 : decode cX4_init 44 = .ok (.aload_n 0, 1) := by decide +kernel
theorem dX4_init_45 : decode cX4_init 45 = .ok (.bipush 60, 2) := by decide +kernel
theorem dX4_init_47 : decode cX4_init 47 = .ok (.newarray .int, 2) := by decide +kernel
theorem dX4_init_49 : decode cX4_init 49 = .ok (.putfield 25, 3) := by decide +kernel
theorem dX4_init_52 : decode cX4_init 52 = .ok (.aload_n 0, 1) := by decide +kernel
theorem dX4_init_53 : decode cX4_init 53 = .ok (.sipush 2048, 3) := by decide +kernel
theorem dX4_init_56 : decode cX4_init 56 = .ok (.newarray .int, 2) := by decide +kernel
theorem dX4_init_58 : decode cX4_init 58 = .ok (.putfield 28, 3) := by decide +kernel
theorem dX4_init_61 : decode cX4_init 61 = .ok (.aload_n 0, 1) := by decide +kernel
theorem dX4_init_62 : decode cX4_init 62 = .ok (.sipush 2048, 3) := by decide +kernel
theorem dX4_init_65 : decode cX4_init 65 = .ok (.newarray .int, 2) := by decide +kernel
theorem dX4_init_67 : decode cX4_init 67 = .ok (.putfield 31, 3) := by decide +kernel
theorem dX4_init_70 : decode cX4_init 70 = .ok (.aload_n 0, 1) := by decide +kernel
theorem dX4_init_71 : decode cX4_init 71 = .ok (.sipush 2048, 3) := by decide +kernel
theorem dX4_init_74 : decode cX4_init 74 = .ok (.newarray .int, 2) := by decide +kernel
theorem dX4_init_76 : decode cX4_init 76 = .ok (.putfield 34, 3) := by decide +kernel
theorem dX4_init_79 : decode cX4_init 79 = .ok (.aload_n 0, 1) := by decide +kernel
theorem dX4_init_80 : decode cX4_init 80 = .ok (.sipush 2048, 3) := by decide +kernel
theorem dX4_init_83 : decode cX4_init 83 = .ok (.newarray .int, 2) := by decide +kernel
theorem dX4_init_85 : decode cX4_init 85 = .ok (.putfield 37, 3) := by decide +kernel
theorem dX4_init_88 : decode cX4_init 88 = .ok (.aload_n 0, 1) := by decide +kernel
theorem dX4_init_89 : decode cX4_init 89 = .ok (.sipush 2048, 3) := by decide +kernel
theorem dX4_init_92 : decode cX4_init 92 = .ok (.newarray .int, 2) := by decide +kernel
theorem dX4_init_94 : decode cX4_init 94 = .ok (.putfield 40, 3) := by decide +kernel
theorem dX4_init_97 : decode cX4_init 97 = .ok (.aload_n 0, 1) := by decide +kernel
theorem dX4_init_98 : decode cX4_init 98 = .ok (.sipush 2048, 3) := by decide +kernel
theorem dX4_init_101 : decode cX4_init 101 = .ok (.newarray .boolean, 2) := by decide +kernel
theorem dX4_init_103 : decode cX4_init 103 = .ok (.putfield 43, 3) := by decide +kernel
theorem dX4_init_106 : decode cX4_init 106 = .ok (.aload_n 0, 1) := by decide +kernel
theorem dX4_init_107 : decode cX4_init 107 = .ok (.iconst 2, 1) := by decide +kernel
theorem dX4_init_108 : decode cX4_init 108 = .ok (.newarray .int, 2) := by decide +kernel
theorem dX4_init_110 : decode cX4_init 110 = .ok (.putfield 47, 3) := by decide +kernel
theorem dX4_init_113 : decode cX4_init 113 = .ok (.aload_n 0, 1) := by decide +kernel
theorem dX4_init_114 : decode cX4_init 114 = .ok (.iconst 2, 1) := by decide +kernel
theorem dX4_init_115 : decode cX4_init 115 = .ok (.newarray .int, 2) := by decide +kernel
theorem dX4_init_117 : decode cX4_init 117 = .ok (.putfield 50, 3) := by decide +kernel
theorem dX4_init_120 : decode cX4_init 120 = .ok (.aload_n 0, 1) := by decide +kernel
theorem dX4_init_121 : decode cX4_init 121 = .ok (.iconst 2, 1) := by decide +kernel
theorem dX4_init_122 : decode cX4_init 122 = .ok (.newarray .int, 2) := by decide +kernel
theorem dX4_init_124 : decode cX4_init 124 = .ok (.putfield 53, 3) := by decide +kernel
theorem dX4_init_127 : decode cX4_init 127 = .ok (.aload_n 0, 1) := by decide +kernel
theorem dX4_init_128 : decode cX4_init 128 = .ok (.iconst 2, 1) := by decide +kernel
theorem dX4_init_129 : decode cX4_init 129 = .ok (.newarray .int, 2) := by decide +kernel
theorem dX4_init_131 : decode cX4_init 131 = .ok (.putfield 56, 3) := by decide +kernel
theorem dX4_init_134 : decode cX4_init 134 = .ok (.aload_n 0, 1) := by decide +kernel
theorem dX4_init_135 : decode cX4_init 135 = .ok (.bipush 20, 2) := by decide +kernel
theorem dX4_init_137 : decode cX4_init 137 = .ok (.newarray .int, 2) := by decide +kernel
theorem dX4_init_139 : decode cX4_init 139 = .ok (.putfield 59, 3) := by decide +kernel
theorem dX4_init_142 : decode cX4_init 142 = .ok (.aload_n 0, 1) := by decide +kernel
theorem dX4_init_143 : decode cX4_init 143 = .ok (.bipush 20, 2) := by decide +kernel
theorem dX4_init_145 : decode cX4_init 145 = .ok (.newarray .int, 2) := by decide +kernel
theorem dX4_init_147 : decode cX4_init 147 = .ok (.putfield 62, 3) := by decide +kernel
theorem dX4_init_150 : decode cX4_init 150 = .ok (.aload_n 0, 1) := by decide +kernel
theorem dX4_init_151 : decode cX4_init 151 = .ok (.iconst 2, 1) := by decide +kernel
theorem dX4_init_152 : decode cX4_init 152 = .ok (.newarray .int, 2) := by decide +kernel
theorem dX4_init_154 : decode cX4_init 154 = .ok (.putfield 65, 3) := by decide +kernel
theorem dX4_init_157 : decode cX4_init 157 = .ok (.aload_n 0, 1) := by decide +kernel
theorem dX4_init_158 : decode cX4_init 158 = .ok (.bipush 20, 2) := by decide +kernel
theorem dX4_init_160 : decode cX4_init 160 = .ok (.newarray .int, 2) := by decide +kernel
theorem dX4_init_162 : decode cX4_init 162 = .ok (.putfield 68, 3) := by decide +kernel
theorem dX4_init_165 : decode cX4_init 165 = .ok (.aload_n 0, 1) := by decide +kernel
theorem dX4_init_166 : decode cX4_init 166 = .ok (.bipush 20, 2) := by decide +kernel
theorem dX4_init_168 : decode cX4_init 168 = .ok (.newarray .int, 2) := by decide +kernel
theorem dX4_init_170 : decode cX4_init 170 = .ok (.putfield 71, 3) := by decide +kernel
theorem dX4_init_173 : decode cX4_init 173 = .ok (.aload_n 0, 1) := by decide +kernel
theorem dX4_init_174 : decode cX4_init 174 = .ok (.bipush 20, 2) := by decide +kernel
theorem dX4_init_176 : decode cX4_init 176 = .ok (.newarray .boolean, 2) := by decide +kernel
theorem dX4_init_178 : decode cX4_init 178 = .ok (.putfield 74, 3) := by decide +kernel
theorem dX4_init_181 : decode cX4_init 181 = .ok (.aload_n 0, 1) := by decide +kernel
theorem dX4_init_182 : decode cX4_init 182 = .ok (.iconst 2, 1) := by decide +kernel
theorem dX4_init_183 : decode cX4_init 183 = .ok (.newarray .int, 2) := by decide +kernel
theorem dX4_init_185 : decode cX4_init 185 = .ok (.putfield 77, 3) := by decide +kernel
theorem dX4_init_188 : decode cX4_init 188 = .ok (.aload_n 0, 1) := by decide +kernel
theorem dX4_init_189 : decode cX4_init 189 = .ok (.getfield 50, 3) := by decide +kernel
theorem dX4_init_192 : decode cX4_init 192 = .ok (.iconst 0, 1) := by decide +kernel
theorem dX4_init_193 : decode cX4_init 193 = .ok (.iconst 5, 1) := by decide +kernel
theorem dX4_init_194 : decode cX4_init 194 = .ok (.iastore, 1) := by decide +kernel
theorem dX4_init_195 : decode cX4_init 195 = .ok (.aload_n 0, 1) := by decide +kernel
theorem dX4_init_196 : decode cX4_init 196 = .ok (.getfield 50, 3) := by decide +kernel
theorem dX4_init_199 : decode cX4_init 199 = .ok (.iconst 1, 1) := by decide +kernel
theorem dX4_init_200 : decode cX4_init 200 = .ok (.iconst 5, 1) := by decide +kernel
theorem dX4_init_201 : decode cX4_init 201 = .ok (.iastore, 1) := by decide +kernel
theorem dX4_init_202 : decode cX4_init 202 = .ok (.return_, 1) := by decide +kernel
theorem dX4_thrown_0 : decode cX4_thrown 0 = .ok (.aload_n 0, 1) := by decide +kernel
theorem dX4_thrown_1 : decode cX4_thrown 1 = .ok (.getfield 80, 3) := by decide +kernel
theorem dX4_thrown_4 : decode cX4_thrown 4 = .ok (.ireturn, 1) := by decide +kernel
theorem dX4_in_0 : decode cX4_in 0 = .ok (.iload_n 0, 1) := by decide +kernel
theorem dX4_in_1 : decode cX4_in 1 = .ok (.iload_n 1, 1) := by decide +kernel
theorem dX4_in_2 : decode cX4_in 2 = .ok (.if_icmp .lt 12, 3) := by decide +kernel
theorem dX4_in_5 : decode cX4_in 5 = .ok (.iload_n 0, 1) := by decide +kernel
theorem dX4_in_6 : decode cX4_in 6 = .ok (.iload_n 2, 1) := by decide +kernel
theorem dX4_in_7 : decode cX4_in 7 = .ok (.if_icmp .gt 7, 3) := by decide +kernel
theorem dX4_in_10 : decode cX4_in 10 = .ok (.iconst 1, 1) := by decide +kernel
theorem dX4_in_11 : decode cX4_in 11 = .ok (.goto 4, 3) := by decide +kernel
theorem dX4_in_14 : decode cX4_in 14 = .ok (.iconst 0, 1) := by decide +kernel
theorem dX4_in_15 : decode cX4_in 15 = .ok (.ireturn, 1) := by decide +kernel
theorem dX4_isFine_0 : decode cX4_isFine 0 = .ok (.aload_n 0, 1) := by decide +kernel
theorem dX4_isFine_1 : decode cX4_isFine 1 = .ok (.iload_n 1, 1) := by decide +kernel
theorem dX4_isFine_2 : decode cX4_isFine 2 = .ok (.putfield 80, 3) := by decide +kernel
theorem dX4_isFine_5 : decode cX4_isFine 5 = .ok (.iload_n 1, 1) := by decide +kernel
theorem dX4_isFine_6 : decode cX4_isFine 6 = .ok (.ifCond .ne 7, 3) := by decide +kernel
theorem dX4_isFine_9 : decode cX4_isFine 9 = .ok (.iconst 1, 1) := by decide +kernel
theorem dX4_isFine_10 : decode cX4_isFine 10 = .ok (.goto 4, 3) := by decide +kernel
theorem dX4_isFine_13 : decode cX4_isFine 13 = .ok (.iconst 0, 1) := by decide +kernel
theorem dX4_isFine_14 : decode cX4_isFine 14 = .ok (.ireturn, 1) := by decide +kernel
theorem dX4_has_0 : decode cX4_has 0 = .ok (.iload_n 0, 1) := by decide +kernel
theorem dX4_has_1 : decode cX4_has 1 = .ok (.iload_n 1, 1) := by decide +kernel
theorem dX4_has_2 : decode cX4_has 2 = .ok (.ishr, 1) := by decide +kernel
theorem dX4_has_3 : decode cX4_has 3 = .ok (.iconst 1, 1) := by decide +kernel
theorem dX4_has_4 : decode cX4_has 4 = .ok (.iand, 1) := by decide +kernel
theorem dX4_has_5 : decode cX4_has 5 = .ok (.iconst 1, 1) := by decide +kernel
theorem dX4_has_6 : decode cX4_has 6 = .ok (.if_icmp .ne 7, 3) := by decide +kernel
theorem dX4_has_9 : decode cX4_has 9 = .ok (.iconst 1, 1) := by decide +kernel
theorem dX4_has_10 : decode cX4_has 10 = .ok (.goto 4, 3) := by decide +kernel
theorem dX4_has_13 : decode cX4_has 13 = .ok (.iconst 0, 1) := by decide +kernel
theorem dX4_has_14 : decode cX4_has 14 = .ok (.ireturn, 1) := by decide +kernel
theorem dX4_isThere_0 : decode cX4_isThere 0 = .ok (.iload_n 1, 1) := by decide +kernel
theorem dX4_isThere_1 : decode cX4_isThere 1 = .ok (.iconst 0, 1) := by decide +kernel
theorem dX4_isThere_2 : decode cX4_isThere 2 = .ok (.aload_n 0, 1) := by decide +kernel
theorem dX4_isThere_3 : decode cX4_isThere 3 = .ok (.getfield 84, 3) := by decide +kernel
theorem dX4_isThere_6 : decode cX4_isThere 6 = .ok (.iconst 1, 1) := by decide +kernel
theorem dX4_isThere_7 : decode cX4_isThere 7 = .ok (.isub, 1) := by decide +kernel
theorem dX4_isThere_8 : decode cX4_isThere 8 = .ok (.invokestatic 87, 3) := by decide +kernel
theorem dX4_isThere_11 : decode cX4_isThere 11 = .ok (.ifCond .eq 16, 3) := by decide +kernel
theorem dX4_isThere_14 : decode cX4_isThere 14 = .ok (.aload_n 0, 1) := by decide +kernel
theorem dX4_isThere_15 : decode cX4_isThere 15 = .ok (.getfield 25, 3) := by decide +kernel
theorem dX4_isThere_18 : decode cX4_isThere 18 = .ok (.iload_n 1, 1) := by decide +kernel
theorem dX4_isThere_19 : decode cX4_isThere 19 = .ok (.iaload, 1) := by decide +kernel
theorem dX4_isThere_20 : decode cX4_isThere 20 = .ok (.ifCond .ne 7, 3) := by decide +kernel
theorem dX4_isThere_23 : decode cX4_isThere 23 = .ok (.iconst 1, 1) := by decide +kernel
theorem dX4_isThere_24 : decode cX4_isThere 24 = .ok (.goto 4, 3) := by decide +kernel
theorem dX4_isThere_27 : decode cX4_isThere 27 = .ok (.iconst 0, 1) := by decide +kernel
theorem dX4_isThere_28 : decode cX4_isThere 28 = .ok (.ireturn, 1) := by decide +kernel
theorem dX4_wasThere_0 : decode cX4_wasThere 0 = .ok (.aload_n 0, 1) := by decide +kernel
theorem dX4_wasThere_1 : decode cX4_wasThere 1 = .ok (.getfield 22, 3) := by decide +kernel
theorem dX4_wasThere_4 : decode cX4_wasThere 4 = .ok (.iload_n 1, 1) := by decide +kernel
theorem dX4_wasThere_5 : decode cX4_wasThere 5 = .ok (.iaload, 1) := by decide +kernel
theorem dX4_wasThere_6 : decode cX4_wasThere 6 = .ok (.iload_n 2, 1) := by decide +kernel
theorem dX4_wasThere_7 : decode cX4_wasThere 7 = .ok (.if_icmp .gt 26, 3) := by decide +kernel
theorem dX4_wasThere_10 : decode cX4_wasThere 10 = .ok (.aload_n 0, 1) := by decide +kernel
theorem dX4_wasThere_11 : decode cX4_wasThere 11 = .ok (.getfield 25, 3) := by decide +kernel
theorem dX4_wasThere_14 : decode cX4_wasThere 14 = .ok (.iload_n 1, 1) := by decide +kernel
theorem dX4_wasThere_15 : decode cX4_wasThere 15 = .ok (.iaload, 1) := by decide +kernel
theorem dX4_wasThere_16 : decode cX4_wasThere 16 = .ok (.ifCond .eq 13, 3) := by decide +kernel
theorem dX4_wasThere_19 : decode cX4_wasThere 19 = .ok (.aload_n 0, 1) := by decide +kernel
theorem dX4_wasThere_20 : decode cX4_wasThere 20 = .ok (.getfield 25, 3) := by decide +kernel
theorem dX4_wasThere_23 : decode cX4_wasThere 23 = .ok (.iload_n 1, 1) := by decide +kernel
theorem dX4_wasThere_24 : decode cX4_wasThere 24 = .ok (.iaload, 1) := by decide +kernel
theorem dX4_wasThere_25 : decode cX4_wasThere 25 = .ok (.iload_n 2, 1) := by decide +kernel
theorem dX4_wasThere_26 : decode cX4_wasThere 26 = .ok (.if_icmp .le 7, 3) := by decide +kernel
theorem dX4_wasThere_29 : decode cX4_wasThere 29 = .ok (.iconst 1, 1) := by decide +kernel
theorem dX4_wasThere_30 : decode cX4_wasThere 30 = .ok (.goto 4, 3) := by decide +kernel
theorem dX4_wasThere_33 : decode cX4_wasThere 33 = .ok (.iconst 0, 1) := by decide +kernel
theorem dX4_wasThere_34 : decode cX4_wasThere 34 = .ok (.ireturn, 1) := by decide +kernel
theorem dX4_notes_0 : decode cX4_notes 0 = .ok (.aload_n 0, 1) := by decide +kernel
theorem dX4_notes_1 : decode cX4_notes 1 = .ok (.getfield 28, 3) := by decide +kernel
theorem dX4_notes_4 : decode cX4_notes 4 = .ok (.aload_n 0, 1) := by decide +kernel
theorem dX4_notes_5 : decode cX4_notes 5 = .ok (.getfield 91, 3) := by decide +kernel
theorem dX4_notes_8 : decode cX4_notes 8 = .ok (.iload_n 1, 1) := by decide +kernel
theorem dX4_notes_9 : decode cX4_notes 9 = .ok (.iastore, 1) := by decide +kernel
theorem dX4_notes_10 : decode cX4_notes 10 = .ok (.aload_n 0, 1) := by decide +kernel
theorem dX4_notes_11 : decode cX4_notes 11 = .ok (.getfield 31, 3) := by decide +kernel
theorem dX4_notes_14 : decode cX4_notes 14 = .ok (.aload_n 0, 1) := by decide +kernel
theorem dX4_notes_15 : decode cX4_notes 15 = .ok (.getfield 91, 3) := by decide +kernel
theorem dX4_notes_18 : decode cX4_notes 18 = .ok (.iload_n 2, 1) := by decide +kernel
theorem dX4_notes_19 : decode cX4_notes 19 = .ok (.iastore, 1) := by decide +kernel
theorem dX4_notes_20 : decode cX4_notes 20 = .ok (.aload_n 0, 1) := by decide +kernel
theorem dX4_notes_21 : decode cX4_notes 21 = .ok (.getfield 34, 3) := by decide +kernel
theorem dX4_notes_24 : decode cX4_notes 24 = .ok (.aload_n 0, 1) := by decide +kernel
theorem dX4_notes_25 : decode cX4_notes 25 = .ok (.getfield 91, 3) := by decide +kernel
theorem dX4_notes_28 : decode cX4_notes 28 = .ok (.aload_n 0, 1) := by decide +kernel
theorem dX4_notes_29 : decode cX4_notes 29 = .ok (.getfield 13, 3) := by decide +kernel
theorem dX4_notes_32 : decode cX4_notes 32 = .ok (.iload_n 2, 1) := by decide +kernel
theorem dX4_notes_33 : decode cX4_notes 33 = .ok (.iaload, 1) := by decide +kernel
theorem dX4_notes_34 : decode cX4_notes 34 = .ok (.iastore, 1) := by decide +kernel
theorem dX4_notes_35 : decode cX4_notes 35 = .ok (.aload_n 0, 1) := by decide +kernel
theorem dX4_notes_36 : decode cX4_notes 36 = .ok (.getfield 37, 3) := by decide +kernel
theorem dX4_notes_39 : decode cX4_notes 39 = .ok (.aload_n 0, 1) := by decide +kernel
theorem dX4_notes_40 : decode cX4_notes 40 = .ok (.getfield 91, 3) := by decide +kernel
theorem dX4_notes_43 : decode cX4_notes 43 = .ok (.aload_n 0, 1) := by decide +kernel
theorem dX4_notes_44 : decode cX4_notes 44 = .ok (.getfield 16, 3) := by decide +kernel
theorem dX4_notes_47 : decode cX4_notes 47 = .ok (.iload_n 2, 1) := by decide +kernel
theorem dX4_notes_48 : decode cX4_notes 48 = .ok (.iaload, 1) := by decide +kernel
theorem dX4_notes_49 : decode cX4_notes 49 = .ok (.iastore, 1) := by decide +kernel
theorem dX4_notes_50 : decode cX4_notes 50 = .ok (.aload_n 0, 1) := by decide +kernel
theorem dX4_notes_51 : decode cX4_notes 51 = .ok (.getfield 40, 3) := by decide +kernel
theorem dX4_notes_54 : decode cX4_notes 54 = .ok (.aload_n 0, 1) := by decide +kernel
theorem dX4_notes_55 : decode cX4_notes 55 = .ok (.getfield 91, 3) := by decide +kernel
theorem dX4_notes_58 : decode cX4_notes 58 = .ok (.iload_n 3, 1) := by decide +kernel
theorem dX4_notes_59 : decode cX4_notes 59 = .ok (.iastore, 1) := by decide +kernel
theorem dX4_notes_60 : decode cX4_notes 60 = .ok (.aload_n 0, 1) := by decide +kernel
theorem dX4_notes_61 : decode cX4_notes 61 = .ok (.getfield 43, 3) := by decide +kernel
theorem dX4_notes_64 : decode cX4_notes 64 = .ok (.aload_n 0, 1) := by decide +kernel
theorem dX4_notes_65 : decode cX4_notes 65 = .ok (.getfield 91, 3) := by decide +kernel
theorem dX4_notes_68 : decode cX4_notes 68 = .ok (.iload 4, 2) := by decide +kernel
theorem dX4_notes_70 : decode cX4_notes 70 = .ok (.bastore, 1) := by decide +kernel
theorem dX4_notes_71 : decode cX4_notes 71 = .ok (.aload_n 0, 1) := by decide +kernel
theorem dX4_notes_72 : decode cX4_notes 72 = .ok (.dup, 1) := by decide +kernel
theorem dX4_notes_73 : decode cX4_notes 73 = .ok (.getfield 91, 3) := by decide +kernel
theorem dX4_notes_76 : decode cX4_notes 76 = .ok (.iconst 1, 1) := by decide +kernel
theorem dX4_notes_77 : decode cX4_notes 77 = .ok (.iadd, 1) := by decide +kernel
theorem dX4_notes_78 : decode cX4_notes 78 = .ok (.putfield 91, 3) := by decide +kernel
theorem dX4_notes_81 : decode cX4_notes 81 = .ok (.return_, 1) := by decide +kernel
theorem dX4_add_0 : decode cX4_add 0 = .ok (.aload_n 0, 1) := by decide +kernel
theorem dX4_add_1 : decode cX4_add 1 = .ok (.iload_n 1, 1) := by decide +kernel
theorem dX4_add_2 : decode cX4_add 2 = .ok (.iconst 0, 1) := by decide +kernel
theorem dX4_add_3 : decode cX4_add 3 = .ok (.sipush 9999, 3) := by decide +kernel
theorem dX4_add_6 : decode cX4_add 6 = .ok (.invokestatic 87, 3) := by decide +kernel
theorem dX4_add_9 : decode cX4_add 9 = .ok (.ifCond .eq 23, 3) := by decide +kernel
theorem dX4_add_12 : decode cX4_add 12 = .ok (.iload_n 2, 1) := by decide +kernel
theorem dX4_add_13 : decode cX4_add 13 = .ok (.iconst 1, 1) := by decide +kernel
theorem dX4_add_14 : decode cX4_add 14 = .ok (.bipush 63, 2) := by decide +kernel
theorem dX4_add_16 : decode cX4_add 16 = .ok (.invokestatic 87, 3) := by decide +kernel
theorem dX4_add_19 : decode cX4_add 19 = .ok (.ifCond .eq 13, 3) := by decide +kernel
theorem dX4_add_22 : decode cX4_add 22 = .ok (.iload_n 3, 1) := by decide +kernel
theorem dX4_add_23 : decode cX4_add 23 = .ok (.iconst 0, 1) := by decide +kernel
theorem dX4_add_24 : decode cX4_add 24 = .ok (.bipush 9, 2) := by decide +kernel
theorem dX4_add_26 : decode cX4_add 26 = .ok (.invokestatic 87, 3) := by decide +kernel
theorem dX4_add_29 : decode cX4_add 29 = .ok (.ifCond .ne 7, 3) := by decide +kernel
theorem dX4_add_32 : decode cX4_add 32 = .ok (.iconst 1, 1) := by decide +kernel
theorem dX4_add_33 : decode cX4_add 33 = .ok (.goto 17, 3) := by decide +kernel
theorem dX4_add_36 : decode cX4_add 36 = .ok (.aload_n 0, 1) := by decide +kernel
theorem dX4_add_37 : decode cX4_add 37 = .ok (.getfield 84, 3) := by decide +kernel
theorem dX4_add_40 : decode cX4_add 40 = .ok (.bipush 60, 2) := by decide +kernel
theorem dX4_add_42 : decode cX4_add 42 = .ok (.if_icmp .ne 7, 3) := by decide +kernel
theorem dX4_add_45 : decode cX4_add 45 = .ok (.iconst 2, 1) := by decide +kernel
theorem dX4_add_46 : decode cX4_add 46 = .ok (.goto 4, 3) := by decide +kernel
theorem dX4_add_49 : decode cX4_add 49 = .ok (.iconst 0, 1) := by decide +kernel
theorem dX4_add_50 : decode cX4_add 50 = .ok (.invokevirtual 94, 3) := by decide +kernel
theorem dX4_add_53 : decode cX4_add 53 = .ok (.ifCond .ne 5, 3) := by decide +kernel
theorem dX4_add_56 : decode cX4_add 56 = .ok (.iconst 0, 1) := by decide +kernel
theorem dX4_add_57 : decode cX4_add 57 = .ok (.ireturn, 1) := by decide +kernel
theorem dX4_add_58 : decode cX4_add 58 = .ok (.aload_n 0, 1) := by decide +kernel
theorem dX4_add_59 : decode cX4_add 59 = .ok (.iconst 0, 1) := by decide +kernel
theorem dX4_add_60 : decode cX4_add 60 = .ok (.aload_n 0, 1) := by decide +kernel
theorem dX4_add_61 : decode cX4_add 61 = .ok (.getfield 84, 3) := by decide +kernel
theorem dX4_add_64 : decode cX4_add 64 = .ok (.iconst (-1), 1) := by decide +kernel
theorem dX4_add_65 : decode cX4_add 65 = .ok (.iconst 0, 1) := by decide +kernel
theorem dX4_add_66 : decode cX4_add 66 = .ok (.invokevirtual 98, 3) := by decide +kernel
theorem dX4_add_69 : decode cX4_add 69 = .ok (.aload_n 0, 1) := by decide +kernel
theorem dX4_add_70 : decode cX4_add 70 = .ok (.getfield 7, 3) := by decide +kernel
theorem dX4_add_73 : decode cX4_add 73 = .ok (.aload_n 0, 1) := by decide +kernel
theorem dX4_add_74 : decode cX4_add 74 = .ok (.getfield 84, 3) := by decide +kernel
theorem dX4_add_77 : decode cX4_add 77 = .ok (.iload_n 1, 1) := by decide +kernel
theorem dX4_add_78 : decode cX4_add 78 = .ok (.iastore, 1) := by decide +kernel
theorem dX4_add_79 : decode cX4_add 79 = .ok (.aload_n 0, 1) := by decide +kernel
theorem dX4_add_80 : decode cX4_add 80 = .ok (.getfield 13, 3) := by decide +kernel
theorem dX4_add_83 : decode cX4_add 83 = .ok (.aload_n 0, 1) := by decide +kernel
theorem dX4_add_84 : decode cX4_add 84 = .ok (.getfield 84, 3) := by decide +kernel
theorem dX4_add_87 : decode cX4_add 87 = .ok (.iload_n 2, 1) := by decide +kernel
theorem dX4_add_88 : decode cX4_add 88 = .ok (.iastore, 1) := by decide +kernel
theorem dX4_add_89 : decode cX4_add 89 = .ok (.aload_n 0, 1) := by decide +kernel
theorem dX4_add_90 : decode cX4_add 90 = .ok (.getfield 19, 3) := by decide +kernel
theorem dX4_add_93 : decode cX4_add 93 = .ok (.aload_n 0, 1) := by decide +kernel
theorem dX4_add_94 : decode cX4_add 94 = .ok (.getfield 84, 3) := by decide +kernel
theorem dX4_add_97 : decode cX4_add 97 = .ok (.iload_n 3, 1) := by decide +kernel
theorem dX4_add_98 : decode cX4_add 98 = .ok (.iastore, 1) := by decide +kernel
theorem dX4_add_99 : decode cX4_add 99 = .ok (.aload_n 0, 1) := by decide +kernel
theorem dX4_add_100 : decode cX4_add 100 = .ok (.getfield 22, 3) := by decide +kernel
theorem dX4_add_103 : decode cX4_add 103 = .ok (.aload_n 0, 1) := by decide +kernel
theorem dX4_add_104 : decode cX4_add 104 = .ok (.getfield 84, 3) := by decide +kernel
theorem dX4_add_107 : decode cX4_add 107 = .ok (.aload_n 0, 1) := by decide +kernel
theorem dX4_add_108 : decode cX4_add 108 = .ok (.getfield 91, 3) := by decide +kernel
theorem dX4_add_111 : decode cX4_add 111 = .ok (.iastore, 1) := by decide +kernel
theorem dX4_add_112 : decode cX4_add 112 = .ok (.aload_n 0, 1) := by decide +kernel
theorem dX4_add_113 : decode cX4_add 113 = .ok (.dup, 1) := by decide +kernel
theorem dX4_add_114 : decode cX4_add 114 = .ok (.getfield 84, 3) := by decide +kernel
theorem dX4_add_117 : decode cX4_add 117 = .ok (.iconst 1, 1) := by decide +kernel
theorem dX4_add_118 : decode cX4_add 118 = .ok (.iadd, 1) := by decide +kernel
theorem dX4_add_119 : decode cX4_add 119 = .ok (.putfield 84, 3) := by decide +kernel
theorem dX4_add_122 : decode cX4_add 122 = .ok (.aload_n 0, 1) := by decide +kernel
theorem dX4_add_123 : decode cX4_add 123 = .ok (.getfield 84, 3) := by decide +kernel
theorem dX4_add_126 : decode cX4_add 126 = .ok (.iconst 1, 1) := by decide +kernel
theorem dX4_add_127 : decode cX4_add 127 = .ok (.isub, 1) := by decide +kernel
theorem dX4_add_128 : decode cX4_add 128 = .ok (.ireturn, 1) := by decide +kernel
theorem dX4_move_0 : decode cX4_move 0 = .ok (.aload_n 0, 1) := by decide +kernel
theorem dX4_move_1 : decode cX4_move 1 = .ok (.aload_n 0, 1) := by decide +kernel
theorem dX4_move_2 : decode cX4_move 2 = .ok (.iload_n 1, 1) := by decide +kernel
theorem dX4_move_3 : decode cX4_move 3 = .ok (.invokevirtual 102, 3) := by decide +kernel
theorem dX4_move_6 : decode cX4_move 6 = .ok (.ifCond .ne 7, 3) := by decide +kernel
theorem dX4_move_9 : decode cX4_move 9 = .ok (.iconst 1, 1) := by decide +kernel
theorem dX4_move_10 : decode cX4_move 10 = .ok (.goto 18, 3) := by decide +kernel
theorem dX4_move_13 : decode cX4_move 13 = .ok (.iload_n 2, 1) := by decide +kernel
theorem dX4_move_14 : decode cX4_move 14 = .ok (.iconst 1, 1) := by decide +kernel
theorem dX4_move_15 : decode cX4_move 15 = .ok (.bipush 63, 2) := by decide +kernel
theorem dX4_move_17 : decode cX4_move 17 = .ok (.invokestatic 87, 3) := by decide +kernel
theorem dX4_move_20 : decode cX4_move 20 = .ok (.ifCond .ne 7, 3) := by decide +kernel
theorem dX4_move_23 : decode cX4_move 23 = .ok (.iconst 2, 1) := by decide +kernel
theorem dX4_move_24 : decode cX4_move 24 = .ok (.goto 4, 3) := by decide +kernel
theorem dX4_move_27 : decode cX4_move 27 = .ok (.iconst 0, 1) := by decide +kernel
theorem dX4_move_28 : decode cX4_move 28 = .ok (.invokevirtual 94, 3) := by decide +kernel
theorem dX4_move_31 : decode cX4_move 31 = .ok (.ifCond .ne 5, 3) := by decide +kernel
theorem dX4_move_34 : decode cX4_move 34 = .ok (.iconst 0, 1) := by decide +kernel
theorem dX4_move_35 : decode cX4_move 35 = .ok (.ireturn, 1) := by decide +kernel
theorem dX4_move_36 : decode cX4_move 36 = .ok (.aload_n 0, 1) := by decide +kernel
theorem dX4_move_37 : decode cX4_move 37 = .ok (.getfield 13, 3) := by decide +kernel
theorem dX4_move_40 : decode cX4_move 40 = .ok (.iload_n 1, 1) := by decide +kernel
theorem dX4_move_41 : decode cX4_move 41 = .ok (.iaload, 1) := by decide +kernel
theorem dX4_move_42 : decode cX4_move 42 = .ok (.istore_n 3, 1) := by decide +kernel
theorem dX4_move_43 : decode cX4_move 43 = .ok (.iload_n 3, 1) := by decide +kernel
theorem dX4_move_44 : decode cX4_move 44 = .ok (.iload_n 2, 1) := by decide +kernel
theorem dX4_move_45 : decode cX4_move 45 = .ok (.if_icmp .eq 18, 3) := by decide +kernel
theorem dX4_move_48 : decode cX4_move 48 = .ok (.aload_n 0, 1) := by decide +kernel
theorem dX4_move_49 : decode cX4_move 49 = .ok (.iconst 1, 1) := by decide +kernel
theorem dX4_move_50 : decode cX4_move 50 = .ok (.iload_n 1, 1) := by decide +kernel
theorem dX4_move_51 : decode cX4_move 51 = .ok (.iconst (-1), 1) := by decide +kernel
theorem dX4_move_52 : decode cX4_move 52 = .ok (.iconst 0, 1) := by decide +kernel
theorem dX4_move_53 : decode cX4_move 53 = .ok (.invokevirtual 98, 3) := by decide +kernel
theorem dX4_move_56 : decode cX4_move 56 = .ok (.aload_n 0, 1) := by decide +kernel
theorem dX4_move_57 : decode cX4_move 57 = .ok (.getfield 13, 3) := by decide +kernel
theorem dX4_move_60 : decode cX4_move 60 = .ok (.iload_n 1, 1) := by decide +kernel
theorem dX4_move_61 : decode cX4_move 61 = .ok (.iload_n 2, 1) := by decide +kernel
theorem dX4_move_62 : decode cX4_move 62 = .ok (.iastore, 1) := by decide +kernel
theorem dX4_move_63 : decode cX4_move 63 = .ok (.iload_n 3, 1) := by decide +kernel
theorem dX4_move_64 : decode cX4_move 64 = .ok (.ireturn, 1) := by decide +kernel
theorem dX4_flags_0 : decode cX4_flags 0 = .ok (.aload_n 0, 1) := by decide +kernel
theorem dX4_flags_1 : decode cX4_flags 1 = .ok (.getfield 16, 3) := by decide +kernel
theorem dX4_flags_4 : decode cX4_flags 4 = .ok (.iload_n 1, 1) := by decide +kernel
theorem dX4_flags_5 : decode cX4_flags 5 = .ok (.iaload, 1) := by decide +kernel
theorem dX4_flags_6 : decode cX4_flags 6 = .ok (.iload_n 2, 1) := by decide +kernel
theorem dX4_flags_7 : decode cX4_flags 7 = .ok (.invokestatic 105, 3) := by decide +kernel
theorem dX4_flags_10 : decode cX4_flags 10 = .ok (.iload_n 3, 1) := by decide +kernel
theorem dX4_flags_11 : decode cX4_flags 11 = .ok (.if_icmp .ne 5, 3) := by decide +kernel
theorem dX4_flags_14 : decode cX4_flags 14 = .ok (.iconst 0, 1) := by decide +kernel
theorem dX4_flags_15 : decode cX4_flags 15 = .ok (.ireturn, 1) := by decide +kernel
theorem dX4_flags_16 : decode cX4_flags 16 = .ok (.aload_n 0, 1) := by decide +kernel
theorem dX4_flags_17 : decode cX4_flags 17 = .ok (.iconst 2, 1) := by decide +kernel
theorem dX4_flags_18 : decode cX4_flags 18 = .ok (.iload_n 1, 1) := by decide +kernel
theorem dX4_flags_19 : decode cX4_flags 19 = .ok (.iload_n 2, 1) := by decide +kernel
theorem dX4_flags_20 : decode cX4_flags 20 = .ok (.iload_n 3, 1) := by decide +kernel
theorem dX4_flags_21 : decode cX4_flags 21 = .ok (.invokevirtual 98, 3) := by decide +kernel
theorem dX4_flags_24 : decode cX4_flags 24 = .ok (.aload_n 0, 1) := by decide +kernel
theorem dX4_flags_25 : decode cX4_flags 25 = .ok (.getfield 16, 3) := by decide +kernel
theorem dX4_flags_28 : decode cX4_flags 28 = .ok (.iload_n 1, 1) := by decide +kernel
theorem dX4_flags_29 : decode cX4_flags 29 = .ok (.dup2, 1) := by decide +kernel
theorem dX4_flags_30 : decode cX4_flags 30 = .ok (.iaload, 1) := by decide +kernel
theorem dX4_flags_31 : decode cX4_flags 31 = .ok (.iconst 1, 1) := by decide +kernel
theorem dX4_flags_32 : decode cX4_flags 32 = .ok (.iload_n 2, 1) := by decide +kernel
theorem dX4_flags_33 : decode cX4_flags 33 = .ok (.ishl, 1) := by decide +kernel
theorem dX4_flags_34 : decode cX4_flags 34 = .ok (.ixor, 1) := by decide +kernel
theorem dX4_flags_35 : decode cX4_flags 35 = .ok (.iastore, 1) := by decide +kernel
theorem dX4_flags_36 : decode cX4_flags 36 = .ok (.iconst 1, 1) := by decide +kernel
theorem dX4_flags_37 : decode cX4_flags 37 = .ok (.ireturn, 1) := by decide +kernel
theorem dX4_flag_0 : decode cX4_flag 0 = .ok (.aload_n 0, 1) := by decide +kernel
theorem dX4_flag_1 : decode cX4_flag 1 = .ok (.aload_n 0, 1) := by decide +kernel
theorem dX4_flag_2 : decode cX4_flag 2 = .ok (.iload_n 1, 1) := by decide +kernel
theorem dX4_flag_3 : decode cX4_flag 3 = .ok (.invokevirtual 102, 3) := by decide +kernel
theorem dX4_flag_6 : decode cX4_flag 6 = .ok (.ifCond .ne 7, 3) := by decide +kernel
theorem dX4_flag_9 : decode cX4_flag 9 = .ok (.iconst 1, 1) := by decide +kernel
theorem dX4_flag_10 : decode cX4_flag 10 = .ok (.goto 17, 3) := by decide +kernel
theorem dX4_flag_13 : decode cX4_flag 13 = .ok (.iload_n 2, 1) := by decide +kernel
theorem dX4_flag_14 : decode cX4_flag 14 = .ok (.iconst 0, 1) := by decide +kernel
theorem dX4_flag_15 : decode cX4_flag 15 = .ok (.iconst 3, 1) := by decide +kernel
theorem dX4_flag_16 : decode cX4_flag 16 = .ok (.invokestatic 87, 3) := by decide +kernel
theorem dX4_flag_19 : decode cX4_flag 19 = .ok (.ifCond .ne 7, 3) := by decide +kernel
theorem dX4_flag_22 : decode cX4_flag 22 = .ok (.iconst 2, 1) := by decide +kernel
theorem dX4_flag_23 : decode cX4_flag 23 = .ok (.goto 4, 3) := by decide +kernel
theorem dX4_flag_26 : decode cX4_flag 26 = .ok (.iconst 0, 1) := by decide +kernel
theorem dX4_flag_27 : decode cX4_flag 27 = .ok (.invokevirtual 94, 3) := by decide +kernel
theorem dX4_flag_30 : decode cX4_flag 30 = .ok (.ifCond .eq 17, 3) := by decide +kernel
theorem dX4_flag_33 : decode cX4_flag 33 = .ok (.aload_n 0, 1) := by decide +kernel
theorem dX4_flag_34 : decode cX4_flag 34 = .ok (.iload_n 1, 1) := by decide +kernel
theorem dX4_flag_35 : decode cX4_flag 35 = .ok (.iload_n 2, 1) := by decide +kernel
theorem dX4_flag_36 : decode cX4_flag 36 = .ok (.iload_n 3, 1) := by decide +kernel
theorem dX4_flag_37 : decode cX4_flag 37 = .ok (.invokevirtual 109, 3) := by decide +kernel
theorem dX4_flag_40 : decode cX4_flag 40 = .ok (.ifCond .eq 7, 3) := by decide +kernel
theorem dX4_flag_43 : decode cX4_flag 43 = .ok (.iconst 1, 1) := by decide +kernel
theorem dX4_flag_44 : decode cX4_flag 44 = .ok (.goto 4, 3) := by decide +kernel
theorem dX4_flag_47 : decode cX4_flag 47 = .ok (.iconst 0, 1) := by decide +kernel
theorem dX4_flag_48 : decode cX4_flag 48 = .ok (.ireturn, 1) := by decide +kernel
theorem dX4_flagIf_0 : decode cX4_flagIf 0 = .ok (.aload_n 0, 1) := by decide +kernel
theorem dX4_flagIf_1 : decode cX4_flagIf 1 = .ok (.iload_n 1, 1) := by decide +kernel
theorem dX4_flagIf_2 : decode cX4_flagIf 2 = .ok (.invokevirtual 102, 3) := by decide +kernel
theorem dX4_flagIf_5 : decode cX4_flagIf 5 = .ok (.ifCond .ne 7, 3) := by decide +kernel
theorem dX4_flagIf_8 : decode cX4_flagIf 8 = .ok (.iconst 1, 1) := by decide +kernel
theorem dX4_flagIf_9 : decode cX4_flagIf 9 = .ok (.goto 30, 3) := by decide +kernel
theorem dX4_flagIf_12 : decode cX4_flagIf 12 = .ok (.iload_n 2, 1) := by decide +kernel
theorem dX4_flagIf_13 : decode cX4_flagIf 13 = .ok (.iconst 0, 1) := by decide +kernel
theorem dX4_flagIf_14 : decode cX4_flagIf 14 = .ok (.iconst 3, 1) := by decide +kernel
theorem dX4_flagIf_15 : decode cX4_flagIf 15 = .ok (.invokestatic 87, 3) := by decide +kernel
theorem dX4_flagIf_18 : decode cX4_flagIf 18 = .ok (.ifCond .ne 7, 3) := by decide +kernel
theorem dX4_flagIf_21 : decode cX4_flagIf 21 = .ok (.iconst 2, 1) := by decide +kernel
theorem dX4_flagIf_22 : decode cX4_flagIf 22 = .ok (.goto 17, 3) := by decide +kernel
theorem dX4_flagIf_25 : decode cX4_flagIf 25 = .ok (.iload 4, 2) := by decide +kernel
theorem dX4_flagIf_27 : decode cX4_flagIf 27 = .ok (.aload_n 0, 1) := by decide +kernel
theorem dX4_flagIf_28 : decode cX4_flagIf 28 = .ok (.getfield 91, 3) := by decide +kernel
theorem dX4_flagIf_31 : decode cX4_flagIf 31 = .ok (.if_icmp .eq 7, 3) := by decide +kernel
theorem dX4_flagIf_34 : decode cX4_flagIf 34 = .ok (.iconst 3, 1) := by decide +kernel
theorem dX4_flagIf_35 : decode cX4_flagIf 35 = .ok (.goto 4, 3) := by decide +kernel
theorem dX4_flagIf_38 : decode cX4_flagIf 38 = .ok (.iconst 0, 1) := by decide +kernel
theorem dX4_flagIf_39 : decode cX4_flagIf 39 = .ok (.istore 5, 2) := by decide +kernel
theorem dX4_flagIf_41 : decode cX4_flagIf 41 = .ok (.aload_n 0, 1) := by decide +kernel
theorem dX4_flagIf_42 : decode cX4_flagIf 42 = .ok (.iload 5, 2) := by decide +kernel
theorem dX4_flagIf_44 : decode cX4_flagIf 44 = .ok (.invokevirtual 94, 3) := by decide +kernel
theorem dX4_flagIf_47 : decode cX4_flagIf 47 = .ok (.ifCond .eq 17, 3) := by decide +kernel
theorem dX4_flagIf_50 : decode cX4_flagIf 50 = .ok (.aload_n 0, 1) := by decide +kernel
theorem dX4_flagIf_51 : decode cX4_flagIf 51 = .ok (.iload_n 1, 1) := by decide +kernel
theorem dX4_flagIf_52 : decode cX4_flagIf 52 = .ok (.iload_n 2, 1) := by decide +kernel
theorem dX4_flagIf_53 : decode cX4_flagIf 53 = .ok (.iload_n 3, 1) := by decide +kernel
theorem dX4_flagIf_54 : decode cX4_flagIf 54 = .ok (.invokevirtual 109, 3) := by decide +kernel
theorem dX4_flagIf_57 : decode cX4_flagIf 57 = .ok (.ifCond .eq 7, 3) := by decide +kernel
theorem dX4_flagIf_60 : decode cX4_flagIf 60 = .ok (.iconst 1, 1) := by decide +kernel
theorem dX4_flagIf_61 : decode cX4_flagIf 61 = .ok (.goto 4, 3) := by decide +kernel
theorem dX4_flagIf_64 : decode cX4_flagIf 64 = .ok (.iconst 0, 1) := by decide +kernel
theorem dX4_flagIf_65 : decode cX4_flagIf 65 = .ok (.ireturn, 1) := by decide +kernel
theorem dX4_destroy_0 : decode cX4_destroy 0 = .ok (.aload_n 0, 1) := by decide +kernel
theorem dX4_destroy_1 : decode cX4_destroy 1 = .ok (.aload_n 0, 1) := by decide +kernel
theorem dX4_destroy_2 : decode cX4_destroy 2 = .ok (.iload_n 1, 1) := by decide +kernel
theorem dX4_destroy_3 : decode cX4_destroy 3 = .ok (.invokevirtual 102, 3) := by decide +kernel
theorem dX4_destroy_6 : decode cX4_destroy 6 = .ok (.ifCond .eq 7, 3) := by decide +kernel
theorem dX4_destroy_9 : decode cX4_destroy 9 = .ok (.iconst 0, 1) := by decide +kernel
theorem dX4_destroy_10 : decode cX4_destroy 10 = .ok (.goto 4, 3) := by decide +kernel
theorem dX4_destroy_13 : decode cX4_destroy 13 = .ok (.iconst 1, 1) := by decide +kernel
theorem dX4_destroy_14 : decode cX4_destroy 14 = .ok (.invokevirtual 94, 3) := by decide +kernel
theorem dX4_destroy_17 : decode cX4_destroy 17 = .ok (.ifCond .ne 5, 3) := by decide +kernel
theorem dX4_destroy_20 : decode cX4_destroy 20 = .ok (.iconst 0, 1) := by decide +kernel
theorem dX4_destroy_21 : decode cX4_destroy 21 = .ok (.ireturn, 1) := by decide +kernel
theorem dX4_destroy_22 : decode cX4_destroy 22 = .ok (.aload_n 0, 1) := by decide +kernel
theorem dX4_destroy_23 : decode cX4_destroy 23 = .ok (.iconst 3, 1) := by decide +kernel
theorem dX4_destroy_24 : decode cX4_destroy 24 = .ok (.iload_n 1, 1) := by decide +kernel
theorem dX4_destroy_25 : decode cX4_destroy 25 = .ok (.iconst (-1), 1) := by decide +kernel
theorem dX4_destroy_26 : decode cX4_destroy 26 = .ok (.iconst 0, 1) := by decide +kernel
theorem dX4_destroy_27 : decode cX4_destroy 27 = .ok (.invokevirtual 98, 3) := by decide +kernel
theorem dX4_destroy_30 : decode cX4_destroy 30 = .ok (.aload_n 0, 1) := by decide +kernel
theorem dX4_destroy_31 : decode cX4_destroy 31 = .ok (.getfield 25, 3) := by decide +kernel
theorem dX4_destroy_34 : decode cX4_destroy 34 = .ok (.iload_n 1, 1) := by decide +kernel
theorem dX4_destroy_35 : decode cX4_destroy 35 = .ok (.aload_n 0, 1) := by decide +kernel
theorem dX4_destroy_36 : decode cX4_destroy 36 = .ok (.getfield 91, 3) := by decide +kernel
theorem dX4_destroy_39 : decode cX4_destroy 39 = .ok (.iastore, 1) := by decide +kernel
theorem dX4_destroy_40 : decode cX4_destroy 40 = .ok (.aload_n 0, 1) := by decide +kernel
theorem dX4_destroy_41 : decode cX4_destroy 41 = .ok (.getfield 91, 3) := by decide +kernel
theorem dX4_destroy_44 : decode cX4_destroy 44 = .ok (.ireturn, 1) := by decide +kernel
theorem dX4_state_0 : decode cX4_state 0 = .ok (.aload_n 0, 1) := by decide +kernel
theorem dX4_state_1 : decode cX4_state 1 = .ok (.iconst 0, 1) := by decide +kernel
theorem dX4_state_2 : decode cX4_state 2 = .ok (.putfield 80, 3) := by decide +kernel
theorem dX4_state_5 : decode cX4_state 5 = .ok (.aload_n 0, 1) := by decide +kernel
theorem dX4_state_6 : decode cX4_state 6 = .ok (.getfield 91, 3) := by decide +kernel
theorem dX4_state_9 : decode cX4_state 9 = .ok (.ireturn, 1) := by decide +kernel
theorem dX4_mails_0 : decode cX4_mails 0 = .ok (.aload_n 0, 1) := by decide +kernel
theorem dX4_mails_1 : decode cX4_mails 1 = .ok (.iconst 0, 1) := by decide +kernel
theorem dX4_mails_2 : decode cX4_mails 2 = .ok (.putfield 80, 3) := by decide +kernel
theorem dX4_mails_5 : decode cX4_mails 5 = .ok (.iconst 0, 1) := by decide +kernel
theorem dX4_mails_6 : decode cX4_mails 6 = .ok (.istore_n 1, 1) := by decide +kernel
theorem dX4_mails_7 : decode cX4_mails 7 = .ok (.iconst 0, 1) := by decide +kernel
theorem dX4_mails_8 : decode cX4_mails 8 = .ok (.istore_n 2, 1) := by decide +kernel
theorem dX4_mails_9 : decode cX4_mails 9 = .ok (.iload_n 2, 1) := by decide +kernel
theorem dX4_mails_10 : decode cX4_mails 10 = .ok (.aload_n 0, 1) := by decide +kernel
theorem dX4_mails_11 : decode cX4_mails 11 = .ok (.getfield 84, 3) := by decide +kernel
theorem dX4_mails_14 : decode cX4_mails 14 = .ok (.if_icmp .ge 26, 3) := by decide +kernel
theorem dX4_mails_17 : decode cX4_mails 17 = .ok (.iload_n 1, 1) := by decide +kernel
theorem dX4_mails_18 : decode cX4_mails 18 = .ok (.aload_n 0, 1) := by decide +kernel
theorem dX4_mails_19 : decode cX4_mails 19 = .ok (.getfield 25, 3) := by decide +kernel
theorem dX4_mails_22 : decode cX4_mails 22 = .ok (.iload_n 2, 1) := by decide +kernel
theorem dX4_mails_23 : decode cX4_mails 23 = .ok (.iaload, 1) := by decide +kernel
theorem dX4_mails_24 : decode cX4_mails 24 = .ok (.ifCond .ne 7, 3) := by decide +kernel
theorem dX4_mails_27 : decode cX4_mails 27 = .ok (.iconst 1, 1) := by decide +kernel
theorem dX4_mails_28 : decode cX4_mails 28 = .ok (.goto 4, 3) := by decide +kernel
theorem dX4_mails_31 : decode cX4_mails 31 = .ok (.iconst 0, 1) := by decide +kernel
theorem dX4_mails_32 : decode cX4_mails 32 = .ok (.iadd, 1) := by decide +kernel
theorem dX4_mails_33 : decode cX4_mails 33 = .ok (.istore_n 1, 1) := by decide +kernel
theorem dX4_mails_34 : decode cX4_mails 34 = .ok (.iinc 2 1, 3) := by decide +kernel
theorem dX4_mails_37 : decode cX4_mails 37 = .ok (.goto (-28), 3) := by decide +kernel
theorem dX4_mails_40 : decode cX4_mails 40 = .ok (.iload_n 1, 1) := by decide +kernel
theorem dX4_mails_41 : decode cX4_mails 41 = .ok (.ireturn, 1) := by decide +kernel
theorem dX4_keywords_0 : decode cX4_keywords 0 = .ok (.aload_n 0, 1) := by decide +kernel
theorem dX4_keywords_1 : decode cX4_keywords 1 = .ok (.aload_n 0, 1) := by decide +kernel
theorem dX4_keywords_2 : decode cX4_keywords 2 = .ok (.iload_n 1, 1) := by decide +kernel
theorem dX4_keywords_3 : decode cX4_keywords 3 = .ok (.invokevirtual 102, 3) := by decide +kernel
theorem dX4_keywords_6 : decode cX4_keywords 6 = .ok (.ifCond .eq 7, 3) := by decide +kernel
theorem dX4_keywords_9 : decode cX4_keywords 9 = .ok (.iconst 0, 1) := by decide +kernel
theorem dX4_keywords_10 : decode cX4_keywords 10 = .ok (.goto 4, 3) := by decide +kernel
theorem dX4_keywords_13 : decode cX4_keywords 13 = .ok (.iconst 1, 1) := by decide +kernel
theorem dX4_keywords_14 : decode cX4_keywords 14 = .ok (.invokevirtual 94, 3) := by decide +kernel
theorem dX4_keywords_17 : decode cX4_keywords 17 = .ok (.ifCond .eq 12, 3) := by decide +kernel
theorem dX4_keywords_20 : decode cX4_keywords 20 = .ok (.aload_n 0, 1) := by decide +kernel
theorem dX4_keywords_21 : decode cX4_keywords 21 = .ok (.getfield 16, 3) := by decide +kernel
theorem dX4_keywords_24 : decode cX4_keywords 24 = .ok (.iload_n 1, 1) := by decide +kernel
theorem dX4_keywords_25 : decode cX4_keywords 25 = .ok (.iaload, 1) := by decide +kernel
theorem dX4_keywords_26 : decode cX4_keywords 26 = .ok (.goto 4, 3) := by decide +kernel
theorem dX4_keywords_29 : decode cX4_keywords 29 = .ok (.iconst 0, 1) := by decide +kernel
theorem dX4_keywords_30 : decode cX4_keywords 30 = .ok (.ireturn, 1) := by decide +kernel
theorem dX4_inThread_0 : decode cX4_inThread 0 = .ok (.iconst 0, 1) := by decide +kernel
theorem dX4_inThread_1 : decode cX4_inThread 1 = .ok (.istore_n 2, 1) := by decide +kernel
theorem dX4_inThread_2 : decode cX4_inThread 2 = .ok (.aload_n 0, 1) := by decide +kernel
theorem dX4_inThread_3 : decode cX4_inThread 3 = .ok (.iload_n 1, 1) := by decide +kernel
theorem dX4_inThread_4 : decode cX4_inThread 4 = .ok (.iconst 0, 1) := by decide +kernel
theorem dX4_inThread_5 : decode cX4_inThread 5 = .ok (.bipush 9, 2) := by decide +kernel
theorem dX4_inThread_7 : decode cX4_inThread 7 = .ok (.invokestatic 87, 3) := by decide +kernel
theorem dX4_inThread_10 : decode cX4_inThread 10 = .ok (.ifCond .eq 7, 3) := by decide +kernel
theorem dX4_inThread_13 : decode cX4_inThread 13 = .ok (.iconst 0, 1) := by decide +kernel
theorem dX4_inThread_14 : decode cX4_inThread 14 = .ok (.goto 4, 3) := by decide +kernel
theorem dX4_inThread_17 : decode cX4_inThread 17 = .ok (.iconst 1, 1) := by decide +kernel
theorem dX4_inThread_18 : decode cX4_inThread 18 = .ok (.invokevirtual 94, 3) := by decide +kernel
theorem dX4_inThread_21 : decode cX4_inThread 21 = .ok (.ifCond .eq 46, 3) := by decide +kernel
theorem dX4_inThread_24 : decode cX4_inThread 24 = .ok (.iconst 0, 1) := by decide +kernel
theorem dX4_inThread_25 : decode cX4_inThread 25 = .ok (.istore_n 3, 1) := by decide +kernel
theorem dX4_inThread_26 : decode cX4_inThread 26 = .ok (.iload_n 3, 1) := by decide +kernel
theorem dX4_inThread_27 : decode cX4_inThread 27 = .ok (.aload_n 0, 1) := by decide +kernel
theorem dX4_inThread_28 : decode cX4_inThread 28 = .ok (.getfield 84, 3) := by decide +kernel
theorem dX4_inThread_31 : decode cX4_inThread 31 = .ok (.if_icmp .ge 36, 3) := by decide +kernel
theorem dX4_inThread_34 : decode cX4_inThread 34 = .ok (.iload_n 2, 1) := by decide +kernel
theorem dX4_inThread_35 : decode cX4_inThread 35 = .ok (.aload_n 0, 1) := by decide +kernel
theorem dX4_inThread_36 : decode cX4_inThread 36 = .ok (.getfield 25, 3) := by decide +kernel
theorem dX4_inThread_39 : decode cX4_inThread 39 = .ok (.iload_n 3, 1) := by decide +kernel
theorem dX4_inThread_40 : decode cX4_inThread 40 = .ok (.iaload, 1) := by decide +kernel
theorem dX4_inThread_41 : decode cX4_inThread 41 = .ok (.ifCond .ne 17, 3) := by decide +kernel
theorem dX4_inThread_44 : decode cX4_inThread 44 = .ok (.aload_n 0, 1) := by decide +kernel
theorem dX4_inThread_45 : decode cX4_inThread 45 = .ok (.getfield 19, 3) := by decide +kernel
theorem dX4_inThread_48 : decode cX4_inThread 48 = .ok (.iload_n 3, 1) := by decide +kernel
theorem dX4_inThread_49 : decode cX4_inThread 49 = .ok (.iaload, 1) := by decide +kernel
theorem dX4_inThread_50 : decode cX4_inThread 50 = .ok (.iload_n 1, 1) := by decide +kernel
theorem dX4_inThread_51 : decode cX4_inThread 51 = .ok (.if_icmp .ne 7, 3) := by decide +kernel
theorem dX4_inThread_54 : decode cX4_inThread 54 = .ok (.iconst 1, 1) := by decide +kernel
theorem dX4_inThread_55 : decode cX4_inThread 55 = .ok (.goto 4, 3) := by decide +kernel
theorem dX4_inThread_58 : decode cX4_inThread 58 = .ok (.iconst 0, 1) := by decide +kernel
theorem dX4_inThread_59 : decode cX4_inThread 59 = .ok (.iadd, 1) := by decide +kernel
theorem dX4_inThread_60 : decode cX4_inThread 60 = .ok (.istore_n 2, 1) := by decide +kernel
theorem dX4_inThread_61 : decode cX4_inThread 61 = .ok (.iinc 3 1, 3) := by decide +kernel
theorem dX4_inThread_64 : decode cX4_inThread 64 = .ok (.goto (-38), 3) := by decide +kernel
theorem dX4_inThread_67 : decode cX4_inThread 67 = .ok (.iload_n 2, 1) := by decide +kernel
theorem dX4_inThread_68 : decode cX4_inThread 68 = .ok (.ireturn, 1) := by decide +kernel
theorem dX4_isFound_0 : decode cX4_isFound 0 = .ok (.aload_n 0, 1) := by decide +kernel
theorem dX4_isFound_1 : decode cX4_isFound 1 = .ok (.getfield 25, 3) := by decide +kernel
theorem dX4_isFound_4 : decode cX4_isFound 4 = .ok (.iload_n 1, 1) := by decide +kernel
theorem dX4_isFound_5 : decode cX4_isFound 5 = .ok (.iaload, 1) := by decide +kernel
theorem dX4_isFound_6 : decode cX4_isFound 6 = .ok (.ifCond .ne 38, 3) := by decide +kernel
theorem dX4_isFound_9 : decode cX4_isFound 9 = .ok (.aload_n 0, 1) := by decide +kernel
theorem dX4_isFound_10 : decode cX4_isFound 10 = .ok (.getfield 13, 3) := by decide +kernel
theorem dX4_isFound_13 : decode cX4_isFound 13 = .ok (.iload_n 1, 1) := by decide +kernel
theorem dX4_isFound_14 : decode cX4_isFound 14 = .ok (.iaload, 1) := by decide +kernel
theorem dX4_isFound_15 : decode cX4_isFound 15 = .ok (.iload_n 2, 1) := by decide +kernel
theorem dX4_isFound_16 : decode cX4_isFound 16 = .ok (.invokestatic 105, 3) := by decide +kernel
theorem dX4_isFound_19 : decode cX4_isFound 19 = .ok (.ifCond .eq 25, 3) := by decide +kernel
theorem dX4_isFound_22 : decode cX4_isFound 22 = .ok (.iload_n 3, 1) := by decide +kernel
theorem dX4_isFound_23 : decode cX4_isFound 23 = .ok (.iconst (-1), 1) := by decide +kernel
theorem dX4_isFound_24 : decode cX4_isFound 24 = .ok (.if_icmp .eq 16, 3) := by decide +kernel
theorem dX4_isFound_27 : decode cX4_isFound 27 = .ok (.aload_n 0, 1) := by decide +kernel
theorem dX4_isFound_28 : decode cX4_isFound 28 = .ok (.getfield 16, 3) := by decide +kernel
theorem dX4_isFound_31 : decode cX4_isFound 31 = .ok (.iload_n 1, 1) := by decide +kernel
theorem dX4_isFound_32 : decode cX4_isFound 32 = .ok (.iaload, 1) := by decide +kernel
theorem dX4_isFound_33 : decode cX4_isFound 33 = .ok (.iload_n 3, 1) := by decide +kernel
theorem dX4_isFound_34 : decode cX4_isFound 34 = .ok (.invokestatic 105, 3) := by decide +kernel
theorem dX4_isFound_37 : decode cX4_isFound 37 = .ok (.ifCond .eq 7, 3) := by decide +kernel
theorem dX4_isFound_40 : decode cX4_isFound 40 = .ok (.iconst 1, 1) := by decide +kernel
theorem dX4_isFound_41 : decode cX4_isFound 41 = .ok (.goto 4, 3) := by decide +kernel
theorem dX4_isFound_44 : decode cX4_isFound 44 = .ok (.iconst 0, 1) := by decide +kernel
theorem dX4_isFound_45 : decode cX4_isFound 45 = .ok (.ireturn, 1) := by decide +kernel
theorem dX4_count_0 : decode cX4_count 0 = .ok (.iconst 0, 1) := by decide +kernel
theorem dX4_count_1 : decode cX4_count 1 = .ok (.istore_n 3, 1) := by decide +kernel
theorem dX4_count_2 : decode cX4_count 2 = .ok (.iconst 0, 1) := by decide +kernel
theorem dX4_count_3 : decode cX4_count 3 = .ok (.istore 4, 2) := by decide +kernel
theorem dX4_count_5 : decode cX4_count 5 = .ok (.iload 4, 2) := by decide +kernel
theorem dX4_count_7 : decode cX4_count 7 = .ok (.aload_n 0, 1) := by decide +kernel
theorem dX4_count_8 : decode cX4_count 8 = .ok (.getfield 84, 3) := by decide +kernel
theorem dX4_count_11 : decode cX4_count 11 = .ok (.if_icmp .ge 28, 3) := by decide +kernel
theorem dX4_count_14 : decode cX4_count 14 = .ok (.iload_n 3, 1) := by decide +kernel
theorem dX4_count_15 : decode cX4_count 15 = .ok (.aload_n 0, 1) := by decide +kernel
theorem dX4_count_16 : decode cX4_count 16 = .ok (.iload 4, 2) := by decide +kernel
theorem dX4_count_18 : decode cX4_count 18 = .ok (.iload_n 1, 1) := by decide +kernel
theorem dX4_count_19 : decode cX4_count 19 = .ok (.iload_n 2, 1) := by decide +kernel
theorem dX4_count_20 : decode cX4_count 20 = .ok (.invokevirtual 112, 3) := by decide +kernel
theorem dX4_count_23 : decode cX4_count 23 = .ok (.ifCond .eq 7, 3) := by decide +kernel
theorem dX4_count_26 : decode cX4_count 26 = .ok (.iconst 1, 1) := by decide +kernel
theorem dX4_count_27 : decode cX4_count 27 = .ok (.goto 4, 3) := by decide +kernel
theorem dX4_count_30 : decode cX4_count 30 = .ok (.iconst 0, 1) := by decide +kernel
theorem dX4_count_31 : decode cX4_count 31 = .ok (.iadd, 1) := by decide +kernel
theorem dX4_count_32 : decode cX4_count 32 = .ok (.istore_n 3, 1) := by decide +kernel
theorem dX4_count_33 : decode cX4_count 33 = .ok (.iinc 4 1, 3) := by decide +kernel
theorem dX4_count_36 : decode cX4_count 36 = .ok (.goto (-31), 3) := by decide +kernel
theorem dX4_count_39 : decode cX4_count 39 = .ok (.iload_n 3, 1) := by decide +kernel
theorem dX4_count_40 : decode cX4_count 40 = .ok (.ireturn, 1) := by decide +kernel
theorem dX4_share_0 : decode cX4_share 0 = .ok (.aload_n 0, 1) := by decide +kernel
theorem dX4_share_1 : decode cX4_share 1 = .ok (.iload_n 1, 1) := by decide +kernel
theorem dX4_share_2 : decode cX4_share 2 = .ok (.iconst 0, 1) := by decide +kernel
theorem dX4_share_3 : decode cX4_share 3 = .ok (.iconst 5, 1) := by decide +kernel
theorem dX4_share_4 : decode cX4_share 4 = .ok (.invokestatic 87, 3) := by decide +kernel
theorem dX4_share_7 : decode cX4_share 7 = .ok (.ifCond .eq 16, 3) := by decide +kernel
theorem dX4_share_10 : decode cX4_share 10 = .ok (.iload_n 2, 1) := by decide +kernel
theorem dX4_share_11 : decode cX4_share 11 = .ok (.iconst 0, 1) := by decide +kernel
theorem dX4_share_12 : decode cX4_share 12 = .ok (.iconst 3, 1) := by decide +kernel
theorem dX4_share_13 : decode cX4_share 13 = .ok (.invokestatic 87, 3) := by decide +kernel
theorem dX4_share_16 : decode cX4_share 16 = .ok (.ifCond .eq 7, 3) := by decide +kernel
theorem dX4_share_19 : decode cX4_share 19 = .ok (.iconst 0, 1) := by decide +kernel
theorem dX4_share_20 : decode cX4_share 20 = .ok (.goto 4, 3) := by decide +kernel
theorem dX4_share_23 : decode cX4_share 23 = .ok (.iconst 1, 1) := by decide +kernel
theorem dX4_share_24 : decode cX4_share 24 = .ok (.invokevirtual 94, 3) := by decide +kernel
theorem dX4_share_27 : decode cX4_share 27 = .ok (.ifCond .ne 5, 3) := by decide +kernel
theorem dX4_share_30 : decode cX4_share 30 = .ok (.fconst 0, 1) := by decide +kernel
theorem dX4_share_31 : decode cX4_share 31 = .ok (.freturn, 1) := by decide +kernel
theorem dX4_share_32 : decode cX4_share 32 = .ok (.aload_n 0, 1) := by decide +kernel
theorem dX4_share_33 : decode cX4_share 33 = .ok (.iload_n 1, 1) := by decide +kernel
theorem dX4_share_34 : decode cX4_share 34 = .ok (.iconst (-1), 1) := by decide +kernel
theorem dX4_share_35 : decode cX4_share 35 = .ok (.invokevirtual 115, 3) := by decide +kernel
theorem dX4_share_38 : decode cX4_share 38 = .ok (.istore_n 3, 1) := by decide +kernel
theorem dX4_share_39 : decode cX4_share 39 = .ok (.iload_n 3, 1) := by decide +kernel
theorem dX4_share_40 : decode cX4_share 40 = .ok (.ifCond .ne 7, 3) := by decide +kernel
theorem dX4_share_43 : decode cX4_share 43 = .ok (.fconst 0, 1) := by decide +kernel
theorem dX4_share_44 : decode cX4_share 44 = .ok (.goto 13, 3) := by decide +kernel
theorem dX4_share_47 : decode cX4_share 47 = .ok (.aload_n 0, 1) := by decide +kernel
theorem dX4_share_48 : decode cX4_share 48 = .ok (.iload_n 1, 1) := by decide +kernel
theorem dX4_share_49 : decode cX4_share 49 = .ok (.iload_n 2, 1) := by decide +kernel
theorem dX4_share_50 : decode cX4_share 50 = .ok (.invokevirtual 115, 3) := by decide +kernel
theorem dX4_share_53 : decode cX4_share 53 = .ok (.i2f, 1) := by decide +kernel
theorem dX4_share_54 : decode cX4_share 54 = .ok (.iload_n 3, 1) := by decide +kernel
theorem dX4_share_55 : decode cX4_share 55 = .ok (.i2f, 1) := by decide +kernel
theorem dX4_share_56 : decode cX4_share 56 = .ok (.fdiv, 1) := by decide +kernel
theorem dX4_share_57 : decode cX4_share 57 = .ok (.freturn, 1) := by decide +kernel
theorem dX4_isState_0 : decode cX4_isState 0 = .ok (.iload_n 1, 1) := by decide +kernel
theorem dX4_isState_1 : decode cX4_isState 1 = .ok (.iconst 0, 1) := by decide +kernel
theorem dX4_isState_2 : decode cX4_isState 2 = .ok (.aload_n 0, 1) := by decide +kernel
theorem dX4_isState_3 : decode cX4_isState 3 = .ok (.getfield 91, 3) := by decide +kernel
theorem dX4_isState_6 : decode cX4_isState 6 = .ok (.invokestatic 87, 3) := by decide +kernel
theorem dX4_isState_9 : decode cX4_isState 9 = .ok (.ireturn, 1) := by decide +kernel
theorem dX4_tells_0 : decode cX4_tells 0 = .ok (.aload_n 0, 1) := by decide +kernel
theorem dX4_tells_1 : decode cX4_tells 1 = .ok (.getfield 91, 3) := by decide +kernel
theorem dX4_tells_4 : decode cX4_tells 4 = .ok (.iload_n 1, 1) := by decide +kernel
theorem dX4_tells_5 : decode cX4_tells 5 = .ok (.isub, 1) := by decide +kernel
theorem dX4_tells_6 : decode cX4_tells 6 = .ok (.bipush 40, 2) := by decide +kernel
theorem dX4_tells_8 : decode cX4_tells 8 = .ok (.if_icmp .gt 7, 3) := by decide +kernel
theorem dX4_tells_11 : decode cX4_tells 11 = .ok (.iconst 1, 1) := by decide +kernel
theorem dX4_tells_12 : decode cX4_tells 12 = .ok (.goto 4, 3) := by decide +kernel
theorem dX4_tells_15 : decode cX4_tells 15 = .ok (.iconst 0, 1) := by decide +kernel
theorem dX4_tells_16 : decode cX4_tells 16 = .ok (.ireturn, 1) := by decide +kernel
theorem dX4_canTell_0 : decode cX4_canTell 0 = .ok (.aload_n 0, 1) := by decide +kernel
theorem dX4_canTell_1 : decode cX4_canTell 1 = .ok (.aload_n 0, 1) := by decide +kernel
theorem dX4_canTell_2 : decode cX4_canTell 2 = .ok (.iload_n 1, 1) := by decide +kernel
theorem dX4_canTell_3 : decode cX4_canTell 3 = .ok (.invokevirtual 119, 3) := by decide +kernel
theorem dX4_canTell_6 : decode cX4_canTell 6 = .ok (.ifCond .eq 7, 3) := by decide +kernel
theorem dX4_canTell_9 : decode cX4_canTell 9 = .ok (.iconst 0, 1) := by decide +kernel
theorem dX4_canTell_10 : decode cX4_canTell 10 = .ok (.goto 4, 3) := by decide +kernel
theorem dX4_canTell_13 : decode cX4_canTell 13 = .ok (.iconst 1, 1) := by decide +kernel
theorem dX4_canTell_14 : decode cX4_canTell 14 = .ok (.invokevirtual 94, 3) := by decide +kernel
theorem dX4_canTell_17 : decode cX4_canTell 17 = .ok (.ifCond .eq 15, 3) := by decide +kernel
theorem dX4_canTell_20 : decode cX4_canTell 20 = .ok (.aload_n 0, 1) := by decide +kernel
theorem dX4_canTell_21 : decode cX4_canTell 21 = .ok (.iload_n 1, 1) := by decide +kernel
theorem dX4_canTell_22 : decode cX4_canTell 22 = .ok (.invokevirtual 122, 3) := by decide +kernel
theorem dX4_canTell_25 : decode cX4_canTell 25 = .ok (.ifCond .eq 7, 3) := by decide +kernel
theorem dX4_canTell_28 : decode cX4_canTell 28 = .ok (.iconst 1, 1) := by decide +kernel
theorem dX4_canTell_29 : decode cX4_canTell 29 = .ok (.goto 4, 3) := by decide +kernel
theorem dX4_canTell_32 : decode cX4_canTell 32 = .ok (.iconst 0, 1) := by decide +kernel
theorem dX4_canTell_33 : decode cX4_canTell 33 = .ok (.ireturn, 1) := by decide +kernel
theorem dX4_isChanged_0 : decode cX4_isChanged 0 = .ok (.iconst 0, 1) := by decide +kernel
theorem dX4_isChanged_1 : decode cX4_isChanged 1 = .ok (.istore_n 3, 1) := by decide +kernel
theorem dX4_isChanged_2 : decode cX4_isChanged 2 = .ok (.iload_n 2, 1) := by decide +kernel
theorem dX4_isChanged_3 : decode cX4_isChanged 3 = .ok (.istore 4, 2) := by decide +kernel
theorem dX4_isChanged_5 : decode cX4_isChanged 5 = .ok (.iload 4, 2) := by decide +kernel
theorem dX4_isChanged_7 : decode cX4_isChanged 7 = .ok (.aload_n 0, 1) := by decide +kernel
theorem dX4_isChanged_8 : decode cX4_isChanged 8 = .ok (.getfield 91, 3) := by decide +kernel
theorem dX4_isChanged_11 : decode cX4_isChanged 11 = .ok (.if_icmp .ge 30, 3) := by decide +kernel
theorem dX4_isChanged_14 : decode cX4_isChanged 14 = .ok (.iload_n 3, 1) := by decide +kernel
theorem dX4_isChanged_15 : decode cX4_isChanged 15 = .ok (.ifCond .ne 14, 3) := by decide +kernel
theorem dX4_isChanged_18 : decode cX4_isChanged 18 = .ok (.aload_n 0, 1) := by decide +kernel
theorem dX4_isChanged_19 : decode cX4_isChanged 19 = .ok (.getfield 31, 3) := by decide +kernel
theorem dX4_isChanged_22 : decode cX4_isChanged 22 = .ok (.iload 4, 2) := by decide +kernel
theorem dX4_isChanged_24 : decode cX4_isChanged 24 = .ok (.iaload, 1) := by decide +kernel
theorem dX4_isChanged_25 : decode cX4_isChanged 25 = .ok (.iload_n 1, 1) := by decide +kernel
theorem dX4_isChanged_26 : decode cX4_isChanged 26 = .ok (.if_icmp .ne 7, 3) := by decide +kernel
theorem dX4_isChanged_29 : decode cX4_isChanged 29 = .ok (.iconst 1, 1) := by decide +kernel
theorem dX4_isChanged_30 : decode cX4_isChanged 30 = .ok (.goto 4, 3) := by decide +kernel
theorem dX4_isChanged_33 : decode cX4_isChanged 33 = .ok (.iconst 0, 1) := by decide +kernel
theorem dX4_isChanged_34 : decode cX4_isChanged 34 = .ok (.istore_n 3, 1) := by decide +kernel
theorem dX4_isChanged_35 : decode cX4_isChanged 35 = .ok (.iinc 4 1, 3) := by decide +kernel
theorem dX4_isChanged_38 : decode cX4_isChanged 38 = .ok (.goto (-33), 3) := by decide +kernel
theorem dX4_isChanged_41 : decode cX4_isChanged 41 = .ok (.iload_n 3, 1) := by decide +kernel
theorem dX4_isChanged_42 : decode cX4_isChanged 42 = .ok (.ireturn, 1) := by decide +kernel
theorem dX4_changedSo_0 : decode cX4_changedSo 0 = .ok (.aload_n 0, 1) := by decide +kernel
theorem dX4_changedSo_1 : decode cX4_changedSo 1 = .ok (.iload_n 1, 1) := by decide +kernel
theorem dX4_changedSo_2 : decode cX4_changedSo 2 = .ok (.iload_n 2, 1) := by decide +kernel
theorem dX4_changedSo_3 : decode cX4_changedSo 3 = .ok (.invokevirtual 125, 3) := by decide +kernel
theorem dX4_changedSo_6 : decode cX4_changedSo 6 = .ok (.istore 4, 2) := by decide +kernel
theorem dX4_changedSo_8 : decode cX4_changedSo 8 = .ok (.aload_n 0, 1) := by decide +kernel
theorem dX4_changedSo_9 : decode cX4_changedSo 9 = .ok (.getfield 25, 3) := by decide +kernel
theorem dX4_changedSo_12 : decode cX4_changedSo 12 = .ok (.iload_n 1, 1) := by decide +kernel
theorem dX4_changedSo_13 : decode cX4_changedSo 13 = .ok (.iaload, 1) := by decide +kernel
theorem dX4_changedSo_14 : decode cX4_changedSo 14 = .ok (.ifCond .ne 7, 3) := by decide +kernel
theorem dX4_changedSo_17 : decode cX4_changedSo 17 = .ok (.iconst 1, 1) := by decide +kernel
theorem dX4_changedSo_18 : decode cX4_changedSo 18 = .ok (.goto 4, 3) := by decide +kernel
theorem dX4_changedSo_21 : decode cX4_changedSo 21 = .ok (.iconst 0, 1) := by decide +kernel
theorem dX4_changedSo_22 : decode cX4_changedSo 22 = .ok (.istore 5, 2) := by decide +kernel
theorem dX4_changedSo_24 : decode cX4_changedSo 24 = .ok (.iload_n 3, 1) := by decide +kernel
theorem dX4_changedSo_25 : decode cX4_changedSo 25 = .ok (.ifCond .ne 21, 3) := by decide +kernel
theorem dX4_changedSo_28 : decode cX4_changedSo 28 = .ok (.iload 5, 2) := by decide +kernel
theorem dX4_changedSo_30 : decode cX4_changedSo 30 = .ok (.ifCond .eq 12, 3) := by decide +kernel
theorem dX4_changedSo_33 : decode cX4_changedSo 33 = .ok (.iload 4, 2) := by decide +kernel
theorem dX4_changedSo_35 : decode cX4_changedSo 35 = .ok (.ifCond .ne 7, 3) := by decide +kernel
theorem dX4_changedSo_38 : decode cX4_changedSo 38 = .ok (.iconst 1, 1) := by decide +kernel
theorem dX4_changedSo_39 : decode cX4_changedSo 39 = .ok (.goto 54, 3) := by decide +kernel
theorem dX4_changedSo_42 : decode cX4_changedSo 42 = .ok (.iconst 0, 1) := by decide +kernel
theorem dX4_changedSo_43 : decode cX4_changedSo 43 = .ok (.goto 50, 3) := by decide +kernel
theorem dX4_changedSo_46 : decode cX4_changedSo 46 = .ok (.iload_n 3, 1) := by decide +kernel
theorem dX4_changedSo_47 : decode cX4_changedSo 47 = .ok (.iconst 2, 1) := by decide +kernel
theorem dX4_changedSo_48 : decode cX4_changedSo 48 = .ok (.if_icmp .ne 21, 3) := by decide +kernel
theorem dX4_changedSo_51 : decode cX4_changedSo 51 = .ok (.iload 4, 2) := by decide +kernel
theorem dX4_changedSo_53 : decode cX4_changedSo 53 = .ok (.ifCond .eq 12, 3) := by decide +kernel
theorem dX4_changedSo_56 : decode cX4_changedSo 56 = .ok (.iload 5, 2) := by decide +kernel
theorem dX4_changedSo_58 : decode cX4_changedSo 58 = .ok (.ifCond .ne 7, 3) := by decide +kernel
theorem dX4_changedSo_61 : decode cX4_changedSo 61 = .ok (.iconst 1, 1) := by decide +kernel
theorem dX4_changedSo_62 : decode cX4_changedSo 62 = .ok (.goto 31, 3) := by decide +kernel
theorem dX4_changedSo_65 : decode cX4_changedSo 65 = .ok (.iconst 0, 1) := by decide +kernel
theorem dX4_changedSo_66 : decode cX4_changedSo 66 = .ok (.goto 27, 3) := by decide +kernel
theorem dX4_changedSo_69 : decode cX4_changedSo 69 = .ok (.iload 4, 2) := by decide +kernel
theorem dX4_changedSo_71 : decode cX4_changedSo 71 = .ok (.ifCond .eq 21, 3) := by decide +kernel
theorem dX4_changedSo_74 : decode cX4_changedSo 74 = .ok (.iload 5, 2) := by decide +kernel
theorem dX4_changedSo_76 : decode cX4_changedSo 76 = .ok (.ifCond .eq 16, 3) := by decide +kernel
theorem dX4_changedSo_79 : decode cX4_changedSo 79 = .ok (.aload_n 0, 1) := by decide +kernel
theorem dX4_changedSo_80 : decode cX4_changedSo 80 = .ok (.iload_n 1, 1) := by decide +kernel
theorem dX4_changedSo_81 : decode cX4_changedSo 81 = .ok (.iload_n 2, 1) := by decide +kernel
theorem dX4_changedSo_82 : decode cX4_changedSo 82 = .ok (.invokevirtual 128, 3) := by decide +kernel
theorem dX4_changedSo_85 : decode cX4_changedSo 85 = .ok (.ifCond .eq 7, 3) := by decide +kernel
theorem dX4_changedSo_88 : decode cX4_changedSo 88 = .ok (.iconst 1, 1) := by decide +kernel
theorem dX4_changedSo_89 : decode cX4_changedSo 89 = .ok (.goto 4, 3) := by decide +kernel
theorem dX4_changedSo_92 : decode cX4_changedSo 92 = .ok (.iconst 0, 1) := by decide +kernel
theorem dX4_changedSo_93 : decode cX4_changedSo 93 = .ok (.ireturn, 1) := by decide +kernel
theorem dX4_placeOf_0 : decode cX4_placeOf 0 = .ok (.aload_n 0, 1) := by decide +kernel
theorem dX4_placeOf_1 : decode cX4_placeOf 1 = .ok (.iload_n 1, 1) := by decide +kernel
theorem dX4_placeOf_2 : decode cX4_placeOf 2 = .ok (.invokevirtual 119, 3) := by decide +kernel
theorem dX4_placeOf_5 : decode cX4_placeOf 5 = .ok (.ifCond .eq 12, 3) := by decide +kernel
theorem dX4_placeOf_8 : decode cX4_placeOf 8 = .ok (.iload_n 2, 1) := by decide +kernel
theorem dX4_placeOf_9 : decode cX4_placeOf 9 = .ok (.iconst 0, 1) := by decide +kernel
theorem dX4_placeOf_10 : decode cX4_placeOf 10 = .ok (.iconst 2, 1) := by decide +kernel
theorem dX4_placeOf_11 : decode cX4_placeOf 11 = .ok (.invokestatic 87, 3) := by decide +kernel
theorem dX4_placeOf_14 : decode cX4_placeOf 14 = .ok (.ifCond .ne 7, 3) := by decide +kernel
theorem dX4_placeOf_17 : decode cX4_placeOf 17 = .ok (.iconst 1, 1) := by decide +kernel
theorem dX4_placeOf_18 : decode cX4_placeOf 18 = .ok (.goto 16, 3) := by decide +kernel
theorem dX4_placeOf_21 : decode cX4_placeOf 21 = .ok (.aload_n 0, 1) := by decide +kernel
theorem dX4_placeOf_22 : decode cX4_placeOf 22 = .ok (.iload_n 1, 1) := by decide +kernel
theorem dX4_placeOf_23 : decode cX4_placeOf 23 = .ok (.invokevirtual 122, 3) := by decide +kernel
theorem dX4_placeOf_26 : decode cX4_placeOf 26 = .ok (.ifCond .ne 7, 3) := by decide +kernel
theorem dX4_placeOf_29 : decode cX4_placeOf 29 = .ok (.iconst 2, 1) := by decide +kernel
theorem dX4_placeOf_30 : decode cX4_placeOf 30 = .ok (.goto 4, 3) := by decide +kernel
theorem dX4_placeOf_33 : decode cX4_placeOf 33 = .ok (.iconst 0, 1) := by decide +kernel
theorem dX4_placeOf_34 : decode cX4_placeOf 34 = .ok (.ireturn, 1) := by decide +kernel
theorem dX4_countChanged_0 : decode cX4_countChanged 0 = .ok (.iconst 0, 1) := by decide +kernel
theorem dX4_countChanged_1 : decode cX4_countChanged 1 = .ok (.istore_n 3, 1) := by decide +kernel
theorem dX4_countChanged_2 : decode cX4_countChanged 2 = .ok (.iconst 0, 1) := by decide +kernel
theorem dX4_countChanged_3 : decode cX4_countChanged 3 = .ok (.istore 4, 2) := by decide +kernel
theorem dX4_countChanged_5 : decode cX4_countChanged 5 = .ok (.iload 4, 2) := by decide +kernel
theorem dX4_countChanged_7 : decode cX4_countChanged 7 = .ok (.aload_n 0, 1) := by decide +kernel
theorem dX4_countChanged_8 : decode cX4_countChanged 8 = .ok (.getfield 84, 3) := by decide +kernel
theorem dX4_countChanged_11 : decode cX4_countChanged 11 = .ok (.if_icmp .ge 28, 3) := by decide +kernel
theorem dX4_countChanged_14 : decode cX4_countChanged 14 = .ok (.iload_n 3, 1) := by decide +kernel
theorem dX4_countChanged_15 : decode cX4_countChanged 15 = .ok (.aload_n 0, 1) := by decide +kernel
theorem dX4_countChanged_16 : decode cX4_countChanged 16 = .ok (.iload 4, 2) := by decide +kernel
theorem dX4_countChanged_18 : decode cX4_countChanged 18 = .ok (.iload_n 1, 1) := by decide +kernel
theorem dX4_countChanged_19 : decode cX4_countChanged 19 = .ok (.iload_n 2, 1) := by decide +kernel
theorem dX4_countChanged_20 : decode cX4_countChanged 20 = .ok (.invokevirtual 131, 3) := by decide +kernel
theorem dX4_countChanged_23 : decode cX4_countChanged 23 = .ok (.ifCond .eq 7, 3) := by decide +kernel
theorem dX4_countChanged_26 : decode cX4_countChanged 26 = .ok (.iconst 1, 1) := by decide +kernel
theorem dX4_countChanged_27 : decode cX4_countChanged 27 = .ok (.goto 4, 3) := by decide +kernel
theorem dX4_countChanged_30 : decode cX4_countChanged 30 = .ok (.iconst 0, 1) := by decide +kernel
theorem dX4_countChanged_31 : decode cX4_countChanged 31 = .ok (.iadd, 1) := by decide +kernel
theorem dX4_countChanged_32 : decode cX4_countChanged 32 = .ok (.istore_n 3, 1) := by decide +kernel
theorem dX4_countChanged_33 : decode cX4_countChanged 33 = .ok (.iinc 4 1, 3) := by decide +kernel
theorem dX4_countChanged_36 : decode cX4_countChanged 36 = .ok (.goto (-31), 3) := by decide +kernel
theorem dX4_countChanged_39 : decode cX4_countChanged 39 = .ok (.iload_n 3, 1) := by decide +kernel
theorem dX4_countChanged_40 : decode cX4_countChanged 40 = .ok (.ireturn, 1) := by decide +kernel
theorem dX4_changed_0 : decode cX4_changed 0 = .ok (.aload_n 0, 1) := by decide +kernel
theorem dX4_changed_1 : decode cX4_changed 1 = .ok (.aload_n 0, 1) := by decide +kernel
theorem dX4_changed_2 : decode cX4_changed 2 = .ok (.iload_n 1, 1) := by decide +kernel
theorem dX4_changed_3 : decode cX4_changed 3 = .ok (.iload_n 2, 1) := by decide +kernel
theorem dX4_changed_4 : decode cX4_changed 4 = .ok (.invokevirtual 134, 3) := by decide +kernel
theorem dX4_changed_7 : decode cX4_changed 7 = .ok (.invokevirtual 94, 3) := by decide +kernel
theorem dX4_changed_10 : decode cX4_changed 10 = .ok (.ifCond .eq 12, 3) := by decide +kernel
theorem dX4_changed_13 : decode cX4_changed 13 = .ok (.aload_n 0, 1) := by decide +kernel
theorem dX4_changed_14 : decode cX4_changed 14 = .ok (.iload_n 1, 1) := by decide +kernel
theorem dX4_changed_15 : decode cX4_changed 15 = .ok (.iload_n 2, 1) := by decide +kernel
theorem dX4_changed_16 : decode cX4_changed 16 = .ok (.invokevirtual 137, 3) := by decide +kernel
theorem dX4_changed_19 : decode cX4_changed 19 = .ok (.goto 4, 3) := by decide +kernel
theorem dX4_changed_22 : decode cX4_changed 22 = .ok (.iconst 0, 1) := by decide +kernel
theorem dX4_changed_23 : decode cX4_changed 23 = .ok (.ireturn, 1) := by decide +kernel
theorem dX4_changedAt_0 : decode cX4_changedAt 0 = .ok (.aload_n 0, 1) := by decide +kernel
theorem dX4_changedAt_1 : decode cX4_changedAt 1 = .ok (.iload_n 1, 1) := by decide +kernel
theorem dX4_changedAt_2 : decode cX4_changedAt 2 = .ok (.iload_n 2, 1) := by decide +kernel
theorem dX4_changedAt_3 : decode cX4_changedAt 3 = .ok (.invokevirtual 134, 3) := by decide +kernel
theorem dX4_changedAt_6 : decode cX4_changedAt 6 = .ok (.istore 4, 2) := by decide +kernel
theorem dX4_changedAt_8 : decode cX4_changedAt 8 = .ok (.aload_n 0, 1) := by decide +kernel
theorem dX4_changedAt_9 : decode cX4_changedAt 9 = .ok (.iload 4, 2) := by decide +kernel
theorem dX4_changedAt_11 : decode cX4_changedAt 11 = .ok (.ifCond .ne 23, 3) := by decide +kernel
theorem dX4_changedAt_14 : decode cX4_changedAt 14 = .ok (.iload_n 3, 1) := by decide +kernel
theorem dX4_changedAt_15 : decode cX4_changedAt 15 = .ok (.iconst 0, 1) := by decide +kernel
theorem dX4_changedAt_16 : decode cX4_changedAt 16 = .ok (.aload_n 0, 1) := by decide +kernel
theorem dX4_changedAt_17 : decode cX4_changedAt 17 = .ok (.iload_n 1, 1) := by decide +kernel
theorem dX4_changedAt_18 : decode cX4_changedAt 18 = .ok (.iload_n 2, 1) := by decide +kernel
theorem dX4_changedAt_19 : decode cX4_changedAt 19 = .ok (.invokevirtual 137, 3) := by decide +kernel
theorem dX4_changedAt_22 : decode cX4_changedAt 22 = .ok (.iconst 1, 1) := by decide +kernel
theorem dX4_changedAt_23 : decode cX4_changedAt 23 = .ok (.isub, 1) := by decide +kernel
theorem dX4_changedAt_24 : decode cX4_changedAt 24 = .ok (.invokestatic 87, 3) := by decide +kernel
theorem dX4_changedAt_27 : decode cX4_changedAt 27 = .ok (.ifCond .ne 7, 3) := by decide +kernel
theorem dX4_changedAt_30 : decode cX4_changedAt 30 = .ok (.iconst 3, 1) := by decide +kernel
theorem dX4_changedAt_31 : decode cX4_changedAt 31 = .ok (.goto 5, 3) := by decide +kernel
theorem dX4_changedAt_34 : decode cX4_changedAt 34 = .ok (.iload 4, 2) := by decide +kernel
theorem dX4_changedAt_36 : decode cX4_changedAt 36 = .ok (.invokevirtual 94, 3) := by decide +kernel
theorem dX4_changedAt_39 : decode cX4_changedAt 39 = .ok (.ifCond .ne 5, 3) := by decide +kernel
theorem dX4_changedAt_42 : decode cX4_changedAt 42 = .ok (.iconst 0, 1) := by decide +kernel
theorem dX4_changedAt_43 : decode cX4_changedAt 43 = .ok (.ireturn, 1) := by decide +kernel
theorem dX4_changedAt_44 : decode cX4_changedAt 44 = .ok (.iload_n 3, 1) := by decide +kernel
theorem dX4_changedAt_45 : decode cX4_changedAt 45 = .ok (.istore 5, 2) := by decide +kernel
theorem dX4_changedAt_47 : decode cX4_changedAt 47 = .ok (.iconst 0, 1) := by decide +kernel
theorem dX4_changedAt_48 : decode cX4_changedAt 48 = .ok (.istore 6, 2) := by decide +kernel
theorem dX4_changedAt_50 : decode cX4_changedAt 50 = .ok (.iload 5, 2) := by decide +kernel
theorem dX4_changedAt_52 : decode cX4_changedAt 52 = .ok (.ifCond .gt 14, 3) := by decide +kernel
theorem dX4_changedAt_55 : decode cX4_changedAt 55 = .ok (.aload_n 0, 1) := by decide +kernel
theorem dX4_changedAt_56 : decode cX4_changedAt 56 = .ok (.iload 6, 2) := by decide +kernel
theorem dX4_changedAt_58 : decode cX4_changedAt 58 = .ok (.iload_n 1, 1) := by decide +kernel
theorem dX4_changedAt_59 : decode cX4_changedAt 59 = .ok (.iload_n 2, 1) := by decide +kernel
theorem dX4_changedAt_60 : decode cX4_changedAt 60 = .ok (.invokevirtual 131, 3) := by decide +kernel
theorem dX4_changedAt_63 : decode cX4_changedAt 63 = .ok (.ifCond .ne 30, 3) := by decide +kernel
theorem dX4_changedAt_66 : decode cX4_changedAt 66 = .ok (.iload 5, 2) := by decide +kernel
theorem dX4_changedAt_68 : decode cX4_changedAt 68 = .ok (.aload_n 0, 1) := by decide +kernel
theorem dX4_changedAt_69 : decode cX4_changedAt 69 = .ok (.iload 6, 2) := by decide +kernel
theorem dX4_changedAt_71 : decode cX4_changedAt 71 = .ok (.iload_n 1, 1) := by decide +kernel
theorem dX4_changedAt_72 : decode cX4_changedAt 72 = .ok (.iload_n 2, 1) := by decide +kernel
theorem dX4_changedAt_73 : decode cX4_changedAt 73 = .ok (.invokevirtual 131, 3) := by decide +kernel
theorem dX4_changedAt_76 : decode cX4_changedAt 76 = .ok (.ifCond .eq 7, 3) := by decide +kernel
theorem dX4_changedAt_79 : decode cX4_changedAt 79 = .ok (.iconst 1, 1) := by decide +kernel
theorem dX4_changedAt_80 : decode cX4_changedAt 80 = .ok (.goto 4, 3) := by decide +kernel
theorem dX4_changedAt_83 : decode cX4_changedAt 83 = .ok (.iconst 0, 1) := by decide +kernel
theorem dX4_changedAt_84 : decode cX4_changedAt 84 = .ok (.isub, 1) := by decide +kernel
theorem dX4_changedAt_85 : decode cX4_changedAt 85 = .ok (.istore 5, 2) := by decide +kernel
theorem dX4_changedAt_87 : decode cX4_changedAt 87 = .ok (.iinc 6 1, 3) := by decide +kernel
theorem dX4_changedAt_90 : decode cX4_changedAt 90 = .ok (.goto (-40), 3) := by decide +kernel
theorem dX4_changedAt_93 : decode cX4_changedAt 93 = .ok (.iload 6, 2) := by decide +kernel
theorem dX4_changedAt_95 : decode cX4_changedAt 95 = .ok (.ireturn, 1) := by decide +kernel
theorem dX4_page_0 : decode cX4_page 0 = .ok (.aload_n 0, 1) := by decide +kernel
theorem dX4_page_1 : decode cX4_page 1 = .ok (.aload_n 0, 1) := by decide +kernel
theorem dX4_page_2 : decode cX4_page 2 = .ok (.iload_n 1, 1) := by decide +kernel
theorem dX4_page_3 : decode cX4_page 3 = .ok (.invokevirtual 119, 3) := by decide +kernel
theorem dX4_page_6 : decode cX4_page 6 = .ok (.ifCond .eq 13, 3) := by decide +kernel
theorem dX4_page_9 : decode cX4_page 9 = .ok (.iload_n 2, 1) := by decide +kernel
theorem dX4_page_10 : decode cX4_page 10 = .ok (.iconst 1, 1) := by decide +kernel
theorem dX4_page_11 : decode cX4_page 11 = .ok (.bipush 20, 2) := by decide +kernel
theorem dX4_page_13 : decode cX4_page 13 = .ok (.invokestatic 87, 3) := by decide +kernel
theorem dX4_page_16 : decode cX4_page 16 = .ok (.ifCond .ne 7, 3) := by decide +kernel
theorem dX4_page_19 : decode cX4_page 19 = .ok (.iconst 1, 1) := by decide +kernel
theorem dX4_page_20 : decode cX4_page 20 = .ok (.goto 16, 3) := by decide +kernel
theorem dX4_page_23 : decode cX4_page 23 = .ok (.aload_n 0, 1) := by decide +kernel
theorem dX4_page_24 : decode cX4_page 24 = .ok (.iload_n 1, 1) := by decide +kernel
theorem dX4_page_25 : decode cX4_page 25 = .ok (.invokevirtual 122, 3) := by decide +kernel
theorem dX4_page_28 : decode cX4_page 28 = .ok (.ifCond .ne 7, 3) := by decide +kernel
theorem dX4_page_31 : decode cX4_page 31 = .ok (.iconst 2, 1) := by decide +kernel
theorem dX4_page_32 : decode cX4_page 32 = .ok (.goto 4, 3) := by decide +kernel
theorem dX4_page_35 : decode cX4_page 35 = .ok (.iconst 0, 1) := by decide +kernel
theorem dX4_page_36 : decode cX4_page 36 = .ok (.invokevirtual 94, 3) := by decide +kernel
theorem dX4_page_39 : decode cX4_page 39 = .ok (.ifCond .ne 5, 3) := by decide +kernel
theorem dX4_page_42 : decode cX4_page 42 = .ok (.iconst 0, 1) := by decide +kernel
theorem dX4_page_43 : decode cX4_page 43 = .ok (.ireturn, 1) := by decide +kernel
theorem dX4_page_44 : decode cX4_page 44 = .ok (.iload_n 2, 1) := by decide +kernel
theorem dX4_page_45 : decode cX4_page 45 = .ok (.istore_n 3, 1) := by decide +kernel
theorem dX4_page_46 : decode cX4_page 46 = .ok (.iload_n 1, 1) := by decide +kernel
theorem dX4_page_47 : decode cX4_page 47 = .ok (.istore 4, 2) := by decide +kernel
theorem dX4_page_49 : decode cX4_page 49 = .ok (.iload 4, 2) := by decide +kernel
theorem dX4_page_51 : decode cX4_page 51 = .ok (.aload_n 0, 1) := by decide +kernel
theorem dX4_page_52 : decode cX4_page 52 = .ok (.getfield 91, 3) := by decide +kernel
theorem dX4_page_55 : decode cX4_page 55 = .ok (.if_icmp .ge 82, 3) := by decide +kernel
theorem dX4_page_58 : decode cX4_page 58 = .ok (.iconst 1, 1) := by decide +kernel
theorem dX4_page_59 : decode cX4_page 59 = .ok (.istore 5, 2) := by decide +kernel
theorem dX4_page_61 : decode cX4_page 61 = .ok (.iload_n 1, 1) := by decide +kernel
theorem dX4_page_62 : decode cX4_page 62 = .ok (.istore 6, 2) := by decide +kernel
theorem dX4_page_64 : decode cX4_page 64 = .ok (.iload 6, 2) := by decide +kernel
theorem dX4_page_66 : decode cX4_page 66 = .ok (.iload 4, 2) := by decide +kernel
theorem dX4_page_68 : decode cX4_page 68 = .ok (.if_icmp .ge 38, 3) := by decide +kernel
theorem dX4_page_71 : decode cX4_page 71 = .ok (.iload 5, 2) := by decide +kernel
theorem dX4_page_73 : decode cX4_page 73 = .ok (.ifCond .eq 24, 3) := by decide +kernel
theorem dX4_page_76 : decode cX4_page 76 = .ok (.aload_n 0, 1) := by decide +kernel
theorem dX4_page_77 : decode cX4_page 77 = .ok (.getfield 31, 3) := by decide +kernel
theorem dX4_page_80 : decode cX4_page 80 = .ok (.iload 6, 2) := by decide +kernel
theorem dX4_page_82 : decode cX4_page 82 = .ok (.iaload, 1) := by decide +kernel
theorem dX4_page_83 : decode cX4_page 83 = .ok (.aload_n 0, 1) := by decide +kernel
theorem dX4_page_84 : decode cX4_page 84 = .ok (.getfield 31, 3) := by decide +kernel
theorem dX4_page_87 : decode cX4_page 87 = .ok (.iload 4, 2) := by decide +kernel
theorem dX4_page_89 : decode cX4_page 89 = .ok (.iaload, 1) := by decide +kernel
theorem dX4_page_90 : decode cX4_page 90 = .ok (.if_icmp .eq 7, 3) := by decide +kernel
theorem dX4_page_93 : decode cX4_page 93 = .ok (.iconst 1, 1) := by decide +kernel
theorem dX4_page_94 : decode cX4_page 94 = .ok (.goto 4, 3) := by decide +kernel
theorem dX4_page_97 : decode cX4_page 97 = .ok (.iconst 0, 1) := by decide +kernel
theorem dX4_page_98 : decode cX4_page 98 = .ok (.istore 5, 2) := by decide +kernel
theorem dX4_page_100 : decode cX4_page 100 = .ok (.iinc 6 1, 3) := by decide +kernel
theorem dX4_page_103 : decode cX4_page 103 = .ok (.goto (-39), 3) := by decide +kernel
theorem dX4_page_106 : decode cX4_page 106 = .ok (.iload 5, 2) := by decide +kernel
theorem dX4_page_108 : decode cX4_page 108 = .ok (.ifCond .eq 10, 3) := by decide +kernel
theorem dX4_page_111 : decode cX4_page 111 = .ok (.iload_n 3, 1) := by decide +kernel
theorem dX4_page_112 : decode cX4_page 112 = .ok (.ifCond .ne 6, 3) := by decide +kernel
theorem dX4_page_115 : decode cX4_page 115 = .ok (.iload 4, 2) := by decide +kernel
theorem dX4_page_117 : decode cX4_page 117 = .ok (.ireturn, 1) := by decide +kernel
theorem dX4_page_118 : decode cX4_page 118 = .ok (.iload_n 3, 1) := by decide +kernel
theorem dX4_page_119 : decode cX4_page 119 = .ok (.iload 5, 2) := by decide +kernel
theorem dX4_page_121 : decode cX4_page 121 = .ok (.ifCond .eq 7, 3) := by decide +kernel
theorem dX4_page_124 : decode cX4_page 124 = .ok (.iconst 1, 1) := by decide +kernel
theorem dX4_page_125 : decode cX4_page 125 = .ok (.goto 4, 3) := by decide +kernel
theorem dX4_page_128 : decode cX4_page 128 = .ok (.iconst 0, 1) := by decide +kernel
theorem dX4_page_129 : decode cX4_page 129 = .ok (.isub, 1) := by decide +kernel
theorem dX4_page_130 : decode cX4_page 130 = .ok (.istore_n 3, 1) := by decide +kernel
theorem dX4_page_131 : decode cX4_page 131 = .ok (.iinc 4 1, 3) := by decide +kernel
theorem dX4_page_134 : decode cX4_page 134 = .ok (.goto (-85), 3) := by decide +kernel
theorem dX4_page_137 : decode cX4_page 137 = .ok (.iload 4, 2) := by decide +kernel
theorem dX4_page_139 : decode cX4_page 139 = .ok (.ireturn, 1) := by decide +kernel
theorem dX4_isQuery_0 : decode cX4_isQuery 0 = .ok (.iload_n 0, 1) := by decide +kernel
theorem dX4_isQuery_1 : decode cX4_isQuery 1 = .ok (.iconst 0, 1) := by decide +kernel
theorem dX4_isQuery_2 : decode cX4_isQuery 2 = .ok (.iconst 5, 1) := by decide +kernel
theorem dX4_isQuery_3 : decode cX4_isQuery 3 = .ok (.invokestatic 87, 3) := by decide +kernel
theorem dX4_isQuery_6 : decode cX4_isQuery 6 = .ok (.ifCond .eq 16, 3) := by decide +kernel
theorem dX4_isQuery_9 : decode cX4_isQuery 9 = .ok (.iload_n 1, 1) := by decide +kernel
theorem dX4_isQuery_10 : decode cX4_isQuery 10 = .ok (.iconst (-1), 1) := by decide +kernel
theorem dX4_isQuery_11 : decode cX4_isQuery 11 = .ok (.iconst 3, 1) := by decide +kernel
theorem dX4_isQuery_12 : decode cX4_isQuery 12 = .ok (.invokestatic 87, 3) := by decide +kernel
theorem dX4_isQuery_15 : decode cX4_isQuery 15 = .ok (.ifCond .eq 7, 3) := by decide +kernel
theorem dX4_isQuery_18 : decode cX4_isQuery 18 = .ok (.iconst 1, 1) := by decide +kernel
theorem dX4_isQuery_19 : decode cX4_isQuery 19 = .ok (.goto 4, 3) := by decide +kernel
theorem dX4_isQuery_22 : decode cX4_isQuery 22 = .ok (.iconst 0, 1) := by decide +kernel
theorem dX4_isQuery_23 : decode cX4_isQuery 23 = .ok (.ireturn, 1) := by decide +kernel
theorem dX4_found_0 : decode cX4_found 0 = .ok (.aload_n 0, 1) := by decide +kernel
theorem dX4_found_1 : decode cX4_found 1 = .ok (.iload_n 1, 1) := by decide +kernel
theorem dX4_found_2 : decode cX4_found 2 = .ok (.iload_n 2, 1) := by decide +kernel
theorem dX4_found_3 : decode cX4_found 3 = .ok (.invokestatic 140, 3) := by decide +kernel
theorem dX4_found_6 : decode cX4_found 6 = .ok (.ifCond .eq 7, 3) := by decide +kernel
theorem dX4_found_9 : decode cX4_found 9 = .ok (.iconst 0, 1) := by decide +kernel
theorem dX4_found_10 : decode cX4_found 10 = .ok (.goto 4, 3) := by decide +kernel
theorem dX4_found_13 : decode cX4_found 13 = .ok (.iconst 1, 1) := by decide +kernel
theorem dX4_found_14 : decode cX4_found 14 = .ok (.invokevirtual 94, 3) := by decide +kernel
theorem dX4_found_17 : decode cX4_found 17 = .ok (.ifCond .eq 12, 3) := by decide +kernel
theorem dX4_found_20 : decode cX4_found 20 = .ok (.aload_n 0, 1) := by decide +kernel
theorem dX4_found_21 : decode cX4_found 21 = .ok (.iload_n 1, 1) := by decide +kernel
theorem dX4_found_22 : decode cX4_found 22 = .ok (.iload_n 2, 1) := by decide +kernel
theorem dX4_found_23 : decode cX4_found 23 = .ok (.invokevirtual 115, 3) := by decide +kernel
theorem dX4_found_26 : decode cX4_found 26 = .ok (.goto 4, 3) := by decide +kernel
theorem dX4_found_29 : decode cX4_found 29 = .ok (.iconst 0, 1) := by decide +kernel
theorem dX4_found_30 : decode cX4_found 30 = .ok (.ireturn, 1) := by decide +kernel
theorem dX4_foundOne_0 : decode cX4_foundOne 0 = .ok (.iconst 0, 1) := by decide +kernel
theorem dX4_foundOne_1 : decode cX4_foundOne 1 = .ok (.istore 4, 2) := by decide +kernel
theorem dX4_foundOne_3 : decode cX4_foundOne 3 = .ok (.iload 4, 2) := by decide +kernel
theorem dX4_foundOne_5 : decode cX4_foundOne 5 = .ok (.aload_n 0, 1) := by decide +kernel
theorem dX4_foundOne_6 : decode cX4_foundOne 6 = .ok (.getfield 84, 3) := by decide +kernel
theorem dX4_foundOne_9 : decode cX4_foundOne 9 = .ok (.if_icmp .ge 124, 3) := by decide +kernel
theorem dX4_foundOne_12 : decode cX4_foundOne 12 = .ok (.iconst 0, 1) := by decide +kernel
theorem dX4_foundOne_13 : decode cX4_foundOne 13 = .ok (.istore 5, 2) := by decide +kernel
theorem dX4_foundOne_15 : decode cX4_foundOne 15 = .ok (.iconst 0, 1) := by decide +kernel
theorem dX4_foundOne_16 : decode cX4_foundOne 16 = .ok (.istore 6, 2) := by decide +kernel
theorem dX4_foundOne_18 : decode cX4_foundOne 18 = .ok (.iload 6, 2) := by decide +kernel
theorem dX4_foundOne_20 : decode cX4_foundOne 20 = .ok (.aload_n 0, 1) := by decide +kernel
theorem dX4_foundOne_21 : decode cX4_foundOne 21 = .ok (.getfield 84, 3) := by decide +kernel
theorem dX4_foundOne_24 : decode cX4_foundOne 24 = .ok (.if_icmp .ge 83, 3) := by decide +kernel
theorem dX4_foundOne_27 : decode cX4_foundOne 27 = .ok (.aload_n 0, 1) := by decide +kernel
theorem dX4_foundOne_28 : decode cX4_foundOne 28 = .ok (.getfield 7, 3) := by decide +kernel
theorem dX4_foundOne_31 : decode cX4_foundOne 31 = .ok (.iload 6, 2) := by decide +kernel
theorem dX4_foundOne_33 : decode cX4_foundOne 33 = .ok (.iaload, 1) := by decide +kernel
theorem dX4_foundOne_34 : decode cX4_foundOne 34 = .ok (.aload_n 0, 1) := by decide +kernel
theorem dX4_foundOne_35 : decode cX4_foundOne 35 = .ok (.getfield 7, 3) := by decide +kernel
theorem dX4_foundOne_38 : decode cX4_foundOne 38 = .ok (.iload 4, 2) := by decide +kernel
theorem dX4_foundOne_40 : decode cX4_foundOne 40 = .ok (.iaload, 1) := by decide +kernel
theorem dX4_foundOne_41 : decode cX4_foundOne 41 = .ok (.if_icmp .gt 27, 3) := by decide +kernel
theorem dX4_foundOne_44 : decode cX4_foundOne 44 = .ok (.aload_n 0, 1) := by decide +kernel
end
section
theorem dX4_foundOne_45 : decode cX4_foundOne 45 = .ok (.getfield 7, 3) := by decide +kernel
theorem dX4_foundOne_48 : decode cX4_foundOne 48 = .ok (.iload 6, 2) := by decide +kernel
theorem dX4_foundOne_50 : decode cX4_foundOne 50 = .ok (.iaload, 1) := by decide +kernel
theorem dX4_foundOne_51 : decode cX4_foundOne 51 = .ok (.aload_n 0, 1) := by decide +kernel
theorem dX4_foundOne_52 : decode cX4_foundOne 52 = .ok (.getfield 7, 3) := by decide +kernel
theorem dX4_foundOne_55 : decode cX4_foundOne 55 = .ok (.iload 4, 2) := by decide +kernel
theorem dX4_foundOne_57 : decode cX4_foundOne 57 = .ok (.iaload, 1) := by decide +kernel
theorem dX4_foundOne_58 : decode cX4_foundOne 58 = .ok (.if_icmp .ne 14, 3) := by decide +kernel
theorem dX4_foundOne_61 : decode cX4_foundOne 61 = .ok (.iload 6, 2) := by decide +kernel
theorem dX4_foundOne_63 : decode cX4_foundOne 63 = .ok (.iload 4, 2) := by decide +kernel
theorem dX4_foundOne_65 : decode cX4_foundOne 65 = .ok (.if_icmp .le 7, 3) := by decide +kernel
theorem dX4_foundOne_68 : decode cX4_foundOne 68 = .ok (.iconst 1, 1) := by decide +kernel
theorem dX4_foundOne_69 : decode cX4_foundOne 69 = .ok (.goto 4, 3) := by decide +kernel
theorem dX4_foundOne_72 : decode cX4_foundOne 72 = .ok (.iconst 0, 1) := by decide +kernel
theorem dX4_foundOne_73 : decode cX4_foundOne 73 = .ok (.istore 7, 2) := by decide +kernel
theorem dX4_foundOne_75 : decode cX4_foundOne 75 = .ok (.iload 5, 2) := by decide +kernel
theorem dX4_foundOne_77 : decode cX4_foundOne 77 = .ok (.aload_n 0, 1) := by decide +kernel
theorem dX4_foundOne_78 : decode cX4_foundOne 78 = .ok (.iload 6, 2) := by decide +kernel
theorem dX4_foundOne_80 : decode cX4_foundOne 80 = .ok (.iload_n 1, 1) := by decide +kernel
theorem dX4_foundOne_81 : decode cX4_foundOne 81 = .ok (.iload_n 2, 1) := by decide +kernel
theorem dX4_foundOne_82 : decode cX4_foundOne 82 = .ok (.invokevirtual 112, 3) := by decide +kernel
theorem dX4_foundOne_85 : decode cX4_foundOne 85 = .ok (.ifCond .eq 12, 3) := by decide +kernel
theorem dX4_foundOne_88 : decode cX4_foundOne 88 = .ok (.iload 7, 2) := by decide +kernel
theorem dX4_foundOne_90 : decode cX4_foundOne 90 = .ok (.ifCond .eq 7, 3) := by decide +kernel
theorem dX4_foundOne_93 : decode cX4_foundOne 93 = .ok (.iconst 1, 1) := by decide +kernel
theorem dX4_foundOne_94 : decode cX4_foundOne 94 = .ok (.goto 4, 3) := by decide +kernel
theorem dX4_foundOne_97 : decode cX4_foundOne 97 = .ok (.iconst 0, 1) := by decide +kernel
theorem dX4_foundOne_98 : decode cX4_foundOne 98 = .ok (.iadd, 1) := by decide +kernel
theorem dX4_foundOne_99 : decode cX4_foundOne 99 = .ok (.istore 5, 2) := by decide +kernel
theorem dX4_foundOne_101 : decode cX4_foundOne 101 = .ok (.iinc 6 1, 3) := by decide +kernel
theorem dX4_foundOne_104 : decode cX4_foundOne 104 = .ok (.goto (-86), 3) := by decide +kernel
theorem dX4_foundOne_107 : decode cX4_foundOne 107 = .ok (.aload_n 0, 1) := by decide +kernel
theorem dX4_foundOne_108 : decode cX4_foundOne 108 = .ok (.iload 4, 2) := by decide +kernel
theorem dX4_foundOne_110 : decode cX4_foundOne 110 = .ok (.iload_n 1, 1) := by decide +kernel
theorem dX4_foundOne_111 : decode cX4_foundOne 111 = .ok (.iload_n 2, 1) := by decide +kernel
theorem dX4_foundOne_112 : decode cX4_foundOne 112 = .ok (.invokevirtual 112, 3) := by decide +kernel
theorem dX4_foundOne_115 : decode cX4_foundOne 115 = .ok (.ifCond .eq 12, 3) := by decide +kernel
theorem dX4_foundOne_118 : decode cX4_foundOne 118 = .ok (.iload 5, 2) := by decide +kernel
theorem dX4_foundOne_120 : decode cX4_foundOne 120 = .ok (.iload_n 3, 1) := by decide +kernel
theorem dX4_foundOne_121 : decode cX4_foundOne 121 = .ok (.if_icmp .ne 6, 3) := by decide +kernel
theorem dX4_foundOne_124 : decode cX4_foundOne 124 = .ok (.iload 4, 2) := by decide +kernel
theorem dX4_foundOne_126 : decode cX4_foundOne 126 = .ok (.ireturn, 1) := by decide +kernel
theorem dX4_foundOne_127 : decode cX4_foundOne 127 = .ok (.iinc 4 1, 3) := by decide +kernel
theorem dX4_foundOne_130 : decode cX4_foundOne 130 = .ok (.goto (-127), 3) := by decide +kernel
theorem dX4_foundOne_133 : decode cX4_foundOne 133 = .ok (.iconst (-1), 1) := by decide +kernel
theorem dX4_foundOne_134 : decode cX4_foundOne 134 = .ok (.ireturn, 1) := by decide +kernel
theorem dX4_foundAt_0 : decode cX4_foundAt 0 = .ok (.iload_n 1, 1) := by decide +kernel
theorem dX4_foundAt_1 : decode cX4_foundAt 1 = .ok (.iload_n 2, 1) := by decide +kernel
theorem dX4_foundAt_2 : decode cX4_foundAt 2 = .ok (.invokestatic 140, 3) := by decide +kernel
theorem dX4_foundAt_5 : decode cX4_foundAt 5 = .ok (.ifCond .eq 7, 3) := by decide +kernel
theorem dX4_foundAt_8 : decode cX4_foundAt 8 = .ok (.iconst 0, 1) := by decide +kernel
theorem dX4_foundAt_9 : decode cX4_foundAt 9 = .ok (.goto 4, 3) := by decide +kernel
theorem dX4_foundAt_12 : decode cX4_foundAt 12 = .ok (.iconst 1, 1) := by decide +kernel
theorem dX4_foundAt_13 : decode cX4_foundAt 13 = .ok (.istore 4, 2) := by decide +kernel
theorem dX4_foundAt_15 : decode cX4_foundAt 15 = .ok (.aload_n 0, 1) := by decide +kernel
theorem dX4_foundAt_16 : decode cX4_foundAt 16 = .ok (.iload 4, 2) := by decide +kernel
theorem dX4_foundAt_18 : decode cX4_foundAt 18 = .ok (.ifCond .ne 23, 3) := by decide +kernel
theorem dX4_foundAt_21 : decode cX4_foundAt 21 = .ok (.iload_n 3, 1) := by decide +kernel
theorem dX4_foundAt_22 : decode cX4_foundAt 22 = .ok (.iconst 0, 1) := by decide +kernel
theorem dX4_foundAt_23 : decode cX4_foundAt 23 = .ok (.aload_n 0, 1) := by decide +kernel
theorem dX4_foundAt_24 : decode cX4_foundAt 24 = .ok (.iload_n 1, 1) := by decide +kernel
theorem dX4_foundAt_25 : decode cX4_foundAt 25 = .ok (.iload_n 2, 1) := by decide +kernel
theorem dX4_foundAt_26 : decode cX4_foundAt 26 = .ok (.invokevirtual 115, 3) := by decide +kernel
theorem dX4_foundAt_29 : decode cX4_foundAt 29 = .ok (.iconst 1, 1) := by decide +kernel
theorem dX4_foundAt_30 : decode cX4_foundAt 30 = .ok (.isub, 1) := by decide +kernel
theorem dX4_foundAt_31 : decode cX4_foundAt 31 = .ok (.invokestatic 87, 3) := by decide +kernel
theorem dX4_foundAt_34 : decode cX4_foundAt 34 = .ok (.ifCond .ne 7, 3) := by decide +kernel
theorem dX4_foundAt_37 : decode cX4_foundAt 37 = .ok (.iconst 2, 1) := by decide +kernel
theorem dX4_foundAt_38 : decode cX4_foundAt 38 = .ok (.goto 5, 3) := by decide +kernel
theorem dX4_foundAt_41 : decode cX4_foundAt 41 = .ok (.iload 4, 2) := by decide +kernel
theorem dX4_foundAt_43 : decode cX4_foundAt 43 = .ok (.invokevirtual 94, 3) := by decide +kernel
theorem dX4_foundAt_46 : decode cX4_foundAt 46 = .ok (.ifCond .ne 5, 3) := by decide +kernel
theorem dX4_foundAt_49 : decode cX4_foundAt 49 = .ok (.iconst 0, 1) := by decide +kernel
theorem dX4_foundAt_50 : decode cX4_foundAt 50 = .ok (.ireturn, 1) := by decide +kernel
theorem dX4_foundAt_51 : decode cX4_foundAt 51 = .ok (.aload_n 0, 1) := by decide +kernel
theorem dX4_foundAt_52 : decode cX4_foundAt 52 = .ok (.iload_n 1, 1) := by decide +kernel
theorem dX4_foundAt_53 : decode cX4_foundAt 53 = .ok (.iload_n 2, 1) := by decide +kernel
theorem dX4_foundAt_54 : decode cX4_foundAt 54 = .ok (.iload_n 3, 1) := by decide +kernel
theorem dX4_foundAt_55 : decode cX4_foundAt 55 = .ok (.invokevirtual 143, 3) := by decide +kernel
theorem dX4_foundAt_58 : decode cX4_foundAt 58 = .ok (.ireturn, 1) := by decide +kernel
theorem dX4_wasFound_0 : decode cX4_wasFound 0 = .ok (.aload_n 0, 1) := by decide +kernel
theorem dX4_wasFound_1 : decode cX4_wasFound 1 = .ok (.getfield 13, 3) := by decide +kernel
theorem dX4_wasFound_4 : decode cX4_wasFound 4 = .ok (.iload_n 1, 1) := by decide +kernel
theorem dX4_wasFound_5 : decode cX4_wasFound 5 = .ok (.iaload, 1) := by decide +kernel
theorem dX4_wasFound_6 : decode cX4_wasFound 6 = .ok (.istore 5, 2) := by decide +kernel
theorem dX4_wasFound_8 : decode cX4_wasFound 8 = .ok (.aload_n 0, 1) := by decide +kernel
theorem dX4_wasFound_9 : decode cX4_wasFound 9 = .ok (.getfield 16, 3) := by decide +kernel
theorem dX4_wasFound_12 : decode cX4_wasFound 12 = .ok (.iload_n 1, 1) := by decide +kernel
theorem dX4_wasFound_13 : decode cX4_wasFound 13 = .ok (.iaload, 1) := by decide +kernel
theorem dX4_wasFound_14 : decode cX4_wasFound 14 = .ok (.istore 6, 2) := by decide +kernel
theorem dX4_wasFound_16 : decode cX4_wasFound 16 = .ok (.aload_n 0, 1) := by decide +kernel
theorem dX4_wasFound_17 : decode cX4_wasFound 17 = .ok (.getfield 91, 3) := by decide +kernel
theorem dX4_wasFound_20 : decode cX4_wasFound 20 = .ok (.iconst 1, 1) := by decide +kernel
theorem dX4_wasFound_21 : decode cX4_wasFound 21 = .ok (.isub, 1) := by decide +kernel
theorem dX4_wasFound_22 : decode cX4_wasFound 22 = .ok (.istore 7, 2) := by decide +kernel
theorem dX4_wasFound_24 : decode cX4_wasFound 24 = .ok (.iload 7, 2) := by decide +kernel
theorem dX4_wasFound_26 : decode cX4_wasFound 26 = .ok (.iload_n 2, 1) := by decide +kernel
theorem dX4_wasFound_27 : decode cX4_wasFound 27 = .ok (.if_icmp .lt 38, 3) := by decide +kernel
theorem dX4_wasFound_30 : decode cX4_wasFound 30 = .ok (.aload_n 0, 1) := by decide +kernel
theorem dX4_wasFound_31 : decode cX4_wasFound 31 = .ok (.getfield 31, 3) := by decide +kernel
theorem dX4_wasFound_34 : decode cX4_wasFound 34 = .ok (.iload 7, 2) := by decide +kernel
theorem dX4_wasFound_36 : decode cX4_wasFound 36 = .ok (.iaload, 1) := by decide +kernel
theorem dX4_wasFound_37 : decode cX4_wasFound 37 = .ok (.iload_n 1, 1) := by decide +kernel
theorem dX4_wasFound_38 : decode cX4_wasFound 38 = .ok (.if_icmp .ne 21, 3) := by decide +kernel
theorem dX4_wasFound_41 : decode cX4_wasFound 41 = .ok (.aload_n 0, 1) := by decide +kernel
theorem dX4_wasFound_42 : decode cX4_wasFound 42 = .ok (.getfield 34, 3) := by decide +kernel
theorem dX4_wasFound_45 : decode cX4_wasFound 45 = .ok (.iload 7, 2) := by decide +kernel
theorem dX4_wasFound_47 : decode cX4_wasFound 47 = .ok (.iaload, 1) := by decide +kernel
theorem dX4_wasFound_48 : decode cX4_wasFound 48 = .ok (.istore 5, 2) := by decide +kernel
theorem dX4_wasFound_50 : decode cX4_wasFound 50 = .ok (.aload_n 0, 1) := by decide +kernel
theorem dX4_wasFound_51 : decode cX4_wasFound 51 = .ok (.getfield 37, 3) := by decide +kernel
theorem dX4_wasFound_54 : decode cX4_wasFound 54 = .ok (.iload 7, 2) := by decide +kernel
theorem dX4_wasFound_56 : decode cX4_wasFound 56 = .ok (.iaload, 1) := by decide +kernel
theorem dX4_wasFound_57 : decode cX4_wasFound 57 = .ok (.istore 6, 2) := by decide +kernel
theorem dX4_wasFound_59 : decode cX4_wasFound 59 = .ok (.iinc 7 (-1), 3) := by decide +kernel
theorem dX4_wasFound_62 : decode cX4_wasFound 62 = .ok (.goto (-38), 3) := by decide +kernel
theorem dX4_wasFound_65 : decode cX4_wasFound 65 = .ok (.aload_n 0, 1) := by decide +kernel
theorem dX4_wasFound_66 : decode cX4_wasFound 66 = .ok (.iload_n 1, 1) := by decide +kernel
theorem dX4_wasFound_67 : decode cX4_wasFound 67 = .ok (.iload_n 2, 1) := by decide +kernel
theorem dX4_wasFound_68 : decode cX4_wasFound 68 = .ok (.invokevirtual 125, 3) := by decide +kernel
theorem dX4_wasFound_71 : decode cX4_wasFound 71 = .ok (.ifCond .eq 32, 3) := by decide +kernel
theorem dX4_wasFound_74 : decode cX4_wasFound 74 = .ok (.iload 5, 2) := by decide +kernel
theorem dX4_wasFound_76 : decode cX4_wasFound 76 = .ok (.iload_n 3, 1) := by decide +kernel
theorem dX4_wasFound_77 : decode cX4_wasFound 77 = .ok (.invokestatic 105, 3) := by decide +kernel
theorem dX4_wasFound_80 : decode cX4_wasFound 80 = .ok (.ifCond .eq 23, 3) := by decide +kernel
theorem dX4_wasFound_83 : decode cX4_wasFound 83 = .ok (.iload 4, 2) := by decide +kernel
theorem dX4_wasFound_85 : decode cX4_wasFound 85 = .ok (.iconst (-1), 1) := by decide +kernel
theorem dX4_wasFound_86 : decode cX4_wasFound 86 = .ok (.if_icmp .eq 13, 3) := by decide +kernel
theorem dX4_wasFound_89 : decode cX4_wasFound 89 = .ok (.iload 6, 2) := by decide +kernel
theorem dX4_wasFound_91 : decode cX4_wasFound 91 = .ok (.iload 4, 2) := by decide +kernel
theorem dX4_wasFound_93 : decode cX4_wasFound 93 = .ok (.invokestatic 105, 3) := by decide +kernel
theorem dX4_wasFound_96 : decode cX4_wasFound 96 = .ok (.ifCond .eq 7, 3) := by decide +kernel
theorem dX4_wasFound_99 : decode cX4_wasFound 99 = .ok (.iconst 1, 1) := by decide +kernel
theorem dX4_wasFound_100 : decode cX4_wasFound 100 = .ok (.goto 4, 3) := by decide +kernel
theorem dX4_wasFound_103 : decode cX4_wasFound 103 = .ok (.iconst 0, 1) := by decide +kernel
theorem dX4_wasFound_104 : decode cX4_wasFound 104 = .ok (.ireturn, 1) := by decide +kernel
theorem dX4_removed_0 : decode cX4_removed 0 = .ok (.iconst 0, 1) := by decide +kernel
theorem dX4_removed_1 : decode cX4_removed 1 = .ok (.istore 4, 2) := by decide +kernel
theorem dX4_removed_3 : decode cX4_removed 3 = .ok (.aload_n 0, 1) := by decide +kernel
theorem dX4_removed_4 : decode cX4_removed 4 = .ok (.aload_n 0, 1) := by decide +kernel
theorem dX4_removed_5 : decode cX4_removed 5 = .ok (.iload_n 1, 1) := by decide +kernel
theorem dX4_removed_6 : decode cX4_removed 6 = .ok (.invokevirtual 119, 3) := by decide +kernel
theorem dX4_removed_9 : decode cX4_removed 9 = .ok (.ifCond .eq 11, 3) := by decide +kernel
theorem dX4_removed_12 : decode cX4_removed 12 = .ok (.iload_n 2, 1) := by decide +kernel
theorem dX4_removed_13 : decode cX4_removed 13 = .ok (.iload_n 3, 1) := by decide +kernel
theorem dX4_removed_14 : decode cX4_removed 14 = .ok (.invokestatic 140, 3) := by decide +kernel
theorem dX4_removed_17 : decode cX4_removed 17 = .ok (.ifCond .ne 7, 3) := by decide +kernel
theorem dX4_removed_20 : decode cX4_removed 20 = .ok (.iconst 1, 1) := by decide +kernel
theorem dX4_removed_21 : decode cX4_removed 21 = .ok (.goto 16, 3) := by decide +kernel
theorem dX4_removed_24 : decode cX4_removed 24 = .ok (.aload_n 0, 1) := by decide +kernel
theorem dX4_removed_25 : decode cX4_removed 25 = .ok (.iload_n 1, 1) := by decide +kernel
theorem dX4_removed_26 : decode cX4_removed 26 = .ok (.invokevirtual 122, 3) := by decide +kernel
theorem dX4_removed_29 : decode cX4_removed 29 = .ok (.ifCond .ne 7, 3) := by decide +kernel
theorem dX4_removed_32 : decode cX4_removed 32 = .ok (.iconst 2, 1) := by decide +kernel
theorem dX4_removed_33 : decode cX4_removed 33 = .ok (.goto 4, 3) := by decide +kernel
theorem dX4_removed_36 : decode cX4_removed 36 = .ok (.iconst 0, 1) := by decide +kernel
theorem dX4_removed_37 : decode cX4_removed 37 = .ok (.invokevirtual 94, 3) := by decide +kernel
theorem dX4_removed_40 : decode cX4_removed 40 = .ok (.ifCond .eq 54, 3) := by decide +kernel
theorem dX4_removed_43 : decode cX4_removed 43 = .ok (.iconst 0, 1) := by decide +kernel
theorem dX4_removed_44 : decode cX4_removed 44 = .ok (.istore 5, 2) := by decide +kernel
theorem dX4_removed_46 : decode cX4_removed 46 = .ok (.iload 5, 2) := by decide +kernel
theorem dX4_removed_48 : decode cX4_removed 48 = .ok (.aload_n 0, 1) := by decide +kernel
theorem dX4_removed_49 : decode cX4_removed 49 = .ok (.getfield 84, 3) := by decide +kernel
theorem dX4_removed_52 : decode cX4_removed 52 = .ok (.if_icmp .ge 42, 3) := by decide +kernel
theorem dX4_removed_55 : decode cX4_removed 55 = .ok (.iload 4, 2) := by decide +kernel
theorem dX4_removed_57 : decode cX4_removed 57 = .ok (.aload_n 0, 1) := by decide +kernel
theorem dX4_removed_58 : decode cX4_removed 58 = .ok (.iload 5, 2) := by decide +kernel
theorem dX4_removed_60 : decode cX4_removed 60 = .ok (.iload_n 1, 1) := by decide +kernel
theorem dX4_removed_61 : decode cX4_removed 61 = .ok (.iload_n 2, 1) := by decide +kernel
theorem dX4_removed_62 : decode cX4_removed 62 = .ok (.iload_n 3, 1) := by decide +kernel
theorem dX4_removed_63 : decode cX4_removed 63 = .ok (.invokevirtual 147, 3) := by decide +kernel
theorem dX4_removed_66 : decode cX4_removed 66 = .ok (.ifCond .eq 18, 3) := by decide +kernel
theorem dX4_removed_69 : decode cX4_removed 69 = .ok (.aload_n 0, 1) := by decide +kernel
theorem dX4_removed_70 : decode cX4_removed 70 = .ok (.iload 5, 2) := by decide +kernel
theorem dX4_removed_72 : decode cX4_removed 72 = .ok (.iload_n 2, 1) := by decide +kernel
theorem dX4_removed_73 : decode cX4_removed 73 = .ok (.iload_n 3, 1) := by decide +kernel
theorem dX4_removed_74 : decode cX4_removed 74 = .ok (.invokevirtual 112, 3) := by decide +kernel
theorem dX4_removed_77 : decode cX4_removed 77 = .ok (.ifCond .ne 7, 3) := by decide +kernel
theorem dX4_removed_80 : decode cX4_removed 80 = .ok (.iconst 1, 1) := by decide +kernel
theorem dX4_removed_81 : decode cX4_removed 81 = .ok (.goto 4, 3) := by decide +kernel
theorem dX4_removed_84 : decode cX4_removed 84 = .ok (.iconst 0, 1) := by decide +kernel
theorem dX4_removed_85 : decode cX4_removed 85 = .ok (.iadd, 1) := by decide +kernel
theorem dX4_removed_86 : decode cX4_removed 86 = .ok (.istore 4, 2) := by decide +kernel
theorem dX4_removed_88 : decode cX4_removed 88 = .ok (.iinc 5 1, 3) := by decide +kernel
theorem dX4_removed_91 : decode cX4_removed 91 = .ok (.goto (-45), 3) := by decide +kernel
theorem dX4_removed_94 : decode cX4_removed 94 = .ok (.iload 4, 2) := by decide +kernel
theorem dX4_removed_96 : decode cX4_removed 96 = .ok (.ireturn, 1) := by decide +kernel
theorem dX4_added_0 : decode cX4_added 0 = .ok (.iconst 0, 1) := by decide +kernel
theorem dX4_added_1 : decode cX4_added 1 = .ok (.istore 4, 2) := by decide +kernel
theorem dX4_added_3 : decode cX4_added 3 = .ok (.aload_n 0, 1) := by decide +kernel
theorem dX4_added_4 : decode cX4_added 4 = .ok (.aload_n 0, 1) := by decide +kernel
theorem dX4_added_5 : decode cX4_added 5 = .ok (.iload_n 1, 1) := by decide +kernel
theorem dX4_added_6 : decode cX4_added 6 = .ok (.invokevirtual 119, 3) := by decide +kernel
theorem dX4_added_9 : decode cX4_added 9 = .ok (.ifCond .eq 11, 3) := by decide +kernel
theorem dX4_added_12 : decode cX4_added 12 = .ok (.iload_n 2, 1) := by decide +kernel
theorem dX4_added_13 : decode cX4_added 13 = .ok (.iload_n 3, 1) := by decide +kernel
theorem dX4_added_14 : decode cX4_added 14 = .ok (.invokestatic 140, 3) := by decide +kernel
theorem dX4_added_17 : decode cX4_added 17 = .ok (.ifCond .ne 7, 3) := by decide +kernel
theorem dX4_added_20 : decode cX4_added 20 = .ok (.iconst 1, 1) := by decide +kernel
theorem dX4_added_21 : decode cX4_added 21 = .ok (.goto 16, 3) := by decide +kernel
theorem dX4_added_24 : decode cX4_added 24 = .ok (.aload_n 0, 1) := by decide +kernel
theorem dX4_added_25 : decode cX4_added 25 = .ok (.iload_n 1, 1) := by decide +kernel
theorem dX4_added_26 : decode cX4_added 26 = .ok (.invokevirtual 122, 3) := by decide +kernel
theorem dX4_added_29 : decode cX4_added 29 = .ok (.ifCond .ne 7, 3) := by decide +kernel
theorem dX4_added_32 : decode cX4_added 32 = .ok (.iconst 2, 1) := by decide +kernel
theorem dX4_added_33 : decode cX4_added 33 = .ok (.goto 4, 3) := by decide +kernel
theorem dX4_added_36 : decode cX4_added 36 = .ok (.iconst 0, 1) := by decide +kernel
theorem dX4_added_37 : decode cX4_added 37 = .ok (.invokevirtual 94, 3) := by decide +kernel
theorem dX4_added_40 : decode cX4_added 40 = .ok (.ifCond .eq 54, 3) := by decide +kernel
theorem dX4_added_43 : decode cX4_added 43 = .ok (.iconst 0, 1) := by decide +kernel
theorem dX4_added_44 : decode cX4_added 44 = .ok (.istore 5, 2) := by decide +kernel
theorem dX4_added_46 : decode cX4_added 46 = .ok (.iload 5, 2) := by decide +kernel
theorem dX4_added_48 : decode cX4_added 48 = .ok (.aload_n 0, 1) := by decide +kernel
theorem dX4_added_49 : decode cX4_added 49 = .ok (.getfield 84, 3) := by decide +kernel
theorem dX4_added_52 : decode cX4_added 52 = .ok (.if_icmp .ge 42, 3) := by decide +kernel
theorem dX4_added_55 : decode cX4_added 55 = .ok (.iload 4, 2) := by decide +kernel
theorem dX4_added_57 : decode cX4_added 57 = .ok (.aload_n 0, 1) := by decide +kernel
theorem dX4_added_58 : decode cX4_added 58 = .ok (.iload 5, 2) := by decide +kernel
theorem dX4_added_60 : decode cX4_added 60 = .ok (.iload_n 1, 1) := by decide +kernel
theorem dX4_added_61 : decode cX4_added 61 = .ok (.iload_n 2, 1) := by decide +kernel
theorem dX4_added_62 : decode cX4_added 62 = .ok (.iload_n 3, 1) := by decide +kernel
theorem dX4_added_63 : decode cX4_added 63 = .ok (.invokevirtual 147, 3) := by decide +kernel
theorem dX4_added_66 : decode cX4_added 66 = .ok (.ifCond .ne 18, 3) := by decide +kernel
theorem dX4_added_69 : decode cX4_added 69 = .ok (.aload_n 0, 1) := by decide +kernel
theorem dX4_added_70 : decode cX4_added 70 = .ok (.iload 5, 2) := by decide +kernel
theorem dX4_added_72 : decode cX4_added 72 = .ok (.iload_n 2, 1) := by decide +kernel
theorem dX4_added_73 : decode cX4_added 73 = .ok (.iload_n 3, 1) := by decide +kernel
theorem dX4_added_74 : decode cX4_added 74 = .ok (.invokevirtual 112, 3) := by decide +kernel
theorem dX4_added_77 : decode cX4_added 77 = .ok (.ifCond .eq 7, 3) := by decide +kernel
theorem dX4_added_80 : decode cX4_added 80 = .ok (.iconst 1, 1) := by decide +kernel
theorem dX4_added_81 : decode cX4_added 81 = .ok (.goto 4, 3) := by decide +kernel
theorem dX4_added_84 : decode cX4_added 84 = .ok (.iconst 0, 1) := by decide +kernel
theorem dX4_added_85 : decode cX4_added 85 = .ok (.iadd, 1) := by decide +kernel
theorem dX4_added_86 : decode cX4_added 86 = .ok (.istore 4, 2) := by decide +kernel
theorem dX4_added_88 : decode cX4_added 88 = .ok (.iinc 5 1, 3) := by decide +kernel
theorem dX4_added_91 : decode cX4_added 91 = .ok (.goto (-45), 3) := by decide +kernel
theorem dX4_added_94 : decode cX4_added 94 = .ok (.iload 4, 2) := by decide +kernel
theorem dX4_added_96 : decode cX4_added 96 = .ok (.ireturn, 1) := by decide +kernel
theorem dX4_isClient_0 : decode cX4_isClient 0 = .ok (.iload_n 0, 1) := by decide +kernel
theorem dX4_isClient_1 : decode cX4_isClient 1 = .ok (.iconst 0, 1) := by decide +kernel
theorem dX4_isClient_2 : decode cX4_isClient 2 = .ok (.iconst 1, 1) := by decide +kernel
theorem dX4_isClient_3 : decode cX4_isClient 3 = .ok (.invokestatic 87, 3) := by decide +kernel
theorem dX4_isClient_6 : decode cX4_isClient 6 = .ok (.ireturn, 1) := by decide +kernel
theorem dX4_watch_0 : decode cX4_watch 0 = .ok (.aload_n 0, 1) := by decide +kernel
theorem dX4_watch_1 : decode cX4_watch 1 = .ok (.iload_n 1, 1) := by decide +kernel
theorem dX4_watch_2 : decode cX4_watch 2 = .ok (.invokestatic 151, 3) := by decide +kernel
theorem dX4_watch_5 : decode cX4_watch 5 = .ok (.ifCond .eq 26, 3) := by decide +kernel
theorem dX4_watch_8 : decode cX4_watch 8 = .ok (.iload_n 2, 1) := by decide +kernel
theorem dX4_watch_9 : decode cX4_watch 9 = .ok (.iconst 0, 1) := by decide +kernel
theorem dX4_watch_10 : decode cX4_watch 10 = .ok (.iconst 5, 1) := by decide +kernel
theorem dX4_watch_11 : decode cX4_watch 11 = .ok (.invokestatic 87, 3) := by decide +kernel
theorem dX4_watch_14 : decode cX4_watch 14 = .ok (.ifCond .eq 17, 3) := by decide +kernel
theorem dX4_watch_17 : decode cX4_watch 17 = .ok (.iload_n 3, 1) := by decide +kernel
theorem dX4_watch_18 : decode cX4_watch 18 = .ok (.iconst 1, 1) := by decide +kernel
theorem dX4_watch_19 : decode cX4_watch 19 = .ok (.bipush 10, 2) := by decide +kernel
theorem dX4_watch_21 : decode cX4_watch 21 = .ok (.invokestatic 87, 3) := by decide +kernel
theorem dX4_watch_24 : decode cX4_watch 24 = .ok (.ifCond .eq 7, 3) := by decide +kernel
theorem dX4_watch_27 : decode cX4_watch 27 = .ok (.iconst 0, 1) := by decide +kernel
theorem dX4_watch_28 : decode cX4_watch 28 = .ok (.goto 4, 3) := by decide +kernel
theorem dX4_watch_31 : decode cX4_watch 31 = .ok (.iconst 1, 1) := by decide +kernel
theorem dX4_watch_32 : decode cX4_watch 32 = .ok (.invokevirtual 94, 3) := by decide +kernel
theorem dX4_watch_35 : decode cX4_watch 35 = .ok (.ifCond .eq 17, 3) := by decide +kernel
theorem dX4_watch_38 : decode cX4_watch 38 = .ok (.aload_n 0, 1) := by decide +kernel
theorem dX4_watch_39 : decode cX4_watch 39 = .ok (.getfield 47, 3) := by decide +kernel
theorem dX4_watch_42 : decode cX4_watch 42 = .ok (.iload_n 1, 1) := by decide +kernel
theorem dX4_watch_43 : decode cX4_watch 43 = .ok (.iload_n 2, 1) := by decide +kernel
theorem dX4_watch_44 : decode cX4_watch 44 = .ok (.iastore, 1) := by decide +kernel
theorem dX4_watch_45 : decode cX4_watch 45 = .ok (.aload_n 0, 1) := by decide +kernel
theorem dX4_watch_46 : decode cX4_watch 46 = .ok (.getfield 50, 3) := by decide +kernel
theorem dX4_watch_49 : decode cX4_watch 49 = .ok (.iload_n 1, 1) := by decide +kernel
theorem dX4_watch_50 : decode cX4_watch 50 = .ok (.iload_n 3, 1) := by decide +kernel
theorem dX4_watch_51 : decode cX4_watch 51 = .ok (.iastore, 1) := by decide +kernel
theorem dX4_watch_52 : decode cX4_watch 52 = .ok (.return_, 1) := by decide +kernel
theorem dX4_windowPlace_0 : decode cX4_windowPlace 0 = .ok (.iconst (-1), 1) := by decide +kernel
theorem dX4_windowPlace_1 : decode cX4_windowPlace 1 = .ok (.istore_n 3, 1) := by decide +kernel
theorem dX4_windowPlace_2 : decode cX4_windowPlace 2 = .ok (.bipush 10, 2) := by decide +kernel
theorem dX4_windowPlace_4 : decode cX4_windowPlace 4 = .ok (.iload_n 1, 1) := by decide +kernel
theorem dX4_windowPlace_5 : decode cX4_windowPlace 5 = .ok (.imul, 1) := by decide +kernel
theorem dX4_windowPlace_6 : decode cX4_windowPlace 6 = .ok (.istore 4, 2) := by decide +kernel
theorem dX4_windowPlace_8 : decode cX4_windowPlace 8 = .ok (.iload 4, 2) := by decide +kernel
theorem dX4_windowPlace_10 : decode cX4_windowPlace 10 = .ok (.bipush 10, 2) := by decide +kernel
theorem dX4_windowPlace_12 : decode cX4_windowPlace 12 = .ok (.iload_n 1, 1) := by decide +kernel
theorem dX4_windowPlace_13 : decode cX4_windowPlace 13 = .ok (.imul, 1) := by decide +kernel
theorem dX4_windowPlace_14 : decode cX4_windowPlace 14 = .ok (.aload_n 0, 1) := by decide +kernel
theorem dX4_windowPlace_15 : decode cX4_windowPlace 15 = .ok (.getfield 56, 3) := by decide +kernel
theorem dX4_windowPlace_18 : decode cX4_windowPlace 18 = .ok (.iload_n 1, 1) := by decide +kernel
theorem dX4_windowPlace_19 : decode cX4_windowPlace 19 = .ok (.iaload, 1) := by decide +kernel
theorem dX4_windowPlace_20 : decode cX4_windowPlace 20 = .ok (.iadd, 1) := by decide +kernel
theorem dX4_windowPlace_21 : decode cX4_windowPlace 21 = .ok (.if_icmp .ge 27, 3) := by decide +kernel
theorem dX4_windowPlace_24 : decode cX4_windowPlace 24 = .ok (.aload_n 0, 1) := by decide +kernel
theorem dX4_windowPlace_25 : decode cX4_windowPlace 25 = .ok (.getfield 59, 3) := by decide +kernel
theorem dX4_windowPlace_28 : decode cX4_windowPlace 28 = .ok (.iload 4, 2) := by decide +kernel
theorem dX4_windowPlace_30 : decode cX4_windowPlace 30 = .ok (.iaload, 1) := by decide +kernel
theorem dX4_windowPlace_31 : decode cX4_windowPlace 31 = .ok (.iload_n 2, 1) := by decide +kernel
theorem dX4_windowPlace_32 : decode cX4_windowPlace 32 = .ok (.if_icmp .ne 8, 3) := by decide +kernel
theorem dX4_windowPlace_35 : decode cX4_windowPlace 35 = .ok (.iload 4, 2) := by decide +kernel
theorem dX4_windowPlace_37 : decode cX4_windowPlace 37 = .ok (.goto 4, 3) := by decide +kernel
theorem dX4_windowPlace_40 : decode cX4_windowPlace 40 = .ok (.iload_n 3, 1) := by decide +kernel
theorem dX4_windowPlace_41 : decode cX4_windowPlace 41 = .ok (.istore_n 3, 1) := by decide +kernel
theorem dX4_windowPlace_42 : decode cX4_windowPlace 42 = .ok (.iinc 4 1, 3) := by decide +kernel
theorem dX4_windowPlace_45 : decode cX4_windowPlace 45 = .ok (.goto (-37), 3) := by decide +kernel
theorem dX4_windowPlace_48 : decode cX4_windowPlace 48 = .ok (.iload_n 3, 1) := by decide +kernel
theorem dX4_windowPlace_49 : decode cX4_windowPlace 49 = .ok (.ireturn, 1) := by decide +kernel
theorem dX4_flagOffline_0 : decode cX4_flagOffline 0 = .ok (.iload_n 1, 1) := by decide +kernel
theorem dX4_flagOffline_1 : decode cX4_flagOffline 1 = .ok (.invokestatic 151, 3) := by decide +kernel
theorem dX4_flagOffline_4 : decode cX4_flagOffline 4 = .ok (.ifCond .eq 22, 3) := by decide +kernel
theorem dX4_flagOffline_7 : decode cX4_flagOffline 7 = .ok (.iload_n 3, 1) := by decide +kernel
theorem dX4_flagOffline_8 : decode cX4_flagOffline 8 = .ok (.iconst 0, 1) := by decide +kernel
theorem dX4_flagOffline_9 : decode cX4_flagOffline 9 = .ok (.iconst 3, 1) := by decide +kernel
theorem dX4_flagOffline_10 : decode cX4_flagOffline 10 = .ok (.invokestatic 87, 3) := by decide +kernel
theorem dX4_flagOffline_13 : decode cX4_flagOffline 13 = .ok (.ifCond .eq 13, 3) := by decide +kernel
theorem dX4_flagOffline_16 : decode cX4_flagOffline 16 = .ok (.aload_n 0, 1) := by decide +kernel
theorem dX4_flagOffline_17 : decode cX4_flagOffline 17 = .ok (.iload_n 1, 1) := by decide +kernel
theorem dX4_flagOffline_18 : decode cX4_flagOffline 18 = .ok (.iload_n 2, 1) := by decide +kernel
theorem dX4_flagOffline_19 : decode cX4_flagOffline 19 = .ok (.invokevirtual 154, 3) := by decide +kernel
theorem dX4_flagOffline_22 : decode cX4_flagOffline 22 = .ok (.iconst (-1), 1) := by decide +kernel
theorem dX4_flagOffline_23 : decode cX4_flagOffline 23 = .ok (.if_icmp .ne 7, 3) := by decide +kernel
theorem dX4_flagOffline_26 : decode cX4_flagOffline 26 = .ok (.iconst 1, 1) := by decide +kernel
theorem dX4_flagOffline_27 : decode cX4_flagOffline 27 = .ok (.goto 19, 3) := by decide +kernel
theorem dX4_flagOffline_30 : decode cX4_flagOffline 30 = .ok (.aload_n 0, 1) := by decide +kernel
theorem dX4_flagOffline_31 : decode cX4_flagOffline 31 = .ok (.getfield 65, 3) := by decide +kernel
theorem dX4_flagOffline_34 : decode cX4_flagOffline 34 = .ok (.iload_n 1, 1) := by decide +kernel
theorem dX4_flagOffline_35 : decode cX4_flagOffline 35 = .ok (.iaload, 1) := by decide +kernel
theorem dX4_flagOffline_36 : decode cX4_flagOffline 36 = .ok (.bipush 10, 2) := by decide +kernel
theorem dX4_flagOffline_38 : decode cX4_flagOffline 38 = .ok (.if_icmp .ne 7, 3) := by decide +kernel
theorem dX4_flagOffline_41 : decode cX4_flagOffline 41 = .ok (.iconst 2, 1) := by decide +kernel
theorem dX4_flagOffline_42 : decode cX4_flagOffline 42 = .ok (.goto 4, 3) := by decide +kernel
theorem dX4_flagOffline_45 : decode cX4_flagOffline 45 = .ok (.iconst 0, 1) := by decide +kernel
theorem dX4_flagOffline_46 : decode cX4_flagOffline 46 = .ok (.istore 5, 2) := by decide +kernel
theorem dX4_flagOffline_48 : decode cX4_flagOffline 48 = .ok (.aload_n 0, 1) := by decide +kernel
theorem dX4_flagOffline_49 : decode cX4_flagOffline 49 = .ok (.iload 5, 2) := by decide +kernel
theorem dX4_flagOffline_51 : decode cX4_flagOffline 51 = .ok (.invokevirtual 94, 3) := by decide +kernel
theorem dX4_flagOffline_54 : decode cX4_flagOffline 54 = .ok (.ifCond .ne 5, 3) := by decide +kernel
theorem dX4_flagOffline_57 : decode cX4_flagOffline 57 = .ok (.iconst 0, 1) := by decide +kernel
theorem dX4_flagOffline_58 : decode cX4_flagOffline 58 = .ok (.ireturn, 1) := by decide +kernel
theorem dX4_flagOffline_59 : decode cX4_flagOffline 59 = .ok (.bipush 10, 2) := by decide +kernel
theorem dX4_flagOffline_61 : decode cX4_flagOffline 61 = .ok (.iload_n 1, 1) := by decide +kernel
theorem dX4_flagOffline_62 : decode cX4_flagOffline 62 = .ok (.imul, 1) := by decide +kernel
theorem dX4_flagOffline_63 : decode cX4_flagOffline 63 = .ok (.aload_n 0, 1) := by decide +kernel
theorem dX4_flagOffline_64 : decode cX4_flagOffline 64 = .ok (.getfield 65, 3) := by decide +kernel
theorem dX4_flagOffline_67 : decode cX4_flagOffline 67 = .ok (.iload_n 1, 1) := by decide +kernel
theorem dX4_flagOffline_68 : decode cX4_flagOffline 68 = .ok (.iaload, 1) := by decide +kernel
theorem dX4_flagOffline_69 : decode cX4_flagOffline 69 = .ok (.iadd, 1) := by decide +kernel
theorem dX4_flagOffline_70 : decode cX4_flagOffline 70 = .ok (.istore 6, 2) := by decide +kernel
theorem dX4_flagOffline_72 : decode cX4_flagOffline 72 = .ok (.aload_n 0, 1) := by decide +kernel
theorem dX4_flagOffline_73 : decode cX4_flagOffline 73 = .ok (.getfield 68, 3) := by decide +kernel
theorem dX4_flagOffline_76 : decode cX4_flagOffline 76 = .ok (.iload 6, 2) := by decide +kernel
theorem dX4_flagOffline_78 : decode cX4_flagOffline 78 = .ok (.iload_n 2, 1) := by decide +kernel
theorem dX4_flagOffline_79 : decode cX4_flagOffline 79 = .ok (.iastore, 1) := by decide +kernel
theorem dX4_flagOffline_80 : decode cX4_flagOffline 80 = .ok (.aload_n 0, 1) := by decide +kernel
theorem dX4_flagOffline_81 : decode cX4_flagOffline 81 = .ok (.getfield 71, 3) := by decide +kernel
theorem dX4_flagOffline_84 : decode cX4_flagOffline 84 = .ok (.iload 6, 2) := by decide +kernel
theorem dX4_flagOffline_86 : decode cX4_flagOffline 86 = .ok (.iload_n 3, 1) := by decide +kernel
theorem dX4_flagOffline_87 : decode cX4_flagOffline 87 = .ok (.iastore, 1) := by decide +kernel
theorem dX4_flagOffline_88 : decode cX4_flagOffline 88 = .ok (.aload_n 0, 1) := by decide +kernel
theorem dX4_flagOffline_89 : decode cX4_flagOffline 89 = .ok (.getfield 74, 3) := by decide +kernel
theorem dX4_flagOffline_92 : decode cX4_flagOffline 92 = .ok (.iload 6, 2) := by decide +kernel
theorem dX4_flagOffline_94 : decode cX4_flagOffline 94 = .ok (.iload 4, 2) := by decide +kernel
theorem dX4_flagOffline_96 : decode cX4_flagOffline 96 = .ok (.bastore, 1) := by decide +kernel
theorem dX4_flagOffline_97 : decode cX4_flagOffline 97 = .ok (.aload_n 0, 1) := by decide +kernel
theorem dX4_flagOffline_98 : decode cX4_flagOffline 98 = .ok (.getfield 65, 3) := by decide +kernel
theorem dX4_flagOffline_101 : decode cX4_flagOffline 101 = .ok (.iload_n 1, 1) := by decide +kernel
theorem dX4_flagOffline_102 : decode cX4_flagOffline 102 = .ok (.dup2, 1) := by decide +kernel
theorem dX4_flagOffline_103 : decode cX4_flagOffline 103 = .ok (.iaload, 1) := by decide +kernel
theorem dX4_flagOffline_104 : decode cX4_flagOffline 104 = .ok (.iconst 1, 1) := by decide +kernel
theorem dX4_flagOffline_105 : decode cX4_flagOffline 105 = .ok (.iadd, 1) := by decide +kernel
theorem dX4_flagOffline_106 : decode cX4_flagOffline 106 = .ok (.iastore, 1) := by decide +kernel
theorem dX4_flagOffline_107 : decode cX4_flagOffline 107 = .ok (.aload_n 0, 1) := by decide +kernel
theorem dX4_flagOffline_108 : decode cX4_flagOffline 108 = .ok (.iload_n 1, 1) := by decide +kernel
theorem dX4_flagOffline_109 : decode cX4_flagOffline 109 = .ok (.iload_n 2, 1) := by decide +kernel
theorem dX4_flagOffline_110 : decode cX4_flagOffline 110 = .ok (.invokevirtual 154, 3) := by decide +kernel
theorem dX4_flagOffline_113 : decode cX4_flagOffline 113 = .ok (.istore 7, 2) := by decide +kernel
theorem dX4_flagOffline_115 : decode cX4_flagOffline 115 = .ok (.aload_n 0, 1) := by decide +kernel
theorem dX4_flagOffline_116 : decode cX4_flagOffline 116 = .ok (.getfield 62, 3) := by decide +kernel
theorem dX4_flagOffline_119 : decode cX4_flagOffline 119 = .ok (.iload 7, 2) := by decide +kernel
theorem dX4_flagOffline_121 : decode cX4_flagOffline 121 = .ok (.iload 4, 2) := by decide +kernel
theorem dX4_flagOffline_123 : decode cX4_flagOffline 123 = .ok (.ifCond .eq 17, 3) := by decide +kernel
theorem dX4_flagOffline_126 : decode cX4_flagOffline 126 = .ok (.aload_n 0, 1) := by decide +kernel
theorem dX4_flagOffline_127 : decode cX4_flagOffline 127 = .ok (.getfield 62, 3) := by decide +kernel
theorem dX4_flagOffline_130 : decode cX4_flagOffline 130 = .ok (.iload 7, 2) := by decide +kernel
theorem dX4_flagOffline_132 : decode cX4_flagOffline 132 = .ok (.iaload, 1) := by decide +kernel
theorem dX4_flagOffline_133 : decode cX4_flagOffline 133 = .ok (.iconst 1, 1) := by decide +kernel
theorem dX4_flagOffline_134 : decode cX4_flagOffline 134 = .ok (.iload_n 3, 1) := by decide +kernel
theorem dX4_flagOffline_135 : decode cX4_flagOffline 135 = .ok (.ishl, 1) := by decide +kernel
theorem dX4_flagOffline_136 : decode cX4_flagOffline 136 = .ok (.ior, 1) := by decide +kernel
theorem dX4_flagOffline_137 : decode cX4_flagOffline 137 = .ok (.goto 16, 3) := by decide +kernel
theorem dX4_flagOffline_140 : decode cX4_flagOffline 140 = .ok (.aload_n 0, 1) := by decide +kernel
theorem dX4_flagOffline_141 : decode cX4_flagOffline 141 = .ok (.getfield 62, 3) := by decide +kernel
theorem dX4_flagOffline_144 : decode cX4_flagOffline 144 = .ok (.iload 7, 2) := by decide +kernel
theorem dX4_flagOffline_146 : decode cX4_flagOffline 146 = .ok (.iaload, 1) := by decide +kernel
theorem dX4_flagOffline_147 : decode cX4_flagOffline 147 = .ok (.iconst 1, 1) := by decide +kernel
theorem dX4_flagOffline_148 : decode cX4_flagOffline 148 = .ok (.iload_n 3, 1) := by decide +kernel
theorem dX4_flagOffline_149 : decode cX4_flagOffline 149 = .ok (.ishl, 1) := by decide +kernel
theorem dX4_flagOffline_150 : decode cX4_flagOffline 150 = .ok (.iconst (-1), 1) := by decide +kernel
theorem dX4_flagOffline_151 : decode cX4_flagOffline 151 = .ok (.ixor, 1) := by decide +kernel
theorem dX4_flagOffline_152 : decode cX4_flagOffline 152 = .ok (.iand, 1) := by decide +kernel
theorem dX4_flagOffline_153 : decode cX4_flagOffline 153 = .ok (.iastore, 1) := by decide +kernel
theorem dX4_flagOffline_154 : decode cX4_flagOffline 154 = .ok (.aload_n 0, 1) := by decide +kernel
theorem dX4_flagOffline_155 : decode cX4_flagOffline 155 = .ok (.getfield 65, 3) := by decide +kernel
theorem dX4_flagOffline_158 : decode cX4_flagOffline 158 = .ok (.iload_n 1, 1) := by decide +kernel
theorem dX4_flagOffline_159 : decode cX4_flagOffline 159 = .ok (.iaload, 1) := by decide +kernel
theorem dX4_flagOffline_160 : decode cX4_flagOffline 160 = .ok (.ireturn, 1) := by decide +kernel
theorem dX4_isOtherwise_0 : decode cX4_isOtherwise 0 = .ok (.iconst 0, 1) := by decide +kernel
theorem dX4_isOtherwise_1 : decode cX4_isOtherwise 1 = .ok (.istore 6, 2) := by decide +kernel
theorem dX4_isOtherwise_3 : decode cX4_isOtherwise 3 = .ok (.iload 4, 2) := by decide +kernel
theorem dX4_isOtherwise_5 : decode cX4_isOtherwise 5 = .ok (.istore 7, 2) := by decide +kernel
theorem dX4_isOtherwise_7 : decode cX4_isOtherwise 7 = .ok (.iload 7, 2) := by decide +kernel
theorem dX4_isOtherwise_9 : decode cX4_isOtherwise 9 = .ok (.iload 5, 2) := by decide +kernel
theorem dX4_isOtherwise_11 : decode cX4_isOtherwise 11 = .ok (.if_icmp .ge 65, 3) := by decide +kernel
theorem dX4_isOtherwise_14 : decode cX4_isOtherwise 14 = .ok (.aload_n 0, 1) := by decide +kernel
theorem dX4_isOtherwise_15 : decode cX4_isOtherwise 15 = .ok (.getfield 31, 3) := by decide +kernel
theorem dX4_isOtherwise_18 : decode cX4_isOtherwise 18 = .ok (.iload 7, 2) := by decide +kernel
theorem dX4_isOtherwise_20 : decode cX4_isOtherwise 20 = .ok (.iaload, 1) := by decide +kernel
theorem dX4_isOtherwise_21 : decode cX4_isOtherwise 21 = .ok (.iload_n 1, 1) := by decide +kernel
theorem dX4_isOtherwise_22 : decode cX4_isOtherwise 22 = .ok (.if_icmp .ne 44, 3) := by decide +kernel
theorem dX4_isOtherwise_25 : decode cX4_isOtherwise 25 = .ok (.aload_n 0, 1) := by decide +kernel
theorem dX4_isOtherwise_26 : decode cX4_isOtherwise 26 = .ok (.getfield 28, 3) := by decide +kernel
theorem dX4_isOtherwise_29 : decode cX4_isOtherwise 29 = .ok (.iload 7, 2) := by decide +kernel
theorem dX4_isOtherwise_31 : decode cX4_isOtherwise 31 = .ok (.iaload, 1) := by decide +kernel
theorem dX4_isOtherwise_32 : decode cX4_isOtherwise 32 = .ok (.iconst 2, 1) := by decide +kernel
theorem dX4_isOtherwise_33 : decode cX4_isOtherwise 33 = .ok (.if_icmp .ne 33, 3) := by decide +kernel
theorem dX4_isOtherwise_36 : decode cX4_isOtherwise 36 = .ok (.aload_n 0, 1) := by decide +kernel
theorem dX4_isOtherwise_37 : decode cX4_isOtherwise 37 = .ok (.getfield 40, 3) := by decide +kernel
theorem dX4_isOtherwise_40 : decode cX4_isOtherwise 40 = .ok (.iload 7, 2) := by decide +kernel
theorem dX4_isOtherwise_42 : decode cX4_isOtherwise 42 = .ok (.iaload, 1) := by decide +kernel
theorem dX4_isOtherwise_43 : decode cX4_isOtherwise 43 = .ok (.iload_n 2, 1) := by decide +kernel
theorem dX4_isOtherwise_44 : decode cX4_isOtherwise 44 = .ok (.if_icmp .ne 22, 3) := by decide +kernel
theorem dX4_isOtherwise_47 : decode cX4_isOtherwise 47 = .ok (.aload_n 0, 1) := by decide +kernel
theorem dX4_isOtherwise_48 : decode cX4_isOtherwise 48 = .ok (.getfield 43, 3) := by decide +kernel
theorem dX4_isOtherwise_51 : decode cX4_isOtherwise 51 = .ok (.iload 7, 2) := by decide +kernel
theorem dX4_isOtherwise_53 : decode cX4_isOtherwise 53 = .ok (.baload, 1) := by decide +kernel
theorem dX4_isOtherwise_54 : decode cX4_isOtherwise 54 = .ok (.iload_n 3, 1) := by decide +kernel
theorem dX4_isOtherwise_55 : decode cX4_isOtherwise 55 = .ok (.if_icmp .eq 7, 3) := by decide +kernel
theorem dX4_isOtherwise_58 : decode cX4_isOtherwise 58 = .ok (.iconst 1, 1) := by decide +kernel
theorem dX4_isOtherwise_59 : decode cX4_isOtherwise 59 = .ok (.goto 9, 3) := by decide +kernel
theorem dX4_isOtherwise_62 : decode cX4_isOtherwise 62 = .ok (.iconst 0, 1) := by decide +kernel
theorem dX4_isOtherwise_63 : decode cX4_isOtherwise 63 = .ok (.goto 5, 3) := by decide +kernel
theorem dX4_isOtherwise_66 : decode cX4_isOtherwise 66 = .ok (.iload 6, 2) := by decide +kernel
theorem dX4_isOtherwise_68 : decode cX4_isOtherwise 68 = .ok (.istore 6, 2) := by decide +kernel
theorem dX4_isOtherwise_70 : decode cX4_isOtherwise 70 = .ok (.iinc 7 1, 3) := by decide +kernel
theorem dX4_isOtherwise_73 : decode cX4_isOtherwise 73 = .ok (.goto (-66), 3) := by decide +kernel
theorem dX4_isOtherwise_76 : decode cX4_isOtherwise 76 = .ok (.iload 6, 2) := by decide +kernel
theorem dX4_isOtherwise_78 : decode cX4_isOtherwise 78 = .ok (.ireturn, 1) := by decide +kernel
theorem dX4_takes_0 : decode cX4_takes 0 = .ok (.aload_n 0, 1) := by decide +kernel
theorem dX4_takes_1 : decode cX4_takes 1 = .ok (.aload_n 0, 1) := by decide +kernel
theorem dX4_takes_2 : decode cX4_takes 2 = .ok (.getfield 47, 3) := by decide +kernel
theorem dX4_takes_5 : decode cX4_takes 5 = .ok (.iload_n 1, 1) := by decide +kernel
theorem dX4_takes_6 : decode cX4_takes 6 = .ok (.iaload, 1) := by decide +kernel
theorem dX4_takes_7 : decode cX4_takes 7 = .ok (.iconst (-1), 1) := by decide +kernel
theorem dX4_takes_8 : decode cX4_takes 8 = .ok (.invokevirtual 115, 3) := by decide +kernel
theorem dX4_takes_11 : decode cX4_takes 11 = .ok (.istore_n 2, 1) := by decide +kernel
theorem dX4_takes_12 : decode cX4_takes 12 = .ok (.aload_n 0, 1) := by decide +kernel
theorem dX4_takes_13 : decode cX4_takes 13 = .ok (.getfield 56, 3) := by decide +kernel
theorem dX4_takes_16 : decode cX4_takes 16 = .ok (.iload_n 1, 1) := by decide +kernel
theorem dX4_takes_17 : decode cX4_takes 17 = .ok (.iload_n 2, 1) := by decide +kernel
theorem dX4_takes_18 : decode cX4_takes 18 = .ok (.aload_n 0, 1) := by decide +kernel
theorem dX4_takes_19 : decode cX4_takes 19 = .ok (.getfield 50, 3) := by decide +kernel
theorem dX4_takes_22 : decode cX4_takes 22 = .ok (.iload_n 1, 1) := by decide +kernel
theorem dX4_takes_23 : decode cX4_takes 23 = .ok (.iaload, 1) := by decide +kernel
theorem dX4_takes_24 : decode cX4_takes 24 = .ok (.if_icmp .ge 7, 3) := by decide +kernel
theorem dX4_takes_27 : decode cX4_takes 27 = .ok (.iload_n 2, 1) := by decide +kernel
theorem dX4_takes_28 : decode cX4_takes 28 = .ok (.goto 9, 3) := by decide +kernel
theorem dX4_takes_31 : decode cX4_takes 31 = .ok (.aload_n 0, 1) := by decide +kernel
theorem dX4_takes_32 : decode cX4_takes 32 = .ok (.getfield 50, 3) := by decide +kernel
theorem dX4_takes_35 : decode cX4_takes 35 = .ok (.iload_n 1, 1) := by decide +kernel
theorem dX4_takes_36 : decode cX4_takes 36 = .ok (.iaload, 1) := by decide +kernel
theorem dX4_takes_37 : decode cX4_takes 37 = .ok (.iastore, 1) := by decide +kernel
theorem dX4_takes_38 : decode cX4_takes 38 = .ok (.iconst 0, 1) := by decide +kernel
theorem dX4_takes_39 : decode cX4_takes 39 = .ok (.istore_n 3, 1) := by decide +kernel
theorem dX4_takes_40 : decode cX4_takes 40 = .ok (.iload_n 3, 1) := by decide +kernel
theorem dX4_takes_41 : decode cX4_takes 41 = .ok (.aload_n 0, 1) := by decide +kernel
theorem dX4_takes_42 : decode cX4_takes 42 = .ok (.getfield 56, 3) := by decide +kernel
theorem dX4_takes_45 : decode cX4_takes 45 = .ok (.iload_n 1, 1) := by decide +kernel
theorem dX4_takes_46 : decode cX4_takes 46 = .ok (.iaload, 1) := by decide +kernel
theorem dX4_takes_47 : decode cX4_takes 47 = .ok (.if_icmp .ge 59, 3) := by decide +kernel
theorem dX4_takes_50 : decode cX4_takes 50 = .ok (.aload_n 0, 1) := by decide +kernel
theorem dX4_takes_51 : decode cX4_takes 51 = .ok (.getfield 59, 3) := by decide +kernel
theorem dX4_takes_54 : decode cX4_takes 54 = .ok (.bipush 10, 2) := by decide +kernel
theorem dX4_takes_56 : decode cX4_takes 56 = .ok (.iload_n 1, 1) := by decide +kernel
theorem dX4_takes_57 : decode cX4_takes 57 = .ok (.imul, 1) := by decide +kernel
theorem dX4_takes_58 : decode cX4_takes 58 = .ok (.iload_n 3, 1) := by decide +kernel
theorem dX4_takes_59 : decode cX4_takes 59 = .ok (.iadd, 1) := by decide +kernel
theorem dX4_takes_60 : decode cX4_takes 60 = .ok (.aload_n 0, 1) := by decide +kernel
theorem dX4_takes_61 : decode cX4_takes 61 = .ok (.aload_n 0, 1) := by decide +kernel
theorem dX4_takes_62 : decode cX4_takes 62 = .ok (.getfield 47, 3) := by decide +kernel
theorem dX4_takes_65 : decode cX4_takes 65 = .ok (.iload_n 1, 1) := by decide +kernel
theorem dX4_takes_66 : decode cX4_takes 66 = .ok (.iaload, 1) := by decide +kernel
theorem dX4_takes_67 : decode cX4_takes 67 = .ok (.iconst (-1), 1) := by decide +kernel
theorem dX4_takes_68 : decode cX4_takes 68 = .ok (.iload_n 3, 1) := by decide +kernel
theorem dX4_takes_69 : decode cX4_takes 69 = .ok (.invokevirtual 143, 3) := by decide +kernel
theorem dX4_takes_72 : decode cX4_takes 72 = .ok (.iastore, 1) := by decide +kernel
theorem dX4_takes_73 : decode cX4_takes 73 = .ok (.aload_n 0, 1) := by decide +kernel
theorem dX4_takes_74 : decode cX4_takes 74 = .ok (.getfield 62, 3) := by decide +kernel
theorem dX4_takes_77 : decode cX4_takes 77 = .ok (.bipush 10, 2) := by decide +kernel
theorem dX4_takes_79 : decode cX4_takes 79 = .ok (.iload_n 1, 1) := by decide +kernel
theorem dX4_takes_80 : decode cX4_takes 80 = .ok (.imul, 1) := by decide +kernel
theorem dX4_takes_81 : decode cX4_takes 81 = .ok (.iload_n 3, 1) := by decide +kernel
theorem dX4_takes_82 : decode cX4_takes 82 = .ok (.iadd, 1) := by decide +kernel
theorem dX4_takes_83 : decode cX4_takes 83 = .ok (.aload_n 0, 1) := by decide +kernel
theorem dX4_takes_84 : decode cX4_takes 84 = .ok (.getfield 16, 3) := by decide +kernel
theorem dX4_takes_87 : decode cX4_takes 87 = .ok (.aload_n 0, 1) := by decide +kernel
theorem dX4_takes_88 : decode cX4_takes 88 = .ok (.getfield 59, 3) := by decide +kernel
theorem dX4_takes_91 : decode cX4_takes 91 = .ok (.bipush 10, 2) := by decide +kernel
theorem dX4_takes_93 : decode cX4_takes 93 = .ok (.iload_n 1, 1) := by decide +kernel
theorem dX4_takes_94 : decode cX4_takes 94 = .ok (.imul, 1) := by decide +kernel
theorem dX4_takes_95 : decode cX4_takes 95 = .ok (.iload_n 3, 1) := by decide +kernel
theorem dX4_takes_96 : decode cX4_takes 96 = .ok (.iadd, 1) := by decide +kernel
theorem dX4_takes_97 : decode cX4_takes 97 = .ok (.iaload, 1) := by decide +kernel
theorem dX4_takes_98 : decode cX4_takes 98 = .ok (.iaload, 1) := by decide +kernel
theorem dX4_takes_99 : decode cX4_takes 99 = .ok (.iastore, 1) := by decide +kernel
theorem dX4_takes_100 : decode cX4_takes 100 = .ok (.iinc 3 1, 3) := by decide +kernel
theorem dX4_takes_103 : decode cX4_takes 103 = .ok (.goto (-63), 3) := by decide +kernel
theorem dX4_takes_106 : decode cX4_takes 106 = .ok (.aload_n 0, 1) := by decide +kernel
theorem dX4_takes_107 : decode cX4_takes 107 = .ok (.getfield 53, 3) := by decide +kernel
theorem dX4_takes_110 : decode cX4_takes 110 = .ok (.iload_n 1, 1) := by decide +kernel
theorem dX4_takes_111 : decode cX4_takes 111 = .ok (.aload_n 0, 1) := by decide +kernel
theorem dX4_takes_112 : decode cX4_takes 112 = .ok (.getfield 91, 3) := by decide +kernel
theorem dX4_takes_115 : decode cX4_takes 115 = .ok (.iastore, 1) := by decide +kernel
theorem dX4_takes_116 : decode cX4_takes 116 = .ok (.aload_n 0, 1) := by decide +kernel
theorem dX4_takes_117 : decode cX4_takes 117 = .ok (.getfield 65, 3) := by decide +kernel
theorem dX4_takes_120 : decode cX4_takes 120 = .ok (.iload_n 1, 1) := by decide +kernel
theorem dX4_takes_121 : decode cX4_takes 121 = .ok (.iconst 0, 1) := by decide +kernel
theorem dX4_takes_122 : decode cX4_takes 122 = .ok (.iastore, 1) := by decide +kernel
theorem dX4_takes_123 : decode cX4_takes 123 = .ok (.return_, 1) := by decide +kernel
theorem dX4_sync_0 : decode cX4_sync 0 = .ok (.aload_n 0, 1) := by decide +kernel
theorem dX4_sync_1 : decode cX4_sync 1 = .ok (.iload_n 1, 1) := by decide +kernel
theorem dX4_sync_2 : decode cX4_sync 2 = .ok (.invokestatic 151, 3) := by decide +kernel
theorem dX4_sync_5 : decode cX4_sync 5 = .ok (.ifCond .eq 7, 3) := by decide +kernel
theorem dX4_sync_8 : decode cX4_sync 8 = .ok (.iconst 0, 1) := by decide +kernel
theorem dX4_sync_9 : decode cX4_sync 9 = .ok (.goto 4, 3) := by decide +kernel
theorem dX4_sync_12 : decode cX4_sync 12 = .ok (.iconst 1, 1) := by decide +kernel
theorem dX4_sync_13 : decode cX4_sync 13 = .ok (.invokevirtual 94, 3) := by decide +kernel
theorem dX4_sync_16 : decode cX4_sync 16 = .ok (.ifCond .ne 5, 3) := by decide +kernel
theorem dX4_sync_19 : decode cX4_sync 19 = .ok (.iconst 0, 1) := by decide +kernel
theorem dX4_sync_20 : decode cX4_sync 20 = .ok (.ireturn, 1) := by decide +kernel
theorem dX4_sync_21 : decode cX4_sync 21 = .ok (.aload_n 0, 1) := by decide +kernel
theorem dX4_sync_22 : decode cX4_sync 22 = .ok (.getfield 53, 3) := by decide +kernel
theorem dX4_sync_25 : decode cX4_sync 25 = .ok (.iload_n 1, 1) := by decide +kernel
theorem dX4_sync_26 : decode cX4_sync 26 = .ok (.iaload, 1) := by decide +kernel
theorem dX4_sync_27 : decode cX4_sync 27 = .ok (.istore_n 2, 1) := by decide +kernel
theorem dX4_sync_28 : decode cX4_sync 28 = .ok (.aload_n 0, 1) := by decide +kernel
theorem dX4_sync_29 : decode cX4_sync 29 = .ok (.getfield 91, 3) := by decide +kernel
theorem dX4_sync_32 : decode cX4_sync 32 = .ok (.istore_n 3, 1) := by decide +kernel
theorem dX4_sync_33 : decode cX4_sync 33 = .ok (.aload_n 0, 1) := by decide +kernel
theorem dX4_sync_34 : decode cX4_sync 34 = .ok (.iload_n 2, 1) := by decide +kernel
theorem dX4_sync_35 : decode cX4_sync 35 = .ok (.invokevirtual 122, 3) := by decide +kernel
theorem dX4_sync_38 : decode cX4_sync 38 = .ok (.istore 4, 2) := by decide +kernel
theorem dX4_sync_40 : decode cX4_sync 40 = .ok (.iconst 0, 1) := by decide +kernel
theorem dX4_sync_41 : decode cX4_sync 41 = .ok (.istore 5, 2) := by decide +kernel
theorem dX4_sync_43 : decode cX4_sync 43 = .ok (.bipush 10, 2) := by decide +kernel
theorem dX4_sync_45 : decode cX4_sync 45 = .ok (.iload_n 1, 1) := by decide +kernel
theorem dX4_sync_46 : decode cX4_sync 46 = .ok (.imul, 1) := by decide +kernel
theorem dX4_sync_47 : decode cX4_sync 47 = .ok (.istore 6, 2) := by decide +kernel
theorem dX4_sync_49 : decode cX4_sync 49 = .ok (.iload 6, 2) := by decide +kernel
theorem dX4_sync_51 : decode cX4_sync 51 = .ok (.bipush 10, 2) := by decide +kernel
theorem dX4_sync_53 : decode cX4_sync 53 = .ok (.iload_n 1, 1) := by decide +kernel
theorem dX4_sync_54 : decode cX4_sync 54 = .ok (.imul, 1) := by decide +kernel
theorem dX4_sync_55 : decode cX4_sync 55 = .ok (.aload_n 0, 1) := by decide +kernel
theorem dX4_sync_56 : decode cX4_sync 56 = .ok (.getfield 65, 3) := by decide +kernel
theorem dX4_sync_59 : decode cX4_sync 59 = .ok (.iload_n 1, 1) := by decide +kernel
theorem dX4_sync_60 : decode cX4_sync 60 = .ok (.iaload, 1) := by decide +kernel
theorem dX4_sync_61 : decode cX4_sync 61 = .ok (.iadd, 1) := by decide +kernel
theorem dX4_sync_62 : decode cX4_sync 62 = .ok (.if_icmp .ge 112, 3) := by decide +kernel
theorem dX4_sync_65 : decode cX4_sync 65 = .ok (.aload_n 0, 1) := by decide +kernel
theorem dX4_sync_66 : decode cX4_sync 66 = .ok (.getfield 25, 3) := by decide +kernel
theorem dX4_sync_69 : decode cX4_sync 69 = .ok (.aload_n 0, 1) := by decide +kernel
theorem dX4_sync_70 : decode cX4_sync 70 = .ok (.getfield 68, 3) := by decide +kernel
theorem dX4_sync_73 : decode cX4_sync 73 = .ok (.iload 6, 2) := by decide +kernel
theorem dX4_sync_75 : decode cX4_sync 75 = .ok (.iaload, 1) := by decide +kernel
theorem dX4_sync_76 : decode cX4_sync 76 = .ok (.iaload, 1) := by decide +kernel
theorem dX4_sync_77 : decode cX4_sync 77 = .ok (.ifCond .gt 38, 3) := by decide +kernel
theorem dX4_sync_80 : decode cX4_sync 80 = .ok (.iload 4, 2) := by decide +kernel
theorem dX4_sync_82 : decode cX4_sync 82 = .ok (.ifCond .eq 37, 3) := by decide +kernel
theorem dX4_sync_85 : decode cX4_sync 85 = .ok (.aload_n 0, 1) := by decide +kernel
theorem dX4_sync_86 : decode cX4_sync 86 = .ok (.aload_n 0, 1) := by decide +kernel
theorem dX4_sync_87 : decode cX4_sync 87 = .ok (.getfield 68, 3) := by decide +kernel
theorem dX4_sync_90 : decode cX4_sync 90 = .ok (.iload 6, 2) := by decide +kernel
theorem dX4_sync_92 : decode cX4_sync 92 = .ok (.iaload, 1) := by decide +kernel
theorem dX4_sync_93 : decode cX4_sync 93 = .ok (.aload_n 0, 1) := by decide +kernel
theorem dX4_sync_94 : decode cX4_sync 94 = .ok (.getfield 71, 3) := by decide +kernel
theorem dX4_sync_97 : decode cX4_sync 97 = .ok (.iload 6, 2) := by decide +kernel
theorem dX4_sync_99 : decode cX4_sync 99 = .ok (.iaload, 1) := by decide +kernel
theorem dX4_sync_100 : decode cX4_sync 100 = .ok (.aload_n 0, 1) := by decide +kernel
theorem dX4_sync_101 : decode cX4_sync 101 = .ok (.getfield 74, 3) := by decide +kernel
theorem dX4_sync_104 : decode cX4_sync 104 = .ok (.iload 6, 2) := by decide +kernel
theorem dX4_sync_106 : decode cX4_sync 106 = .ok (.baload, 1) := by decide +kernel
theorem dX4_sync_107 : decode cX4_sync 107 = .ok (.iload_n 2, 1) := by decide +kernel
theorem dX4_sync_108 : decode cX4_sync 108 = .ok (.iload_n 3, 1) := by decide +kernel
theorem dX4_sync_109 : decode cX4_sync 109 = .ok (.invokevirtual 157, 3) := by decide +kernel
theorem dX4_sync_112 : decode cX4_sync 112 = .ok (.ifCond .eq 7, 3) := by decide +kernel
theorem dX4_sync_115 : decode cX4_sync 115 = .ok (.iconst 1, 1) := by decide +kernel
theorem dX4_sync_116 : decode cX4_sync 116 = .ok (.goto 4, 3) := by decide +kernel
theorem dX4_sync_119 : decode cX4_sync 119 = .ok (.iconst 0, 1) := by decide +kernel
theorem dX4_sync_120 : decode cX4_sync 120 = .ok (.istore 7, 2) := by decide +kernel
theorem dX4_sync_122 : decode cX4_sync 122 = .ok (.iload 5, 2) := by decide +kernel
theorem dX4_sync_124 : decode cX4_sync 124 = .ok (.iload 7, 2) := by decide +kernel
theorem dX4_sync_126 : decode cX4_sync 126 = .ok (.ifCond .eq 7, 3) := by decide +kernel
theorem dX4_sync_129 : decode cX4_sync 129 = .ok (.iconst 1, 1) := by decide +kernel
theorem dX4_sync_130 : decode cX4_sync 130 = .ok (.goto 4, 3) := by decide +kernel
theorem dX4_sync_133 : decode cX4_sync 133 = .ok (.iconst 0, 1) := by decide +kernel
theorem dX4_sync_134 : decode cX4_sync 134 = .ok (.iadd, 1) := by decide +kernel
theorem dX4_sync_135 : decode cX4_sync 135 = .ok (.istore 5, 2) := by decide +kernel
theorem dX4_sync_137 : decode cX4_sync 137 = .ok (.iload 7, 2) := by decide +kernel
theorem dX4_sync_139 : decode cX4_sync 139 = .ok (.ifCond .ne 29, 3) := by decide +kernel
theorem dX4_sync_142 : decode cX4_sync 142 = .ok (.aload_n 0, 1) := by decide +kernel
theorem dX4_sync_143 : decode cX4_sync 143 = .ok (.aload_n 0, 1) := by decide +kernel
theorem dX4_sync_144 : decode cX4_sync 144 = .ok (.getfield 68, 3) := by decide +kernel
theorem dX4_sync_147 : decode cX4_sync 147 = .ok (.iload 6, 2) := by decide +kernel
theorem dX4_sync_149 : decode cX4_sync 149 = .ok (.iaload, 1) := by decide +kernel
theorem dX4_sync_150 : decode cX4_sync 150 = .ok (.aload_n 0, 1) := by decide +kernel
theorem dX4_sync_151 : decode cX4_sync 151 = .ok (.getfield 71, 3) := by decide +kernel
theorem dX4_sync_154 : decode cX4_sync 154 = .ok (.iload 6, 2) := by decide +kernel
theorem dX4_sync_156 : decode cX4_sync 156 = .ok (.iaload, 1) := by decide +kernel
theorem dX4_sync_157 : decode cX4_sync 157 = .ok (.aload_n 0, 1) := by decide +kernel
theorem dX4_sync_158 : decode cX4_sync 158 = .ok (.getfield 74, 3) := by decide +kernel
theorem dX4_sync_161 : decode cX4_sync 161 = .ok (.iload 6, 2) := by decide +kernel
theorem dX4_sync_163 : decode cX4_sync 163 = .ok (.baload, 1) := by decide +kernel
theorem dX4_sync_164 : decode cX4_sync 164 = .ok (.invokevirtual 109, 3) := by decide +kernel
theorem dX4_sync_167 : decode cX4_sync 167 = .ok (.pop, 1) := by decide +kernel
theorem dX4_sync_168 : decode cX4_sync 168 = .ok (.iinc 6 1, 3) := by decide +kernel
theorem dX4_sync_171 : decode cX4_sync 171 = .ok (.goto (-122), 3) := by decide +kernel
theorem dX4_sync_174 : decode cX4_sync 174 = .ok (.aload_n 0, 1) := by decide +kernel
theorem dX4_sync_175 : decode cX4_sync 175 = .ok (.getfield 77, 3) := by decide +kernel
theorem dX4_sync_178 : decode cX4_sync 178 = .ok (.iload_n 1, 1) := by decide +kernel
theorem dX4_sync_179 : decode cX4_sync 179 = .ok (.dup2, 1) := by decide +kernel
theorem dX4_sync_180 : decode cX4_sync 180 = .ok (.iaload, 1) := by decide +kernel
theorem dX4_sync_181 : decode cX4_sync 181 = .ok (.iload 4, 2) := by decide +kernel
theorem dX4_sync_183 : decode cX4_sync 183 = .ok (.ifCond .eq 7, 3) := by decide +kernel
theorem dX4_sync_186 : decode cX4_sync 186 = .ok (.iconst 0, 1) := by decide +kernel
theorem dX4_sync_187 : decode cX4_sync 187 = .ok (.goto 4, 3) := by decide +kernel
theorem dX4_sync_190 : decode cX4_sync 190 = .ok (.iconst 1, 1) := by decide +kernel
theorem dX4_sync_191 : decode cX4_sync 191 = .ok (.iadd, 1) := by decide +kernel
theorem dX4_sync_192 : decode cX4_sync 192 = .ok (.iastore, 1) := by decide +kernel
theorem dX4_sync_193 : decode cX4_sync 193 = .ok (.aload_n 0, 1) := by decide +kernel
theorem dX4_sync_194 : decode cX4_sync 194 = .ok (.iload_n 1, 1) := by decide +kernel
theorem dX4_sync_195 : decode cX4_sync 195 = .ok (.invokevirtual 161, 3) := by decide +kernel
theorem dX4_sync_198 : decode cX4_sync 198 = .ok (.iload 5, 2) := by decide +kernel
theorem dX4_sync_200 : decode cX4_sync 200 = .ok (.ireturn, 1) := by decide +kernel
theorem dX4_stateOf_0 : decode cX4_stateOf 0 = .ok (.aload_n 0, 1) := by decide +kernel
theorem dX4_stateOf_1 : decode cX4_stateOf 1 = .ok (.iload_n 1, 1) := by decide +kernel
theorem dX4_stateOf_2 : decode cX4_stateOf 2 = .ok (.invokestatic 151, 3) := by decide +kernel
theorem dX4_stateOf_5 : decode cX4_stateOf 5 = .ok (.ifCond .eq 7, 3) := by decide +kernel
theorem dX4_stateOf_8 : decode cX4_stateOf 8 = .ok (.iconst 0, 1) := by decide +kernel
theorem dX4_stateOf_9 : decode cX4_stateOf 9 = .ok (.goto 4, 3) := by decide +kernel
theorem dX4_stateOf_12 : decode cX4_stateOf 12 = .ok (.iconst 1, 1) := by decide +kernel
theorem dX4_stateOf_13 : decode cX4_stateOf 13 = .ok (.invokevirtual 94, 3) := by decide +kernel
theorem dX4_stateOf_16 : decode cX4_stateOf 16 = .ok (.ifCond .eq 12, 3) := by decide +kernel
theorem dX4_stateOf_19 : decode cX4_stateOf 19 = .ok (.aload_n 0, 1) := by decide +kernel
theorem dX4_stateOf_20 : decode cX4_stateOf 20 = .ok (.getfield 53, 3) := by decide +kernel
theorem dX4_stateOf_23 : decode cX4_stateOf 23 = .ok (.iload_n 1, 1) := by decide +kernel
theorem dX4_stateOf_24 : decode cX4_stateOf 24 = .ok (.iaload, 1) := by decide +kernel
theorem dX4_stateOf_25 : decode cX4_stateOf 25 = .ok (.goto 4, 3) := by decide +kernel
theorem dX4_stateOf_28 : decode cX4_stateOf 28 = .ok (.iconst 0, 1) := by decide +kernel
theorem dX4_stateOf_29 : decode cX4_stateOf 29 = .ok (.ireturn, 1) := by decide +kernel
theorem dX4_window_0 : decode cX4_window 0 = .ok (.aload_n 0, 1) := by decide +kernel
theorem dX4_window_1 : decode cX4_window 1 = .ok (.iload_n 1, 1) := by decide +kernel
theorem dX4_window_2 : decode cX4_window 2 = .ok (.invokestatic 151, 3) := by decide +kernel
theorem dX4_window_5 : decode cX4_window 5 = .ok (.ifCond .eq 7, 3) := by decide +kernel
theorem dX4_window_8 : decode cX4_window 8 = .ok (.iconst 0, 1) := by decide +kernel
theorem dX4_window_9 : decode cX4_window 9 = .ok (.goto 4, 3) := by decide +kernel
theorem dX4_window_12 : decode cX4_window 12 = .ok (.iconst 1, 1) := by decide +kernel
theorem dX4_window_13 : decode cX4_window 13 = .ok (.invokevirtual 94, 3) := by decide +kernel
theorem dX4_window_16 : decode cX4_window 16 = .ok (.ifCond .eq 12, 3) := by decide +kernel
theorem dX4_window_19 : decode cX4_window 19 = .ok (.aload_n 0, 1) := by decide +kernel
theorem dX4_window_20 : decode cX4_window 20 = .ok (.getfield 56, 3) := by decide +kernel
theorem dX4_window_23 : decode cX4_window 23 = .ok (.iload_n 1, 1) := by decide +kernel
theorem dX4_window_24 : decode cX4_window 24 = .ok (.iaload, 1) := by decide +kernel
theorem dX4_window_25 : decode cX4_window 25 = .ok (.goto 4, 3) := by decide +kernel
theorem dX4_window_28 : decode cX4_window 28 = .ok (.iconst 0, 1) := by decide +kernel
theorem dX4_window_29 : decode cX4_window 29 = .ok (.ireturn, 1) := by decide +kernel
theorem dX4_windowAt_0 : decode cX4_windowAt 0 = .ok (.iload_n 1, 1) := by decide +kernel
theorem dX4_windowAt_1 : decode cX4_windowAt 1 = .ok (.invokestatic 151, 3) := by decide +kernel
theorem dX4_windowAt_4 : decode cX4_windowAt 4 = .ok (.ifCond .ne 7, 3) := by decide +kernel
theorem dX4_windowAt_7 : decode cX4_windowAt 7 = .ok (.iconst 1, 1) := by decide +kernel
theorem dX4_windowAt_8 : decode cX4_windowAt 8 = .ok (.goto 24, 3) := by decide +kernel
theorem dX4_windowAt_11 : decode cX4_windowAt 11 = .ok (.iload_n 2, 1) := by decide +kernel
theorem dX4_windowAt_12 : decode cX4_windowAt 12 = .ok (.iconst 0, 1) := by decide +kernel
theorem dX4_windowAt_13 : decode cX4_windowAt 13 = .ok (.aload_n 0, 1) := by decide +kernel
theorem dX4_windowAt_14 : decode cX4_windowAt 14 = .ok (.getfield 56, 3) := by decide +kernel
theorem dX4_windowAt_17 : decode cX4_windowAt 17 = .ok (.iload_n 1, 1) := by decide +kernel
theorem dX4_windowAt_18 : decode cX4_windowAt 18 = .ok (.iaload, 1) := by decide +kernel
theorem dX4_windowAt_19 : decode cX4_windowAt 19 = .ok (.iconst 1, 1) := by decide +kernel
theorem dX4_windowAt_20 : decode cX4_windowAt 20 = .ok (.isub, 1) := by decide +kernel
theorem dX4_windowAt_21 : decode cX4_windowAt 21 = .ok (.invokestatic 87, 3) := by decide +kernel
theorem dX4_windowAt_24 : decode cX4_windowAt 24 = .ok (.ifCond .ne 7, 3) := by decide +kernel
theorem dX4_windowAt_27 : decode cX4_windowAt 27 = .ok (.iconst 2, 1) := by decide +kernel
theorem dX4_windowAt_28 : decode cX4_windowAt 28 = .ok (.goto 4, 3) := by decide +kernel
theorem dX4_windowAt_31 : decode cX4_windowAt 31 = .ok (.iconst 0, 1) := by decide +kernel
theorem dX4_windowAt_32 : decode cX4_windowAt 32 = .ok (.istore_n 3, 1) := by decide +kernel
theorem dX4_windowAt_33 : decode cX4_windowAt 33 = .ok (.aload_n 0, 1) := by decide +kernel
theorem dX4_windowAt_34 : decode cX4_windowAt 34 = .ok (.iload_n 3, 1) := by decide +kernel
theorem dX4_windowAt_35 : decode cX4_windowAt 35 = .ok (.invokevirtual 94, 3) := by decide +kernel
theorem dX4_windowAt_38 : decode cX4_windowAt 38 = .ok (.ifCond .eq 17, 3) := by decide +kernel
theorem dX4_windowAt_41 : decode cX4_windowAt 41 = .ok (.aload_n 0, 1) := by decide +kernel
theorem dX4_windowAt_42 : decode cX4_windowAt 42 = .ok (.getfield 59, 3) := by decide +kernel
theorem dX4_windowAt_45 : decode cX4_windowAt 45 = .ok (.bipush 10, 2) := by decide +kernel
theorem dX4_windowAt_47 : decode cX4_windowAt 47 = .ok (.iload_n 1, 1) := by decide +kernel
theorem dX4_windowAt_48 : decode cX4_windowAt 48 = .ok (.imul, 1) := by decide +kernel
theorem dX4_windowAt_49 : decode cX4_windowAt 49 = .ok (.iload_n 2, 1) := by decide +kernel
theorem dX4_windowAt_50 : decode cX4_windowAt 50 = .ok (.iadd, 1) := by decide +kernel
theorem dX4_windowAt_51 : decode cX4_windowAt 51 = .ok (.iaload, 1) := by decide +kernel
theorem dX4_windowAt_52 : decode cX4_windowAt 52 = .ok (.goto 4, 3) := by decide +kernel
theorem dX4_windowAt_55 : decode cX4_windowAt 55 = .ok (.iconst 0, 1) := by decide +kernel
theorem dX4_windowAt_56 : decode cX4_windowAt 56 = .ok (.ireturn, 1) := by decide +kernel
theorem dX4_known_0 : decode cX4_known 0 = .ok (.iload_n 1, 1) := by decide +kernel
theorem dX4_known_1 : decode cX4_known 1 = .ok (.invokestatic 151, 3) := by decide +kernel
theorem dX4_known_4 : decode cX4_known 4 = .ok (.ifCond .ne 7, 3) := by decide +kernel
theorem dX4_known_7 : decode cX4_known 7 = .ok (.iconst 1, 1) := by decide +kernel
theorem dX4_known_8 : decode cX4_known 8 = .ok (.goto 24, 3) := by decide +kernel
theorem dX4_known_11 : decode cX4_known 11 = .ok (.iload_n 2, 1) := by decide +kernel
theorem dX4_known_12 : decode cX4_known 12 = .ok (.iconst 0, 1) := by decide +kernel
theorem dX4_known_13 : decode cX4_known 13 = .ok (.aload_n 0, 1) := by decide +kernel
theorem dX4_known_14 : decode cX4_known 14 = .ok (.getfield 56, 3) := by decide +kernel
theorem dX4_known_17 : decode cX4_known 17 = .ok (.iload_n 1, 1) := by decide +kernel
theorem dX4_known_18 : decode cX4_known 18 = .ok (.iaload, 1) := by decide +kernel
theorem dX4_known_19 : decode cX4_known 19 = .ok (.iconst 1, 1) := by decide +kernel
theorem dX4_known_20 : decode cX4_known 20 = .ok (.isub, 1) := by decide +kernel
theorem dX4_known_21 : decode cX4_known 21 = .ok (.invokestatic 87, 3) := by decide +kernel
theorem dX4_known_24 : decode cX4_known 24 = .ok (.ifCond .ne 7, 3) := by decide +kernel
theorem dX4_known_27 : decode cX4_known 27 = .ok (.iconst 2, 1) := by decide +kernel
theorem dX4_known_28 : decode cX4_known 28 = .ok (.goto 4, 3) := by decide +kernel
theorem dX4_known_31 : decode cX4_known 31 = .ok (.iconst 0, 1) := by decide +kernel
theorem dX4_known_32 : decode cX4_known 32 = .ok (.istore_n 3, 1) := by decide +kernel
theorem dX4_known_33 : decode cX4_known 33 = .ok (.aload_n 0, 1) := by decide +kernel
theorem dX4_known_34 : decode cX4_known 34 = .ok (.iload_n 3, 1) := by decide +kernel
theorem dX4_known_35 : decode cX4_known 35 = .ok (.invokevirtual 94, 3) := by decide +kernel
theorem dX4_known_38 : decode cX4_known 38 = .ok (.ifCond .eq 17, 3) := by decide +kernel
theorem dX4_known_41 : decode cX4_known 41 = .ok (.aload_n 0, 1) := by decide +kernel
theorem dX4_known_42 : decode cX4_known 42 = .ok (.getfield 62, 3) := by decide +kernel
theorem dX4_known_45 : decode cX4_known 45 = .ok (.bipush 10, 2) := by decide +kernel
theorem dX4_known_47 : decode cX4_known 47 = .ok (.iload_n 1, 1) := by decide +kernel
theorem dX4_known_48 : decode cX4_known 48 = .ok (.imul, 1) := by decide +kernel
theorem dX4_known_49 : decode cX4_known 49 = .ok (.iload_n 2, 1) := by decide +kernel
theorem dX4_known_50 : decode cX4_known 50 = .ok (.iadd, 1) := by decide +kernel
theorem dX4_known_51 : decode cX4_known 51 = .ok (.iaload, 1) := by decide +kernel
theorem dX4_known_52 : decode cX4_known 52 = .ok (.goto 4, 3) := by decide +kernel
theorem dX4_known_55 : decode cX4_known 55 = .ok (.iconst 0, 1) := by decide +kernel
theorem dX4_known_56 : decode cX4_known 56 = .ok (.ireturn, 1) := by decide +kernel
theorem dX4_freshLoads_0 : decode cX4_freshLoads 0 = .ok (.aload_n 0, 1) := by decide +kernel
theorem dX4_freshLoads_1 : decode cX4_freshLoads 1 = .ok (.iload_n 1, 1) := by decide +kernel
theorem dX4_freshLoads_2 : decode cX4_freshLoads 2 = .ok (.invokestatic 151, 3) := by decide +kernel
theorem dX4_freshLoads_5 : decode cX4_freshLoads 5 = .ok (.ifCond .eq 7, 3) := by decide +kernel
theorem dX4_freshLoads_8 : decode cX4_freshLoads 8 = .ok (.iconst 0, 1) := by decide +kernel
theorem dX4_freshLoads_9 : decode cX4_freshLoads 9 = .ok (.goto 4, 3) := by decide +kernel
theorem dX4_freshLoads_12 : decode cX4_freshLoads 12 = .ok (.iconst 1, 1) := by decide +kernel
theorem dX4_freshLoads_13 : decode cX4_freshLoads 13 = .ok (.invokevirtual 94, 3) := by decide +kernel
theorem dX4_freshLoads_16 : decode cX4_freshLoads 16 = .ok (.ifCond .eq 12, 3) := by decide +kernel
theorem dX4_freshLoads_19 : decode cX4_freshLoads 19 = .ok (.aload_n 0, 1) := by decide +kernel
theorem dX4_freshLoads_20 : decode cX4_freshLoads 20 = .ok (.getfield 77, 3) := by decide +kernel
theorem dX4_freshLoads_23 : decode cX4_freshLoads 23 = .ok (.iload_n 1, 1) := by decide +kernel
theorem dX4_freshLoads_24 : decode cX4_freshLoads 24 = .ok (.iaload, 1) := by decide +kernel
theorem dX4_freshLoads_25 : decode cX4_freshLoads 25 = .ok (.goto 4, 3) := by decide +kernel
theorem dX4_freshLoads_28 : decode cX4_freshLoads 28 = .ok (.iconst 0, 1) := by decide +kernel
theorem dX4_freshLoads_29 : decode cX4_freshLoads 29 = .ok (.ireturn, 1) := by decide +kernel
theorem dJ13_bitCount_95d88_0 : decode cJ13_bitCount_95d88 0 = .ok (.lload_n 0, 1) := by decide +kernel
theorem dJ13_bitCount_95d88_1 : decode cJ13_bitCount_95d88 1 = .ok (.lload_n 0, 1) := by decide +kernel
theorem dJ13_bitCount_95d88_2 : decode cJ13_bitCount_95d88 2 = .ok (.iconst 1, 1) := by decide +kernel
theorem dJ13_bitCount_95d88_3 : decode cJ13_bitCount_95d88 3 = .ok (.lushr, 1) := by decide +kernel
theorem dJ13_bitCount_95d88_4 : decode cJ13_bitCount_95d88 4 = .ok (.ldc2_w 314, 3) := by decide +kernel
theorem dJ13_bitCount_95d88_7 : decode cJ13_bitCount_95d88 7 = .ok (.land, 1) := by decide +kernel
theorem dJ13_bitCount_95d88_8 : decode cJ13_bitCount_95d88 8 = .ok (.lsub, 1) := by decide +kernel
theorem dJ13_bitCount_95d88_9 : decode cJ13_bitCount_95d88 9 = .ok (.lstore_n 0, 1) := by decide +kernel
theorem dJ13_bitCount_95d88_10 : decode cJ13_bitCount_95d88 10 = .ok (.lload_n 0, 1) := by decide +kernel
theorem dJ13_bitCount_95d88_11 : decode cJ13_bitCount_95d88 11 = .ok (.ldc2_w 316, 3) := by decide +kernel
theorem dJ13_bitCount_95d88_14 : decode cJ13_bitCount_95d88 14 = .ok (.land, 1) := by decide +kernel
theorem dJ13_bitCount_95d88_15 : decode cJ13_bitCount_95d88 15 = .ok (.lload_n 0, 1) := by decide +kernel
theorem dJ13_bitCount_95d88_16 : decode cJ13_bitCount_95d88 16 = .ok (.iconst 2, 1) := by decide +kernel
theorem dJ13_bitCount_95d88_17 : decode cJ13_bitCount_95d88 17 = .ok (.lushr, 1) := by decide +kernel
theorem dJ13_bitCount_95d88_18 : decode cJ13_bitCount_95d88 18 = .ok (.ldc2_w 316, 3) := by decide +kernel
theorem dJ13_bitCount_95d88_21 : decode cJ13_bitCount_95d88 21 = .ok (.land, 1) := by decide +kernel
theorem dJ13_bitCount_95d88_22 : decode cJ13_bitCount_95d88 22 = .ok (.ladd, 1) := by decide +kernel
theorem dJ13_bitCount_95d88_23 : decode cJ13_bitCount_95d88 23 = .ok (.lstore_n 0, 1) := by decide +kernel
theorem dJ13_bitCount_95d88_24 : decode cJ13_bitCount_95d88 24 = .ok (.lload_n 0, 1) := by decide +kernel
theorem dJ13_bitCount_95d88_25 : decode cJ13_bitCount_95d88 25 = .ok (.lload_n 0, 1) := by decide +kernel
theorem dJ13_bitCount_95d88_26 : decode cJ13_bitCount_95d88 26 = .ok (.iconst 4, 1) := by decide +kernel
theorem dJ13_bitCount_95d88_27 : decode cJ13_bitCount_95d88 27 = .ok (.lushr, 1) := by decide +kernel
theorem dJ13_bitCount_95d88_28 : decode cJ13_bitCount_95d88 28 = .ok (.ladd, 1) := by decide +kernel
theorem dJ13_bitCount_95d88_29 : decode cJ13_bitCount_95d88 29 = .ok (.ldc2_w 318, 3) := by decide +kernel
theorem dJ13_bitCount_95d88_32 : decode cJ13_bitCount_95d88 32 = .ok (.land, 1) := by decide +kernel
theorem dJ13_bitCount_95d88_33 : decode cJ13_bitCount_95d88 33 = .ok (.lstore_n 0, 1) := by decide +kernel
theorem dJ13_bitCount_95d88_34 : decode cJ13_bitCount_95d88 34 = .ok (.lload_n 0, 1) := by decide +kernel
theorem dJ13_bitCount_95d88_35 : decode cJ13_bitCount_95d88 35 = .ok (.lload_n 0, 1) := by decide +kernel
theorem dJ13_bitCount_95d88_36 : decode cJ13_bitCount_95d88 36 = .ok (.bipush 8, 2) := by decide +kernel
theorem dJ13_bitCount_95d88_38 : decode cJ13_bitCount_95d88 38 = .ok (.lushr, 1) := by decide +kernel
theorem dJ13_bitCount_95d88_39 : decode cJ13_bitCount_95d88 39 = .ok (.ladd, 1) := by decide +kernel
theorem dJ13_bitCount_95d88_40 : decode cJ13_bitCount_95d88 40 = .ok (.lstore_n 0, 1) := by decide +kernel
theorem dJ13_bitCount_95d88_41 : decode cJ13_bitCount_95d88 41 = .ok (.lload_n 0, 1) := by decide +kernel
theorem dJ13_bitCount_95d88_42 : decode cJ13_bitCount_95d88 42 = .ok (.lload_n 0, 1) := by decide +kernel
theorem dJ13_bitCount_95d88_43 : decode cJ13_bitCount_95d88 43 = .ok (.bipush 16, 2) := by decide +kernel
theorem dJ13_bitCount_95d88_45 : decode cJ13_bitCount_95d88 45 = .ok (.lushr, 1) := by decide +kernel
theorem dJ13_bitCount_95d88_46 : decode cJ13_bitCount_95d88 46 = .ok (.ladd, 1) := by decide +kernel
theorem dJ13_bitCount_95d88_47 : decode cJ13_bitCount_95d88 47 = .ok (.lstore_n 0, 1) := by decide +kernel
theorem dJ13_bitCount_95d88_48 : decode cJ13_bitCount_95d88 48 = .ok (.lload_n 0, 1) := by decide +kernel
theorem dJ13_bitCount_95d88_49 : decode cJ13_bitCount_95d88 49 = .ok (.lload_n 0, 1) := by decide +kernel
theorem dJ13_bitCount_95d88_50 : decode cJ13_bitCount_95d88 50 = .ok (.bipush 32, 2) := by decide +kernel
theorem dJ13_bitCount_95d88_52 : decode cJ13_bitCount_95d88 52 = .ok (.lushr, 1) := by decide +kernel
theorem dJ13_bitCount_95d88_53 : decode cJ13_bitCount_95d88 53 = .ok (.ladd, 1) := by decide +kernel
theorem dJ13_bitCount_95d88_54 : decode cJ13_bitCount_95d88 54 = .ok (.lstore_n 0, 1) := by decide +kernel
theorem dJ13_bitCount_95d88_55 : decode cJ13_bitCount_95d88 55 = .ok (.lload_n 0, 1) := by decide +kernel
theorem dJ13_bitCount_95d88_56 : decode cJ13_bitCount_95d88 56 = .ok (.l2i, 1) := by decide +kernel
theorem dJ13_bitCount_95d88_57 : decode cJ13_bitCount_95d88 57 = .ok (.bipush 127, 2) := by decide +kernel
theorem dJ13_bitCount_95d88_59 : decode cJ13_bitCount_95d88 59 = .ok (.iand, 1) := by decide +kernel
theorem dJ13_bitCount_95d88_60 : decode cJ13_bitCount_95d88 60 = .ok (.ireturn, 1) := by decide +kernel
theorem dJ9_floorMod_7cf53_0 : decode cJ9_floorMod_7cf53 0 = .ok (.iload_n 0, 1) := by decide +kernel
theorem dJ9_floorMod_7cf53_1 : decode cJ9_floorMod_7cf53 1 = .ok (.iload_n 1, 1) := by decide +kernel
theorem dJ9_floorMod_7cf53_2 : decode cJ9_floorMod_7cf53 2 = .ok (.irem, 1) := by decide +kernel
theorem dJ9_floorMod_7cf53_3 : decode cJ9_floorMod_7cf53 3 = .ok (.istore_n 2, 1) := by decide +kernel
theorem dJ9_floorMod_7cf53_4 : decode cJ9_floorMod_7cf53 4 = .ok (.iload_n 0, 1) := by decide +kernel
theorem dJ9_floorMod_7cf53_5 : decode cJ9_floorMod_7cf53 5 = .ok (.iload_n 1, 1) := by decide +kernel
theorem dJ9_floorMod_7cf53_6 : decode cJ9_floorMod_7cf53 6 = .ok (.ixor, 1) := by decide +kernel
theorem dJ9_floorMod_7cf53_7 : decode cJ9_floorMod_7cf53 7 = .ok (.ifCond .ge 11, 3) := by decide +kernel
theorem dJ9_floorMod_7cf53_10 : decode cJ9_floorMod_7cf53 10 = .ok (.iload_n 2, 1) := by decide +kernel
theorem dJ9_floorMod_7cf53_11 : decode cJ9_floorMod_7cf53 11 = .ok (.ifCond .eq 7, 3) := by decide +kernel
theorem dJ9_floorMod_7cf53_14 : decode cJ9_floorMod_7cf53 14 = .ok (.iload_n 2, 1) := by decide +kernel
theorem dJ9_floorMod_7cf53_15 : decode cJ9_floorMod_7cf53 15 = .ok (.iload_n 1, 1) := by decide +kernel
theorem dJ9_floorMod_7cf53_16 : decode cJ9_floorMod_7cf53 16 = .ok (.iadd, 1) := by decide +kernel
theorem dJ9_floorMod_7cf53_17 : decode cJ9_floorMod_7cf53 17 = .ok (.ireturn, 1) := by decide +kernel
theorem dJ9_floorMod_7cf53_18 : decode cJ9_floorMod_7cf53 18 = .ok (.iload_n 2, 1) := by decide +kernel
theorem dJ9_floorMod_7cf53_19 : decode cJ9_floorMod_7cf53 19 = .ok (.ireturn, 1) := by decide +kernel
theorem dJ9_min_7cf53_0 : decode cJ9_min_7cf53 0 = .ok (.iload_n 0, 1) := by decide +kernel
theorem dJ9_min_7cf53_1 : decode cJ9_min_7cf53 1 = .ok (.iload_n 1, 1) := by decide +kernel
theorem dJ9_min_7cf53_2 : decode cJ9_min_7cf53 2 = .ok (.if_icmp .gt 7, 3) := by decide +kernel
theorem dJ9_min_7cf53_5 : decode cJ9_min_7cf53 5 = .ok (.iload_n 0, 1) := by decide +kernel
theorem dJ9_min_7cf53_6 : decode cJ9_min_7cf53 6 = .ok (.goto 4, 3) := by decide +kernel
theorem dJ9_min_7cf53_9 : decode cJ9_min_7cf53 9 = .ok (.iload_n 1, 1) := by decide +kernel
theorem dJ9_min_7cf53_10 : decode cJ9_min_7cf53 10 = .ok (.ireturn, 1) := by decide +kernel
theorem dL_add_0 : decode cL_add 0 = .ok (.aload 4, 2) := by decide +kernel
theorem dL_add_2 : decode cL_add 2 = .ok (.iconst 0, 1) := by decide +kernel
theorem dL_add_3 : decode cL_add 3 = .ok (.aload_n 0, 1) := by decide +kernel
theorem dL_add_4 : decode cL_add 4 = .ok (.iload_n 1, 1) := by decide +kernel
theorem dL_add_5 : decode cL_add 5 = .ok (.iload_n 2, 1) := by decide +kernel
theorem dL_add_6 : decode cL_add 6 = .ok (.iload_n 3, 1) := by decide +kernel
theorem dL_add_7 : decode cL_add 7 = .ok (.invokevirtual 7, 3) := by decide +kernel
theorem dL_add_10 : decode cL_add 10 = .ok (.i2l, 1) := by decide +kernel
theorem dL_add_11 : decode cL_add 11 = .ok (.lastore, 1) := by decide +kernel
theorem dL_add_12 : decode cL_add 12 = .ok (.goto 11, 3) := by decide +kernel
theorem dL_add_15 : decode cL_add 15 = .ok (.astore 5, 2) := by decide +kernel
theorem dL_add_17 : decode cL_add 17 = .ok (.iconst 1, 1) := by decide +kernel
theorem dL_add_18 : decode cL_add 18 = .ok (.ireturn, 1) := by decide +kernel
theorem dL_add_19 : decode cL_add 19 = .ok (.astore 5, 2) := by decide +kernel
theorem dL_add_21 : decode cL_add 21 = .ok (.iconst 2, 1) := by decide +kernel
theorem dL_add_22 : decode cL_add 22 = .ok (.ireturn, 1) := by decide +kernel
theorem dL_add_23 : decode cL_add 23 = .ok (.iconst 0, 1) := by decide +kernel
theorem dL_add_24 : decode cL_add 24 = .ok (.ireturn, 1) := by decide +kernel
theorem dL_move_0 : decode cL_move 0 = .ok (.aload_n 3, 1) := by decide +kernel
theorem dL_move_1 : decode cL_move 1 = .ok (.iconst 0, 1) := by decide +kernel
theorem dL_move_2 : decode cL_move 2 = .ok (.aload_n 0, 1) := by decide +kernel
theorem dL_move_3 : decode cL_move 3 = .ok (.iload_n 1, 1) := by decide +kernel
theorem dL_move_4 : decode cL_move 4 = .ok (.iload_n 2, 1) := by decide +kernel
theorem dL_move_5 : decode cL_move 5 = .ok (.invokevirtual 17, 3) := by decide +kernel
theorem dL_move_8 : decode cL_move 8 = .ok (.i2l, 1) := by decide +kernel
theorem dL_move_9 : decode cL_move 9 = .ok (.lastore, 1) := by decide +kernel
theorem dL_move_10 : decode cL_move 10 = .ok (.goto 11, 3) := by decide +kernel
theorem dL_move_13 : decode cL_move 13 = .ok (.astore 4, 2) := by decide +kernel
theorem dL_move_15 : decode cL_move 15 = .ok (.iconst 1, 1) := by decide +kernel
theorem dL_move_16 : decode cL_move 16 = .ok (.ireturn, 1) := by decide +kernel
theorem dL_move_17 : decode cL_move 17 = .ok (.astore 4, 2) := by decide +kernel
theorem dL_move_19 : decode cL_move 19 = .ok (.iconst 2, 1) := by decide +kernel
theorem dL_move_20 : decode cL_move 20 = .ok (.ireturn, 1) := by decide +kernel
theorem dL_move_21 : decode cL_move 21 = .ok (.iconst 0, 1) := by decide +kernel
theorem dL_move_22 : decode cL_move 22 = .ok (.ireturn, 1) := by decide +kernel
theorem dL_flag_0 : decode cL_flag 0 = .ok (.aload 4, 2) := by decide +kernel
theorem dL_flag_2 : decode cL_flag 2 = .ok (.iconst 0, 1) := by decide +kernel
theorem dL_flag_3 : decode cL_flag 3 = .ok (.aload_n 0, 1) := by decide +kernel
theorem dL_flag_4 : decode cL_flag 4 = .ok (.iload_n 1, 1) := by decide +kernel
theorem dL_flag_5 : decode cL_flag 5 = .ok (.iload_n 2, 1) := by decide +kernel
theorem dL_flag_6 : decode cL_flag 6 = .ok (.iload_n 3, 1) := by decide +kernel
theorem dL_flag_7 : decode cL_flag 7 = .ok (.invokevirtual 23, 3) := by decide +kernel
theorem dL_flag_10 : decode cL_flag 10 = .ok (.ifCond .eq 7, 3) := by decide +kernel
theorem dL_flag_13 : decode cL_flag 13 = .ok (.lconst 1, 1) := by decide +kernel
theorem dL_flag_14 : decode cL_flag 14 = .ok (.goto 4, 3) := by decide +kernel
theorem dL_flag_17 : decode cL_flag 17 = .ok (.lconst 0, 1) := by decide +kernel
theorem dL_flag_18 : decode cL_flag 18 = .ok (.lastore, 1) := by decide +kernel
theorem dL_flag_19 : decode cL_flag 19 = .ok (.goto 11, 3) := by decide +kernel
theorem dL_flag_22 : decode cL_flag 22 = .ok (.astore 5, 2) := by decide +kernel
theorem dL_flag_24 : decode cL_flag 24 = .ok (.iconst 1, 1) := by decide +kernel
theorem dL_flag_25 : decode cL_flag 25 = .ok (.ireturn, 1) := by decide +kernel
theorem dL_flag_26 : decode cL_flag 26 = .ok (.astore 5, 2) := by decide +kernel
theorem dL_flag_28 : decode cL_flag 28 = .ok (.iconst 2, 1) := by decide +kernel
theorem dL_flag_29 : decode cL_flag 29 = .ok (.ireturn, 1) := by decide +kernel
theorem dL_flag_30 : decode cL_flag 30 = .ok (.iconst 0, 1) := by decide +kernel
theorem dL_flag_31 : decode cL_flag 31 = .ok (.ireturn, 1) := by decide +kernel
theorem dL_flagIf_0 : decode cL_flagIf 0 = .ok (.aload 5, 2) := by decide +kernel
theorem dL_flagIf_2 : decode cL_flagIf 2 = .ok (.iconst 0, 1) := by decide +kernel
theorem dL_flagIf_3 : decode cL_flagIf 3 = .ok (.aload_n 0, 1) := by decide +kernel
theorem dL_flagIf_4 : decode cL_flagIf 4 = .ok (.iload_n 1, 1) := by decide +kernel
theorem dL_flagIf_5 : decode cL_flagIf 5 = .ok (.iload_n 2, 1) := by decide +kernel
theorem dL_flagIf_6 : decode cL_flagIf 6 = .ok (.iload_n 3, 1) := by decide +kernel
theorem dL_flagIf_7 : decode cL_flagIf 7 = .ok (.iload 4, 2) := by decide +kernel
theorem dL_flagIf_9 : decode cL_flagIf 9 = .ok (.invokevirtual 27, 3) := by decide +kernel
theorem dL_flagIf_12 : decode cL_flagIf 12 = .ok (.ifCond .eq 7, 3) := by decide +kernel
theorem dL_flagIf_15 : decode cL_flagIf 15 = .ok (.lconst 1, 1) := by decide +kernel
theorem dL_flagIf_16 : decode cL_flagIf 16 = .ok (.goto 4, 3) := by decide +kernel
theorem dL_flagIf_19 : decode cL_flagIf 19 = .ok (.lconst 0, 1) := by decide +kernel
theorem dL_flagIf_20 : decode cL_flagIf 20 = .ok (.lastore, 1) := by decide +kernel
theorem dL_flagIf_21 : decode cL_flagIf 21 = .ok (.goto 15, 3) := by decide +kernel
theorem dL_flagIf_24 : decode cL_flagIf 24 = .ok (.astore 6, 2) := by decide +kernel
theorem dL_flagIf_26 : decode cL_flagIf 26 = .ok (.iconst 1, 1) := by decide +kernel
theorem dL_flagIf_27 : decode cL_flagIf 27 = .ok (.ireturn, 1) := by decide +kernel
theorem dL_flagIf_28 : decode cL_flagIf 28 = .ok (.astore 6, 2) := by decide +kernel
theorem dL_flagIf_30 : decode cL_flagIf 30 = .ok (.iconst 2, 1) := by decide +kernel
theorem dL_flagIf_31 : decode cL_flagIf 31 = .ok (.ireturn, 1) := by decide +kernel
theorem dL_flagIf_32 : decode cL_flagIf 32 = .ok (.astore 6, 2) := by decide +kernel
theorem dL_flagIf_34 : decode cL_flagIf 34 = .ok (.iconst 3, 1) := by decide +kernel
theorem dL_flagIf_35 : decode cL_flagIf 35 = .ok (.ireturn, 1) := by decide +kernel
theorem dL_flagIf_36 : decode cL_flagIf 36 = .ok (.iconst 0, 1) := by decide +kernel
theorem dL_flagIf_37 : decode cL_flagIf 37 = .ok (.ireturn, 1) := by decide +kernel
theorem dL_destroy_0 : decode cL_destroy 0 = .ok (.aload_n 2, 1) := by decide +kernel
theorem dL_destroy_1 : decode cL_destroy 1 = .ok (.iconst 0, 1) := by decide +kernel
theorem dL_destroy_2 : decode cL_destroy 2 = .ok (.aload_n 0, 1) := by decide +kernel
theorem dL_destroy_3 : decode cL_destroy 3 = .ok (.iload_n 1, 1) := by decide +kernel
theorem dL_destroy_4 : decode cL_destroy 4 = .ok (.invokevirtual 31, 3) := by decide +kernel
theorem dL_destroy_7 : decode cL_destroy 7 = .ok (.i2l, 1) := by decide +kernel
theorem dL_destroy_8 : decode cL_destroy 8 = .ok (.lastore, 1) := by decide +kernel
theorem dL_destroy_9 : decode cL_destroy 9 = .ok (.goto 6, 3) := by decide +kernel
theorem dL_destroy_12 : decode cL_destroy 12 = .ok (.astore_n 3, 1) := by decide +kernel
theorem dL_destroy_13 : decode cL_destroy 13 = .ok (.iconst 1, 1) := by decide +kernel
theorem dL_destroy_14 : decode cL_destroy 14 = .ok (.ireturn, 1) := by decide +kernel
theorem dL_destroy_15 : decode cL_destroy 15 = .ok (.iconst 0, 1) := by decide +kernel
theorem dL_destroy_16 : decode cL_destroy 16 = .ok (.ireturn, 1) := by decide +kernel
theorem dL_keywords_0 : decode cL_keywords 0 = .ok (.aload_n 2, 1) := by decide +kernel
theorem dL_keywords_1 : decode cL_keywords 1 = .ok (.iconst 0, 1) := by decide +kernel
theorem dL_keywords_2 : decode cL_keywords 2 = .ok (.aload_n 0, 1) := by decide +kernel
theorem dL_keywords_3 : decode cL_keywords 3 = .ok (.iload_n 1, 1) := by decide +kernel
theorem dL_keywords_4 : decode cL_keywords 4 = .ok (.invokevirtual 35, 3) := by decide +kernel
theorem dL_keywords_7 : decode cL_keywords 7 = .ok (.i2l, 1) := by decide +kernel
theorem dL_keywords_8 : decode cL_keywords 8 = .ok (.lastore, 1) := by decide +kernel
theorem dL_keywords_9 : decode cL_keywords 9 = .ok (.goto 6, 3) := by decide +kernel
theorem dL_keywords_12 : decode cL_keywords 12 = .ok (.astore_n 3, 1) := by decide +kernel
theorem dL_keywords_13 : decode cL_keywords 13 = .ok (.iconst 1, 1) := by decide +kernel
theorem dL_keywords_14 : decode cL_keywords 14 = .ok (.ireturn, 1) := by decide +kernel
theorem dL_keywords_15 : decode cL_keywords 15 = .ok (.iconst 0, 1) := by decide +kernel
theorem dL_keywords_16 : decode cL_keywords 16 = .ok (.ireturn, 1) := by decide +kernel
theorem dL_inThread_0 : decode cL_inThread 0 = .ok (.aload_n 2, 1) := by decide +kernel
theorem dL_inThread_1 : decode cL_inThread 1 = .ok (.iconst 0, 1) := by decide +kernel
theorem dL_inThread_2 : decode cL_inThread 2 = .ok (.aload_n 0, 1) := by decide +kernel
theorem dL_inThread_3 : decode cL_inThread 3 = .ok (.iload_n 1, 1) := by decide +kernel
theorem dL_inThread_4 : decode cL_inThread 4 = .ok (.invokevirtual 38, 3) := by decide +kernel
theorem dL_inThread_7 : decode cL_inThread 7 = .ok (.i2l, 1) := by decide +kernel
theorem dL_inThread_8 : decode cL_inThread 8 = .ok (.lastore, 1) := by decide +kernel
theorem dL_inThread_9 : decode cL_inThread 9 = .ok (.goto 6, 3) := by decide +kernel
theorem dL_inThread_12 : decode cL_inThread 12 = .ok (.astore_n 3, 1) := by decide +kernel
theorem dL_inThread_13 : decode cL_inThread 13 = .ok (.iconst 1, 1) := by decide +kernel
theorem dL_inThread_14 : decode cL_inThread 14 = .ok (.ireturn, 1) := by decide +kernel
theorem dL_inThread_15 : decode cL_inThread 15 = .ok (.iconst 0, 1) := by decide +kernel
theorem dL_inThread_16 : decode cL_inThread 16 = .ok (.ireturn, 1) := by decide +kernel
theorem dL_share_0 : decode cL_share 0 = .ok (.aload_n 3, 1) := by decide +kernel
theorem dL_share_1 : decode cL_share 1 = .ok (.iconst 0, 1) := by decide +kernel
theorem dL_share_2 : decode cL_share 2 = .ok (.aload_n 0, 1) := by decide +kernel
theorem dL_share_3 : decode cL_share 3 = .ok (.iload_n 1, 1) := by decide +kernel
theorem dL_share_4 : decode cL_share 4 = .ok (.iload_n 2, 1) := by decide +kernel
theorem dL_share_5 : decode cL_share 5 = .ok (.invokevirtual 41, 3) := by decide +kernel
theorem dL_share_8 : decode cL_share 8 = .ok (.f2d, 1) := by decide +kernel
theorem dL_share_9 : decode cL_share 9 = .ok (.dastore, 1) := by decide +kernel
theorem dL_share_10 : decode cL_share 10 = .ok (.goto 7, 3) := by decide +kernel
theorem dL_share_13 : decode cL_share 13 = .ok (.astore 4, 2) := by decide +kernel
theorem dL_share_15 : decode cL_share 15 = .ok (.iconst 1, 1) := by decide +kernel
theorem dL_share_16 : decode cL_share 16 = .ok (.ireturn, 1) := by decide +kernel
theorem dL_share_17 : decode cL_share 17 = .ok (.iconst 0, 1) := by decide +kernel
theorem dL_share_18 : decode cL_share 18 = .ok (.ireturn, 1) := by decide +kernel
theorem dL_canTell_0 : decode cL_canTell 0 = .ok (.aload_n 2, 1) := by decide +kernel
theorem dL_canTell_1 : decode cL_canTell 1 = .ok (.iconst 0, 1) := by decide +kernel
theorem dL_canTell_2 : decode cL_canTell 2 = .ok (.aload_n 0, 1) := by decide +kernel
theorem dL_canTell_3 : decode cL_canTell 3 = .ok (.iload_n 1, 1) := by decide +kernel
theorem dL_canTell_4 : decode cL_canTell 4 = .ok (.invokevirtual 45, 3) := by decide +kernel
theorem dL_canTell_7 : decode cL_canTell 7 = .ok (.ifCond .eq 7, 3) := by decide +kernel
theorem dL_canTell_10 : decode cL_canTell 10 = .ok (.lconst 1, 1) := by decide +kernel
theorem dL_canTell_11 : decode cL_canTell 11 = .ok (.goto 4, 3) := by decide +kernel
theorem dL_canTell_14 : decode cL_canTell 14 = .ok (.lconst 0, 1) := by decide +kernel
theorem dL_canTell_15 : decode cL_canTell 15 = .ok (.lastore, 1) := by decide +kernel
theorem dL_canTell_16 : decode cL_canTell 16 = .ok (.goto 6, 3) := by decide +kernel
theorem dL_canTell_19 : decode cL_canTell 19 = .ok (.astore_n 3, 1) := by decide +kernel
theorem dL_canTell_20 : decode cL_canTell 20 = .ok (.iconst 1, 1) := by decide +kernel
theorem dL_canTell_21 : decode cL_canTell 21 = .ok (.ireturn, 1) := by decide +kernel
theorem dL_canTell_22 : decode cL_canTell 22 = .ok (.iconst 0, 1) := by decide +kernel
theorem dL_canTell_23 : decode cL_canTell 23 = .ok (.ireturn, 1) := by decide +kernel
theorem dL_changed_0 : decode cL_changed 0 = .ok (.aload_n 3, 1) := by decide +kernel
theorem dL_changed_1 : decode cL_changed 1 = .ok (.iconst 0, 1) := by decide +kernel
theorem dL_changed_2 : decode cL_changed 2 = .ok (.aload_n 0, 1) := by decide +kernel
theorem dL_changed_3 : decode cL_changed 3 = .ok (.iload_n 1, 1) := by decide +kernel
theorem dL_changed_4 : decode cL_changed 4 = .ok (.iload_n 2, 1) := by decide +kernel
theorem dL_changed_5 : decode cL_changed 5 = .ok (.invokevirtual 49, 3) := by decide +kernel
theorem dL_changed_8 : decode cL_changed 8 = .ok (.i2l, 1) := by decide +kernel
theorem dL_changed_9 : decode cL_changed 9 = .ok (.lastore, 1) := by decide +kernel
theorem dL_changed_10 : decode cL_changed 10 = .ok (.goto 11, 3) := by decide +kernel
theorem dL_changed_13 : decode cL_changed 13 = .ok (.astore 4, 2) := by decide +kernel
theorem dL_changed_15 : decode cL_changed 15 = .ok (.iconst 1, 1) := by decide +kernel
theorem dL_changed_16 : decode cL_changed 16 = .ok (.ireturn, 1) := by decide +kernel
theorem dL_changed_17 : decode cL_changed 17 = .ok (.astore 4, 2) := by decide +kernel
theorem dL_changed_19 : decode cL_changed 19 = .ok (.iconst 2, 1) := by decide +kernel
theorem dL_changed_20 : decode cL_changed 20 = .ok (.ireturn, 1) := by decide +kernel
theorem dL_changed_21 : decode cL_changed 21 = .ok (.iconst 0, 1) := by decide +kernel
theorem dL_changed_22 : decode cL_changed 22 = .ok (.ireturn, 1) := by decide +kernel
theorem dL_changedAt_0 : decode cL_changedAt 0 = .ok (.aload 4, 2) := by decide +kernel
theorem dL_changedAt_2 : decode cL_changedAt 2 = .ok (.iconst 0, 1) := by decide +kernel
theorem dL_changedAt_3 : decode cL_changedAt 3 = .ok (.aload_n 0, 1) := by decide +kernel
theorem dL_changedAt_4 : decode cL_changedAt 4 = .ok (.iload_n 1, 1) := by decide +kernel
theorem dL_changedAt_5 : decode cL_changedAt 5 = .ok (.iload_n 2, 1) := by decide +kernel
theorem dL_changedAt_6 : decode cL_changedAt 6 = .ok (.iload_n 3, 1) := by decide +kernel
theorem dL_changedAt_7 : decode cL_changedAt 7 = .ok (.invokevirtual 52, 3) := by decide +kernel
theorem dL_changedAt_10 : decode cL_changedAt 10 = .ok (.i2l, 1) := by decide +kernel
theorem dL_changedAt_11 : decode cL_changedAt 11 = .ok (.lastore, 1) := by decide +kernel
theorem dL_changedAt_12 : decode cL_changedAt 12 = .ok (.goto 15, 3) := by decide +kernel
theorem dL_changedAt_15 : decode cL_changedAt 15 = .ok (.astore 5, 2) := by decide +kernel
theorem dL_changedAt_17 : decode cL_changedAt 17 = .ok (.iconst 1, 1) := by decide +kernel
theorem dL_changedAt_18 : decode cL_changedAt 18 = .ok (.ireturn, 1) := by decide +kernel
theorem dL_changedAt_19 : decode cL_changedAt 19 = .ok (.astore 5, 2) := by decide +kernel
theorem dL_changedAt_21 : decode cL_changedAt 21 = .ok (.iconst 2, 1) := by decide +kernel
theorem dL_changedAt_22 : decode cL_changedAt 22 = .ok (.ireturn, 1) := by decide +kernel
theorem dL_changedAt_23 : decode cL_changedAt 23 = .ok (.astore 5, 2) := by decide +kernel
theorem dL_changedAt_25 : decode cL_changedAt 25 = .ok (.iconst 3, 1) := by decide +kernel
theorem dL_changedAt_26 : decode cL_changedAt 26 = .ok (.ireturn, 1) := by decide +kernel
theorem dL_changedAt_27 : decode cL_changedAt 27 = .ok (.iconst 0, 1) := by decide +kernel
theorem dL_changedAt_28 : decode cL_changedAt 28 = .ok (.ireturn, 1) := by decide +kernel
theorem dL_page_0 : decode cL_page 0 = .ok (.aload_n 3, 1) := by decide +kernel
theorem dL_page_1 : decode cL_page 1 = .ok (.iconst 0, 1) := by decide +kernel
theorem dL_page_2 : decode cL_page 2 = .ok (.aload_n 0, 1) := by decide +kernel
theorem dL_page_3 : decode cL_page 3 = .ok (.iload_n 1, 1) := by decide +kernel
theorem dL_page_4 : decode cL_page 4 = .ok (.iload_n 2, 1) := by decide +kernel
theorem dL_page_5 : decode cL_page 5 = .ok (.invokevirtual 55, 3) := by decide +kernel
theorem dL_page_8 : decode cL_page 8 = .ok (.i2l, 1) := by decide +kernel
theorem dL_page_9 : decode cL_page 9 = .ok (.lastore, 1) := by decide +kernel
theorem dL_page_10 : decode cL_page 10 = .ok (.goto 11, 3) := by decide +kernel
theorem dL_page_13 : decode cL_page 13 = .ok (.astore 4, 2) := by decide +kernel
theorem dL_page_15 : decode cL_page 15 = .ok (.iconst 1, 1) := by decide +kernel
theorem dL_page_16 : decode cL_page 16 = .ok (.ireturn, 1) := by decide +kernel
theorem dL_page_17 : decode cL_page 17 = .ok (.astore 4, 2) := by decide +kernel
theorem dL_page_19 : decode cL_page 19 = .ok (.iconst 2, 1) := by decide +kernel
theorem dL_page_20 : decode cL_page 20 = .ok (.ireturn, 1) := by decide +kernel
theorem dL_page_21 : decode cL_page 21 = .ok (.iconst 0, 1) := by decide +kernel
theorem dL_page_22 : decode cL_page 22 = .ok (.ireturn, 1) := by decide +kernel
theorem dL_found_0 : decode cL_found 0 = .ok (.aload_n 3, 1) := by decide +kernel
theorem dL_found_1 : decode cL_found 1 = .ok (.iconst 0, 1) := by decide +kernel
theorem dL_found_2 : decode cL_found 2 = .ok (.aload_n 0, 1) := by decide +kernel
theorem dL_found_3 : decode cL_found 3 = .ok (.iload_n 1, 1) := by decide +kernel
theorem dL_found_4 : decode cL_found 4 = .ok (.iload_n 2, 1) := by decide +kernel
theorem dL_found_5 : decode cL_found 5 = .ok (.invokevirtual 58, 3) := by decide +kernel
theorem dL_found_8 : decode cL_found 8 = .ok (.i2l, 1) := by decide +kernel
theorem dL_found_9 : decode cL_found 9 = .ok (.lastore, 1) := by decide +kernel
theorem dL_found_10 : decode cL_found 10 = .ok (.goto 7, 3) := by decide +kernel
theorem dL_found_13 : decode cL_found 13 = .ok (.astore 4, 2) := by decide +kernel
theorem dL_found_15 : decode cL_found 15 = .ok (.iconst 1, 1) := by decide +kernel
theorem dL_found_16 : decode cL_found 16 = .ok (.ireturn, 1) := by decide +kernel
theorem dL_found_17 : decode cL_found 17 = .ok (.iconst 0, 1) := by decide +kernel
theorem dL_found_18 : decode cL_found 18 = .ok (.ireturn, 1) := by decide +kernel
theorem dL_foundAt_0 : decode cL_foundAt 0 = .ok (.aload 4, 2) := by decide +kernel
theorem dL_foundAt_2 : decode cL_foundAt 2 = .ok (.iconst 0, 1) := by decide +kernel
theorem dL_foundAt_3 : decode cL_foundAt 3 = .ok (.aload_n 0, 1) := by decide +kernel
theorem dL_foundAt_4 : decode cL_foundAt 4 = .ok (.iload_n 1, 1) := by decide +kernel
theorem dL_foundAt_5 : decode cL_foundAt 5 = .ok (.iload_n 2, 1) := by decide +kernel
theorem dL_foundAt_6 : decode cL_foundAt 6 = .ok (.iload_n 3, 1) := by decide +kernel
theorem dL_foundAt_7 : decode cL_foundAt 7 = .ok (.invokevirtual 61, 3) := by decide +kernel
theorem dL_foundAt_10 : decode cL_foundAt 10 = .ok (.i2l, 1) := by decide +kernel
theorem dL_foundAt_11 : decode cL_foundAt 11 = .ok (.lastore, 1) := by decide +kernel
theorem dL_foundAt_12 : decode cL_foundAt 12 = .ok (.goto 11, 3) := by decide +kernel
theorem dL_foundAt_15 : decode cL_foundAt 15 = .ok (.astore 5, 2) := by decide +kernel
theorem dL_foundAt_17 : decode cL_foundAt 17 = .ok (.iconst 1, 1) := by decide +kernel
theorem dL_foundAt_18 : decode cL_foundAt 18 = .ok (.ireturn, 1) := by decide +kernel
theorem dL_foundAt_19 : decode cL_foundAt 19 = .ok (.astore 5, 2) := by decide +kernel
theorem dL_foundAt_21 : decode cL_foundAt 21 = .ok (.iconst 2, 1) := by decide +kernel
theorem dL_foundAt_22 : decode cL_foundAt 22 = .ok (.ireturn, 1) := by decide +kernel
theorem dL_foundAt_23 : decode cL_foundAt 23 = .ok (.iconst 0, 1) := by decide +kernel
theorem dL_foundAt_24 : decode cL_foundAt 24 = .ok (.ireturn, 1) := by decide +kernel
theorem dL_removed_0 : decode cL_removed 0 = .ok (.aload 4, 2) := by decide +kernel
theorem dL_removed_2 : decode cL_removed 2 = .ok (.iconst 0, 1) := by decide +kernel
theorem dL_removed_3 : decode cL_removed 3 = .ok (.aload_n 0, 1) := by decide +kernel
theorem dL_removed_4 : decode cL_removed 4 = .ok (.iload_n 1, 1) := by decide +kernel
theorem dL_removed_5 : decode cL_removed 5 = .ok (.iload_n 2, 1) := by decide +kernel
theorem dL_removed_6 : decode cL_removed 6 = .ok (.iload_n 3, 1) := by decide +kernel
theorem dL_removed_7 : decode cL_removed 7 = .ok (.invokevirtual 64, 3) := by decide +kernel
theorem dL_removed_10 : decode cL_removed 10 = .ok (.i2l, 1) := by decide +kernel
theorem dL_removed_11 : decode cL_removed 11 = .ok (.lastore, 1) := by decide +kernel
theorem dL_removed_12 : decode cL_removed 12 = .ok (.goto 11, 3) := by decide +kernel
theorem dL_removed_15 : decode cL_removed 15 = .ok (.astore 5, 2) := by decide +kernel
theorem dL_removed_17 : decode cL_removed 17 = .ok (.iconst 1, 1) := by decide +kernel
theorem dL_removed_18 : decode cL_removed 18 = .ok (.ireturn, 1) := by decide +kernel
theorem dL_removed_19 : decode cL_removed 19 = .ok (.astore 5, 2) := by decide +kernel
theorem dL_removed_21 : decode cL_removed 21 = .ok (.iconst 2, 1) := by decide +kernel
theorem dL_removed_22 : decode cL_removed 22 = .ok (.ireturn, 1) := by decide +kernel
theorem dL_removed_23 : decode cL_removed 23 = .ok (.iconst 0, 1) := by decide +kernel
theorem dL_removed_24 : decode cL_removed 24 = .ok (.ireturn, 1) := by decide +kernel
theorem dL_added_0 : decode cL_added 0 = .ok (.aload 4, 2) := by decide +kernel
theorem dL_added_2 : decode cL_added 2 = .ok (.iconst 0, 1) := by decide +kernel
theorem dL_added_3 : decode cL_added 3 = .ok (.aload_n 0, 1) := by decide +kernel
theorem dL_added_4 : decode cL_added 4 = .ok (.iload_n 1, 1) := by decide +kernel
theorem dL_added_5 : decode cL_added 5 = .ok (.iload_n 2, 1) := by decide +kernel
theorem dL_added_6 : decode cL_added 6 = .ok (.iload_n 3, 1) := by decide +kernel
theorem dL_added_7 : decode cL_added 7 = .ok (.invokevirtual 67, 3) := by decide +kernel
theorem dL_added_10 : decode cL_added 10 = .ok (.i2l, 1) := by decide +kernel
theorem dL_added_11 : decode cL_added 11 = .ok (.lastore, 1) := by decide +kernel
theorem dL_added_12 : decode cL_added 12 = .ok (.goto 11, 3) := by decide +kernel
theorem dL_added_15 : decode cL_added 15 = .ok (.astore 5, 2) := by decide +kernel
theorem dL_added_17 : decode cL_added 17 = .ok (.iconst 1, 1) := by decide +kernel
theorem dL_added_18 : decode cL_added 18 = .ok (.ireturn, 1) := by decide +kernel
theorem dL_added_19 : decode cL_added 19 = .ok (.astore 5, 2) := by decide +kernel
theorem dL_added_21 : decode cL_added 21 = .ok (.iconst 2, 1) := by decide +kernel
theorem dL_added_22 : decode cL_added 22 = .ok (.ireturn, 1) := by decide +kernel
theorem dL_added_23 : decode cL_added 23 = .ok (.iconst 0, 1) := by decide +kernel
theorem dL_added_24 : decode cL_added 24 = .ok (.ireturn, 1) := by decide +kernel
theorem dL_watch_0 : decode cL_watch 0 = .ok (.aload_n 0, 1) := by decide +kernel
theorem dL_watch_1 : decode cL_watch 1 = .ok (.iload_n 1, 1) := by decide +kernel
theorem dL_watch_2 : decode cL_watch 2 = .ok (.iload_n 2, 1) := by decide +kernel
theorem dL_watch_3 : decode cL_watch 3 = .ok (.iload_n 3, 1) := by decide +kernel
theorem dL_watch_4 : decode cL_watch 4 = .ok (.invokevirtual 70, 3) := by decide +kernel
theorem dL_watch_7 : decode cL_watch 7 = .ok (.goto 7, 3) := by decide +kernel
theorem dL_watch_10 : decode cL_watch 10 = .ok (.astore 4, 2) := by decide +kernel
theorem dL_watch_12 : decode cL_watch 12 = .ok (.iconst 1, 1) := by decide +kernel
theorem dL_watch_13 : decode cL_watch 13 = .ok (.ireturn, 1) := by decide +kernel
theorem dL_watch_14 : decode cL_watch 14 = .ok (.iconst 0, 1) := by decide +kernel
theorem dL_watch_15 : decode cL_watch 15 = .ok (.ireturn, 1) := by decide +kernel
theorem dL_flagOffline_0 : decode cL_flagOffline 0 = .ok (.aload 5, 2) := by decide +kernel
theorem dL_flagOffline_2 : decode cL_flagOffline 2 = .ok (.iconst 0, 1) := by decide +kernel
theorem dL_flagOffline_3 : decode cL_flagOffline 3 = .ok (.aload_n 0, 1) := by decide +kernel
theorem dL_flagOffline_4 : decode cL_flagOffline 4 = .ok (.iload_n 1, 1) := by decide +kernel
theorem dL_flagOffline_5 : decode cL_flagOffline 5 = .ok (.iload_n 2, 1) := by decide +kernel
theorem dL_flagOffline_6 : decode cL_flagOffline 6 = .ok (.iload_n 3, 1) := by decide +kernel
theorem dL_flagOffline_7 : decode cL_flagOffline 7 = .ok (.iload 4, 2) := by decide +kernel
theorem dL_flagOffline_9 : decode cL_flagOffline 9 = .ok (.invokevirtual 74, 3) := by decide +kernel
theorem dL_flagOffline_12 : decode cL_flagOffline 12 = .ok (.i2l, 1) := by decide +kernel
theorem dL_flagOffline_13 : decode cL_flagOffline 13 = .ok (.lastore, 1) := by decide +kernel
theorem dL_flagOffline_14 : decode cL_flagOffline 14 = .ok (.goto 11, 3) := by decide +kernel
theorem dL_flagOffline_17 : decode cL_flagOffline 17 = .ok (.astore 6, 2) := by decide +kernel
theorem dL_flagOffline_19 : decode cL_flagOffline 19 = .ok (.iconst 1, 1) := by decide +kernel
theorem dL_flagOffline_20 : decode cL_flagOffline 20 = .ok (.ireturn, 1) := by decide +kernel
theorem dL_flagOffline_21 : decode cL_flagOffline 21 = .ok (.astore 6, 2) := by decide +kernel
theorem dL_flagOffline_23 : decode cL_flagOffline 23 = .ok (.iconst 2, 1) := by decide +kernel
theorem dL_flagOffline_24 : decode cL_flagOffline 24 = .ok (.ireturn, 1) := by decide +kernel
theorem dL_flagOffline_25 : decode cL_flagOffline 25 = .ok (.iconst 0, 1) := by decide +kernel
theorem dL_flagOffline_26 : decode cL_flagOffline 26 = .ok (.ireturn, 1) := by decide +kernel
theorem dL_sync_0 : decode cL_sync 0 = .ok (.aload_n 2, 1) := by decide +kernel
theorem dL_sync_1 : decode cL_sync 1 = .ok (.iconst 0, 1) := by decide +kernel
theorem dL_sync_2 : decode cL_sync 2 = .ok (.aload_n 0, 1) := by decide +kernel
theorem dL_sync_3 : decode cL_sync 3 = .ok (.iload_n 1, 1) := by decide +kernel
theorem dL_sync_4 : decode cL_sync 4 = .ok (.invokevirtual 78, 3) := by decide +kernel
theorem dL_sync_7 : decode cL_sync 7 = .ok (.i2l, 1) := by decide +kernel
theorem dL_sync_8 : decode cL_sync 8 = .ok (.lastore, 1) := by decide +kernel
theorem dL_sync_9 : decode cL_sync 9 = .ok (.goto 6, 3) := by decide +kernel
theorem dL_sync_12 : decode cL_sync 12 = .ok (.astore_n 3, 1) := by decide +kernel
theorem dL_sync_13 : decode cL_sync 13 = .ok (.iconst 1, 1) := by decide +kernel
theorem dL_sync_14 : decode cL_sync 14 = .ok (.ireturn, 1) := by decide +kernel
theorem dL_sync_15 : decode cL_sync 15 = .ok (.iconst 0, 1) := by decide +kernel
theorem dL_sync_16 : decode cL_sync 16 = .ok (.ireturn, 1) := by decide +kernel
theorem dL_stateOf_0 : decode cL_stateOf 0 = .ok (.aload_n 2, 1) := by decide +kernel
theorem dL_stateOf_1 : decode cL_stateOf 1 = .ok (.iconst 0, 1) := by decide +kernel
theorem dL_stateOf_2 : decode cL_stateOf 2 = .ok (.aload_n 0, 1) := by decide +kernel
theorem dL_stateOf_3 : decode cL_stateOf 3 = .ok (.iload_n 1, 1) := by decide +kernel
theorem dL_stateOf_4 : decode cL_stateOf 4 = .ok (.invokevirtual 81, 3) := by decide +kernel
theorem dL_stateOf_7 : decode cL_stateOf 7 = .ok (.i2l, 1) := by decide +kernel
theorem dL_stateOf_8 : decode cL_stateOf 8 = .ok (.lastore, 1) := by decide +kernel
theorem dL_stateOf_9 : decode cL_stateOf 9 = .ok (.goto 6, 3) := by decide +kernel
theorem dL_stateOf_12 : decode cL_stateOf 12 = .ok (.astore_n 3, 1) := by decide +kernel
theorem dL_stateOf_13 : decode cL_stateOf 13 = .ok (.iconst 1, 1) := by decide +kernel
theorem dL_stateOf_14 : decode cL_stateOf 14 = .ok (.ireturn, 1) := by decide +kernel
theorem dL_stateOf_15 : decode cL_stateOf 15 = .ok (.iconst 0, 1) := by decide +kernel
theorem dL_stateOf_16 : decode cL_stateOf 16 = .ok (.ireturn, 1) := by decide +kernel
theorem dL_window_0 : decode cL_window 0 = .ok (.aload_n 2, 1) := by decide +kernel
theorem dL_window_1 : decode cL_window 1 = .ok (.iconst 0, 1) := by decide +kernel
theorem dL_window_2 : decode cL_window 2 = .ok (.aload_n 0, 1) := by decide +kernel
theorem dL_window_3 : decode cL_window 3 = .ok (.iload_n 1, 1) := by decide +kernel
theorem dL_window_4 : decode cL_window 4 = .ok (.invokevirtual 84, 3) := by decide +kernel
theorem dL_window_7 : decode cL_window 7 = .ok (.i2l, 1) := by decide +kernel
theorem dL_window_8 : decode cL_window 8 = .ok (.lastore, 1) := by decide +kernel
theorem dL_window_9 : decode cL_window 9 = .ok (.goto 6, 3) := by decide +kernel
theorem dL_window_12 : decode cL_window 12 = .ok (.astore_n 3, 1) := by decide +kernel
theorem dL_window_13 : decode cL_window 13 = .ok (.iconst 1, 1) := by decide +kernel
theorem dL_window_14 : decode cL_window 14 = .ok (.ireturn, 1) := by decide +kernel
theorem dL_window_15 : decode cL_window 15 = .ok (.iconst 0, 1) := by decide +kernel
theorem dL_window_16 : decode cL_window 16 = .ok (.ireturn, 1) := by decide +kernel
theorem dL_windowAt_0 : decode cL_windowAt 0 = .ok (.aload_n 3, 1) := by decide +kernel
theorem dL_windowAt_1 : decode cL_windowAt 1 = .ok (.iconst 0, 1) := by decide +kernel
theorem dL_windowAt_2 : decode cL_windowAt 2 = .ok (.aload_n 0, 1) := by decide +kernel
theorem dL_windowAt_3 : decode cL_windowAt 3 = .ok (.iload_n 1, 1) := by decide +kernel
theorem dL_windowAt_4 : decode cL_windowAt 4 = .ok (.iload_n 2, 1) := by decide +kernel
theorem dL_windowAt_5 : decode cL_windowAt 5 = .ok (.invokevirtual 87, 3) := by decide +kernel
theorem dL_windowAt_8 : decode cL_windowAt 8 = .ok (.i2l, 1) := by decide +kernel
theorem dL_windowAt_9 : decode cL_windowAt 9 = .ok (.lastore, 1) := by decide +kernel
theorem dL_windowAt_10 : decode cL_windowAt 10 = .ok (.goto 11, 3) := by decide +kernel
theorem dL_windowAt_13 : decode cL_windowAt 13 = .ok (.astore 4, 2) := by decide +kernel
theorem dL_windowAt_15 : decode cL_windowAt 15 = .ok (.iconst 1, 1) := by decide +kernel
theorem dL_windowAt_16 : decode cL_windowAt 16 = .ok (.ireturn, 1) := by decide +kernel
theorem dL_windowAt_17 : decode cL_windowAt 17 = .ok (.astore 4, 2) := by decide +kernel
theorem dL_windowAt_19 : decode cL_windowAt 19 = .ok (.iconst 2, 1) := by decide +kernel
theorem dL_windowAt_20 : decode cL_windowAt 20 = .ok (.ireturn, 1) := by decide +kernel
theorem dL_windowAt_21 : decode cL_windowAt 21 = .ok (.iconst 0, 1) := by decide +kernel
theorem dL_windowAt_22 : decode cL_windowAt 22 = .ok (.ireturn, 1) := by decide +kernel
theorem dL_known_0 : decode cL_known 0 = .ok (.aload_n 3, 1) := by decide +kernel
theorem dL_known_1 : decode cL_known 1 = .ok (.iconst 0, 1) := by decide +kernel
theorem dL_known_2 : decode cL_known 2 = .ok (.aload_n 0, 1) := by decide +kernel
theorem dL_known_3 : decode cL_known 3 = .ok (.iload_n 1, 1) := by decide +kernel
theorem dL_known_4 : decode cL_known 4 = .ok (.iload_n 2, 1) := by decide +kernel
theorem dL_known_5 : decode cL_known 5 = .ok (.invokevirtual 90, 3) := by decide +kernel
theorem dL_known_8 : decode cL_known 8 = .ok (.i2l, 1) := by decide +kernel
theorem dL_known_9 : decode cL_known 9 = .ok (.lastore, 1) := by decide +kernel
theorem dL_known_10 : decode cL_known 10 = .ok (.goto 11, 3) := by decide +kernel
theorem dL_known_13 : decode cL_known 13 = .ok (.astore 4, 2) := by decide +kernel
theorem dL_known_15 : decode cL_known 15 = .ok (.iconst 1, 1) := by decide +kernel
theorem dL_known_16 : decode cL_known 16 = .ok (.ireturn, 1) := by decide +kernel
theorem dL_known_17 : decode cL_known 17 = .ok (.astore 4, 2) := by decide +kernel
theorem dL_known_19 : decode cL_known 19 = .ok (.iconst 2, 1) := by decide +kernel
theorem dL_known_20 : decode cL_known 20 = .ok (.ireturn, 1) := by decide +kernel
theorem dL_known_21 : decode cL_known 21 = .ok (.iconst 0, 1) := by decide +kernel
theorem dL_known_22 : decode cL_known 22 = .ok (.ireturn, 1) := by decide +kernel
theorem dL_freshLoads_0 : decode cL_freshLoads 0 = .ok (.aload_n 2, 1) := by decide +kernel
theorem dL_freshLoads_1 : decode cL_freshLoads 1 = .ok (.iconst 0, 1) := by decide +kernel
theorem dL_freshLoads_2 : decode cL_freshLoads 2 = .ok (.aload_n 0, 1) := by decide +kernel
theorem dL_freshLoads_3 : decode cL_freshLoads 3 = .ok (.iload_n 1, 1) := by decide +kernel
theorem dL_freshLoads_4 : decode cL_freshLoads 4 = .ok (.invokevirtual 93, 3) := by decide +kernel
theorem dL_freshLoads_7 : decode cL_freshLoads 7 = .ok (.i2l, 1) := by decide +kernel
theorem dL_freshLoads_8 : decode cL_freshLoads 8 = .ok (.lastore, 1) := by decide +kernel
theorem dL_freshLoads_9 : decode cL_freshLoads 9 = .ok (.goto 6, 3) := by decide +kernel
theorem dL_freshLoads_12 : decode cL_freshLoads 12 = .ok (.astore_n 3, 1) := by decide +kernel
theorem dL_freshLoads_13 : decode cL_freshLoads 13 = .ok (.iconst 1, 1) := by decide +kernel
theorem dL_freshLoads_14 : decode cL_freshLoads 14 = .ok (.ireturn, 1) := by decide +kernel
theorem dL_freshLoads_15 : decode cL_freshLoads 15 = .ok (.iconst 0, 1) := by decide +kernel
theorem dL_freshLoads_16 : decode cL_freshLoads 16 = .ok (.ireturn, 1) := by decide +kernel
theorem dL_law_0 : decode cL_law 0 = .ok (.new 8, 3) := by decide +kernel
theorem dL_law_3 : decode cL_law 3 = .ok (.dup, 1) := by decide +kernel
theorem dL_law_4 : decode cL_law 4 = .ok (.invokespecial 96, 3) := by decide +kernel
theorem dL_law_7 : decode cL_law 7 = .ok (.astore_n 1, 1) := by decide +kernel
theorem dL_law_8 : decode cL_law 8 = .ok (.new 97, 3) := by decide +kernel
theorem dL_law_11 : decode cL_law 11 = .ok (.dup, 1) := by decide +kernel
theorem dL_law_12 : decode cL_law 12 = .ok (.invokespecial 99, 3) := by decide +kernel
theorem dL_law_15 : decode cL_law 15 = .ok (.astore_n 2, 1) := by decide +kernel
theorem dL_law_16 : decode cL_law 16 = .ok (.iconst 1, 1) := by decide +kernel
theorem dL_law_17 : decode cL_law 17 = .ok (.newarray .long, 2) := by decide +kernel
theorem dL_law_19 : decode cL_law 19 = .ok (.astore_n 3, 1) := by decide +kernel
theorem dL_law_20 : decode cL_law 20 = .ok (.iconst 1, 1) := by decide +kernel
theorem dL_law_21 : decode cL_law 21 = .ok (.newarray .double, 2) := by decide +kernel
theorem dL_law_23 : decode cL_law 23 = .ok (.astore 4, 2) := by decide +kernel
theorem dL_law_25 : decode cL_law 25 = .ok (.iconst 0, 1) := by decide +kernel
theorem dL_law_26 : decode cL_law 26 = .ok (.istore 5, 2) := by decide +kernel
theorem dL_law_28 : decode cL_law 28 = .ok (.iload 5, 2) := by decide +kernel
theorem dL_law_30 : decode cL_law 30 = .ok (.aload_n 0, 1) := by decide +kernel
theorem dL_law_31 : decode cL_law 31 = .ok (.arraylength, 1) := by decide +kernel
theorem dL_law_32 : decode cL_law 32 = .ok (.iconst 5, 1) := by decide +kernel
theorem dL_law_33 : decode cL_law 33 = .ok (.isub, 1) := by decide +kernel
theorem dL_law_34 : decode cL_law 34 = .ok (.if_icmp .gt 1901, 3) := by decide +kernel
theorem dL_law_37 : decode cL_law 37 = .ok (.aload_n 0, 1) := by decide +kernel
theorem dL_law_38 : decode cL_law 38 = .ok (.iload 5, 2) := by decide +kernel
theorem dL_law_40 : decode cL_law 40 = .ok (.iaload, 1) := by decide +kernel
theorem dL_law_41 : decode cL_law 41 = .ok (.bipush 31, 2) := by decide +kernel
theorem dL_law_43 : decode cL_law 43 = .ok (.iand, 1) := by decide +kernel
theorem dL_law_44 : decode cL_law 44 = .ok (.tableswitch 1885 0 25 #[120, 200, 268, 371, 486, 542, 555, 568, 624, 680, 770, 833, 901, 981, 1049, 1117, 1197, 1277, 1357, 1417, 1525, 1581, 1637, 1693, 1761, 1829], 120) := by decide +kernel
theorem dL_law_164 : decode cL_law 164 = .ok (.aload_n 1, 1) := by decide +kernel
theorem dL_law_165 : decode cL_law 165 = .ok (.aload_n 0, 1) := by decide +kernel
theorem dL_law_166 : decode cL_law 166 = .ok (.iload 5, 2) := by decide +kernel
theorem dL_law_168 : decode cL_law 168 = .ok (.iconst 1, 1) := by decide +kernel
theorem dL_law_169 : decode cL_law 169 = .ok (.iadd, 1) := by decide +kernel
theorem dL_law_170 : decode cL_law 170 = .ok (.iaload, 1) := by decide +kernel
theorem dL_law_171 : decode cL_law 171 = .ok (.aload_n 0, 1) := by decide +kernel
theorem dL_law_172 : decode cL_law 172 = .ok (.iload 5, 2) := by decide +kernel
theorem dL_law_174 : decode cL_law 174 = .ok (.iconst 2, 1) := by decide +kernel
theorem dL_law_175 : decode cL_law 175 = .ok (.iadd, 1) := by decide +kernel
theorem dL_law_176 : decode cL_law 176 = .ok (.iaload, 1) := by decide +kernel
theorem dL_law_177 : decode cL_law 177 = .ok (.aload_n 0, 1) := by decide +kernel
theorem dL_law_178 : decode cL_law 178 = .ok (.iload 5, 2) := by decide +kernel
theorem dL_law_180 : decode cL_law 180 = .ok (.iconst 3, 1) := by decide +kernel
theorem dL_law_181 : decode cL_law 181 = .ok (.iadd, 1) := by decide +kernel
theorem dL_law_182 : decode cL_law 182 = .ok (.iaload, 1) := by decide +kernel
theorem dL_law_183 : decode cL_law 183 = .ok (.aload_n 3, 1) := by decide +kernel
theorem dL_law_184 : decode cL_law 184 = .ok (.invokestatic 100, 3) := by decide +kernel
theorem dL_law_187 : decode cL_law 187 = .ok (.istore 6, 2) := by decide +kernel
theorem dL_law_189 : decode cL_law 189 = .ok (.aload_n 2, 1) := by decide +kernel
theorem dL_law_190 : decode cL_law 190 = .ok (.aload_n 0, 1) := by decide +kernel
theorem dL_law_191 : decode cL_law 191 = .ok (.iload 5, 2) := by decide +kernel
theorem dL_law_193 : decode cL_law 193 = .ok (.iconst 1, 1) := by decide +kernel
theorem dL_law_194 : decode cL_law 194 = .ok (.iadd, 1) := by decide +kernel
theorem dL_law_195 : decode cL_law 195 = .ok (.iaload, 1) := by decide +kernel
theorem dL_law_196 : decode cL_law 196 = .ok (.aload_n 0, 1) := by decide +kernel
theorem dL_law_197 : decode cL_law 197 = .ok (.iload 5, 2) := by decide +kernel
theorem dL_law_199 : decode cL_law 199 = .ok (.iconst 2, 1) := by decide +kernel
theorem dL_law_200 : decode cL_law 200 = .ok (.iadd, 1) := by decide +kernel
theorem dL_law_201 : decode cL_law 201 = .ok (.iaload, 1) := by decide +kernel
theorem dL_law_202 : decode cL_law 202 = .ok (.aload_n 0, 1) := by decide +kernel
theorem dL_law_203 : decode cL_law 203 = .ok (.iload 5, 2) := by decide +kernel
theorem dL_law_205 : decode cL_law 205 = .ok (.iconst 3, 1) := by decide +kernel
theorem dL_law_206 : decode cL_law 206 = .ok (.iadd, 1) := by decide +kernel
theorem dL_law_207 : decode cL_law 207 = .ok (.iaload, 1) := by decide +kernel
theorem dL_law_208 : decode cL_law 208 = .ok (.invokevirtual 105, 3) := by decide +kernel
theorem dL_law_211 : decode cL_law 211 = .ok (.istore 7, 2) := by decide +kernel
theorem dL_law_213 : decode cL_law 213 = .ok (.aload_n 2, 1) := by decide +kernel
theorem dL_law_214 : decode cL_law 214 = .ok (.invokevirtual 106, 3) := by decide +kernel
theorem dL_law_217 : decode cL_law 217 = .ok (.iload 6, 2) := by decide +kernel
theorem dL_law_219 : decode cL_law 219 = .ok (.if_icmp .eq 5, 3) := by decide +kernel
theorem dL_law_222 : decode cL_law 222 = .ok (.iconst 0, 1) := by decide +kernel
theorem dL_law_223 : decode cL_law 223 = .ok (.ireturn, 1) := by decide +kernel
theorem dL_law_224 : decode cL_law 224 = .ok (.iload 6, 2) := by decide +kernel
theorem dL_law_226 : decode cL_law 226 = .ok (.ifCond .ne 15, 3) := by decide +kernel
theorem dL_law_229 : decode cL_law 229 = .ok (.aload_n 3, 1) := by decide +kernel
theorem dL_law_230 : decode cL_law 230 = .ok (.iconst 0, 1) := by decide +kernel
theorem dL_law_231 : decode cL_law 231 = .ok (.laload, 1) := by decide +kernel
theorem dL_law_232 : decode cL_law 232 = .ok (.iload 7, 2) := by decide +kernel
theorem dL_law_234 : decode cL_law 234 = .ok (.i2l, 1) := by decide +kernel
theorem dL_law_235 : decode cL_law 235 = .ok (.lcmp, 1) := by decide +kernel
theorem dL_law_236 : decode cL_law 236 = .ok (.ifCond .eq 5, 3) := by decide +kernel
theorem dL_law_239 : decode cL_law 239 = .ok (.iconst 0, 1) := by decide +kernel
theorem dL_law_240 : decode cL_law 240 = .ok (.ireturn, 1) := by decide +kernel
theorem dL_law_241 : decode cL_law 241 = .ok (.goto 1688, 3) := by decide +kernel
theorem dL_law_244 : decode cL_law 244 = .ok (.aload_n 1, 1) := by decide +kernel
theorem dL_law_245 : decode cL_law 245 = .ok (.aload_n 0, 1) := by decide +kernel
end
section
theorem dL_law_246 : decode cL_law 246 = .ok (.iload 5, 2) := by decide +kernel
theorem dL_law_248 : decode cL_law 248 = .ok (.iconst 1, 1) := by decide +kernel
theorem dL_law_249 : decode cL_law 249 = .ok (.iadd, 1) := by decide +kernel
theorem dL_law_250 : decode cL_law 250 = .ok (.iaload, 1) := by decide +kernel
theorem dL_law_251 : decode cL_law 251 = .ok (.aload_n 0, 1) := by decide +kernel
theorem dL_law_252 : decode cL_law 252 = .ok (.iload 5, 2) := by decide +kernel
theorem dL_law_254 : decode cL_law 254 = .ok (.iconst 2, 1) := by decide +kernel
theorem dL_law_255 : decode cL_law 255 = .ok (.iadd, 1) := by decide +kernel
theorem dL_law_256 : decode cL_law 256 = .ok (.iaload, 1) := by decide +kernel
theorem dL_law_257 : decode cL_law 257 = .ok (.aload_n 3, 1) := by decide +kernel
theorem dL_law_258 : decode cL_law 258 = .ok (.invokestatic 110, 3) := by decide +kernel
theorem dL_law_261 : decode cL_law 261 = .ok (.istore 6, 2) := by decide +kernel
theorem dL_law_263 : decode cL_law 263 = .ok (.aload_n 2, 1) := by decide +kernel
theorem dL_law_264 : decode cL_law 264 = .ok (.aload_n 0, 1) := by decide +kernel
theorem dL_law_265 : decode cL_law 265 = .ok (.iload 5, 2) := by decide +kernel
theorem dL_law_267 : decode cL_law 267 = .ok (.iconst 1, 1) := by decide +kernel
theorem dL_law_268 : decode cL_law 268 = .ok (.iadd, 1) := by decide +kernel
theorem dL_law_269 : decode cL_law 269 = .ok (.iaload, 1) := by decide +kernel
theorem dL_law_270 : decode cL_law 270 = .ok (.aload_n 0, 1) := by decide +kernel
theorem dL_law_271 : decode cL_law 271 = .ok (.iload 5, 2) := by decide +kernel
theorem dL_law_273 : decode cL_law 273 = .ok (.iconst 2, 1) := by decide +kernel
theorem dL_law_274 : decode cL_law 274 = .ok (.iadd, 1) := by decide +kernel
theorem dL_law_275 : decode cL_law 275 = .ok (.iaload, 1) := by decide +kernel
theorem dL_law_276 : decode cL_law 276 = .ok (.invokevirtual 113, 3) := by decide +kernel
theorem dL_law_279 : decode cL_law 279 = .ok (.istore 7, 2) := by decide +kernel
theorem dL_law_281 : decode cL_law 281 = .ok (.aload_n 2, 1) := by decide +kernel
theorem dL_law_282 : decode cL_law 282 = .ok (.invokevirtual 106, 3) := by decide +kernel
theorem dL_law_285 : decode cL_law 285 = .ok (.iload 6, 2) := by decide +kernel
theorem dL_law_287 : decode cL_law 287 = .ok (.if_icmp .eq 5, 3) := by decide +kernel
theorem dL_law_290 : decode cL_law 290 = .ok (.iconst 0, 1) := by decide +kernel
theorem dL_law_291 : decode cL_law 291 = .ok (.ireturn, 1) := by decide +kernel
theorem dL_law_292 : decode cL_law 292 = .ok (.iload 6, 2) := by decide +kernel
theorem dL_law_294 : decode cL_law 294 = .ok (.ifCond .ne 15, 3) := by decide +kernel
theorem dL_law_297 : decode cL_law 297 = .ok (.aload_n 3, 1) := by decide +kernel
theorem dL_law_298 : decode cL_law 298 = .ok (.iconst 0, 1) := by decide +kernel
theorem dL_law_299 : decode cL_law 299 = .ok (.laload, 1) := by decide +kernel
theorem dL_law_300 : decode cL_law 300 = .ok (.iload 7, 2) := by decide +kernel
theorem dL_law_302 : decode cL_law 302 = .ok (.i2l, 1) := by decide +kernel
theorem dL_law_303 : decode cL_law 303 = .ok (.lcmp, 1) := by decide +kernel
theorem dL_law_304 : decode cL_law 304 = .ok (.ifCond .eq 5, 3) := by decide +kernel
theorem dL_law_307 : decode cL_law 307 = .ok (.iconst 0, 1) := by decide +kernel
theorem dL_law_308 : decode cL_law 308 = .ok (.ireturn, 1) := by decide +kernel
theorem dL_law_309 : decode cL_law 309 = .ok (.goto 1620, 3) := by decide +kernel
theorem dL_law_312 : decode cL_law 312 = .ok (.aload_n 1, 1) := by decide +kernel
theorem dL_law_313 : decode cL_law 313 = .ok (.aload_n 0, 1) := by decide +kernel
theorem dL_law_314 : decode cL_law 314 = .ok (.iload 5, 2) := by decide +kernel
theorem dL_law_316 : decode cL_law 316 = .ok (.iconst 1, 1) := by decide +kernel
theorem dL_law_317 : decode cL_law 317 = .ok (.iadd, 1) := by decide +kernel
theorem dL_law_318 : decode cL_law 318 = .ok (.iaload, 1) := by decide +kernel
theorem dL_law_319 : decode cL_law 319 = .ok (.aload_n 0, 1) := by decide +kernel
theorem dL_law_320 : decode cL_law 320 = .ok (.iload 5, 2) := by decide +kernel
theorem dL_law_322 : decode cL_law 322 = .ok (.iconst 2, 1) := by decide +kernel
theorem dL_law_323 : decode cL_law 323 = .ok (.iadd, 1) := by decide +kernel
theorem dL_law_324 : decode cL_law 324 = .ok (.iaload, 1) := by decide +kernel
theorem dL_law_325 : decode cL_law 325 = .ok (.aload_n 0, 1) := by decide +kernel
theorem dL_law_326 : decode cL_law 326 = .ok (.iload 5, 2) := by decide +kernel
theorem dL_law_328 : decode cL_law 328 = .ok (.iconst 3, 1) := by decide +kernel
theorem dL_law_329 : decode cL_law 329 = .ok (.iadd, 1) := by decide +kernel
theorem dL_law_330 : decode cL_law 330 = .ok (.iaload, 1) := by decide +kernel
theorem dL_law_331 : decode cL_law 331 = .ok (.ifCond .eq 7, 3) := by decide +kernel
theorem dL_law_334 : decode cL_law 334 = .ok (.iconst 1, 1) := by decide +kernel
theorem dL_law_335 : decode cL_law 335 = .ok (.goto 4, 3) := by decide +kernel
theorem dL_law_338 : decode cL_law 338 = .ok (.iconst 0, 1) := by decide +kernel
theorem dL_law_339 : decode cL_law 339 = .ok (.aload_n 3, 1) := by decide +kernel
theorem dL_law_340 : decode cL_law 340 = .ok (.invokestatic 114, 3) := by decide +kernel
theorem dL_law_343 : decode cL_law 343 = .ok (.istore 6, 2) := by decide +kernel
theorem dL_law_345 : decode cL_law 345 = .ok (.aload_n 2, 1) := by decide +kernel
theorem dL_law_346 : decode cL_law 346 = .ok (.aload_n 0, 1) := by decide +kernel
theorem dL_law_347 : decode cL_law 347 = .ok (.iload 5, 2) := by decide +kernel
theorem dL_law_349 : decode cL_law 349 = .ok (.iconst 1, 1) := by decide +kernel
theorem dL_law_350 : decode cL_law 350 = .ok (.iadd, 1) := by decide +kernel
theorem dL_law_351 : decode cL_law 351 = .ok (.iaload, 1) := by decide +kernel
theorem dL_law_352 : decode cL_law 352 = .ok (.aload_n 0, 1) := by decide +kernel
theorem dL_law_353 : decode cL_law 353 = .ok (.iload 5, 2) := by decide +kernel
theorem dL_law_355 : decode cL_law 355 = .ok (.iconst 2, 1) := by decide +kernel
theorem dL_law_356 : decode cL_law 356 = .ok (.iadd, 1) := by decide +kernel
theorem dL_law_357 : decode cL_law 357 = .ok (.iaload, 1) := by decide +kernel
theorem dL_law_358 : decode cL_law 358 = .ok (.aload_n 0, 1) := by decide +kernel
theorem dL_law_359 : decode cL_law 359 = .ok (.iload 5, 2) := by decide +kernel
theorem dL_law_361 : decode cL_law 361 = .ok (.iconst 3, 1) := by decide +kernel
theorem dL_law_362 : decode cL_law 362 = .ok (.iadd, 1) := by decide +kernel
theorem dL_law_363 : decode cL_law 363 = .ok (.iaload, 1) := by decide +kernel
theorem dL_law_364 : decode cL_law 364 = .ok (.ifCond .eq 7, 3) := by decide +kernel
theorem dL_law_367 : decode cL_law 367 = .ok (.iconst 1, 1) := by decide +kernel
theorem dL_law_368 : decode cL_law 368 = .ok (.goto 4, 3) := by decide +kernel
theorem dL_law_371 : decode cL_law 371 = .ok (.iconst 0, 1) := by decide +kernel
theorem dL_law_372 : decode cL_law 372 = .ok (.invokevirtual 117, 3) := by decide +kernel
theorem dL_law_375 : decode cL_law 375 = .ok (.istore 7, 2) := by decide +kernel
theorem dL_law_377 : decode cL_law 377 = .ok (.aload_n 2, 1) := by decide +kernel
theorem dL_law_378 : decode cL_law 378 = .ok (.invokevirtual 106, 3) := by decide +kernel
theorem dL_law_381 : decode cL_law 381 = .ok (.iload 6, 2) := by decide +kernel
theorem dL_law_383 : decode cL_law 383 = .ok (.if_icmp .eq 5, 3) := by decide +kernel
theorem dL_law_386 : decode cL_law 386 = .ok (.iconst 0, 1) := by decide +kernel
theorem dL_law_387 : decode cL_law 387 = .ok (.ireturn, 1) := by decide +kernel
theorem dL_law_388 : decode cL_law 388 = .ok (.iload 6, 2) := by decide +kernel
theorem dL_law_390 : decode cL_law 390 = .ok (.ifCond .ne 22, 3) := by decide +kernel
theorem dL_law_393 : decode cL_law 393 = .ok (.aload_n 3, 1) := by decide +kernel
theorem dL_law_394 : decode cL_law 394 = .ok (.iconst 0, 1) := by decide +kernel
theorem dL_law_395 : decode cL_law 395 = .ok (.laload, 1) := by decide +kernel
theorem dL_law_396 : decode cL_law 396 = .ok (.iload 7, 2) := by decide +kernel
theorem dL_law_398 : decode cL_law 398 = .ok (.ifCond .eq 7, 3) := by decide +kernel
theorem dL_law_401 : decode cL_law 401 = .ok (.lconst 1, 1) := by decide +kernel
theorem dL_law_402 : decode cL_law 402 = .ok (.goto 4, 3) := by decide +kernel
theorem dL_law_405 : decode cL_law 405 = .ok (.lconst 0, 1) := by decide +kernel
theorem dL_law_406 : decode cL_law 406 = .ok (.lcmp, 1) := by decide +kernel
theorem dL_law_407 : decode cL_law 407 = .ok (.ifCond .eq 5, 3) := by decide +kernel
theorem dL_law_410 : decode cL_law 410 = .ok (.iconst 0, 1) := by decide +kernel
theorem dL_law_411 : decode cL_law 411 = .ok (.ireturn, 1) := by decide +kernel
theorem dL_law_412 : decode cL_law 412 = .ok (.goto 1517, 3) := by decide +kernel
theorem dL_law_415 : decode cL_law 415 = .ok (.aload_n 1, 1) := by decide +kernel
theorem dL_law_416 : decode cL_law 416 = .ok (.aload_n 0, 1) := by decide +kernel
theorem dL_law_417 : decode cL_law 417 = .ok (.iload 5, 2) := by decide +kernel
theorem dL_law_419 : decode cL_law 419 = .ok (.iconst 1, 1) := by decide +kernel
theorem dL_law_420 : decode cL_law 420 = .ok (.iadd, 1) := by decide +kernel
theorem dL_law_421 : decode cL_law 421 = .ok (.iaload, 1) := by decide +kernel
theorem dL_law_422 : decode cL_law 422 = .ok (.aload_n 0, 1) := by decide +kernel
theorem dL_law_423 : decode cL_law 423 = .ok (.iload 5, 2) := by decide +kernel
theorem dL_law_425 : decode cL_law 425 = .ok (.iconst 2, 1) := by decide +kernel
theorem dL_law_426 : decode cL_law 426 = .ok (.iadd, 1) := by decide +kernel
theorem dL_law_427 : decode cL_law 427 = .ok (.iaload, 1) := by decide +kernel
theorem dL_law_428 : decode cL_law 428 = .ok (.aload_n 0, 1) := by decide +kernel
theorem dL_law_429 : decode cL_law 429 = .ok (.iload 5, 2) := by decide +kernel
theorem dL_law_431 : decode cL_law 431 = .ok (.iconst 3, 1) := by decide +kernel
theorem dL_law_432 : decode cL_law 432 = .ok (.iadd, 1) := by decide +kernel
theorem dL_law_433 : decode cL_law 433 = .ok (.iaload, 1) := by decide +kernel
theorem dL_law_434 : decode cL_law 434 = .ok (.ifCond .eq 7, 3) := by decide +kernel
theorem dL_law_437 : decode cL_law 437 = .ok (.iconst 1, 1) := by decide +kernel
theorem dL_law_438 : decode cL_law 438 = .ok (.goto 4, 3) := by decide +kernel
theorem dL_law_441 : decode cL_law 441 = .ok (.iconst 0, 1) := by decide +kernel
theorem dL_law_442 : decode cL_law 442 = .ok (.aload_n 0, 1) := by decide +kernel
theorem dL_law_443 : decode cL_law 443 = .ok (.iload 5, 2) := by decide +kernel
theorem dL_law_445 : decode cL_law 445 = .ok (.iconst 4, 1) := by decide +kernel
theorem dL_law_446 : decode cL_law 446 = .ok (.iadd, 1) := by decide +kernel
theorem dL_law_447 : decode cL_law 447 = .ok (.iaload, 1) := by decide +kernel
theorem dL_law_448 : decode cL_law 448 = .ok (.aload_n 3, 1) := by decide +kernel
theorem dL_law_449 : decode cL_law 449 = .ok (.invokestatic 118, 3) := by decide +kernel
theorem dL_law_452 : decode cL_law 452 = .ok (.istore 6, 2) := by decide +kernel
theorem dL_law_454 : decode cL_law 454 = .ok (.aload_n 2, 1) := by decide +kernel
theorem dL_law_455 : decode cL_law 455 = .ok (.aload_n 0, 1) := by decide +kernel
theorem dL_law_456 : decode cL_law 456 = .ok (.iload 5, 2) := by decide +kernel
theorem dL_law_458 : decode cL_law 458 = .ok (.iconst 1, 1) := by decide +kernel
theorem dL_law_459 : decode cL_law 459 = .ok (.iadd, 1) := by decide +kernel
theorem dL_law_460 : decode cL_law 460 = .ok (.iaload, 1) := by decide +kernel
theorem dL_law_461 : decode cL_law 461 = .ok (.aload_n 0, 1) := by decide +kernel
theorem dL_law_462 : decode cL_law 462 = .ok (.iload 5, 2) := by decide +kernel
theorem dL_law_464 : decode cL_law 464 = .ok (.iconst 2, 1) := by decide +kernel
theorem dL_law_465 : decode cL_law 465 = .ok (.iadd, 1) := by decide +kernel
theorem dL_law_466 : decode cL_law 466 = .ok (.iaload, 1) := by decide +kernel
theorem dL_law_467 : decode cL_law 467 = .ok (.aload_n 0, 1) := by decide +kernel
theorem dL_law_468 : decode cL_law 468 = .ok (.iload 5, 2) := by decide +kernel
theorem dL_law_470 : decode cL_law 470 = .ok (.iconst 3, 1) := by decide +kernel
theorem dL_law_471 : decode cL_law 471 = .ok (.iadd, 1) := by decide +kernel
theorem dL_law_472 : decode cL_law 472 = .ok (.iaload, 1) := by decide +kernel
theorem dL_law_473 : decode cL_law 473 = .ok (.ifCond .eq 7, 3) := by decide +kernel
theorem dL_law_476 : decode cL_law 476 = .ok (.iconst 1, 1) := by decide +kernel
theorem dL_law_477 : decode cL_law 477 = .ok (.goto 4, 3) := by decide +kernel
theorem dL_law_480 : decode cL_law 480 = .ok (.iconst 0, 1) := by decide +kernel
theorem dL_law_481 : decode cL_law 481 = .ok (.aload_n 0, 1) := by decide +kernel
theorem dL_law_482 : decode cL_law 482 = .ok (.iload 5, 2) := by decide +kernel
theorem dL_law_484 : decode cL_law 484 = .ok (.iconst 4, 1) := by decide +kernel
theorem dL_law_485 : decode cL_law 485 = .ok (.iadd, 1) := by decide +kernel
theorem dL_law_486 : decode cL_law 486 = .ok (.iaload, 1) := by decide +kernel
theorem dL_law_487 : decode cL_law 487 = .ok (.invokevirtual 121, 3) := by decide +kernel
theorem dL_law_490 : decode cL_law 490 = .ok (.istore 7, 2) := by decide +kernel
theorem dL_law_492 : decode cL_law 492 = .ok (.aload_n 2, 1) := by decide +kernel
theorem dL_law_493 : decode cL_law 493 = .ok (.invokevirtual 106, 3) := by decide +kernel
theorem dL_law_496 : decode cL_law 496 = .ok (.iload 6, 2) := by decide +kernel
theorem dL_law_498 : decode cL_law 498 = .ok (.if_icmp .eq 5, 3) := by decide +kernel
theorem dL_law_501 : decode cL_law 501 = .ok (.iconst 0, 1) := by decide +kernel
theorem dL_law_502 : decode cL_law 502 = .ok (.ireturn, 1) := by decide +kernel
theorem dL_law_503 : decode cL_law 503 = .ok (.iload 6, 2) := by decide +kernel
theorem dL_law_505 : decode cL_law 505 = .ok (.ifCond .ne 22, 3) := by decide +kernel
theorem dL_law_508 : decode cL_law 508 = .ok (.aload_n 3, 1) := by decide +kernel
theorem dL_law_509 : decode cL_law 509 = .ok (.iconst 0, 1) := by decide +kernel
theorem dL_law_510 : decode cL_law 510 = .ok (.laload, 1) := by decide +kernel
theorem dL_law_511 : decode cL_law 511 = .ok (.iload 7, 2) := by decide +kernel
theorem dL_law_513 : decode cL_law 513 = .ok (.ifCond .eq 7, 3) := by decide +kernel
theorem dL_law_516 : decode cL_law 516 = .ok (.lconst 1, 1) := by decide +kernel
theorem dL_law_517 : decode cL_law 517 = .ok (.goto 4, 3) := by decide +kernel
theorem dL_law_520 : decode cL_law 520 = .ok (.lconst 0, 1) := by decide +kernel
theorem dL_law_521 : decode cL_law 521 = .ok (.lcmp, 1) := by decide +kernel
theorem dL_law_522 : decode cL_law 522 = .ok (.ifCond .eq 5, 3) := by decide +kernel
theorem dL_law_525 : decode cL_law 525 = .ok (.iconst 0, 1) := by decide +kernel
theorem dL_law_526 : decode cL_law 526 = .ok (.ireturn, 1) := by decide +kernel
theorem dL_law_527 : decode cL_law 527 = .ok (.goto 1402, 3) := by decide +kernel
theorem dL_law_530 : decode cL_law 530 = .ok (.aload_n 1, 1) := by decide +kernel
theorem dL_law_531 : decode cL_law 531 = .ok (.aload_n 0, 1) := by decide +kernel
theorem dL_law_532 : decode cL_law 532 = .ok (.iload 5, 2) := by decide +kernel
theorem dL_law_534 : decode cL_law 534 = .ok (.iconst 1, 1) := by decide +kernel
theorem dL_law_535 : decode cL_law 535 = .ok (.iadd, 1) := by decide +kernel
theorem dL_law_536 : decode cL_law 536 = .ok (.iaload, 1) := by decide +kernel
theorem dL_law_537 : decode cL_law 537 = .ok (.aload_n 3, 1) := by decide +kernel
theorem dL_law_538 : decode cL_law 538 = .ok (.invokestatic 122, 3) := by decide +kernel
theorem dL_law_541 : decode cL_law 541 = .ok (.istore 6, 2) := by decide +kernel
theorem dL_law_543 : decode cL_law 543 = .ok (.aload_n 2, 1) := by decide +kernel
theorem dL_law_544 : decode cL_law 544 = .ok (.aload_n 0, 1) := by decide +kernel
theorem dL_law_545 : decode cL_law 545 = .ok (.iload 5, 2) := by decide +kernel
theorem dL_law_547 : decode cL_law 547 = .ok (.iconst 1, 1) := by decide +kernel
theorem dL_law_548 : decode cL_law 548 = .ok (.iadd, 1) := by decide +kernel
theorem dL_law_549 : decode cL_law 549 = .ok (.iaload, 1) := by decide +kernel
theorem dL_law_550 : decode cL_law 550 = .ok (.invokevirtual 125, 3) := by decide +kernel
theorem dL_law_553 : decode cL_law 553 = .ok (.istore 7, 2) := by decide +kernel
theorem dL_law_555 : decode cL_law 555 = .ok (.aload_n 2, 1) := by decide +kernel
theorem dL_law_556 : decode cL_law 556 = .ok (.invokevirtual 106, 3) := by decide +kernel
theorem dL_law_559 : decode cL_law 559 = .ok (.iload 6, 2) := by decide +kernel
theorem dL_law_561 : decode cL_law 561 = .ok (.if_icmp .eq 5, 3) := by decide +kernel
theorem dL_law_564 : decode cL_law 564 = .ok (.iconst 0, 1) := by decide +kernel
theorem dL_law_565 : decode cL_law 565 = .ok (.ireturn, 1) := by decide +kernel
theorem dL_law_566 : decode cL_law 566 = .ok (.iload 6, 2) := by decide +kernel
theorem dL_law_568 : decode cL_law 568 = .ok (.ifCond .ne 15, 3) := by decide +kernel
theorem dL_law_571 : decode cL_law 571 = .ok (.aload_n 3, 1) := by decide +kernel
theorem dL_law_572 : decode cL_law 572 = .ok (.iconst 0, 1) := by decide +kernel
theorem dL_law_573 : decode cL_law 573 = .ok (.laload, 1) := by decide +kernel
theorem dL_law_574 : decode cL_law 574 = .ok (.iload 7, 2) := by decide +kernel
theorem dL_law_576 : decode cL_law 576 = .ok (.i2l, 1) := by decide +kernel
theorem dL_law_577 : decode cL_law 577 = .ok (.lcmp, 1) := by decide +kernel
theorem dL_law_578 : decode cL_law 578 = .ok (.ifCond .eq 5, 3) := by decide +kernel
theorem dL_law_581 : decode cL_law 581 = .ok (.iconst 0, 1) := by decide +kernel
theorem dL_law_582 : decode cL_law 582 = .ok (.ireturn, 1) := by decide +kernel
theorem dL_law_583 : decode cL_law 583 = .ok (.goto 1346, 3) := by decide +kernel
theorem dL_law_586 : decode cL_law 586 = .ok (.aload_n 1, 1) := by decide +kernel
theorem dL_law_587 : decode cL_law 587 = .ok (.invokevirtual 126, 3) := by decide +kernel
theorem dL_law_590 : decode cL_law 590 = .ok (.aload_n 2, 1) := by decide +kernel
theorem dL_law_591 : decode cL_law 591 = .ok (.invokevirtual 129, 3) := by decide +kernel
theorem dL_law_594 : decode cL_law 594 = .ok (.if_icmp .eq 1335, 3) := by decide +kernel
theorem dL_law_597 : decode cL_law 597 = .ok (.iconst 0, 1) := by decide +kernel
theorem dL_law_598 : decode cL_law 598 = .ok (.ireturn, 1) := by decide +kernel
theorem dL_law_599 : decode cL_law 599 = .ok (.aload_n 1, 1) := by decide +kernel
theorem dL_law_600 : decode cL_law 600 = .ok (.invokevirtual 130, 3) := by decide +kernel
theorem dL_law_603 : decode cL_law 603 = .ok (.aload_n 2, 1) := by decide +kernel
theorem dL_law_604 : decode cL_law 604 = .ok (.invokevirtual 133, 3) := by decide +kernel
theorem dL_law_607 : decode cL_law 607 = .ok (.if_icmp .eq 1322, 3) := by decide +kernel
theorem dL_law_610 : decode cL_law 610 = .ok (.iconst 0, 1) := by decide +kernel
theorem dL_law_611 : decode cL_law 611 = .ok (.ireturn, 1) := by decide +kernel
theorem dL_law_612 : decode cL_law 612 = .ok (.aload_n 1, 1) := by decide +kernel
theorem dL_law_613 : decode cL_law 613 = .ok (.aload_n 0, 1) := by decide +kernel
theorem dL_law_614 : decode cL_law 614 = .ok (.iload 5, 2) := by decide +kernel
theorem dL_law_616 : decode cL_law 616 = .ok (.iconst 1, 1) := by decide +kernel
theorem dL_law_617 : decode cL_law 617 = .ok (.iadd, 1) := by decide +kernel
theorem dL_law_618 : decode cL_law 618 = .ok (.iaload, 1) := by decide +kernel
theorem dL_law_619 : decode cL_law 619 = .ok (.aload_n 3, 1) := by decide +kernel
theorem dL_law_620 : decode cL_law 620 = .ok (.invokestatic 134, 3) := by decide +kernel
theorem dL_law_623 : decode cL_law 623 = .ok (.istore 6, 2) := by decide +kernel
theorem dL_law_625 : decode cL_law 625 = .ok (.aload_n 2, 1) := by decide +kernel
theorem dL_law_626 : decode cL_law 626 = .ok (.aload_n 0, 1) := by decide +kernel
theorem dL_law_627 : decode cL_law 627 = .ok (.iload 5, 2) := by decide +kernel
theorem dL_law_629 : decode cL_law 629 = .ok (.iconst 1, 1) := by decide +kernel
theorem dL_law_630 : decode cL_law 630 = .ok (.iadd, 1) := by decide +kernel
theorem dL_law_631 : decode cL_law 631 = .ok (.iaload, 1) := by decide +kernel
theorem dL_law_632 : decode cL_law 632 = .ok (.invokevirtual 136, 3) := by decide +kernel
theorem dL_law_635 : decode cL_law 635 = .ok (.istore 7, 2) := by decide +kernel
theorem dL_law_637 : decode cL_law 637 = .ok (.aload_n 2, 1) := by decide +kernel
theorem dL_law_638 : decode cL_law 638 = .ok (.invokevirtual 106, 3) := by decide +kernel
theorem dL_law_641 : decode cL_law 641 = .ok (.iload 6, 2) := by decide +kernel
theorem dL_law_643 : decode cL_law 643 = .ok (.if_icmp .eq 5, 3) := by decide +kernel
theorem dL_law_646 : decode cL_law 646 = .ok (.iconst 0, 1) := by decide +kernel
theorem dL_law_647 : decode cL_law 647 = .ok (.ireturn, 1) := by decide +kernel
theorem dL_law_648 : decode cL_law 648 = .ok (.iload 6, 2) := by decide +kernel
theorem dL_law_650 : decode cL_law 650 = .ok (.ifCond .ne 15, 3) := by decide +kernel
theorem dL_law_653 : decode cL_law 653 = .ok (.aload_n 3, 1) := by decide +kernel
theorem dL_law_654 : decode cL_law 654 = .ok (.iconst 0, 1) := by decide +kernel
theorem dL_law_655 : decode cL_law 655 = .ok (.laload, 1) := by decide +kernel
theorem dL_law_656 : decode cL_law 656 = .ok (.iload 7, 2) := by decide +kernel
theorem dL_law_658 : decode cL_law 658 = .ok (.i2l, 1) := by decide +kernel
theorem dL_law_659 : decode cL_law 659 = .ok (.lcmp, 1) := by decide +kernel
theorem dL_law_660 : decode cL_law 660 = .ok (.ifCond .eq 5, 3) := by decide +kernel
theorem dL_law_663 : decode cL_law 663 = .ok (.iconst 0, 1) := by decide +kernel
theorem dL_law_664 : decode cL_law 664 = .ok (.ireturn, 1) := by decide +kernel
theorem dL_law_665 : decode cL_law 665 = .ok (.goto 1264, 3) := by decide +kernel
theorem dL_law_668 : decode cL_law 668 = .ok (.aload_n 1, 1) := by decide +kernel
theorem dL_law_669 : decode cL_law 669 = .ok (.aload_n 0, 1) := by decide +kernel
theorem dL_law_670 : decode cL_law 670 = .ok (.iload 5, 2) := by decide +kernel
theorem dL_law_672 : decode cL_law 672 = .ok (.iconst 1, 1) := by decide +kernel
theorem dL_law_673 : decode cL_law 673 = .ok (.iadd, 1) := by decide +kernel
theorem dL_law_674 : decode cL_law 674 = .ok (.iaload, 1) := by decide +kernel
theorem dL_law_675 : decode cL_law 675 = .ok (.aload_n 3, 1) := by decide +kernel
theorem dL_law_676 : decode cL_law 676 = .ok (.invokestatic 137, 3) := by decide +kernel
theorem dL_law_679 : decode cL_law 679 = .ok (.istore 6, 2) := by decide +kernel
theorem dL_law_681 : decode cL_law 681 = .ok (.aload_n 2, 1) := by decide +kernel
theorem dL_law_682 : decode cL_law 682 = .ok (.aload_n 0, 1) := by decide +kernel
theorem dL_law_683 : decode cL_law 683 = .ok (.iload 5, 2) := by decide +kernel
theorem dL_law_685 : decode cL_law 685 = .ok (.iconst 1, 1) := by decide +kernel
theorem dL_law_686 : decode cL_law 686 = .ok (.iadd, 1) := by decide +kernel
theorem dL_law_687 : decode cL_law 687 = .ok (.iaload, 1) := by decide +kernel
theorem dL_law_688 : decode cL_law 688 = .ok (.invokevirtual 139, 3) := by decide +kernel
theorem dL_law_691 : decode cL_law 691 = .ok (.istore 7, 2) := by decide +kernel
theorem dL_law_693 : decode cL_law 693 = .ok (.aload_n 2, 1) := by decide +kernel
theorem dL_law_694 : decode cL_law 694 = .ok (.invokevirtual 106, 3) := by decide +kernel
theorem dL_law_697 : decode cL_law 697 = .ok (.iload 6, 2) := by decide +kernel
theorem dL_law_699 : decode cL_law 699 = .ok (.if_icmp .eq 5, 3) := by decide +kernel
theorem dL_law_702 : decode cL_law 702 = .ok (.iconst 0, 1) := by decide +kernel
theorem dL_law_703 : decode cL_law 703 = .ok (.ireturn, 1) := by decide +kernel
theorem dL_law_704 : decode cL_law 704 = .ok (.iload 6, 2) := by decide +kernel
theorem dL_law_706 : decode cL_law 706 = .ok (.ifCond .ne 15, 3) := by decide +kernel
theorem dL_law_709 : decode cL_law 709 = .ok (.aload_n 3, 1) := by decide +kernel
theorem dL_law_710 : decode cL_law 710 = .ok (.iconst 0, 1) := by decide +kernel
theorem dL_law_711 : decode cL_law 711 = .ok (.laload, 1) := by decide +kernel
theorem dL_law_712 : decode cL_law 712 = .ok (.iload 7, 2) := by decide +kernel
theorem dL_law_714 : decode cL_law 714 = .ok (.i2l, 1) := by decide +kernel
theorem dL_law_715 : decode cL_law 715 = .ok (.lcmp, 1) := by decide +kernel
theorem dL_law_716 : decode cL_law 716 = .ok (.ifCond .eq 5, 3) := by decide +kernel
theorem dL_law_719 : decode cL_law 719 = .ok (.iconst 0, 1) := by decide +kernel
theorem dL_law_720 : decode cL_law 720 = .ok (.ireturn, 1) := by decide +kernel
theorem dL_law_721 : decode cL_law 721 = .ok (.goto 1208, 3) := by decide +kernel
theorem dL_law_724 : decode cL_law 724 = .ok (.aload_n 1, 1) := by decide +kernel
theorem dL_law_725 : decode cL_law 725 = .ok (.aload_n 0, 1) := by decide +kernel
theorem dL_law_726 : decode cL_law 726 = .ok (.iload 5, 2) := by decide +kernel
theorem dL_law_728 : decode cL_law 728 = .ok (.iconst 1, 1) := by decide +kernel
theorem dL_law_729 : decode cL_law 729 = .ok (.iadd, 1) := by decide +kernel
theorem dL_law_730 : decode cL_law 730 = .ok (.iaload, 1) := by decide +kernel
theorem dL_law_731 : decode cL_law 731 = .ok (.aload_n 0, 1) := by decide +kernel
theorem dL_law_732 : decode cL_law 732 = .ok (.iload 5, 2) := by decide +kernel
theorem dL_law_734 : decode cL_law 734 = .ok (.iconst 2, 1) := by decide +kernel
theorem dL_law_735 : decode cL_law 735 = .ok (.iadd, 1) := by decide +kernel
theorem dL_law_736 : decode cL_law 736 = .ok (.iaload, 1) := by decide +kernel
theorem dL_law_737 : decode cL_law 737 = .ok (.aload 4, 2) := by decide +kernel
theorem dL_law_739 : decode cL_law 739 = .ok (.invokestatic 140, 3) := by decide +kernel
theorem dL_law_742 : decode cL_law 742 = .ok (.istore 6, 2) := by decide +kernel
theorem dL_law_744 : decode cL_law 744 = .ok (.aload_n 2, 1) := by decide +kernel
theorem dL_law_745 : decode cL_law 745 = .ok (.aload_n 0, 1) := by decide +kernel
theorem dL_law_746 : decode cL_law 746 = .ok (.iload 5, 2) := by decide +kernel
theorem dL_law_748 : decode cL_law 748 = .ok (.iconst 1, 1) := by decide +kernel
theorem dL_law_749 : decode cL_law 749 = .ok (.iadd, 1) := by decide +kernel
theorem dL_law_750 : decode cL_law 750 = .ok (.iaload, 1) := by decide +kernel
theorem dL_law_751 : decode cL_law 751 = .ok (.aload_n 0, 1) := by decide +kernel
theorem dL_law_752 : decode cL_law 752 = .ok (.iload 5, 2) := by decide +kernel
theorem dL_law_754 : decode cL_law 754 = .ok (.iconst 2, 1) := by decide +kernel
theorem dL_law_755 : decode cL_law 755 = .ok (.iadd, 1) := by decide +kernel
theorem dL_law_756 : decode cL_law 756 = .ok (.iaload, 1) := by decide +kernel
theorem dL_law_757 : decode cL_law 757 = .ok (.invokevirtual 143, 3) := by decide +kernel
theorem dL_law_760 : decode cL_law 760 = .ok (.fstore 7, 2) := by decide +kernel
theorem dL_law_762 : decode cL_law 762 = .ok (.aload_n 2, 1) := by decide +kernel
theorem dL_law_763 : decode cL_law 763 = .ok (.invokevirtual 106, 3) := by decide +kernel
theorem dL_law_766 : decode cL_law 766 = .ok (.iload 6, 2) := by decide +kernel
theorem dL_law_768 : decode cL_law 768 = .ok (.if_icmp .eq 5, 3) := by decide +kernel
theorem dL_law_771 : decode cL_law 771 = .ok (.iconst 0, 1) := by decide +kernel
theorem dL_law_772 : decode cL_law 772 = .ok (.ireturn, 1) := by decide +kernel
theorem dL_law_773 : decode cL_law 773 = .ok (.iload 6, 2) := by decide +kernel
theorem dL_law_775 : decode cL_law 775 = .ok (.ifCond .ne 36, 3) := by decide +kernel
theorem dL_law_778 : decode cL_law 778 = .ok (.aload 4, 2) := by decide +kernel
theorem dL_law_780 : decode cL_law 780 = .ok (.iconst 0, 1) := by decide +kernel
theorem dL_law_781 : decode cL_law 781 = .ok (.daload, 1) := by decide +kernel
theorem dL_law_782 : decode cL_law 782 = .ok (.fload 7, 2) := by decide +kernel
theorem dL_law_784 : decode cL_law 784 = .ok (.f2d, 1) := by decide +kernel
theorem dL_law_785 : decode cL_law 785 = .ok (.dcmp .l, 1) := by decide +kernel
theorem dL_law_786 : decode cL_law 786 = .ok (.ifCond .eq 25, 3) := by decide +kernel
theorem dL_law_789 : decode cL_law 789 = .ok (.aload 4, 2) := by decide +kernel
theorem dL_law_791 : decode cL_law 791 = .ok (.iconst 0, 1) := by decide +kernel
theorem dL_law_792 : decode cL_law 792 = .ok (.daload, 1) := by decide +kernel
theorem dL_law_793 : decode cL_law 793 = .ok (.aload 4, 2) := by decide +kernel
theorem dL_law_795 : decode cL_law 795 = .ok (.iconst 0, 1) := by decide +kernel
theorem dL_law_796 : decode cL_law 796 = .ok (.daload, 1) := by decide +kernel
theorem dL_law_797 : decode cL_law 797 = .ok (.dcmp .l, 1) := by decide +kernel
theorem dL_law_798 : decode cL_law 798 = .ok (.ifCond .eq 11, 3) := by decide +kernel
theorem dL_law_801 : decode cL_law 801 = .ok (.fload 7, 2) := by decide +kernel
theorem dL_law_803 : decode cL_law 803 = .ok (.fload 7, 2) := by decide +kernel
theorem dL_law_805 : decode cL_law 805 = .ok (.fcmp .l, 1) := by decide +kernel
theorem dL_law_806 : decode cL_law 806 = .ok (.ifCond .ne 5, 3) := by decide +kernel
theorem dL_law_809 : decode cL_law 809 = .ok (.iconst 0, 1) := by decide +kernel
theorem dL_law_810 : decode cL_law 810 = .ok (.ireturn, 1) := by decide +kernel
theorem dL_law_811 : decode cL_law 811 = .ok (.goto 1118, 3) := by decide +kernel
theorem dL_law_814 : decode cL_law 814 = .ok (.aload_n 1, 1) := by decide +kernel
theorem dL_law_815 : decode cL_law 815 = .ok (.aload_n 0, 1) := by decide +kernel
theorem dL_law_816 : decode cL_law 816 = .ok (.iload 5, 2) := by decide +kernel
theorem dL_law_818 : decode cL_law 818 = .ok (.iconst 1, 1) := by decide +kernel
theorem dL_law_819 : decode cL_law 819 = .ok (.iadd, 1) := by decide +kernel
theorem dL_law_820 : decode cL_law 820 = .ok (.iaload, 1) := by decide +kernel
theorem dL_law_821 : decode cL_law 821 = .ok (.aload_n 3, 1) := by decide +kernel
theorem dL_law_822 : decode cL_law 822 = .ok (.invokestatic 144, 3) := by decide +kernel
theorem dL_law_825 : decode cL_law 825 = .ok (.istore 6, 2) := by decide +kernel
theorem dL_law_827 : decode cL_law 827 = .ok (.aload_n 2, 1) := by decide +kernel
theorem dL_law_828 : decode cL_law 828 = .ok (.aload_n 0, 1) := by decide +kernel
theorem dL_law_829 : decode cL_law 829 = .ok (.iload 5, 2) := by decide +kernel
theorem dL_law_831 : decode cL_law 831 = .ok (.iconst 1, 1) := by decide +kernel
theorem dL_law_832 : decode cL_law 832 = .ok (.iadd, 1) := by decide +kernel
theorem dL_law_833 : decode cL_law 833 = .ok (.iaload, 1) := by decide +kernel
theorem dL_law_834 : decode cL_law 834 = .ok (.invokevirtual 146, 3) := by decide +kernel
theorem dL_law_837 : decode cL_law 837 = .ok (.istore 7, 2) := by decide +kernel
theorem dL_law_839 : decode cL_law 839 = .ok (.aload_n 2, 1) := by decide +kernel
theorem dL_law_840 : decode cL_law 840 = .ok (.invokevirtual 106, 3) := by decide +kernel
theorem dL_law_843 : decode cL_law 843 = .ok (.iload 6, 2) := by decide +kernel
theorem dL_law_845 : decode cL_law 845 = .ok (.if_icmp .eq 5, 3) := by decide +kernel
theorem dL_law_848 : decode cL_law 848 = .ok (.iconst 0, 1) := by decide +kernel
theorem dL_law_849 : decode cL_law 849 = .ok (.ireturn, 1) := by decide +kernel
theorem dL_law_850 : decode cL_law 850 = .ok (.iload 6, 2) := by decide +kernel
theorem dL_law_852 : decode cL_law 852 = .ok (.ifCond .ne 22, 3) := by decide +kernel
theorem dL_law_855 : decode cL_law 855 = .ok (.aload_n 3, 1) := by decide +kernel
theorem dL_law_856 : decode cL_law 856 = .ok (.iconst 0, 1) := by decide +kernel
theorem dL_law_857 : decode cL_law 857 = .ok (.laload, 1) := by decide +kernel
theorem dL_law_858 : decode cL_law 858 = .ok (.iload 7, 2) := by decide +kernel
theorem dL_law_860 : decode cL_law 860 = .ok (.ifCond .eq 7, 3) := by decide +kernel
theorem dL_law_863 : decode cL_law 863 = .ok (.lconst 1, 1) := by decide +kernel
theorem dL_law_864 : decode cL_law 864 = .ok (.goto 4, 3) := by decide +kernel
theorem dL_law_867 : decode cL_law 867 = .ok (.lconst 0, 1) := by decide +kernel
theorem dL_law_868 : decode cL_law 868 = .ok (.lcmp, 1) := by decide +kernel
theorem dL_law_869 : decode cL_law 869 = .ok (.ifCond .eq 5, 3) := by decide +kernel
theorem dL_law_872 : decode cL_law 872 = .ok (.iconst 0, 1) := by decide +kernel
theorem dL_law_873 : decode cL_law 873 = .ok (.ireturn, 1) := by decide +kernel
theorem dL_law_874 : decode cL_law 874 = .ok (.goto 1055, 3) := by decide +kernel
theorem dL_law_877 : decode cL_law 877 = .ok (.aload_n 1, 1) := by decide +kernel
theorem dL_law_878 : decode cL_law 878 = .ok (.aload_n 0, 1) := by decide +kernel
theorem dL_law_879 : decode cL_law 879 = .ok (.iload 5, 2) := by decide +kernel
theorem dL_law_881 : decode cL_law 881 = .ok (.iconst 1, 1) := by decide +kernel
theorem dL_law_882 : decode cL_law 882 = .ok (.iadd, 1) := by decide +kernel
theorem dL_law_883 : decode cL_law 883 = .ok (.iaload, 1) := by decide +kernel
theorem dL_law_884 : decode cL_law 884 = .ok (.aload_n 0, 1) := by decide +kernel
theorem dL_law_885 : decode cL_law 885 = .ok (.iload 5, 2) := by decide +kernel
theorem dL_law_887 : decode cL_law 887 = .ok (.iconst 2, 1) := by decide +kernel
theorem dL_law_888 : decode cL_law 888 = .ok (.iadd, 1) := by decide +kernel
theorem dL_law_889 : decode cL_law 889 = .ok (.iaload, 1) := by decide +kernel
theorem dL_law_890 : decode cL_law 890 = .ok (.aload_n 3, 1) := by decide +kernel
theorem dL_law_891 : decode cL_law 891 = .ok (.invokestatic 147, 3) := by decide +kernel
theorem dL_law_894 : decode cL_law 894 = .ok (.istore 6, 2) := by decide +kernel
theorem dL_law_896 : decode cL_law 896 = .ok (.aload_n 2, 1) := by decide +kernel
theorem dL_law_897 : decode cL_law 897 = .ok (.aload_n 0, 1) := by decide +kernel
theorem dL_law_898 : decode cL_law 898 = .ok (.iload 5, 2) := by decide +kernel
theorem dL_law_900 : decode cL_law 900 = .ok (.iconst 1, 1) := by decide +kernel
theorem dL_law_901 : decode cL_law 901 = .ok (.iadd, 1) := by decide +kernel
theorem dL_law_902 : decode cL_law 902 = .ok (.iaload, 1) := by decide +kernel
theorem dL_law_903 : decode cL_law 903 = .ok (.aload_n 0, 1) := by decide +kernel
theorem dL_law_904 : decode cL_law 904 = .ok (.iload 5, 2) := by decide +kernel
theorem dL_law_906 : decode cL_law 906 = .ok (.iconst 2, 1) := by decide +kernel
theorem dL_law_907 : decode cL_law 907 = .ok (.iadd, 1) := by decide +kernel
theorem dL_law_908 : decode cL_law 908 = .ok (.iaload, 1) := by decide +kernel
theorem dL_law_909 : decode cL_law 909 = .ok (.invokevirtual 149, 3) := by decide +kernel
theorem dL_law_912 : decode cL_law 912 = .ok (.istore 7, 2) := by decide +kernel
theorem dL_law_914 : decode cL_law 914 = .ok (.aload_n 2, 1) := by decide +kernel
theorem dL_law_915 : decode cL_law 915 = .ok (.invokevirtual 106, 3) := by decide +kernel
theorem dL_law_918 : decode cL_law 918 = .ok (.iload 6, 2) := by decide +kernel
theorem dL_law_920 : decode cL_law 920 = .ok (.if_icmp .eq 5, 3) := by decide +kernel
theorem dL_law_923 : decode cL_law 923 = .ok (.iconst 0, 1) := by decide +kernel
theorem dL_law_924 : decode cL_law 924 = .ok (.ireturn, 1) := by decide +kernel
theorem dL_law_925 : decode cL_law 925 = .ok (.iload 6, 2) := by decide +kernel
theorem dL_law_927 : decode cL_law 927 = .ok (.ifCond .ne 15, 3) := by decide +kernel
theorem dL_law_930 : decode cL_law 930 = .ok (.aload_n 3, 1) := by decide +kernel
theorem dL_law_931 : decode cL_law 931 = .ok (.iconst 0, 1) := by decide +kernel
theorem dL_law_932 : decode cL_law 932 = .ok (.laload, 1) := by decide +kernel
theorem dL_law_933 : decode cL_law 933 = .ok (.iload 7, 2) := by decide +kernel
theorem dL_law_935 : decode cL_law 935 = .ok (.i2l, 1) := by decide +kernel
theorem dL_law_936 : decode cL_law 936 = .ok (.lcmp, 1) := by decide +kernel
theorem dL_law_937 : decode cL_law 937 = .ok (.ifCond .eq 5, 3) := by decide +kernel
theorem dL_law_940 : decode cL_law 940 = .ok (.iconst 0, 1) := by decide +kernel
theorem dL_law_941 : decode cL_law 941 = .ok (.ireturn, 1) := by decide +kernel
theorem dL_law_942 : decode cL_law 942 = .ok (.goto 987, 3) := by decide +kernel
theorem dL_law_945 : decode cL_law 945 = .ok (.aload_n 1, 1) := by decide +kernel
theorem dL_law_946 : decode cL_law 946 = .ok (.aload_n 0, 1) := by decide +kernel
theorem dL_law_947 : decode cL_law 947 = .ok (.iload 5, 2) := by decide +kernel
theorem dL_law_949 : decode cL_law 949 = .ok (.iconst 1, 1) := by decide +kernel
theorem dL_law_950 : decode cL_law 950 = .ok (.iadd, 1) := by decide +kernel
theorem dL_law_951 : decode cL_law 951 = .ok (.iaload, 1) := by decide +kernel
theorem dL_law_952 : decode cL_law 952 = .ok (.aload_n 0, 1) := by decide +kernel
theorem dL_law_953 : decode cL_law 953 = .ok (.iload 5, 2) := by decide +kernel
theorem dL_law_955 : decode cL_law 955 = .ok (.iconst 2, 1) := by decide +kernel
theorem dL_law_956 : decode cL_law 956 = .ok (.iadd, 1) := by decide +kernel
theorem dL_law_957 : decode cL_law 957 = .ok (.iaload, 1) := by decide +kernel
theorem dL_law_958 : decode cL_law 958 = .ok (.aload_n 0, 1) := by decide +kernel
theorem dL_law_959 : decode cL_law 959 = .ok (.iload 5, 2) := by decide +kernel
theorem dL_law_961 : decode cL_law 961 = .ok (.iconst 3, 1) := by decide +kernel
theorem dL_law_962 : decode cL_law 962 = .ok (.iadd, 1) := by decide +kernel
theorem dL_law_963 : decode cL_law 963 = .ok (.iaload, 1) := by decide +kernel
theorem dL_law_964 : decode cL_law 964 = .ok (.aload_n 3, 1) := by decide +kernel
theorem dL_law_965 : decode cL_law 965 = .ok (.invokestatic 150, 3) := by decide +kernel
theorem dL_law_968 : decode cL_law 968 = .ok (.istore 6, 2) := by decide +kernel
theorem dL_law_970 : decode cL_law 970 = .ok (.aload_n 2, 1) := by decide +kernel
theorem dL_law_971 : decode cL_law 971 = .ok (.aload_n 0, 1) := by decide +kernel
theorem dL_law_972 : decode cL_law 972 = .ok (.iload 5, 2) := by decide +kernel
theorem dL_law_974 : decode cL_law 974 = .ok (.iconst 1, 1) := by decide +kernel
theorem dL_law_975 : decode cL_law 975 = .ok (.iadd, 1) := by decide +kernel
theorem dL_law_976 : decode cL_law 976 = .ok (.iaload, 1) := by decide +kernel
theorem dL_law_977 : decode cL_law 977 = .ok (.aload_n 0, 1) := by decide +kernel
theorem dL_law_978 : decode cL_law 978 = .ok (.iload 5, 2) := by decide +kernel
theorem dL_law_980 : decode cL_law 980 = .ok (.iconst 2, 1) := by decide +kernel
theorem dL_law_981 : decode cL_law 981 = .ok (.iadd, 1) := by decide +kernel
theorem dL_law_982 : decode cL_law 982 = .ok (.iaload, 1) := by decide +kernel
theorem dL_law_983 : decode cL_law 983 = .ok (.aload_n 0, 1) := by decide +kernel
theorem dL_law_984 : decode cL_law 984 = .ok (.iload 5, 2) := by decide +kernel
theorem dL_law_986 : decode cL_law 986 = .ok (.iconst 3, 1) := by decide +kernel
theorem dL_law_987 : decode cL_law 987 = .ok (.iadd, 1) := by decide +kernel
theorem dL_law_988 : decode cL_law 988 = .ok (.iaload, 1) := by decide +kernel
theorem dL_law_989 : decode cL_law 989 = .ok (.invokevirtual 152, 3) := by decide +kernel
theorem dL_law_992 : decode cL_law 992 = .ok (.istore 7, 2) := by decide +kernel
theorem dL_law_994 : decode cL_law 994 = .ok (.aload_n 2, 1) := by decide +kernel
theorem dL_law_995 : decode cL_law 995 = .ok (.invokevirtual 106, 3) := by decide +kernel
theorem dL_law_998 : decode cL_law 998 = .ok (.iload 6, 2) := by decide +kernel
theorem dL_law_1000 : decode cL_law 1000 = .ok (.if_icmp .eq 5, 3) := by decide +kernel
theorem dL_law_1003 : decode cL_law 1003 = .ok (.iconst 0, 1) := by decide +kernel
theorem dL_law_1004 : decode cL_law 1004 = .ok (.ireturn, 1) := by decide +kernel
theorem dL_law_1005 : decode cL_law 1005 = .ok (.iload 6, 2) := by decide +kernel
theorem dL_law_1007 : decode cL_law 1007 = .ok (.ifCond .ne 15, 3) := by decide +kernel
theorem dL_law_1010 : decode cL_law 1010 = .ok (.aload_n 3, 1) := by decide +kernel
theorem dL_law_1011 : decode cL_law 1011 = .ok (.iconst 0, 1) := by decide +kernel
theorem dL_law_1012 : decode cL_law 1012 = .ok (.laload, 1) := by decide +kernel
theorem dL_law_1013 : decode cL_law 1013 = .ok (.iload 7, 2) := by decide +kernel
theorem dL_law_1015 : decode cL_law 1015 = .ok (.i2l, 1) := by decide +kernel
theorem dL_law_1016 : decode cL_law 1016 = .ok (.lcmp, 1) := by decide +kernel
theorem dL_law_1017 : decode cL_law 1017 = .ok (.ifCond .eq 5, 3) := by decide +kernel
theorem dL_law_1020 : decode cL_law 1020 = .ok (.iconst 0, 1) := by decide +kernel
theorem dL_law_1021 : decode cL_law 1021 = .ok (.ireturn, 1) := by decide +kernel
theorem dL_law_1022 : decode cL_law 1022 = .ok (.goto 907, 3) := by decide +kernel
theorem dL_law_1025 : decode cL_law 1025 = .ok (.aload_n 1, 1) := by decide +kernel
theorem dL_law_1026 : decode cL_law 1026 = .ok (.aload_n 0, 1) := by decide +kernel
theorem dL_law_1027 : decode cL_law 1027 = .ok (.iload 5, 2) := by decide +kernel
theorem dL_law_1029 : decode cL_law 1029 = .ok (.iconst 1, 1) := by decide +kernel
theorem dL_law_1030 : decode cL_law 1030 = .ok (.iadd, 1) := by decide +kernel
theorem dL_law_1031 : decode cL_law 1031 = .ok (.iaload, 1) := by decide +kernel
theorem dL_law_1032 : decode cL_law 1032 = .ok (.aload_n 0, 1) := by decide +kernel
theorem dL_law_1033 : decode cL_law 1033 = .ok (.iload 5, 2) := by decide +kernel
theorem dL_law_1035 : decode cL_law 1035 = .ok (.iconst 2, 1) := by decide +kernel
theorem dL_law_1036 : decode cL_law 1036 = .ok (.iadd, 1) := by decide +kernel
theorem dL_law_1037 : decode cL_law 1037 = .ok (.iaload, 1) := by decide +kernel
theorem dL_law_1038 : decode cL_law 1038 = .ok (.aload_n 3, 1) := by decide +kernel
theorem dL_law_1039 : decode cL_law 1039 = .ok (.invokestatic 153, 3) := by decide +kernel
theorem dL_law_1042 : decode cL_law 1042 = .ok (.istore 6, 2) := by decide +kernel
theorem dL_law_1044 : decode cL_law 1044 = .ok (.aload_n 2, 1) := by decide +kernel
theorem dL_law_1045 : decode cL_law 1045 = .ok (.aload_n 0, 1) := by decide +kernel
theorem dL_law_1046 : decode cL_law 1046 = .ok (.iload 5, 2) := by decide +kernel
theorem dL_law_1048 : decode cL_law 1048 = .ok (.iconst 1, 1) := by decide +kernel
theorem dL_law_1049 : decode cL_law 1049 = .ok (.iadd, 1) := by decide +kernel
theorem dL_law_1050 : decode cL_law 1050 = .ok (.iaload, 1) := by decide +kernel
theorem dL_law_1051 : decode cL_law 1051 = .ok (.aload_n 0, 1) := by decide +kernel
theorem dL_law_1052 : decode cL_law 1052 = .ok (.iload 5, 2) := by decide +kernel
theorem dL_law_1054 : decode cL_law 1054 = .ok (.iconst 2, 1) := by decide +kernel
theorem dL_law_1055 : decode cL_law 1055 = .ok (.iadd, 1) := by decide +kernel
theorem dL_law_1056 : decode cL_law 1056 = .ok (.iaload, 1) := by decide +kernel
theorem dL_law_1057 : decode cL_law 1057 = .ok (.invokevirtual 155, 3) := by decide +kernel
theorem dL_law_1060 : decode cL_law 1060 = .ok (.istore 7, 2) := by decide +kernel
theorem dL_law_1062 : decode cL_law 1062 = .ok (.aload_n 2, 1) := by decide +kernel
theorem dL_law_1063 : decode cL_law 1063 = .ok (.invokevirtual 106, 3) := by decide +kernel
theorem dL_law_1066 : decode cL_law 1066 = .ok (.iload 6, 2) := by decide +kernel
theorem dL_law_1068 : decode cL_law 1068 = .ok (.if_icmp .eq 5, 3) := by decide +kernel
theorem dL_law_1071 : decode cL_law 1071 = .ok (.iconst 0, 1) := by decide +kernel
theorem dL_law_1072 : decode cL_law 1072 = .ok (.ireturn, 1) := by decide +kernel
theorem dL_law_1073 : decode cL_law 1073 = .ok (.iload 6, 2) := by decide +kernel
theorem dL_law_1075 : decode cL_law 1075 = .ok (.ifCond .ne 15, 3) := by decide +kernel
theorem dL_law_1078 : decode cL_law 1078 = .ok (.aload_n 3, 1) := by decide +kernel
theorem dL_law_1079 : decode cL_law 1079 = .ok (.iconst 0, 1) := by decide +kernel
theorem dL_law_1080 : decode cL_law 1080 = .ok (.laload, 1) := by decide +kernel
theorem dL_law_1081 : decode cL_law 1081 = .ok (.iload 7, 2) := by decide +kernel
theorem dL_law_1083 : decode cL_law 1083 = .ok (.i2l, 1) := by decide +kernel
theorem dL_law_1084 : decode cL_law 1084 = .ok (.lcmp, 1) := by decide +kernel
theorem dL_law_1085 : decode cL_law 1085 = .ok (.ifCond .eq 5, 3) := by decide +kernel
theorem dL_law_1088 : decode cL_law 1088 = .ok (.iconst 0, 1) := by decide +kernel
theorem dL_law_1089 : decode cL_law 1089 = .ok (.ireturn, 1) := by decide +kernel
theorem dL_law_1090 : decode cL_law 1090 = .ok (.goto 839, 3) := by decide +kernel
theorem dL_law_1093 : decode cL_law 1093 = .ok (.aload_n 1, 1) := by decide +kernel
theorem dL_law_1094 : decode cL_law 1094 = .ok (.aload_n 0, 1) := by decide +kernel
theorem dL_law_1095 : decode cL_law 1095 = .ok (.iload 5, 2) := by decide +kernel
theorem dL_law_1097 : decode cL_law 1097 = .ok (.iconst 1, 1) := by decide +kernel
theorem dL_law_1098 : decode cL_law 1098 = .ok (.iadd, 1) := by decide +kernel
theorem dL_law_1099 : decode cL_law 1099 = .ok (.iaload, 1) := by decide +kernel
theorem dL_law_1100 : decode cL_law 1100 = .ok (.aload_n 0, 1) := by decide +kernel
theorem dL_law_1101 : decode cL_law 1101 = .ok (.iload 5, 2) := by decide +kernel
theorem dL_law_1103 : decode cL_law 1103 = .ok (.iconst 2, 1) := by decide +kernel
theorem dL_law_1104 : decode cL_law 1104 = .ok (.iadd, 1) := by decide +kernel
theorem dL_law_1105 : decode cL_law 1105 = .ok (.iaload, 1) := by decide +kernel
theorem dL_law_1106 : decode cL_law 1106 = .ok (.aload_n 3, 1) := by decide +kernel
theorem dL_law_1107 : decode cL_law 1107 = .ok (.invokestatic 156, 3) := by decide +kernel
theorem dL_law_1110 : decode cL_law 1110 = .ok (.istore 6, 2) := by decide +kernel
theorem dL_law_1112 : decode cL_law 1112 = .ok (.aload_n 2, 1) := by decide +kernel
theorem dL_law_1113 : decode cL_law 1113 = .ok (.aload_n 0, 1) := by decide +kernel
theorem dL_law_1114 : decode cL_law 1114 = .ok (.iload 5, 2) := by decide +kernel
theorem dL_law_1116 : decode cL_law 1116 = .ok (.iconst 1, 1) := by decide +kernel
theorem dL_law_1117 : decode cL_law 1117 = .ok (.iadd, 1) := by decide +kernel
theorem dL_law_1118 : decode cL_law 1118 = .ok (.iaload, 1) := by decide +kernel
theorem dL_law_1119 : decode cL_law 1119 = .ok (.aload_n 0, 1) := by decide +kernel
theorem dL_law_1120 : decode cL_law 1120 = .ok (.iload 5, 2) := by decide +kernel
theorem dL_law_1122 : decode cL_law 1122 = .ok (.iconst 2, 1) := by decide +kernel
theorem dL_law_1123 : decode cL_law 1123 = .ok (.iadd, 1) := by decide +kernel
theorem dL_law_1124 : decode cL_law 1124 = .ok (.iaload, 1) := by decide +kernel
theorem dL_law_1125 : decode cL_law 1125 = .ok (.invokevirtual 158, 3) := by decide +kernel
theorem dL_law_1128 : decode cL_law 1128 = .ok (.istore 7, 2) := by decide +kernel
theorem dL_law_1130 : decode cL_law 1130 = .ok (.aload_n 2, 1) := by decide +kernel
theorem dL_law_1131 : decode cL_law 1131 = .ok (.invokevirtual 106, 3) := by decide +kernel
theorem dL_law_1134 : decode cL_law 1134 = .ok (.iload 6, 2) := by decide +kernel
theorem dL_law_1136 : decode cL_law 1136 = .ok (.if_icmp .eq 5, 3) := by decide +kernel
theorem dL_law_1139 : decode cL_law 1139 = .ok (.iconst 0, 1) := by decide +kernel
theorem dL_law_1140 : decode cL_law 1140 = .ok (.ireturn, 1) := by decide +kernel
theorem dL_law_1141 : decode cL_law 1141 = .ok (.iload 6, 2) := by decide +kernel
theorem dL_law_1143 : decode cL_law 1143 = .ok (.ifCond .ne 15, 3) := by decide +kernel
theorem dL_law_1146 : decode cL_law 1146 = .ok (.aload_n 3, 1) := by decide +kernel
theorem dL_law_1147 : decode cL_law 1147 = .ok (.iconst 0, 1) := by decide +kernel
theorem dL_law_1148 : decode cL_law 1148 = .ok (.laload, 1) := by decide +kernel
theorem dL_law_1149 : decode cL_law 1149 = .ok (.iload 7, 2) := by decide +kernel
theorem dL_law_1151 : decode cL_law 1151 = .ok (.i2l, 1) := by decide +kernel
theorem dL_law_1152 : decode cL_law 1152 = .ok (.lcmp, 1) := by decide +kernel
theorem dL_law_1153 : decode cL_law 1153 = .ok (.ifCond .eq 5, 3) := by decide +kernel
theorem dL_law_1156 : decode cL_law 1156 = .ok (.iconst 0, 1) := by decide +kernel
theorem dL_law_1157 : decode cL_law 1157 = .ok (.ireturn, 1) := by decide +kernel
theorem dL_law_1158 : decode cL_law 1158 = .ok (.goto 771, 3) := by decide +kernel
theorem dL_law_1161 : decode cL_law 1161 = .ok (.aload_n 1, 1) := by decide +kernel
theorem dL_law_1162 : decode cL_law 1162 = .ok (.aload_n 0, 1) := by decide +kernel
theorem dL_law_1163 : decode cL_law 1163 = .ok (.iload 5, 2) := by decide +kernel
theorem dL_law_1165 : decode cL_law 1165 = .ok (.iconst 1, 1) := by decide +kernel
theorem dL_law_1166 : decode cL_law 1166 = .ok (.iadd, 1) := by decide +kernel
theorem dL_law_1167 : decode cL_law 1167 = .ok (.iaload, 1) := by decide +kernel
theorem dL_law_1168 : decode cL_law 1168 = .ok (.aload_n 0, 1) := by decide +kernel
theorem dL_law_1169 : decode cL_law 1169 = .ok (.iload 5, 2) := by decide +kernel
theorem dL_law_1171 : decode cL_law 1171 = .ok (.iconst 2, 1) := by decide +kernel
theorem dL_law_1172 : decode cL_law 1172 = .ok (.iadd, 1) := by decide +kernel
theorem dL_law_1173 : decode cL_law 1173 = .ok (.iaload, 1) := by decide +kernel
theorem dL_law_1174 : decode cL_law 1174 = .ok (.aload_n 0, 1) := by decide +kernel
theorem dL_law_1175 : decode cL_law 1175 = .ok (.iload 5, 2) := by decide +kernel
theorem dL_law_1177 : decode cL_law 1177 = .ok (.iconst 3, 1) := by decide +kernel
theorem dL_law_1178 : decode cL_law 1178 = .ok (.iadd, 1) := by decide +kernel
theorem dL_law_1179 : decode cL_law 1179 = .ok (.iaload, 1) := by decide +kernel
theorem dL_law_1180 : decode cL_law 1180 = .ok (.aload_n 3, 1) := by decide +kernel
theorem dL_law_1181 : decode cL_law 1181 = .ok (.invokestatic 159, 3) := by decide +kernel
theorem dL_law_1184 : decode cL_law 1184 = .ok (.istore 6, 2) := by decide +kernel
theorem dL_law_1186 : decode cL_law 1186 = .ok (.aload_n 2, 1) := by decide +kernel
theorem dL_law_1187 : decode cL_law 1187 = .ok (.aload_n 0, 1) := by decide +kernel
theorem dL_law_1188 : decode cL_law 1188 = .ok (.iload 5, 2) := by decide +kernel
theorem dL_law_1190 : decode cL_law 1190 = .ok (.iconst 1, 1) := by decide +kernel
theorem dL_law_1191 : decode cL_law 1191 = .ok (.iadd, 1) := by decide +kernel
theorem dL_law_1192 : decode cL_law 1192 = .ok (.iaload, 1) := by decide +kernel
theorem dL_law_1193 : decode cL_law 1193 = .ok (.aload_n 0, 1) := by decide +kernel
theorem dL_law_1194 : decode cL_law 1194 = .ok (.iload 5, 2) := by decide +kernel
theorem dL_law_1196 : decode cL_law 1196 = .ok (.iconst 2, 1) := by decide +kernel
theorem dL_law_1197 : decode cL_law 1197 = .ok (.iadd, 1) := by decide +kernel
theorem dL_law_1198 : decode cL_law 1198 = .ok (.iaload, 1) := by decide +kernel
theorem dL_law_1199 : decode cL_law 1199 = .ok (.aload_n 0, 1) := by decide +kernel
theorem dL_law_1200 : decode cL_law 1200 = .ok (.iload 5, 2) := by decide +kernel
theorem dL_law_1202 : decode cL_law 1202 = .ok (.iconst 3, 1) := by decide +kernel
theorem dL_law_1203 : decode cL_law 1203 = .ok (.iadd, 1) := by decide +kernel
theorem dL_law_1204 : decode cL_law 1204 = .ok (.iaload, 1) := by decide +kernel
theorem dL_law_1205 : decode cL_law 1205 = .ok (.invokevirtual 161, 3) := by decide +kernel
theorem dL_law_1208 : decode cL_law 1208 = .ok (.istore 7, 2) := by decide +kernel
theorem dL_law_1210 : decode cL_law 1210 = .ok (.aload_n 2, 1) := by decide +kernel
theorem dL_law_1211 : decode cL_law 1211 = .ok (.invokevirtual 106, 3) := by decide +kernel
theorem dL_law_1214 : decode cL_law 1214 = .ok (.iload 6, 2) := by decide +kernel
theorem dL_law_1216 : decode cL_law 1216 = .ok (.if_icmp .eq 5, 3) := by decide +kernel
theorem dL_law_1219 : decode cL_law 1219 = .ok (.iconst 0, 1) := by decide +kernel
theorem dL_law_1220 : decode cL_law 1220 = .ok (.ireturn, 1) := by decide +kernel
theorem dL_law_1221 : decode cL_law 1221 = .ok (.iload 6, 2) := by decide +kernel
theorem dL_law_1223 : decode cL_law 1223 = .ok (.ifCond .ne 15, 3) := by decide +kernel
theorem dL_law_1226 : decode cL_law 1226 = .ok (.aload_n 3, 1) := by decide +kernel
theorem dL_law_1227 : decode cL_law 1227 = .ok (.iconst 0, 1) := by decide +kernel
theorem dL_law_1228 : decode cL_law 1228 = .ok (.laload, 1) := by decide +kernel
theorem dL_law_1229 : decode cL_law 1229 = .ok (.iload 7, 2) := by decide +kernel
theorem dL_law_1231 : decode cL_law 1231 = .ok (.i2l, 1) := by decide +kernel
theorem dL_law_1232 : decode cL_law 1232 = .ok (.lcmp, 1) := by decide +kernel
theorem dL_law_1233 : decode cL_law 1233 = .ok (.ifCond .eq 5, 3) := by decide +kernel
theorem dL_law_1236 : decode cL_law 1236 = .ok (.iconst 0, 1) := by decide +kernel
theorem dL_law_1237 : decode cL_law 1237 = .ok (.ireturn, 1) := by decide +kernel
theorem dL_law_1238 : decode cL_law 1238 = .ok (.goto 691, 3) := by decide +kernel
theorem dL_law_1241 : decode cL_law 1241 = .ok (.aload_n 1, 1) := by decide +kernel
theorem dL_law_1242 : decode cL_law 1242 = .ok (.aload_n 0, 1) := by decide +kernel
theorem dL_law_1243 : decode cL_law 1243 = .ok (.iload 5, 2) := by decide +kernel
theorem dL_law_1245 : decode cL_law 1245 = .ok (.iconst 1, 1) := by decide +kernel
theorem dL_law_1246 : decode cL_law 1246 = .ok (.iadd, 1) := by decide +kernel
theorem dL_law_1247 : decode cL_law 1247 = .ok (.iaload, 1) := by decide +kernel
theorem dL_law_1248 : decode cL_law 1248 = .ok (.aload_n 0, 1) := by decide +kernel
theorem dL_law_1249 : decode cL_law 1249 = .ok (.iload 5, 2) := by decide +kernel
theorem dL_law_1251 : decode cL_law 1251 = .ok (.iconst 2, 1) := by decide +kernel
theorem dL_law_1252 : decode cL_law 1252 = .ok (.iadd, 1) := by decide +kernel
theorem dL_law_1253 : decode cL_law 1253 = .ok (.iaload, 1) := by decide +kernel
theorem dL_law_1254 : decode cL_law 1254 = .ok (.aload_n 0, 1) := by decide +kernel
theorem dL_law_1255 : decode cL_law 1255 = .ok (.iload 5, 2) := by decide +kernel
theorem dL_law_1257 : decode cL_law 1257 = .ok (.iconst 3, 1) := by decide +kernel
theorem dL_law_1258 : decode cL_law 1258 = .ok (.iadd, 1) := by decide +kernel
theorem dL_law_1259 : decode cL_law 1259 = .ok (.iaload, 1) := by decide +kernel
theorem dL_law_1260 : decode cL_law 1260 = .ok (.aload_n 3, 1) := by decide +kernel
theorem dL_law_1261 : decode cL_law 1261 = .ok (.invokestatic 162, 3) := by decide +kernel
theorem dL_law_1264 : decode cL_law 1264 = .ok (.istore 6, 2) := by decide +kernel
theorem dL_law_1266 : decode cL_law 1266 = .ok (.aload_n 2, 1) := by decide +kernel
theorem dL_law_1267 : decode cL_law 1267 = .ok (.aload_n 0, 1) := by decide +kernel
theorem dL_law_1268 : decode cL_law 1268 = .ok (.iload 5, 2) := by decide +kernel
theorem dL_law_1270 : decode cL_law 1270 = .ok (.iconst 1, 1) := by decide +kernel
theorem dL_law_1271 : decode cL_law 1271 = .ok (.iadd, 1) := by decide +kernel
theorem dL_law_1272 : decode cL_law 1272 = .ok (.iaload, 1) := by decide +kernel
theorem dL_law_1273 : decode cL_law 1273 = .ok (.aload_n 0, 1) := by decide +kernel
theorem dL_law_1274 : decode cL_law 1274 = .ok (.iload 5, 2) := by decide +kernel
theorem dL_law_1276 : decode cL_law 1276 = .ok (.iconst 2, 1) := by decide +kernel
theorem dL_law_1277 : decode cL_law 1277 = .ok (.iadd, 1) := by decide +kernel
theorem dL_law_1278 : decode cL_law 1278 = .ok (.iaload, 1) := by decide +kernel
theorem dL_law_1279 : decode cL_law 1279 = .ok (.aload_n 0, 1) := by decide +kernel
theorem dL_law_1280 : decode cL_law 1280 = .ok (.iload 5, 2) := by decide +kernel
theorem dL_law_1282 : decode cL_law 1282 = .ok (.iconst 3, 1) := by decide +kernel
theorem dL_law_1283 : decode cL_law 1283 = .ok (.iadd, 1) := by decide +kernel
theorem dL_law_1284 : decode cL_law 1284 = .ok (.iaload, 1) := by decide +kernel
theorem dL_law_1285 : decode cL_law 1285 = .ok (.invokevirtual 164, 3) := by decide +kernel
theorem dL_law_1288 : decode cL_law 1288 = .ok (.istore 7, 2) := by decide +kernel
theorem dL_law_1290 : decode cL_law 1290 = .ok (.aload_n 2, 1) := by decide +kernel
theorem dL_law_1291 : decode cL_law 1291 = .ok (.invokevirtual 106, 3) := by decide +kernel
theorem dL_law_1294 : decode cL_law 1294 = .ok (.iload 6, 2) := by decide +kernel
theorem dL_law_1296 : decode cL_law 1296 = .ok (.if_icmp .eq 5, 3) := by decide +kernel
theorem dL_law_1299 : decode cL_law 1299 = .ok (.iconst 0, 1) := by decide +kernel
theorem dL_law_1300 : decode cL_law 1300 = .ok (.ireturn, 1) := by decide +kernel
theorem dL_law_1301 : decode cL_law 1301 = .ok (.iload 6, 2) := by decide +kernel
theorem dL_law_1303 : decode cL_law 1303 = .ok (.ifCond .ne 15, 3) := by decide +kernel
theorem dL_law_1306 : decode cL_law 1306 = .ok (.aload_n 3, 1) := by decide +kernel
theorem dL_law_1307 : decode cL_law 1307 = .ok (.iconst 0, 1) := by decide +kernel
theorem dL_law_1308 : decode cL_law 1308 = .ok (.laload, 1) := by decide +kernel
theorem dL_law_1309 : decode cL_law 1309 = .ok (.iload 7, 2) := by decide +kernel
theorem dL_law_1311 : decode cL_law 1311 = .ok (.i2l, 1) := by decide +kernel
theorem dL_law_1312 : decode cL_law 1312 = .ok (.lcmp, 1) := by decide +kernel
theorem dL_law_1313 : decode cL_law 1313 = .ok (.ifCond .eq 5, 3) := by decide +kernel
theorem dL_law_1316 : decode cL_law 1316 = .ok (.iconst 0, 1) := by decide +kernel
theorem dL_law_1317 : decode cL_law 1317 = .ok (.ireturn, 1) := by decide +kernel
theorem dL_law_1318 : decode cL_law 1318 = .ok (.goto 611, 3) := by decide +kernel
theorem dL_law_1321 : decode cL_law 1321 = .ok (.aload_n 1, 1) := by decide +kernel
theorem dL_law_1322 : decode cL_law 1322 = .ok (.aload_n 0, 1) := by decide +kernel
theorem dL_law_1323 : decode cL_law 1323 = .ok (.iload 5, 2) := by decide +kernel
theorem dL_law_1325 : decode cL_law 1325 = .ok (.iconst 1, 1) := by decide +kernel
theorem dL_law_1326 : decode cL_law 1326 = .ok (.iadd, 1) := by decide +kernel
theorem dL_law_1327 : decode cL_law 1327 = .ok (.iaload, 1) := by decide +kernel
theorem dL_law_1328 : decode cL_law 1328 = .ok (.aload_n 0, 1) := by decide +kernel
theorem dL_law_1329 : decode cL_law 1329 = .ok (.iload 5, 2) := by decide +kernel
theorem dL_law_1331 : decode cL_law 1331 = .ok (.iconst 2, 1) := by decide +kernel
theorem dL_law_1332 : decode cL_law 1332 = .ok (.iadd, 1) := by decide +kernel
theorem dL_law_1333 : decode cL_law 1333 = .ok (.iaload, 1) := by decide +kernel
theorem dL_law_1334 : decode cL_law 1334 = .ok (.aload_n 0, 1) := by decide +kernel
theorem dL_law_1335 : decode cL_law 1335 = .ok (.iload 5, 2) := by decide +kernel
theorem dL_law_1337 : decode cL_law 1337 = .ok (.iconst 3, 1) := by decide +kernel
theorem dL_law_1338 : decode cL_law 1338 = .ok (.iadd, 1) := by decide +kernel
theorem dL_law_1339 : decode cL_law 1339 = .ok (.iaload, 1) := by decide +kernel
theorem dL_law_1340 : decode cL_law 1340 = .ok (.aload_n 3, 1) := by decide +kernel
theorem dL_law_1341 : decode cL_law 1341 = .ok (.invokestatic 165, 3) := by decide +kernel
theorem dL_law_1344 : decode cL_law 1344 = .ok (.istore 6, 2) := by decide +kernel
theorem dL_law_1346 : decode cL_law 1346 = .ok (.aload_n 2, 1) := by decide +kernel
theorem dL_law_1347 : decode cL_law 1347 = .ok (.aload_n 0, 1) := by decide +kernel
theorem dL_law_1348 : decode cL_law 1348 = .ok (.iload 5, 2) := by decide +kernel
theorem dL_law_1350 : decode cL_law 1350 = .ok (.iconst 1, 1) := by decide +kernel
theorem dL_law_1351 : decode cL_law 1351 = .ok (.iadd, 1) := by decide +kernel
theorem dL_law_1352 : decode cL_law 1352 = .ok (.iaload, 1) := by decide +kernel
theorem dL_law_1353 : decode cL_law 1353 = .ok (.aload_n 0, 1) := by decide +kernel
theorem dL_law_1354 : decode cL_law 1354 = .ok (.iload 5, 2) := by decide +kernel
theorem dL_law_1356 : decode cL_law 1356 = .ok (.iconst 2, 1) := by decide +kernel
theorem dL_law_1357 : decode cL_law 1357 = .ok (.iadd, 1) := by decide +kernel
theorem dL_law_1358 : decode cL_law 1358 = .ok (.iaload, 1) := by decide +kernel
theorem dL_law_1359 : decode cL_law 1359 = .ok (.aload_n 0, 1) := by decide +kernel
theorem dL_law_1360 : decode cL_law 1360 = .ok (.iload 5, 2) := by decide +kernel
theorem dL_law_1362 : decode cL_law 1362 = .ok (.iconst 3, 1) := by decide +kernel
theorem dL_law_1363 : decode cL_law 1363 = .ok (.iadd, 1) := by decide +kernel
theorem dL_law_1364 : decode cL_law 1364 = .ok (.iaload, 1) := by decide +kernel
theorem dL_law_1365 : decode cL_law 1365 = .ok (.invokevirtual 167, 3) := by decide +kernel
theorem dL_law_1368 : decode cL_law 1368 = .ok (.istore 7, 2) := by decide +kernel
theorem dL_law_1370 : decode cL_law 1370 = .ok (.aload_n 2, 1) := by decide +kernel
theorem dL_law_1371 : decode cL_law 1371 = .ok (.invokevirtual 106, 3) := by decide +kernel
theorem dL_law_1374 : decode cL_law 1374 = .ok (.iload 6, 2) := by decide +kernel
theorem dL_law_1376 : decode cL_law 1376 = .ok (.if_icmp .eq 5, 3) := by decide +kernel
theorem dL_law_1379 : decode cL_law 1379 = .ok (.iconst 0, 1) := by decide +kernel
theorem dL_law_1380 : decode cL_law 1380 = .ok (.ireturn, 1) := by decide +kernel
theorem dL_law_1381 : decode cL_law 1381 = .ok (.iload 6, 2) := by decide +kernel
theorem dL_law_1383 : decode cL_law 1383 = .ok (.ifCond .ne 15, 3) := by decide +kernel
theorem dL_law_1386 : decode cL_law 1386 = .ok (.aload_n 3, 1) := by decide +kernel
theorem dL_law_1387 : decode cL_law 1387 = .ok (.iconst 0, 1) := by decide +kernel
theorem dL_law_1388 : decode cL_law 1388 = .ok (.laload, 1) := by decide +kernel
theorem dL_law_1389 : decode cL_law 1389 = .ok (.iload 7, 2) := by decide +kernel
theorem dL_law_1391 : decode cL_law 1391 = .ok (.i2l, 1) := by decide +kernel
theorem dL_law_1392 : decode cL_law 1392 = .ok (.lcmp, 1) := by decide +kernel
theorem dL_law_1393 : decode cL_law 1393 = .ok (.ifCond .eq 5, 3) := by decide +kernel
theorem dL_law_1396 : decode cL_law 1396 = .ok (.iconst 0, 1) := by decide +kernel
theorem dL_law_1397 : decode cL_law 1397 = .ok (.ireturn, 1) := by decide +kernel
theorem dL_law_1398 : decode cL_law 1398 = .ok (.goto 531, 3) := by decide +kernel
theorem dL_law_1401 : decode cL_law 1401 = .ok (.aload_n 1, 1) := by decide +kernel
theorem dL_law_1402 : decode cL_law 1402 = .ok (.aload_n 0, 1) := by decide +kernel
theorem dL_law_1403 : decode cL_law 1403 = .ok (.iload 5, 2) := by decide +kernel
theorem dL_law_1405 : decode cL_law 1405 = .ok (.iconst 1, 1) := by decide +kernel
theorem dL_law_1406 : decode cL_law 1406 = .ok (.iadd, 1) := by decide +kernel
theorem dL_law_1407 : decode cL_law 1407 = .ok (.iaload, 1) := by decide +kernel
theorem dL_law_1408 : decode cL_law 1408 = .ok (.aload_n 0, 1) := by decide +kernel
theorem dL_law_1409 : decode cL_law 1409 = .ok (.iload 5, 2) := by decide +kernel
theorem dL_law_1411 : decode cL_law 1411 = .ok (.iconst 2, 1) := by decide +kernel
theorem dL_law_1412 : decode cL_law 1412 = .ok (.iadd, 1) := by decide +kernel
theorem dL_law_1413 : decode cL_law 1413 = .ok (.iaload, 1) := by decide +kernel
theorem dL_law_1414 : decode cL_law 1414 = .ok (.aload_n 0, 1) := by decide +kernel
theorem dL_law_1415 : decode cL_law 1415 = .ok (.iload 5, 2) := by decide +kernel
theorem dL_law_1417 : decode cL_law 1417 = .ok (.iconst 3, 1) := by decide +kernel
theorem dL_law_1418 : decode cL_law 1418 = .ok (.iadd, 1) := by decide +kernel
theorem dL_law_1419 : decode cL_law 1419 = .ok (.iaload, 1) := by decide +kernel
theorem dL_law_1420 : decode cL_law 1420 = .ok (.invokestatic 168, 3) := by decide +kernel
theorem dL_law_1423 : decode cL_law 1423 = .ok (.istore 6, 2) := by decide +kernel
theorem dL_law_1425 : decode cL_law 1425 = .ok (.aload_n 2, 1) := by decide +kernel
theorem dL_law_1426 : decode cL_law 1426 = .ok (.aload_n 0, 1) := by decide +kernel
theorem dL_law_1427 : decode cL_law 1427 = .ok (.iload 5, 2) := by decide +kernel
theorem dL_law_1429 : decode cL_law 1429 = .ok (.iconst 1, 1) := by decide +kernel
theorem dL_law_1430 : decode cL_law 1430 = .ok (.iadd, 1) := by decide +kernel
theorem dL_law_1431 : decode cL_law 1431 = .ok (.iaload, 1) := by decide +kernel
theorem dL_law_1432 : decode cL_law 1432 = .ok (.aload_n 0, 1) := by decide +kernel
theorem dL_law_1433 : decode cL_law 1433 = .ok (.iload 5, 2) := by decide +kernel
theorem dL_law_1435 : decode cL_law 1435 = .ok (.iconst 2, 1) := by decide +kernel
theorem dL_law_1436 : decode cL_law 1436 = .ok (.iadd, 1) := by decide +kernel
theorem dL_law_1437 : decode cL_law 1437 = .ok (.iaload, 1) := by decide +kernel
theorem dL_law_1438 : decode cL_law 1438 = .ok (.aload_n 0, 1) := by decide +kernel
theorem dL_law_1439 : decode cL_law 1439 = .ok (.iload 5, 2) := by decide +kernel
theorem dL_law_1441 : decode cL_law 1441 = .ok (.iconst 3, 1) := by decide +kernel
theorem dL_law_1442 : decode cL_law 1442 = .ok (.iadd, 1) := by decide +kernel
theorem dL_law_1443 : decode cL_law 1443 = .ok (.iaload, 1) := by decide +kernel
theorem dL_law_1444 : decode cL_law 1444 = .ok (.invokevirtual 171, 3) := by decide +kernel
theorem dL_law_1447 : decode cL_law 1447 = .ok (.aload_n 2, 1) := by decide +kernel
theorem dL_law_1448 : decode cL_law 1448 = .ok (.invokevirtual 106, 3) := by decide +kernel
theorem dL_law_1451 : decode cL_law 1451 = .ok (.iload 6, 2) := by decide +kernel
theorem dL_law_1453 : decode cL_law 1453 = .ok (.if_icmp .eq 5, 3) := by decide +kernel
theorem dL_law_1456 : decode cL_law 1456 = .ok (.iconst 0, 1) := by decide +kernel
theorem dL_law_1457 : decode cL_law 1457 = .ok (.ireturn, 1) := by decide +kernel
theorem dL_law_1458 : decode cL_law 1458 = .ok (.goto 471, 3) := by decide +kernel
theorem dL_law_1461 : decode cL_law 1461 = .ok (.aload_n 1, 1) := by decide +kernel
theorem dL_law_1462 : decode cL_law 1462 = .ok (.aload_n 0, 1) := by decide +kernel
theorem dL_law_1463 : decode cL_law 1463 = .ok (.iload 5, 2) := by decide +kernel
theorem dL_law_1465 : decode cL_law 1465 = .ok (.iconst 1, 1) := by decide +kernel
theorem dL_law_1466 : decode cL_law 1466 = .ok (.iadd, 1) := by decide +kernel
theorem dL_law_1467 : decode cL_law 1467 = .ok (.iaload, 1) := by decide +kernel
theorem dL_law_1468 : decode cL_law 1468 = .ok (.aload_n 0, 1) := by decide +kernel
theorem dL_law_1469 : decode cL_law 1469 = .ok (.iload 5, 2) := by decide +kernel
theorem dL_law_1471 : decode cL_law 1471 = .ok (.iconst 2, 1) := by decide +kernel
theorem dL_law_1472 : decode cL_law 1472 = .ok (.iadd, 1) := by decide +kernel
theorem dL_law_1473 : decode cL_law 1473 = .ok (.iaload, 1) := by decide +kernel
theorem dL_law_1474 : decode cL_law 1474 = .ok (.aload_n 0, 1) := by decide +kernel
theorem dL_law_1475 : decode cL_law 1475 = .ok (.iload 5, 2) := by decide +kernel
theorem dL_law_1477 : decode cL_law 1477 = .ok (.iconst 3, 1) := by decide +kernel
theorem dL_law_1478 : decode cL_law 1478 = .ok (.iadd, 1) := by decide +kernel
theorem dL_law_1479 : decode cL_law 1479 = .ok (.iaload, 1) := by decide +kernel
theorem dL_law_1480 : decode cL_law 1480 = .ok (.aload_n 0, 1) := by decide +kernel
theorem dL_law_1481 : decode cL_law 1481 = .ok (.iload 5, 2) := by decide +kernel
theorem dL_law_1483 : decode cL_law 1483 = .ok (.iconst 4, 1) := by decide +kernel
theorem dL_law_1484 : decode cL_law 1484 = .ok (.iadd, 1) := by decide +kernel
theorem dL_law_1485 : decode cL_law 1485 = .ok (.iaload, 1) := by decide +kernel
theorem dL_law_1486 : decode cL_law 1486 = .ok (.ifCond .eq 7, 3) := by decide +kernel
theorem dL_law_1489 : decode cL_law 1489 = .ok (.iconst 1, 1) := by decide +kernel
theorem dL_law_1490 : decode cL_law 1490 = .ok (.goto 4, 3) := by decide +kernel
theorem dL_law_1493 : decode cL_law 1493 = .ok (.iconst 0, 1) := by decide +kernel
theorem dL_law_1494 : decode cL_law 1494 = .ok (.aload_n 3, 1) := by decide +kernel
theorem dL_law_1495 : decode cL_law 1495 = .ok (.invokestatic 172, 3) := by decide +kernel
theorem dL_law_1498 : decode cL_law 1498 = .ok (.istore 6, 2) := by decide +kernel
theorem dL_law_1500 : decode cL_law 1500 = .ok (.aload_n 2, 1) := by decide +kernel
theorem dL_law_1501 : decode cL_law 1501 = .ok (.aload_n 0, 1) := by decide +kernel
theorem dL_law_1502 : decode cL_law 1502 = .ok (.iload 5, 2) := by decide +kernel
theorem dL_law_1504 : decode cL_law 1504 = .ok (.iconst 1, 1) := by decide +kernel
theorem dL_law_1505 : decode cL_law 1505 = .ok (.iadd, 1) := by decide +kernel
theorem dL_law_1506 : decode cL_law 1506 = .ok (.iaload, 1) := by decide +kernel
theorem dL_law_1507 : decode cL_law 1507 = .ok (.aload_n 0, 1) := by decide +kernel
theorem dL_law_1508 : decode cL_law 1508 = .ok (.iload 5, 2) := by decide +kernel
theorem dL_law_1510 : decode cL_law 1510 = .ok (.iconst 2, 1) := by decide +kernel
theorem dL_law_1511 : decode cL_law 1511 = .ok (.iadd, 1) := by decide +kernel
theorem dL_law_1512 : decode cL_law 1512 = .ok (.iaload, 1) := by decide +kernel
theorem dL_law_1513 : decode cL_law 1513 = .ok (.aload_n 0, 1) := by decide +kernel
theorem dL_law_1514 : decode cL_law 1514 = .ok (.iload 5, 2) := by decide +kernel
theorem dL_law_1516 : decode cL_law 1516 = .ok (.iconst 3, 1) := by decide +kernel
theorem dL_law_1517 : decode cL_law 1517 = .ok (.iadd, 1) := by decide +kernel
theorem dL_law_1518 : decode cL_law 1518 = .ok (.iaload, 1) := by decide +kernel
theorem dL_law_1519 : decode cL_law 1519 = .ok (.aload_n 0, 1) := by decide +kernel
theorem dL_law_1520 : decode cL_law 1520 = .ok (.iload 5, 2) := by decide +kernel
theorem dL_law_1522 : decode cL_law 1522 = .ok (.iconst 4, 1) := by decide +kernel
theorem dL_law_1523 : decode cL_law 1523 = .ok (.iadd, 1) := by decide +kernel
theorem dL_law_1524 : decode cL_law 1524 = .ok (.iaload, 1) := by decide +kernel
theorem dL_law_1525 : decode cL_law 1525 = .ok (.ifCond .eq 7, 3) := by decide +kernel
theorem dL_law_1528 : decode cL_law 1528 = .ok (.iconst 1, 1) := by decide +kernel
theorem dL_law_1529 : decode cL_law 1529 = .ok (.goto 4, 3) := by decide +kernel
theorem dL_law_1532 : decode cL_law 1532 = .ok (.iconst 0, 1) := by decide +kernel
theorem dL_law_1533 : decode cL_law 1533 = .ok (.invokevirtual 175, 3) := by decide +kernel
theorem dL_law_1536 : decode cL_law 1536 = .ok (.istore 7, 2) := by decide +kernel
theorem dL_law_1538 : decode cL_law 1538 = .ok (.aload_n 2, 1) := by decide +kernel
theorem dL_law_1539 : decode cL_law 1539 = .ok (.invokevirtual 106, 3) := by decide +kernel
theorem dL_law_1542 : decode cL_law 1542 = .ok (.iload 6, 2) := by decide +kernel
theorem dL_law_1544 : decode cL_law 1544 = .ok (.if_icmp .eq 5, 3) := by decide +kernel
theorem dL_law_1547 : decode cL_law 1547 = .ok (.iconst 0, 1) := by decide +kernel
theorem dL_law_1548 : decode cL_law 1548 = .ok (.ireturn, 1) := by decide +kernel
theorem dL_law_1549 : decode cL_law 1549 = .ok (.iload 6, 2) := by decide +kernel
theorem dL_law_1551 : decode cL_law 1551 = .ok (.ifCond .ne 15, 3) := by decide +kernel
theorem dL_law_1554 : decode cL_law 1554 = .ok (.aload_n 3, 1) := by decide +kernel
theorem dL_law_1555 : decode cL_law 1555 = .ok (.iconst 0, 1) := by decide +kernel
theorem dL_law_1556 : decode cL_law 1556 = .ok (.laload, 1) := by decide +kernel
theorem dL_law_1557 : decode cL_law 1557 = .ok (.iload 7, 2) := by decide +kernel
theorem dL_law_1559 : decode cL_law 1559 = .ok (.i2l, 1) := by decide +kernel
theorem dL_law_1560 : decode cL_law 1560 = .ok (.lcmp, 1) := by decide +kernel
theorem dL_law_1561 : decode cL_law 1561 = .ok (.ifCond .eq 5, 3) := by decide +kernel
theorem dL_law_1564 : decode cL_law 1564 = .ok (.iconst 0, 1) := by decide +kernel
theorem dL_law_1565 : decode cL_law 1565 = .ok (.ireturn, 1) := by decide +kernel
theorem dL_law_1566 : decode cL_law 1566 = .ok (.goto 363, 3) := by decide +kernel
theorem dL_law_1569 : decode cL_law 1569 = .ok (.aload_n 1, 1) := by decide +kernel
theorem dL_law_1570 : decode cL_law 1570 = .ok (.aload_n 0, 1) := by decide +kernel
theorem dL_law_1571 : decode cL_law 1571 = .ok (.iload 5, 2) := by decide +kernel
theorem dL_law_1573 : decode cL_law 1573 = .ok (.iconst 1, 1) := by decide +kernel
theorem dL_law_1574 : decode cL_law 1574 = .ok (.iadd, 1) := by decide +kernel
theorem dL_law_1575 : decode cL_law 1575 = .ok (.iaload, 1) := by decide +kernel
theorem dL_law_1576 : decode cL_law 1576 = .ok (.aload_n 3, 1) := by decide +kernel
theorem dL_law_1577 : decode cL_law 1577 = .ok (.invokestatic 176, 3) := by decide +kernel
theorem dL_law_1580 : decode cL_law 1580 = .ok (.istore 6, 2) := by decide +kernel
theorem dL_law_1582 : decode cL_law 1582 = .ok (.aload_n 2, 1) := by decide +kernel
theorem dL_law_1583 : decode cL_law 1583 = .ok (.aload_n 0, 1) := by decide +kernel
theorem dL_law_1584 : decode cL_law 1584 = .ok (.iload 5, 2) := by decide +kernel
theorem dL_law_1586 : decode cL_law 1586 = .ok (.iconst 1, 1) := by decide +kernel
theorem dL_law_1587 : decode cL_law 1587 = .ok (.iadd, 1) := by decide +kernel
theorem dL_law_1588 : decode cL_law 1588 = .ok (.iaload, 1) := by decide +kernel
theorem dL_law_1589 : decode cL_law 1589 = .ok (.invokevirtual 178, 3) := by decide +kernel
theorem dL_law_1592 : decode cL_law 1592 = .ok (.istore 7, 2) := by decide +kernel
theorem dL_law_1594 : decode cL_law 1594 = .ok (.aload_n 2, 1) := by decide +kernel
theorem dL_law_1595 : decode cL_law 1595 = .ok (.invokevirtual 106, 3) := by decide +kernel
theorem dL_law_1598 : decode cL_law 1598 = .ok (.iload 6, 2) := by decide +kernel
theorem dL_law_1600 : decode cL_law 1600 = .ok (.if_icmp .eq 5, 3) := by decide +kernel
theorem dL_law_1603 : decode cL_law 1603 = .ok (.iconst 0, 1) := by decide +kernel
theorem dL_law_1604 : decode cL_law 1604 = .ok (.ireturn, 1) := by decide +kernel
theorem dL_law_1605 : decode cL_law 1605 = .ok (.iload 6, 2) := by decide +kernel
theorem dL_law_1607 : decode cL_law 1607 = .ok (.ifCond .ne 15, 3) := by decide +kernel
theorem dL_law_1610 : decode cL_law 1610 = .ok (.aload_n 3, 1) := by decide +kernel
theorem dL_law_1611 : decode cL_law 1611 = .ok (.iconst 0, 1) := by decide +kernel
theorem dL_law_1612 : decode cL_law 1612 = .ok (.laload, 1) := by decide +kernel
theorem dL_law_1613 : decode cL_law 1613 = .ok (.iload 7, 2) := by decide +kernel
theorem dL_law_1615 : decode cL_law 1615 = .ok (.i2l, 1) := by decide +kernel
theorem dL_law_1616 : decode cL_law 1616 = .ok (.lcmp, 1) := by decide +kernel
theorem dL_law_1617 : decode cL_law 1617 = .ok (.ifCond .eq 5, 3) := by decide +kernel
theorem dL_law_1620 : decode cL_law 1620 = .ok (.iconst 0, 1) := by decide +kernel
theorem dL_law_1621 : decode cL_law 1621 = .ok (.ireturn, 1) := by decide +kernel
theorem dL_law_1622 : decode cL_law 1622 = .ok (.goto 307, 3) := by decide +kernel
theorem dL_law_1625 : decode cL_law 1625 = .ok (.aload_n 1, 1) := by decide +kernel
theorem dL_law_1626 : decode cL_law 1626 = .ok (.aload_n 0, 1) := by decide +kernel
theorem dL_law_1627 : decode cL_law 1627 = .ok (.iload 5, 2) := by decide +kernel
theorem dL_law_1629 : decode cL_law 1629 = .ok (.iconst 1, 1) := by decide +kernel
theorem dL_law_1630 : decode cL_law 1630 = .ok (.iadd, 1) := by decide +kernel
theorem dL_law_1631 : decode cL_law 1631 = .ok (.iaload, 1) := by decide +kernel
theorem dL_law_1632 : decode cL_law 1632 = .ok (.aload_n 3, 1) := by decide +kernel
theorem dL_law_1633 : decode cL_law 1633 = .ok (.invokestatic 179, 3) := by decide +kernel
theorem dL_law_1636 : decode cL_law 1636 = .ok (.istore 6, 2) := by decide +kernel
theorem dL_law_1638 : decode cL_law 1638 = .ok (.aload_n 2, 1) := by decide +kernel
theorem dL_law_1639 : decode cL_law 1639 = .ok (.aload_n 0, 1) := by decide +kernel
theorem dL_law_1640 : decode cL_law 1640 = .ok (.iload 5, 2) := by decide +kernel
theorem dL_law_1642 : decode cL_law 1642 = .ok (.iconst 1, 1) := by decide +kernel
theorem dL_law_1643 : decode cL_law 1643 = .ok (.iadd, 1) := by decide +kernel
theorem dL_law_1644 : decode cL_law 1644 = .ok (.iaload, 1) := by decide +kernel
theorem dL_law_1645 : decode cL_law 1645 = .ok (.invokevirtual 181, 3) := by decide +kernel
theorem dL_law_1648 : decode cL_law 1648 = .ok (.istore 7, 2) := by decide +kernel
theorem dL_law_1650 : decode cL_law 1650 = .ok (.aload_n 2, 1) := by decide +kernel
theorem dL_law_1651 : decode cL_law 1651 = .ok (.invokevirtual 106, 3) := by decide +kernel
theorem dL_law_1654 : decode cL_law 1654 = .ok (.iload 6, 2) := by decide +kernel
theorem dL_law_1656 : decode cL_law 1656 = .ok (.if_icmp .eq 5, 3) := by decide +kernel
theorem dL_law_1659 : decode cL_law 1659 = .ok (.iconst 0, 1) := by decide +kernel
theorem dL_law_1660 : decode cL_law 1660 = .ok (.ireturn, 1) := by decide +kernel
theorem dL_law_1661 : decode cL_law 1661 = .ok (.iload 6, 2) := by decide +kernel
theorem dL_law_1663 : decode cL_law 1663 = .ok (.ifCond .ne 15, 3) := by decide +kernel
theorem dL_law_1666 : decode cL_law 1666 = .ok (.aload_n 3, 1) := by decide +kernel
theorem dL_law_1667 : decode cL_law 1667 = .ok (.iconst 0, 1) := by decide +kernel
theorem dL_law_1668 : decode cL_law 1668 = .ok (.laload, 1) := by decide +kernel
theorem dL_law_1669 : decode cL_law 1669 = .ok (.iload 7, 2) := by decide +kernel
theorem dL_law_1671 : decode cL_law 1671 = .ok (.i2l, 1) := by decide +kernel
theorem dL_law_1672 : decode cL_law 1672 = .ok (.lcmp, 1) := by decide +kernel
theorem dL_law_1673 : decode cL_law 1673 = .ok (.ifCond .eq 5, 3) := by decide +kernel
theorem dL_law_1676 : decode cL_law 1676 = .ok (.iconst 0, 1) := by decide +kernel
theorem dL_law_1677 : decode cL_law 1677 = .ok (.ireturn, 1) := by decide +kernel
theorem dL_law_1678 : decode cL_law 1678 = .ok (.goto 251, 3) := by decide +kernel
theorem dL_law_1681 : decode cL_law 1681 = .ok (.aload_n 1, 1) := by decide +kernel
theorem dL_law_1682 : decode cL_law 1682 = .ok (.aload_n 0, 1) := by decide +kernel
theorem dL_law_1683 : decode cL_law 1683 = .ok (.iload 5, 2) := by decide +kernel
theorem dL_law_1685 : decode cL_law 1685 = .ok (.iconst 1, 1) := by decide +kernel
theorem dL_law_1686 : decode cL_law 1686 = .ok (.iadd, 1) := by decide +kernel
theorem dL_law_1687 : decode cL_law 1687 = .ok (.iaload, 1) := by decide +kernel
theorem dL_law_1688 : decode cL_law 1688 = .ok (.aload_n 3, 1) := by decide +kernel
theorem dL_law_1689 : decode cL_law 1689 = .ok (.invokestatic 182, 3) := by decide +kernel
theorem dL_law_1692 : decode cL_law 1692 = .ok (.istore 6, 2) := by decide +kernel
theorem dL_law_1694 : decode cL_law 1694 = .ok (.aload_n 2, 1) := by decide +kernel
theorem dL_law_1695 : decode cL_law 1695 = .ok (.aload_n 0, 1) := by decide +kernel
theorem dL_law_1696 : decode cL_law 1696 = .ok (.iload 5, 2) := by decide +kernel
theorem dL_law_1698 : decode cL_law 1698 = .ok (.iconst 1, 1) := by decide +kernel
theorem dL_law_1699 : decode cL_law 1699 = .ok (.iadd, 1) := by decide +kernel
theorem dL_law_1700 : decode cL_law 1700 = .ok (.iaload, 1) := by decide +kernel
theorem dL_law_1701 : decode cL_law 1701 = .ok (.invokevirtual 184, 3) := by decide +kernel
theorem dL_law_1704 : decode cL_law 1704 = .ok (.istore 7, 2) := by decide +kernel
theorem dL_law_1706 : decode cL_law 1706 = .ok (.aload_n 2, 1) := by decide +kernel
theorem dL_law_1707 : decode cL_law 1707 = .ok (.invokevirtual 106, 3) := by decide +kernel
theorem dL_law_1710 : decode cL_law 1710 = .ok (.iload 6, 2) := by decide +kernel
theorem dL_law_1712 : decode cL_law 1712 = .ok (.if_icmp .eq 5, 3) := by decide +kernel
theorem dL_law_1715 : decode cL_law 1715 = .ok (.iconst 0, 1) := by decide +kernel
theorem dL_law_1716 : decode cL_law 1716 = .ok (.ireturn, 1) := by decide +kernel
theorem dL_law_1717 : decode cL_law 1717 = .ok (.iload 6, 2) := by decide +kernel
theorem dL_law_1719 : decode cL_law 1719 = .ok (.ifCond .ne 15, 3) := by decide +kernel
theorem dL_law_1722 : decode cL_law 1722 = .ok (.aload_n 3, 1) := by decide +kernel
theorem dL_law_1723 : decode cL_law 1723 = .ok (.iconst 0, 1) := by decide +kernel
theorem dL_law_1724 : decode cL_law 1724 = .ok (.laload, 1) := by decide +kernel
theorem dL_law_1725 : decode cL_law 1725 = .ok (.iload 7, 2) := by decide +kernel
theorem dL_law_1727 : decode cL_law 1727 = .ok (.i2l, 1) := by decide +kernel
theorem dL_law_1728 : decode cL_law 1728 = .ok (.lcmp, 1) := by decide +kernel
theorem dL_law_1729 : decode cL_law 1729 = .ok (.ifCond .eq 5, 3) := by decide +kernel
theorem dL_law_1732 : decode cL_law 1732 = .ok (.iconst 0, 1) := by decide +kernel
theorem dL_law_1733 : decode cL_law 1733 = .ok (.ireturn, 1) := by decide +kernel
theorem dL_law_1734 : decode cL_law 1734 = .ok (.goto 195, 3) := by decide +kernel
theorem dL_law_1737 : decode cL_law 1737 = .ok (.aload_n 1, 1) := by decide +kernel
theorem dL_law_1738 : decode cL_law 1738 = .ok (.aload_n 0, 1) := by decide +kernel
theorem dL_law_1739 : decode cL_law 1739 = .ok (.iload 5, 2) := by decide +kernel
theorem dL_law_1741 : decode cL_law 1741 = .ok (.iconst 1, 1) := by decide +kernel
theorem dL_law_1742 : decode cL_law 1742 = .ok (.iadd, 1) := by decide +kernel
theorem dL_law_1743 : decode cL_law 1743 = .ok (.iaload, 1) := by decide +kernel
theorem dL_law_1744 : decode cL_law 1744 = .ok (.aload_n 0, 1) := by decide +kernel
theorem dL_law_1745 : decode cL_law 1745 = .ok (.iload 5, 2) := by decide +kernel
theorem dL_law_1747 : decode cL_law 1747 = .ok (.iconst 2, 1) := by decide +kernel
theorem dL_law_1748 : decode cL_law 1748 = .ok (.iadd, 1) := by decide +kernel
theorem dL_law_1749 : decode cL_law 1749 = .ok (.iaload, 1) := by decide +kernel
theorem dL_law_1750 : decode cL_law 1750 = .ok (.aload_n 3, 1) := by decide +kernel
theorem dL_law_1751 : decode cL_law 1751 = .ok (.invokestatic 185, 3) := by decide +kernel
theorem dL_law_1754 : decode cL_law 1754 = .ok (.istore 6, 2) := by decide +kernel
theorem dL_law_1756 : decode cL_law 1756 = .ok (.aload_n 2, 1) := by decide +kernel
theorem dL_law_1757 : decode cL_law 1757 = .ok (.aload_n 0, 1) := by decide +kernel
theorem dL_law_1758 : decode cL_law 1758 = .ok (.iload 5, 2) := by decide +kernel
theorem dL_law_1760 : decode cL_law 1760 = .ok (.iconst 1, 1) := by decide +kernel
theorem dL_law_1761 : decode cL_law 1761 = .ok (.iadd, 1) := by decide +kernel
theorem dL_law_1762 : decode cL_law 1762 = .ok (.iaload, 1) := by decide +kernel
theorem dL_law_1763 : decode cL_law 1763 = .ok (.aload_n 0, 1) := by decide +kernel
theorem dL_law_1764 : decode cL_law 1764 = .ok (.iload 5, 2) := by decide +kernel
theorem dL_law_1766 : decode cL_law 1766 = .ok (.iconst 2, 1) := by decide +kernel
theorem dL_law_1767 : decode cL_law 1767 = .ok (.iadd, 1) := by decide +kernel
theorem dL_law_1768 : decode cL_law 1768 = .ok (.iaload, 1) := by decide +kernel
theorem dL_law_1769 : decode cL_law 1769 = .ok (.invokevirtual 187, 3) := by decide +kernel
theorem dL_law_1772 : decode cL_law 1772 = .ok (.istore 7, 2) := by decide +kernel
theorem dL_law_1774 : decode cL_law 1774 = .ok (.aload_n 2, 1) := by decide +kernel
theorem dL_law_1775 : decode cL_law 1775 = .ok (.invokevirtual 106, 3) := by decide +kernel
theorem dL_law_1778 : decode cL_law 1778 = .ok (.iload 6, 2) := by decide +kernel
theorem dL_law_1780 : decode cL_law 1780 = .ok (.if_icmp .eq 5, 3) := by decide +kernel
theorem dL_law_1783 : decode cL_law 1783 = .ok (.iconst 0, 1) := by decide +kernel
theorem dL_law_1784 : decode cL_law 1784 = .ok (.ireturn, 1) := by decide +kernel
theorem dL_law_1785 : decode cL_law 1785 = .ok (.iload 6, 2) := by decide +kernel
theorem dL_law_1787 : decode cL_law 1787 = .ok (.ifCond .ne 15, 3) := by decide +kernel
theorem dL_law_1790 : decode cL_law 1790 = .ok (.aload_n 3, 1) := by decide +kernel
theorem dL_law_1791 : decode cL_law 1791 = .ok (.iconst 0, 1) := by decide +kernel
theorem dL_law_1792 : decode cL_law 1792 = .ok (.laload, 1) := by decide +kernel
theorem dL_law_1793 : decode cL_law 1793 = .ok (.iload 7, 2) := by decide +kernel
theorem dL_law_1795 : decode cL_law 1795 = .ok (.i2l, 1) := by decide +kernel
theorem dL_law_1796 : decode cL_law 1796 = .ok (.lcmp, 1) := by decide +kernel
theorem dL_law_1797 : decode cL_law 1797 = .ok (.ifCond .eq 5, 3) := by decide +kernel
theorem dL_law_1800 : decode cL_law 1800 = .ok (.iconst 0, 1) := by decide +kernel
theorem dL_law_1801 : decode cL_law 1801 = .ok (.ireturn, 1) := by decide +kernel
theorem dL_law_1802 : decode cL_law 1802 = .ok (.goto 127, 3) := by decide +kernel
theorem dL_law_1805 : decode cL_law 1805 = .ok (.aload_n 1, 1) := by decide +kernel
theorem dL_law_1806 : decode cL_law 1806 = .ok (.aload_n 0, 1) := by decide +kernel
theorem dL_law_1807 : decode cL_law 1807 = .ok (.iload 5, 2) := by decide +kernel
theorem dL_law_1809 : decode cL_law 1809 = .ok (.iconst 1, 1) := by decide +kernel
theorem dL_law_1810 : decode cL_law 1810 = .ok (.iadd, 1) := by decide +kernel
theorem dL_law_1811 : decode cL_law 1811 = .ok (.iaload, 1) := by decide +kernel
theorem dL_law_1812 : decode cL_law 1812 = .ok (.aload_n 0, 1) := by decide +kernel
theorem dL_law_1813 : decode cL_law 1813 = .ok (.iload 5, 2) := by decide +kernel
theorem dL_law_1815 : decode cL_law 1815 = .ok (.iconst 2, 1) := by decide +kernel
theorem dL_law_1816 : decode cL_law 1816 = .ok (.iadd, 1) := by decide +kernel
theorem dL_law_1817 : decode cL_law 1817 = .ok (.iaload, 1) := by decide +kernel
theorem dL_law_1818 : decode cL_law 1818 = .ok (.aload_n 3, 1) := by decide +kernel
theorem dL_law_1819 : decode cL_law 1819 = .ok (.invokestatic 188, 3) := by decide +kernel
theorem dL_law_1822 : decode cL_law 1822 = .ok (.istore 6, 2) := by decide +kernel
theorem dL_law_1824 : decode cL_law 1824 = .ok (.aload_n 2, 1) := by decide +kernel
theorem dL_law_1825 : decode cL_law 1825 = .ok (.aload_n 0, 1) := by decide +kernel
theorem dL_law_1826 : decode cL_law 1826 = .ok (.iload 5, 2) := by decide +kernel
theorem dL_law_1828 : decode cL_law 1828 = .ok (.iconst 1, 1) := by decide +kernel
theorem dL_law_1829 : decode cL_law 1829 = .ok (.iadd, 1) := by decide +kernel
theorem dL_law_1830 : decode cL_law 1830 = .ok (.iaload, 1) := by decide +kernel
theorem dL_law_1831 : decode cL_law 1831 = .ok (.aload_n 0, 1) := by decide +kernel
theorem dL_law_1832 : decode cL_law 1832 = .ok (.iload 5, 2) := by decide +kernel
theorem dL_law_1834 : decode cL_law 1834 = .ok (.iconst 2, 1) := by decide +kernel
theorem dL_law_1835 : decode cL_law 1835 = .ok (.iadd, 1) := by decide +kernel
theorem dL_law_1836 : decode cL_law 1836 = .ok (.iaload, 1) := by decide +kernel
theorem dL_law_1837 : decode cL_law 1837 = .ok (.invokevirtual 190, 3) := by decide +kernel
theorem dL_law_1840 : decode cL_law 1840 = .ok (.istore 7, 2) := by decide +kernel
theorem dL_law_1842 : decode cL_law 1842 = .ok (.aload_n 2, 1) := by decide +kernel
theorem dL_law_1843 : decode cL_law 1843 = .ok (.invokevirtual 106, 3) := by decide +kernel
theorem dL_law_1846 : decode cL_law 1846 = .ok (.iload 6, 2) := by decide +kernel
theorem dL_law_1848 : decode cL_law 1848 = .ok (.if_icmp .eq 5, 3) := by decide +kernel
theorem dL_law_1851 : decode cL_law 1851 = .ok (.iconst 0, 1) := by decide +kernel
theorem dL_law_1852 : decode cL_law 1852 = .ok (.ireturn, 1) := by decide +kernel
theorem dL_law_1853 : decode cL_law 1853 = .ok (.iload 6, 2) := by decide +kernel
theorem dL_law_1855 : decode cL_law 1855 = .ok (.ifCond .ne 15, 3) := by decide +kernel
theorem dL_law_1858 : decode cL_law 1858 = .ok (.aload_n 3, 1) := by decide +kernel
theorem dL_law_1859 : decode cL_law 1859 = .ok (.iconst 0, 1) := by decide +kernel
theorem dL_law_1860 : decode cL_law 1860 = .ok (.laload, 1) := by decide +kernel
theorem dL_law_1861 : decode cL_law 1861 = .ok (.iload 7, 2) := by decide +kernel
theorem dL_law_1863 : decode cL_law 1863 = .ok (.i2l, 1) := by decide +kernel
theorem dL_law_1864 : decode cL_law 1864 = .ok (.lcmp, 1) := by decide +kernel
theorem dL_law_1865 : decode cL_law 1865 = .ok (.ifCond .eq 5, 3) := by decide +kernel
theorem dL_law_1868 : decode cL_law 1868 = .ok (.iconst 0, 1) := by decide +kernel
theorem dL_law_1869 : decode cL_law 1869 = .ok (.ireturn, 1) := by decide +kernel
theorem dL_law_1870 : decode cL_law 1870 = .ok (.goto 59, 3) := by decide +kernel
theorem dL_law_1873 : decode cL_law 1873 = .ok (.aload_n 1, 1) := by decide +kernel
theorem dL_law_1874 : decode cL_law 1874 = .ok (.aload_n 0, 1) := by decide +kernel
theorem dL_law_1875 : decode cL_law 1875 = .ok (.iload 5, 2) := by decide +kernel
theorem dL_law_1877 : decode cL_law 1877 = .ok (.iconst 1, 1) := by decide +kernel
theorem dL_law_1878 : decode cL_law 1878 = .ok (.iadd, 1) := by decide +kernel
theorem dL_law_1879 : decode cL_law 1879 = .ok (.iaload, 1) := by decide +kernel
theorem dL_law_1880 : decode cL_law 1880 = .ok (.aload_n 3, 1) := by decide +kernel
theorem dL_law_1881 : decode cL_law 1881 = .ok (.invokestatic 191, 3) := by decide +kernel
theorem dL_law_1884 : decode cL_law 1884 = .ok (.istore 6, 2) := by decide +kernel
theorem dL_law_1886 : decode cL_law 1886 = .ok (.aload_n 2, 1) := by decide +kernel
theorem dL_law_1887 : decode cL_law 1887 = .ok (.aload_n 0, 1) := by decide +kernel
theorem dL_law_1888 : decode cL_law 1888 = .ok (.iload 5, 2) := by decide +kernel
theorem dL_law_1890 : decode cL_law 1890 = .ok (.iconst 1, 1) := by decide +kernel
theorem dL_law_1891 : decode cL_law 1891 = .ok (.iadd, 1) := by decide +kernel
theorem dL_law_1892 : decode cL_law 1892 = .ok (.iaload, 1) := by decide +kernel
theorem dL_law_1893 : decode cL_law 1893 = .ok (.invokevirtual 193, 3) := by decide +kernel
theorem dL_law_1896 : decode cL_law 1896 = .ok (.istore 7, 2) := by decide +kernel
theorem dL_law_1898 : decode cL_law 1898 = .ok (.aload_n 2, 1) := by decide +kernel
theorem dL_law_1899 : decode cL_law 1899 = .ok (.invokevirtual 106, 3) := by decide +kernel
theorem dL_law_1902 : decode cL_law 1902 = .ok (.iload 6, 2) := by decide +kernel
theorem dL_law_1904 : decode cL_law 1904 = .ok (.if_icmp .eq 5, 3) := by decide +kernel
theorem dL_law_1907 : decode cL_law 1907 = .ok (.iconst 0, 1) := by decide +kernel
theorem dL_law_1908 : decode cL_law 1908 = .ok (.ireturn, 1) := by decide +kernel
theorem dL_law_1909 : decode cL_law 1909 = .ok (.iload 6, 2) := by decide +kernel
theorem dL_law_1911 : decode cL_law 1911 = .ok (.ifCond .ne 15, 3) := by decide +kernel
theorem dL_law_1914 : decode cL_law 1914 = .ok (.aload_n 3, 1) := by decide +kernel
theorem dL_law_1915 : decode cL_law 1915 = .ok (.iconst 0, 1) := by decide +kernel
theorem dL_law_1916 : decode cL_law 1916 = .ok (.laload, 1) := by decide +kernel
theorem dL_law_1917 : decode cL_law 1917 = .ok (.iload 7, 2) := by decide +kernel
theorem dL_law_1919 : decode cL_law 1919 = .ok (.i2l, 1) := by decide +kernel
theorem dL_law_1920 : decode cL_law 1920 = .ok (.lcmp, 1) := by decide +kernel
theorem dL_law_1921 : decode cL_law 1921 = .ok (.ifCond .eq 5, 3) := by decide +kernel
theorem dL_law_1924 : decode cL_law 1924 = .ok (.iconst 0, 1) := by decide +kernel
theorem dL_law_1925 : decode cL_law 1925 = .ok (.ireturn, 1) := by decide +kernel
theorem dL_law_1926 : decode cL_law 1926 = .ok (.goto 3, 3) := by decide +kernel
theorem dL_law_1929 : decode cL_law 1929 = .ok (.iinc 5 5, 3) := by decide +kernel
theorem dL_law_1932 : decode cL_law 1932 = .ok (.goto (-1904), 3) := by decide +kernel
theorem dL_law_1935 : decode cL_law 1935 = .ok (.iconst 1, 1) := by decide +kernel
theorem dL_law_1936 : decode cL_law 1936 = .ok (.ireturn, 1) := by decide +kernel
end
section
/-! what the tables say beyond the good words, in one bundle -/
def EX_0 (sa : Nat → Nat) (U : State) : Prop := (va_Nw (.fieldLinkNest RX3 89 "MailFollower$Changes" "latest" "I" "MailFollower") U) ∧ (va_Nw (.fieldLinkNest RX1 79 "MailFollower$Changes" "latest" "I" "MailFollower") U) ∧ (va_Nw (.fieldLinkNest RX3 85 "MailFollower$Server" "changes" "LMailFollower$Changes;" "MailFollower") U) ∧ (va_Nw (.fieldLinkNest RX1 59 "MailFollower$Server" "changes" "LMailFollower$Changes;" "MailFollower") U) ∧ (va_Nw (.fieldLinkNest RX3 44 "MailFollower$Server" "come" "I" "MailFollower") U) ∧ (va_Nw (.fieldLinkNest RX3 172 "MailFollower$Client" "box" "I" "MailFollower") U) ∧ (va_Nw (.fieldLinkNest RX3 175 "MailFollower$Client" "width" "I" "MailFollower") U) ∧ (va_Nw (.fieldLinkNest RX3 197 "MailFollower$Client" "syncState" "I" "MailFollower") U) ∧ (va_Nw (.fieldLinkNest RX3 200 "MailFollower$Client" "loads" "I" "MailFollower") U)
def EX_1 (sa : Nat → Nat) (U : State) : Prop := (va_Nw (.fieldLinkNest RX3 225 "MailFollower$Client" "windowMails" "[I" "MailFollower") U) ∧ (va_Nw (.fieldLinkNest RX3 229 "MailFollower$Client" "windowKeywords" "[I" "MailFollower") U) ∧ (va_Nw (.fieldLinkNest RX3 214 "MailFollower$Client" "windowSize" "I" "MailFollower") U) ∧ (va_Nw (.fieldLinkNest RX3 185 "MailFollower$Client" "flags" "I" "MailFollower") U) ∧ (va_Nw (.methodLinkNest RX2 77 yX3_matches "MailFollower") U) ∧ (va_Nw (.methodLinkNest RX2 65 yX3_with "MailFollower") U) ∧ (va_Nw (.methodLinkNest RX2 34 yX3_isWithin "MailFollower") U) ∧ (va_Nw (.methodLinkNest RX0 44 yX3_matches "MailFollower") U) ∧ (va_Nw (.methodLinkNest RX0 48 yX3_with "MailFollower") U)
def EX_2 (sa : Nat → Nat) (U : State) : Prop := (va_Nw (.methodLinkNest RX0 52 yX3_holds "MailFollower") U) ∧ (va_Nw (.methodLinkNest RX2 99 yX3_holds "MailFollower") U) ∧ (va_Nw (.methodLinkNest RX1 39 yX3_with "MailFollower") U) ∧ (va_Nw (.castable "java/lang/IllegalArgumentException" "java/lang/IllegalArgumentException") U) ∧ (va_Nw (.castable "java/lang/IllegalStateException" "java/lang/IllegalStateException") U) ∧ (va_Nw (.castable "java/lang/IndexOutOfBoundsException" "java/lang/IndexOutOfBoundsException") U) ∧ (vk_R RX3 39 "time, boxes or thread is out of range" (sa 0) U) ∧ (vk_R RX3 50 "all mails have come" (sa 1) U) ∧ (vk_R RX3 222 "there is no such mail" (sa 2) U)
def EX_3 (sa : Nat → Nat) (U : State) : Prop := (vk_R RX3 64 "boxes is out of range" (sa 3) U) ∧ (vk_R RX3 79 "keyword is out of range" (sa 4) U) ∧ (vk_R RX3 94 "the state is another one" (sa 5) U) ∧ (vk_R RX3 106 "thread is out of range" (sa 6) U) ∧ (vk_R RX3 114 "box or keyword is out of range" (sa 7) U) ∧ (vk_R RX3 119 "state is out of range" (sa 8) U) ∧ (vk_R RX3 127 "state or way is out of range" (sa 9) U) ∧ (vk_R RX3 234 "the server cannot tell what changed" (sa 10) U) ∧ (vk_R RX3 140 "state or places is out of range" (sa 11) U)
def EX_4 (sa : Nat → Nat) (U : State) : Prop := (vk_R RX3 155 "state, box or keyword is out of range" (sa 12) U) ∧ (vk_R RX3 166 "client, box or width is out of range" (sa 13) U) ∧ (vk_R RX3 178 "client or keyword is out of range" (sa 14) U) ∧ (vk_R RX3 183 "the mail is not in the window" (sa 15) U) ∧ (vk_R RX3 188 "the list is full" (sa 16) U) ∧ (vk_R RX3 232 "client is out of range" (sa 17) U) ∧ (va_Nw (.declares ⟨"java/lang/RuntimeException", "<init>", "(Ljava/lang/String;)V"⟩) U) ∧ (va_Nw (.declares ⟨"java/lang/Exception", "<init>", "(Ljava/lang/String;)V"⟩) U) ∧ (va_Nw (.declares ⟨"java/lang/Throwable", "<init>", "(Ljava/lang/String;)V"⟩) U)
def EX_5 (sa : Nat → Nat) (U : State) : Prop := (va_Nc "java/lang/IllegalArgumentException" "java/lang/IllegalStateException" U) ∧ (va_Nc "java/lang/IllegalArgumentException" "java/lang/IndexOutOfBoundsException" U) ∧ (va_Nc "java/lang/IllegalStateException" "java/lang/IllegalArgumentException" U) ∧ (va_Nc "java/lang/IllegalStateException" "java/lang/IndexOutOfBoundsException" U) ∧ (va_Nc "java/lang/IndexOutOfBoundsException" "java/lang/IllegalArgumentException" U) ∧ (va_Nc "java/lang/IndexOutOfBoundsException" "java/lang/IllegalStateException" U)
def EX (sa : Nat → Nat) (U : State) : Prop := EX_0 sa U ∧ EX_1 sa U ∧ EX_2 sa U ∧ EX_3 sa U ∧ EX_4 sa U ∧ EX_5 sa U
theorem EX_0.warm {sa : Nat → Nat} {s U : State} (hW : s.WarmedH U.vm) (h : EX_0 sa s) : EX_0 sa U := by
  obtain ⟨h0, h1, h2, h3, h4, h5, h6, h7, h8⟩ := h
  exact ⟨va_Nw.warmF hW h0, va_Nw.warmF hW h1, va_Nw.warmF hW h2, va_Nw.warmF hW h3, va_Nw.warmF hW h4, va_Nw.warmF hW h5, va_Nw.warmF hW h6, va_Nw.warmF hW h7, va_Nw.warmF hW h8⟩
theorem EX_0.same {sa : Nat → Nat} {s U : State} (hv : s.vm = U.vm) (h : EX_0 sa s) : EX_0 sa U := by
  obtain ⟨h0, h1, h2, h3, h4, h5, h6, h7, h8⟩ := h
  exact ⟨va_Nw.same rfl hv h0, va_Nw.same rfl hv h1, va_Nw.same rfl hv h2, va_Nw.same rfl hv h3, va_Nw.same rfl hv h4, va_Nw.same rfl hv h5, va_Nw.same rfl hv h6, va_Nw.same rfl hv h7, va_Nw.same rfl hv h8⟩
theorem EX_1.warm {sa : Nat → Nat} {s U : State} (hW : s.WarmedH U.vm) (h : EX_1 sa s) : EX_1 sa U := by
  obtain ⟨h0, h1, h2, h3, h4, h5, h6, h7, h8⟩ := h
  exact ⟨va_Nw.warmF hW h0, va_Nw.warmF hW h1, va_Nw.warmF hW h2, va_Nw.warmF hW h3, va_Nw.warmM hW h4, va_Nw.warmM hW h5, va_Nw.warmM hW h6, va_Nw.warmM hW h7, va_Nw.warmM hW h8⟩
theorem EX_1.same {sa : Nat → Nat} {s U : State} (hv : s.vm = U.vm) (h : EX_1 sa s) : EX_1 sa U := by
  obtain ⟨h0, h1, h2, h3, h4, h5, h6, h7, h8⟩ := h
  exact ⟨va_Nw.same rfl hv h0, va_Nw.same rfl hv h1, va_Nw.same rfl hv h2, va_Nw.same rfl hv h3, va_Nw.same rfl hv h4, va_Nw.same rfl hv h5, va_Nw.same rfl hv h6, va_Nw.same rfl hv h7, va_Nw.same rfl hv h8⟩
theorem EX_2.warm {sa : Nat → Nat} {s U : State} (hW : s.WarmedH U.vm) (h : EX_2 sa s) : EX_2 sa U := by
  obtain ⟨h0, h1, h2, h3, h4, h5, h6, h7, h8⟩ := h
  exact ⟨va_Nw.warmM hW h0, va_Nw.warmM hW h1, va_Nw.warmM hW h2, va_Nw.warmC hW h3, va_Nw.warmC hW h4, va_Nw.warmC hW h5, vk_R.warm hW h6, vk_R.warm hW h7, vk_R.warm hW h8⟩
theorem EX_2.same {sa : Nat → Nat} {s U : State} (hv : s.vm = U.vm) (h : EX_2 sa s) : EX_2 sa U := by
  obtain ⟨h0, h1, h2, h3, h4, h5, h6, h7, h8⟩ := h
  exact ⟨va_Nw.same rfl hv h0, va_Nw.same rfl hv h1, va_Nw.same rfl hv h2, va_Nw.same rfl hv h3, va_Nw.same rfl hv h4, va_Nw.same rfl hv h5, vk_R.same hv.symm h6, vk_R.same hv.symm h7, vk_R.same hv.symm h8⟩
theorem EX_3.warm {sa : Nat → Nat} {s U : State} (hW : s.WarmedH U.vm) (h : EX_3 sa s) : EX_3 sa U := by
  obtain ⟨h0, h1, h2, h3, h4, h5, h6, h7, h8⟩ := h
  exact ⟨vk_R.warm hW h0, vk_R.warm hW h1, vk_R.warm hW h2, vk_R.warm hW h3, vk_R.warm hW h4, vk_R.warm hW h5, vk_R.warm hW h6, vk_R.warm hW h7, vk_R.warm hW h8⟩
theorem EX_3.same {sa : Nat → Nat} {s U : State} (hv : s.vm = U.vm) (h : EX_3 sa s) : EX_3 sa U := by
  obtain ⟨h0, h1, h2, h3, h4, h5, h6, h7, h8⟩ := h
  exact ⟨vk_R.same hv.symm h0, vk_R.same hv.symm h1, vk_R.same hv.symm h2, vk_R.same hv.symm h3, vk_R.same hv.symm h4, vk_R.same hv.symm h5, vk_R.same hv.symm h6, vk_R.same hv.symm h7, vk_R.same hv.symm h8⟩
theorem EX_4.warm {sa : Nat → Nat} {s U : State} (hW : s.WarmedH U.vm) (h : EX_4 sa s) : EX_4 sa U := by
  obtain ⟨h0, h1, h2, h3, h4, h5, h6, h7, h8⟩ := h
  exact ⟨vk_R.warm hW h0, vk_R.warm hW h1, vk_R.warm hW h2, vk_R.warm hW h3, vk_R.warm hW h4, vk_R.warm hW h5, va_Nw.warmD hW h6, va_Nw.warmD hW h7, va_Nw.warmD hW h8⟩
theorem EX_4.same {sa : Nat → Nat} {s U : State} (hv : s.vm = U.vm) (h : EX_4 sa s) : EX_4 sa U := by
  obtain ⟨h0, h1, h2, h3, h4, h5, h6, h7, h8⟩ := h
  exact ⟨vk_R.same hv.symm h0, vk_R.same hv.symm h1, vk_R.same hv.symm h2, vk_R.same hv.symm h3, vk_R.same hv.symm h4, vk_R.same hv.symm h5, va_Nw.same rfl hv h6, va_Nw.same rfl hv h7, va_Nw.same rfl hv h8⟩
theorem EX_5.warm {sa : Nat → Nat} {s U : State} (hW : s.WarmedH U.vm) (h : EX_5 sa s) : EX_5 sa U := by
  obtain ⟨h0, h1, h2, h3, h4, h5⟩ := h
  exact ⟨va_Nc.moved hW.alike h0, va_Nc.moved hW.alike h1, va_Nc.moved hW.alike h2, va_Nc.moved hW.alike h3, va_Nc.moved hW.alike h4, va_Nc.moved hW.alike h5⟩
theorem EX_5.same {sa : Nat → Nat} {s U : State} (hv : s.vm = U.vm) (h : EX_5 sa s) : EX_5 sa U := by
  obtain ⟨h0, h1, h2, h3, h4, h5⟩ := h
  exact ⟨va_Nc.moved (hv ▸ Vm.Alike.refl _) h0, va_Nc.moved (hv ▸ Vm.Alike.refl _) h1, va_Nc.moved (hv ▸ Vm.Alike.refl _) h2, va_Nc.moved (hv ▸ Vm.Alike.refl _) h3, va_Nc.moved (hv ▸ Vm.Alike.refl _) h4, va_Nc.moved (hv ▸ Vm.Alike.refl _) h5⟩
theorem EX.warm {sa : Nat → Nat} {s U : State} (hW : s.WarmedH U.vm) (h : EX sa s) : EX sa U := by
  obtain ⟨h0, h1, h2, h3, h4, h5⟩ := h
  exact ⟨EX_0.warm hW h0, EX_1.warm hW h1, EX_2.warm hW h2, EX_3.warm hW h3, EX_4.warm hW h4, EX_5.warm hW h5⟩
theorem EX.same {sa : Nat → Nat} {s U : State} (hv : s.vm = U.vm) (h : EX sa s) : EX sa U := by
  obtain ⟨h0, h1, h2, h3, h4, h5⟩ := h
  exact ⟨EX_0.same hv h0, EX_1.same hv h1, EX_2.same hv h2, EX_3.same hv h3, EX_4.same hv h4, EX_5.same hv h5⟩
theorem ex_RX3_89 {sa : Nat → Nat} {U : State} (h : EX sa U) : va_Nw (.fieldLinkNest RX3 89 "MailFollower$Changes" "latest" "I" "MailFollower") U := h.1.1
theorem ex_RX1_79 {sa : Nat → Nat} {U : State} (h : EX sa U) : va_Nw (.fieldLinkNest RX1 79 "MailFollower$Changes" "latest" "I" "MailFollower") U := h.1.2.1
theorem ex_RX3_85 {sa : Nat → Nat} {U : State} (h : EX sa U) : va_Nw (.fieldLinkNest RX3 85 "MailFollower$Server" "changes" "LMailFollower$Changes;" "MailFollower") U := h.1.2.2.1
theorem ex_RX1_59 {sa : Nat → Nat} {U : State} (h : EX sa U) : va_Nw (.fieldLinkNest RX1 59 "MailFollower$Server" "changes" "LMailFollower$Changes;" "MailFollower") U := h.1.2.2.2.1
theorem ex_RX3_44 {sa : Nat → Nat} {U : State} (h : EX sa U) : va_Nw (.fieldLinkNest RX3 44 "MailFollower$Server" "come" "I" "MailFollower") U := h.1.2.2.2.2.1
theorem ex_RX3_172 {sa : Nat → Nat} {U : State} (h : EX sa U) : va_Nw (.fieldLinkNest RX3 172 "MailFollower$Client" "box" "I" "MailFollower") U := h.1.2.2.2.2.2.1
theorem ex_RX3_175 {sa : Nat → Nat} {U : State} (h : EX sa U) : va_Nw (.fieldLinkNest RX3 175 "MailFollower$Client" "width" "I" "MailFollower") U := h.1.2.2.2.2.2.2.1
theorem ex_RX3_197 {sa : Nat → Nat} {U : State} (h : EX sa U) : va_Nw (.fieldLinkNest RX3 197 "MailFollower$Client" "syncState" "I" "MailFollower") U := h.1.2.2.2.2.2.2.2.1
theorem ex_RX3_200 {sa : Nat → Nat} {U : State} (h : EX sa U) : va_Nw (.fieldLinkNest RX3 200 "MailFollower$Client" "loads" "I" "MailFollower") U := h.1.2.2.2.2.2.2.2.2
theorem ex_RX3_225 {sa : Nat → Nat} {U : State} (h : EX sa U) : va_Nw (.fieldLinkNest RX3 225 "MailFollower$Client" "windowMails" "[I" "MailFollower") U := h.2.1.1
theorem ex_RX3_229 {sa : Nat → Nat} {U : State} (h : EX sa U) : va_Nw (.fieldLinkNest RX3 229 "MailFollower$Client" "windowKeywords" "[I" "MailFollower") U := h.2.1.2.1
theorem ex_RX3_214 {sa : Nat → Nat} {U : State} (h : EX sa U) : va_Nw (.fieldLinkNest RX3 214 "MailFollower$Client" "windowSize" "I" "MailFollower") U := h.2.1.2.2.1
theorem ex_RX3_185 {sa : Nat → Nat} {U : State} (h : EX sa U) : va_Nw (.fieldLinkNest RX3 185 "MailFollower$Client" "flags" "I" "MailFollower") U := h.2.1.2.2.2.1
theorem ex_RX2_77 {sa : Nat → Nat} {U : State} (h : EX sa U) : va_Nw (.methodLinkNest RX2 77 yX3_matches "MailFollower") U := h.2.1.2.2.2.2.1
theorem ex_RX2_65 {sa : Nat → Nat} {U : State} (h : EX sa U) : va_Nw (.methodLinkNest RX2 65 yX3_with "MailFollower") U := h.2.1.2.2.2.2.2.1
theorem ex_RX2_34 {sa : Nat → Nat} {U : State} (h : EX sa U) : va_Nw (.methodLinkNest RX2 34 yX3_isWithin "MailFollower") U := h.2.1.2.2.2.2.2.2.1
theorem ex_RX0_44 {sa : Nat → Nat} {U : State} (h : EX sa U) : va_Nw (.methodLinkNest RX0 44 yX3_matches "MailFollower") U := h.2.1.2.2.2.2.2.2.2.1
theorem ex_RX0_48 {sa : Nat → Nat} {U : State} (h : EX sa U) : va_Nw (.methodLinkNest RX0 48 yX3_with "MailFollower") U := h.2.1.2.2.2.2.2.2.2.2
theorem ex_RX0_52 {sa : Nat → Nat} {U : State} (h : EX sa U) : va_Nw (.methodLinkNest RX0 52 yX3_holds "MailFollower") U := h.2.2.1.1
theorem ex_RX2_99 {sa : Nat → Nat} {U : State} (h : EX sa U) : va_Nw (.methodLinkNest RX2 99 yX3_holds "MailFollower") U := h.2.2.1.2.1
theorem ex_RX1_39 {sa : Nat → Nat} {U : State} (h : EX sa U) : va_Nw (.methodLinkNest RX1 39 yX3_with "MailFollower") U := h.2.2.1.2.2.1
theorem ex_cA {sa : Nat → Nat} {U : State} (h : EX sa U) : va_Nw (.castable "java/lang/IllegalArgumentException" "java/lang/IllegalArgumentException") U := h.2.2.1.2.2.2.1
theorem ex_cS {sa : Nat → Nat} {U : State} (h : EX sa U) : va_Nw (.castable "java/lang/IllegalStateException" "java/lang/IllegalStateException") U := h.2.2.1.2.2.2.2.1
theorem ex_cI {sa : Nat → Nat} {U : State} (h : EX sa U) : va_Nw (.castable "java/lang/IndexOutOfBoundsException" "java/lang/IndexOutOfBoundsException") U := h.2.2.1.2.2.2.2.2.1
theorem ex_s39 {sa : Nat → Nat} {U : State} (h : EX sa U) : vk_R RX3 39 "time, boxes or thread is out of range" (sa 0) U := h.2.2.1.2.2.2.2.2.2.1
theorem ex_s50 {sa : Nat → Nat} {U : State} (h : EX sa U) : vk_R RX3 50 "all mails have come" (sa 1) U := h.2.2.1.2.2.2.2.2.2.2.1
theorem ex_s222 {sa : Nat → Nat} {U : State} (h : EX sa U) : vk_R RX3 222 "there is no such mail" (sa 2) U := h.2.2.1.2.2.2.2.2.2.2.2
theorem ex_s64 {sa : Nat → Nat} {U : State} (h : EX sa U) : vk_R RX3 64 "boxes is out of range" (sa 3) U := h.2.2.2.1.1
theorem ex_s79 {sa : Nat → Nat} {U : State} (h : EX sa U) : vk_R RX3 79 "keyword is out of range" (sa 4) U := h.2.2.2.1.2.1
theorem ex_s94 {sa : Nat → Nat} {U : State} (h : EX sa U) : vk_R RX3 94 "the state is another one" (sa 5) U := h.2.2.2.1.2.2.1
theorem ex_s106 {sa : Nat → Nat} {U : State} (h : EX sa U) : vk_R RX3 106 "thread is out of range" (sa 6) U := h.2.2.2.1.2.2.2.1
theorem ex_s114 {sa : Nat → Nat} {U : State} (h : EX sa U) : vk_R RX3 114 "box or keyword is out of range" (sa 7) U := h.2.2.2.1.2.2.2.2.1
theorem ex_s119 {sa : Nat → Nat} {U : State} (h : EX sa U) : vk_R RX3 119 "state is out of range" (sa 8) U := h.2.2.2.1.2.2.2.2.2.1
theorem ex_s127 {sa : Nat → Nat} {U : State} (h : EX sa U) : vk_R RX3 127 "state or way is out of range" (sa 9) U := h.2.2.2.1.2.2.2.2.2.2.1
theorem ex_s234 {sa : Nat → Nat} {U : State} (h : EX sa U) : vk_R RX3 234 "the server cannot tell what changed" (sa 10) U := h.2.2.2.1.2.2.2.2.2.2.2.1
theorem ex_s140 {sa : Nat → Nat} {U : State} (h : EX sa U) : vk_R RX3 140 "state or places is out of range" (sa 11) U := h.2.2.2.1.2.2.2.2.2.2.2.2
theorem ex_s155 {sa : Nat → Nat} {U : State} (h : EX sa U) : vk_R RX3 155 "state, box or keyword is out of range" (sa 12) U := h.2.2.2.2.1.1
theorem ex_s166 {sa : Nat → Nat} {U : State} (h : EX sa U) : vk_R RX3 166 "client, box or width is out of range" (sa 13) U := h.2.2.2.2.1.2.1
theorem ex_s178 {sa : Nat → Nat} {U : State} (h : EX sa U) : vk_R RX3 178 "client or keyword is out of range" (sa 14) U := h.2.2.2.2.1.2.2.1
theorem ex_s183 {sa : Nat → Nat} {U : State} (h : EX sa U) : vk_R RX3 183 "the mail is not in the window" (sa 15) U := h.2.2.2.2.1.2.2.2.1
theorem ex_s188 {sa : Nat → Nat} {U : State} (h : EX sa U) : vk_R RX3 188 "the list is full" (sa 16) U := h.2.2.2.2.1.2.2.2.2.1
theorem ex_s232 {sa : Nat → Nat} {U : State} (h : EX sa U) : vk_R RX3 232 "client is out of range" (sa 17) U := h.2.2.2.2.1.2.2.2.2.2.1
theorem ex_d0 {sa : Nat → Nat} {U : State} (h : EX sa U) : va_Nw (.declares ⟨"java/lang/RuntimeException", "<init>", "(Ljava/lang/String;)V"⟩) U := h.2.2.2.2.1.2.2.2.2.2.2.1
theorem ex_d1 {sa : Nat → Nat} {U : State} (h : EX sa U) : va_Nw (.declares ⟨"java/lang/Exception", "<init>", "(Ljava/lang/String;)V"⟩) U := h.2.2.2.2.1.2.2.2.2.2.2.2.1
theorem ex_d2 {sa : Nat → Nat} {U : State} (h : EX sa U) : va_Nw (.declares ⟨"java/lang/Throwable", "<init>", "(Ljava/lang/String;)V"⟩) U := h.2.2.2.2.1.2.2.2.2.2.2.2.2
theorem ex_nAS {sa : Nat → Nat} {U : State} (h : EX sa U) : va_Nc "java/lang/IllegalArgumentException" "java/lang/IllegalStateException" U := h.2.2.2.2.2.1
theorem ex_nAI {sa : Nat → Nat} {U : State} (h : EX sa U) : va_Nc "java/lang/IllegalArgumentException" "java/lang/IndexOutOfBoundsException" U := h.2.2.2.2.2.2.1
theorem ex_nSA {sa : Nat → Nat} {U : State} (h : EX sa U) : va_Nc "java/lang/IllegalStateException" "java/lang/IllegalArgumentException" U := h.2.2.2.2.2.2.2.1
theorem ex_nSI {sa : Nat → Nat} {U : State} (h : EX sa U) : va_Nc "java/lang/IllegalStateException" "java/lang/IndexOutOfBoundsException" U := h.2.2.2.2.2.2.2.2.1
theorem ex_nIA {sa : Nat → Nat} {U : State} (h : EX sa U) : va_Nc "java/lang/IndexOutOfBoundsException" "java/lang/IllegalArgumentException" U := h.2.2.2.2.2.2.2.2.2.1
theorem ex_nIS {sa : Nat → Nat} {U : State} (h : EX sa U) : va_Nc "java/lang/IndexOutOfBoundsException" "java/lang/IllegalStateException" U := h.2.2.2.2.2.2.2.2.2.2
end
section
/-! derived rows: naturals on the stack, exact heaps, worlds by name -/
abbrev ST : Type := Nat → Nat → Nat
def su (S : ST) (k : Nat) (f : Nat → Nat) : ST := fun j => cond (Nat.beq j k) f (S j)
def sv (S : ST) (k i v : Nat) : ST := su S k (fun j => cond (Nat.beq j i) v (S k j))
def nf (g : Nat → Nat) : Nat → Int32 := fun i => nI (g i)
def upN (g : Nat → Nat) (k v : Nat) : Nat → Nat := fun i => if i = k then v else g i
def b2i (b : Bool) : Int32 := cond b 1 0
def b2n (b : Bool) : Nat := cond b 1 0
def oi (n : Nat) : Int32 := match n with
  | 0 => -1
  | k + 1 => nI k
def kf (g : Nat → Nat) : Nat → Int32 := fun i => oi (g i)
theorem nf_upd (g : Nat → Nat) (k v : Nat) : upd (nf g) k (nI v) = nf (upN g k v) := by
  funext i; unfold upd nf upN; split <;> rfl
theorem kf_upd (g : Nat → Nat) (k v : Nat) : upd (kf g) k (oi v) = kf (upN g k v) := by
  funext i; unfold upd kf upN; split <;> rfl
theorem b2i_n (b : Bool) : b2i b = nI (b2n b) := by cases b <;> rfl
theorem b2n_lt (b : Bool) : b2n b < 2 := by cases b <;> decide
theorem n_inc (j k : Nat) {n : Int} (h : n = (k : Int)) : nI j + Int32.ofInt n = nI (j + k) := by
  subst h
  rw [show Int32.ofInt ((k : Nat) : Int) = nI k from rfl, nI_add]
theorem n_dec (j : Nat) (h : 0 < j) : nI j + Int32.ofInt (-1) = nI (j - 1) := by
  obtain ⟨i, rfl⟩ : ∃ i, j = i + 1 := ⟨j - 1, by omega⟩
  rw [show Int32.ofInt (-1) = (-1 : Int32) from rfl, pk_m1, Nat.add_sub_cancel]
theorem n_decs (j : Nat) : nI (j + 1) + Int32.ofInt (-1) = nI j := by
  rw [show Int32.ofInt (-1) = (-1 : Int32) from rfl, pk_m1]
theorem n_pred (j : Nat) : nI j - nI 1 = oi j := by
  cases j with
  | zero => decide
  | succ i => show nI (i + 1) - 1 = nI i; exact nI_pred i
theorem D_addr {A : Nat → Prop} {ws ws' : va_W} (hD : va_D A ws) (h : ws.map Prod.fst = ws'.map Prod.fst) : va_D A ws' := by
  have key : ∀ (k : Nat) (q : Nat × va_E), ws'[k]? = some q → ∃ r, ws[k]? = some r ∧ r.1 = q.1 := by
    intro k q hq
    have h1 : (ws'.map Prod.fst)[k]? = some q.1 := by rw [List.getElem?_map, hq]; rfl
    rw [← h, List.getElem?_map] at h1
    cases hr : ws[k]? with
    | none => rw [hr] at h1; cases h1
    | some r => rw [hr] at h1; exact ⟨r, rfl, Option.some.inj h1⟩
  refine ⟨fun i j p q hi hj hpq => ?_, fun k q hk => ?_⟩
  · obtain ⟨r1, e1, f1⟩ := key i p hi
    obtain ⟨r2, e2, f2⟩ := key j q hj
    exact hD.1 i j r1 r2 e1 e2 (by rw [f1, f2, hpq])
  · obtain ⟨r, e1, f1⟩ := key k q hk
    rw [← f1]; exact hD.2 k r e1
/-- the addresses of a world -/
def adr (ws : va_W) : Nat → Prop := fun a => ∃ (k : Nat) (q : Nat × va_E), ws[k]? = some q ∧ q.1 = a
theorem D_adr {A : Nat → Prop} {ws : va_W} (h : va_D A ws) : va_D (adr ws) ws := ⟨h.1, fun k q hk => ⟨k, q, hk, rfl⟩⟩
theorem adr_in {A : Nat → Prop} {ws : va_W} (h : va_D A ws) : ∀ a, adr ws a → A a := fun a ha => by
  obtain ⟨k, q, hk, rfl⟩ := ha
  exact h.2 k q hk
theorem P_keep {D : va_G} {cl : List vw_C} {ws : va_W} {H H1 : Heap} {A : Nat → Prop} (h : va_P D cl ws H) (hk : ∀ a : Nat, a < H.size → ¬ A a → H1[a]? = H[a]?) (hA : ∀ (k : Nat) (q : Nat × va_E), ws[k]? = some q → ¬ A q.1) : va_P D cl ws H1 :=
  h.kept (fun k q hq => hk q.1 (h k q hq).lt (hA k q hq))
theorem P_grow {D : va_G} {cl : List vw_C} {ws : va_W} {H H1 : Heap} (h : va_P D cl ws H) (hk : ∀ a : Nat, a < H.size → H1[a]? = H[a]?) : va_P D cl ws H1 :=
  h.kept (fun k q hq => hk q.1 (h k q hq).lt)
abbrev tyA (cI cZ : ClassId) : List (ClassId × FieldType) := [(cI, .int), (cZ, .boolean)]
def KK (D : va_G) (cI cZ : ClassId) (sa : Nat → Nat) (U : State) : Prop := va_K D vwCl (tyA cI cZ) U ∧ EX sa U
theorem KK.warm {D : va_G} {cI cZ : ClassId} {sa : Nat → Nat} {s U : State} (hW : s.WarmedH U.vm) (h : KK D cI cZ sa s) : KK D cI cZ sa U := ⟨va_K.moved hW.alike h.1, h.2.warm hW⟩
theorem KK.same {D : va_G} {cI cZ : ClassId} {sa : Nat → Nat} {s U : State} (hv : s.vm = U.vm) (h : KK D cI cZ sa s) : KK D cI cZ sa U := ⟨va_K.moved (by rw [hv]; exact Vm.Alike.refl U.vm) h.1, h.2.same hv⟩
/-- an exact heap: what a method that changes nothing answers -/
def RoQ (v : Option Value) (H : Heap) : Array Value → State → Outcome → State → Prop := fun _ _ oc t => oc = .returned v ∧ t.heap = H
abbrev RoP (D : va_G) (cI cZ : ClassId) (sa : Nat → Nat) (H : Heap) (av : List Value) : Array Value → State → Prop := va_Pc av (fun U => U.heap = H ∧ KK D cI cZ sa U)
def RoF : Addr → Prop := fun _ => False
/-- a method that writes within A: its world behind it -/
def WrQ (v : Option Value) (D : va_G) (ws : va_W) (A : Nat → Prop) : Array Value → State → Outcome → State → Prop := fun _ st oc t => oc = .returned v ∧ va_P D vwCl ws t.heap ∧ va_F A st t
abbrev WrP (D : va_G) (cI cZ : ClassId) (sa : Nat → Nat) (ws : va_W) (av : List Value) : Array Value → State → Prop := va_Pc av (fun U => va_P D vwCl ws U.heap ∧ KK D cI cZ sa U)
/-- what every walk has at hand -/
abbrev codeW (y : MethodName) (cc : ByteArray) (n : Nat) (ret : Option FieldType) : List Cond := Cond.code y cc n ret :: WA
theorem Met_ofWF {l : Launch} {y : MethodName} {ws ws' : List Cond} {rm : Room} {Pc : Array Value → State → Prop} {Qc : Array Value → State → Outcome → State → Prop} {mc ms : Nat} {free : Addr → Prop} {cc : ByteArray} {maxL : Nat} {ret : Option FieldType}
    (hy : plainFor y = true) (hw : ws = Cond.code y cc maxL ret :: ws')
    (body : ∀ p e s m args below meth c s₁, BodyLoose p l y (headSpec ws rm) cc maxL ret e s m args below meth c s₁ → c.maxLocals = maxL → Pc args s →
      W p l e (headSpec ws rm).room s m args below meth c s.heap [] 0 0 (MQ below Qc args s mc ms free) (entryFrame m args maxL)) : Met l y ws rm Pc Qc mc ms free := by
  refine MetFree.of_bodySF (code := cc) (maxLocals := maxL) (ret := ret) hy ?_ ?_
  · intro args s m h hn
    obtain ⟨meth, c, h1, h2, h3, h4, h5, h6, -, -⟩ := Cond.code_spec hn (atoms_spec (ws := ws) h _ (by rw [hw]; exact List.mem_cons_self))
    exact ⟨meth, c, h1, h2, h3, h4, h5, h6⟩
  · intro p e s m args below meth c s₁ B hml hP _
    have hh0 : s₁.heap = s.heap := by rw [B.state]; rfl
    obtain ⟨t, a1, o, b1, b2, b3⟩ := body p e s m args below meth c s₁ B hml hP s₁ hh0 (Stand.of_body B)
    exact ⟨t, o, a1, b1, b2, ⟨b3.1, b3.2⟩⟩
section ROWS
variable {p : Program} {l : Launch} {e : Env} {R : Room} {s : State} {m : MethodId} {args : Array Value} {below : List Frame} {meth : Method} {c : Code} {H : Heap} {locs : List Loc} {cells slots : Nat} {Q : State → Prop}
variable {cc : ByteArray} {pc : Nat} {ls : Array Slot} {rest st0 : List Value}
theorem n_iconst (hx : p.tables.exec = Jvm.exec) (hb : c.code = cc) {n : Int} {k : Nat} (hdg : decode cc pc = .ok (.iconst n, 1)) (hv : Int32.ofInt n = nI k)
    (kk : W p l e R s m args below meth c H locs cells slots Q (F0 m (pc + 1) ls (.int (nI k) :: rest))) : W p l e R s m args below meth c H locs cells slots Q (F0 m (pc) ls (rest)) := lv_iconst hx hb hdg hv kk
theorem n_iadd (hx : p.tables.exec = Jvm.exec) (hb : c.code = cc) {x y : Nat} (hdg : decode cc pc = .ok (.iadd, 1))
    (kk : W p l e R s m args below meth c H locs cells slots Q (F0 m (pc + 1) ls (.int (nI (x + y)) :: rest))) : W p l e R s m args below meth c H locs cells slots Q (F0 m (pc) ls (.int (nI y) :: .int (nI x) :: rest)) := lv_iadd hx hb hdg (by rw [nI_add]; exact kk)
theorem n_isub (hx : p.tables.exec = Jvm.exec) (hb : c.code = cc) {x y : Nat} (hle : y ≤ x) (hdg : decode cc pc = .ok (.isub, 1))
    (kk : W p l e R s m args below meth c H locs cells slots Q (F0 m (pc + 1) ls (.int (nI (x - y)) :: rest))) : W p l e R s m args below meth c H locs cells slots Q (F0 m (pc) ls (.int (nI y) :: .int (nI x) :: rest)) := lv_isub hx hb hdg (by rw [pk_sub hle]; exact kk)
theorem n_imul (hx : p.tables.exec = Jvm.exec) (hb : c.code = cc) {x y : Nat} (hdg : decode cc pc = .ok (.imul, 1))
    (kk : W p l e R s m args below meth c H locs cells slots Q (F0 m (pc + 1) ls (.int (nI (x * y)) :: rest))) : W p l e R s m args below meth c H locs cells slots Q (F0 m (pc) ls (.int (nI y) :: .int (nI x) :: rest)) := lv_imul hx hb hdg (by rw [pk_mul]; exact kk)
theorem n_ipred (hx : p.tables.exec = Jvm.exec) (hb : c.code = cc) {x : Nat} (hdg : decode cc pc = .ok (.isub, 1))
    (kk : W p l e R s m args below meth c H locs cells slots Q (F0 m (pc + 1) ls (.int (oi x) :: rest))) : W p l e R s m args below meth c H locs cells slots Q (F0 m (pc) ls (.int (nI 1) :: .int (nI x) :: rest)) := lv_isub hx hb hdg (by rw [n_pred]; exact kk)
theorem n_ipreds (hx : p.tables.exec = Jvm.exec) (hb : c.code = cc) {x : Nat} (hdg : decode cc pc = .ok (.isub, 1))
    (kk : W p l e R s m args below meth c H locs cells slots Q (F0 m (pc + 1) ls (.int (nI x) :: rest))) : W p l e R s m args below meth c H locs cells slots Q (F0 m (pc) ls (.int (nI 1) :: .int (nI (x + 1)) :: rest)) := lv_isub hx hb hdg (by rw [n_pred]; exact kk)
theorem shl1_0 : ∀ k : Fin 31, nI 1 <<< (nI k.val &&& 31) = nI (2 ^ k.val) := by decide +kernel
theorem shl1 {k : Nat} (h : k < 31) : nI 1 <<< (nI k &&& 31) = nI (2 ^ k) := shl1_0 ⟨k, h⟩
theorem n_ishl1 (hx : p.tables.exec = Jvm.exec) (hb : c.code = cc) {y : Nat} (h : y < 31) (hdg : decode cc pc = .ok (.ishl, 1))
    (kk : W p l e R s m args below meth c H locs cells slots Q (F0 m (pc + 1) ls (.int (nI (2 ^ y)) :: rest))) : W p l e R s m args below meth c H locs cells slots Q (F0 m (pc) ls (.int (nI y) :: .int (nI 1) :: rest)) := lv_ishl hx hb hdg (by rw [shl1 h]; exact kk)
theorem nx_and (a b : Nat) : nI a &&& nI b = nI (a &&& b) := by
  apply Int32.toBitVec_inj.1
  show BitVec.ofNat 32 a &&& BitVec.ofNat 32 b = BitVec.ofNat 32 (a &&& b)
  apply BitVec.eq_of_getLsbD_eq
  intro i hi
  simp [hi]
theorem nx_xor (a b : Nat) : nI a ^^^ nI b = nI (a ^^^ b) := by
  apply Int32.toBitVec_inj.1
  show BitVec.ofNat 32 a ^^^ BitVec.ofNat 32 b = BitVec.ofNat 32 (a ^^^ b)
  apply BitVec.eq_of_getLsbD_eq
  intro i hi
  simp [hi]
theorem nx_or (a b : Nat) : nI a ||| nI b = nI (a ||| b) := by
  apply Int32.toBitVec_inj.1
  show BitVec.ofNat 32 a ||| BitVec.ofNat 32 b = BitVec.ofNat 32 (a ||| b)
  apply BitVec.eq_of_getLsbD_eq
  intro i hi
  simp [hi]
theorem n_deck (j : Nat) : nI j + Int32.ofInt (-1) = oi j := by
  cases j with
  | zero => decide
  | succ i => exact n_decs i
theorem oi_pos {n : Nat} (h : n ≠ 0) : oi n = nI (n - 1) := by
  cases n with
  | zero => exact absurd rfl h
  | succ k => rfl
theorem k_top {x : Nat} (h : x ≠ 0) (kk : W p l e R s m args below meth c H locs cells slots Q (F0 m pc ls (.int (nI (x - 1)) :: rest))) : W p l e R s m args below meth c H locs cells slots Q (F0 m pc ls (.int (oi x) :: rest)) := by
  rw [oi_pos h]; exact kk
theorem n_ixor (hx : p.tables.exec = Jvm.exec) (hb : c.code = cc) {x y : Nat} (hdg : decode cc pc = .ok (.ixor, 1))
    (kk : W p l e R s m args below meth c H locs cells slots Q (F0 m (pc + 1) ls (.int (nI (x ^^^ y)) :: rest))) : W p l e R s m args below meth c H locs cells slots Q (F0 m (pc) ls (.int (nI y) :: .int (nI x) :: rest)) := lv_ixor hx hb hdg (by rw [nx_xor]; exact kk)
theorem n_ior (hx : p.tables.exec = Jvm.exec) (hb : c.code = cc) {x y : Nat} (hdg : decode cc pc = .ok (.ior, 1))
    (kk : W p l e R s m args below meth c H locs cells slots Q (F0 m (pc + 1) ls (.int (nI (x ||| y)) :: rest))) : W p l e R s m args below meth c H locs cells slots Q (F0 m (pc) ls (.int (nI y) :: .int (nI x) :: rest)) := lv_ior hx hb hdg (by rw [nx_or]; exact kk)
theorem kn_icmp_lt (hx : p.tables.exec = Jvm.exec) (hb : c.code = cc) {x y : Nat} {off : Int} {tgt : Nat} (hdg : decode cc pc = .ok (.if_icmp .lt off, 3)) (ht : (pc : Int) + off = (tgt : Int)) (h1 : x < 2 ^ 31) (h2 : y < 2 ^ 31)
    (kt : x ≤ y → W p l e R s m args below meth c H locs cells slots Q (F0 m (tgt) ls (rest))) (kf : y < x → W p l e R s m args below meth c H locs cells slots Q (F0 m (pc + 3) ls (rest))) : W p l e R s m args below meth c H locs cells slots Q (F0 m (pc) ls (.int (nI y) :: .int (oi x) :: rest)) := lv_icmp_lt hx hb hdg ht (fun q => kt (by
    cases x with
    | zero => exact Nat.zero_le y
    | succ j => exact (nI_ltI (by omega) h2).mp q)) (fun q => kf (by
    cases x with
    | zero => exact absurd (Int32.lt_of_lt_of_le (by decide : (-1 : Int32) < 0) (nI_pos' h2)) q
    | succ j => exact Nat.lt_succ_of_le (Nat.le_of_not_lt (fun h => q ((nI_ltI (by omega) h2).mpr h)))))
theorem n_icmp_lt (hx : p.tables.exec = Jvm.exec) (hb : c.code = cc) {x y : Nat} {off : Int} {tgt : Nat} (hdg : decode cc pc = .ok (.if_icmp .lt off, 3)) (ht : (pc : Int) + off = (tgt : Int)) (h1 : x < 2 ^ 31) (h2 : y < 2 ^ 31)
    (kt : x < y → W p l e R s m args below meth c H locs cells slots Q (F0 m (tgt) ls (rest))) (kf : y ≤ x → W p l e R s m args below meth c H locs cells slots Q (F0 m (pc + 3) ls (rest))) : W p l e R s m args below meth c H locs cells slots Q (F0 m (pc) ls (.int (nI y) :: .int (nI x) :: rest)) := lv_icmp_lt hx hb hdg ht (fun q => kt ((nI_ltI h1 h2).mp q)) (fun q => kf (Nat.le_of_not_lt fun h => q ((nI_ltI h1 h2).mpr h)))
theorem n_icmp_ge (hx : p.tables.exec = Jvm.exec) (hb : c.code = cc) {x y : Nat} {off : Int} {tgt : Nat} (hdg : decode cc pc = .ok (.if_icmp .ge off, 3)) (ht : (pc : Int) + off = (tgt : Int)) (h1 : x < 2 ^ 31) (h2 : y < 2 ^ 31)
    (kt : y ≤ x → W p l e R s m args below meth c H locs cells slots Q (F0 m (tgt) ls (rest))) (kf : x < y → W p l e R s m args below meth c H locs cells slots Q (F0 m (pc + 3) ls (rest))) : W p l e R s m args below meth c H locs cells slots Q (F0 m (pc) ls (.int (nI y) :: .int (nI x) :: rest)) := lv_icmp_ge hx hb hdg ht (fun q => kt ((nI_leI h2 h1).mp q)) (fun q => kf (Nat.lt_of_not_le fun h => q ((nI_leI h2 h1).mpr h)))
theorem n_icmp_gt (hx : p.tables.exec = Jvm.exec) (hb : c.code = cc) {x y : Nat} {off : Int} {tgt : Nat} (hdg : decode cc pc = .ok (.if_icmp .gt off, 3)) (ht : (pc : Int) + off = (tgt : Int)) (h1 : x < 2 ^ 31) (h2 : y < 2 ^ 31)
    (kt : y < x → W p l e R s m args below meth c H locs cells slots Q (F0 m (tgt) ls (rest))) (kf : x ≤ y → W p l e R s m args below meth c H locs cells slots Q (F0 m (pc + 3) ls (rest))) : W p l e R s m args below meth c H locs cells slots Q (F0 m (pc) ls (.int (nI y) :: .int (nI x) :: rest)) := lv_icmp_gt hx hb hdg ht (fun q => kt ((nI_ltI h2 h1).mp q)) (fun q => kf (Nat.le_of_not_lt fun h => q ((nI_ltI h2 h1).mpr h)))
theorem n_icmp_le (hx : p.tables.exec = Jvm.exec) (hb : c.code = cc) {x y : Nat} {off : Int} {tgt : Nat} (hdg : decode cc pc = .ok (.if_icmp .le off, 3)) (ht : (pc : Int) + off = (tgt : Int)) (h1 : x < 2 ^ 31) (h2 : y < 2 ^ 31)
    (kt : x ≤ y → W p l e R s m args below meth c H locs cells slots Q (F0 m (tgt) ls (rest))) (kf : y < x → W p l e R s m args below meth c H locs cells slots Q (F0 m (pc + 3) ls (rest))) : W p l e R s m args below meth c H locs cells slots Q (F0 m (pc) ls (.int (nI y) :: .int (nI x) :: rest)) := lv_icmp_le hx hb hdg ht (fun q => kt ((nI_leI h1 h2).mp q)) (fun q => kf (Nat.lt_of_not_le fun h => q ((nI_leI h1 h2).mpr h)))
theorem n_icmp_eq (hx : p.tables.exec = Jvm.exec) (hb : c.code = cc) {x y : Nat} {off : Int} {tgt : Nat} (hdg : decode cc pc = .ok (.if_icmp .eq off, 3)) (ht : (pc : Int) + off = (tgt : Int)) (h1 : x < 2 ^ 31) (h2 : y < 2 ^ 31)
    (kt : x = y → W p l e R s m args below meth c H locs cells slots Q (F0 m (tgt) ls (rest))) (kf : x ≠ y → W p l e R s m args below meth c H locs cells slots Q (F0 m (pc + 3) ls (rest))) : W p l e R s m args below meth c H locs cells slots Q (F0 m (pc) ls (.int (nI y) :: .int (nI x) :: rest)) := lv_icmp_eq hx hb hdg ht (fun q => kt ((nI_eq h1 h2).mp q)) (fun q => kf (fun h => q ((nI_eq h1 h2).mpr h)))
theorem n_icmp_ne (hx : p.tables.exec = Jvm.exec) (hb : c.code = cc) {x y : Nat} {off : Int} {tgt : Nat} (hdg : decode cc pc = .ok (.if_icmp .ne off, 3)) (ht : (pc : Int) + off = (tgt : Int)) (h1 : x < 2 ^ 31) (h2 : y < 2 ^ 31)
    (kt : x ≠ y → W p l e R s m args below meth c H locs cells slots Q (F0 m (tgt) ls (rest))) (kf : x = y → W p l e R s m args below meth c H locs cells slots Q (F0 m (pc + 3) ls (rest))) : W p l e R s m args below meth c H locs cells slots Q (F0 m (pc) ls (.int (nI y) :: .int (nI x) :: rest)) := lv_icmp_ne hx hb hdg ht (fun q => kt (fun h => q ((nI_eq h1 h2).mpr h))) (fun q => kf ((nI_eq h1 h2).mp q))
def nb (w : Nat) : Bool := !decide (w = 0)
theorem nb_i {w : Nat} (h : w < 2) : nI w = b2i (nb w) := by rcases (show w = 0 ∨ w = 1 by omega) with rfl | rfl <;> rfl
theorem b2i_inj {a b : Bool} (h : b2i a = b2i b) : a = b := by cases a <;> cases b <;> first | rfl | exact absurd h (by decide)
theorem nb_n (b : Bool) : nb (b2n b) = b := by cases b <;> rfl
theorem iw_t {j a b : Nat} (h1 : a ≤ j) (h2 : j ≤ b) (hb : b < 2 ^ 31) : (!decide (nI j < nI a) && !decide (nI b < nI j)) = true := by
  rw [decide_eq_false (nI_nlt h1 (Nat.lt_of_le_of_lt h2 hb)), decide_eq_false (nI_nlt h2 hb)]; rfl
theorem bn_icmp_eq (hx : p.tables.exec = Jvm.exec) (hb : c.code = cc) {b : Bool} {w : Nat} (hw : w < 2) {off : Int} {tgt : Nat} (hdg : decode cc pc = .ok (.if_icmp .eq off, 3)) (ht : (pc : Int) + off = (tgt : Int))
    (kt : b = nb w → W p l e R s m args below meth c H locs cells slots Q (F0 m (tgt) ls (rest))) (kf : b ≠ nb w → W p l e R s m args below meth c H locs cells slots Q (F0 m (pc + 3) ls (rest))) : W p l e R s m args below meth c H locs cells slots Q (F0 m (pc) ls (.int (nI w) :: .int (b2i b) :: rest)) := lv_icmp_eq hx hb hdg ht (fun q => kt (b2i_inj (q.trans (nb_i hw)))) (fun q => kf (fun h => q (by rw [h, nb_i hw])))
theorem nb_icmp_eq (hx : p.tables.exec = Jvm.exec) (hb : c.code = cc) {b : Bool} {w : Nat} (hw : w < 2) {off : Int} {tgt : Nat} (hdg : decode cc pc = .ok (.if_icmp .eq off, 3)) (ht : (pc : Int) + off = (tgt : Int))
    (kt : b = nb w → W p l e R s m args below meth c H locs cells slots Q (F0 m (tgt) ls (rest))) (kf : b ≠ nb w → W p l e R s m args below meth c H locs cells slots Q (F0 m (pc + 3) ls (rest))) : W p l e R s m args below meth c H locs cells slots Q (F0 m (pc) ls (.int (b2i b) :: .int (nI w) :: rest)) := lv_icmp_eq hx hb hdg ht (fun q => kt (b2i_inj (q.symm.trans (nb_i hw)))) (fun q => kf (fun h => q (by rw [h, nb_i hw])))
theorem bn_icmp_ne (hx : p.tables.exec = Jvm.exec) (hb : c.code = cc) {b : Bool} {w : Nat} (hw : w < 2) {off : Int} {tgt : Nat} (hdg : decode cc pc = .ok (.if_icmp .ne off, 3)) (ht : (pc : Int) + off = (tgt : Int))
    (kt : b ≠ nb w → W p l e R s m args below meth c H locs cells slots Q (F0 m (tgt) ls (rest))) (kf : b = nb w → W p l e R s m args below meth c H locs cells slots Q (F0 m (pc + 3) ls (rest))) : W p l e R s m args below meth c H locs cells slots Q (F0 m (pc) ls (.int (nI w) :: .int (b2i b) :: rest)) := lv_icmp_ne hx hb hdg ht (fun q => kt (fun h => q (by rw [h, nb_i hw]))) (fun q => kf (b2i_inj (q.trans (nb_i hw))))
theorem nb_icmp_ne (hx : p.tables.exec = Jvm.exec) (hb : c.code = cc) {b : Bool} {w : Nat} (hw : w < 2) {off : Int} {tgt : Nat} (hdg : decode cc pc = .ok (.if_icmp .ne off, 3)) (ht : (pc : Int) + off = (tgt : Int))
    (kt : b ≠ nb w → W p l e R s m args below meth c H locs cells slots Q (F0 m (tgt) ls (rest))) (kf : b = nb w → W p l e R s m args below meth c H locs cells slots Q (F0 m (pc + 3) ls (rest))) : W p l e R s m args below meth c H locs cells slots Q (F0 m (pc) ls (.int (b2i b) :: .int (nI w) :: rest)) := lv_icmp_ne hx hb hdg ht (fun q => kt (fun h => q (by rw [h, nb_i hw]))) (fun q => kf (b2i_inj (q.symm.trans (nb_i hw))))
theorem n_irem (hx : p.tables.exec = Jvm.exec) (hb : c.code = cc) {x y : Nat} (h1 : x < 2 ^ 31) (h0 : 0 < y) (h2 : y < 2 ^ 31) (hdg : decode cc pc = .ok (.irem, 1))
    (kk : W p l e R s m args below meth c H locs cells slots Q (F0 m (pc + 1) ls (.int (nI (x % y)) :: rest))) : W p l e R s m args below meth c H locs cells slots Q (F0 m (pc) ls (.int (nI y) :: .int (nI x) :: rest)) := lv_irem hx hb hdg (nI_ne0 h0 h2) (by rw [pk_rem h1 h0 h2]; exact kk)
theorem oi_inj {x y : Nat} (h1 : x ≤ 2 ^ 31) (h2 : y ≤ 2 ^ 31) (h : oi x = oi y) : x = y := by
  cases x with
  | zero =>
    cases y with
    | zero => rfl
    | succ k =>
      have h9 : (-1 : Int32) = nI k := h
      exact absurd (by rw [← h9]; decide : nI k < 0) (nI_pos (by omega))
  | succ j =>
    cases y with
    | zero =>
      have h9 : nI j = (-1 : Int32) := h
      exact absurd (by rw [h9]; decide : nI j < 0) (nI_pos (by omega))
    | succ k => exact congrArg (· + 1) ((nI_eq (by omega) (by omega)).mp h)
theorem k_icmp_eq (hx : p.tables.exec = Jvm.exec) (hb : c.code = cc) {x y : Nat} {off : Int} {tgt : Nat} (hdg : decode cc pc = .ok (.if_icmp .eq off, 3)) (ht : (pc : Int) + off = (tgt : Int)) (h1 : x ≤ 2 ^ 31) (h2 : y ≤ 2 ^ 31)
    (kt : x = y → W p l e R s m args below meth c H locs cells slots Q (F0 m (tgt) ls (rest))) (kf : x ≠ y → W p l e R s m args below meth c H locs cells slots Q (F0 m (pc + 3) ls (rest))) : W p l e R s m args below meth c H locs cells slots Q (F0 m (pc) ls (.int (oi y) :: .int (oi x) :: rest)) := lv_icmp_eq hx hb hdg ht (fun q => kt (oi_inj h1 h2 q)) (fun q => kf (fun h => q (by rw [h])))
theorem k_icmp_ne (hx : p.tables.exec = Jvm.exec) (hb : c.code = cc) {x y : Nat} {off : Int} {tgt : Nat} (hdg : decode cc pc = .ok (.if_icmp .ne off, 3)) (ht : (pc : Int) + off = (tgt : Int)) (h1 : x ≤ 2 ^ 31) (h2 : y ≤ 2 ^ 31)
    (kt : x ≠ y → W p l e R s m args below meth c H locs cells slots Q (F0 m (tgt) ls (rest))) (kf : x = y → W p l e R s m args below meth c H locs cells slots Q (F0 m (pc + 3) ls (rest))) : W p l e R s m args below meth c H locs cells slots Q (F0 m (pc) ls (.int (oi y) :: .int (oi x) :: rest)) := lv_icmp_ne hx hb hdg ht (fun q => kt (fun h => q (by rw [h]))) (fun q => kf (oi_inj h1 h2 q))
theorem b_ifeq (hx : p.tables.exec = Jvm.exec) (hb : c.code = cc) {b : Bool} {off : Int} {tgt : Nat} (hdg : decode cc pc = .ok (.ifCond .eq off, 3)) (ht : (pc : Int) + off = (tgt : Int))
    (kt : b = false → W p l e R s m args below meth c H locs cells slots Q (F0 m (tgt) ls (rest))) (kf : b = true → W p l e R s m args below meth c H locs cells slots Q (F0 m (pc + 3) ls (rest))) : W p l e R s m args below meth c H locs cells slots Q (F0 m (pc) ls (.int (b2i b) :: rest)) := lv_if_eq hx hb hdg ht (fun q => kt (by cases b; rfl; exact absurd q (by decide))) (fun q => kf (by cases b; exact absurd rfl q; rfl))
theorem b_ifne (hx : p.tables.exec = Jvm.exec) (hb : c.code = cc) {b : Bool} {off : Int} {tgt : Nat} (hdg : decode cc pc = .ok (.ifCond .ne off, 3)) (ht : (pc : Int) + off = (tgt : Int))
    (kt : b = true → W p l e R s m args below meth c H locs cells slots Q (F0 m (tgt) ls (rest))) (kf : b = false → W p l e R s m args below meth c H locs cells slots Q (F0 m (pc + 3) ls (rest))) : W p l e R s m args below meth c H locs cells slots Q (F0 m (pc) ls (.int (b2i b) :: rest)) := lv_if_ne hx hb hdg ht (fun q => kt (by cases b; exact absurd rfl q; rfl)) (fun q => kf (by cases b; rfl; exact absurd q (by decide)))
theorem n_ifeq (hx : p.tables.exec = Jvm.exec) (hb : c.code = cc) {x : Nat} {off : Int} {tgt : Nat} (hdg : decode cc pc = .ok (.ifCond .eq off, 3)) (ht : (pc : Int) + off = (tgt : Int)) (h1 : x < 2 ^ 31)
    (kt : x = 0 → W p l e R s m args below meth c H locs cells slots Q (F0 m (tgt) ls (rest))) (kf : x ≠ 0 → W p l e R s m args below meth c H locs cells slots Q (F0 m (pc + 3) ls (rest))) : W p l e R s m args below meth c H locs cells slots Q (F0 m (pc) ls (.int (nI x) :: rest)) := lv_if_eq hx hb hdg ht (fun q => kt ((nI_eq h1 (by decide)).mp (q.trans nI_0.symm))) (fun q => kf (fun h => q (by rw [h]; rfl)))
theorem n_ifne (hx : p.tables.exec = Jvm.exec) (hb : c.code = cc) {x : Nat} {off : Int} {tgt : Nat} (hdg : decode cc pc = .ok (.ifCond .ne off, 3)) (ht : (pc : Int) + off = (tgt : Int)) (h1 : x < 2 ^ 31)
    (kt : x ≠ 0 → W p l e R s m args below meth c H locs cells slots Q (F0 m (tgt) ls (rest))) (kf : x = 0 → W p l e R s m args below meth c H locs cells slots Q (F0 m (pc + 3) ls (rest))) : W p l e R s m args below meth c H locs cells slots Q (F0 m (pc) ls (.int (nI x) :: rest)) := lv_if_ne hx hb hdg ht (fun q => kt (fun h => q (by rw [h]; rfl))) (fun q => kf ((nI_eq h1 (by decide)).mp (q.trans nI_0.symm)))
theorem n_ifgt (hx : p.tables.exec = Jvm.exec) (hb : c.code = cc) {x : Nat} {off : Int} {tgt : Nat} (hdg : decode cc pc = .ok (.ifCond .gt off, 3)) (ht : (pc : Int) + off = (tgt : Int)) (h1 : x < 2 ^ 31)
    (kt : 0 < x → W p l e R s m args below meth c H locs cells slots Q (F0 m (tgt) ls (rest))) (kf : x = 0 → W p l e R s m args below meth c H locs cells slots Q (F0 m (pc + 3) ls (rest))) : W p l e R s m args below meth c H locs cells slots Q (F0 m (pc) ls (.int (nI x) :: rest)) := lv_if_gt hx hb hdg ht (fun q => kt ((nI_ltI (a := 0) (by decide) h1).mp q)) (fun q => kf (by rcases Nat.eq_zero_or_pos x with h | h; exact h; exact absurd ((nI_ltI (a := 0) (by decide) h1).mpr h) q))
theorem n_ifle (hx : p.tables.exec = Jvm.exec) (hb : c.code = cc) {x : Nat} {off : Int} {tgt : Nat} (hdg : decode cc pc = .ok (.ifCond .le off, 3)) (ht : (pc : Int) + off = (tgt : Int)) (h1 : x < 2 ^ 31)
    (kt : x = 0 → W p l e R s m args below meth c H locs cells slots Q (F0 m (tgt) ls (rest))) (kf : 0 < x → W p l e R s m args below meth c H locs cells slots Q (F0 m (pc + 3) ls (rest))) : W p l e R s m args below meth c H locs cells slots Q (F0 m (pc) ls (.int (nI x) :: rest)) := lv_if_le hx hb hdg ht (fun q => kt (by rcases Nat.eq_zero_or_pos x with h | h; exact h; exact absurd q (nI_nle h h1))) (fun q => kf (by rcases Nat.eq_zero_or_pos x with h | h; exact absurd (by rw [h]; decide) q; exact h))
theorem n_iflt (hx : p.tables.exec = Jvm.exec) (hb : c.code = cc) {x : Nat} {off : Int} {tgt : Nat} (hdg : decode cc pc = .ok (.ifCond .lt off, 3)) (ht : (pc : Int) + off = (tgt : Int)) (h1 : x < 2 ^ 31)
    (kf : W p l e R s m args below meth c H locs cells slots Q (F0 m (pc + 3) ls (rest))) : W p l e R s m args below meth c H locs cells slots Q (F0 m (pc) ls (.int (nI x) :: rest)) := lv_if_lt hx hb hdg ht (fun q => absurd q (nI_pos h1)) (fun _ => kf)
theorem n_ifge (hx : p.tables.exec = Jvm.exec) (hb : c.code = cc) {x : Nat} {off : Int} {tgt : Nat} (hdg : decode cc pc = .ok (.ifCond .ge off, 3)) (ht : (pc : Int) + off = (tgt : Int)) (h1 : x < 2 ^ 31)
    (kt : W p l e R s m args below meth c H locs cells slots Q (F0 m (tgt) ls (rest))) : W p l e R s m args below meth c H locs cells slots Q (F0 m (pc) ls (.int (nI x) :: rest)) := lv_if_ge hx hb hdg ht (fun _ => kt) (fun q => absurd (nI_pos' h1) q)
theorem n_mmin (hx : p.tables.exec = Jvm.exec) (hb : c.code = cc) {own : String} {index : Nat} {x y : Nat} (hml : c.maxLocals = ls.size) (hown : s.vm.findClass own = some m.cls) (hlink : (Cond.methodLink own index Lib.Math.min.name).before args s = true) (hstat : (Cond.static Lib.Math.min.name).before args s = true) (hini : (Cond.initialized "java/lang/Math").before args s = true) (hcode : (Cond.code Lib.Math.min.name Lib.Math.min.code 2 (some .int)).before args s = true) (hframes : 1 ≤ R.frames) (hlocals : (rest.map fun v => v.category).sum + 13 ≤ R.locals) (hc : cells ≤ R.cells) (hs : slots ≤ R.slots) (h1 : x < 2 ^ 31) (h2 : y < 2 ^ 31) (hdg : decode cc pc = .ok (.invokestatic index, 3))
    (kk : W p l e R s m args below meth c H locs cells slots Q (F0 m (pc + 3) ls (.int (nI (min x y)) :: rest))) : W p l e R s m args below meth c H locs cells slots Q (F0 m (pc) ls (.int (nI y) :: .int (nI x) :: rest)) := by
  refine va_mmin hx hb hml hown hlink hstat hini hcode hframes hlocals hc hs hdg ?_
  have e : (if nI y < nI x then nI y else nI x) = nI (min x y) := by
    by_cases h : y < x
    · rw [if_pos ((nI_ltI h2 h1).mpr h), Nat.min_eq_right (Nat.le_of_lt h)]
    · rw [if_neg (fun q => h ((nI_ltI h2 h1).mp q)), Nat.min_eq_left (Nat.le_of_not_lt h)]
  rw [e]; exact kk
variable {D : va_G} {cl : List vw_C} {ws : va_W} {tys : List (ClassId × FieldType)} {a : Nat} {A : Nat → Prop} {H0 : Heap}
theorem n_iald (hx : p.tables.exec = Jvm.exec) (hb : c.code = cc) (hK : va_K D cl tys s) (hP : va_P D cl ws H) (q0 t0 : Nat) {cA : ClassId} {n : Nat} {g : Nat → Nat} (ha : ws[q0]? = some (a, .inl (cA, n, .inl (nf g)))) (ht : tys[t0]? = some (cA, .int)) {j : Nat} (hj : j < n) (hn : n < 2 ^ 31) (hdg : decode cc pc = .ok (.iaload, 1))
    (kk : W p l e R s m args below meth c H locs cells slots Q (F0 m (pc + 1) ls (.int (nI (g j)) :: rest))) : W p l e R s m args below meth c H locs cells slots Q (F0 m (pc) ls (.int (nI j) :: .ref a :: rest)) := by
  refine va_iald hx hb hK hP q0 t0 ha ht (vp_in_nI hj hn) hdg ?_
  rw [nI_clamp (Nat.lt_trans hj hn)]
  exact kk
theorem n_kald (hx : p.tables.exec = Jvm.exec) (hb : c.code = cc) (hK : va_K D cl tys s) (hP : va_P D cl ws H) (q0 t0 : Nat) {cA : ClassId} {n : Nat} {g : Nat → Nat} (ha : ws[q0]? = some (a, .inl (cA, n, .inl (kf g)))) (ht : tys[t0]? = some (cA, .int)) {j : Nat} (hj : j < n) (hn : n < 2 ^ 31) (hdg : decode cc pc = .ok (.iaload, 1))
    (kk : W p l e R s m args below meth c H locs cells slots Q (F0 m (pc + 1) ls (.int (oi (g j)) :: rest))) : W p l e R s m args below meth c H locs cells slots Q (F0 m (pc) ls (.int (nI j) :: .ref a :: rest)) := by
  refine va_iald hx hb hK hP q0 t0 ha ht (vp_in_nI hj hn) hdg ?_
  rw [nI_clamp (Nat.lt_trans hj hn)]
  exact kk
theorem n_zald (hx : p.tables.exec = Jvm.exec) (hb : c.code = cc) (hK : va_K D cl tys s) (hP : va_P D cl ws H) (q0 t0 : Nat) {cA : ClassId} {n : Nat} {g : Nat → Nat} (ha : ws[q0]? = some (a, .inl (cA, n, .inl (nf g)))) (ht : tys[t0]? = some (cA, .boolean)) {j : Nat} (hj : j < n) (hn : n < 2 ^ 31) (hdg : decode cc pc = .ok (.baload, 1))
    (kk : W p l e R s m args below meth c H locs cells slots Q (F0 m (pc + 1) ls (.int (nI (g j)) :: rest))) : W p l e R s m args below meth c H locs cells slots Q (F0 m (pc) ls (.int (nI j) :: .ref a :: rest)) := by
  refine va_zald hx hb hK hP q0 t0 ha ht (vp_in_nI hj hn) hdg ?_
  rw [nI_clamp (Nat.lt_trans hj hn)]
  exact kk
theorem n_iast (hx : p.tables.exec = Jvm.exec) (hb : c.code = cc) (hK : va_K D cl tys s) (hP : va_P D cl ws H) (hD : va_D A ws) (hS : va_S A H0 H locs) (q0 t0 : Nat) {cA : ClassId} {n : Nat} {g : Nat → Nat} (ha : ws[q0]? = some (a, .inl (cA, n, .inl (nf g)))) (ht : tys[t0]? = some (cA, .int)) {j v : Nat} (hj : j < n) (hn : n < 2 ^ 31) (hdg : decode cc pc = .ok (.iastore, 1))
    (kk : ∀ (H1 : Heap) (locs1 : List Loc), va_P D cl (ws.set q0 (a, .inl (cA, n, .inl (nf (upN g j v))))) H1 → va_S A H0 H1 locs1 → W p l e R s m args below meth c H1 locs1 cells slots Q (F0 m (pc + 1) ls (rest))) : W p l e R s m args below meth c H locs cells slots Q (F0 m (pc) ls (.int (nI v) :: .int (nI j) :: .ref a :: rest)) := by
  refine va_iast hx hb hK hP hD hS q0 t0 ha ht (vp_in_nI hj hn) hdg (fun H1 locs1 h1 _ h3 => ?_)
  rw [nI_clamp (Nat.lt_trans hj hn), nf_upd] at h1
  exact kk H1 locs1 h1 h3
theorem n_kast (hx : p.tables.exec = Jvm.exec) (hb : c.code = cc) (hK : va_K D cl tys s) (hP : va_P D cl ws H) (hD : va_D A ws) (hS : va_S A H0 H locs) (q0 t0 : Nat) {cA : ClassId} {n : Nat} {g : Nat → Nat} (ha : ws[q0]? = some (a, .inl (cA, n, .inl (kf g)))) (ht : tys[t0]? = some (cA, .int)) {j v : Nat} (hj : j < n) (hn : n < 2 ^ 31) (hdg : decode cc pc = .ok (.iastore, 1))
    (kk : ∀ (H1 : Heap) (locs1 : List Loc), va_P D cl (ws.set q0 (a, .inl (cA, n, .inl (kf (upN g j v))))) H1 → va_S A H0 H1 locs1 → W p l e R s m args below meth c H1 locs1 cells slots Q (F0 m (pc + 1) ls (rest))) : W p l e R s m args below meth c H locs cells slots Q (F0 m (pc) ls (.int (oi v) :: .int (nI j) :: .ref a :: rest)) := by
  refine va_iast hx hb hK hP hD hS q0 t0 ha ht (vp_in_nI hj hn) hdg (fun H1 locs1 h1 _ h3 => ?_)
  rw [nI_clamp (Nat.lt_trans hj hn), kf_upd] at h1
  exact kk H1 locs1 h1 h3
theorem n_zast (hx : p.tables.exec = Jvm.exec) (hb : c.code = cc) (hK : va_K D cl tys s) (hP : va_P D cl ws H) (hD : va_D A ws) (hS : va_S A H0 H locs) (q0 t0 : Nat) {cA : ClassId} {n : Nat} {g : Nat → Nat} (ha : ws[q0]? = some (a, .inl (cA, n, .inl (nf g)))) (ht : tys[t0]? = some (cA, .boolean)) {j v : Nat} (hv : v < 2) (hj : j < n) (hn : n < 2 ^ 31) (hdg : decode cc pc = .ok (.bastore, 1))
    (kk : ∀ (H1 : Heap) (locs1 : List Loc), va_P D cl (ws.set q0 (a, .inl (cA, n, .inl (nf (upN g j v))))) H1 → va_S A H0 H1 locs1 → W p l e R s m args below meth c H1 locs1 cells slots Q (F0 m (pc + 1) ls (rest))) : W p l e R s m args below meth c H locs cells slots Q (F0 m (pc) ls (.int (nI v) :: .int (nI j) :: .ref a :: rest)) := by
  refine va_zast hx hb hK hP hD hS q0 t0 ha ht (vp_in_nI hj hn) hdg (fun H1 locs1 h1 _ h3 => ?_)
  rw [nI_clamp (Nat.lt_trans hj hn), show vp_nar .boolean (nI v) = nI v from by rcases (show v = 0 ∨ v = 1 by omega) with rfl | rfl <;> rfl, nf_upd] at h1
  exact kk H1 locs1 h1 h3
/-- behind a call that changed nothing -/
theorem roRun {v0 : Option Value} {a9 : Array Value} (hr : va_Run p l e R s m args below meth c H locs cells slots 0 0 (F0 m pc ls st0) rest (RoQ v0 H a9) RoF)
    (kk : W p l e R s m args below meth c H locs cells slots Q (F0 m (pc + 3) ls (v0.toList ++ rest))) : W p l e R s m args below meth c H locs cells slots Q (F0 m pc ls st0) := by
  intro T hT X
  obtain ⟨v, st₀, t, T', L, h0, X', hL, e1, e2, ⟨hv, hb⟩, st⟩ := hr T hT X
  cases hv
  have hL0 : L = [] := by
    cases L with
    | nil => rfl
    | cons q _ => exact (hL q List.mem_cons_self).elim
  subst hL0
  rw [List.append_nil] at X'
  obtain ⟨t2, a1, b1⟩ := kk T' (e1.trans hb) X'
  exact ⟨t2, st t2 a1, b1⟩
theorem RoP.blind {D : va_G} {cI cZ : ClassId} {sa : Nat → Nat} {av : List Value} : FrameBlind (RoP D cI cZ sa H av) := fun a U g mk q => by
  obtain ⟨q0, q1, q2⟩ := q
  exact ⟨q0, q1, q2.same rfl⟩
theorem WrP.blind {D : va_G} {cI cZ : ClassId} {sa : Nat → Nat} {av : List Value} : FrameBlind (WrP D cI cZ sa ws av) := fun a U g mk q => by
  obtain ⟨q0, q1, q2⟩ := q
  exact ⟨q0, q1, q2.same rfl⟩
variable {y : MethodName} {bytes : ByteArray} {maxL nL n index : Nat} {ret : Option FieldType} {wsy : List Cond} {rm : Room} {Ts : List Cond} {own C host : String} {b : Addr} {As : List Value} {cI cZ : ClassId} {sa : Nat → Nat}
theorem cnS (n : Nat) (ht : ∀ w ∈ Ts, w.before args s = true) (hG : GoodIn Ts wsy) {ws' : List Cond} (hw : wsy = Cond.code y bytes maxL ret :: ws') (hrc : rm.cells = 0) (hrs : rm.slots = 0) (hl : va_Nw (.methodLinkNest own index y host) s) (hini : Cond.initialized y.cls ∈ Ts) (hst : Cond.static y ∈ Ts)
    (hd : y.cls ≠ "java/lang/invoke/MethodHandle" ∧ y.cls ≠ "java/lang/invoke/VarHandle" ∧ (parseMethodDescriptor y.desc).map (fun d => d.parameters.length) = some n) (hR : rm.frames + 1 ≤ R.frames ∧ 8 + (maxL + 11) + rm.locals ≤ R.locals) : va_CN R s args own index y host bytes maxL ret wsy rm 0 0 n ∧ (Cond.static y).before args s = true ∧ True := ⟨va_cnB n ht hG hw hrc hrs hl (ht _ hini) hd hR, ht _ hst, trivial⟩
theorem roV1 {v : Value} (S : CallFix p m c cc nL s args Ts own) (hM : Met l y wsy rm (RoP D cI cZ sa H (.ref b :: As)) (RoQ (some v) H) 0 0 RoF) (cw : CallW R s args own C index y bytes maxL ret wsy rm 0 0 n) (hKK : KK D cI cZ sa s) (hP : va_P D vwCl ws H) (q0 : Nat) {ci N : Nat} {T : u_T} {fs : List Value} (he : ws[q0]? = some (b, .inr (ci, fs))) (hc : vwCl[ci]? = some (C, T, N)) (hn : As.length = n) (hsize : ls.size = nL) (hst : st0 = As.reverse ++ .ref b :: rest) (hW : (rest.map fun v => v.category).sum ≤ 8) (hdg : decode cc pc = .ok (.invokevirtual index, 3)) (hcs : cells ≤ R.cells) (hss : slots ≤ R.slots) (kk : W p l e R s m args below meth c H locs cells slots Q (F0 m (pc + 3) ls (v :: rest))) : W p l e R s m args below meth c H locs cells slots Q (F0 m (pc) ls (st0)) :=
  roRun (v0 := (some v)) (rest := rest) (va_runV S hM cw ⟨RoP.blind, va_recv hKK.1 hP hc he, fun U hU hW => ⟨rfl, hU, hKK.warm hW⟩⟩ rfl hn hsize hst (lv_room hW) hdg ⟨hcs, hss⟩) kk
theorem roS1 {v : Value} (S : CallFix p m c cc nL s args Ts own) (hM : Met l y wsy rm (RoP D cI cZ sa H As) (RoQ (some v) H) 0 0 RoF) (cw : CallB R s args own index y bytes maxL ret wsy rm 0 0 n ∧ (Cond.static y).before args s = true) (hKK : KK D cI cZ sa s) (hn : As.length = n) (hsize : ls.size = nL) (hst : st0 = As.reverse ++ rest) (hW : (rest.map fun v => v.category).sum ≤ 8) (hdg : decode cc pc = .ok (.invokestatic index, 3)) (hcs : cells ≤ R.cells) (hss : slots ≤ R.slots) (kk : W p l e R s m args below meth c H locs cells slots Q (F0 m (pc + 3) ls (v :: rest))) : W p l e R s m args below meth c H locs cells slots Q (F0 m (pc) ls (st0)) :=
  roRun (v0 := (some v)) (rest := rest) (va_runS S hM cw ⟨RoP.blind, fun U hU hW => ⟨rfl, hU, hKK.warm hW⟩⟩ rfl hn hsize hst (lv_room hW) hdg ⟨hcs, hss⟩) kk
theorem roN1 {v : Value} (S : CallFix p m c cc nL s args Ts own) (hM : Met l y wsy rm (RoP D cI cZ sa H As) (RoQ (some v) H) 0 0 RoF) (cw : va_CN R s args own index y host bytes maxL ret wsy rm 0 0 n ∧ (Cond.static y).before args s = true ∧ True) (hKK : KK D cI cZ sa s) (hn : As.length = n) (hsize : ls.size = nL) (hst : st0 = As.reverse ++ rest) (hW : (rest.map fun v => v.category).sum ≤ 8) (hdg : decode cc pc = .ok (.invokestatic index, 3)) (hcs : cells ≤ R.cells) (hss : slots ≤ R.slots) (kk : W p l e R s m args below meth c H locs cells slots Q (F0 m (pc + 3) ls (v :: rest))) : W p l e R s m args below meth c H locs cells slots Q (F0 m (pc) ls (st0)) :=
  roRun (v0 := (some v)) (rest := rest) (va_runSN S hM cw ⟨RoP.blind, fun U hU hW => ⟨rfl, hU, hKK.warm hW⟩⟩ rfl hn hsize hst (lv_room hW) hdg ⟨hcs, hss⟩) kk
theorem roV0 (S : CallFix p m c cc nL s args Ts own) (hM : Met l y wsy rm (RoP D cI cZ sa H (.ref b :: As)) (RoQ none H) 0 0 RoF) (cw : CallW R s args own C index y bytes maxL ret wsy rm 0 0 n) (hKK : KK D cI cZ sa s) (hP : va_P D vwCl ws H) (q0 : Nat) {ci N : Nat} {T : u_T} {fs : List Value} (he : ws[q0]? = some (b, .inr (ci, fs))) (hc : vwCl[ci]? = some (C, T, N)) (hn : As.length = n) (hsize : ls.size = nL) (hst : st0 = As.reverse ++ .ref b :: rest) (hW : (rest.map fun v => v.category).sum ≤ 8) (hdg : decode cc pc = .ok (.invokevirtual index, 3)) (hcs : cells ≤ R.cells) (hss : slots ≤ R.slots) (kk : W p l e R s m args below meth c H locs cells slots Q (F0 m (pc + 3) ls (rest))) : W p l e R s m args below meth c H locs cells slots Q (F0 m (pc) ls (st0)) :=
  roRun (v0 := none) (rest := rest) (va_runV S hM cw ⟨RoP.blind, va_recv hKK.1 hP hc he, fun U hU hW => ⟨rfl, hU, hKK.warm hW⟩⟩ rfl hn hsize hst (lv_room hW) hdg ⟨hcs, hss⟩) kk
theorem roS0 (S : CallFix p m c cc nL s args Ts own) (hM : Met l y wsy rm (RoP D cI cZ sa H As) (RoQ none H) 0 0 RoF) (cw : CallB R s args own index y bytes maxL ret wsy rm 0 0 n ∧ (Cond.static y).before args s = true) (hKK : KK D cI cZ sa s) (hn : As.length = n) (hsize : ls.size = nL) (hst : st0 = As.reverse ++ rest) (hW : (rest.map fun v => v.category).sum ≤ 8) (hdg : decode cc pc = .ok (.invokestatic index, 3)) (hcs : cells ≤ R.cells) (hss : slots ≤ R.slots) (kk : W p l e R s m args below meth c H locs cells slots Q (F0 m (pc + 3) ls (rest))) : W p l e R s m args below meth c H locs cells slots Q (F0 m (pc) ls (st0)) :=
  roRun (v0 := none) (rest := rest) (va_runS S hM cw ⟨RoP.blind, fun U hU hW => ⟨rfl, hU, hKK.warm hW⟩⟩ rfl hn hsize hst (lv_room hW) hdg ⟨hcs, hss⟩) kk
theorem roN0 (S : CallFix p m c cc nL s args Ts own) (hM : Met l y wsy rm (RoP D cI cZ sa H As) (RoQ none H) 0 0 RoF) (cw : va_CN R s args own index y host bytes maxL ret wsy rm 0 0 n ∧ (Cond.static y).before args s = true ∧ True) (hKK : KK D cI cZ sa s) (hn : As.length = n) (hsize : ls.size = nL) (hst : st0 = As.reverse ++ rest) (hW : (rest.map fun v => v.category).sum ≤ 8) (hdg : decode cc pc = .ok (.invokestatic index, 3)) (hcs : cells ≤ R.cells) (hss : slots ≤ R.slots) (kk : W p l e R s m args below meth c H locs cells slots Q (F0 m (pc + 3) ls (rest))) : W p l e R s m args below meth c H locs cells slots Q (F0 m (pc) ls (st0)) :=
  roRun (v0 := none) (rest := rest) (va_runSN S hM cw ⟨RoP.blind, fun U hU hW => ⟨rfl, hU, hKK.warm hW⟩⟩ rfl hn hsize hst (lv_room hW) hdg ⟨hcs, hss⟩) kk
/-- behind a call that wrote within A1 -/
theorem wrRun {v0 : Option Value} {a9 : Array Value} {A1 A0 : Nat → Prop} {w1 : va_W} (hr : va_Run p l e R s m args below meth c H locs cells slots 0 0 (F0 m pc ls st0) rest (WrQ v0 D w1 A1 a9) A1) (hS : va_S A0 H0 H locs) (hA : ∀ q, A1 q → A0 q)
    (kk : ∀ (H1 : Heap) (locs1 : List Loc), va_P D vwCl w1 H1 → H.size ≤ H1.size → (∀ q : Nat, q < H.size → ¬ A1 q → H1[q]? = H[q]?) → va_S A0 H0 H1 locs1 → W p l e R s m args below meth c H1 locs1 cells slots Q (F0 m (pc + 3) ls (v0.toList ++ rest))) : W p l e R s m args below meth c H locs cells slots Q (F0 m pc ls st0) := by
  intro T hT X
  obtain ⟨v, st₀, t, T', L, h0, X', hL, e1, e2, ⟨hv, hb, hz, hk⟩, st⟩ := hr T hT X
  cases hv
  rw [h0] at hz hk
  obtain ⟨t2, a1, b1⟩ := kk T'.heap (locs ++ L) (by rw [e1]; exact hb) (by rw [e1]; exact hz) (fun q h1 h2 => by rw [e1]; exact hk q h1 h2)
    ⟨Nat.le_trans hS.1 (by rw [e1]; exact hz), fun q h1 h2 => by rw [e1, hk q (Nat.lt_of_lt_of_le h1 hS.1) (fun z => h2 (hA q z))]; exact hS.2.1 q h1 h2, fun q hq => by
      rcases List.mem_append.mp hq with h | h
      · exact hS.2.2 q h
      · exact hA _ (hL q h)⟩ T' rfl X'
  exact ⟨t2, st t2 a1, b1⟩
theorem wrV1 {v : Value} {A1 A0 : Nat → Prop} {wc w1 : va_W} (S : CallFix p m c cc nL s args Ts own) (hM : Met l y wsy rm (WrP D cI cZ sa wc (.ref b :: As)) (WrQ (some v) D w1 A1) 0 0 A1) (cw : CallW R s args own C index y bytes maxL ret wsy rm 0 0 n) (hKK : KK D cI cZ sa s) (hP : va_P D vwCl wc H) (q0 : Nat) {ci N : Nat} {T : u_T} {fs : List Value} (he : wc[q0]? = some (b, .inr (ci, fs))) (hc : vwCl[ci]? = some (C, T, N)) (hn : As.length = n) (hsize : ls.size = nL) (hst : st0 = As.reverse ++ .ref b :: rest) (hW : (rest.map fun v => v.category).sum ≤ 8) (hdg : decode cc pc = .ok (.invokevirtual index, 3)) (hcs : cells ≤ R.cells) (hss : slots ≤ R.slots) (hS : va_S A0 H0 H locs) (hA : ∀ q, A1 q → A0 q) (kk : ∀ (H1 : Heap) (locs1 : List Loc), va_P D vwCl w1 H1 → H.size ≤ H1.size → (∀ q : Nat, q < H.size → ¬ A1 q → H1[q]? = H[q]?) → va_S A0 H0 H1 locs1 → W p l e R s m args below meth c H1 locs1 cells slots Q (F0 m (pc + 3) ls (v :: rest))) : W p l e R s m args below meth c H locs cells slots Q (F0 m (pc) ls (st0)) :=
  wrRun (v0 := (some v)) (rest := rest) (va_runV S hM cw ⟨WrP.blind, va_recv hKK.1 hP hc he, fun U hU hW => ⟨rfl, by rw [hU]; exact hP, hKK.warm hW⟩⟩ rfl hn hsize hst (lv_room hW) hdg ⟨hcs, hss⟩) hS hA kk
theorem wrV0 {A1 A0 : Nat → Prop} {wc w1 : va_W} (S : CallFix p m c cc nL s args Ts own) (hM : Met l y wsy rm (WrP D cI cZ sa wc (.ref b :: As)) (WrQ none D w1 A1) 0 0 A1) (cw : CallW R s args own C index y bytes maxL ret wsy rm 0 0 n) (hKK : KK D cI cZ sa s) (hP : va_P D vwCl wc H) (q0 : Nat) {ci N : Nat} {T : u_T} {fs : List Value} (he : wc[q0]? = some (b, .inr (ci, fs))) (hc : vwCl[ci]? = some (C, T, N)) (hn : As.length = n) (hsize : ls.size = nL) (hst : st0 = As.reverse ++ .ref b :: rest) (hW : (rest.map fun v => v.category).sum ≤ 8) (hdg : decode cc pc = .ok (.invokevirtual index, 3)) (hcs : cells ≤ R.cells) (hss : slots ≤ R.slots) (hS : va_S A0 H0 H locs) (hA : ∀ q, A1 q → A0 q) (kk : ∀ (H1 : Heap) (locs1 : List Loc), va_P D vwCl w1 H1 → H.size ≤ H1.size → (∀ q : Nat, q < H.size → ¬ A1 q → H1[q]? = H[q]?) → va_S A0 H0 H1 locs1 → W p l e R s m args below meth c H1 locs1 cells slots Q (F0 m (pc + 3) ls (rest))) : W p l e R s m args below meth c H locs cells slots Q (F0 m (pc) ls (st0)) :=
  wrRun (v0 := none) (rest := rest) (va_runV S hM cw ⟨WrP.blind, va_recv hKK.1 hP hc he, fun U hU hW => ⟨rfl, by rw [hU]; exact hP, hKK.warm hW⟩⟩ rfl hn hsize hst (lv_room hW) hdg ⟨hcs, hss⟩) hS hA kk
end ROWS
section ENDS
variable {p : Program} {l : Launch} {e : Env} {R : Room} {s : State} {m : MethodId} {args : Array Value} {below : List Frame} {meth : Method} {c : Code} {H : Heap} {locs : List Loc} {cells slots : Nat} {cc : ByteArray} {pc : Nat} {ls : Array Slot}
theorem ro_r (hx : p.tables.exec = Jvm.exec) (hb : c.code = cc) {n : String} (hr : meth.sig.returnType = some (.object n)) (hlocks : meth.locks = false) {a0 a : Nat} (hv : a = a0) (hdg : decode cc pc = .ok (.areturn, 1)) : W p l e R s m args below meth c s.heap [] 0 0 (MQ below (RoQ (some (.ref a0)) s.heap) args s 0 0 RoF) (F0 m pc ls [.ref a]) :=
  W.aret hx hb hr (Or.inl ⟨n, rfl⟩) (Or.inr ⟨a, rfl⟩) (fun t ht _ => ⟨by rw [hv], ht⟩) (fun _ h => nomatch h) hdg hlocks
/-- a throw: the exact heap, and what the tables say of Throwable -/
def ZZ (H : Heap) (U : State) : Prop := vx_Zq Bundle.tN "UNASSIGNED_STACK" Bundle.steD (fun a => H.size ≤ a) U H ∧ vx_Zq Bundle.tN "SUPPRESSED_SENTINEL" Bundle.listD (fun a => H.size ≤ a) U H
theorem ZZ.warm {H : Heap} {s U : State} (hW : s.vm.Alike U.vm) (h : ZZ H s) : ZZ H U := ⟨vx_Zq.moved hW h.1, vx_Zq.moved hW h.2⟩
theorem ZZ.grow {H H1 : Heap} {U : State} (h : ZZ H U) (hz : H.size ≤ H1.size) (hk : ∀ a : Nat, a < H.size → H1[a]? = H[a]?) : ZZ H1 U :=
  ⟨(h.1.kept (fun a ha _ => hk a ha)).narrow (fun _ h => Nat.le_trans hz h), (h.2.kept (fun a ha _ => hk a ha)).narrow (fun _ h => Nat.le_trans hz h)⟩
abbrev ThP (D : va_G) (cI cZ : ClassId) (sa : Nat → Nat) (H : Heap) (av : List Value) : Array Value → State → Prop := va_Pc av (fun U => U.heap = H ∧ KK D cI cZ sa U ∧ ZZ H U)
def ThX (E : String) (H : Heap) : String → State → State → Prop := fun E' _ t => E' = E ∧ H.size ≤ t.heap.size ∧ ∀ a : Nat, a < H.size → t.heap[a]? = H[a]?
def NoQ : Array Value → State → Outcome → State → Prop := fun _ _ _ _ => False
theorem ThP.blind {H : Heap} {D : va_G} {cI cZ : ClassId} {sa : Nat → Nat} {av : List Value} : FrameBlind (ThP D cI cZ sa H av) := fun a U g mk q => by
  obtain ⟨q0, q1, q2, q3⟩ := q
  exact ⟨q0, q1, q2.same rfl, q3.warm (Vm.Alike.refl U.vm)⟩
variable {Q : State → Prop} {st0 rest : List Value} {a9 : Array Value}
theorem thRun {E : String} (hr : vx_Run p l e R s m args below meth c H locs cells slots 1 6 (F0 m pc ls st0) rest (NoQ a9) (ThX E H) RoF)
    (kx : ∀ (H1 : Heap) (ce : Cell) (q9 : Addr), H.size ≤ H1.size → (∀ a : Nat, a < H.size → H1[a]? = H[a]?) → H1[q9]? = some ce → ce.vm = .none → s.vm.findClass E = some ce.cls → vx_W p l e R s m args below meth c H1 locs (cells + 1) (slots + 6) Q (F0 m pc ls rest) q9) : W p l e R s m args below meth c H locs cells slots Q (F0 m pc ls st0) := by
  intro T hT X
  rcases hr T hT X with ⟨v, st₀, t, T', L, _, _, _, _, _, hq, _⟩ | ⟨q, st₀, t, T', L, E', ce, h0, X', hL, e1, e2, ⟨rfl, hz, hk⟩, hc, hv, hcl, st⟩
  · exact hq.elim
  · have hL0 : L = [] := by
      cases L with
      | nil => rfl
      | cons q _ => exact (hL q List.mem_cons_self).elim
    subst hL0
    rw [List.append_nil] at X'
    obtain ⟨t2, a1, b1⟩ := kx T'.heap ce q (by rw [e1]; exact hz) (fun a ha => by rw [e1]; exact hk a ha) (by rw [e1]; exact hc) hv hcl T' rfl X'
    exact ⟨t2, st.trans a1, b1⟩
variable {y : MethodName} {bytes : ByteArray} {maxL nL n index : Nat} {ret : Option FieldType} {wsy : List Cond} {rm : Room} {Ts : List Cond} {own C : String} {b : Addr} {As : List Value} {cI cZ : ClassId} {sa : Nat → Nat}
theorem thV {D : va_G} {ws : va_W} {E : String} (S : CallFix p m c cc nL s args Ts own) (hM : vx_Met l y wsy rm (ThP D cI cZ sa H (.ref b :: As)) NoQ (ThX E H) 1 6 RoF) (cw : CallW R s args own C index y bytes maxL ret wsy rm 1 6 n) (hKK : KK D cI cZ sa s) (hZ : ZZ H s) (hP : va_P D vwCl ws H) (q0 : Nat) {ci N : Nat} {T : u_T} {fs : List Value} (he : ws[q0]? = some (b, .inr (ci, fs))) (hc : vwCl[ci]? = some (C, T, N)) (hn : As.length = n) (hsize : ls.size = nL) (hst : st0 = As.reverse ++ .ref b :: rest) (hW : (rest.map fun v => v.category).sum ≤ 8) (hdg : decode cc pc = .ok (.invokevirtual index, 3)) (hcs : cells + 1 ≤ R.cells) (hss : slots + 6 ≤ R.slots)
    (kx : ∀ (H1 : Heap) (ce : Cell) (q9 : Addr), H.size ≤ H1.size → (∀ a : Nat, a < H.size → H1[a]? = H[a]?) → H1[q9]? = some ce → ce.vm = .none → s.vm.findClass E = some ce.cls → vx_W p l e R s m args below meth c H1 locs (cells + 1) (slots + 6) Q (F0 m pc ls rest) q9) : W p l e R s m args below meth c H locs cells slots Q (F0 m pc ls st0) :=
  thRun (rest := rest) (vx_runV S hM cw ⟨ThP.blind, va_recv hKK.1 hP hc he, fun U hU hW => ⟨rfl, hU, hKK.warm hW, hZ.warm hW.alike⟩⟩ rfl hn hsize hst (lv_room hW) hdg ⟨hcs, hss⟩) kx
theorem thS {D : va_G} {E : String} (S : CallFix p m c cc nL s args Ts own) (hM : vx_Met l y wsy rm (ThP D cI cZ sa H As) NoQ (ThX E H) 1 6 RoF) (cw : CallB R s args own index y bytes maxL ret wsy rm 1 6 n ∧ (Cond.static y).before args s = true) (hKK : KK D cI cZ sa s) (hZ : ZZ H s) (hn : As.length = n) (hsize : ls.size = nL) (hst : st0 = As.reverse ++ rest) (hW : (rest.map fun v => v.category).sum ≤ 8) (hdg : decode cc pc = .ok (.invokestatic index, 3)) (hcs : cells + 1 ≤ R.cells) (hss : slots + 6 ≤ R.slots)
    (kx : ∀ (H1 : Heap) (ce : Cell) (q9 : Addr), H.size ≤ H1.size → (∀ a : Nat, a < H.size → H1[a]? = H[a]?) → H1[q9]? = some ce → ce.vm = .none → s.vm.findClass E = some ce.cls → vx_W p l e R s m args below meth c H1 locs (cells + 1) (slots + 6) Q (F0 m pc ls rest) q9) : W p l e R s m args below meth c H locs cells slots Q (F0 m pc ls st0) :=
  thRun (rest := rest) (vx_runS S hM cw ⟨ThP.blind, fun U hU hW => ⟨rfl, hU, hKK.warm hW, hZ.warm hW.alike⟩⟩ rfl hn hsize hst (lv_room hW) hdg ⟨hcs, hss⟩) kx
/-- what a callee has thrown leaves this method too -/
theorem thOut {E : String} {H1 : Heap} {ce : Cell} {q9 : Addr} (hout : ∀ x ∈ c.exceptionTable.toList, False) (hlocks : meth.locks = false) (hz : H.size ≤ H1.size) (hk : ∀ a : Nat, a < H.size → H1[a]? = H[a]?) (hc : H1[q9]? = some ce) (hv : ce.vm = .none) (hcl : s.vm.findClass E = some ce.cls) : vx_W p l e R s m args below meth c H1 [] (0 + 1) (0 + 6) (vx_MQ below NoQ (ThX E H) args s 1 6 RoF) (F0 m pc ls rest) q9 :=
  vx_out (fun x h => (hout x h).elim) hlocks hc hv hcl (fun t ht _ => ⟨rfl, by rw [ht]; exact hz, fun a ha => by rw [ht]; exact hk a ha⟩) (fun _ h => nomatch h) (Nat.le_refl _) (Nat.le_refl _)
theorem ro_i (hx : p.tables.exec = Jvm.exec) (hb : c.code = cc) (hr : meth.sig.returnType = some .int) (hlocks : meth.locks = false) {v0 v : Int32} (hv : v = v0) (hdg : decode cc pc = .ok (.ireturn, 1)) : W p l e R s m args below meth c s.heap [] 0 0 (MQ below (RoQ (some (.int v0)) s.heap) args s 0 0 RoF) (F0 m pc ls [.int v]) :=
  W.iret hx hb hr (fun t ht _ => ⟨by rw [hv], ht⟩) (fun _ h => nomatch h) hdg hlocks
theorem wr_i {D : va_G} {ws : va_W} {A : Nat → Prop} (hx : p.tables.exec = Jvm.exec) (hb : c.code = cc) (hr : meth.sig.returnType = some .int) (hlocks : meth.locks = false) {v0 v : Int32} (hv : v = v0) (hP : va_P D vwCl ws H) (hS : va_S A s.heap H locs) (hdg : decode cc pc = .ok (.ireturn, 1)) : W p l e R s m args below meth c H locs 0 0 (MQ below (WrQ (some (.int v0)) D ws A) args s 0 0 A) (F0 m pc ls [.int v]) :=
  W.iret hx hb hr (fun t ht _ => ⟨by rw [hv], by rw [ht]; exact hP, hS.F ht⟩) hS.2.2 hdg hlocks
theorem ro_z (hx : p.tables.exec = Jvm.exec) (hb : c.code = cc) (hr : meth.sig.returnType = some .boolean) (hlocks : meth.locks = false) {v b : Bool} (hv : v = b) (hdg : decode cc pc = .ok (.ireturn, 1)) : W p l e R s m args below meth c s.heap [] 0 0 (MQ below (RoQ (some (.int (b2i b))) s.heap) args s 0 0 RoF) (F0 m pc ls [.int (b2i v)]) :=
  W.zret hx hb hr (by cases v <;> rfl) (fun t ht _ => ⟨by rw [hv], ht⟩) (fun _ h => nomatch h) hdg hlocks
theorem wr_z {D : va_G} {ws : va_W} {A : Nat → Prop} (hx : p.tables.exec = Jvm.exec) (hb : c.code = cc) (hr : meth.sig.returnType = some .boolean) (hlocks : meth.locks = false) {v b : Bool} (hv : v = b) (hP : va_P D vwCl ws H) (hS : va_S A s.heap H locs) (hdg : decode cc pc = .ok (.ireturn, 1)) : W p l e R s m args below meth c H locs 0 0 (MQ below (WrQ (some (.int (b2i b))) D ws A) args s 0 0 A) (F0 m pc ls [.int (b2i v)]) :=
  W.zret hx hb hr (by cases v <;> rfl) (fun t ht _ => ⟨by rw [hv], by rw [ht]; exact hP, hS.F ht⟩) hS.2.2 hdg hlocks
theorem ro_l (hx : p.tables.exec = Jvm.exec) (hb : c.code = cc) (hr : meth.sig.returnType = some .long) (hlocks : meth.locks = false) {v0 v : Int64} (hv : v = v0) (hdg : decode cc pc = .ok (.lreturn, 1)) : W p l e R s m args below meth c s.heap [] 0 0 (MQ below (RoQ (some (.long v0)) s.heap) args s 0 0 RoF) (F0 m pc ls [.long v]) :=
  W.lret hx hb hr (fun t ht _ => ⟨by rw [hv], ht⟩) (fun _ h => nomatch h) hdg hlocks
theorem wr_l {D : va_G} {ws : va_W} {A : Nat → Prop} (hx : p.tables.exec = Jvm.exec) (hb : c.code = cc) (hr : meth.sig.returnType = some .long) (hlocks : meth.locks = false) {v0 v : Int64} (hv : v = v0) (hP : va_P D vwCl ws H) (hS : va_S A s.heap H locs) (hdg : decode cc pc = .ok (.lreturn, 1)) : W p l e R s m args below meth c H locs 0 0 (MQ below (WrQ (some (.long v0)) D ws A) args s 0 0 A) (F0 m pc ls [.long v]) :=
  W.lret hx hb hr (fun t ht _ => ⟨by rw [hv], by rw [ht]; exact hP, hS.F ht⟩) hS.2.2 hdg hlocks
theorem ro_f (hx : p.tables.exec = Jvm.exec) (hb : c.code = cc) (hr : meth.sig.returnType = some .float) (hlocks : meth.locks = false) {v0 v : UInt32} (hv : v = v0) (hdg : decode cc pc = .ok (.freturn, 1)) : W p l e R s m args below meth c s.heap [] 0 0 (MQ below (RoQ (some (.float v0)) s.heap) args s 0 0 RoF) (F0 m pc ls [.float v]) :=
  W.fret hx hb hr (fun t ht _ => ⟨by rw [hv], ht⟩) (fun _ h => nomatch h) hdg hlocks
theorem wr_f {D : va_G} {ws : va_W} {A : Nat → Prop} (hx : p.tables.exec = Jvm.exec) (hb : c.code = cc) (hr : meth.sig.returnType = some .float) (hlocks : meth.locks = false) {v0 v : UInt32} (hv : v = v0) (hP : va_P D vwCl ws H) (hS : va_S A s.heap H locs) (hdg : decode cc pc = .ok (.freturn, 1)) : W p l e R s m args below meth c H locs 0 0 (MQ below (WrQ (some (.float v0)) D ws A) args s 0 0 A) (F0 m pc ls [.float v]) :=
  W.fret hx hb hr (fun t ht _ => ⟨by rw [hv], by rw [ht]; exact hP, hS.F ht⟩) hS.2.2 hdg hlocks
theorem ro_v (hx : p.tables.exec = Jvm.exec) (hb : c.code = cc) (hr : meth.sig.returnType = none) (hlocks : meth.locks = false) (hdg : decode cc pc = .ok (.return_, 1)) : W p l e R s m args below meth c s.heap [] 0 0 (MQ below (RoQ none s.heap) args s 0 0 RoF) (F0 m pc ls []) :=
  W.vret hx hb hr (fun t ht _ => ⟨rfl, ht⟩) (fun _ h => nomatch h) hdg hlocks
theorem wr_v {D : va_G} {ws : va_W} {A : Nat → Prop} (hx : p.tables.exec = Jvm.exec) (hb : c.code = cc) (hr : meth.sig.returnType = none) (hlocks : meth.locks = false) (hP : va_P D vwCl ws H) (hS : va_S A s.heap H locs) (hdg : decode cc pc = .ok (.return_, 1)) : W p l e R s m args below meth c H locs 0 0 (MQ below (WrQ none D ws A) args s 0 0 A) (F0 m pc ls []) :=
  W.vret hx hb hr (fun t ht _ => ⟨rfl, by rw [ht]; exact hP, hS.F ht⟩) hS.2.2 hdg hlocks
end ENDS
end
section
/-! the worlds: what the cells of the class and of the reference hold, out of a state -/
def wSS (q : Nat → Nat) (cI : ClassId) (σ : ST) : va_W := [(q 1, .inr (2, [.ref (q 2), .ref (q 3), .ref (q 4), .ref (q 5), .ref (q 6), .ref (q 7), .int (nI (σ 1 0))])), (q 2, .inl (cI, 60, .inl (nf (σ 2)))), (q 3, .inl (cI, 60, .inl (nf (σ 3)))), (q 4, .inl (cI, 60, .inl (nf (σ 4)))), (q 5, .inl (cI, 60, .inl (nf (σ 5)))), (q 6, .inl (cI, 60, .inl (nf (σ 6)))), (q 7, .inr (0, [.ref (q 8), .ref (q 9), .ref (q 10), .ref (q 11), .int (nI (σ 7 0))])), (q 8, .inl (cI, 40, .inl (nf (σ 8)))), (q 9, .inl (cI, 40, .inl (nf (σ 9)))), (q 10, .inl (cI, 40, .inl (nf (σ 10)))), (q 11, .inl (cI, 40, .inl (nf (σ 11))))]
def wCl (k : Nat → Nat) (cI cZ : ClassId) (κ : ST) : va_W := [(k 0, .inr (1, [.int (nI (κ 0 0)), .int (nI (κ 0 1)), .int (nI (κ 0 2)), .int (nI (κ 0 3)), .ref (k 1), .ref (k 2), .int (nI (κ 0 4)), .ref (k 3), .ref (k 4), .ref (k 5), .int (nI (κ 0 5))])), (k 1, .inl (cI, 10, .inl (nf (κ 1)))), (k 2, .inl (cI, 10, .inl (nf (κ 2)))), (k 3, .inl (cI, 10, .inl (nf (κ 3)))), (k 4, .inl (cI, 10, .inl (nf (κ 4)))), (k 5, .inl (cZ, 10, .inl (nf (κ 5))))]
def wCS (q k : Nat → Nat) (cI cZ : ClassId) (σ κ : ST) : va_W := wCl k cI cZ κ ++ wSS q cI σ
def wX (q : Nat → Nat) (cI cZ : ClassId) (σ κ0 κ1 : ST) : va_W := (q 0, .inr (3, [.ref (q 1), .ref (q 12), .ref (q 18)])) :: (wSS q cI σ ++ (wCl (fun i => q (12 + i)) cI cZ κ0 ++ wCl (fun i => q (18 + i)) cI cZ κ1))
def wM (q : Nat → Nat) (cI cZ : ClassId) (μ : ST) : va_W := [(q 0, .inr (4, [.ref (q 1), .ref (q 2), .ref (q 3), .ref (q 4), .ref (q 5), .ref (q 6), .int (nI (μ 0 0)), .ref (q 7), .ref (q 8), .ref (q 9), .ref (q 10), .ref (q 11), .ref (q 12), .int (nI (μ 0 1)), .ref (q 13), .ref (q 14), .ref (q 15), .ref (q 16), .ref (q 17), .ref (q 18), .ref (q 19), .ref (q 20), .ref (q 21), .ref (q 22), .ref (q 23), .int (nI (μ 0 2))])), (q 1, .inl (cI, 60, .inl (nf (μ 1)))), (q 2, .inl (cI, 60, .inl (nf (μ 2)))), (q 3, .inl (cI, 60, .inl (nf (μ 3)))), (q 4, .inl (cI, 60, .inl (nf (μ 4)))), (q 5, .inl (cI, 60, .inl (nf (μ 5)))), (q 6, .inl (cI, 60, .inl (nf (μ 6)))), (q 7, .inl (cI, 2048, .inl (nf (μ 7)))), (q 8, .inl (cI, 2048, .inl (nf (μ 8)))), (q 9, .inl (cI, 2048, .inl (nf (μ 9)))), (q 10, .inl (cI, 2048, .inl (nf (μ 10)))), (q 11, .inl (cI, 2048, .inl (kf (μ 11)))), (q 12, .inl (cZ, 2048, .inl (nf (μ 12)))), (q 13, .inl (cI, 2, .inl (nf (μ 13)))), (q 14, .inl (cI, 2, .inl (nf (μ 14)))), (q 15, .inl (cI, 2, .inl (nf (μ 15)))), (q 16, .inl (cI, 2, .inl (nf (μ 16)))), (q 17, .inl (cI, 20, .inl (nf (μ 17)))), (q 18, .inl (cI, 20, .inl (nf (μ 18)))), (q 19, .inl (cI, 2, .inl (nf (μ 19)))), (q 20, .inl (cI, 20, .inl (nf (μ 20)))), (q 21, .inl (cI, 20, .inl (nf (μ 21)))), (q 22, .inl (cZ, 20, .inl (nf (μ 22)))), (q 23, .inl (cI, 2, .inl (nf (μ 23))))]
theorem CS_SS {D : va_G} {cl : List vw_C} {q k : Nat → Nat} {cI cZ : ClassId} {σ κ : ST} {H : Heap} (h : va_P D cl (wCS q k cI cZ σ κ) H) : va_P D cl (wSS q cI σ) H := h.sub [6, 7, 8, 9, 10, 11, 12, 13, 14, 15, 16] rfl
theorem X_SS {D : va_G} {cl : List vw_C} {q : Nat → Nat} {cI cZ : ClassId} {σ κ0 κ1 : ST} {H : Heap} (h : va_P D cl (wX q cI cZ σ κ0 κ1) H) : va_P D cl (wSS q cI σ) H := h.sub [1, 2, 3, 4, 5, 6, 7, 8, 9, 10, 11] rfl
theorem X_C0 {D : va_G} {cl : List vw_C} {q : Nat → Nat} {cI cZ : ClassId} {σ κ0 κ1 : ST} {H : Heap} (h : va_P D cl (wX q cI cZ σ κ0 κ1) H) : va_P D cl (wCS q (fun i => q (12 + i)) cI cZ σ κ0) H := h.sub [12, 13, 14, 15, 16, 17, 1, 2, 3, 4, 5, 6, 7, 8, 9, 10, 11] rfl
theorem X_C1 {D : va_G} {cl : List vw_C} {q : Nat → Nat} {cI cZ : ClassId} {σ κ0 κ1 : ST} {H : Heap} (h : va_P D cl (wX q cI cZ σ κ0 κ1) H) : va_P D cl (wCS q (fun i => q (18 + i)) cI cZ σ κ1) H := h.sub [18, 19, 20, 21, 22, 23, 1, 2, 3, 4, 5, 6, 7, 8, 9, 10, 11] rfl
end
section
/-! what the class's small methods answer -/
def iw (v a b : Int32) : Bool := !decide (v < a) && !decide (b < v)
def mt (a b c d : Nat) : Bool := !decide (nI a &&& nI c = 0) && decide (nI b &&& nI d = nI d)
def hl64 (x : Int64) (k : Nat) : Bool := decide ((x >>> ((nI k).toInt64 &&& 63)) &&& 1 = 1)
def wi (x : Int64) (k : Nat) (b : Bool) : Int64 := cond b (x ||| ((1 : Int64) <<< ((nI k).toInt64 &&& 63))) (x &&& (((1 : Int64) <<< ((nI k).toInt64 &&& 63)) ^^^ (-1)))
/-- the mails of which p holds, below n, as bits -/
def ms (p : Nat → Bool) : Nat → Int64
  | 0 => 0
  | n + 1 => wi (ms p n) n (p n)
def bitc (x : Int64) : Int32 :=
  let a := x - ((x.toUInt64 >>> ((nI 1).toInt64.toUInt64 &&& Int64.toUInt64 63)).toInt64 &&& 6148914691236517205)
  let b := (a &&& 3689348814741910323) + ((a.toUInt64 >>> ((nI 2).toInt64.toUInt64 &&& Int64.toUInt64 63)).toInt64 &&& 3689348814741910323)
  let c := (b + (b.toUInt64 >>> ((nI 4).toInt64.toUInt64 &&& Int64.toUInt64 63)).toInt64) &&& 1085102592571150095
  let d := c + (c.toUInt64 >>> ((nI 8).toInt64.toUInt64 &&& Int64.toUInt64 63)).toInt64
  let e := d + (d.toUInt64 >>> ((nI 16).toInt64.toUInt64 &&& Int64.toUInt64 63)).toInt64
  let f := e + (e.toUInt64 >>> ((nI 32).toInt64.toUInt64 &&& Int64.toUInt64 63)).toInt64
  f.toInt32 &&& nI 127
theorem lg_eq {x y : Int64} : lg_cmp x y = 0 ↔ x = y := by
  unfold lg_cmp
  by_cases h1 : x > y
  · rw [if_pos h1]
    refine ⟨fun q => absurd q (by decide), fun q => ?_⟩
    subst q
    simp [gt_iff_lt, Int64.lt_iff_toInt_lt] at h1
  · rw [if_neg h1]
    by_cases h2 : x = y
    · rw [if_pos h2]; exact ⟨fun _ => h2, fun _ => rfl⟩
    · rw [if_neg h2]; exact ⟨fun q => absurd q (by decide), fun q => absurd q h2⟩
theorem nI_lt_lit {a : Nat} (h : a < 2 ^ 31) : a < 2 ^ 31 := h
/-- a change kept: the state grows, its slot holds the mail, what it was and what its keywords are -/
def kp (σ : ST) (mail ob ok nk : Nat) : ST := su (su (su (su (sv σ 7 0 (σ 7 0 + 1)) 8 (upN (σ 8) ((σ 7 0 + 1) % 40) mail)) 9 (upN (σ 9) ((σ 7 0 + 1) % 40) ob)) 10 (upN (σ 10) ((σ 7 0 + 1) % 40) ok)) 11 (upN (σ 11) ((σ 7 0 + 1) % 40) nk)
def und (σ : ST) (any al : Nat) (x : Int64) : Nat → Int64
  | 0 => x
  | b + 1 => wi (und σ any al x b) (σ 8 ((σ 7 0 - b) % 40)) (mt (σ 9 ((σ 7 0 - b) % 40)) (σ 10 ((σ 7 0 - b) % 40)) any al)
def tch (σ : ST) : Nat → Int64
  | 0 => 0
  | b + 1 => wi (tch σ b) (σ 8 ((σ 7 0 - b) % 40)) true
def pgs (σ : ST) (st : Nat) : Nat → Int64
  | 0 => 0
  | a + 1 => wi (pgs σ st a) (σ 8 ((st + 1 + a) % 40)) true
def pgc (σ : ST) (st pl a : Nat) : Bool := !hl64 (pgs σ st a) (σ 8 ((st + 1 + a) % 40)) && !decide (bitc (pgs σ st a) < nI pl)
def pge (σ : ST) (st pl : Nat) : Nat → Nat → Nat
  | 0, _ => σ 7 0
  | n + 1, a => cond (pgc σ st pl a) (st + a) (pge σ st pl n (a + 1))
def ctc (σ : ST) (mail kw b : Nat) : Bool := decide (σ 8 ((σ 7 0 - b) % 40) = mail) && hl64 ((nI (σ 10 ((σ 7 0 - b) % 40)) ^^^ nI (σ 11 ((σ 7 0 - b) % 40))).toInt64) kw
def ctr (σ : ST) (mail kw w : Nat) : Nat → Nat → Bool
  | 0, _ => false
  | n + 1, b => cond (ctc σ mail kw b) (hl64 ((nI (σ 11 ((σ 7 0 - b) % 40))).toInt64) kw != nb w) (ctr σ mail kw w n (b + 1))
def cnt (p : Nat → Bool) : Nat → Nat
  | 0 => 0
  | n + 1 => cnt p n + b2n (p n)
theorem cnt_t {p : Nat → Bool} {n : Nat} (h : p n = true) : cnt p n + 1 = cnt p (n + 1) := by simp [cnt, h, b2n]
theorem cnt_f {p : Nat → Bool} {n : Nat} (h : p n = false) : cnt p n = cnt p (n + 1) := by simp [cnt, h, b2n]
theorem cnt_le (p : Nat → Bool) (n : Nat) : cnt p n ≤ n := by
  induction n with
  | zero => exact Nat.le_refl 0
  | succ n ih => have := b2n_lt (p n); simp only [cnt]; omega
def chg (σ : ST) (j b w : Nat) : ST := su (su (kp σ j (σ 4 j) (σ 5 j) w) 4 (upN (σ 4) j b)) 5 (upN (σ 5) j w)
def wn (w k : Nat) (b : Bool) : Nat := cond b (w ||| 2 ^ k) (w &&& (15 - 2 ^ k))
theorem wi_n0 : ∀ b : Bool, ∀ k : Fin 4, ∀ w : Fin 16, (wi ((nI w.val).toInt64) k.val b).toInt32 = nI (wn w.val k.val b) := by decide +kernel
theorem wi_n {w k : Nat} (hw : w < 16) (hk : k < 4) (b : Bool) : (wi ((nI w).toInt64) k b).toInt32 = nI (wn w k b) := wi_n0 b ⟨k, hk⟩ ⟨w, hw⟩
theorem wn_lt0 : ∀ b : Bool, ∀ k : Fin 4, ∀ w : Fin 16, wn w.val k.val b < 16 := by decide +kernel
theorem wn_lt {w k : Nat} (hw : w < 16) (hk : k < 4) (b : Bool) : wn w k b < 16 := wn_lt0 b ⟨k, hk⟩ ⟨w, hw⟩
def pio (tm : Nat → Nat) (t mail : Nat) : Nat → (Nat → Nat) → (Nat → Nat)
  | 0, od => upN od 0 mail
  | k + 1, od => cond (decide (tm (od k) ≤ t)) (pio tm t mail k (upN od (k + 1) (od k))) (upN od (k + 1) mail)
def lat (σ : ST) (x : Int64) (ix : Int32) : Nat → Nat → Nat → Nat
  | 0, _, _ => 0
  | n + 1, pl, ah => cond (hl64 x (σ 6 pl)) (cond (decide (nI ah = ix)) (σ 6 pl + 1) (lat σ x ix n (pl + 1) (ah + 1))) (lat σ x ix n (pl + 1) ah)
def low (x : Int64) (ix : Int32) : Nat → Nat → Nat → Nat
  | 0, _, _ => 0
  | n + 1, m, ah => cond (hl64 x m) (cond (decide (nI ah = ix)) (m + 1) (low x ix n (m + 1) (ah + 1))) (low x ix n (m + 1) ah)
def inT (σ : ST) (t j : Nat) : Bool := !decide (σ 4 j = 0) && decide (σ 3 j = t)
def chs (σ : ST) (st : Nat) : Nat → Int64 := fun way =>
  let now := ms (fun j => mt (σ 4 j) (σ 5 j) 63 0) 60
  let thn := und σ 63 0 now (min (σ 7 0 - st) 40)
  if way = 0 then now &&& (thn ^^^ (-1)) else if way = 2 then thn &&& (now ^^^ (-1)) else (now &&& thn) &&& tch σ (min (σ 7 0 - st) 40)
theorem upN_same (g : Nat → Nat) (k v : Nat) : upN g k v k = v := by unfold upN; rw [if_pos rfl]
theorem upN_ne (g : Nat → Nat) {k v i : Nat} (h : i ≠ k) : upN g k v i = g i := by unfold upN; rw [if_neg h]
theorem iw_f {x : Int32} {a b : Nat} (h : iw x (nI a) (nI b) = false) : iw x (nI a) (nI b) = false := h
theorem iw_n {j a b : Nat} (h1 : a ≤ j) (h2 : j ≤ b) (hb : b < 2 ^ 31) : iw (nI j) (nI a) (nI b) = true := iw_t h1 h2 hb
theorem kp_lt {σ : ST} {N mail ob ok nk : Nat} (hB : ∀ k i, σ k i < N) (h7 : σ 7 0 + 1 < N) (h1 : mail < N) (h2 : ob < N) (h3 : ok < N) (h4 : nk < N) : ∀ k i, kp σ mail ob ok nk k i < N := by
  intro k i
  have up : ∀ (g : Nat → Nat) (a b : Nat), (∀ i, g i < N) → b < N → ∀ i, upN g a b i < N := by
    intro g a b hg hb i; unfold upN; split
    · exact hb
    · exact hg i
  have su_ : ∀ (S : ST) (c : Nat) (f : Nat → Nat), (∀ k i, S k i < N) → (∀ i, f i < N) → ∀ k i, su S c f k i < N := by
    intro S c f hS hf k i; unfold su
    cases Nat.beq k c
    · exact hS k i
    · exact hf i
  have sv_ : ∀ (S : ST) (c j v : Nat), (∀ k i, S k i < N) → v < N → ∀ k i, sv S c j v k i < N := by
    intro S c j v hS hv k i; unfold sv
    refine su_ S c _ hS (fun i => ?_) k i
    cases Nat.beq i j
    · exact hS c i
    · exact hv
  unfold kp
  exact su_ _ _ _ (su_ _ _ _ (su_ _ _ _ (su_ _ _ _ (sv_ _ _ _ _ hB h7) (up _ _ _ (hB 8) h1)) (up _ _ _ (hB 9) h2)) (up _ _ _ (hB 10) h3)) (up _ _ _ (hB 11) h4) k i
theorem su_lt {S : ST} {N c : Nat} {f : Nat → Nat} (hS : ∀ k i, S k i < N) (hf : ∀ i, f i < N) : ∀ k i, su S c f k i < N := by
  intro k i; unfold su
  cases Nat.beq k c
  · exact hS k i
  · exact hf i
theorem sv_lt {S : ST} {N c j v : Nat} (hS : ∀ k i, S k i < N) (hv : v < N) : ∀ k i, sv S c j v k i < N := by
  intro k i; unfold sv
  refine su_lt hS (fun i => ?_) k i
  cases Nat.beq i j
  · exact hS c i
  · exact hv
theorem up_lt {g : Nat → Nat} {N a b : Nat} (hg : ∀ i, g i < N) (hb : b < N) : ∀ i, upN g a b i < N := by
  intro i; unfold upN; split
  · exact hb
  · exact hg i
/-- a keyword set or taken away -/
def sk (σ : ST) (j k w : Nat) : ST := cond (decide (σ 5 j = wn (σ 5 j) k (nb w))) σ (chg σ j (σ 4 j) (wn (σ 5 j) k (nb w)))
/-- a mail comes -/
def lc (σ : ST) (t b th : Nat) : ST :=
  chg (sv (su (su (su σ 2 (upN (σ 2) (σ 1 0) t)) 3 (upN (σ 3) (σ 1 0) th)) 6 (pio (upN (σ 2) (σ 1 0) t) t (σ 1 0) (min (σ 1 0) 59) (σ 6))) 1 0 (σ 1 0 + 1)) (σ 1 0) b 0
theorem pio_lt {tm od : Nat → Nat} {t mail N : Nat} (hod : ∀ i, od i < N) (hm : mail < N) : ∀ (n : Nat) (i : Nat), pio tm t mail n od i < N := by
  intro n
  induction n generalizing od with
  | zero => intro i; exact up_lt hod hm i
  | succ n ih =>
    intro i
    simp only [pio]
    cases decide (tm (od n) ≤ t)
    · exact up_lt hod hm i
    · exact ih (up_lt hod (hod n)) i
theorem pio_lt' {tm od : Nat → Nat} {t mail N : Nat} (hod : ∀ i, od i < N) (hm : mail < N) (n m : Nat) : ∀ i, pio tm t mail n od i < N := pio_lt hod hm n
/-! the clients -/
def plo (κ : ST) (m : Int32) : Nat → Nat → Nat
  | 0, _ => 0
  | n + 1, pl => cond (decide (nI (κ 1 pl) = m)) (pl + 1) (plo κ m n (pl + 1))
def hpl (κ : ST) (x : Int32) : Bool := !decide (x < 0) && !decide (nI (κ 0 4) ≤ x) && !decide (nI 10 ≤ x)
theorem hpl_n {κ : ST} {j : Nat} (h : j < κ 0 4) (h10 : κ 0 4 ≤ 10) : hpl κ (nI j) = true := by
  unfold hpl
  rw [decide_eq_false (nI_pos (by omega)), decide_eq_false (nI_ge h (by omega)), decide_eq_false (nI_ge (by omega) (by decide))]
  rfl
def lst (κ : ST) (m k w : Nat) : ST := sv (su (su (su κ 3 (upN (κ 3) (κ 0 5) m)) 4 (upN (κ 4) (κ 0 5) k)) 5 (upN (κ 5) (κ 0 5) w)) 0 5 (κ 0 5 + 1)
def nte (κ : ST) (pl k w : Nat) : ST := lst (su κ 2 (upN (κ 2) pl (wn (κ 2 pl) k (nb w)))) (κ 1 pl) k w
def icf (σ κ : ST) (m k w : Nat) : Bool := !(!decide (σ 4 m = 0)) || (decide (σ 7 0 - κ 0 2 ≤ 40) && ctr σ m k w (min (σ 7 0 - κ 0 2) 40) 0)
def loc (σ κ : ST) : Nat → ST
  | 0 => sv κ 0 5 0
  | i + 1 => cond (icf σ (loc σ κ i) (loc σ κ i 3 i) (loc σ κ i 4 i) (loc σ κ i 5 i)) (loc σ κ i) (lst (loc σ κ i) (loc σ κ i 3 i) (loc σ κ i 4 i) (loc σ κ i 5 i))
def CI (κ : ST) : Prop := (∀ i, κ 3 i < 60) ∧ (∀ i, κ 4 i < 4) ∧ (∀ i, κ 5 i < 2) ∧ (∀ i, κ 1 i < 60) ∧ (∀ i, κ 2 i < 16) ∧ ∀ k i, κ k i < 1073741824
theorem CI_lst {κ : ST} {m k w : Nat} (h : CI κ) (h5 : κ 0 5 + 1 < 1073741824) (hm : m < 60) (hk : k < 4) (hw : w < 2) : CI (lst κ m k w) :=
  ⟨up_lt h.1 hm, up_lt h.2.1 hk, up_lt h.2.2.1 hw, h.2.2.2.1, h.2.2.2.2.1, sv_lt (su_lt (su_lt (su_lt h.2.2.2.2.2 (up_lt (h.2.2.2.2.2 3) (by omega))) (up_lt (h.2.2.2.2.2 4) (by omega))) (up_lt (h.2.2.2.2.2 5) (by omega))) h5⟩
theorem loc_all {σ κ : ST} (h : CI κ) : ∀ i, i ≤ 10 → CI (loc σ κ i) ∧ loc σ κ i 0 5 ≤ i ∧ loc σ κ i 0 2 = κ 0 2 := by
  intro i
  induction i with
  | zero => intro _; exact ⟨⟨h.1, h.2.1, h.2.2.1, h.2.2.2.1, h.2.2.2.2.1, sv_lt h.2.2.2.2.2 (by decide)⟩, Nat.le_refl 0, rfl⟩
  | succ i ih =>
    intro hi
    obtain ⟨h1, h2, h3⟩ := ih (by omega)
    simp only [loc]
    cases icf σ (loc σ κ i) (loc σ κ i 3 i) (loc σ κ i 4 i) (loc σ κ i 5 i)
    · exact ⟨CI_lst h1 (by omega) (h1.1 i) (h1.2.1 i) (h1.2.2.1 i), (by show loc σ κ i 0 5 + 1 ≤ i + 1; omega), h3⟩
    · exact ⟨h1, by simp only [cond_true]; omega, h3⟩
def rpl (σ κ : ST) : Nat → ST
  | 0 => σ
  | i + 1 => sk (rpl σ κ i) (κ 3 i) (κ 4 i) (κ 5 i)
theorem chg_lt {σ : ST} {N j b w : Nat} (hB : ∀ k i, σ k i < N) (hj : j < N) (hb : b < N) (hw : w < N) (h7 : σ 7 0 + 1 < N + 1) : ∀ k i, chg σ j b w k i < N + 1 := by
  have hB1 : ∀ k i, σ k i < N + 1 := fun k i => Nat.lt_succ_of_lt (hB k i)
  have hk := kp_lt (σ := σ) (N := N + 1) (mail := j) (ob := σ 4 j) (ok := σ 5 j) (nk := w) hB1 h7 (by omega) (hB1 _ _) (hB1 _ _) (by omega)
  exact su_lt (su_lt hk (up_lt (hB1 4) (by omega))) (up_lt (hB1 5) (by omega))
theorem sk_lt {σ : ST} {N j k w : Nat} (hB : ∀ k i, σ k i < N) (hN : 60 ≤ N) (hj : j < 60) (h15 : ∀ i, σ 5 i < 16) (hk : k < 4) : ∀ a i, sk σ j k w a i < N + 1 := by
  unfold sk
  cases decide (σ 5 j = wn (σ 5 j) k (nb w))
  · exact chg_lt hB (by omega) (hB 4 j) (Nat.lt_of_lt_of_le (wn_lt (h15 j) hk _) (by omega)) (by have := hB 7 0; omega)
  · exact fun a i => Nat.lt_succ_of_lt (hB a i)
theorem sk_15 {σ : ST} {j k w : Nat} (h15 : ∀ i, σ 5 i < 16) (hk : k < 4) : ∀ i, sk σ j k w 5 i < 16 := by
  unfold sk
  cases decide (σ 5 j = wn (σ 5 j) k (nb w))
  · exact up_lt h15 (wn_lt (h15 j) hk _)
  · exact h15
theorem rpl_all {σ κ : ST} (hC : CI κ) (hB : ∀ k i, σ k i < 1000000000) (h15 : ∀ i, σ 5 i < 16) : ∀ n, (∀ k i, rpl σ κ n k i < 1000000000 + n) ∧ ∀ i, rpl σ κ n 5 i < 16 := by
  intro n
  induction n with
  | zero => exact ⟨hB, h15⟩
  | succ n ih => exact ⟨sk_lt (N := 1000000000 + n) ih.1 (by omega) (hC.1 n) ih.2 (hC.2.1 n), sk_15 ih.2 (hC.2.1 n)⟩
def bxs (σ : ST) (b : Nat) : Nat → Bool := fun j => mt (σ 4 j) (σ 5 j) (2 ^ b) 0
def wml (σ : ST) (b i : Nat) : Nat := lat σ (ms (bxs σ b) 60) (nI i) (σ 1 0) 0 0 - 1
theorem oi_wml {σ : ST} {b i : Nat} (h : 0 < lat σ (ms (bxs σ b) 60) (nI i) (σ 1 0) 0 0) : oi (lat σ (ms (bxs σ b) 60) (nI i) (σ 1 0) 0 0) = nI (wml σ b i) := by
  unfold wml
  cases hc : lat σ (ms (bxs σ b) 60) (nI i) (σ 1 0) 0 0 with
  | zero => rw [hc] at h; exact absurd h (by decide)
  | succ n => rfl
def wsz (σ κ : ST) : Nat := min (κ 0 1) (cnt (bxs σ (κ 0 0)) 60)
def ldk (σ κ : ST) : Nat → ST
  | 0 => sv (sv κ 0 2 (σ 7 0)) 0 4 (wsz σ κ)
  | i + 1 => su (su (ldk σ κ i) 1 (upN (ldk σ κ i 1) i (wml σ (κ 0 0) i))) 2 (upN (ldk σ κ i 2) i (σ 5 (wml σ (κ 0 0) i)))
theorem ldk_ws (σ κ : ST) : ∀ i, ldk σ κ i 0 4 = wsz σ κ := by
  intro i
  induction i with
  | zero => rfl
  | succ i ih => exact ih
/-! the face -/
def askq (k : Nat) : Nat := match k with
  | 0 => 0
  | j + 1 => 2 ^ j
def iq (x : Int32) : Bool := decide (x = oi 0) || iw x (nI 0) (nI 3)
theorem iq_k {k : Nat} (h : k ≤ 4) : iq (oi k) = true := by
  unfold iq
  cases k with
  | zero => rfl
  | succ j => rw [show oi (j + 1) = nI j from rfl, iw_n (Nat.zero_le _) (by omega) (by decide), Bool.or_true]
def rmv (σ : ST) (st any al : Nat) : Int64 := und σ any al (ms (fun j => mt (σ 4 j) (σ 5 j) any al) 60) (min (σ 7 0 - st) 40) &&& ((ms (fun j => mt (σ 4 j) (σ 5 j) any al) 60) ^^^ (-1))
def add_ (σ : ST) (st any al : Nat) : Int64 := (ms (fun j => mt (σ 4 j) (σ 5 j) any al) 60) &&& ((und σ any al (ms (fun j => mt (σ 4 j) (σ 5 j) any al) 60) (min (σ 7 0 - st) 40)) ^^^ (-1))
/-- the sets that tell what changed are sets of mails: by membership -/
def chp (σ : ST) (st way j : Nat) : Bool := hl64 (chs σ st way) j
def rmp (σ : ST) (st any al j : Nat) : Bool := hl64 (rmv σ st any al) j
def adp (σ : ST) (st any al j : Nat) : Bool := hl64 (add_ σ st any al) j
theorem low_le (x : Int64) (ix : Int32) : ∀ n m ah, low x ix n m ah ≤ m + n + 1 := by
  intro n
  induction n with
  | zero => intro m ah; exact Nat.zero_le _
  | succ n ih =>
    intro m ah
    simp only [low]
    cases hl64 x m
    · have := ih (m + 1) ah; simp only [cond_false]; omega
    · cases decide (nI ah = ix)
      · have := ih (m + 1) (ah + 1); simp only [cond_true, cond_false]; omega
      · simp only [cond_true]; omega
theorem lat_le {σ : ST} {N : Nat} (h : ∀ i, σ 6 i < N) (x : Int64) (ix : Int32) : ∀ n pl ah, lat σ x ix n pl ah ≤ N := by
  intro n
  induction n with
  | zero => intro pl ah; exact Nat.zero_le _
  | succ n ih =>
    intro pl ah
    simp only [lat]
    cases hl64 x (σ 6 pl)
    · exact ih _ _
    · cases decide (nI ah = ix)
      · exact ih _ _
      · exact h pl
theorem plo_le (κ : ST) (x : Int32) : ∀ n pl, plo κ x n pl ≤ pl + n := by
  intro n
  induction n with
  | zero => intro pl; exact Nat.zero_le _
  | succ n ih =>
    intro pl
    simp only [plo]
    cases decide (nI (κ 1 pl) = x)
    · have := ih (pl + 1); simp only [cond_false]; omega
    · simp only [cond_true]; omega
/-- a sync, by the state of the client that begins it -/
def syB (σ κ : ST) : ST := loc σ κ (κ 0 5)
def syS (σ κ : ST) : ST := rpl σ (syB σ κ) (syB σ κ 0 5)
def syC (σ κ : ST) : ST := sv (syB σ κ) 0 5 0
def syD (σ κ : ST) : ST := ldk (syS σ κ) (syC σ κ) (wsz (syS σ κ) (syC σ κ))
/-! the reference -/
def hs (v i : Nat) : Bool := decide ((nI v >>> (nI i &&& 31)) &&& nI 1 = nI 1)
def wth (μ : ST) (m t : Nat) : Bool := !decide (t < μ 5 m) && (decide (μ 6 m = 0) || !decide (μ 6 m ≤ t))
def nts (μ : ST) (its mail wd w : Nat) : ST := sv (su (su (su (su (su (su μ 7 (upN (μ 7) (μ 0 1) its)) 8 (upN (μ 8) (μ 0 1) mail)) 9 (upN (μ 9) (μ 0 1) (μ 2 mail))) 10 (upN (μ 10) (μ 0 1) (μ 3 mail))) 11 (upN (μ 11) (μ 0 1) wd)) 12 (upN (μ 12) (μ 0 1) w)) 0 1 (μ 0 1 + 1)
def ifd (μ : ST) (b w m : Nat) : Bool := decide (μ 6 m = 0) && (hs (μ 2 m) b && (decide (w = 0) || hs (μ 3 m) (w - 1)))
def exn (p : Nat → Bool) (t : Nat) : Nat → Bool
  | 0 => false
  | n + 1 => exn p t n || p (t + n)
def ich (μ : ST) (m t : Nat) : Bool := exn (fun k => decide (μ 8 k = m)) t (μ 0 1 - t)
def chm (μ : ST) (t way m : Nat) : Bool := if way = 0 then decide (μ 6 m = 0) && !wth μ m t else if way = 2 then wth μ m t && !decide (μ 6 m = 0) else wth μ m t && (decide (μ 6 m = 0) && ich μ m t)
def iqm (x y : Int32) : Bool := iw x (nI 0) (nI 5) && iw y (oi 0) (nI 3)
def ahd (μ : ST) (m o : Nat) : Bool := decide (μ 1 m < μ 1 o) || (decide (μ 1 o = μ 1 m) && decide (m < o))
def rnk (μ : ST) (b w m : Nat) : Nat → Nat := cnt (fun o => ifd μ b w o && ahd μ m o)
def fo (μ : ST) (b w ix : Nat) : Nat → Nat → Nat
  | 0, _ => 0
  | n + 1, m => cond (ifd μ b w m && decide (rnk μ b w m (μ 0 0) = ix)) (m + 1) (fo μ b w ix n (m + 1))
def bk (μ : ST) (cc m t : Nat) : Nat → Nat → Nat
  | 0, acc => acc
  | n + 1, acc => bk μ cc m t n (cond (decide (μ 8 (t + n) = m)) (μ cc (t + n)) acc)
def wfd (μ : ST) (t b w m : Nat) : Bool := wth μ m t && (hs (bk μ 9 m t (μ 0 1 - t) (μ 2 m)) b && (decide (w = 0) || hs (bk μ 10 m t (μ 0 1 - t) (μ 3 m)) (w - 1)))
def mnw (μ : ST) (t a : Nat) : Bool := !exn (fun k => decide (μ 8 k = μ 8 a)) t (a - t)
def mpg (μ : ST) (t : Nat) : Nat → Nat → Nat → Nat
  | 0, a, _ => a
  | n + 1, a, left => cond (mnw μ t a && decide (left = 0)) a (mpg μ t n (a + 1) (left - b2n (mnw μ t a)))
def wpl (μ : ST) (cl : Nat) (x : Int32) : Nat → Nat
  | 0 => 0
  | n + 1 => cond (decide (nI (μ 17 (10 * cl + n)) = x)) (10 * cl + n + 1) (wpl μ cl x n)
def iso (μ : ST) (m wd w t : Nat) : Nat → Bool
  | 0 => false
  | n + 1 => cond (decide (μ 8 (t + n) = m) && (decide (μ 7 (t + n) = 2) && decide (μ 11 (t + n) = wd + 1))) (!decide (μ 12 (t + n) = w)) (iso μ m wd w t n)
def fls (μ : ST) (m wd w : Nat) : ST := su (nts μ 2 m (wd + 1) w) 3 (upN (μ 3) m (μ 3 m ^^^ 2 ^ wd))
theorem iw_k {j n : Nat} (h : j < n) (hn : n ≤ 2 ^ 31) : iw (nI j) (nI 0) (oi n) = true := by
  obtain ⟨k, rfl⟩ : ∃ k, n = k + 1 := ⟨n - 1, by omega⟩
  exact iw_n (Nat.zero_le _) (by omega) (by omega)
theorem iw_get {x : Int32} {n : Nat} (hn : n ≤ 2 ^ 31) (h : iw x (nI 0) (oi n) = true) : ∃ j, j < n ∧ x = nI j := by
  simp only [iw, Bool.and_eq_true, Bool.not_eq_true', decide_eq_false_iff_not] at h
  obtain ⟨j, hj, rfl⟩ := nI_of (x := x) h.1
  cases n with
  | zero => exact absurd (Int32.lt_of_lt_of_le (by decide : (-1 : Int32) < 0) (nI_pos' hj)) h.2
  | succ k => exact ⟨j, by have := Nat.le_of_not_lt (fun q => h.2 ((nI_ltI (by omega) hj).mpr q)); omega, rfl⟩
def ada (μ : ST) (t b th : Nat) : ST := sv (su (su (su (su (nts (sv μ 0 2 0) 0 (μ 0 0) 0 0) 1 (upN (μ 1) (μ 0 0) t)) 2 (upN (μ 2) (μ 0 0) b)) 4 (upN (μ 4) (μ 0 0) th)) 5 (upN (μ 5) (μ 0 0) (μ 0 1 + 1))) 0 0 (μ 0 0 + 1)
theorem bk_th {μ : ST} {v c m t : Nat} (hc : sv μ 0 2 v c = μ c) : ∀ n acc, bk (sv μ 0 2 v) c m t n acc = bk μ c m t n acc := by
  intro n
  induction n with
  | zero => intro acc; rfl
  | succ n ih => intro acc; simp only [bk]; rw [ih, hc]; rfl
theorem wfd_th {μ : ST} {v t b w m : Nat} : wfd (sv μ 0 2 v) t b w m = wfd μ t b w m := by
  unfold wfd
  rw [bk_th rfl, bk_th rfl]; rfl
theorem fo_th {μ : ST} {v b w ix : Nat} : ∀ n m, fo (sv μ 0 2 v) b w ix n m = fo μ b w ix n m := by
  intro n
  induction n with
  | zero => intro m; rfl
  | succ n ih => intro m; simp only [fo]; rw [ih]; rfl
theorem cnt_step {p : Nat → Bool} {a b : Nat} (h : a < b) : cnt p a + b2n (p a) ≤ cnt p b := by
  induction b with
  | zero => omega
  | succ b ih =>
    rcases Nat.lt_or_ge a b with q | q
    · have := ih q
      cases hp : p b
      · rw [← cnt_f hp]; exact this
      · rw [← cnt_t hp]; omega
    · have : a = b := by omega
      subst this
      cases hp : p a
      · rw [← cnt_f hp]; exact Nat.le_refl _
      · rw [← cnt_t hp]; exact Nat.le_refl _
theorem iqm_k {b k : Nat} (h : b < 6) (hk : k ≤ 4) : iqm (nI b) (oi k) = true := by
  unfold iqm
  rw [iw_n (Nat.zero_le _) (by omega) (by decide), Bool.true_and]
  cases k with
  | zero => rfl
  | succ j => exact (by
      show iw (nI j) (oi 0) (nI 3) = true
      have : j = 0 ∨ j = 1 ∨ j = 2 ∨ j = 3 := by omega
      rcases this with rfl | rfl | rfl | rfl <;> decide)
theorem wpl_eq {μ ν : ST} {cl : Nat} {x : Int32} (h : μ 17 = ν 17) : ∀ n, wpl μ cl x n = wpl ν cl x n := by
  intro n
  induction n with
  | zero => rfl
  | succ n ih => simp only [wpl]; rw [ih, h]
theorem wpl_le {μ : ST} {cl : Nat} {x : Int32} : ∀ n, wpl μ cl x n ≤ 10 * cl + n := by
  intro n
  induction n with
  | zero => exact Nat.zero_le _
  | succ n ih =>
    simp only [wpl]
    cases decide (nI (μ 17 (10 * cl + n)) = x)
    · simp only [cond_false]; omega
    · simp only [cond_true]; omega
theorem wn_m0 : ∀ k : Fin 4, ∀ w : Fin 16, nI w.val &&& (nI (2 ^ k.val) ^^^ oi 0) = nI (wn w.val k.val false) := by decide +kernel
theorem wn_clr {w k : Nat} (hw : w < 16) (hk : k < 4) : nI w &&& (nI (2 ^ k) ^^^ oi 0) = nI (wn w k false) := wn_m0 ⟨k, hk⟩ ⟨w, hw⟩
def flo (μ : ST) (cl j k w its : Nat) : ST := su (su (su (su (su (sv μ 0 2 0) 20 (upN (μ 20) (10 * cl + μ 19 cl) j)) 21 (upN (μ 21) (10 * cl + μ 19 cl) k)) 22 (upN (μ 22) (10 * cl + μ 19 cl) w)) 19 (upN (μ 19) cl (μ 19 cl + 1))) 18 (upN (μ 18) its (wn (μ 18 its) k (nb w)))
/-! the reference: a window, a sync -/
def wmm (μ : ST) (b i : Nat) : Nat := fo μ b 0 i (μ 0 0) 0 - 1
def tsz (μ : ST) (cl : Nat) : Nat := min (μ 14 cl) (cnt (fun m9 => ifd μ (μ 13 cl) 0 m9) (μ 0 0))
def tkm (μ : ST) (cl : Nat) : Nat → Nat → Nat
  | 0 => μ 17
  | i + 1 => upN (tkm μ cl i) (10 * cl + i) (wmm μ (μ 13 cl) i)
def tkw (μ : ST) (cl : Nat) : Nat → Nat → Nat
  | 0 => μ 18
  | i + 1 => upN (tkw μ cl i) (10 * cl + i) (μ 3 (wmm μ (μ 13 cl) i))
def tk (μ : ST) (cl i : Nat) : ST := su (su (su μ 16 (upN (μ 16) cl (tsz μ cl))) 17 (tkm μ cl i)) 18 (tkw μ cl i)
def tke (μ : ST) (cl : Nat) : ST := su (su (tk μ cl (tsz μ cl)) 15 (upN (μ 15) cl (μ 0 1))) 19 (upN (μ 19) cl 0)
theorem fo_le {μ : ST} {b w ix : Nat} : ∀ n m, fo μ b w ix n m ≤ m + n := by
  intro n
  induction n with
  | zero => intro m; exact Nat.zero_le _
  | succ n ih =>
    intro m
    simp only [fo]
    cases (ifd μ b w m && decide (rnk μ b w m (μ 0 0) = ix))
    · have := ih (m + 1); simp only [cond_false]; omega
    · simp only [cond_true]; omega
theorem fo_tk {μ : ST} {cl i b w ix : Nat} : ∀ n m, fo (tk μ cl i) b w ix n m = fo μ b w ix n m := by
  intro n
  induction n with
  | zero => intro m; rfl
  | succ n ih => intro m; simp only [fo]; rw [ih]; rfl
theorem wmm_lt {μ : ST} {b i : Nat} (hm0 : μ 0 0 ≤ 60) : wmm μ b i < 60 := by
  have := fo_le (μ := μ) (b := b) (w := 0) (ix := i) (μ 0 0) 0
  unfold wmm; omega
theorem tk_lt {μ : ST} {cl : Nat} (hB : ∀ k i, μ k i < 1073741824) (hm0 : μ 0 0 ≤ 60) : ∀ i k j, tk μ cl i k j < 1073741824 := by
  intro i
  have h1 : ∀ i j, tkm μ cl i j < 1073741824 := by
    intro i
    induction i with
    | zero => exact hB 17
    | succ i ih => exact up_lt ih (Nat.lt_trans (wmm_lt hm0) (by decide))
  have h2 : ∀ i j, tkw μ cl i j < 1073741824 := by
    intro i
    induction i with
    | zero => exact hB 18
    | succ i ih => exact up_lt ih (hB 3 _)
  exact su_lt (su_lt (su_lt hB (up_lt (hB 16) (Nat.lt_of_le_of_lt (Nat.min_le_left _ _) (hB 14 cl)))) (h1 i)) (h2 i)
theorem cnt_mono {p q : Nat → Bool} : ∀ {N : Nat}, (∀ o, o < N → p o = true → q o = true) → cnt p N ≤ cnt q N := by
  intro N
  induction N with
  | zero => intro _; exact Nat.le_refl _
  | succ N ih =>
    intro h
    have h1 := ih (fun o ho => h o (Nat.lt_succ_of_lt ho))
    cases hp : p N
    · rw [← cnt_f hp]
      cases hq : q N
      · rw [← cnt_f hq]; exact h1
      · rw [← cnt_t hq]; omega
    · rw [← cnt_t hp, ← cnt_t (h N (Nat.lt_succ_self N) hp)]; omega
theorem cnt_lt {p q : Nat → Bool} {m : Nat} : ∀ {N : Nat}, (∀ o, o < N → p o = true → q o = true) → m < N → q m = true → p m = false → cnt p N < cnt q N := by
  intro N
  induction N with
  | zero => intro _ h; exact absurd h (Nat.not_lt_zero _)
  | succ N ih =>
    intro h hm hq hp
    rcases Nat.lt_or_ge m N with h2 | h2
    · have h1 := ih (fun o ho => h o (Nat.lt_succ_of_lt ho)) h2 hq hp
      cases hp : p N
      · rw [← cnt_f hp]
        cases hq : q N
        · rw [← cnt_f hq]; exact h1
        · rw [← cnt_t hq]; omega
      · rw [← cnt_t hp, ← cnt_t (h N (Nat.lt_succ_self N) hp)]; omega
    · have : m = N := by omega
      subst this
      have h1 := cnt_mono (p := p) (q := q) (N := m) (fun o ho => h o (Nat.lt_succ_of_lt ho))
      rw [← cnt_f hp, ← cnt_t hq]; omega
theorem ahd_iff {μ : ST} {m o : Nat} : ahd μ m o = true ↔ (μ 1 m < μ 1 o ∨ (μ 1 o = μ 1 m ∧ m < o)) := by simp [ahd]
theorem ahd_not {μ : ST} {m o : Nat} (h : m ≠ o) : ahd μ m o = false → ahd μ o m = true := by
  intro q
  have q2 : ¬ (ahd μ m o = true) := by rw [q]; decide
  rw [ahd_iff] at q2
  rw [ahd_iff]; omega
theorem ahd_tr {μ : ST} {a b c : Nat} (h1 : ahd μ a b = true) (h2 : ahd μ b c = true) : ahd μ a c = true := by
  rw [ahd_iff] at *; omega
theorem ahd_ir {μ : ST} {a : Nat} : ahd μ a a = false := by
  cases h : ahd μ a a
  · rfl
  · rw [ahd_iff] at h; omega
theorem rank_on {μ : ST} (P : Nat → Bool) : ∀ (N ix : Nat), ix < cnt P N → ∃ m, m < N ∧ P m = true ∧ cnt (fun o => P o && ahd μ m o) N = ix := by
  intro N
  induction N with
  | zero => intro ix h; exact absurd h (Nat.not_lt_zero _)
  | succ N ih =>
    intro ix h
    cases hP : P N
    · rw [← cnt_f hP] at h
      obtain ⟨m, h1, h2, h3⟩ := ih ix h
      exact ⟨m, Nat.lt_succ_of_lt h1, h2, by rw [← cnt_f (p := fun o => P o && ahd μ m o) (n := N) (by simp [hP])]; exact h3⟩
    · rw [← cnt_t hP] at h
      rcases Nat.lt_trichotomy ix (cnt (fun o => P o && ahd μ N o) N) with q | q | q
      · obtain ⟨m, h1, h2, h3⟩ := ih ix (by have := cnt_mono (p := fun o => P o && ahd μ N o) (q := P) (N := N) (fun o _ ho => by simp at ho; exact ho.1); omega)
        refine ⟨m, Nat.lt_succ_of_lt h1, h2, ?_⟩
        cases ha : ahd μ m N
        · rw [← cnt_f (p := fun o => P o && ahd μ m o) (n := N) (by simp [ha])]; exact h3
        · have := cnt_mono (p := fun o => P o && ahd μ N o) (q := fun o => P o && ahd μ m o) (N := N) (fun o _ ho => by simp at ho ⊢; exact ⟨ho.1, ahd_tr ha ho.2⟩)
          omega
      · exact ⟨N, Nat.lt_succ_self N, hP, by rw [← cnt_f (p := fun o => P o && ahd μ N o) (n := N) (by simp [ahd_ir])]; exact q.symm⟩
      · obtain ⟨m, h1, h2, h3⟩ := ih (ix - 1) (by omega)
        refine ⟨m, Nat.lt_succ_of_lt h1, h2, ?_⟩
        cases ha : ahd μ m N
        · have hb := ahd_not (by omega) ha
          have := cnt_lt (p := fun o => P o && ahd μ m o) (q := fun o => P o && ahd μ N o) (N := N) (m := m) (fun o _ ho => by simp at ho ⊢; exact ⟨ho.1, ahd_tr hb ho.2⟩) h1 (by simp [h2, hb]) (by simp [ahd_ir])
          omega
        · rw [← cnt_t (p := fun o => P o && ahd μ m o) (n := N) (by simp [ha, hP])]; omega
theorem fo_z {μ : ST} {b w ix : Nat} : ∀ (n m : Nat), fo μ b w ix n m = 0 → ∀ j, m ≤ j → j < m + n → ¬ (ifd μ b w j = true ∧ rnk μ b w j (μ 0 0) = ix) := by
  intro n
  induction n with
  | zero => intro m _ j h1 h2; omega
  | succ n ih =>
    intro m h j h1 h2 h3
    simp only [fo] at h
    cases hc : (ifd μ b w m && decide (rnk μ b w m (μ 0 0) = ix))
    · rw [hc] at h
      rcases Nat.lt_or_ge m j with q | q
      · exact ih (m + 1) h j q (by omega) h3
      · have : j = m := by omega
        subst this
        rw [h3.1, decide_eq_true h3.2] at hc
        exact absurd hc (by decide)
    · rw [hc] at h
      exact absurd h (Nat.succ_ne_zero m)
theorem fo_ne {μ : ST} {b w ix : Nat} (h : ix < cnt (fun m9 => ifd μ b w m9) (μ 0 0)) : fo μ b w ix (μ 0 0) 0 ≠ 0 := by
  intro q
  obtain ⟨m, h1, h2, h3⟩ := rank_on (μ := μ) (fun o => ifd μ b w o) (μ 0 0) ix h
  exact fo_z _ _ q m (Nat.zero_le _) (by omega) ⟨h2, h3⟩
def flw (μ : ST) (m k w : Nat) : ST := cond (decide (hs (μ 3 m) k = nb w)) μ (fls μ m k w)
theorem flw_c {μ : ST} {m k w c : Nat} (h : fls μ m k w c = μ c) : flw μ m k w c = μ c := by
  unfold flw
  cases decide (hs (μ 3 m) k = nb w)
  · exact h
  · rfl
theorem flw_00 {μ : ST} {m k w : Nat} : flw μ m k w 0 0 = μ 0 0 := by
  unfold flw
  cases decide (hs (μ 3 m) k = nb w) <;> rfl
theorem flw_01 {μ : ST} {m k w : Nat} : flw μ m k w 0 1 ≤ μ 0 1 + 1 := by
  unfold flw
  cases decide (hs (μ 3 m) k = nb w)
  · exact Nat.le_refl _
  · exact Nat.le_succ _
theorem nts_lt {μ : ST} {its m wd w : Nat} (hB : ∀ k i, μ k i < 1073741824) (h1 : its < 1073741824) (h2 : m < 1073741824) (h3 : wd < 1073741824) (h4 : w < 1073741824) (h5 : μ 0 1 + 1 < 1073741824) : ∀ k i, nts μ its m wd w k i < 1073741824 :=
  sv_lt (su_lt (su_lt (su_lt (su_lt (su_lt (su_lt hB (up_lt (hB 7) h1)) (up_lt (hB 8) h2)) (up_lt (hB 9) (hB 2 m))) (up_lt (hB 10) (hB 3 m))) (up_lt (hB 11) h3)) (up_lt (hB 12) h4)) h5
theorem flw_lt {μ : ST} {m k w : Nat} (hB : ∀ k i, μ k i < 1073741824) (hm : m < 60) (hk : k < 4) (hw : w < 2) (h1 : μ 0 1 < 2048) : ∀ a i, flw μ m k w a i < 1073741824 := by
  unfold flw
  cases decide (hs (μ 3 m) k = nb w)
  · exact su_lt (nts_lt hB (by decide) (by omega) (by omega) (by omega) (by omega)) (up_lt (hB 3) (Nat.xor_lt_two_pow (n := 30) (hB 3 m) (Nat.pow_lt_pow_right (by decide) (by omega))))
  · exact hB
def icm (ν : ST) (t u : Nat) (cd : Bool) (m k w : Nat) : Bool := !decide (ν 6 m = 0) || (cd && iso ν m k w t (u - t))
def syf (cl t u : Nat) (cd : Bool) : Nat → Nat → ST → Nat → ST × Nat
  | 0, _, ν, cf => (ν, cf)
  | n + 1, i, ν, cf => cond (icm ν t u cd (ν 20 (10 * cl + i)) (ν 21 (10 * cl + i)) (ν 22 (10 * cl + i))) (syf cl t u cd n (i + 1) ν (cf + 1)) (syf cl t u cd n (i + 1) (flw ν (ν 20 (10 * cl + i)) (ν 21 (10 * cl + i)) (ν 22 (10 * cl + i))) cf)
def sfin (μ : ST) (cl : Nat) (cd : Bool) : ST × Nat := syf cl (μ 15 cl) (μ 0 1) cd (μ 19 cl) 0 (sv μ 0 2 0) 0
def sye (μ : ST) (cl : Nat) (cd : Bool) : ST := tke (su (sfin μ cl cd).1 23 (upN ((sfin μ cl cd).1 23) cl ((sfin μ cl cd).1 23 cl + b2n (!cd)))) cl
end
section
theorem sh_amt : ∀ k : Fin 64, ((nI k.val).toInt64 &&& 63).toBitVec.smod 64 = BitVec.ofNat 64 k.val := by decide +kernel
theorem and1 (v : BitVec 64) : (v &&& 1#64 = 1#64) ↔ v.getLsbD 0 = true := by
  constructor
  · intro h
    have := congrArg (fun w : BitVec 64 => w.getLsbD 0) h
    simpa using this
  · intro h
    apply BitVec.eq_of_getLsbD_eq
    intro i hi
    rcases Nat.eq_zero_or_pos i with rfl | q
    · simp [h]
    · simp [BitVec.getLsbD_one, show ¬ i = 0 by omega]
theorem hl_bit (x : Int64) {k : Nat} (hk : k < 64) : hl64 x k = x.toBitVec.getLsbD k := by
  unfold hl64
  have e : ((x >>> ((nI k).toInt64 &&& 63)) &&& 1 = 1) ↔ x.toBitVec.getLsbD k = true := by
    rw [← Int64.toBitVec_inj, Int64.toBitVec_and, Int64.toBitVec_shiftRight, sh_amt ⟨k, hk⟩]
    show (_ &&& 1#64 = 1#64) ↔ _
    rw [and1]
    simp [BitVec.getElem_sshiftRight, hk, Nat.mod_eq_of_lt (show k < 18446744073709551616 by omega)]
  cases h : x.toBitVec.getLsbD k
  · exact decide_eq_false (fun q => by rw [e, h] at q; exact absurd q (by decide))
  · exact decide_eq_true (e.mpr h)
theorem wi_amt : ∀ k : Fin 64, ((1 : Int64) <<< ((nI k.val).toInt64 &&& 63)).toBitVec = BitVec.twoPow 64 k.val := by decide +kernel
theorem wi_bit (x : Int64) {k j : Nat} (b : Bool) (hk : k < 64) (hj : j < 64) : (wi x k b).toBitVec.getLsbD j = if j = k then b else x.toBitVec.getLsbD j := by
  have e : ((1 : Int64) <<< ((nI k).toInt64 &&& 63)).toBitVec.getLsbD j = decide (j = k) := by
    rw [wi_amt ⟨k, hk⟩, BitVec.getLsbD_twoPow]
    simp [hk, eq_comm]
  unfold wi
  cases b
  · show (x &&& _).toBitVec.getLsbD j = _
    rw [Int64.toBitVec_and, BitVec.getLsbD_and, Int64.toBitVec_xor, BitVec.getLsbD_xor, e]
    have m1 : (-1 : Int64).toBitVec.getLsbD j = true := by
      show (BitVec.allOnes 64).getLsbD j = true
      rw [BitVec.getLsbD_allOnes]; exact decide_eq_true hj
    rw [m1]
    by_cases h : j = k <;> simp [h]
  · show (x ||| _).toBitVec.getLsbD j = _
    rw [Int64.toBitVec_or, BitVec.getLsbD_or, e]
    by_cases h : j = k <;> simp [h]
theorem ms_bit (p : Nat → Bool) : ∀ (n : Nat), n ≤ 64 → ∀ j, j < 64 → (ms p n).toBitVec.getLsbD j = (decide (j < n) && p j) := by
  intro n
  induction n with
  | zero => intro _ j _; simp [ms]
  | succ n ih =>
    intro hn j hj
    show (wi (ms p n) n (p n)).toBitVec.getLsbD j = _
    rw [wi_bit _ _ (by omega) hj, ih (by omega) j hj]
    by_cases h : j = n
    · subst h; simp
    · rw [if_neg h]
      by_cases h2 : j < n
      · simp [h2, Nat.lt_succ_of_lt h2]
      · simp [h2, show ¬ j < n + 1 by omega]
/-- a set of mails holds a mail as its predicate says -/
theorem hl_ms (p : Nat → Bool) {k : Nat} (hk : k < 60) : hl64 (ms p 60) k = p k := by
  rw [hl_bit _ (by omega), ms_bit p 60 (by decide) k (by omega), decide_eq_true hk, Bool.true_and]
theorem i64_ext {x y : Int64} (h : ∀ j, j < 64 → x.toBitVec.getLsbD j = y.toBitVec.getLsbD j) : x = y := Int64.toBitVec_inj.mp (BitVec.eq_of_getLsbD_eq (fun i hi => h i hi))
theorem ms_and (p q : Nat → Bool) : ms p 60 &&& ms q 60 = ms (fun j => p j && q j) 60 := by
  refine i64_ext (fun j hj => ?_)
  rw [Int64.toBitVec_and, BitVec.getLsbD_and, ms_bit p 60 (by decide) j hj, ms_bit q 60 (by decide) j hj, ms_bit _ 60 (by decide) j hj]
  cases decide (j < 60) <;> simp
theorem ms_or (p q : Nat → Bool) : ms p 60 ||| ms q 60 = ms (fun j => p j || q j) 60 := by
  refine i64_ext (fun j hj => ?_)
  rw [Int64.toBitVec_or, BitVec.getLsbD_or, ms_bit p 60 (by decide) j hj, ms_bit q 60 (by decide) j hj, ms_bit _ 60 (by decide) j hj]
  cases decide (j < 60) <;> simp
theorem ms_xor (p q : Nat → Bool) : ms p 60 ^^^ ms q 60 = ms (fun j => p j ^^ q j) 60 := by
  refine i64_ext (fun j hj => ?_)
  rw [Int64.toBitVec_xor, BitVec.getLsbD_xor, ms_bit p 60 (by decide) j hj, ms_bit q 60 (by decide) j hj, ms_bit _ 60 (by decide) j hj]
  cases decide (j < 60) <;> simp
theorem ms_andn (p q : Nat → Bool) : ms p 60 &&& (ms q 60 ^^^ (-1)) = ms (fun j => p j && !q j) 60 := by
  refine i64_ext (fun j hj => ?_)
  have m1 : (-1 : Int64).toBitVec.getLsbD j = true := by
    show (BitVec.allOnes 64).getLsbD j = true
    rw [BitVec.getLsbD_allOnes]; exact decide_eq_true hj
  rw [Int64.toBitVec_and, BitVec.getLsbD_and, Int64.toBitVec_xor, BitVec.getLsbD_xor, m1, ms_bit p 60 (by decide) j hj, ms_bit q 60 (by decide) j hj, ms_bit _ 60 (by decide) j hj]
  cases decide (j < 60) <;> simp
theorem wi_ms (p : Nat → Bool) {k : Nat} (b : Bool) (hk : k < 60) : wi (ms p 60) k b = ms (fun j => if j = k then b else p j) 60 := by
  refine i64_ext (fun j hj => ?_)
  rw [wi_bit _ _ (by omega) hj, ms_bit p 60 (by decide) j hj, ms_bit _ 60 (by decide) j hj]
  by_cases h : j = k
  · subst h; simp [hk]
  · simp [h]
theorem ms_zero : ms (fun _ => false) 60 = 0 := by decide +kernel
theorem ms_congr {p q : Nat → Bool} (h : ∀ j, j < 60 → p j = q j) : ms p 60 = ms q 60 := by
  refine i64_ext (fun j hj => ?_)
  rw [ms_bit p 60 (by decide) j hj, ms_bit q 60 (by decide) j hj]
  by_cases h2 : j < 60
  · rw [h j h2]
  · simp [h2]
end
section
/-! how many bits are set: the steps of Long.bitCount, byte by byte -/
def rpb (b : Nat) : Nat → Nat
  | 0 => 0
  | k + 1 => rpb b k * 256 + b
theorem rpb_1 (b : Nat) : rpb b 1 = b := by simp [rpb]
theorem rpb_s (b k : Nat) : rpb b (k + 1) = rpb b k * 256 + b := rfl
theorem land_hl {h l H L : Nat} (hl : l < 256) (hL : L < 256) : (h * 256 + l) &&& (H * 256 + L) = (h &&& H) * 256 + (l &&& L) := by
  apply Nat.eq_of_testBit_eq
  intro i
  have e : ∀ a b : Nat, b < 256 → ∀ j, Nat.testBit (a * 256 + b) j = if j < 8 then b.testBit j else a.testBit (j - 8) := fun a b hb j => by
    rw [Nat.mul_comm]; exact Nat.testBit_two_pow_mul_add a (i := 8) hb j
  rw [Nat.testBit_and, e h l hl, e H L hL, e _ _ (Nat.lt_of_le_of_lt Nat.and_le_left hl)]
  by_cases q : i < 8
  · rw [if_pos q, if_pos q, if_pos q, Nat.testBit_and]
  · rw [if_neg q, if_neg q, if_neg q, Nat.testBit_and]
def bq1 (k x : Nat) : Nat := x - ((x / 2) &&& rpb 85 k)
def bq2 (k x : Nat) : Nat := (x &&& rpb 51 k) + ((x / 4) &&& rpb 51 k)
def bq3 (k x : Nat) : Nat := (x + x / 16) &&& rpb 15 k
def bvn (x : Nat) : Nat := cnt (fun j => Nat.testBit x j) 8
theorem by1 : ∀ l : Fin 256, ∀ m : Fin 2, (m.val * 128 + l.val / 2) &&& 85 = (l.val / 2) &&& 85 := by decide +kernel
theorem by2 : ∀ l : Fin 256, ∀ m : Fin 4, (m.val * 64 + l.val / 4) &&& 51 = (l.val / 4) &&& 51 := by decide +kernel
theorem by3 : ∀ l : Fin 256, ∀ m : Fin 16, (l.val + m.val * 16 + l.val / 16) &&& 15 = (l.val + l.val / 16) &&& 15 := by decide +kernel
theorem by4 : ∀ l : Fin 256, bq2 1 (bq1 1 l.val) ≤ 68 ∧ bq2 1 (bq1 1 l.val) % 16 ≤ 4 := by decide +kernel
theorem by5 : ∀ l : Fin 256, bq3 1 (bq2 1 (bq1 1 l.val)) = bvn l.val := by decide +kernel
theorem bq1_s {k h l : Nat} (hl : l < 256) : bq1 (k + 1) (h * 256 + l) = bq1 k h * 256 + bq1 1 l := by
  unfold bq1
  rw [rpb_1, rpb_s]
  have e : (h * 256 + l) / 2 = (h / 2) * 256 + ((h % 2) * 128 + l / 2) := by omega
  have b1 : ((h % 2) * 128 + l / 2) &&& 85 = (l / 2) &&& 85 := by1 ⟨l, hl⟩ ⟨h % 2, Nat.mod_lt _ (by decide)⟩
  rw [e, land_hl (by omega) (by decide), b1]
  have a1 : (h / 2) &&& rpb 85 k ≤ h / 2 := Nat.and_le_left
  have a2 : (l / 2) &&& 85 ≤ l / 2 := Nat.and_le_left
  generalize (h / 2) &&& rpb 85 k = X at a1 ⊢
  generalize (l / 2) &&& 85 = Y at a2 ⊢
  omega
theorem bq2_s {k h l : Nat} (hl : l < 256) : bq2 (k + 1) (h * 256 + l) = bq2 k h * 256 + bq2 1 l := by
  unfold bq2
  rw [rpb_1, rpb_s]
  have e : (h * 256 + l) / 4 = (h / 4) * 256 + ((h % 4) * 64 + l / 4) := by omega
  have b1 : ((h % 4) * 64 + l / 4) &&& 51 = (l / 4) &&& 51 := by2 ⟨l, hl⟩ ⟨h % 4, Nat.mod_lt _ (by decide)⟩
  rw [e, land_hl hl (by decide), land_hl (l := (h % 4) * 64 + l / 4) (by omega) (by decide), b1]
  generalize (h / 4) &&& rpb 51 k = X
  generalize (l / 4) &&& 51 = Y
  generalize h &&& rpb 51 k = Z
  generalize l &&& 51 = U
  omega
theorem bq3_s {k h l : Nat} (h1 : h % 16 ≤ 4) (h2 : l ≤ 68) : bq3 (k + 1) (h * 256 + l) = bq3 k h * 256 + bq3 1 l := by
  unfold bq3
  rw [rpb_1, rpb_s]
  have e : (h * 256 + l) + (h * 256 + l) / 16 = (h + h / 16) * 256 + (l + (h % 16) * 16 + l / 16) := by omega
  have b1 : (l + (h % 16) * 16 + l / 16) &&& 15 = (l + l / 16) &&& 15 := by3 ⟨l, by omega⟩ ⟨h % 16, Nat.mod_lt _ (by decide)⟩
  rw [e, land_hl (by omega) (by decide), b1]
def bsn : Nat → Nat → Nat
  | 0, _ => 0
  | k + 1, x => bsn k (x / 256) * 256 + bvn (x % 256)
theorem bq_all : ∀ k x, x < 256 ^ k → bq3 k (bq2 k (bq1 k x)) = bsn k x ∧ bq2 k (bq1 k x) % 16 ≤ 4 := by
  intro k
  induction k with
  | zero =>
    intro x hx
    have : x = 0 := by simpa using hx
    subst this
    exact ⟨by decide, by decide⟩
  | succ k ih =>
    intro x hx
    have hl : x % 256 < 256 := Nat.mod_lt _ (by decide)
    obtain ⟨i1, i2⟩ := ih (x / 256) (Nat.div_lt_of_lt_mul (by rw [Nat.pow_succ, Nat.mul_comm] at hx; exact hx))
    obtain ⟨l1, l2⟩ := by4 ⟨x % 256, hl⟩
    have l3 : bq3 1 (bq2 1 (bq1 1 (x % 256))) = bvn (x % 256) := by5 ⟨x % 256, hl⟩
    have hx2 : x = (x / 256) * 256 + x % 256 := by omega
    have e1 : bq1 (k + 1) x = bq1 k (x / 256) * 256 + bq1 1 (x % 256) := by
      conv => lhs; rw [hx2]
      exact bq1_s hl
    have e2 : bq2 (k + 1) (bq1 (k + 1) x) = bq2 k (bq1 k (x / 256)) * 256 + bq2 1 (bq1 1 (x % 256)) := by
      rw [e1]
      exact bq2_s (Nat.lt_of_le_of_lt (Nat.sub_le _ _) hl)
    rw [e2]
    refine ⟨?_, ?_⟩
    · rw [bq3_s i2 l1, i1, l3]; rfl
    · show _ % 16 ≤ 4
      have l2' : bq2 1 (bq1 1 (x % 256)) % 16 ≤ 4 := l2
      omega
theorem cnt_add (p : Nat → Bool) (a : Nat) : ∀ b, cnt p (a + b) = cnt p a + cnt (fun j => p (a + j)) b := by
  intro b
  induction b with
  | zero => rfl
  | succ b ih => show cnt p (a + b) + b2n (p (a + b)) = _; rw [ih]; simp only [cnt]; omega
theorem cnt_congr {p q : Nat → Bool} : ∀ {n : Nat}, (∀ j, j < n → p j = q j) → cnt p n = cnt q n := by
  intro n
  induction n with
  | zero => intro _; rfl
  | succ n ih => intro h; simp only [cnt]; rw [ih (fun j hj => h j (Nat.lt_succ_of_lt hj)), h n (Nat.lt_succ_self n)]
theorem cnt_by (k x : Nat) : cnt (fun j => x.testBit j) (8 + k) = bvn (x % 256) + cnt (fun j => (x / 256).testBit j) k := by
  rw [cnt_add]
  congr 1
  · refine cnt_congr (fun j hj => ?_)
    show x.testBit j = (x % 2 ^ 8).testBit j
    rw [Nat.testBit_mod_two_pow, decide_eq_true hj, Bool.true_and]
  · refine cnt_congr (fun j hj => ?_)
    show x.testBit (8 + j) = (x / 2 ^ 8).testBit j
    rw [Nat.testBit_div_two_pow, Nat.add_comm]
theorem bvn_le (x : Nat) : bvn x ≤ 8 := cnt_le _ _
theorem bd1 {x y a : Nat} (h : a < 256) (e : x = y * 256 + a) : x / 256 = y := by omega
theorem bd2 {x y a : Nat} (h : a < 65536) (e : x = y * 65536 + a) : x / 65536 = y := by omega
theorem bd3 {x y a : Nat} (h : a < 4294967296) (e : x = y * 4294967296 + a) : x / 4294967296 = y := by omega
theorem bd4 {x y a : Nat} (h : a < 128) (e : x = y * 128 + a) : x % 128 = a := by omega
theorem be1 {c d b0 b1 b2 C1 C2 C3 : Nat} (hc : c = C1 * 256 + b0) (hd : d = c + C1) (k1 : C1 = C2 * 256 + b1) (k2 : C2 = C3 * 256 + b2) : d = (C2 + C3) * 65536 + ((b1 + b2) * 256 + (b0 + b1)) := by omega
theorem be2 {C2 C3 C4 C5 b2 b3 b4 : Nat} (k2 : C2 = C3 * 256 + b2) (k3 : C3 = C4 * 256 + b3) (k4 : C4 = C5 * 256 + b4) : C2 + C3 = (C4 + C5) * 65536 + ((b3 + b4) * 256 + (b2 + b3)) := by omega
theorem be3k {K e D2 D4 D6 D0 d2 d4 : Nat} (he : e = D2 * K + D0 + D2) (k2 : D2 = D4 * K + d2) (k4 : D4 = D6 * K + d4) : e = (D4 + D6) * (K * K) + ((d2 + d4) * K + (D0 + d2)) := by
  subst k4
  subst k2
  subst he
  simp only [Nat.add_mul, Nat.mul_assoc]
  ac_rfl
theorem be3 {e D2 D4 D6 D0 d2 d4 : Nat} (he : e = D2 * 65536 + D0 + D2) (k2 : D2 = D4 * 65536 + d2) (k4 : D4 = D6 * 65536 + d4) : e = (D4 + D6) * 4294967296 + ((d2 + d4) * 65536 + (D0 + d2)) := be3k he k2 k4
theorem be5 {e Z R : Nat} (he : e = Z * 4294967296 + R) : ∃ Y, e = Y * 128 + R := ⟨Z * 33554432, by rw [he, Nat.mul_assoc]⟩
theorem be4 {f e D4 D6 X b0 b1 b2 b3 b4 b5 b6 b7 : Nat} (hf : f = e + (D4 + D6)) (he : e = (D4 + D6) * 4294967296 + (X * 65536 + (((b1 + b2) * 256 + (b0 + b1)) + ((b3 + b4) * 256 + (b2 + b3))))) (k4 : D4 = D6 * 65536 + ((b5 + b6) * 256 + (b4 + b5))) (k6 : D6 = b7 * 256 + (b6 + b7)) : ∃ y, f = y * 128 + (b0 + (b1 + (b2 + (b3 + (b4 + (b5 + (b6 + b7))))))) := by
  obtain ⟨Y, e2⟩ := be5 he
  exact ⟨Y + X * 512 + (b1 + b2) * 2 + (b3 + b4) * 2 + D6 * 512 + (b5 + b6) * 2 + b7 * 2, by clear he; omega⟩
theorem bsm {b0 b1 b2 b3 b4 b5 b6 b7 : Nat} (h0 : b0 ≤ 8) (h1 : b1 ≤ 8) (h2 : b2 ≤ 8) (h3 : b3 ≤ 8) (h4 : b4 ≤ 8) (h5 : b5 ≤ 8) (h6 : b6 ≤ 8) (h7 : b7 ≤ 8) : b0 + (b1 + (b2 + (b3 + (b4 + (b5 + (b6 + b7)))))) < 128 := by omega
theorem bs2 {b0 b1 b2 : Nat} (h0 : b0 ≤ 8) (h1 : b1 ≤ 8) (h2 : b2 ≤ 8) : (b1 + b2) * 256 + (b0 + b1) < 65536 := by omega
theorem bs3 {X Y : Nat} (h : X < 65535) (h2 : Y < 65536) : X * 65536 + Y < 4294967296 := by omega
theorem bs4 {b0 b1 b2 b3 b4 : Nat} (h0 : b0 ≤ 8) (h1 : b1 ≤ 8) (h2 : b2 ≤ 8) (h3 : b3 ≤ 8) (h4 : b4 ≤ 8) : (b1 + b2) * 256 + (b0 + b1) + ((b3 + b4) * 256 + (b2 + b3)) < 65535 := by omega
theorem bc_fold {b0 b1 b2 b3 b4 b5 b6 b7 C1 C2 C3 C4 C5 C6 c d e f : Nat} (h0 : b0 ≤ 8) (h1 : b1 ≤ 8) (h2 : b2 ≤ 8) (h3 : b3 ≤ 8) (h4 : b4 ≤ 8) (h5 : b5 ≤ 8) (h6 : b6 ≤ 8) (h7 : b7 ≤ 8)
    (k6 : C6 = b7 * 256 + b6) (k5 : C5 = C6 * 256 + b5) (k4 : C4 = C5 * 256 + b4) (k3 : C3 = C4 * 256 + b3) (k2 : C2 = C3 * 256 + b2) (k1 : C1 = C2 * 256 + b1) (hc : c = C1 * 256 + b0) (hd : d = c + c / 256) (he : e = d + d / 65536) (hf : f = e + e / 4294967296) : f % 128 = b0 + (b1 + (b2 + (b3 + (b4 + (b5 + (b6 + b7)))))) := by
  rw [bd1 (Nat.lt_of_le_of_lt h0 (by decide)) hc] at hd
  have d1 := be1 hc hd k1 k2
  rw [bd2 (bs2 h0 h1 h2) d1] at he
  have D2 := be2 k2 k3 k4
  have D4 := be2 k4 k5 k6
  have e1 := be3 (D0 := (b1 + b2) * 256 + (b0 + b1)) (he.trans (congrArg (fun z => z + (C2 + C3)) d1)) D2 D4
  rw [bd3 (bs3 (bs4 h2 h3 h4 h5 h6) (Nat.lt_succ_of_lt (bs4 h0 h1 h2 h3 h4))) e1] at hf
  obtain ⟨y, f1⟩ := be4 hf e1 D4 (show C6 + b7 = b7 * 256 + (b6 + b7) by rw [k6, Nat.add_assoc])
  exact bd4 (bsm h0 h1 h2 h3 h4 h5 h6 h7) f1
theorem bc_nat {x c d e f : Nat} (hx : x < 18446744073709551616) (hc : c = bq3 8 (bq2 8 (bq1 8 x))) (hd : d = c + c / 256) (he : e = d + d / 65536) (hf : f = e + e / 4294967296) : f % 128 = cnt (fun j => x.testBit j) 64 := by
  rw [(bq_all 8 x hx).1] at hc
  have t : ∀ y, cnt (fun j => Nat.testBit y j) 8 = bvn y := fun y => rfl
  have z : bsn 1 (x / 256 / 256 / 256 / 256 / 256 / 256 / 256) = bvn (x / 256 / 256 / 256 / 256 / 256 / 256 / 256 % 256) := by simp [bsn]
  have r := bc_fold (C1 := bsn 7 (x / 256)) (C2 := bsn 6 (x / 256 / 256)) (C3 := bsn 5 (x / 256 / 256 / 256)) (C4 := bsn 4 (x / 256 / 256 / 256 / 256)) (C5 := bsn 3 (x / 256 / 256 / 256 / 256 / 256)) (C6 := bsn 2 (x / 256 / 256 / 256 / 256 / 256 / 256)) (bvn_le (x % 256)) (bvn_le (x / 256 % 256)) (bvn_le (x / 256 / 256 % 256)) (bvn_le (x / 256 / 256 / 256 % 256)) (bvn_le (x / 256 / 256 / 256 / 256 % 256)) (bvn_le (x / 256 / 256 / 256 / 256 / 256 % 256)) (bvn_le (x / 256 / 256 / 256 / 256 / 256 / 256 % 256)) (bvn_le (x / 256 / 256 / 256 / 256 / 256 / 256 / 256 % 256))
    (by rw [← z]; rfl) rfl rfl rfl rfl rfl hc hd he hf
  rw [r]
  have w : ∀ k y, cnt (fun j => y.testBit j) (8 + k) = bvn (y % 256) + cnt (fun j => (y / 256).testBit j) k := cnt_by
  have w0 := w 0 (x / 256 / 256 / 256 / 256 / 256 / 256 / 256)
  have w1 := w 8 (x / 256 / 256 / 256 / 256 / 256 / 256)
  have w2 := w 16 (x / 256 / 256 / 256 / 256 / 256)
  have w3 := w 24 (x / 256 / 256 / 256 / 256)
  have w4 := w 32 (x / 256 / 256 / 256)
  have w5 := w 40 (x / 256 / 256)
  have w6 := w 48 (x / 256)
  have w7 := w 56 x
  rw [show 8 + 0 = 8 from rfl] at w0
  rw [show 8 + 8 = 16 from rfl, w0] at w1
  rw [show 8 + 16 = 24 from rfl, w1] at w2
  rw [show 8 + 24 = 32 from rfl, w2] at w3
  rw [show 8 + 32 = 40 from rfl, w3] at w4
  rw [show 8 + 40 = 48 from rfl, w4] at w5
  rw [show 8 + 48 = 56 from rfl, w5] at w6
  rw [show 8 + 56 = 64 from rfl, w6] at w7
  rw [w7]
  rfl
theorem uadd (a b : UInt64) (h : a.toNat + b.toNat < 18446744073709551616) : (a + b).toNat = a.toNat + b.toNat := by rw [UInt64.toNat_add]; exact Nat.mod_eq_of_lt h
theorem ushr (u s : UInt64) (k : Nat) (h : s.toNat % 64 = k) : (u >>> s).toNat = u.toNat / 2 ^ k := by rw [UInt64.toNat_shiftRight, h, Nat.shiftRight_eq_div_pow]
theorem w127 : ∀ i : Fin 32, (nI 127).toBitVec.getLsbD i.val = decide (i.val < 7) := by decide +kernel
theorem low7 (w : Int64) : w.toInt32 &&& nI 127 = nI (w.toUInt64.toNat % 128) := by
  apply Int32.toBitVec_inj.mp
  rw [Int32.toBitVec_and, Int64.toBitVec_toInt32]
  apply BitVec.eq_of_getLsbD_eq
  intro i hi
  rw [BitVec.getLsbD_and, BitVec.signExtend_eq_setWidth_of_le _ (by decide), BitVec.getLsbD_setWidth, w127 ⟨i, hi⟩]
  show _ = (BitVec.ofNat 32 (w.toBitVec.toNat % 2 ^ 7)).getLsbD i
  rw [BitVec.getLsbD_ofNat, Nat.testBit_mod_two_pow, BitVec.testBit_toNat, decide_eq_true hi]
  cases decide (i < 7) <;> simp
theorem bitc_u (x : Int64) : ∃ a b c d e f : UInt64, bitc x = nI (f.toNat % 128) ∧ a = x.toUInt64 - ((x.toUInt64 >>> ((nI 1).toInt64.toUInt64 &&& Int64.toUInt64 63)) &&& Int64.toUInt64 6148914691236517205) ∧ b = (a &&& Int64.toUInt64 3689348814741910323) + ((a >>> ((nI 2).toInt64.toUInt64 &&& Int64.toUInt64 63)) &&& Int64.toUInt64 3689348814741910323) ∧ c = (b + (b >>> ((nI 4).toInt64.toUInt64 &&& Int64.toUInt64 63))) &&& Int64.toUInt64 1085102592571150095 ∧ d = c + (c >>> ((nI 8).toInt64.toUInt64 &&& Int64.toUInt64 63)) ∧ e = d + (d >>> ((nI 16).toInt64.toUInt64 &&& Int64.toUInt64 63)) ∧ f = e + (e >>> ((nI 32).toInt64.toUInt64 &&& Int64.toUInt64 63)) := by
  unfold bitc
  exact ⟨_, _, _, _, _, _, low7 _, rfl, rfl, rfl, rfl, rfl, rfl⟩
theorem m85 : (Int64.toUInt64 6148914691236517205).toNat = rpb 85 8 := by decide +kernel
theorem m51 : (Int64.toUInt64 3689348814741910323).toNat = rpb 51 8 := by decide +kernel
theorem m15 : (Int64.toUInt64 1085102592571150095).toNat = rpb 15 8 := by decide +kernel
theorem bitc_cnt (x : Int64) : bitc x = nI (cnt (fun j => x.toUInt64.toNat.testBit j) 64) := by
  obtain ⟨a, b, c, d, e, f, h0, ha, hb, hc, hd, he, hf⟩ := bitc_u x
  rw [h0]
  have hx : x.toUInt64.toNat < 18446744073709551616 := x.toUInt64.toNat_lt
  have na : a.toNat = bq1 8 x.toUInt64.toNat := by
    have e1 : ((x.toUInt64 >>> ((nI 1).toInt64.toUInt64 &&& Int64.toUInt64 63)) &&& Int64.toUInt64 6148914691236517205).toNat = (x.toUInt64.toNat / 2) &&& rpb 85 8 := by
      rw [UInt64.toNat_and, ushr _ _ 1 (by decide +kernel), m85]
    have e2 : (x.toUInt64.toNat / 2) &&& rpb 85 8 ≤ x.toUInt64.toNat / 2 := Nat.and_le_left
    rw [ha, UInt64.toNat_sub_of_le _ _ (UInt64.le_iff_toNat_le.mpr (by rw [e1]; omega)), e1]; rfl
  have nb : b.toNat = bq2 8 a.toNat := by
    have e1 : (a &&& Int64.toUInt64 3689348814741910323).toNat = a.toNat &&& rpb 51 8 := by rw [UInt64.toNat_and, m51]
    have e2 : ((a >>> ((nI 2).toInt64.toUInt64 &&& Int64.toUInt64 63)) &&& Int64.toUInt64 3689348814741910323).toNat = (a.toNat / 4) &&& rpb 51 8 := by
      rw [UInt64.toNat_and, ushr _ _ 2 (by decide +kernel), m51]
    have g1 : a.toNat &&& rpb 51 8 ≤ rpb 51 8 := Nat.and_le_right
    have g2 : (a.toNat / 4) &&& rpb 51 8 ≤ rpb 51 8 := Nat.and_le_right
    have g3 : rpb 51 8 = 3689348814741910323 := by decide +kernel
    rw [hb, uadd _ _ (by rw [e1, e2]; omega), e1, e2]; rfl
  have lb : b.toNat ≤ 7378697629483820646 := by
    have g1 : a.toNat &&& rpb 51 8 ≤ rpb 51 8 := Nat.and_le_right
    have g2 : (a.toNat / 4) &&& rpb 51 8 ≤ rpb 51 8 := Nat.and_le_right
    have g3 : rpb 51 8 = 3689348814741910323 := by decide +kernel
    rw [nb]; unfold bq2; omega
  have nc : c.toNat = bq3 8 b.toNat := by
    have e1 : (b >>> ((nI 4).toInt64.toUInt64 &&& Int64.toUInt64 63)).toNat = b.toNat / 16 := ushr _ _ 4 (by decide +kernel)
    rw [hc, UInt64.toNat_and, m15, uadd _ _ (by rw [e1]; omega), e1]; rfl
  have lc9 : c.toNat ≤ 1085102592571150095 := by
    have g1 : (b.toNat + b.toNat / 16) &&& rpb 15 8 ≤ rpb 15 8 := Nat.and_le_right
    have g3 : rpb 15 8 = 1085102592571150095 := by decide +kernel
    rw [nc]; unfold bq3; omega
  have nd : d.toNat = c.toNat + c.toNat / 256 := by
    have e1 : (c >>> ((nI 8).toInt64.toUInt64 &&& Int64.toUInt64 63)).toNat = c.toNat / 256 := ushr _ _ 8 (by decide +kernel)
    rw [hd, uadd _ _ (by rw [e1]; omega), e1]
  have ne : e.toNat = d.toNat + d.toNat / 65536 := by
    have e1 : (d >>> ((nI 16).toInt64.toUInt64 &&& Int64.toUInt64 63)).toNat = d.toNat / 65536 := ushr _ _ 16 (by decide +kernel)
    rw [he, uadd _ _ (by rw [e1]; omega), e1]
  have nf : f.toNat = e.toNat + e.toNat / 4294967296 := by
    have e1 : (e >>> ((nI 32).toInt64.toUInt64 &&& Int64.toUInt64 63)).toNat = e.toNat / 4294967296 := ushr _ _ 32 (by decide +kernel)
    rw [hf, uadd _ _ (by rw [e1]; omega), e1]
  rw [bc_nat hx (by rw [nc, nb, na]) nd ne nf]
theorem bitc_ms (p : Nat → Bool) : bitc (ms p 60) = nI (cnt p 60) := by
  rw [bitc_cnt]
  congr 1
  have e : ∀ j, (ms p 60).toUInt64.toNat.testBit j = (ms p 60).toBitVec.getLsbD j := fun j => BitVec.testBit_toNat _
  rw [show (64 : Nat) = 60 + 4 from rfl, cnt_add, cnt_congr (n := 60) (q := p) (fun j hj => by rw [e, ms_bit p 60 (by decide) j (by omega), decide_eq_true hj, Bool.true_and]), cnt_congr (n := 4) (q := fun _ => false) (fun j hj => by rw [e, ms_bit p 60 (by decide) _ (by omega), decide_eq_false (by omega), Bool.false_and])]
  rfl
end
section
def undp (σ : ST) (any al : Nat) (p : Nat → Bool) : Nat → Nat → Bool
  | 0 => p
  | b + 1 => fun j => if j = σ 8 ((σ 7 0 - b) % 40) then mt (σ 9 ((σ 7 0 - b) % 40)) (σ 10 ((σ 7 0 - b) % 40)) any al else undp σ any al p b j
theorem und_ms {σ : ST} {any al : Nat} {p : Nat → Bool} (h : ∀ i, σ 8 i < 60) : ∀ n, und σ any al (ms p 60) n = ms (undp σ any al p n) 60 := by
  intro n
  induction n with
  | zero => rfl
  | succ n ih => simp only [und, undp]; rw [ih]; exact wi_ms _ _ (h _)
def tchp (σ : ST) : Nat → Nat → Bool
  | 0 => fun _ => false
  | b + 1 => fun j => if j = σ 8 ((σ 7 0 - b) % 40) then true else tchp σ b j
theorem tch_ms {σ : ST} (h : ∀ i, σ 8 i < 60) : ∀ n, tch σ n = ms (tchp σ n) 60 := by
  intro n
  induction n with
  | zero => exact ms_zero.symm
  | succ n ih => simp only [tch, tchp]; rw [ih]; exact wi_ms _ _ (h _)
def pgsp (σ : ST) (st : Nat) : Nat → Nat → Bool
  | 0 => fun _ => false
  | a + 1 => fun j => if j = σ 8 ((st + 1 + a) % 40) then true else pgsp σ st a j
theorem pgs_ms {σ : ST} {st : Nat} (h : ∀ i, σ 8 i < 60) : ∀ n, pgs σ st n = ms (pgsp σ st n) 60 := by
  intro n
  induction n with
  | zero => exact ms_zero.symm
  | succ n ih => simp only [pgs, pgsp]; rw [ih]; exact wi_ms _ _ (h _)
end
section
theorem mt_h1 : ∀ a : Fin 64, ∀ x : Fin 6, (!decide (nI a.val &&& nI (2 ^ x.val) = 0)) = hs a.val x.val := by decide +kernel
theorem mt_h2 : ∀ b : Fin 16, ∀ k : Fin 5, decide (nI b.val &&& nI (askq k.val) = nI (askq k.val)) = (decide (k.val = 0) || hs b.val (k.val - 1)) := by decide +kernel
/-- the class's match of a mail and the reference's -/
theorem mt_hs {a b x k : Nat} (ha : a < 64) (hb : b < 16) (hx : x < 6) (hk : k ≤ 4) : mt a b (2 ^ x) (askq k) = (hs a x && (decide (k = 0) || hs b (k - 1))) := by
  unfold mt
  rw [mt_h1 ⟨a, ha⟩ ⟨x, hx⟩, mt_h2 ⟨b, hb⟩ ⟨k, by omega⟩]
/-- a mail that was there: its boxes are one at least -/
theorem mt_63 : ∀ a : Fin 64, mt a.val 0 63 0 = !decide (a.val = 0) := by decide +kernel
theorem hs_0 : ∀ x : Fin 6, hs 0 x.val = false := by decide +kernel
theorem wn_hs : ∀ b : Fin 16, ∀ k : Fin 4, ∀ w : Bool, decide (b.val = wn b.val k.val w) = decide (hs b.val k.val = w) := by decide +kernel
theorem wn_xor : ∀ b : Fin 16, ∀ k : Fin 4, ∀ w : Bool, hs b.val k.val ≠ w → wn b.val k.val w = b.val ^^^ 2 ^ k.val := by decide +kernel
end
section
/-! counting -/
theorem cnt_none {p : Nat → Bool} : ∀ {n : Nat}, (∀ j, j < n → p j = false) → cnt p n = 0 := by
  intro n
  induction n with
  | zero => intro _; rfl
  | succ n ih => intro h; simp only [cnt]; rw [ih (fun j hj => h j (Nat.lt_succ_of_lt hj)), h n (Nat.lt_succ_self n)]; rfl
theorem cnt_ext {p q : Nat → Bool} {a b : Nat} (h : a ≤ b) (h1 : ∀ j, j < a → p j = q j) (h2 : ∀ j, a ≤ j → j < b → p j = false) : cnt p b = cnt q a := by
  obtain ⟨k, rfl⟩ : ∃ k, b = a + k := ⟨b - a, by omega⟩
  rw [cnt_add, cnt_congr h1, cnt_none (fun j hj => h2 (a + j) (by omega) (by omega)), Nat.add_zero]
theorem cnt_hit {p : Nat → Bool} : ∀ {n i : Nat}, i < cnt p n → ∃ m, m < n ∧ p m = true ∧ cnt p m = i := by
  intro n
  induction n with
  | zero => intro i h; exact absurd h (Nat.not_lt_zero _)
  | succ n ih =>
    intro i h
    cases hp : p n
    · rw [← cnt_f hp] at h
      obtain ⟨m, a, b, c⟩ := ih h
      exact ⟨m, Nat.lt_succ_of_lt a, b, c⟩
    · rw [← cnt_t hp] at h
      rcases Nat.lt_or_ge i (cnt p n) with q | q
      · obtain ⟨m, a, b, c⟩ := ih q
        exact ⟨m, Nat.lt_succ_of_lt a, b, c⟩
      · exact ⟨n, Nat.lt_succ_self n, hp, by omega⟩
theorem cnt_lt_of {p : Nat → Bool} {m n : Nat} (h : m < n) (hp : p m = true) : cnt p m < cnt p n := by
  have := cnt_step (p := p) h
  rw [hp] at this
  exact this
theorem cnt_mono_n (p : Nat → Bool) {a b : Nat} (h : a ≤ b) : cnt p a ≤ cnt p b := by
  obtain ⟨k, rfl⟩ : ∃ k, b = a + k := ⟨b - a, by omega⟩
  rw [cnt_add]; omega
theorem cnt_inj {p : Nat → Bool} {a b : Nat} (ha : p a = true) (hb : p b = true) (h : cnt p a = cnt p b) : a = b := by
  rcases Nat.lt_trichotomy a b with q | q | q
  · have := cnt_lt_of q ha; omega
  · exact q
  · have := cnt_lt_of q hb; omega
/-- an element more -/
theorem cnt_more {p : Nat → Bool} {m : Nat} (hm : p m = false) : ∀ {n : Nat}, m < n → cnt (fun j => if j = m then true else p j) n = cnt p n + 1 := by
  intro n
  induction n with
  | zero => intro h; exact absurd h (Nat.not_lt_zero _)
  | succ n ih =>
    intro h
    simp only [cnt]
    rcases Nat.lt_or_ge m n with q | q
    · rw [ih q, if_neg (show ¬ n = m by omega)]; omega
    · have : m = n := by omega
      subst this
      rw [if_pos rfl, hm, cnt_congr (n := m) (q := p) (fun j hj => if_neg (show ¬ j = m by omega))]
      rfl
theorem nI_inj {a b : Nat} (ha : a < 2 ^ 31) (hb : b < 2 ^ 31) (h : nI a = nI b) : a = b := by
  rcases Nat.lt_trichotomy a b with q | q | q
  · exact absurd h (Int32.ne_of_lt ((nI_ltI ha hb).mpr q))
  · exact q
  · exact absurd h.symm (Int32.ne_of_lt ((nI_ltI hb ha).mpr q))
/-- the mail with so many lower numbers ahead of it -/
theorem low_spec (p : Nat → Bool) (ix : Int32) : ∀ n m, m + n = 60 → (∃ mm, m ≤ mm ∧ mm < 60 ∧ p mm = true ∧ nI (cnt p mm) = ix ∧ low (ms p 60) ix n m (cnt p m) = mm + 1) ∨ (low (ms p 60) ix n m (cnt p m) = 0 ∧ ∀ mm, m ≤ mm → mm < 60 → p mm = true → ¬ nI (cnt p mm) = ix) := by
  intro n
  induction n with
  | zero => intro m h; exact Or.inr ⟨rfl, fun mm h1 h2 => by omega⟩
  | succ n ih =>
    intro m h
    simp only [low]
    rw [hl_ms p (show m < 60 by omega)]
    cases hp : p m
    · rw [cnt_f hp]
      rcases ih (m + 1) (by omega) with ⟨mm, a, b, c, d, e⟩ | ⟨a, b⟩
      · exact Or.inl ⟨mm, by omega, b, c, d, e⟩
      · refine Or.inr ⟨a, fun mm h1 h2 h3 => ?_⟩
        rcases Nat.lt_or_ge m mm with q | q
        · exact b mm q h2 h3
        · have : mm = m := by omega
          subst this; rw [hp] at h3; exact absurd h3 (by decide)
    · rw [cond_true]
      by_cases q : nI (cnt p m) = ix
      · rw [decide_eq_true q, cond_true]
        exact Or.inl ⟨m, Nat.le_refl _, by omega, hp, q, rfl⟩
      · rw [decide_eq_false q, cond_false, cnt_t hp]
        rcases ih (m + 1) (by omega) with ⟨mm, a, b, c, d, e⟩ | ⟨a, b⟩
        · exact Or.inl ⟨mm, by omega, b, c, d, e⟩
        · refine Or.inr ⟨a, fun mm h1 h2 h3 => ?_⟩
          rcases Nat.lt_or_ge m mm with q2 | q2
          · exact b mm q2 h2 h3
          · have : mm = m := by omega
            subst this; exact q
/-- the mail with so many ahead of it in the order -/
theorem lat_spec {σ : ST} (p : Nat → Bool) (ix : Int32) (h60 : ∀ i, σ 6 i < 60) (N : Nat) : ∀ n pl, pl + n = N → (∃ k, pl ≤ k ∧ k < N ∧ p (σ 6 k) = true ∧ nI (cnt (fun i => p (σ 6 i)) k) = ix ∧ lat σ (ms p 60) ix n pl (cnt (fun i => p (σ 6 i)) pl) = σ 6 k + 1) ∨ (lat σ (ms p 60) ix n pl (cnt (fun i => p (σ 6 i)) pl) = 0 ∧ ∀ k, pl ≤ k → k < N → p (σ 6 k) = true → ¬ nI (cnt (fun i => p (σ 6 i)) k) = ix) := by
  intro n
  induction n with
  | zero => intro m h; exact Or.inr ⟨rfl, fun mm h1 h2 => by omega⟩
  | succ n ih =>
    intro m h
    simp only [lat]
    rw [hl_ms p (h60 m)]
    cases hp : p (σ 6 m)
    · rw [cnt_f (p := fun i => p (σ 6 i)) hp]
      rcases ih (m + 1) (by omega) with ⟨mm, a, b, c, d, e⟩ | ⟨a, b⟩
      · exact Or.inl ⟨mm, by omega, b, c, d, e⟩
      · refine Or.inr ⟨a, fun mm h1 h2 h3 => ?_⟩
        rcases Nat.lt_or_ge m mm with q | q
        · exact b mm q h2 h3
        · have : mm = m := by omega
          subst this; rw [hp] at h3; exact absurd h3 (by decide)
    · rw [cond_true]
      by_cases q : nI (cnt (fun i => p (σ 6 i)) m) = ix
      · rw [decide_eq_true q, cond_true]
        exact Or.inl ⟨m, Nat.le_refl _, by omega, hp, q, rfl⟩
      · rw [decide_eq_false q, cond_false, cnt_t (p := fun i => p (σ 6 i)) hp]
        rcases ih (m + 1) (by omega) with ⟨mm, a, b, c, d, e⟩ | ⟨a, b⟩
        · exact Or.inl ⟨mm, by omega, b, c, d, e⟩
        · refine Or.inr ⟨a, fun mm h1 h2 h3 => ?_⟩
          rcases Nat.lt_or_ge m mm with q2 | q2
          · exact b mm q2 h2 h3
          · have : mm = m := by omega
            subst this; exact q
theorem upN_self (g : Nat → Nat) (j : Nat) : upN g j (g j) = g := by
  funext i; unfold upN; split
  · next h => rw [h]
  · rfl
theorem iw_at {ix : Int32} {i C : Nat} (h : nI i = ix) (hi : i < C) (hC : C ≤ 2 ^ 31) : iw ix (nI 0) (oi C) = true := by
  rw [← h]; exact iw_k hi hC
/-- what is shifted to let a mail in -/
theorem pio_spec (tm : Nat → Nat) (t mail : Nat) : ∀ (n : Nat) (od : Nat → Nat), ∃ pl, pl ≤ n ∧ (∀ i, i < pl → pio tm t mail n od i = od i) ∧ pio tm t mail n od pl = mail ∧ (∀ i, pl < i → i ≤ n → pio tm t mail n od i = od (i - 1)) ∧ (∀ i, n < i → pio tm t mail n od i = od i) ∧ (∀ i, pl ≤ i → i < n → tm (od i) ≤ t) ∧ (0 < pl → ¬ tm (od (pl - 1)) ≤ t) := by
  intro n
  induction n with
  | zero => exact fun od => ⟨0, Nat.le_refl _, fun i h => absurd h (Nat.not_lt_zero _), upN_same _ _ _, fun i h1 h2 => by omega, fun i h => upN_ne _ (by omega), fun i h1 h2 => by omega, fun h => absurd h (Nat.lt_irrefl _)⟩
  | succ k ih =>
    intro od
    by_cases hc : tm (od k) ≤ t
    · obtain ⟨pl, a1, a2, a3, a4, a5, a6, a7⟩ := ih (upN od (k + 1) (od k))
      have e : pio tm t mail (k + 1) od = pio tm t mail k (upN od (k + 1) (od k)) := by simp only [pio]; rw [decide_eq_true hc, cond_true]
      rw [e]
      refine ⟨pl, by omega, fun i h => ?_, a3, fun i h1 h2 => ?_, fun i h => ?_, fun i h1 h2 => ?_, fun h => ?_⟩
      · rw [a2 i h, upN_ne _ (by omega)]
      · rcases Nat.lt_or_ge k i with q | q
        · have : i = k + 1 := by omega
          subst this
          rw [a5 _ q, upN_same]; rfl
        · rw [a4 i h1 q, upN_ne _ (by omega)]
      · rw [a5 i (by omega), upN_ne _ (by omega)]
      · rcases Nat.lt_or_ge i k with q | q
        · have := a6 i h1 q; rw [upN_ne _ (by omega)] at this; exact this
        · have : i = k := by omega
          subst this; exact hc
      · have := a7 h; rw [upN_ne _ (by omega)] at this; exact this
    · have e : pio tm t mail (k + 1) od = upN od (k + 1) mail := by simp only [pio]; rw [decide_eq_false hc, cond_false]
      rw [e]
      exact ⟨k + 1, Nat.le_refl _, fun i h => upN_ne _ (by omega), upN_same _ _ _, fun i h1 h2 => by omega, fun i h => upN_ne _ (by omega), fun i h1 h2 => by omega, fun _ => hc⟩
end
section
/-! what holds between the calls: the server of the class and the reference -/
def I_c (σ μ : ST) : Prop := σ 1 0 = μ 0 0 ∧ μ 0 0 ≤ 60 ∧ σ 7 0 = μ 0 1
def I_m (σ μ : ST) : Prop := ∀ j, (j < μ 0 0 → σ 2 j = μ 1 j ∧ σ 3 j = μ 4 j ∧ σ 4 j = (if μ 6 j = 0 then μ 2 j else 0) ∧ 1 ≤ μ 2 j) ∧ (μ 0 0 ≤ j → σ 4 j = 0 ∧ μ 2 j = 0 ∧ μ 3 j = 0 ∧ μ 6 j = 0) ∧ σ 5 j = μ 3 j ∧ μ 2 j < 64 ∧ μ 3 j < 16
def I_r (σ μ : ST) : Prop := ∀ k, k < μ 0 1 → μ 0 1 ≤ k + 40 → σ 8 ((k + 1) % 40) = μ 8 k ∧ σ 9 ((k + 1) % 40) = μ 9 k ∧ σ 10 ((k + 1) % 40) = μ 10 k ∧ (μ 7 k = 2 → 1 ≤ μ 11 k ∧ μ 11 k ≤ 4 ∧ μ 12 k < 2 ∧ hs (μ 10 k) (μ 11 k - 1) ≠ nb (μ 12 k) ∧ σ 11 ((k + 1) % 40) = wn (μ 10 k) (μ 11 k - 1) (nb (μ 12 k))) ∧ (μ 7 k ≠ 2 → σ 11 ((k + 1) % 40) = μ 10 k)
def I_h1 (μ : ST) : Prop := ∀ m, m < μ 0 0 → 1 ≤ μ 5 m ∧ μ 5 m ≤ μ 0 1 ∧ μ 8 (μ 5 m - 1) = m ∧ (μ 6 m ≠ 0 → μ 6 m ≤ μ 0 1 ∧ μ 8 (μ 6 m - 1) = m)
def I_h2 (μ : ST) : Prop := ∀ k, k < μ 0 1 → μ 8 k < μ 0 0 ∧ μ 5 (μ 8 k) ≤ k + 1 ∧ (μ 6 (μ 8 k) = 0 ∨ k + 1 ≤ μ 6 (μ 8 k)) ∧ (μ 5 (μ 8 k) = k + 1 → μ 9 k = 0) ∧ (μ 5 (μ 8 k) ≠ k + 1 → 1 ≤ μ 9 k) ∧ μ 9 k < 64 ∧ μ 10 k < 16
def I_o (σ μ : ST) : Prop := (∀ p, p < μ 0 0 → σ 6 p < μ 0 0) ∧ (∀ p q, p < q → q < μ 0 0 → ahd μ (σ 6 q) (σ 6 p) = true) ∧ (∀ P : Nat → Bool, cnt (fun i => P (σ 6 i)) (μ 0 0) = cnt P (μ 0 0))
def I_b (σ μ : ST) : Prop := (∀ i, σ 8 i < 60) ∧ (∀ i, σ 6 i < 60) ∧ (∀ k i, σ k i < 20000) ∧ (∀ k i, μ k i < 20000)
def IS (σ μ : ST) : Prop := I_c σ μ ∧ I_m σ μ ∧ I_r σ μ ∧ I_h1 μ ∧ I_h2 μ ∧ I_o σ μ ∧ I_b σ μ
theorem su_self (S : ST) (k : Nat) : su S k (S k) = S := by
  funext j; unfold su
  cases h : Nat.beq j k
  · rfl
  · rw [Nat.eq_of_beq_eq_true h]; rfl
theorem mod_ne {s k : Nat} (h : k < s) (h2 : s + 1 ≤ k + 40) : (k + 1) % 40 ≠ (s + 1) % 40 := by omega
/-- one change of a mail that is there, on both sides -/
theorem IS_step {σ σ' μ μ' : ST} {j its wd ws b w g : Nat} (I : IS σ μ) (hj : j < μ 0 0) (h6 : μ 6 j = 0) (hb1 : 1 ≤ b) (hb2 : b < 64) (hw : w < 16) (hg : g = 0 ∨ g = μ 0 1 + 1) (hst : μ 0 1 < 4000) (hits : its < 20000) (hwd : wd < 20000) (hws : ws < 20000)
    (hk2 : its = 2 → 1 ≤ wd ∧ wd ≤ 4 ∧ ws < 2 ∧ hs (μ 3 j) (wd - 1) ≠ nb ws ∧ w = wn (μ 3 j) (wd - 1) (nb ws)) (hk1 : its ≠ 2 → w = μ 3 j)
    (s1 : σ' 1 0 = σ 1 0) (s2 : σ' 2 = σ 2) (s3 : σ' 3 = σ 3) (s4 : σ' 4 = upN (σ 4) j (if g = 0 then b else 0)) (s5 : σ' 5 = upN (σ 5) j w) (s6 : σ' 6 = σ 6) (s7 : σ' 7 0 = σ 7 0 + 1) (s8 : σ' 8 = upN (σ 8) ((σ 7 0 + 1) % 40) j) (s9 : σ' 9 = upN (σ 9) ((σ 7 0 + 1) % 40) (σ 4 j)) (s10 : σ' 10 = upN (σ 10) ((σ 7 0 + 1) % 40) (σ 5 j)) (s11 : σ' 11 = upN (σ 11) ((σ 7 0 + 1) % 40) w)
    (m0 : μ' 0 0 = μ 0 0) (m01 : μ' 0 1 = μ 0 1 + 1) (m1 : μ' 1 = μ 1) (m2 : μ' 2 = upN (μ 2) j b) (m3 : μ' 3 = upN (μ 3) j w) (m4 : μ' 4 = μ 4) (m5 : μ' 5 = μ 5) (m6 : μ' 6 = upN (μ 6) j g) (m7 : μ' 7 = upN (μ 7) (μ 0 1) its) (m8 : μ' 8 = upN (μ 8) (μ 0 1) j) (m9 : μ' 9 = upN (μ 9) (μ 0 1) (μ 2 j)) (m10 : μ' 10 = upN (μ 10) (μ 0 1) (μ 3 j)) (m11 : μ' 11 = upN (μ 11) (μ 0 1) wd) (m12 : μ' 12 = upN (μ 12) (μ 0 1) ws)
    (hbσ : ∀ k i, σ' k i < 20000) (hbμ : ∀ k i, μ' k i < 20000) : IS σ' μ' := by
  obtain ⟨⟨c1, c2, c3⟩, Im, Ir, Ih1, Ih2, ⟨o1, o2, o3⟩, ⟨b1, b2, b3, b4⟩⟩ := I
  obtain ⟨j1, -, j5, j63, j16⟩ := Im j
  obtain ⟨j2, j3, j4, j0⟩ := j1 hj
  rw [if_pos h6] at j4
  have hah : ∀ x y, ahd μ' x y = ahd μ x y := fun x y => by unfold ahd; rw [m1]
  refine ⟨⟨by rw [s1, m0]; exact c1, by rw [m0]; exact c2, by rw [s7, m01, c3]⟩, ?_, ?_, ?_, ?_, ⟨?_, ?_, ?_⟩, ⟨?_, by rw [s6]; exact b2, hbσ, hbμ⟩⟩
  · intro i
    obtain ⟨i1, i2, i5, i63, i16⟩ := Im i
    rw [m0, s2, s3, s4, s5, m1, m2, m3, m4, m6]
    by_cases q : i = j
    · subst q
      simp only [upN_same]
      exact ⟨fun _ => ⟨j2, j3, trivial, hb1⟩, fun h => absurd hj (by omega), trivial, hb2, hw⟩
    · simp only [upN_ne _ q]
      exact ⟨i1, i2, i5, i63, i16⟩
  · intro k hk1' hk2'
    rw [m01] at hk1' hk2'
    rw [s8, s9, s10, s11, m7, m8, m9, m10, m11, m12, c3]
    rcases Nat.lt_or_ge k (μ 0 1) with q | q
    · have ne := mod_ne q hk2'
      have nk : k ≠ μ 0 1 := by omega
      simp only [upN_ne _ ne, upN_ne _ nk]
      exact Ir k q (by omega)
    · have : k = μ 0 1 := by omega
      subst this
      simp only [upN_same]
      exact ⟨trivial, j4, j5, hk2, hk1⟩
  · intro m hm
    rw [m0] at hm
    obtain ⟨a1, a2, a3, a4⟩ := Ih1 m hm
    rw [m5, m01, m8, m6, upN_ne _ (show μ 5 m - 1 ≠ μ 0 1 by omega)]
    refine ⟨a1, by omega, a3, ?_⟩
    by_cases q : m = j
    · subst q
      rw [upN_same]
      intro hg0
      rcases hg with h | h
      · exact absurd h hg0
      · subst h; exact ⟨Nat.le_refl _, by rw [Nat.add_sub_cancel, upN_same]⟩
    · rw [upN_ne _ q]
      intro h
      obtain ⟨e1, e2⟩ := a4 h
      exact ⟨by omega, by rw [upN_ne _ (by omega)]; exact e2⟩
  · intro k hk
    rw [m01] at hk
    rw [m8, m5, m6, m9, m10, m0]
    rcases Nat.lt_or_ge k (μ 0 1) with q | q
    · have nk : k ≠ μ 0 1 := by omega
      simp only [upN_ne _ nk]
      obtain ⟨a1, a2, a3, a4, a5, a6, a7⟩ := Ih2 k q
      refine ⟨a1, a2, ?_, a4, a5, a6, a7⟩
      by_cases q2 : μ 8 k = j
      · rw [q2, upN_same]; omega
      · rw [upN_ne _ q2]; exact a3
    · have : k = μ 0 1 := by omega
      subst this
      simp only [upN_same]
      obtain ⟨a1, a2, a3, a4⟩ := Ih1 j hj
      exact ⟨hj, by omega, by omega, fun h => by omega, fun _ => j0, j63, j16⟩
  · intro p hp; rw [s6, m0]; rw [m0] at hp; exact o1 p hp
  · intro p q h1 h2; rw [s6, hah]; rw [m0] at h2; exact o2 p q h1 h2
  · intro P; rw [s6, m0]; exact o3 P
  · rw [s8]; exact up_lt b1 (by omega)
/-- a mail that comes, on both sides -/
theorem IS_come {σ σ' μ μ' : ST} {t b th : Nat} (I : IS σ μ) (hc : μ 0 0 < 60) (hb1 : 1 ≤ b) (hb2 : b < 64) (hst : μ 0 1 < 4000)
    (s1 : σ' 1 0 = σ 1 0 + 1) (s2 : σ' 2 = upN (σ 2) (σ 1 0) t) (s3 : σ' 3 = upN (σ 3) (σ 1 0) th) (s4 : σ' 4 = upN (σ 4) (σ 1 0) b) (s5 : σ' 5 = upN (σ 5) (σ 1 0) 0) (s6 : σ' 6 = pio (upN (σ 2) (σ 1 0) t) t (σ 1 0) (min (σ 1 0) 59) (σ 6)) (s7 : σ' 7 0 = σ 7 0 + 1) (s8 : σ' 8 = upN (σ 8) ((σ 7 0 + 1) % 40) (σ 1 0)) (s9 : σ' 9 = upN (σ 9) ((σ 7 0 + 1) % 40) (σ 4 (σ 1 0))) (s10 : σ' 10 = upN (σ 10) ((σ 7 0 + 1) % 40) (σ 5 (σ 1 0))) (s11 : σ' 11 = upN (σ 11) ((σ 7 0 + 1) % 40) 0)
    (m0 : μ' 0 0 = μ 0 0 + 1) (m01 : μ' 0 1 = μ 0 1 + 1) (m1 : μ' 1 = upN (μ 1) (μ 0 0) t) (m2 : μ' 2 = upN (μ 2) (μ 0 0) b) (m3 : μ' 3 = μ 3) (m4 : μ' 4 = upN (μ 4) (μ 0 0) th) (m5 : μ' 5 = upN (μ 5) (μ 0 0) (μ 0 1 + 1)) (m6 : μ' 6 = μ 6) (m7 : μ' 7 = upN (μ 7) (μ 0 1) 0) (m8 : μ' 8 = upN (μ 8) (μ 0 1) (μ 0 0)) (m9 : μ' 9 = upN (μ 9) (μ 0 1) (μ 2 (μ 0 0))) (m10 : μ' 10 = upN (μ 10) (μ 0 1) (μ 3 (μ 0 0))) (m11 : μ' 11 = upN (μ 11) (μ 0 1) 0) (m12 : μ' 12 = upN (μ 12) (μ 0 1) 0)
    (hbσ : ∀ k i, σ' k i < 20000) (hbμ : ∀ k i, μ' k i < 20000) : IS σ' μ' := by
  obtain ⟨⟨c1, c2, c3⟩, Im, Ir, Ih1, Ih2, ⟨o1, o2, o3⟩, ⟨b1, b2, b3, b4⟩⟩ := I
  rw [c1] at s1 s2 s3 s4 s5 s6 s8 s9 s10
  rw [c3] at s7 s8 s9 s10 s11
  rw [Nat.min_eq_left (show μ 0 0 ≤ 59 by omega)] at s6
  obtain ⟨-, j1, j5, j63, j16⟩ := Im (μ 0 0)
  obtain ⟨j4, j2, j3, j6⟩ := j1 (Nat.le_refl _)
  obtain ⟨pl, p1, p2, p3, p4, p5, p6, p7⟩ := pio_spec (upN (σ 2) (μ 0 0) t) t (μ 0 0) (μ 0 0) (σ 6)
  rw [← s6] at p2 p3 p4 p5
  have tme : ∀ i, i < μ 0 0 → upN (σ 2) (μ 0 0) t (σ 6 i) = μ 1 (σ 6 i) := fun i hi => by
    have h1 := o1 i hi
    rw [upN_ne _ (by omega)]
    exact ((Im (σ 6 i)).1 h1).1
  have m1e : ∀ i, i < μ 0 0 → μ' 1 i = μ 1 i := fun i hi => by rw [m1]; exact upN_ne _ (by omega)
  have m1n : μ' 1 (μ 0 0) = t := by rw [m1]; exact upN_same _ _ _
  refine ⟨⟨by rw [s1, m0], by omega, by rw [s7, m01]⟩, ?_, ?_, ?_, ?_, ⟨?_, ?_, ?_⟩, ⟨?_, ?_, hbσ, hbμ⟩⟩
  · intro i
    obtain ⟨i1, i2, i5, i63, i16⟩ := Im i
    rw [m0, s2, s3, s4, s5, m1, m2, m3, m4, m6]
    by_cases q : i = μ 0 0
    · subst q
      simp only [upN_same]
      exact ⟨fun _ => ⟨trivial, trivial, by rw [if_pos j6], hb1⟩, fun h => by omega, j3.symm, hb2, j16⟩
    · simp only [upN_ne _ q]
      exact ⟨fun h => i1 (by omega), fun h => i2 (by omega), i5, i63, i16⟩
  · intro k hk1' hk2'
    rw [m01] at hk1' hk2'
    rw [s8, s9, s10, s11, m7, m8, m9, m10, m11, m12]
    rcases Nat.lt_or_ge k (μ 0 1) with q | q
    · have ne := mod_ne q hk2'
      have nk : k ≠ μ 0 1 := by omega
      simp only [upN_ne _ ne, upN_ne _ nk]
      exact Ir k q (by omega)
    · have : k = μ 0 1 := by omega
      subst this
      simp only [upN_same]
      exact ⟨trivial, by rw [j4, j2], j5, fun h => by omega, fun _ => j3.symm⟩
  · intro m hm
    rw [m0] at hm
    rw [m5, m01, m8, m6]
    rcases Nat.lt_or_ge m (μ 0 0) with q | q
    · obtain ⟨a1, a2, a3, a4⟩ := Ih1 m q
      rw [upN_ne (μ 5) (show m ≠ μ 0 0 by omega), upN_ne _ (show μ 5 m - 1 ≠ μ 0 1 by omega)]
      refine ⟨a1, by omega, a3, fun h => ?_⟩
      obtain ⟨e1, e2⟩ := a4 h
      exact ⟨by omega, by rw [upN_ne _ (by omega)]; exact e2⟩
    · have : m = μ 0 0 := by omega
      subst this
      rw [upN_same, Nat.add_sub_cancel, upN_same]
      exact ⟨by omega, Nat.le_refl _, rfl, fun h => absurd j6 h⟩
  · intro k hk
    rw [m01] at hk
    rw [m8, m5, m6, m9, m10, m0]
    rcases Nat.lt_or_ge k (μ 0 1) with q | q
    · have nk : k ≠ μ 0 1 := by omega
      simp only [upN_ne _ nk]
      obtain ⟨a1, a2, a3, a4, a5, a6, a7⟩ := Ih2 k q
      rw [upN_ne _ (show μ 8 k ≠ μ 0 0 by omega)]
      exact ⟨by omega, a2, a3, a4, a5, a6, a7⟩
    · have : k = μ 0 1 := by omega
      subst this
      simp only [upN_same]
      exact ⟨by omega, Nat.le_refl _, Or.inl j6, fun _ => j2, fun h => absurd rfl h, j63, j16⟩
  · intro p hp
    rw [m0] at hp ⊢
    rcases Nat.lt_trichotomy p pl with q | q | q
    · rw [p2 p q]; have := o1 p (by omega); omega
    · subst q; rw [p3]; omega
    · rw [p4 p q (by omega)]; have := o1 (p - 1) (by omega); omega
  · intro p q h1 h2
    rw [m0] at h2
    have old : ∀ x y, x < y → y < μ 0 0 → ahd μ' (σ 6 y) (σ 6 x) = true := fun x y hx hy => by
      have := o2 x y hx hy
      rw [ahd_iff] at this ⊢
      rw [m1e _ (o1 x (by omega)), m1e _ (o1 y hy)]
      exact this
    rcases Nat.lt_trichotomy q pl with e | e | e
    · rw [p2 q e, p2 p (by omega)]; exact old p q h1 (by omega)
    · subst e
      rw [p3, p2 p h1, ahd_iff, m1n, m1e _ (o1 p (by omega))]
      have h7 := p7 (by omega)
      rw [tme _ (by omega)] at h7
      rcases Nat.lt_or_ge p (q - 1) with f | f
      · have := o2 p (q - 1) f (by omega)
        rw [ahd_iff] at this
        omega
      · have : p = q - 1 := by omega
        subst this; omega
    · rw [p4 q e (by omega)]
      rcases Nat.lt_trichotomy p pl with f | f | f
      · rw [p2 p f]; exact old p (q - 1) (by omega) (by omega)
      · subst f
        rw [p3, ahd_iff, m1n, m1e _ (o1 (q - 1) (by omega))]
        have h6 := p6 (q - 1) (by omega) (by omega)
        rw [tme _ (by omega)] at h6
        have := o1 (q - 1) (by omega)
        omega
      · rw [p4 p f (by omega)]; exact old (p - 1) (q - 1) (by omega) (by omega)
  · intro P
    rw [m0]
    obtain ⟨r, hr⟩ : ∃ r, μ 0 0 = pl + r := ⟨μ 0 0 - pl, by omega⟩
    have e1 : cnt (fun i => P (σ' 6 i)) (μ 0 0 + 1) = cnt (fun i => P (σ 6 i)) (μ 0 0) + b2n (P (μ 0 0)) := by
      have h1 : cnt (fun i => P (σ' 6 i)) (pl + (1 + r)) = cnt (fun i => P (σ 6 i)) pl + (b2n (P (μ 0 0)) + cnt (fun i => P (σ 6 (pl + i))) r) := by
        rw [cnt_add, cnt_add]
        congr 1
        · exact cnt_congr (fun i hi => by rw [p2 i hi])
        · congr 1
          · show 0 + b2n (P (σ' 6 (pl + 0))) = _
            rw [Nat.zero_add, Nat.add_zero, p3]
          · refine cnt_congr (fun i hi => ?_)
            show P (σ' 6 (pl + (1 + i))) = _
            rw [p4 _ (by omega) (by omega)]
            congr 2
            omega
      have h2 : cnt (fun i => P (σ 6 i)) (pl + r) = cnt (fun i => P (σ 6 i)) pl + cnt (fun i => P (σ 6 (pl + i))) r := cnt_add _ _ _
      have h3 : μ 0 0 + 1 = pl + (1 + r) := by omega
      rw [h3, h1]
      have h4 : cnt (fun i => P (σ 6 i)) (μ 0 0) = cnt (fun i => P (σ 6 i)) (pl + r) := by rw [hr]
      rw [h4, h2]; omega
    rw [e1, o3 P]; rfl
  · rw [s8]; exact up_lt b1 hc
  · rw [s6]; exact pio_lt b2 hc _
end
section
/-! what is read: the class's answers and the reference's -/
theorem mt_z {b c d : Nat} : mt 0 b c d = false := by
  unfold mt
  rw [nI_0, Int32.zero_and, decide_eq_true rfl]; rfl
theorem mt_all {a b : Nat} (ha : a < 64) : mt a b 63 0 = !decide (a = 0) := by
  have e : ∀ c, mt a c 63 0 = !decide (nI a &&& nI 63 = 0) := fun c => by
    unfold mt; rw [nI_0, Int32.and_zero, decide_eq_true (rfl : (0 : Int32) = 0), Bool.and_true]
  rw [e b, ← e 0]
  exact mt_63 ⟨a, ha⟩
theorem mt_ifd {σ μ : ST} (I : IS σ μ) {b k : Nat} (hb : b < 6) (hk : k ≤ 4) (j : Nat) : (j < μ 0 0 → mt (σ 4 j) (σ 5 j) (2 ^ b) (askq k) = ifd μ b k j) ∧ (μ 0 0 ≤ j → mt (σ 4 j) (σ 5 j) (2 ^ b) (askq k) = false) := by
  obtain ⟨i1, i2, i5, i63, i16⟩ := I.2.1 j
  refine ⟨fun h => ?_, fun h => ?_⟩
  · obtain ⟨-, -, i4, -⟩ := i1 h
    rw [i4, i5]
    unfold ifd
    by_cases q : μ 6 j = 0
    · rw [if_pos q, mt_hs i63 i16 hb hk, decide_eq_true q, Bool.true_and]
    · rw [if_neg q, mt_z, decide_eq_false q, Bool.false_and]
  · rw [(i2 h).1, mt_z]
theorem mt_th {σ μ : ST} (I : IS σ μ) (j : Nat) : (j < μ 0 0 → mt (σ 4 j) (σ 5 j) 63 0 = decide (μ 6 j = 0)) ∧ (μ 0 0 ≤ j → mt (σ 4 j) (σ 5 j) 63 0 = false) := by
  obtain ⟨i1, i2, i5, i63, i16⟩ := I.2.1 j
  refine ⟨fun h => ?_, fun h => ?_⟩
  · obtain ⟨-, -, i4, i0⟩ := i1 h
    rw [i4]
    by_cases q : μ 6 j = 0
    · rw [if_pos q, mt_all i63, decide_eq_true q, decide_eq_false (by omega)]; rfl
    · rw [if_neg q, mt_z, decide_eq_false q]
  · rw [(i2 h).1, mt_z]
theorem found_eq {σ μ : ST} (I : IS σ μ) {b k : Nat} (hb : b < 6) (hk : k ≤ 4) : cnt (fun j => mt (σ 4 j) (σ 5 j) (2 ^ b) (askq k)) 60 = cnt (fun m9 => ifd μ b k m9) (μ 0 0) := cnt_ext I.1.2.1 (fun j hj => (mt_ifd I hb hk j).1 hj) (fun j h _ => (mt_ifd I hb hk j).2 h)
theorem bxs_eq {σ μ : ST} (I : IS σ μ) {b : Nat} (hb : b < 6) : cnt (bxs σ b) 60 = cnt (fun m9 => ifd μ b 0 m9) (μ 0 0) := found_eq (k := 0) I hb (by decide)
theorem mails_eq {σ μ : ST} (I : IS σ μ) : cnt (fun j => mt (σ 4 j) (σ 5 j) 63 0) 60 = cnt (fun m9 => decide (μ 6 m9 = 0)) (μ 0 0) := cnt_ext I.1.2.1 (fun j hj => (mt_th I j).1 hj) (fun j h _ => (mt_th I j).2 h)
theorem there_eq {σ μ : ST} (I : IS σ μ) {j : Nat} (hj : j < μ 0 0) : σ 4 j = 0 ↔ μ 6 j ≠ 0 := by
  obtain ⟨-, -, i4, i0⟩ := (I.2.1 j).1 hj
  rw [i4]
  by_cases q : μ 6 j = 0
  · rw [if_pos q]; omega
  · rw [if_neg q]; exact ⟨fun _ => q, fun _ => rfl⟩
theorem thread_eq {σ μ : ST} (I : IS σ μ) (t : Nat) : cnt (fun j => inT σ t j) 60 = cnt (fun m9 => decide (μ 6 m9 = 0) && decide (μ 4 m9 = t)) (μ 0 0) := by
  refine cnt_ext I.1.2.1 (fun j hj => ?_) (fun j h _ => ?_)
  · unfold inT
    rw [((I.2.1 j).1 hj).2.1]
    by_cases q : μ 6 j = 0
    · rw [decide_eq_true q, decide_eq_false (fun z => absurd q ((there_eq I hj).mp z))]; rfl
    · rw [decide_eq_false q, decide_eq_true ((there_eq I hj).mpr q)]; rfl
  · unfold inT
    rw [decide_eq_true ((I.2.1 j).2.1 h).1]; rfl
/-! what was -/
theorem fst_ch (μ : ST) (m t : Nat) : ∀ n, (∃ k, t ≤ k ∧ k < t + n ∧ μ 8 k = m ∧ ∀ i, t ≤ i → i < k → μ 8 i ≠ m) ∨ (∀ i, t ≤ i → i < t + n → μ 8 i ≠ m) := by
  intro n
  induction n with
  | zero => exact Or.inr (fun i h1 h2 => by omega)
  | succ n ih =>
    rcases ih with ⟨k, a, b, c, d⟩ | h
    · exact Or.inl ⟨k, a, by omega, c, d⟩
    · by_cases q : μ 8 (t + n) = m
      · exact Or.inl ⟨t + n, by omega, by omega, q, h⟩
      · refine Or.inr (fun i h1 h2 => ?_)
        rcases Nat.lt_or_ge i (t + n) with z | z
        · exact h i h1 z
        · have : i = t + n := by omega
          subst this; exact q
theorem bk_none {μ : ST} {cc m t : Nat} : ∀ n acc, (∀ i, t ≤ i → i < t + n → μ 8 i ≠ m) → bk μ cc m t n acc = acc := by
  intro n
  induction n with
  | zero => intro acc _; rfl
  | succ n ih =>
    intro acc h
    simp only [bk]
    rw [decide_eq_false (h (t + n) (by omega) (by omega)), cond_false]
    exact ih acc (fun i h1 h2 => h i h1 (by omega))
theorem bk_fst {μ : ST} {cc m t k : Nat} (h1 : t ≤ k) (h2 : μ 8 k = m) (h3 : ∀ i, t ≤ i → i < k → μ 8 i ≠ m) : ∀ n acc, k < t + n → bk μ cc m t n acc = μ cc k := by
  intro n
  induction n with
  | zero => intro acc h; omega
  | succ n ih =>
    intro acc h
    simp only [bk]
    by_cases q : k = t + n
    · subst q
      rw [decide_eq_true h2, cond_true]
      exact bk_none n _ h3
    · exact ih _ (by omega)
theorem slot_eq {σ μ : ST} (I : IS σ μ) {b : Nat} (h1 : b < μ 0 1) (h2 : b < 40) : σ 8 ((σ 7 0 - b) % 40) = μ 8 (μ 0 1 - (b + 1)) ∧ σ 9 ((σ 7 0 - b) % 40) = μ 9 (μ 0 1 - (b + 1)) ∧ σ 10 ((σ 7 0 - b) % 40) = μ 10 (μ 0 1 - (b + 1)) := by
  have e : σ 7 0 - b = μ 0 1 - (b + 1) + 1 := by rw [I.1.2.2]; omega
  rw [e]
  obtain ⟨a1, a2, a3, -⟩ := I.2.2.1 (μ 0 1 - (b + 1)) (by omega) (by omega)
  exact ⟨a1, a2, a3⟩
theorem undp_none {σ μ : ST} (I : IS σ μ) {any al j : Nat} {p : Nat → Bool} : ∀ n, n ≤ μ 0 1 → n ≤ 40 → (∀ i, μ 0 1 - n ≤ i → i < μ 0 1 → μ 8 i ≠ j) → undp σ any al p n j = p j := by
  intro n
  induction n with
  | zero => intro _ _ _; rfl
  | succ b ih =>
    intro h1 h2 h
    obtain ⟨a1, -, -⟩ := slot_eq I (show b < μ 0 1 by omega) (show b < 40 by omega)
    simp only [undp]
    rw [a1, if_neg (fun q => h (μ 0 1 - (b + 1)) (Nat.le_refl _) (by omega) q.symm)]
    exact ih (by omega) (by omega) (fun i q1 q2 => h i (by omega) q2)
theorem undp_fst {σ μ : ST} (I : IS σ μ) {any al j k : Nat} {p : Nat → Bool} (hk : μ 8 k = j) (hs9 : k < μ 0 1) : ∀ n, n ≤ μ 0 1 → n ≤ 40 → μ 0 1 - n ≤ k → (∀ i, μ 0 1 - n ≤ i → i < k → μ 8 i ≠ j) → undp σ any al p n j = mt (μ 9 k) (μ 10 k) any al := by
  intro n
  induction n with
  | zero => intro _ _ h _; omega
  | succ b ih =>
    intro h1 h2 h3 h
    obtain ⟨a1, a2, a3⟩ := slot_eq I (show b < μ 0 1 by omega) (show b < 40 by omega)
    simp only [undp]
    rw [a1, a2, a3]
    by_cases q : k = μ 0 1 - (b + 1)
    · rw [← q, if_pos hk.symm]
    · rw [if_neg (fun z => h (μ 0 1 - (b + 1)) (Nat.le_refl _) (by omega) z.symm)]
      exact ih (by omega) (by omega) (by omega) (fun i q1 q2 => h i (by omega) q2)
theorem hist {σ μ : ST} (I : IS σ μ) {t j : Nat} (ht : t ≤ μ 0 1) (hj : j < μ 0 0) : (∃ k, t ≤ k ∧ k < μ 0 1 ∧ μ 8 k = j ∧ (∀ i, t ≤ i → i < k → μ 8 i ≠ j) ∧ ((wth μ j t = true ∧ 1 ≤ μ 9 k) ∨ (wth μ j t = false ∧ μ 9 k = 0)) ∧ μ 9 k < 64 ∧ μ 10 k < 16) ∨ ((∀ i, t ≤ i → i < μ 0 1 → μ 8 i ≠ j) ∧ wth μ j t = decide (μ 6 j = 0)) := by
  obtain ⟨-, -, -, Ih1, Ih2, -, -⟩ := I
  obtain ⟨a1, a2, a3, a4⟩ := Ih1 j hj
  rcases fst_ch μ j t (μ 0 1 - t) with ⟨k, b1, b2, b3, b4⟩ | h
  · have hk : k < μ 0 1 := by omega
    obtain ⟨-, d2, d3, d4, d5, d6, d7⟩ := Ih2 k hk
    rw [b3] at d2 d3 d4 d5
    refine Or.inl ⟨k, b1, hk, b3, b4, ?_, d6, d7⟩
    by_cases q : μ 5 j = k + 1
    · refine Or.inr ⟨?_, d4 q⟩
      unfold wth
      rw [decide_eq_true (show t < μ 5 j by omega)]; rfl
    · refine Or.inl ⟨?_, d5 q⟩
      have h5 : μ 5 j ≤ t := by
        rcases Nat.lt_or_ge t (μ 5 j) with z | z
        · exact absurd a3 (b4 (μ 5 j - 1) (by omega) (by omega))
        · exact z
      unfold wth
      rw [decide_eq_false (show ¬ t < μ 5 j by omega)]
      rcases d3 with z | z
      · rw [decide_eq_true z]; rfl
      · rw [decide_eq_false (show ¬ μ 6 j ≤ t by omega), Bool.not_false, Bool.or_true]; rfl
  · have h' : ∀ i, t ≤ i → i < μ 0 1 → μ 8 i ≠ j := fun i h1 h2 => h i h1 (by omega)
    refine Or.inr ⟨h', ?_⟩
    have h5 : μ 5 j ≤ t := by
      rcases Nat.lt_or_ge t (μ 5 j) with z | z
      · exact absurd a3 (h' (μ 5 j - 1) (by omega) (by omega))
      · exact z
    unfold wth
    rw [decide_eq_false (show ¬ t < μ 5 j by omega)]
    by_cases q : μ 6 j = 0
    · rw [decide_eq_true q]; rfl
    · obtain ⟨e1, e2⟩ := a4 q
      have h6 : μ 6 j ≤ t := by
        rcases Nat.lt_or_ge t (μ 6 j) with z | z
        · exact absurd e2 (h' (μ 6 j - 1) (by omega) (by omega))
        · exact z
      rw [decide_eq_false q, decide_eq_true h6]; rfl
theorem no_ch {σ μ : ST} (I : IS σ μ) {j i : Nat} (hj : μ 0 0 ≤ j) (hi : i < μ 0 1) : μ 8 i ≠ j := by
  have := (I.2.2.2.2.1 i hi).1
  omega
/-- the mails that were in the result of a query -/
theorem wfd_eq {σ μ : ST} (I : IS σ μ) {b k t : Nat} (hb : b < 6) (hk : k ≤ 4) (ht : t ≤ μ 0 1) (h40 : μ 0 1 - t ≤ 40) (j : Nat) : (j < μ 0 0 → undp σ (2 ^ b) (askq k) (fun j => mt (σ 4 j) (σ 5 j) (2 ^ b) (askq k)) (μ 0 1 - t) j = wfd μ t b k j) ∧ (μ 0 0 ≤ j → undp σ (2 ^ b) (askq k) (fun j => mt (σ 4 j) (σ 5 j) (2 ^ b) (askq k)) (μ 0 1 - t) j = false) := by
  have e : μ 0 1 - (μ 0 1 - t) = t := by omega
  refine ⟨fun hj => ?_, fun hj => ?_⟩
  · unfold wfd
    rcases hist I ht hj with ⟨q, a1, a2, a3, a4, a5, a6, a7⟩ | ⟨a1, a2⟩
    · rw [undp_fst I a3 a2 _ (by omega) h40 (by omega) (by rw [e]; exact a4), bk_fst a1 a3 a4 _ _ (by omega), bk_fst a1 a3 a4 _ _ (by omega)]
      rcases a5 with ⟨z, -⟩ | ⟨z, z0⟩
      · rw [z, Bool.true_and, mt_hs a6 a7 hb hk]
      · rw [z, z0, mt_z]; rfl
    · rw [undp_none I _ (by omega) h40 (by rw [e]; exact a1), bk_none _ _ (fun i h1 h2 => a1 i h1 (by omega)), bk_none _ _ (fun i h1 h2 => a1 i h1 (by omega)), a2]
      exact (mt_ifd I hb hk j).1 hj
  · rw [undp_none I _ (by omega) h40 (fun i _ h2 => no_ch I hj h2)]
    exact (mt_ifd I hb hk j).2 hj
theorem wth_eq {σ μ : ST} (I : IS σ μ) {t : Nat} (ht : t ≤ μ 0 1) (h40 : μ 0 1 - t ≤ 40) (j : Nat) : (j < μ 0 0 → undp σ 63 0 (fun j => mt (σ 4 j) (σ 5 j) 63 0) (μ 0 1 - t) j = wth μ j t) ∧ (μ 0 0 ≤ j → undp σ 63 0 (fun j => mt (σ 4 j) (σ 5 j) 63 0) (μ 0 1 - t) j = false) := by
  have e : μ 0 1 - (μ 0 1 - t) = t := by omega
  refine ⟨fun hj => ?_, fun hj => ?_⟩
  · rcases hist I ht hj with ⟨q, a1, a2, a3, a4, a5, a6, a7⟩ | ⟨a1, a2⟩
    · rw [undp_fst I a3 a2 _ (by omega) h40 (by omega) (by rw [e]; exact a4), mt_all a6]
      rcases a5 with ⟨z, z0⟩ | ⟨z, z0⟩
      · rw [z, decide_eq_false (by omega)]; rfl
      · rw [z, z0]; rfl
    · rw [undp_none I _ (by omega) h40 (by rw [e]; exact a1), a2]
      exact (mt_th I j).1 hj
  · rw [undp_none I _ (by omega) h40 (fun i _ h2 => no_ch I hj h2)]
    exact (mt_th I j).2 hj
theorem min_eq9 {σ μ : ST} (I : IS σ μ) {t : Nat} (h40 : μ 0 1 - t ≤ 40) : min (σ 7 0 - t) 40 = μ 0 1 - t := by rw [I.1.2.2]; exact Nat.min_eq_left h40
theorem rmv_eq {σ μ : ST} (I : IS σ μ) {b k t : Nat} (hb : b < 6) (hk : k ≤ 4) (ht : t ≤ μ 0 1) (h40 : μ 0 1 - t ≤ 40) : bitc (rmv σ t (2 ^ b) (askq k)) = nI (cnt (fun m9 => wfd μ t b k m9 && !ifd μ b k m9) (μ 0 0)) := by
  unfold rmv
  rw [min_eq9 I h40, und_ms I.2.2.2.2.2.2.1, ms_andn, bitc_ms]
  congr 1
  refine cnt_ext I.1.2.1 (fun j hj => ?_) (fun j h _ => ?_)
  · rw [(wfd_eq I hb hk ht h40 j).1 hj, (mt_ifd I hb hk j).1 hj]
  · rw [(wfd_eq I hb hk ht h40 j).2 h, Bool.false_and]
theorem add_eq {σ μ : ST} (I : IS σ μ) {b k t : Nat} (hb : b < 6) (hk : k ≤ 4) (ht : t ≤ μ 0 1) (h40 : μ 0 1 - t ≤ 40) : bitc (add_ σ t (2 ^ b) (askq k)) = nI (cnt (fun m9 => !wfd μ t b k m9 && ifd μ b k m9) (μ 0 0)) := by
  unfold add_
  rw [min_eq9 I h40, und_ms I.2.2.2.2.2.2.1, ms_andn, bitc_ms]
  congr 1
  refine cnt_ext I.1.2.1 (fun j hj => ?_) (fun j h _ => ?_)
  · rw [(wfd_eq I hb hk ht h40 j).1 hj, (mt_ifd I hb hk j).1 hj, Bool.and_comm]
  · rw [(mt_ifd I hb hk j).2 h, Bool.false_and]
theorem exn_iff {p : Nat → Bool} {t : Nat} : ∀ {n : Nat}, exn p t n = true ↔ ∃ k, t ≤ k ∧ k < t + n ∧ p k = true := by
  intro n
  induction n with
  | zero => exact ⟨fun h => absurd h (by simp [exn]), fun ⟨k, a, b, _⟩ => by omega⟩
  | succ n ih =>
    simp only [exn, Bool.or_eq_true, ih]
    constructor
    · rintro (⟨k, a, b, c⟩ | h)
      · exact ⟨k, a, by omega, c⟩
      · exact ⟨t + n, by omega, by omega, h⟩
    · rintro ⟨k, a, b, c⟩
      rcases Nat.lt_or_ge k (t + n) with q | q
      · exact Or.inl ⟨k, a, q, c⟩
      · have : k = t + n := by omega
        subst this; exact Or.inr c
theorem tchp_iff {σ μ : ST} (I : IS σ μ) {j : Nat} : ∀ {n : Nat}, n ≤ μ 0 1 → n ≤ 40 → (tchp σ n j = true ↔ ∃ k, μ 0 1 - n ≤ k ∧ k < μ 0 1 ∧ μ 8 k = j) := by
  intro n
  induction n with
  | zero => intro _ _; exact ⟨fun h => absurd h (by simp [tchp]), fun ⟨k, a, b, _⟩ => by omega⟩
  | succ b ih =>
    intro h1 h2
    obtain ⟨a1, -, -⟩ := slot_eq I (show b < μ 0 1 by omega) (show b < 40 by omega)
    simp only [tchp]
    rw [a1]
    by_cases q : j = μ 8 (μ 0 1 - (b + 1))
    · rw [if_pos q]
      exact ⟨fun _ => ⟨_, Nat.le_refl _, by omega, q.symm⟩, fun _ => rfl⟩
    · rw [if_neg q, ih (by omega) (by omega)]
      constructor
      · rintro ⟨k, a, c, d⟩; exact ⟨k, by omega, c, d⟩
      · rintro ⟨k, a, c, d⟩
        refine ⟨k, ?_, c, d⟩
        rcases Nat.lt_or_ge k (μ 0 1 - b) with z | z
        · have : k = μ 0 1 - (b + 1) := by omega
          subst this; exact absurd d.symm q
        · exact z
theorem tch_eq {σ μ : ST} (I : IS σ μ) {t j : Nat} (ht : t ≤ μ 0 1) (h40 : μ 0 1 - t ≤ 40) : tchp σ (μ 0 1 - t) j = ich μ j t := by
  rw [Bool.eq_iff_iff, tchp_iff I (by omega) h40]
  unfold ich
  rw [exn_iff]
  constructor
  · rintro ⟨k, a, c, d⟩; exact ⟨k, by omega, by omega, decide_eq_true d⟩
  · rintro ⟨k, a, c, d⟩; exact ⟨k, by omega, by omega, of_decide_eq_true d⟩
theorem chs_eq {σ μ : ST} (I : IS σ μ) {t way : Nat} (ht : t ≤ μ 0 1) (h40 : μ 0 1 - t ≤ 40) : ∃ P : Nat → Bool, chs σ t way = ms P 60 ∧ (∀ j, j < μ 0 0 → P j = chm μ t way j) ∧ (∀ j, μ 0 0 ≤ j → P j = false) := by
  simp only [chs, chm]
  rw [min_eq9 I h40, und_ms I.2.2.2.2.2.2.1, tch_ms I.2.2.2.2.2.2.1]
  by_cases w0 : way = 0
  · simp only [if_pos w0]
    refine ⟨_, ms_andn _ _, fun j hj => ?_, fun j hj => ?_⟩
    · show (_ && !_) = _
      rw [(mt_th I j).1 hj, (wth_eq I ht h40 j).1 hj]
    · show (_ && !_) = _
      rw [(mt_th I j).2 hj]; rfl
  · simp only [if_neg w0]
    by_cases w2 : way = 2
    · simp only [if_pos w2]
      refine ⟨_, ms_andn _ _, fun j hj => ?_, fun j hj => ?_⟩
      · show (_ && !_) = _
        rw [(mt_th I j).1 hj, (wth_eq I ht h40 j).1 hj]
      · show (_ && !_) = _
        rw [(wth_eq I ht h40 j).2 hj]; rfl
    · simp only [if_neg w2]
      rw [ms_and, ms_and]
      refine ⟨_, rfl, fun j hj => ?_, fun j hj => ?_⟩
      · show ((_ && _) && _) = _
        rw [(mt_th I j).1 hj, (wth_eq I ht h40 j).1 hj, tch_eq I ht h40]
        cases decide (μ 6 j = 0) <;> cases wth μ j t <;> rfl
      · show ((_ && _) && _) = _
        rw [(mt_th I j).2 hj]; rfl
theorem changed_eq {σ μ : ST} (I : IS σ μ) {t way : Nat} (ht : t ≤ μ 0 1) (h40 : μ 0 1 - t ≤ 40) : bitc (chs σ t way) = nI (cnt (fun m9 => chm μ t way m9) (μ 0 0)) := by
  obtain ⟨P, e, h1, h2⟩ := chs_eq (way := way) I ht h40
  rw [e, bitc_ms, cnt_ext I.1.2.1 h1 (fun j h _ => h2 j h)]
theorem chAt_eq {σ μ : ST} (I : IS σ μ) {t way : Nat} (ht : t ≤ μ 0 1) (h40 : μ 0 1 - t ≤ 40) : (∀ ix, iw ix (nI 0) (oi (cnt (fun m9 => chm μ t way m9) (μ 0 0))) = false → low (chs σ t way) ix 60 0 0 = 0) ∧ (∀ i, i < cnt (fun m9 => chm μ t way m9) (μ 0 0) → ∃ mm, mm < μ 0 0 ∧ chm μ t way mm = true ∧ cnt (fun m9 => chm μ t way m9) mm = i ∧ low (chs σ t way) (nI i) 60 0 0 = mm + 1) := by
  obtain ⟨P, e, h1, h2⟩ := chs_eq (way := way) I ht h40
  have h60 := I.1.2.1
  have hC : cnt P 60 = cnt (fun m9 => chm μ t way m9) (μ 0 0) := cnt_ext h60 h1 (fun j h _ => h2 j h)
  rw [e, ← hC]
  have hle := cnt_le P 60
  refine ⟨fun ix h => ?_, fun i hi => ?_⟩
  · rcases low_spec P ix 60 0 (by decide) with ⟨mm, a, b, c, d, f⟩ | ⟨a, -⟩
    · rw [iw_at d (cnt_lt_of b c) (by omega)] at h; exact absurd h (by decide)
    · exact a
  · rcases low_spec P (nI i) 60 0 (by decide) with ⟨mm, a, b, c, d, f⟩ | ⟨-, a⟩
    · have hmm : mm < μ 0 0 := by
        rcases Nat.lt_or_ge mm (μ 0 0) with z | z
        · exact z
        · rw [h2 mm z] at c; exact absurd c (by decide)
      have hb9 := cnt_le P mm
      refine ⟨mm, hmm, by rw [← h1 mm hmm]; exact c, ?_, f⟩
      rw [← (nI_eq (by omega) (by omega)).mp d]
      exact (cnt_congr (fun j hj => h1 j (by omega))).symm
    · obtain ⟨m, b, c, d⟩ := cnt_hit hi
      exact absurd (by rw [d]) (a m (Nat.zero_le _) b c)
/-! the order -/
theorem ord_on {σ μ : ST} (I : IS σ μ) {m : Nat} (hm : m < μ 0 0) : ∃ p, p < μ 0 0 ∧ σ 6 p = m := by
  obtain ⟨-, -, -, -, -, ⟨o1, o2, o3⟩, -⟩ := I
  have h := o3 (fun j => decide (j = m))
  have h2 : 0 < cnt (fun j => decide (j = m)) (μ 0 0) := by
    have := cnt_lt_of (p := fun j => decide (j = m)) hm (decide_eq_true rfl)
    omega
  rw [← h] at h2
  obtain ⟨p, a, b, -⟩ := cnt_hit h2
  exact ⟨p, a, of_decide_eq_true b⟩
theorem ord_rnk {σ μ : ST} (I : IS σ μ) {b k p : Nat} (hp : p < μ 0 0) : rnk μ b k (σ 6 p) (μ 0 0) = cnt (fun i => ifd μ b k (σ 6 i)) p := by
  obtain ⟨-, -, -, -, -, ⟨o1, o2, o3⟩, -⟩ := I
  have h := o3 (fun o => ifd μ b k o && ahd μ (σ 6 p) o)
  show cnt (fun o => ifd μ b k o && ahd μ (σ 6 p) o) (μ 0 0) = _
  rw [← h]
  refine cnt_ext (Nat.le_of_lt hp) (fun i hi => ?_) (fun i h1 h2 => ?_)
  · rw [o2 i p hi hp, Bool.and_true]
  · have : ahd μ (σ 6 p) (σ 6 i) = false := by
      rcases Nat.lt_or_ge p i with q | q
      · cases z : ahd μ (σ 6 p) (σ 6 i)
        · rfl
        · have := ahd_tr z (o2 p i q h2)
          rw [ahd_ir] at this; exact absurd this (by decide)
      · have : i = p := by omega
        subst this; exact ahd_ir
    rw [this, Bool.and_false]
theorem fo_or {μ : ST} {b w ix : Nat} : ∀ n m, fo μ b w ix n m = 0 ∨ ∃ m', m ≤ m' ∧ m' < m + n ∧ ifd μ b w m' = true ∧ rnk μ b w m' (μ 0 0) = ix ∧ fo μ b w ix n m = m' + 1 := by
  intro n
  induction n with
  | zero => intro m; exact Or.inl rfl
  | succ n ih =>
    intro m
    simp only [fo]
    cases hc : (ifd μ b w m && decide (rnk μ b w m (μ 0 0) = ix))
    · rcases ih (m + 1) with h | ⟨m', a, c, d, e, f⟩
      · exact Or.inl h
      · exact Or.inr ⟨m', by omega, by omega, d, e, f⟩
    · simp only [Bool.and_eq_true, decide_eq_true_eq] at hc
      exact Or.inr ⟨m, Nat.le_refl _, by omega, hc.1, hc.2, rfl⟩
theorem lat_eq {σ μ : ST} (I : IS σ μ) {b k : Nat} (hb : b < 6) (hk : k ≤ 4) : (∀ ix, iw ix (nI 0) (oi (cnt (fun m9 => ifd μ b k m9) (μ 0 0))) = false → lat σ (ms (fun j => mt (σ 4 j) (σ 5 j) (2 ^ b) (askq k)) 60) ix (σ 1 0) 0 0 = 0) ∧ (∀ i, i < cnt (fun m9 => ifd μ b k m9) (μ 0 0) → ∃ m, m < μ 0 0 ∧ rnk μ b k m (μ 0 0) = i ∧ fo μ b k i (μ 0 0) 0 = m + 1 ∧ lat σ (ms (fun j => mt (σ 4 j) (σ 5 j) (2 ^ b) (askq k)) 60) (nI i) (σ 1 0) 0 0 = m + 1) := by
  have h60 := I.1.2.1
  obtain ⟨o1, o2, o3⟩ := I.2.2.2.2.2.1
  have b2 := I.2.2.2.2.2.2.2.1
  generalize hP : (fun j => mt (σ 4 j) (σ 5 j) (2 ^ b) (askq k)) = P
  have hPi : ∀ j, j < μ 0 0 → P j = ifd μ b k j := fun j hj => by rw [← hP]; exact (mt_ifd I hb hk j).1 hj
  have hcg : ∀ q, q ≤ μ 0 0 → cnt (fun i => P (σ 6 i)) q = cnt (fun i => ifd μ b k (σ 6 i)) q := fun q hq => cnt_congr (fun i hi => hPi _ (o1 i (by omega)))
  have hC : cnt (fun i => ifd μ b k (σ 6 i)) (μ 0 0) = cnt (fun m9 => ifd μ b k m9) (μ 0 0) := o3 (fun m9 => ifd μ b k m9)
  rw [I.1.1]
  have hle := cnt_le (fun m9 => ifd μ b k m9) (μ 0 0)
  refine ⟨fun ix h => ?_, fun i hi => ?_⟩
  · rcases lat_spec P ix b2 (μ 0 0) (μ 0 0) 0 (Nat.zero_add _) with ⟨q, a, c, d, e, f⟩ | ⟨a, -⟩
    · rw [hPi _ (o1 q c)] at d
      rw [hcg q (by omega)] at e
      rw [iw_at e (by rw [← hC]; exact cnt_lt_of (p := fun i => ifd μ b k (σ 6 i)) c d) (by omega)] at h; exact absurd h (by decide)
    · exact a
  · rcases lat_spec P (nI i) b2 (μ 0 0) (μ 0 0) 0 (Nat.zero_add _) with ⟨q, a, c, d, e, f⟩ | ⟨-, a⟩
    · have hq := o1 q c
      rw [hPi _ hq] at d
      rw [hcg q (by omega)] at e
      have hb9 := cnt_le (fun i => ifd μ b k (σ 6 i)) q
      have hr : rnk μ b k (σ 6 q) (μ 0 0) = i := by rw [ord_rnk I c]; exact (nI_eq (by omega) (by omega)).mp e
      refine ⟨σ 6 q, hq, hr, ?_, f⟩
      rcases fo_or (μ := μ) (b := b) (w := k) (ix := i) (μ 0 0) 0 with h | ⟨m', -, c2, d2, e2, f2⟩
      · exact absurd h (fo_ne hi)
      · obtain ⟨q2, g1, rfl⟩ := ord_on I (show m' < μ 0 0 by omega)
        rw [ord_rnk I g1] at e2
        rw [ord_rnk I c] at hr
        rw [cnt_inj (p := fun i => ifd μ b k (σ 6 i)) d d2 (by rw [hr, e2])]
        exact f2
    · rw [← hC] at hi
      obtain ⟨q, c, d, e⟩ := cnt_hit hi
      exact absurd (by rw [hcg q (by omega), e]) (a q (Nat.zero_le _) c (by rw [hPi _ (o1 q c)]; exact d))
/-! pages -/
theorem pgs_iff {σ μ : ST} (I : IS σ μ) {st j : Nat} (hst : st ≤ μ 0 1) (h40 : μ 0 1 - st ≤ 40) : ∀ {a : Nat}, st + a ≤ μ 0 1 → (pgsp σ st a j = true ↔ ∃ k, st ≤ k ∧ k < st + a ∧ μ 8 k = j) := by
  intro a
  induction a with
  | zero => intro _; exact ⟨fun h => absurd h (by simp [pgsp]), fun ⟨k, a, b, _⟩ => by omega⟩
  | succ a ih =>
    intro h
    have a1 := (I.2.2.1 (st + a) (by omega) (by omega)).1
    simp only [pgsp]
    rw [show st + 1 + a = st + a + 1 by omega, a1]
    by_cases q : j = μ 8 (st + a)
    · rw [if_pos q]
      exact ⟨fun _ => ⟨st + a, by omega, by omega, q.symm⟩, fun _ => rfl⟩
    · rw [if_neg q, ih (by omega)]
      constructor
      · rintro ⟨k, b, c, d⟩; exact ⟨k, b, by omega, d⟩
      · rintro ⟨k, b, c, d⟩
        refine ⟨k, b, ?_, d⟩
        rcases Nat.lt_or_ge k (st + a) with z | z
        · exact z
        · have : k = st + a := by omega
          subst this; exact absurd d.symm q
theorem page_eq {σ μ : ST} (I : IS σ μ) {st pl : Nat} (hst : st ≤ μ 0 1) (h40 : μ 0 1 - st ≤ 40) (hpl : pl ≤ 20) : ∀ n a left, st + a + n = μ 0 1 → cnt (pgsp σ st a) 60 + left = pl → pge σ st pl n a = mpg μ st n (st + a) left := by
  intro n
  induction n with
  | zero => intro a left h _; show σ 7 0 = st + a; rw [I.1.2.2]; omega
  | succ n ih =>
    intro a left h hl
    have a1 := (I.2.2.1 (st + a) (by omega) (by omega)).1
    have hm : μ 8 (st + a) < 60 := by
      have := (I.2.2.2.2.1 (st + a) (by omega)).1
      have := I.1.2.1
      omega
    have hnw : pgsp σ st a (μ 8 (st + a)) = !mnw μ st (st + a) := by
      unfold mnw
      rw [Bool.not_not, Bool.eq_iff_iff, pgs_iff I hst h40 (by omega), exn_iff]
      constructor
      · rintro ⟨k, b, c, d⟩; exact ⟨k, b, by omega, decide_eq_true d⟩
      · rintro ⟨k, b, c, d⟩; exact ⟨k, b, by omega, of_decide_eq_true d⟩
    have hle := cnt_le (pgsp σ st a) 60
    have hcc : pgc σ st pl a = (mnw μ st (st + a) && decide (left = 0)) := by
      unfold pgc
      rw [show st + 1 + a = st + a + 1 by omega, a1, pgs_ms I.2.2.2.2.2.2.1, hl_ms _ hm, bitc_ms, hnw, Bool.not_not]
      congr 1
      by_cases q : left = 0
      · rw [decide_eq_true q, decide_eq_false (fun z => absurd ((nI_ltI (by omega) (by omega)).mp z) (by omega))]; rfl
      · rw [decide_eq_false q, decide_eq_true ((nI_ltI (by omega) (by omega)).mpr (by omega))]; rfl
    simp only [pge, mpg]
    rw [hcc]
    cases hw : mnw μ st (st + a)
    · rw [Bool.false_and, cond_false, cond_false]
      refine ih (a + 1) _ (by omega) ?_
      rw [hw] at hnw
      have e : ∀ j, j < 60 → pgsp σ st (a + 1) j = pgsp σ st a j := fun j _ => by
        simp only [pgsp]
        rw [show st + 1 + a = st + a + 1 by omega, a1]
        by_cases q : j = μ 8 (st + a)
        · rw [if_pos q, q, hnw]; rfl
        · rw [if_neg q]
      rw [cnt_congr e]
      exact hl
    · rw [Bool.true_and]
      by_cases q : left = 0
      · rw [decide_eq_true q, cond_true, cond_true]
      · rw [decide_eq_false q, cond_false, cond_false]
        refine ih (a + 1) _ (by omega) ?_
        rw [hw] at hnw
        have e : cnt (pgsp σ st (a + 1)) 60 = cnt (pgsp σ st a) 60 + 1 := by
          have h1 := cnt_more (p := pgsp σ st a) (m := μ 8 (st + a)) (by rw [hnw]; rfl) hm
          rw [← h1]
          refine cnt_congr (fun j _ => ?_)
          simp only [pgsp]
          rw [show st + 1 + a = st + a + 1 by omega, a1]
        rw [e]
        show _ + 1 + (left - 1) = pl
        omega
end
section
/-! a sync -/
theorem su_ne {S : ST} {k j : Nat} {f : Nat → Nat} (h : j ≠ k) : su S k f j = S j := by
  unfold su
  cases h2 : Nat.beq j k
  · rfl
  · exact absurd (Nat.eq_of_beq_eq_true h2) h
theorem sv_ne {S : ST} {k i v j : Nat} (h : j ≠ k) : sv S k i v j = S j := su_ne h
theorem chg_b {σ : ST} {j b w : Nat} (hB : ∀ k i, σ k i < 20000) (h7 : σ 7 0 < 4000) (hj : j < 20000) (hb : b < 20000) (hw : w < 20000) : ∀ k i, chg σ j b w k i < 20000 :=
  su_lt (su_lt (kp_lt hB (by omega) hj (hB 4 j) (hB 5 j) hw) (up_lt (hB 4) hb)) (up_lt (hB 5) hw)
theorem nts_b {μ : ST} {its m wd w : Nat} (hB : ∀ k i, μ k i < 20000) (h7 : μ 0 1 < 4000) (h1 : its < 20000) (h2 : m < 20000) (h3 : wd < 20000) (h4 : w < 20000) : ∀ k i, nts μ its m wd w k i < 20000 :=
  sv_lt (su_lt (su_lt (su_lt (su_lt (su_lt (su_lt hB (up_lt (hB 7) h1)) (up_lt (hB 8) h2)) (up_lt (hB 9) (hB 2 m))) (up_lt (hB 10) (hB 3 m))) (up_lt (hB 11) h3)) (up_lt (hB 12) h4)) (by omega)
/-- the server's part rests on these rows alone -/
theorem IS_fr {σ μ μ' : ST} (I : IS σ μ) (h0 : μ' 0 0 = μ 0 0) (h1 : μ' 0 1 = μ 0 1) (hr : ∀ r, 1 ≤ r → r ≤ 12 → μ' r = μ r) (hb : ∀ k i, μ' k i < 20000) : IS σ μ' := by
  have e1 := hr 1 (by decide) (by decide)
  have e2 := hr 2 (by decide) (by decide)
  have e3 := hr 3 (by decide) (by decide)
  have e4 := hr 4 (by decide) (by decide)
  have e5 := hr 5 (by decide) (by decide)
  have e6 := hr 6 (by decide) (by decide)
  have e7 := hr 7 (by decide) (by decide)
  have e8 := hr 8 (by decide) (by decide)
  have e9 := hr 9 (by decide) (by decide)
  have e10 := hr 10 (by decide) (by decide)
  have e11 := hr 11 (by decide) (by decide)
  have e12 := hr 12 (by decide) (by decide)
  have ea : ahd μ' = ahd μ := by funext m o; unfold ahd; rw [e1]
  obtain ⟨Ic, Im, Ir, Ih1, Ih2, Io, b1, b2, b3, b4⟩ := I
  unfold IS I_c I_m I_r I_h1 I_h2 I_o I_b at *
  simp only [h0, h1, e1, e2, e3, e4, e5, e6, e7, e8, e9, e10, e11, e12, ea]
  exact ⟨Ic, Im, Ir, Ih1, Ih2, Io, b1, b2, b3, hb⟩
theorem IS_th {σ μ : ST} {v : Nat} (I : IS σ μ) (hv : v < 20000) : IS σ (sv μ 0 2 v) := IS_fr I rfl rfl (fun r h _ => sv_ne (by omega)) (sv_lt I.2.2.2.2.2.2.2.2.2 hv)
theorem IS_flag {σ μ : ST} {m k w : Nat} (I : IS σ μ) (hm : m < μ 0 0) (h6 : μ 6 m = 0) (hk : k < 4) (hw : w < 2) (hst : μ 0 1 < 4000) : IS (sk σ m k w) (flw μ m k w) := by
  have h5 : σ 5 m = μ 3 m := (I.2.1 m).2.2.1
  have h16 : μ 3 m < 16 := (I.2.1 m).2.2.2.2
  have h63 : μ 2 m < 64 := (I.2.1 m).2.2.2.1
  obtain ⟨-, -, h4, h1⟩ := (I.2.1 m).1 hm
  rw [if_pos h6] at h4
  have b3 := I.2.2.2.2.2.2.2.2.1
  have b4 := I.2.2.2.2.2.2.2.2.2
  have h60 := I.1.2.1
  unfold sk flw
  rw [h5, show decide (μ 3 m = wn (μ 3 m) k (nb w)) = decide (hs (μ 3 m) k = nb w) from wn_hs ⟨μ 3 m, h16⟩ ⟨k, hk⟩ (nb w)]
  by_cases q : hs (μ 3 m) k = nb w
  · rw [decide_eq_true q]; exact I
  · rw [decide_eq_false q]
    have hx : wn (μ 3 m) k (nb w) = μ 3 m ^^^ 2 ^ k := wn_xor ⟨μ 3 m, h16⟩ ⟨k, hk⟩ (nb w) q
    have hl : wn (μ 3 m) k (nb w) < 16 := wn_lt h16 hk _
    refine IS_step (j := m) (its := 2) (wd := k + 1) (ws := w) (b := μ 2 m) (w := wn (μ 3 m) k (nb w)) (g := 0) I hm h6 h1 h63 hl (Or.inl rfl) hst (by decide) (by omega) (by omega) (fun _ => ⟨by omega, by omega, hw, q, rfl⟩) (fun z => absurd rfl z)
      rfl rfl rfl ?_ rfl rfl rfl rfl rfl rfl rfl rfl rfl rfl ?_ ?_ rfl rfl ?_ rfl rfl rfl rfl rfl rfl (chg_b b3 (by rw [I.1.2.2]; exact hst) (by omega) (b3 _ _) (by omega)) ?_
    · show upN (σ 4) m (σ 4 m) = _
      rw [h4]; rfl
    · exact (upN_self (μ 2) m).symm
    · show upN (μ 3) m (μ 3 m ^^^ 2 ^ k) = _
      rw [hx]
    · show μ 6 = upN (μ 6) m 0
      rw [← h6]; exact (upN_self (μ 6) m).symm
    · exact su_lt (nts_b b4 hst (by decide) (by omega) (by omega) (by omega)) (up_lt (b4 3) (by rw [← hx]; omega))
/-! conflicts -/
theorem cf_x1 : ∀ x : Fin 16, ∀ k' k : Fin 4, ∀ b : Bool, hs x.val k'.val ≠ b → hl64 ((nI x.val ^^^ nI (wn x.val k'.val b)).toInt64) k.val = decide (k'.val = k.val) := by decide +kernel
theorem cf_x2 : ∀ x : Fin 16, ∀ k : Fin 4, hl64 ((nI x.val ^^^ nI x.val).toInt64) k.val = false := by decide +kernel
theorem cf_x3 : ∀ x : Fin 16, ∀ k : Fin 4, ∀ b : Bool, hl64 ((nI (wn x.val k.val b)).toInt64) k.val = b := by decide +kernel
theorem nb_ne {a b : Nat} (ha : a < 2) (hb : b < 2) : (nb a != nb b) = !decide (a = b) := by
  rcases (show a = 0 ∨ a = 1 by omega) with rfl | rfl <;> rcases (show b = 0 ∨ b = 1 by omega) with rfl | rfl <;> rfl
theorem ctr_iso {σ μ : ST} (I : IS σ μ) {m k w t : Nat} (hk : k < 4) (hw : w < 2) (ht : t ≤ μ 0 1) (h40 : μ 0 1 - t ≤ 40) : ∀ n b, b + n = μ 0 1 - t → ctr σ m k w n b = iso μ m k w t n := by
  intro n
  induction n with
  | zero => intro b _; rfl
  | succ n ih =>
    intro b hb
    have e : σ 7 0 - b = t + n + 1 := by rw [I.1.2.2]; omega
    obtain ⟨a1, a2, a3, a4, a5⟩ := I.2.2.1 (t + n) (by omega) (by omega)
    have h16 : μ 10 (t + n) < 16 := (I.2.2.2.2.1 (t + n) (by omega)).2.2.2.2.2.2
    simp only [ctr, iso]
    rw [ih (b + 1) (by omega)]
    unfold ctc
    rw [e, a1, a3]
    by_cases q : μ 7 (t + n) = 2
    · obtain ⟨c1, c2, c3, c4, c5⟩ := a4 q
      have x1 : hl64 ((nI (μ 10 (t + n)) ^^^ nI (wn (μ 10 (t + n)) (μ 11 (t + n) - 1) (nb (μ 12 (t + n))))).toInt64) k = decide (μ 11 (t + n) - 1 = k) := cf_x1 ⟨_, h16⟩ ⟨_, by omega⟩ ⟨k, hk⟩ _ c4
      rw [c5, x1, decide_eq_true q, Bool.true_and]
      have e2 : decide (μ 11 (t + n) - 1 = k) = decide (μ 11 (t + n) = k + 1) := by
        by_cases z : μ 11 (t + n) = k + 1
        · rw [decide_eq_true z, decide_eq_true (by omega)]
        · rw [decide_eq_false z, decide_eq_false (by omega)]
      rw [e2]
      by_cases z : μ 11 (t + n) = k + 1
      · have x3 : hl64 ((nI (wn (μ 10 (t + n)) (μ 11 (t + n) - 1) (nb (μ 12 (t + n))))).toInt64) k = nb (μ 12 (t + n)) := by
          rw [show μ 11 (t + n) - 1 = k by omega]
          exact cf_x3 ⟨_, h16⟩ ⟨k, hk⟩ _
        rw [x3, nb_ne c3 hw]
      · rw [decide_eq_false z, Bool.and_false]; rfl
    · have x2 : hl64 ((nI (μ 10 (t + n)) ^^^ nI (μ 10 (t + n))).toInt64) k = false := cf_x2 ⟨_, h16⟩ ⟨k, hk⟩
      rw [a5 q, x2, decide_eq_false q, Bool.false_and, Bool.and_false]; rfl
theorem cf_eq {σ κ μ : ST} (I : IS σ μ) {m k w t : Nat} (hm : m < μ 0 0) (hk : k < 4) (hw : w < 2) (ht : t ≤ μ 0 1) (h2 : κ 0 2 = t) : icf σ κ m k w = icm μ t (μ 0 1) (decide (μ 0 1 - t ≤ 40)) m k w := by
  unfold icf icm
  rw [h2, I.1.2.2, Bool.not_not]
  have e : decide (σ 4 m = 0) = !decide (μ 6 m = 0) := by
    by_cases q : μ 6 m = 0
    · rw [decide_eq_true q, decide_eq_false (fun z => absurd q ((there_eq I hm).mp z))]; rfl
    · rw [decide_eq_false q, decide_eq_true ((there_eq I hm).mpr q)]; rfl
  rw [e]
  by_cases h40 : μ 0 1 - t ≤ 40
  · rw [decide_eq_true h40, Nat.min_eq_left h40, ctr_iso I hk hw ht h40 _ 0 (Nat.zero_add _)]
  · rw [decide_eq_false h40, Bool.false_and, Bool.false_and]
/-! the class: flags left out, the others replayed -/
def cfl (σ κ : ST) (i : Nat) : Bool := icf σ κ (κ 3 i) (κ 4 i) (κ 5 i)
def rkf (σ κ : ST) : Nat → ST
  | 0 => σ
  | i + 1 => cond (cfl σ κ i) (rkf σ κ i) (sk (rkf σ κ i) (κ 3 i) (κ 4 i) (κ 5 i))
theorem rpl_congr {σ κ κ' : ST} : ∀ n, (∀ j, j < n → κ 3 j = κ' 3 j ∧ κ 4 j = κ' 4 j ∧ κ 5 j = κ' 5 j) → rpl σ κ n = rpl σ κ' n := by
  intro n
  induction n with
  | zero => intro _; rfl
  | succ n ih =>
    intro h
    obtain ⟨a, b, c⟩ := h n (Nat.lt_succ_self n)
    simp only [rpl]
    rw [ih (fun j hj => h j (Nat.lt_succ_of_lt hj)), a, b, c]
theorem loc_spec (σ κ : ST) : ∀ i, loc σ κ i 0 2 = κ 0 2 ∧ loc σ κ i 0 5 + cnt (cfl σ κ) i = i ∧ (∀ j, i ≤ j → loc σ κ i 3 j = κ 3 j ∧ loc σ κ i 4 j = κ 4 j ∧ loc σ κ i 5 j = κ 5 j) ∧ rpl σ (loc σ κ i) (loc σ κ i 0 5) = rkf σ κ i ∧ (loc σ κ i 0 0 = κ 0 0 ∧ loc σ κ i 0 1 = κ 0 1 ∧ loc σ κ i 0 3 = κ 0 3 ∧ loc σ κ i 0 4 = κ 0 4) ∧ loc σ κ i 1 = κ 1 ∧ loc σ κ i 2 = κ 2 := by
  intro i
  induction i with
  | zero => exact ⟨rfl, rfl, fun j _ => ⟨rfl, rfl, rfl⟩, rfl, ⟨rfl, rfl, rfl, rfl⟩, rfl, rfl⟩
  | succ i ih =>
    obtain ⟨a1, a2, a3, a4, ⟨a5, a6, a7, a8⟩, a9, a10⟩ := ih
    obtain ⟨c1, c2, c3⟩ := a3 i (Nat.le_refl _)
    have ec : icf σ (loc σ κ i) (loc σ κ i 3 i) (loc σ κ i 4 i) (loc σ κ i 5 i) = cfl σ κ i := by
      rw [c1, c2, c3]; unfold cfl icf; rw [a1]
    simp only [loc, rkf]
    rw [ec, c1, c2, c3]
    cases hc : cfl σ κ i
    · simp only [cond_false]
      generalize hX : loc σ κ i = X at *
      refine ⟨a1, ?_, fun j hj => ?_, ?_, ⟨a5, a6, a7, a8⟩, a9, a10⟩
      · rw [← cnt_f hc]
        show X 0 5 + 1 + _ = _
        omega
      · obtain ⟨d1, d2, d3⟩ := a3 j (by omega)
        have hne : j ≠ X 0 5 := by omega
        exact ⟨(upN_ne (X 3) hne).trans d1, (upN_ne (X 4) hne).trans d2, (upN_ne (X 5) hne).trans d3⟩
      · show sk (rpl σ (lst X (κ 3 i) (κ 4 i) (κ 5 i)) (X 0 5)) (upN (X 3) (X 0 5) (κ 3 i) (X 0 5)) (upN (X 4) (X 0 5) (κ 4 i) (X 0 5)) (upN (X 5) (X 0 5) (κ 5 i) (X 0 5)) = _
        have hcg : rpl σ (lst X (κ 3 i) (κ 4 i) (κ 5 i)) (X 0 5) = rpl σ X (X 0 5) := rpl_congr (X 0 5) (fun j hj => ⟨upN_ne (X 3) (Nat.ne_of_lt hj), upN_ne (X 4) (Nat.ne_of_lt hj), upN_ne (X 5) (Nat.ne_of_lt hj)⟩)
        rw [upN_same, upN_same, upN_same, hcg, a4]
    · simp only [cond_true]
      refine ⟨a1, ?_, fun j hj => a3 j (by omega), a4, ⟨a5, a6, a7, a8⟩, a9, a10⟩
      rw [← cnt_t hc]; omega
/-! the reference: flag by flag -/
def SyQ (σ κ μ : ST) (i : Nat) (ν : ST) (c : Nat) : Prop := IS (rkf σ κ i) ν ∧ ν 0 0 = μ 0 0 ∧ ν 0 2 = 0 ∧ ν 6 = μ 6 ∧ (∀ r, 13 ≤ r → ν r = μ r) ∧ (∀ k, k < μ 0 1 → ν 7 k = μ 7 k ∧ ν 8 k = μ 8 k ∧ ν 11 k = μ 11 k ∧ ν 12 k = μ 12 k) ∧ μ 0 1 ≤ ν 0 1 ∧ ν 0 1 + c ≤ μ 0 1 + i ∧ c = cnt (cfl σ κ) i
theorem iso_eq {μ ν : ST} {m wd w t : Nat} : ∀ n, (∀ k, k < t + n → ν 7 k = μ 7 k ∧ ν 8 k = μ 8 k ∧ ν 11 k = μ 11 k ∧ ν 12 k = μ 12 k) → iso ν m wd w t n = iso μ m wd w t n := by
  intro n
  induction n with
  | zero => intro _; rfl
  | succ n ih =>
    intro h
    obtain ⟨a, b, c, d⟩ := h (t + n) (by omega)
    simp only [iso]
    rw [a, b, c, d, ih (fun k hk => h k (by omega))]
theorem flw_hi {μ : ST} {m k w r : Nat} (hr : 13 ≤ r) : flw μ m k w r = μ r := by
  refine flw_c ?_
  unfold fls nts
  rw [su_ne (by omega), sv_ne (by omega), su_ne (by omega), su_ne (by omega), su_ne (by omega), su_ne (by omega), su_ne (by omega), su_ne (by omega)]
theorem flw_old {μ : ST} {m k w q : Nat} (hq : q < μ 0 1) : flw μ m k w 7 q = μ 7 q ∧ flw μ m k w 8 q = μ 8 q ∧ flw μ m k w 11 q = μ 11 q ∧ flw μ m k w 12 q = μ 12 q := by
  unfold flw
  cases decide (hs (μ 3 m) k = nb w)
  · have hne : q ≠ μ 0 1 := by omega
    exact ⟨upN_ne (μ 7) hne, upN_ne (μ 8) hne, upN_ne (μ 11) hne, upN_ne (μ 12) hne⟩
  · exact ⟨rfl, rfl, rfl, rfl⟩
theorem flw_up {μ : ST} {m k w : Nat} : μ 0 1 ≤ flw μ m k w 0 1 := by
  unfold flw
  cases decide (hs (μ 3 m) k = nb w)
  · exact Nat.le_succ _
  · exact Nat.le_refl _
theorem flw_02 {μ : ST} {m k w : Nat} : flw μ m k w 0 2 = μ 0 2 := by
  unfold flw
  cases decide (hs (μ 3 m) k = nb w) <;> rfl
theorem syf_spec {σ κ μ : ST} {cl t : Nat} (I : IS σ μ) (ht : t ≤ μ 0 1) (h2 : κ 0 2 = t) (hst : μ 0 1 < 3000) (N : Nat) (hN : N ≤ 10) (hf : ∀ i, i < N → κ 3 i = μ 20 (10 * cl + i) ∧ κ 4 i = μ 21 (10 * cl + i) ∧ κ 5 i = μ 22 (10 * cl + i) ∧ κ 3 i < μ 0 0 ∧ κ 4 i < 4 ∧ κ 5 i < 2) : ∀ n i ν c, i + n = N → SyQ σ κ μ i ν c → SyQ σ κ μ N (syf cl t (μ 0 1) (decide (μ 0 1 - t ≤ 40)) n i ν c).1 (syf cl t (μ 0 1) (decide (μ 0 1 - t ≤ 40)) n i ν c).2 := by
  intro n
  induction n with
  | zero =>
    intro i ν c hi hQ
    have : i = N := by omega
    subst this; exact hQ
  | succ n ih =>
    intro i ν c hi hQ
    obtain ⟨q1, q2, q22, q3, q4, q5, q6, q7, q8⟩ := hQ
    obtain ⟨f1, f2, f3, f4, f5, f6⟩ := hf i (by omega)
    have e20 : ν 20 (10 * cl + i) = κ 3 i := by rw [q4 20 (by decide), f1]
    have e21 : ν 21 (10 * cl + i) = κ 4 i := by rw [q4 21 (by decide), f2]
    have e22 : ν 22 (10 * cl + i) = κ 5 i := by rw [q4 22 (by decide), f3]
    have ec : icm ν t (μ 0 1) (decide (μ 0 1 - t ≤ 40)) (κ 3 i) (κ 4 i) (κ 5 i) = cfl σ κ i := by
      unfold cfl
      rw [cf_eq I f4 f5 f6 ht h2]
      unfold icm
      rw [q3, iso_eq (μ := μ) _ (fun k hk => q5 k (by omega))]
    simp only [syf]
    rw [e20, e21, e22, ec]
    cases hc : cfl σ κ i
    · simp only [cond_false]
      have h6 : μ 6 (κ 3 i) = 0 := by
        unfold cfl at hc
        rw [cf_eq I f4 f5 f6 ht h2] at hc
        unfold icm at hc
        by_cases z : μ 6 (κ 3 i) = 0
        · exact z
        · rw [decide_eq_false z] at hc; exact absurd hc (by simp)
      refine ih (i + 1) _ _ (by omega) ⟨?_, ?_, ?_, ?_, ?_, ?_, ?_, ?_, ?_⟩
      · simp only [rkf]
        rw [hc, cond_false]
        exact IS_flag q1 (by rw [q2]; exact f4) (by rw [q3]; exact h6) f5 f6 (by omega)
      · rw [flw_00, q2]
      · rw [flw_02, q22]
      · rw [flw_c (μ := ν) (c := 6) rfl, q3]
      · intro r hr; rw [flw_hi hr, q4 r hr]
      · intro k hk
        obtain ⟨a, b, c9, d⟩ := flw_old (μ := ν) (m := κ 3 i) (k := κ 4 i) (w := κ 5 i) (q := k) (by omega)
        rw [a, b, c9, d]; exact q5 k hk
      · exact Nat.le_trans q6 flw_up
      · have := flw_01 (μ := ν) (m := κ 3 i) (k := κ 4 i) (w := κ 5 i); omega
      · rw [← cnt_f hc]; exact q8
    · simp only [cond_true]
      refine ih (i + 1) _ _ (by omega) ⟨?_, q2, q22, q3, q4, q5, q6, by omega, ?_⟩
      · simp only [rkf]
        rw [hc, cond_true]; exact q1
      · rw [← cnt_t hc]; omega
end
section
/-! a window taken, on both sides -/
theorem ldk_1 {σ κ : ST} : ∀ n i, ldk σ κ n 1 i = if i < n then wml σ (κ 0 0) i else κ 1 i := by
  intro n
  induction n with
  | zero => intro i; rw [if_neg (Nat.not_lt_zero _)]; rfl
  | succ n ih =>
    intro i
    show upN (ldk σ κ n 1) n (wml σ (κ 0 0) n) i = _
    by_cases q : i = n
    · subst q; rw [upN_same, if_pos (Nat.lt_succ_self _)]
    · rw [upN_ne _ q, ih i]
      by_cases z : i < n
      · rw [if_pos z, if_pos (by omega)]
      · rw [if_neg z, if_neg (by omega)]
theorem ldk_2 {σ κ : ST} : ∀ n i, ldk σ κ n 2 i = if i < n then σ 5 (wml σ (κ 0 0) i) else κ 2 i := by
  intro n
  induction n with
  | zero => intro i; rw [if_neg (Nat.not_lt_zero _)]; rfl
  | succ n ih =>
    intro i
    show upN (ldk σ κ n 2) n (σ 5 (wml σ (κ 0 0) n)) i = _
    by_cases q : i = n
    · subst q; rw [upN_same, if_pos (Nat.lt_succ_self _)]
    · rw [upN_ne _ q, ih i]
      by_cases z : i < n
      · rw [if_pos z, if_pos (by omega)]
      · rw [if_neg z, if_neg (by omega)]
theorem ldk_o {σ κ : ST} {r : Nat} (h1 : r ≠ 1) (h2 : r ≠ 2) : ∀ n, ldk σ κ n r = ldk σ κ 0 r := by
  intro n
  induction n with
  | zero => rfl
  | succ n ih =>
    rw [← ih]
    simp only [ldk]
    rw [su_ne h2, su_ne h1]
theorem tkm_eq {ν : ST} {cl : Nat} : ∀ n x, tkm ν cl n x = if 10 * cl ≤ x ∧ x < 10 * cl + n then wmm ν (ν 13 cl) (x - 10 * cl) else ν 17 x := by
  intro n
  induction n with
  | zero => intro x; rw [if_neg (by omega)]; rfl
  | succ n ih =>
    intro x
    show upN (tkm ν cl n) (10 * cl + n) (wmm ν (ν 13 cl) n) x = _
    by_cases q : x = 10 * cl + n
    · subst q; rw [upN_same, if_pos (by omega), show 10 * cl + n - 10 * cl = n by omega]
    · rw [upN_ne _ q, ih x]
      by_cases z : 10 * cl ≤ x ∧ x < 10 * cl + n
      · rw [if_pos z, if_pos (by omega)]
      · rw [if_neg z, if_neg (by omega)]
theorem tkw_eq {ν : ST} {cl : Nat} : ∀ n x, tkw ν cl n x = if 10 * cl ≤ x ∧ x < 10 * cl + n then ν 3 (wmm ν (ν 13 cl) (x - 10 * cl)) else ν 18 x := by
  intro n
  induction n with
  | zero => intro x; rw [if_neg (by omega)]; rfl
  | succ n ih =>
    intro x
    show upN (tkw ν cl n) (10 * cl + n) (ν 3 (wmm ν (ν 13 cl) n)) x = _
    by_cases q : x = 10 * cl + n
    · subst q; rw [upN_same, if_pos (by omega), show 10 * cl + n - 10 * cl = n by omega]
    · rw [upN_ne _ q, ih x]
      by_cases z : 10 * cl ≤ x ∧ x < 10 * cl + n
      · rw [if_pos z, if_pos (by omega)]
      · rw [if_neg z, if_neg (by omega)]
theorem win_eq {ρ ν : ST} (I : IS ρ ν) {b i : Nat} (hb : b < 6) (hi : i < cnt (fun m9 => ifd ν b 0 m9) (ν 0 0)) : 0 < lat ρ (ms (bxs ρ b) 60) (nI i) (ρ 1 0) 0 0 ∧ wml ρ b i = wmm ν b i ∧ wmm ν b i < ν 0 0 ∧ rnk ν b 0 (wmm ν b i) (ν 0 0) = i := by
  obtain ⟨m, h1, h2, h3, h4⟩ := (lat_eq (k := 0) I hb (by decide)).2 i hi
  have h5 : lat ρ (ms (bxs ρ b) 60) (nI i) (ρ 1 0) 0 0 = m + 1 := h4
  have e1 : wml ρ b i = m := by unfold wml; rw [h5]; rfl
  have e2 : wmm ν b i = m := by unfold wmm; rw [h3]; rfl
  rw [h5, e1, e2]
  exact ⟨Nat.succ_pos _, rfl, h1, h2⟩
/-! what holds between the calls: a client -/
def IC (c : Nat) (κ μ : ST) : Prop := (κ 0 0 = μ 13 c ∧ κ 0 1 = μ 14 c ∧ κ 0 2 = μ 15 c ∧ κ 0 3 = μ 23 c ∧ κ 0 4 = μ 16 c ∧ κ 0 5 = μ 19 c) ∧ (κ 0 0 < 6 ∧ κ 0 1 ≤ 10 ∧ κ 0 2 ≤ μ 0 1 ∧ κ 0 4 ≤ 10 ∧ κ 0 5 ≤ 10) ∧ (∀ i, i < 10 → κ 1 i = μ 17 (10 * c + i) ∧ κ 2 i = μ 18 (10 * c + i)) ∧ (∀ i, i < κ 0 5 → κ 3 i = μ 20 (10 * c + i) ∧ κ 4 i = μ 21 (10 * c + i) ∧ κ 5 i = μ 22 (10 * c + i) ∧ κ 3 i < μ 0 0) ∧ (∀ i, i < κ 0 4 → κ 1 i < μ 0 0) ∧ (∀ i j, i < j → j < κ 0 4 → κ 1 i ≠ κ 1 j)
def IR (μ : ST) : Prop := (∀ i, μ 18 i < 16) ∧ (∀ i, μ 20 i < 60) ∧ (∀ i, μ 21 i < 4) ∧ (∀ i, μ 22 i < 2)
theorem IC_fr {c : Nat} {κ μ μ' : ST} (C : IC c κ μ) (h0 : μ 0 0 ≤ μ' 0 0) (h1 : μ 0 1 ≤ μ' 0 1) (h13 : μ' 13 c = μ 13 c) (h14 : μ' 14 c = μ 14 c) (h15 : μ' 15 c = μ 15 c) (h23 : μ' 23 c = μ 23 c) (h16 : μ' 16 c = μ 16 c) (h19 : μ' 19 c = μ 19 c) (hw : ∀ i, i < 10 → μ' 17 (10 * c + i) = μ 17 (10 * c + i) ∧ μ' 18 (10 * c + i) = μ 18 (10 * c + i)) (hf : ∀ i, i < 10 → μ' 20 (10 * c + i) = μ 20 (10 * c + i) ∧ μ' 21 (10 * c + i) = μ 21 (10 * c + i) ∧ μ' 22 (10 * c + i) = μ 22 (10 * c + i)) : IC c κ μ' := by
  obtain ⟨⟨a1, a2, a3, a4, a5, a6⟩, ⟨b1, b2, b3, b4, b5⟩, cw, cf, cm, cd⟩ := C
  refine ⟨⟨by rw [h13, a1], by rw [h14, a2], by rw [h15, a3], by rw [h23, a4], by rw [h16, a5], by rw [h19, a6]⟩, ⟨b1, b2, Nat.le_trans b3 h1, b4, b5⟩, fun i hi => ?_, fun i hi => ?_, fun i hi => Nat.lt_of_lt_of_le (cm i hi) h0, cd⟩
  · obtain ⟨x, y⟩ := hw i hi
    rw [x, y]; exact cw i hi
  · obtain ⟨x, y, z⟩ := hf i (by omega)
    rw [x, y, z]
    obtain ⟨u, v, w, t⟩ := cf i hi
    exact ⟨u, v, w, Nat.lt_of_lt_of_le t h0⟩
theorem IC_hi {c : Nat} {κ μ μ' : ST} (C : IC c κ μ) (h0 : μ 0 0 ≤ μ' 0 0) (h1 : μ 0 1 ≤ μ' 0 1) (hr : ∀ r, 13 ≤ r → μ' r = μ r) : IC c κ μ' := by
  refine IC_fr C h0 h1 ?_ ?_ ?_ ?_ ?_ ?_ (fun i _ => ⟨?_, ?_⟩) (fun i _ => ⟨?_, ?_, ?_⟩) <;> rw [hr _ (by decide)]
theorem IR_hi {μ μ' : ST} (R : IR μ) (hr : ∀ r, 13 ≤ r → μ' r = μ r) : IR μ' := by
  obtain ⟨a, b, c, d⟩ := R
  unfold IR
  rw [hr 18 (by decide), hr 20 (by decide), hr 21 (by decide), hr 22 (by decide)]
  exact ⟨a, b, c, d⟩
theorem tke_lo {ν : ST} {cl r : Nat} (h : r ≤ 14) : tke ν cl r = ν r := by
  unfold tke tk
  rw [su_ne (by omega), su_ne (by omega), su_ne (by omega), su_ne (by omega), su_ne (by omega)]
theorem tke_b {ν : ST} {cl : Nat} (hB : ∀ k i, ν k i < 20000) (hm0 : ν 0 0 ≤ 60) : ∀ k i, tke ν cl k i < 20000 := by
  have h1 : ∀ n i, tkm ν cl n i < 20000 := fun n i => by
    rw [tkm_eq]
    split
    · exact Nat.lt_trans (wmm_lt hm0) (by decide)
    · exact hB 17 i
  have h2 : ∀ n i, tkw ν cl n i < 20000 := fun n i => by
    rw [tkw_eq]
    split
    · exact hB 3 _
    · exact hB 18 i
  exact su_lt (su_lt (su_lt (su_lt (su_lt hB (up_lt (hB 16) (Nat.lt_of_le_of_lt (Nat.min_le_left _ _) (hB 14 cl)))) (h1 _)) (h2 _)) (up_lt (hB 15) (hB 0 1))) (up_lt (hB 19) (by decide))
/-- the other client keeps what it holds -/
theorem IC_tke {c cl : Nat} {κ ν : ST} (C : IC c κ ν) (hc : c < 2) (hcl : cl < 2) (hne : c ≠ cl) (h14 : tsz ν cl ≤ 10) : IC c κ (tke ν cl) := by
  refine IC_fr C ?_ ?_ ?_ ?_ (upN_ne (ν 15) hne) rfl (upN_ne (ν 16) hne) (upN_ne (ν 19) hne) (fun i hi => ⟨?_, ?_⟩) (fun i hi => ⟨rfl, rfl, rfl⟩)
  · exact Nat.le_refl _
  · exact Nat.le_refl _
  · rfl
  · rfl
  · show tkm ν cl (tsz ν cl) (10 * c + i) = _
    rw [tkm_eq, if_neg (by omega)]
  · show tkw ν cl (tsz ν cl) (10 * c + i) = _
    rw [tkw_eq, if_neg (by omega)]
/-- the client that takes its window -/
theorem load_eq {ρ κ ν : ST} {cl : Nat} (I : IS ρ ν) (hC : CI κ) (R : IR ν) (h00 : κ 0 0 = ν 13 cl) (h01 : κ 0 1 = ν 14 cl) (h03 : κ 0 3 = ν 23 cl) (h05 : κ 0 5 = 0) (hb : κ 0 0 < 6) (hw : κ 0 1 ≤ 10) (h17 : ∀ i, i < 10 → κ 1 i = ν 17 (10 * cl + i) ∧ κ 2 i = ν 18 (10 * cl + i)) :
    IS ρ (tke ν cl) ∧ IC cl (ldk ρ κ (wsz ρ κ)) (tke ν cl) ∧ IR (tke ν cl) ∧ CI (ldk ρ κ (wsz ρ κ)) ∧ tsz ν cl ≤ 10 ∧ (∀ i, i < wsz ρ κ → 0 < lat ρ (ms (bxs ρ (κ 0 0)) 60) (nI i) (ρ 1 0) 0 0 ∧ wml ρ (κ 0 0) i < 60) ∧ ldk ρ κ (wsz ρ κ) 0 5 = 0 ∧ ldk ρ κ (wsz ρ κ) 0 3 = κ 0 3 := by
  have hz : wsz ρ κ = tsz ν cl := by unfold wsz tsz; rw [bxs_eq I hb, h00, h01]
  have hz10 : tsz ν cl ≤ 10 := by unfold tsz; rw [← h01]; exact Nat.le_trans (Nat.min_le_left _ _) hw
  have hin : ∀ i, i < tsz ν cl → i < cnt (fun m9 => ifd ν (κ 0 0) 0 m9) (ν 0 0) := fun i hi => by
    rw [h00]; exact Nat.lt_of_lt_of_le hi (Nat.min_le_right _ _)
  have h60 := I.1.2.1
  have b3 := I.2.2.2.2.2.2.2.2.1
  have b4 := I.2.2.2.2.2.2.2.2.2
  have h0 : ∀ j, ldk ρ κ (wsz ρ κ) 0 j = ldk ρ κ 0 0 j := fun j => by rw [ldk_o (by decide) (by decide)]
  have IS' : IS ρ (tke ν cl) := IS_fr I rfl rfl (fun r _ h => tke_lo (by omega)) (tke_b b4 h60)
  have hwm : ∀ i, i < wsz ρ κ → wml ρ (κ 0 0) i < 60 := fun i hi => by
    rw [hz] at hi
    obtain ⟨-, e, l, -⟩ := win_eq I hb (hin i hi)
    rw [e]; omega
  refine ⟨IS', ⟨⟨?_, ?_, ?_, ?_, ?_, ?_⟩, ⟨?_, ?_, ?_, ?_, ?_⟩, fun i hi => ⟨?_, ?_⟩, fun i hi => ?_, fun i hi => ?_, fun i j hij hj => ?_⟩, ⟨fun i => ?_, R.2.1, R.2.2.1, R.2.2.2⟩, ?_, hz10, fun i hi => ?_, ?_, ?_⟩
  · rw [h0]; exact h00
  · rw [h0]; exact h01
  · rw [h0]
    show ρ 7 0 = upN (ν 15) cl (ν 0 1) cl
    rw [upN_same]; exact I.1.2.2
  · rw [h0]; exact h03
  · rw [h0]
    show wsz ρ κ = upN (ν 16) cl (tsz ν cl) cl
    rw [upN_same, hz]
  · rw [h0]
    show κ 0 5 = upN (ν 19) cl 0 cl
    rw [upN_same, h05]
  · rw [h0]; exact hb
  · rw [h0]; exact hw
  · rw [h0]
    show ρ 7 0 ≤ ν 0 1
    rw [I.1.2.2]; exact Nat.le_refl _
  · rw [h0]
    show wsz ρ κ ≤ 10
    omega
  · rw [h0]
    show κ 0 5 ≤ 10
    omega
  · show _ = tkm ν cl (tsz ν cl) (10 * cl + i)
    rw [ldk_1, tkm_eq, hz]
    by_cases q : i < tsz ν cl
    · rw [if_pos q, if_pos (by omega), (win_eq I hb (hin i q)).2.1, h00, show 10 * cl + i - 10 * cl = i by omega]
    · rw [if_neg q, if_neg (by omega)]; exact (h17 i hi).1
  · show _ = tkw ν cl (tsz ν cl) (10 * cl + i)
    rw [ldk_2, tkw_eq, hz]
    by_cases q : i < tsz ν cl
    · rw [if_pos q, if_pos (by omega), (win_eq I hb (hin i q)).2.1, h00, show 10 * cl + i - 10 * cl = i by omega, (I.2.1 _).2.2.1]
    · rw [if_neg q, if_neg (by omega)]; exact (h17 i hi).2
  · rw [h0] at hi
    have hi2 : i < κ 0 5 := hi
    omega
  · rw [h0] at hi
    have hi2 : i < wsz ρ κ := hi
    rw [ldk_1, if_pos hi2]
    rw [hz] at hi2
    obtain ⟨-, e, l, -⟩ := win_eq I hb (hin i hi2)
    rw [e]; exact l
  · rw [h0] at hj
    have hj2 : j < wsz ρ κ := hj
    rw [ldk_1, ldk_1, if_pos hj2, if_pos (by omega)]
    rw [hz] at hj2
    obtain ⟨-, e, l, r⟩ := win_eq I hb (hin j hj2)
    obtain ⟨-, e2, l2, r2⟩ := win_eq I hb (hin i (by omega))
    rw [e, e2]
    intro q
    rw [q, r] at r2
    omega
  · show tkw ν cl (tsz ν cl) i < 16
    rw [tkw_eq]
    split
    · exact (I.2.1 _).2.2.2.2
    · exact R.1 i
  · obtain ⟨c1, c2, c3, c4, c5, c6⟩ := hC
    have r3 : ldk ρ κ (wsz ρ κ) 3 = κ 3 := ldk_o (by decide) (by decide) _
    have r4 : ldk ρ κ (wsz ρ κ) 4 = κ 4 := ldk_o (by decide) (by decide) _
    have r5 : ldk ρ κ (wsz ρ κ) 5 = κ 5 := ldk_o (by decide) (by decide) _
    have l1 : ∀ i, ldk ρ κ (wsz ρ κ) 1 i < 60 := fun i => by
      rw [ldk_1]
      split
      · next h => exact hwm i h
      · exact c4 i
    have l2 : ∀ i, ldk ρ κ (wsz ρ κ) 2 i < 16 := fun i => by
      rw [ldk_2]
      split
      · rw [(I.2.1 _).2.2.1]; exact (I.2.1 _).2.2.2.2
      · exact c5 i
    refine ⟨by rw [r3]; exact c1, by rw [r4]; exact c2, by rw [r5]; exact c3, l1, l2, fun k i => ?_⟩
    by_cases q1 : k = 1
    · subst q1; exact Nat.lt_trans (l1 i) (by decide)
    · by_cases q2 : k = 2
      · subst q2; exact Nat.lt_trans (l2 i) (by decide)
      · rw [ldk_o q1 q2]
        exact sv_lt (sv_lt c6 (Nat.lt_trans (b3 7 0) (by decide))) (by omega) k i
  · rw [hz] at hi
    obtain ⟨p, e, l, -⟩ := win_eq I hb (hin i hi)
    exact ⟨p, by rw [e]; omega⟩
  · rw [h0]; exact h05
  · rw [h0]; rfl
/-- a whole sync -/
theorem sync_all {σ κ κ' κo μ : ST} {cl co : Nat} {cd : Bool} (hcl : cl < 2) (hco : co < 2) (hne : co ≠ cl) (I : IS σ μ) (C : IC cl κ μ) (Co : IC co κo μ) (R : IR μ) (hC : CI κ') (hst : μ 0 1 < 3000) (h23 : μ 23 cl < 3000)
    (k1 : κ' 1 = κ 1) (k2 : κ' 2 = κ 2) (k3 : κ' 3 = κ 3) (k4 : κ' 4 = κ 4) (k5 : κ' 5 = κ 5) (k00 : κ' 0 0 = κ 0 0) (k01 : κ' 0 1 = κ 0 1) (k02 : κ' 0 2 = κ 0 2) (k05 : κ' 0 5 = κ 0 5) (hcd : decide (μ 0 1 - μ 15 cl ≤ 40) = cd) (k03 : κ' 0 3 = κ 0 3 + b2n (!cd)) :
    (CI (syB σ κ') ∧ (syB σ κ') 0 5 ≤ 10 ∧ (∀ k i, (syS σ κ') k i < 1073741824) ∧ CI (syC σ κ') ∧ (syS σ κ') 1 0 ≤ 60 ∧ (syC σ κ') 0 0 < 6 ∧ (syC σ κ') 0 1 ≤ 10 ∧ (∀ i, i < wsz (syS σ κ') (syC σ κ') → 0 < lat (syS σ κ') (ms (bxs (syS σ κ') ((syC σ κ') 0 0)) 60) (nI i) ((syS σ κ') 1 0) 0 0 ∧ wml (syS σ κ') ((syC σ κ') 0 0) i < 60)) ∧
    κ 0 5 - (syB σ κ') 0 5 = (sfin μ cl cd).2 ∧ IS (syS σ κ') (sye μ cl cd) ∧ IC cl (syD σ κ') (sye μ cl cd) ∧ IC co κo (sye μ cl cd) ∧ IR (sye μ cl cd) ∧ CI (syD σ κ') ∧ sye μ cl cd 0 1 ≤ μ 0 1 + κ 0 5 ∧ syD σ κ' 0 5 = 0 ∧ syD σ κ' 0 3 = κ 0 3 + b2n (!cd) ∧ sye μ cl cd 0 2 = 0 := by
  subst hcd
  obtain ⟨⟨a1, a2, a3, a4, a5, a6⟩, ⟨b1, b2, b3, b4, b5⟩, cw, cf, cm, cdd⟩ := C
  have hN : μ 19 cl ≤ 10 := by rw [← a6]; exact b5
  have hQ := syf_spec (σ := σ) (κ := κ') (μ := μ) (cl := cl) (t := μ 15 cl) I (by rw [← a3]; exact b3) (by rw [k02, a3]) hst (μ 19 cl) hN (fun i hi => by
      obtain ⟨d1, d2, d3, d4⟩ := cf i (by rw [a6]; exact hi)
      rw [k3, k4, k5]
      exact ⟨d1, d2, d3, d4, by rw [← k4]; exact hC.2.1 i, by rw [← k5]; exact hC.2.2.1 i⟩) (μ 19 cl) 0 (sv μ 0 2 0) 0 (Nat.zero_add _)
    ⟨IS_th I (by decide), rfl, rfl, rfl, fun r hr => sv_ne (by omega), fun k _ => ⟨rfl, rfl, rfl, rfl⟩, Nat.le_refl _, Nat.le_refl _, rfl⟩
  have hS0 : syf cl (μ 15 cl) (μ 0 1) (decide (μ 0 1 - μ 15 cl ≤ 40)) (μ 19 cl) 0 (sv μ 0 2 0) 0 = sfin μ cl (decide (μ 0 1 - μ 15 cl ≤ 40)) := rfl
  rw [hS0] at hQ
  unfold sye
  generalize sfin μ cl (decide (μ 0 1 - μ 15 cl ≤ 40)) = S at hQ ⊢
  obtain ⟨q1, q2, q22, q3, q4, q5, q6, q7, q8⟩ := hQ
  have hB : syB σ κ' = loc σ κ' (μ 19 cl) := by unfold syB; rw [k05, a6]
  obtain ⟨l1, l2, l3, l4, ⟨l5, l6, l7, l8⟩, l9, l10⟩ := loc_spec σ κ' (μ 19 cl)
  obtain ⟨g1, g2, g3⟩ := loc_all (σ := σ) hC (μ 19 cl) hN
  have hSS : syS σ κ' = rkf σ κ' (μ 19 cl) := by unfold syS; rw [hB, l4]
  have hCC : syC σ κ' = sv (loc σ κ' (μ 19 cl)) 0 5 0 := by unfold syC; rw [hB]
  have c00 : syC σ κ' 0 0 = κ 0 0 := by rw [hCC]; show loc σ κ' (μ 19 cl) 0 0 = _; rw [l5, k00]
  have c01 : syC σ κ' 0 1 = κ 0 1 := by rw [hCC]; show loc σ κ' (μ 19 cl) 0 1 = _; rw [l6, k01]
  have c03 : syC σ κ' 0 3 = κ' 0 3 := by rw [hCC]; show loc σ κ' (μ 19 cl) 0 3 = _; rw [l7]
  have c05 : syC σ κ' 0 5 = 0 := by rw [hCC]; rfl
  have c1 : syC σ κ' 1 = κ 1 := by rw [hCC]; show loc σ κ' (μ 19 cl) 1 = _; rw [l9, k1]
  have c2 : syC σ κ' 2 = κ 2 := by rw [hCC]; show loc σ κ' (μ 19 cl) 2 = _; rw [l10, k2]
  have hCI : CI (syC σ κ') := by
    rw [hCC]
    exact ⟨g1.1, g1.2.1, g1.2.2.1, g1.2.2.2.1, g1.2.2.2.2.1, sv_lt g1.2.2.2.2.2 (by decide)⟩
  generalize hν : su S.1 23 (upN (S.1 23) cl (S.1 23 cl + b2n (!decide (μ 0 1 - μ 15 cl ≤ 40)))) = ν
  have r23 : ν 23 = upN (S.1 23) cl (S.1 23 cl + b2n (!decide (μ 0 1 - μ 15 cl ≤ 40))) := by rw [← hν]; rfl
  have rne : ∀ r, r ≠ 23 → ν r = S.1 r := fun r hr => by rw [← hν]; exact su_ne hr
  have s23 : S.1 23 = μ 23 := q4 23 (by decide)
  have IB := q1.2.2.2.2.2.2.2.2
  have hb2 := b2n_lt (!decide (μ 0 1 - μ 15 cl ≤ 40))
  have I' : IS (syS σ κ') ν := by
    rw [hSS]
    refine IS_fr q1 (by rw [rne 0 (by decide)]) (by rw [rne 0 (by decide)]) (fun r _ h => rne r (by omega)) ?_
    rw [← hν]
    exact su_lt IB.2 (up_lt (IB.2 23) (by rw [s23]; omega))
  have R' : IR ν := by
    obtain ⟨x, y, z, w⟩ := R
    unfold IR
    rw [rne 18 (by decide), rne 20 (by decide), rne 21 (by decide), rne 22 (by decide), q4 18 (by decide), q4 20 (by decide), q4 21 (by decide), q4 22 (by decide)]
    exact ⟨x, y, z, w⟩
  have L := load_eq (ρ := syS σ κ') (κ := syC σ κ') (ν := ν) (cl := cl) I' hCI R' (by rw [c00, rne 13 (by decide), q4 13 (by decide), a1]) (by rw [c01, rne 14 (by decide), q4 14 (by decide), a2]) (by rw [c03, k03, r23, upN_same, s23, a4]) c05 (by rw [c00]; exact b1) (by rw [c01]; exact b2) (fun i hi => by
    rw [c1, c2, rne 17 (by decide), rne 18 (by decide), q4 17 (by decide), q4 18 (by decide)]
    exact cw i hi)
  obtain ⟨L1, L2, L3, L4, L5, L6, L7, L8⟩ := L
  have e0 : tke ν cl 0 = S.1 0 := by rw [tke_lo (by decide), rne 0 (by decide)]
  refine ⟨⟨by rw [hB]; exact g1, by rw [hB]; omega, fun k i => by rw [hSS]; exact Nat.lt_trans (IB.1 k i) (by decide), hCI, by rw [hSS, q1.1.1]; exact q1.1.2.1, by rw [c00]; exact b1, by rw [c01]; exact b2, L6⟩, ?_, L1, L2, ?_, L3, L4, ?_, L7, ?_, ?_⟩
  · rw [hB, a6, q8]; omega
  · refine IC_tke ?_ hco hcl hne L5
    refine IC_fr Co (by rw [rne 0 (by decide), q2]; exact Nat.le_refl _) (by rw [rne 0 (by decide)]; exact q6) ?_ ?_ ?_ ?_ ?_ ?_ (fun i _ => ⟨?_, ?_⟩) (fun i _ => ⟨?_, ?_, ?_⟩)
    · rw [rne 13 (by decide), q4 13 (by decide)]
    · rw [rne 14 (by decide), q4 14 (by decide)]
    · rw [rne 15 (by decide), q4 15 (by decide)]
    · rw [r23, upN_ne _ hne, s23]
    · rw [rne 16 (by decide), q4 16 (by decide)]
    · rw [rne 19 (by decide), q4 19 (by decide)]
    · rw [rne 17 (by decide), q4 17 (by decide)]
    · rw [rne 18 (by decide), q4 18 (by decide)]
    · rw [rne 20 (by decide), q4 20 (by decide)]
    · rw [rne 21 (by decide), q4 21 (by decide)]
    · rw [rne 22 (by decide), q4 22 (by decide)]
  · rw [e0, a6]; omega
  · show ldk (syS σ κ') (syC σ κ') (wsz (syS σ κ') (syC σ κ')) 0 3 = _
    rw [L8, c03, k03]
  · rw [e0, q22]
end
section
/-! a flag set offline, on both sides -/
theorem plo_spec (κ : ST) (x : Int32) : ∀ n pl, (∃ i, pl ≤ i ∧ i < pl + n ∧ nI (κ 1 i) = x ∧ plo κ x n pl = i + 1) ∨ (plo κ x n pl = 0 ∧ ∀ i, pl ≤ i → i < pl + n → ¬ nI (κ 1 i) = x) := by
  intro n
  induction n with
  | zero => intro pl; exact Or.inr ⟨rfl, fun i h1 h2 => by omega⟩
  | succ n ih =>
    intro pl
    simp only [plo]
    by_cases q : nI (κ 1 pl) = x
    · rw [decide_eq_true q, cond_true]
      exact Or.inl ⟨pl, Nat.le_refl _, by omega, q, rfl⟩
    · rw [decide_eq_false q, cond_false]
      rcases ih (pl + 1) with ⟨i, a, b, c, d⟩ | ⟨a, b⟩
      · exact Or.inl ⟨i, by omega, by omega, c, d⟩
      · refine Or.inr ⟨a, fun i h1 h2 => ?_⟩
        rcases Nat.lt_or_ge pl i with z | z
        · exact b i z (by omega)
        · have : i = pl := by omega
          subst this; exact q
theorem wpl_spec (μ : ST) (cl : Nat) (x : Int32) : ∀ n, (∃ i, i < n ∧ nI (μ 17 (10 * cl + i)) = x ∧ wpl μ cl x n = 10 * cl + i + 1) ∨ (wpl μ cl x n = 0 ∧ ∀ i, i < n → ¬ nI (μ 17 (10 * cl + i)) = x) := by
  intro n
  induction n with
  | zero => exact Or.inr ⟨rfl, fun i h => by omega⟩
  | succ n ih =>
    simp only [wpl]
    by_cases q : nI (μ 17 (10 * cl + n)) = x
    · rw [decide_eq_true q, cond_true]
      exact Or.inl ⟨n, Nat.lt_succ_self n, q, rfl⟩
    · rw [decide_eq_false q, cond_false]
      rcases ih with ⟨i, a, b, c⟩ | ⟨a, b⟩
      · exact Or.inl ⟨i, by omega, b, c⟩
      · refine Or.inr ⟨a, fun i h => ?_⟩
        rcases Nat.lt_or_ge i n with z | z
        · exact b i z
        · have : i = n := by omega
          subst this; exact q
theorem place_eq {c : Nat} {κ μ : ST} (C : IC c κ μ) (h60 : μ 0 0 ≤ 60) (x : Int32) : (plo κ x (κ 0 4) 0 = 0 ∧ wpl μ c x (μ 16 c) = 0) ∨ (∃ i, i < κ 0 4 ∧ x = nI (κ 1 i) ∧ plo κ x (κ 0 4) 0 = i + 1 ∧ wpl μ c x (μ 16 c) = 10 * c + i + 1) := by
  obtain ⟨⟨a1, a2, a3, a4, a5, a6⟩, ⟨b1, b2, b3, b4, b5⟩, cw, cf, cm, cdd⟩ := C
  rw [← a5]
  rcases plo_spec κ x (κ 0 4) 0 with ⟨i, -, d2, d3, d4⟩ | ⟨d1, d2⟩
  · rcases wpl_spec μ c x (κ 0 4) with ⟨j, e1, e2, e3⟩ | ⟨e1, e2⟩
    · refine Or.inr ⟨i, by omega, d3.symm, d4, ?_⟩
      rw [e3]
      rw [← (cw j (by omega)).1, ← d3] at e2
      have m1 := cm i (by omega)
      have m2 := cm j e1
      have m3 := (nI_eq (by omega) (by omega)).mp e2
      rcases Nat.lt_trichotomy i j with z | z | z
      · exact absurd m3.symm (cdd i j z e1)
      · rw [z]
      · exact absurd m3 (cdd j i z (by omega))
    · exact absurd (by rw [← (cw i (by omega)).1]; exact d3) (e2 i (by omega))
  · rcases wpl_spec μ c x (κ 0 4) with ⟨j, e1, e2, e3⟩ | ⟨e1, e2⟩
    · exact absurd (by rw [(cw j (by omega)).1]; exact e2) (d2 j (Nat.zero_le _) (by omega))
    · exact Or.inl ⟨d1, e1⟩
theorem flo_lo {μ : ST} {cl j k w its r : Nat} (h1 : 1 ≤ r) (h2 : r ≤ 17) : flo μ cl j k w its r = μ r := by
  unfold flo
  rw [su_ne (by omega), su_ne (by omega), su_ne (by omega), su_ne (by omega), su_ne (by omega), sv_ne (by omega)]
theorem flo_eq {σ κ κo μ : ST} {c co i k w : Nat} (hc : c < 2) (hco : co < 2) (hne : co ≠ c) (I : IS σ μ) (C : IC c κ μ) (Co : IC co κo μ) (R : IR μ) (hC : CI κ) (hi : i < κ 0 4) (hk : k < 4) (hw : w < 2) (hfl : κ 0 5 < 10) :
    IS σ (flo μ c (κ 1 i) k w (10 * c + i)) ∧ IC c (nte κ i k w) (flo μ c (κ 1 i) k w (10 * c + i)) ∧ IC co κo (flo μ c (κ 1 i) k w (10 * c + i)) ∧ IR (flo μ c (κ 1 i) k w (10 * c + i)) ∧ CI (nte κ i k w) := by
  obtain ⟨⟨a1, a2, a3, a4, a5, a6⟩, ⟨b1, b2, b3, b4, b5⟩, cw, cf, cm, cdd⟩ := C
  have b49 := I.2.2.2.2.2.2.2.2.2
  have h60 := I.1.2.1
  obtain ⟨R1, R2, R3, R4⟩ := R
  have hmi := cm i hi
  have hwn : ∀ j, wn (μ 18 j) k (nb w) < 16 := fun j => wn_lt (R1 j) hk _
  have f20 : flo μ c (κ 1 i) k w (10 * c + i) 20 = upN (μ 20) (10 * c + κ 0 5) (κ 1 i) := by rw [a6]; rfl
  have f21 : flo μ c (κ 1 i) k w (10 * c + i) 21 = upN (μ 21) (10 * c + κ 0 5) k := by rw [a6]; rfl
  have f22 : flo μ c (κ 1 i) k w (10 * c + i) 22 = upN (μ 22) (10 * c + κ 0 5) w := by rw [a6]; rfl
  have f19 : flo μ c (κ 1 i) k w (10 * c + i) 19 = upN (μ 19) c (κ 0 5 + 1) := by rw [a6]; rfl
  have f18 : flo μ c (κ 1 i) k w (10 * c + i) 18 = upN (μ 18) (10 * c + i) (wn (μ 18 (10 * c + i)) k (nb w)) := rfl
  have hb : ∀ r j, flo μ c (κ 1 i) k w (10 * c + i) r j < 20000 := by
    have h19 := b49 19 c
    have h18 := hwn (10 * c + i)
    exact su_lt (su_lt (su_lt (su_lt (su_lt (sv_lt b49 (by decide)) (up_lt (b49 20) (by omega))) (up_lt (b49 21) (by omega))) (up_lt (b49 22) (by omega))) (up_lt (b49 19) (by omega))) (up_lt (b49 18) (by omega))
  refine ⟨IS_fr I rfl rfl (fun r h1 h2 => flo_lo h1 (by omega)) hb, ⟨⟨?_, ?_, ?_, ?_, ?_, ?_⟩, ⟨b1, b2, b3, b4, ?_⟩, fun j hj => ⟨(cw j hj).1, ?_⟩, fun j hj => ?_, cm, cdd⟩, ?_, ⟨?_, ?_, ?_, ?_⟩, ?_⟩
  · rw [flo_lo (by decide) (by decide)]; exact a1
  · rw [flo_lo (by decide) (by decide)]; exact a2
  · rw [flo_lo (by decide) (by decide)]; exact a3
  · exact a4
  · rw [flo_lo (by decide) (by decide)]; exact a5
  · rw [f19, upN_same]; rfl
  · show κ 0 5 + 1 ≤ 10
    omega
  · rw [f18]
    show upN (κ 2) i (wn (κ 2 i) k (nb w)) j = _
    by_cases q : j = i
    · subst q; rw [upN_same, upN_same, (cw j hj).2]
    · rw [upN_ne _ q, upN_ne _ (show 10 * c + j ≠ 10 * c + i by omega)]; exact (cw j hj).2
  · rw [f20, f21, f22]
    show upN (κ 3) (κ 0 5) (κ 1 i) j = _ ∧ upN (κ 4) (κ 0 5) k j = _ ∧ upN (κ 5) (κ 0 5) w j = _ ∧ upN (κ 3) (κ 0 5) (κ 1 i) j < μ 0 0
    have hj2 : j < κ 0 5 + 1 := hj
    by_cases q : j = κ 0 5
    · rw [q]; simp only [upN_same]; exact ⟨trivial, trivial, trivial, hmi⟩
    · simp only [upN_ne _ q, upN_ne _ (show 10 * c + j ≠ 10 * c + κ 0 5 by omega)]
      exact cf j (by omega)
  · have hco5 := Co.2.1.2.2.2.2
    refine IC_fr Co (Nat.le_refl _) (Nat.le_refl _) (by rw [flo_lo (by decide) (by decide)]) (by rw [flo_lo (by decide) (by decide)]) (by rw [flo_lo (by decide) (by decide)]) rfl (by rw [flo_lo (by decide) (by decide)]) (by rw [f19, upN_ne _ hne]) (fun j hj => ⟨by rw [flo_lo (by decide) (by decide)], ?_⟩) (fun j hj => ⟨?_, ?_, ?_⟩)
    · rw [f18, upN_ne _ (by omega)]
    · rw [f20, upN_ne _ (by omega)]
    · rw [f21, upN_ne _ (by omega)]
    · rw [f22, upN_ne _ (by omega)]
  · rw [f18]; exact up_lt R1 (hwn _)
  · rw [f20]; exact up_lt R2 (by omega)
  · rw [f21]; exact up_lt R3 hk
  · rw [f22]; exact up_lt R4 hw
  · obtain ⟨c1, c2, c3, c4, c5, c6⟩ := hC
    have h16 := wn_lt (c5 i) hk (nb w)
    exact CI_lst ⟨c1, c2, c3, c4, up_lt c5 h16, su_lt c6 (up_lt (c6 2) (by omega))⟩ (by show κ 0 5 + 1 < _; omega) (c4 i) hk hw
/-! what holds between the calls -/
def Inv9 (n : Nat) (σ κ0 κ1 μ : ST) : Prop := IS σ μ ∧ IC 0 κ0 μ ∧ IC 1 κ1 μ ∧ IR μ ∧ CI κ0 ∧ CI κ1 ∧ μ 0 1 + κ0 0 5 + κ1 0 5 ≤ n ∧ κ0 0 3 ≤ n ∧ κ1 0 3 ≤ n
theorem Inv_up {n : Nat} {σ κ0 κ1 μ : ST} (h : Inv9 n σ κ0 κ1 μ) : Inv9 (n + 1) σ κ0 κ1 μ := by
  obtain ⟨a, b, c, d, e, f, g, i, j⟩ := h
  exact ⟨a, b, c, d, e, f, by omega, by omega, by omega⟩
theorem Inv_srv {n : Nat} {σ σ' κ0 κ1 μ μ' : ST} (h : Inv9 n σ κ0 κ1 μ) (I : IS σ' μ') (h0 : μ 0 0 ≤ μ' 0 0) (h1 : μ 0 1 ≤ μ' 0 1) (h2 : μ' 0 1 ≤ μ 0 1 + 1) (hr : ∀ r, 13 ≤ r → μ' r = μ r) : Inv9 (n + 1) σ' κ0 κ1 μ' := by
  obtain ⟨a, b, c, d, e, f, g, i, j⟩ := h
  exact ⟨I, IC_hi b h0 h1 hr, IC_hi c h0 h1 hr, IR_hi d hr, e, f, by omega, by omega, by omega⟩
theorem Inv_th {n : Nat} {σ κ0 κ1 μ : ST} (v : Nat) (h : Inv9 n σ κ0 κ1 μ) (hv : v < 20000) : Inv9 (n + 1) σ κ0 κ1 (sv μ 0 2 v) := Inv_srv h (IS_th h.1 hv) (Nat.le_refl _) (Nat.le_refl _) (Nat.le_succ _) (fun r hr => sv_ne (by omega))
/-! changes -/
theorem IS_add {σ μ : ST} {t b th : Nat} (I : IS σ μ) (hc : μ 0 0 < 60) (hb1 : 1 ≤ b) (hb2 : b < 64) (ht : t ≤ 9999) (hth : th ≤ 9) (hst : μ 0 1 < 3000) : IS (lc σ t b th) (ada μ t b th) := by
  have b3 := I.2.2.2.2.2.2.2.2.1
  have b4 := I.2.2.2.2.2.2.2.2.2
  have c1 := I.1.1
  have c3 := I.1.2.2
  refine IS_come (t := t) (b := b) (th := th) I hc hb1 hb2 (by omega) rfl rfl rfl rfl rfl rfl rfl rfl rfl rfl rfl rfl rfl rfl rfl rfl rfl rfl rfl rfl rfl rfl rfl rfl rfl ?_ ?_
  · have hX : ∀ k i, (sv (su (su (su σ 2 (upN (σ 2) (σ 1 0) t)) 3 (upN (σ 3) (σ 1 0) th)) 6 (pio (upN (σ 2) (σ 1 0) t) t (σ 1 0) (min (σ 1 0) 59) (σ 6))) 1 0 (σ 1 0 + 1)) k i < 20000 :=
      sv_lt (su_lt (su_lt (su_lt b3 (up_lt (b3 2) (by omega))) (up_lt (b3 3) (by omega))) (pio_lt (b3 6) (by omega) _)) (by omega)
    exact chg_b hX (show σ 7 0 < 4000 by omega) (by omega) (by omega) (by decide)
  · have hN := nts_b (μ := sv μ 0 2 0) (its := 0) (m := μ 0 0) (wd := 0) (w := 0) (sv_lt b4 (by decide)) (show μ 0 1 < 4000 by omega) (by decide) (by omega) (by decide) (by decide)
    exact sv_lt (su_lt (su_lt (su_lt (su_lt hN (up_lt (b4 1) (by omega))) (up_lt (b4 2) (by omega))) (up_lt (b4 4) (by omega))) (up_lt (b4 5) (by omega))) (by omega)
theorem IS_move {σ μ : ST} {j b : Nat} (I : IS σ μ) (hj : j < μ 0 0) (h6 : μ 6 j = 0) (hb1 : 1 ≤ b) (hb2 : b < 64) (hst : μ 0 1 < 3000) : IS (chg σ j b (σ 5 j)) (su (nts (sv μ 0 2 0) 1 j 0 0) 2 (upN (μ 2) j b)) := by
  have b3 := I.2.2.2.2.2.2.2.2.1
  have b4 := I.2.2.2.2.2.2.2.2.2
  have c3 := I.1.2.2
  have h60 := I.1.2.1
  have h5 : σ 5 j = μ 3 j := (I.2.1 j).2.2.1
  have h16 : μ 3 j < 16 := (I.2.1 j).2.2.2.2
  refine IS_step (j := j) (its := 1) (wd := 0) (ws := 0) (b := b) (w := μ 3 j) (g := 0) I hj h6 hb1 hb2 h16 (Or.inl rfl) (by omega) (by decide) (by decide) (by decide) (fun z => by omega) (fun _ => rfl)
    rfl rfl rfl rfl ?_ rfl rfl rfl rfl rfl ?_ rfl rfl rfl rfl ?_ rfl rfl ?_ rfl rfl rfl rfl rfl rfl (chg_b b3 (by omega) (by omega) (by omega) (b3 5 j)) ?_
  · show upN (σ 5) j (σ 5 j) = _
    rw [h5]
  · show upN (σ 11) ((σ 7 0 + 1) % 40) (σ 5 j) = _
    rw [h5]
  · exact (upN_self (μ 3) j).symm
  · show μ 6 = upN (μ 6) j 0
    rw [← h6]; exact (upN_self (μ 6) j).symm
  · exact su_lt (nts_b (sv_lt b4 (by decide)) (show μ 0 1 < 4000 by omega) (by decide) (by omega) (by decide) (by decide)) (up_lt (b4 2) (by omega))
theorem IS_destroy {σ μ : ST} {j : Nat} (I : IS σ μ) (hj : j < μ 0 0) (h6 : μ 6 j = 0) (hst : μ 0 1 < 3000) : IS (chg σ j 0 (σ 5 j)) (su (nts (sv μ 0 2 0) 3 j 0 0) 6 (upN (μ 6) j (μ 0 1 + 1))) := by
  have b3 := I.2.2.2.2.2.2.2.2.1
  have b4 := I.2.2.2.2.2.2.2.2.2
  have c3 := I.1.2.2
  have h60 := I.1.2.1
  have h5 : σ 5 j = μ 3 j := (I.2.1 j).2.2.1
  have h16 : μ 3 j < 16 := (I.2.1 j).2.2.2.2
  have h63 : μ 2 j < 64 := (I.2.1 j).2.2.2.1
  have h1 : 1 ≤ μ 2 j := ((I.2.1 j).1 hj).2.2.2
  refine IS_step (j := j) (its := 3) (wd := 0) (ws := 0) (b := μ 2 j) (w := μ 3 j) (g := μ 0 1 + 1) I hj h6 h1 h63 h16 (Or.inr rfl) (by omega) (by decide) (by decide) (by decide) (fun z => by omega) (fun _ => rfl)
    rfl rfl rfl ?_ ?_ rfl rfl rfl rfl rfl ?_ rfl rfl rfl ?_ ?_ rfl rfl rfl rfl rfl rfl rfl rfl rfl (chg_b b3 (by omega) (by omega) (by decide) (b3 5 j)) ?_
  · rw [if_neg (Nat.succ_ne_zero _)]; rfl
  · show upN (σ 5) j (σ 5 j) = _
    rw [h5]
  · show upN (σ 11) ((σ 7 0 + 1) % 40) (σ 5 j) = _
    rw [h5]
  · exact (upN_self (μ 2) j).symm
  · exact (upN_self (μ 3) j).symm
  · exact su_lt (nts_b (sv_lt b4 (by decide)) (show μ 0 1 < 4000 by omega) (by decide) (by omega) (by decide) (by decide)) (up_lt (b4 6) (by omega))
end
