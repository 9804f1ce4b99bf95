theorem Met_cases {l : Launch} {y : MethodName} {ws : List Cond} {rm : Room} {Pc : Array Value → State → Prop} {Qc : Array Value → State → Outcome → State → Prop} {mc ms : Nat} {free : Addr → Prop}
    (h : ∀ (a : Array Value) (s : State), Pc a s → ∃ (Pc' : Array Value → State → Prop) (Qc' : Array Value → State → Outcome → State → Prop) (free' : Addr → Prop), Met l y ws rm Pc' Qc' mc ms free' ∧ Pc' a s ∧ (∀ (o : Outcome) (t : State), Qc' a s o t → Qc a s o t) ∧ ∀ q, free' q → free q) : Met l y ws rm Pc Qc mc ms free := by
  intro p e ha hc hk s m args below hf happ hP hK
  obtain ⟨Pc', Qc', free', hM, hP', hQ, hF⟩ := h args s hP
  obtain ⟨n, o, h1, h2, h3, h4, L, h5, h6⟩ := hM p e ha hc hk s m args below hf happ hP' trivial
  exact ⟨n, o, h1, h2, h3, hQ o _ h4, L, h5, fun q hq => hF _ (h6 q hq)⟩
theorem F_same {A : Nat → Prop} {s t : State} (h : t.heap = s.heap) : va_F A s t := ⟨by rw [h]; exact Nat.le_refl _, fun q _ _ => by rw [h]⟩
theorem Met_wr {l : Launch} {y : MethodName} {ws : List Cond} {rm : Room} {D : va_G} {cI cZ : ClassId} {sa : Nat → Nat} {w : va_W} {av : List Value} {v : Option Value} {A : Nat → Prop}
    (h : ∀ H : Heap, va_P D vwCl w H → Met l y ws rm (RoP D cI cZ sa H av) (RoQ v H) 0 0 RoF) : Met l y ws rm (WrP D cI cZ sa w av) (WrQ v D w A) 0 0 A :=
  Met_cases (fun a s hp => by
    obtain ⟨h1, h2, h3⟩ := hp
    exact ⟨_, _, RoF, h s.heap h2, ⟨h1, rfl, h3⟩, fun o t hq => ⟨hq.1, by rw [hq.2]; exact h2, F_same hq.2⟩, fun _ hf => hf.elim⟩)
theorem Met_ro {l : Launch} {y : MethodName} {ws : List Cond} {rm : Room} {D : va_G} {cI cZ : ClassId} {sa : Nat → Nat} {H : Heap} {av : List Value} {v v' : Option Value}
    (h : Met l y ws rm (RoP D cI cZ sa H av) (RoQ v H) 0 0 RoF) (e : v = v') : Met l y ws rm (RoP D cI cZ sa H av) (RoQ v' H) 0 0 RoF := e ▸ h
theorem Met_wv {l : Launch} {y : MethodName} {ws : List Cond} {rm : Room} {D : va_G} {cI cZ : ClassId} {sa : Nat → Nat} {w w1 w2 : va_W} {av : List Value} {v v' : Option Value} {A : Nat → Prop}
    (h : Met l y ws rm (WrP D cI cZ sa w av) (WrQ v D w1 A) 0 0 A) (e : v = v') (e2 : w1 = w2) : Met l y ws rm (WrP D cI cZ sa w av) (WrQ v' D w2 A) 0 0 A := e ▸ e2 ▸ h
/-- setKeyword, both cases -/
theorem c_setKeyword (l : Launch) (D : va_G) (cI cZ : ClassId) (sa : Nat → Nat) (q : Nat → Nat) (σ : ST) (j k w0 : Nat) (A : Nat → Prop) (hD : va_D A (wSS q cI σ)) (hj : j < 60) (hB : ∀ k i, σ k i < 1073741824) (h15 : ∀ i, σ 5 i < 16) (hk : k < 4) (hw : w0 < 2) : Met l yX2_setKeyword (codeW yX2_setKeyword cX2_setKeyword 4 (some .boolean)) ({ frames := 4, cells := 0, slots := 0, locals := 90 } : Room) (WrP D cI cZ sa (wSS q cI σ) [.ref (q 1), .int (nI j), .int (nI k), .int (nI w0)]) (WrQ (some (.int (b2i (!(decide (σ 5 j = wn (σ 5 j) k (nb w0))))))) D (wSS q cI (sk σ j k w0)) A) 0 0 A := by
  by_cases h : σ 5 j = wn (σ 5 j) k (nb w0)
  · exact Met_wv (Met_wr (fun H hP => c_setKeyword_s l D cI cZ sa q σ j k w0 H hP hj hB h15 hk hw h)) (by rw [decide_eq_true h]; rfl) (by unfold sk; rw [decide_eq_true h]; rfl)
  · exact Met_wv (c_setKeyword_d l D cI cZ sa q σ j k w0 A hD hj hB h15 hk hw h) (by rw [decide_eq_false h]; rfl) (by unfold sk; rw [decide_eq_false h]; rfl)
theorem CS_DSS {A : Nat → Prop} {q k : Nat → Nat} {cI cZ : ClassId} {σ κ : ST} (h : va_D A (wCS q k cI cZ σ κ)) : va_D A (wSS q cI σ) := h.sub [6, 7, 8, 9, 10, 11, 12, 13, 14, 15, 16] (by decide) rfl
theorem D_out {A : Nat → Prop} {ws : va_W} (hD : va_D A ws) (is js : List Nat) {w1 w2 : va_W} (h1 : is.map (fun i => ws[i]?) = w1.map some) (h2 : js.map (fun i => ws[i]?) = w2.map some) (hd : ∀ i ∈ is, i ∉ js) : ∀ (k : Nat) (q : Nat × va_E), w1[k]? = some q → ¬ adr w2 q.1 := by
  have at' : ∀ {is : List Nat} {w : va_W}, is.map (fun i => ws[i]?) = w.map some → ∀ (k : Nat) (q : Nat × va_E), w[k]? = some q → ∃ i, is[k]? = some i ∧ ws[i]? = some q := by
    intro is w hs k q hq
    have h1 : (is.map (fun i => ws[i]?))[k]? = some (some q) := by rw [hs, List.getElem?_map, hq]; rfl
    rw [List.getElem?_map] at h1
    cases hi : is[k]? with
    | none => rw [hi] at h1; cases h1
    | some i => rw [hi] at h1; exact ⟨i, rfl, Option.some.inj h1⟩
  intro k q hk hin
  obtain ⟨j, r, hj, e⟩ := hin
  obtain ⟨a, a1, a2⟩ := at' h1 k q hk
  obtain ⟨b, b1, b2⟩ := at' h2 j r hj
  have := hD.1 a b q r a2 b2 e.symm
  subst this
  exact hd a (List.mem_of_getElem? a1) (List.mem_of_getElem? b1)
/-- the server's part written, the client's as it was -/
theorem CS_put {A : Nat → Prop} {D : va_G} {cl : List vw_C} {q k : Nat → Nat} {cI cZ : ClassId} {σ κ σ0 κ0 σ1 : ST} {H H1 : Heap} (hD : va_D A (wCS q k cI cZ σ0 κ0)) (hP : va_P D cl (wCS q k cI cZ σ κ) H) (hk : ∀ a : Nat, a < H.size → ¬ adr (wSS q cI σ) a → H1[a]? = H[a]?) (h1 : va_P D cl (wSS q cI σ1) H1) : va_P D cl (wCS q k cI cZ σ1 κ) H1 := by
  have hD2 : va_D A (wCS q k cI cZ σ κ) := D_addr hD rfl
  refine va_P.app (w1 := wCl k cI cZ κ) (w2 := wSS q cI σ1) ?_ h1
  exact P_keep (hP.sub (ws' := wCl k cI cZ κ) [0, 1, 2, 3, 4, 5] rfl) hk (D_out hD2 [0, 1, 2, 3, 4, 5] [6, 7, 8, 9, 10, 11, 12, 13, 14, 15, 16] rfl rfl (by decide))
