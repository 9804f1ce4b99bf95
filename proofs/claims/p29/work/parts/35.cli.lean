/-! the clients by themselves -/
theorem ldk_1 {σ κ : ST} : ∀ n i, ldk σ κ n 1 i = if i < n then wml σ (κ 0 0) i else κ 1 i := by
  intro n
  induction n with
  | zero => intro i; rw [if_neg (Nat.not_lt_zero _)]; rfl
  | succ n ih =>
    intro i
    show upN (ldk σ κ n 1) n (wml σ (κ 0 0) n) i = _
    by_cases q : i = n
    · subst q; rw [upN_same, if_pos (Nat.lt_succ_self _)]
    · rw [upN_ne _ q, ih i]
      by_cases z : i < n
      · rw [if_pos z, if_pos (by omega)]
      · rw [if_neg z, if_neg (by omega)]
theorem ldk_2 {σ κ : ST} : ∀ n i, ldk σ κ n 2 i = if i < n then σ 5 (wml σ (κ 0 0) i) else κ 2 i := by
  intro n
  induction n with
  | zero => intro i; rw [if_neg (Nat.not_lt_zero _)]; rfl
  | succ n ih =>
    intro i
    show upN (ldk σ κ n 2) n (σ 5 (wml σ (κ 0 0) n)) i = _
    by_cases q : i = n
    · subst q; rw [upN_same, if_pos (Nat.lt_succ_self _)]
    · rw [upN_ne _ q, ih i]
      by_cases z : i < n
      · rw [if_pos z, if_pos (by omega)]
      · rw [if_neg z, if_neg (by omega)]
theorem ldk_o {σ κ : ST} {r : Nat} (h1 : r ≠ 1) (h2 : r ≠ 2) : ∀ n, ldk σ κ n r = ldk σ κ 0 r := by
  intro n
  induction n with
  | zero => rfl
  | succ n ih =>
    rw [← ih]
    simp only [ldk]
    rw [su_ne h2, su_ne h1]
theorem CI_ldk {σ κ : ST} (C : CI κ) (hB : ∀ k i, σ k i < 20000) (h5 : ∀ i, σ 5 i < 16) : ∀ n, (∀ i, i < n → wml σ (κ 0 0) i < 60) → CI (ldk σ κ n) := by
  intro n
  induction n with
  | zero =>
    intro _
    have hw : wsz σ κ ≤ 60 := Nat.le_trans (Nat.min_le_right _ _) (cnt_le _ _)
    have h7 := hB 7 0
    exact ⟨C.1, C.2.1, C.2.2.1, C.2.2.2.1, C.2.2.2.2.1, sv_lt (sv_lt C.2.2.2.2.2 (by omega)) (by omega)⟩
  | succ n ih =>
    intro h
    obtain ⟨c3, c4, c5, c1, c2, cB⟩ := ih (fun i hi => h i (Nat.lt_succ_of_lt hi))
    have hw := h n (Nat.lt_succ_self n)
    have hk := h5 (wml σ (κ 0 0) n)
    exact ⟨c3, c4, c5, up_lt c1 hw, up_lt c2 hk, su_lt (su_lt cB (up_lt (cB 1) (by omega))) (up_lt (cB 2) (by omega))⟩
/-- what a client is between the calls -/
def JD (κ : ST) : Prop := ∀ i j, i < j → j < κ 0 4 → κ 1 i ≠ κ 1 j
def JC (σ κ : ST) : Prop := CI κ ∧ κ 0 0 < 6 ∧ κ 0 1 ≤ 10 ∧ κ 0 2 ≤ σ 7 0 ∧ κ 0 4 ≤ 10 ∧ JD κ
theorem JC_up {σ σ' κ : ST} (C : JC σ κ) (h : σ 7 0 ≤ σ' 7 0) : JC σ' κ := ⟨C.1, C.2.1, C.2.2.1, Nat.le_trans C.2.2.2.1 h, C.2.2.2.2⟩
/-- the client holds what a fresh one would load -/
def Fresh (σ κ : ST) : Prop := κ 0 2 = σ 7 0 ∧ κ 0 4 = min (κ 0 1) (cnt (bxs σ (κ 0 0)) 60) ∧ ∀ i, i < κ 0 4 → lat σ (ms (bxs σ (κ 0 0)) 60) (nI i) (σ 1 0) 0 0 = κ 1 i + 1 ∧ κ 2 i = σ 5 (κ 1 i) ∧ σ 4 (κ 1 i) ≠ 0 ∧ κ 1 i < 60
theorem wml_w {σ : ST} (J : JS σ) {b i : Nat} (hi : i < cnt (bxs σ b) 60) : ∃ p, p < σ 1 0 ∧ lat σ (ms (bxs σ b) 60) (nI i) (σ 1 0) 0 0 = wml σ b i + 1 ∧ wml σ b i = σ 6 p ∧ bxs σ b (σ 6 p) = true ∧ cnt (fun x => bxs σ b (σ 6 x)) p = i := by
  obtain ⟨p, h1, h2, h3, h4⟩ := lat_w J hi
  have e : wml σ b i = σ 6 p := by unfold wml; rw [h2]; rfl
  exact ⟨p, h1, by rw [h2, e], e, h3, h4⟩
theorem load_ok {σ κ : ST} (J : JS σ) (C : CI κ) (hb : κ 0 0 < 6) (hw : κ 0 1 ≤ 10) :
    (∀ i, i < wsz σ κ → 0 < lat σ (ms (bxs σ (κ 0 0)) 60) (nI i) (σ 1 0) 0 0 ∧ wml σ (κ 0 0) i < 60) ∧ JC σ (ldk σ κ (wsz σ κ)) ∧ Fresh σ (ldk σ κ (wsz σ κ)) := by
  have hlt : ∀ i, i < wsz σ κ → i < cnt (bxs σ (κ 0 0)) 60 := fun i hi => Nat.lt_of_lt_of_le hi (Nat.min_le_right _ _)
  have h60 : ∀ i, i < wsz σ κ → wml σ (κ 0 0) i < 60 := fun i hi => by
    obtain ⟨p, -, -, e, -⟩ := wml_w J (hlt i hi)
    rw [e]; exact J.2.2.2.2.2.1 p
  have hws : wsz σ κ ≤ 10 := Nat.le_trans (Nat.min_le_left _ _) hw
  have e0 : ldk σ κ (wsz σ κ) 0 = ldk σ κ 0 0 := ldk_o (by decide) (by decide) _
  have f0 : ldk σ κ (wsz σ κ) 0 0 = κ 0 0 := by rw [e0]; rfl
  have f1 : ldk σ κ (wsz σ κ) 0 1 = κ 0 1 := by rw [e0]; rfl
  have f2 : ldk σ κ (wsz σ κ) 0 2 = σ 7 0 := by rw [e0]; rfl
  have f4 : ldk σ κ (wsz σ κ) 0 4 = wsz σ κ := by rw [e0]; rfl
  refine ⟨fun i hi => ?_, ⟨CI_ldk C J.2.2.2.2.2.2.2 J.2.2.2.1 _ h60, by rw [f0]; exact hb, by rw [f1]; exact hw, by rw [f2]; exact Nat.le_refl _, by rw [f4]; exact hws, ?_⟩, f2, by rw [f4, f1, f0]; rfl, ?_⟩
  · obtain ⟨p, -, e, -⟩ := wml_w J (hlt i hi)
    rw [e]; exact ⟨Nat.succ_pos _, h60 i hi⟩
  · intro i j hij hj
    rw [f4] at hj
    rw [ldk_1, ldk_1, if_pos (by omega), if_pos hj]
    obtain ⟨p, p1, -, p3, -, p5⟩ := wml_w J (hlt i (by omega))
    obtain ⟨r, r1, -, r3, -, r5⟩ := wml_w J (hlt j hj)
    rw [p3, r3]
    intro e
    have := ord_inj J p1 r1 e
    subst this
    omega
  · intro i hi
    rw [f4] at hi
    obtain ⟨p, p1, p2, p3, p4, -⟩ := wml_w J (hlt i hi)
    rw [f0, ldk_1, ldk_2, if_pos hi, if_pos hi]
    exact ⟨p2, rfl, by rw [p3]; exact bxs_th p4, h60 i hi⟩
/-! the replay of a sync -/
def cfl (σ κ : ST) (i : Nat) : Bool := icf σ κ (κ 3 i) (κ 4 i) (κ 5 i)
def rkf (σ κ : ST) : Nat → ST
  | 0 => σ
  | i + 1 => cond (cfl σ κ i) (rkf σ κ i) (sk (rkf σ κ i) (κ 3 i) (κ 4 i) (κ 5 i))
theorem rpl_congr {σ κ κ' : ST} : ∀ n, (∀ j, j < n → κ 3 j = κ' 3 j ∧ κ 4 j = κ' 4 j ∧ κ 5 j = κ' 5 j) → rpl σ κ n = rpl σ κ' n := by
  intro n
  induction n with
  | zero => intro _; rfl
  | succ n ih =>
    intro h
    obtain ⟨a, b, c⟩ := h n (Nat.lt_succ_self n)
    simp only [rpl]
    rw [ih (fun j hj => h j (Nat.lt_succ_of_lt hj)), a, b, c]
theorem loc_spec (σ κ : ST) : ∀ i, loc σ κ i 0 2 = κ 0 2 ∧ loc σ κ i 0 5 + cnt (cfl σ κ) i = i ∧ (∀ j, i ≤ j → loc σ κ i 3 j = κ 3 j ∧ loc σ κ i 4 j = κ 4 j ∧ loc σ κ i 5 j = κ 5 j) ∧ rpl σ (loc σ κ i) (loc σ κ i 0 5) = rkf σ κ i ∧ (loc σ κ i 0 0 = κ 0 0 ∧ loc σ κ i 0 1 = κ 0 1 ∧ loc σ κ i 0 3 = κ 0 3 ∧ loc σ κ i 0 4 = κ 0 4) ∧ loc σ κ i 1 = κ 1 ∧ loc σ κ i 2 = κ 2 := by
  intro i
  induction i with
  | zero => exact ⟨rfl, rfl, fun j _ => ⟨rfl, rfl, rfl⟩, rfl, ⟨rfl, rfl, rfl, rfl⟩, rfl, rfl⟩
  | succ i ih =>
    obtain ⟨a1, a2, a3, a4, ⟨a5, a6, a7, a8⟩, a9, a10⟩ := ih
    obtain ⟨c1, c2, c3⟩ := a3 i (Nat.le_refl _)
    have ec : icf σ (loc σ κ i) (loc σ κ i 3 i) (loc σ κ i 4 i) (loc σ κ i 5 i) = cfl σ κ i := by
      rw [c1, c2, c3]; unfold cfl icf; rw [a1]
    simp only [loc, rkf]
    rw [ec, c1, c2, c3]
    cases hc : cfl σ κ i
    · simp only [cond_false]
      generalize hX : loc σ κ i = X at *
      refine ⟨a1, ?_, fun j hj => ?_, ?_, ⟨a5, a6, a7, a8⟩, a9, a10⟩
      · rw [← cnt_f hc]
        show X 0 5 + 1 + _ = _
        omega
      · obtain ⟨d1, d2, d3⟩ := a3 j (by omega)
        have hne : j ≠ X 0 5 := by omega
        exact ⟨(upN_ne (X 3) hne).trans d1, (upN_ne (X 4) hne).trans d2, (upN_ne (X 5) hne).trans d3⟩
      · show sk (rpl σ (lst X (κ 3 i) (κ 4 i) (κ 5 i)) (X 0 5)) (upN (X 3) (X 0 5) (κ 3 i) (X 0 5)) (upN (X 4) (X 0 5) (κ 4 i) (X 0 5)) (upN (X 5) (X 0 5) (κ 5 i) (X 0 5)) = _
        have hcg : rpl σ (lst X (κ 3 i) (κ 4 i) (κ 5 i)) (X 0 5) = rpl σ X (X 0 5) := rpl_congr (X 0 5) (fun j hj => ⟨upN_ne (X 3) (Nat.ne_of_lt hj), upN_ne (X 4) (Nat.ne_of_lt hj), upN_ne (X 5) (Nat.ne_of_lt hj)⟩)
        rw [upN_same, upN_same, upN_same, hcg, a4]
    · simp only [cond_true]
      refine ⟨a1, ?_, fun j hj => a3 j (by omega), a4, ⟨a5, a6, a7, a8⟩, a9, a10⟩
      rw [← cnt_t hc]; omega
theorem sk_f {σ : ST} {j k w : Nat} : sk σ j k w 1 0 = σ 1 0 ∧ sk σ j k w 4 = σ 4 ∧ σ 7 0 ≤ sk σ j k w 7 0 ∧ sk σ j k w 7 0 ≤ σ 7 0 + 1 := by
  unfold sk
  cases decide (σ 5 j = wn (σ 5 j) k (nb w))
  · exact ⟨rfl, upN_self (σ 4) j, Nat.le_succ _, Nat.le_refl _⟩
  · exact ⟨rfl, rfl, Nat.le_refl _, Nat.le_succ _⟩
theorem cfl_th {σ κ : ST} {i : Nat} (h : cfl σ κ i = false) : σ 4 (κ 3 i) ≠ 0 := fun e => by
  unfold cfl icf at h
  rw [decide_eq_true e] at h
  exact absurd h (by simp)
theorem rkf_all {σ κ : ST} (J : JS σ) (C : CI κ) (h7 : σ 7 0 < 3000) : ∀ i, i ≤ 10 → JS (rkf σ κ i) ∧ rkf σ κ i 1 0 = σ 1 0 ∧ rkf σ κ i 4 = σ 4 ∧ σ 7 0 ≤ rkf σ κ i 7 0 ∧ rkf σ κ i 7 0 ≤ σ 7 0 + i ∧ ∀ st M bx F, SN σ st M bx F → SN (rkf σ κ i) st M bx F := by
  intro i
  induction i with
  | zero => intro _; exact ⟨J, rfl, rfl, Nat.le_refl _, Nat.le_refl _, fun _ _ _ _ h => h⟩
  | succ i ih =>
    intro hi
    obtain ⟨a1, a2, a3, a4, a5, a6⟩ := ih (by omega)
    simp only [rkf]
    cases hc : cfl σ κ i
    · simp only [cond_false]
      have hth := cfl_th hc
      have hj : κ 3 i < σ 1 0 := Nat.lt_of_not_le (fun h => hth (J.2.1 _ h).1)
      obtain ⟨s1, s2, s3, s4⟩ := sk_f (σ := rkf σ κ i) (j := κ 3 i) (k := κ 4 i) (w := κ 5 i)
      exact ⟨JS_sk a1 (by rw [a2]; exact hj) (C.2.1 i) (by omega), by rw [s1, a2], by rw [s2, a3], by omega, by omega, fun st M bx F h => SN_sk (a6 st M bx F h)⟩
    · simp only [cond_true]
      exact ⟨a1, a2, a3, a4, by omega, a6⟩
/-- the client with its fresh load counted -/
def syK (σ κ : ST) : ST := cond (decide (σ 7 0 - κ 0 2 ≤ 40)) κ (sv κ 0 3 (κ 0 3 + 1))
theorem syK_f {σ κ : ST} (C : CI κ) (h3 : κ 0 3 < 1000) : CI (syK σ κ) ∧ syK σ κ 0 0 = κ 0 0 ∧ syK σ κ 0 1 = κ 0 1 ∧ syK σ κ 0 2 = κ 0 2 ∧ syK σ κ 0 5 = κ 0 5 ∧ syK σ κ 0 3 ≤ κ 0 3 + 1 := by
  unfold syK
  cases decide (σ 7 0 - κ 0 2 ≤ 40)
  · exact ⟨⟨C.1, C.2.1, C.2.2.1, C.2.2.2.1, C.2.2.2.2.1, sv_lt C.2.2.2.2.2 (by omega)⟩, rfl, rfl, rfl, rfl, Nat.le_refl _⟩
  · exact ⟨C, rfl, rfl, rfl, rfl, Nat.le_succ _⟩
theorem sync_pre {σ κ : ST} (J : JS σ) (C : CI κ) (hb : κ 0 0 < 6) (hw : κ 0 1 ≤ 10) (h5 : κ 0 5 ≤ 10) (h7 : σ 7 0 < 3000) :
    (CI (syB σ κ) ∧ syB σ κ 0 5 ≤ 10 ∧ (∀ k i, syS σ κ k i < 1073741824) ∧ CI (syC σ κ) ∧ syS σ κ 1 0 ≤ 60 ∧ syC σ κ 0 0 < 6 ∧ syC σ κ 0 1 ≤ 10 ∧ ∀ i, i < wsz (syS σ κ) (syC σ κ) → 0 < lat (syS σ κ) (ms (bxs (syS σ κ) (syC σ κ 0 0)) 60) (nI i) (syS σ κ 1 0) 0 0 ∧ wml (syS σ κ) (syC σ κ 0 0) i < 60) ∧
    (JS (syS σ κ) ∧ syS σ κ 1 0 = σ 1 0 ∧ syS σ κ 4 = σ 4 ∧ σ 7 0 ≤ syS σ κ 7 0 ∧ syS σ κ 7 0 ≤ σ 7 0 + κ 0 5 ∧ (∀ st M bx F, SN σ st M bx F → SN (syS σ κ) st M bx F)) ∧ JC (syS σ κ) (syD σ κ) ∧ Fresh (syS σ κ) (syD σ κ) ∧ syD σ κ 0 0 = κ 0 0 ∧ syD σ κ 0 1 = κ 0 1 ∧ syD σ κ 0 3 = κ 0 3 ∧ syD σ κ 0 5 = 0 := by
  obtain ⟨l1, l2, l3, l4, ⟨l5, l6, l7, l8⟩, l9, l10⟩ := loc_spec σ κ (κ 0 5)
  obtain ⟨m1, m2, m3⟩ := loc_all (σ := σ) C (κ 0 5) h5
  have eS : syS σ κ = rkf σ κ (κ 0 5) := l4
  obtain ⟨r1, r2, r3, r4, r5, r6⟩ := rkf_all J C h7 (κ 0 5) h5
  rw [← eS] at r1 r2 r3 r4 r5 r6
  have hCC : CI (syC σ κ) := ⟨m1.1, m1.2.1, m1.2.2.1, m1.2.2.2.1, m1.2.2.2.2.1, sv_lt m1.2.2.2.2.2 (by decide)⟩
  have c0 : syC σ κ 0 0 = κ 0 0 := l5
  have c1 : syC σ κ 0 1 = κ 0 1 := l6
  have c3 : syC σ κ 0 3 = κ 0 3 := l7
  have c5 : syC σ κ 0 5 = 0 := rfl
  obtain ⟨d1, d2, d3⟩ := load_ok (κ := syC σ κ) r1 hCC (by rw [c0]; exact hb) (by rw [c1]; exact hw)
  have e0 : syD σ κ 0 = ldk (syS σ κ) (syC σ κ) 0 0 := ldk_o (by decide) (by decide) _
  refine ⟨⟨m1, Nat.le_trans m2 h5, fun k i => Nat.lt_trans (r1.2.2.2.2.2.2.2 k i) (by decide), hCC, r1.1, by rw [c0]; exact hb, by rw [c1]; exact hw, d1⟩, ⟨r1, r2, r3, r4, r5, r6⟩, d2, d3, ?_, ?_, ?_, ?_⟩
  · rw [e0, ← c0]; rfl
  · rw [e0, ← c1]; rfl
  · rw [e0, ← c3]; rfl
  · rw [e0, ← c5]; rfl
theorem syB_0 {σ κ : ST} (h : κ 0 5 = 0) : κ 0 5 - syB σ κ 0 5 = 0 := by rw [h, Nat.zero_sub]
theorem syK_5 {σ κ : ST} : syK σ κ 0 5 = κ 0 5 := by
  unfold syK
  cases decide (σ 7 0 - κ 0 2 ≤ 40) <;> rfl
/-! a flag set offline -/
theorem plo_spec (κ : ST) (x : Int32) : ∀ n pl, (∃ i, pl ≤ i ∧ i < pl + n ∧ nI (κ 1 i) = x ∧ plo κ x n pl = i + 1) ∨ (plo κ x n pl = 0 ∧ ∀ i, pl ≤ i → i < pl + n → ¬ nI (κ 1 i) = x) := by
  intro n
  induction n with
  | zero => intro pl; exact Or.inr ⟨rfl, fun i h1 h2 => by omega⟩
  | succ n ih =>
    intro pl
    simp only [plo]
    by_cases q : nI (κ 1 pl) = x
    · rw [decide_eq_true q, cond_true]
      exact Or.inl ⟨pl, Nat.le_refl _, by omega, q, rfl⟩
    · rw [decide_eq_false q, cond_false]
      rcases ih (pl + 1) with ⟨i, a, b, c, d⟩ | ⟨a, b⟩
      · exact Or.inl ⟨i, by omega, by omega, c, d⟩
      · refine Or.inr ⟨a, fun i h1 h2 => ?_⟩
        rcases Nat.lt_or_ge pl i with z | z
        · exact b i z (by omega)
        · have : i = pl := by omega
          subst this; exact q
theorem plo_at {κ : ST} {i : Nat} (C : CI κ) (hD : JD κ) (hi : i < κ 0 4) : plo κ (nI (κ 1 i)) (κ 0 4) 0 = i + 1 := by
  rcases plo_spec κ (nI (κ 1 i)) (κ 0 4) 0 with ⟨j, -, h2, h3, h4⟩ | ⟨-, h⟩
  · have b1 := C.2.2.2.1 i
    have b2 := C.2.2.2.1 j
    have e := nI_inj (by omega) (by omega) h3
    rw [h4]
    rcases Nat.lt_trichotomy i j with z | z | z
    · exact absurd e.symm (hD i j z (by omega))
    · rw [z]
    · exact absurd e (hD j i z hi)
  · exact absurd rfl (h i (Nat.zero_le _) (by omega))
theorem JC_nte {σ κ : ST} {i k w : Nat} (C : JC σ κ) (hi : i < 10) (hk : k < 4) (hw : w < 2) (h5 : κ 0 5 < 10) : JC σ (nte κ i k w) := by
  obtain ⟨c1, c2, c3, c4, c5, c6⟩ := C
  have hwn : wn (κ 2 i) k (nb w) < 16 := wn_lt (c1.2.2.2.2.1 i) hk _
  have c9 : CI (su κ 2 (upN (κ 2) i (wn (κ 2 i) k (nb w)))) := ⟨c1.1, c1.2.1, c1.2.2.1, c1.2.2.2.1, up_lt c1.2.2.2.2.1 hwn, su_lt c1.2.2.2.2.2 (up_lt (c1.2.2.2.2.2 2) (by omega))⟩
  refine ⟨CI_lst c9 (by show κ 0 5 + 1 < 1073741824; omega) (c1.2.2.2.1 i) hk hw, c2, c3, c4, c5, c6⟩
theorem nte_2 {κ : ST} {i k w : Nat} : nte κ i k w 2 i = wn (κ 2 i) k (nb w) := upN_same (κ 2) i _
theorem kn_bit0 : ∀ x : Fin 16, ∀ k : Fin 4, ∀ b : Bool, (nI (wn x.val k.val b) >>> (nI k.val &&& 31)) &&& nI 1 = nI (b2n b) := by decide +kernel
theorem kn_bit {x k w : Nat} (hx : x < 16) (hk : k < 4) (hw : w < 2) : (nI (wn x k (nb w)) >>> (nI k &&& 31)) &&& nI 1 = nI w := by
  rw [kn_bit0 ⟨x, hx⟩ ⟨k, hk⟩ (nb w)]
  rcases (show w = 0 ∨ w = 1 by omega) with rfl | rfl <;> rfl
theorem wn_idem0 : ∀ x : Fin 16, ∀ k : Fin 4, ∀ b : Bool, wn (wn x.val k.val b) k.val b = wn x.val k.val b := by decide +kernel
theorem sk_5 {σ : ST} {j k w : Nat} : sk σ j k w 5 j = wn (σ 5 j) k (nb w) := by
  unfold sk
  by_cases h : σ 5 j = wn (σ 5 j) k (nb w)
  · rw [decide_eq_true h]; exact h
  · rw [decide_eq_false h]; exact upN_same (σ 5) j _
theorem sk_idem {σ : ST} {j k w : Nat} (h5 : σ 5 j < 16) (hk : k < 4) : sk σ j k w 5 j = wn (sk σ j k w 5 j) k (nb w) := by
  rw [sk_5]; exact (wn_idem0 ⟨_, h5⟩ ⟨k, hk⟩ (nb w)).symm
theorem sk_same {σ : ST} {j k w : Nat} (h : σ 5 j = wn (σ 5 j) k (nb w)) : sk σ j k w = σ := by unfold sk; rw [decide_eq_true h]; rfl
theorem sk_7 {σ : ST} {j k w : Nat} : sk σ j k w 7 0 = cond (!(decide (σ 5 j = wn (σ 5 j) k (nb w)))) (σ 7 0 + 1) (σ 7 0) := by
  unfold sk
  cases decide (σ 5 j = wn (σ 5 j) k (nb w)) <;> rfl
/-- a mail moved -/
def mv (σ : ST) (j b : Nat) : ST := cond (decide (σ 4 j = b)) σ (chg σ j b (σ 5 j))
theorem mv_f {σ : ST} {j b : Nat} : mv σ j b 1 0 = σ 1 0 ∧ mv σ j b 4 = upN (σ 4) j b ∧ mv σ j b 5 = σ 5 ∧ σ 7 0 ≤ mv σ j b 7 0 ∧ mv σ j b 7 0 ≤ σ 7 0 + 1 := by
  unfold mv
  by_cases h : σ 4 j = b
  · rw [decide_eq_true h]; subst h; exact ⟨rfl, (upN_self (σ 4) j).symm, rfl, Nat.le_refl _, Nat.le_succ _⟩
  · rw [decide_eq_false h]; exact ⟨rfl, rfl, upN_self (σ 5) j, Nat.le_succ _, Nat.le_refl _⟩
theorem JS_mv {σ : ST} {j b : Nat} (J : JS σ) (hj : j < σ 1 0) (hb : b < 64) (h7 : σ 7 0 < 4000) : JS (mv σ j b) := by
  unfold mv
  cases decide (σ 4 j = b)
  · exact JS_chg J hj hb (J.2.2.2.1 j) h7
  · exact J
theorem SN_mv {σ : ST} {j b st M bx F : Nat} (S : SN σ st M bx F) : SN (mv σ j b) st M bx F := by
  unfold mv
  cases decide (σ 4 j = b)
  · exact SN_chg S
  · exact S
