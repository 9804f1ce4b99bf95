/-! a flag set offline, on both sides -/
theorem plo_spec (κ : ST) (x : Int32) : ∀ n pl, (∃ i, pl ≤ i ∧ i < pl + n ∧ nI (κ 1 i) = x ∧ plo κ x n pl = i + 1) ∨ (plo κ x n pl = 0 ∧ ∀ i, pl ≤ i → i < pl + n → ¬ nI (κ 1 i) = x) := by
  intro n
  induction n with
  | zero => intro pl; exact Or.inr ⟨rfl, fun i h1 h2 => by omega⟩
  | succ n ih =>
    intro pl
    simp only [plo]
    by_cases q : nI (κ 1 pl) = x
    · rw [decide_eq_true q, cond_true]
      exact Or.inl ⟨pl, Nat.le_refl _, by omega, q, rfl⟩
    · rw [decide_eq_false q, cond_false]
      rcases ih (pl + 1) with ⟨i, a, b, c, d⟩ | ⟨a, b⟩
      · exact Or.inl ⟨i, by omega, by omega, c, d⟩
      · refine Or.inr ⟨a, fun i h1 h2 => ?_⟩
        rcases Nat.lt_or_ge pl i with z | z
        · exact b i z (by omega)
        · have : i = pl := by omega
          subst this; exact q
theorem wpl_spec (μ : ST) (cl : Nat) (x : Int32) : ∀ n, (∃ i, i < n ∧ nI (μ 17 (10 * cl + i)) = x ∧ wpl μ cl x n = 10 * cl + i + 1) ∨ (wpl μ cl x n = 0 ∧ ∀ i, i < n → ¬ nI (μ 17 (10 * cl + i)) = x) := by
  intro n
  induction n with
  | zero => exact Or.inr ⟨rfl, fun i h => by omega⟩
  | succ n ih =>
    simp only [wpl]
    by_cases q : nI (μ 17 (10 * cl + n)) = x
    · rw [decide_eq_true q, cond_true]
      exact Or.inl ⟨n, Nat.lt_succ_self n, q, rfl⟩
    · rw [decide_eq_false q, cond_false]
      rcases ih with ⟨i, a, b, c⟩ | ⟨a, b⟩
      · exact Or.inl ⟨i, by omega, b, c⟩
      · refine Or.inr ⟨a, fun i h => ?_⟩
        rcases Nat.lt_or_ge i n with z | z
        · exact b i z
        · have : i = n := by omega
          subst this; exact q
theorem place_eq {c : Nat} {κ μ : ST} (C : IC c κ μ) (h60 : μ 0 0 ≤ 60) (x : Int32) : (plo κ x (κ 0 4) 0 = 0 ∧ wpl μ c x (μ 16 c) = 0) ∨ (∃ i, i < κ 0 4 ∧ x = nI (κ 1 i) ∧ plo κ x (κ 0 4) 0 = i + 1 ∧ wpl μ c x (μ 16 c) = 10 * c + i + 1) := by
  obtain ⟨⟨a1, a2, a3, a4, a5, a6⟩, ⟨b1, b2, b3, b4, b5⟩, cw, cf, cm, cdd⟩ := C
  rw [← a5]
  rcases plo_spec κ x (κ 0 4) 0 with ⟨i, -, d2, d3, d4⟩ | ⟨d1, d2⟩
  · rcases wpl_spec μ c x (κ 0 4) with ⟨j, e1, e2, e3⟩ | ⟨e1, e2⟩
    · refine Or.inr ⟨i, by omega, d3.symm, d4, ?_⟩
      rw [e3]
      rw [← (cw j (by omega)).1, ← d3] at e2
      have m1 := cm i (by omega)
      have m2 := cm j e1
      have m3 := (nI_eq (by omega) (by omega)).mp e2
      rcases Nat.lt_trichotomy i j with z | z | z
      · exact absurd m3.symm (cdd i j z e1)
      · rw [z]
      · exact absurd m3 (cdd j i z (by omega))
    · exact absurd (by rw [← (cw i (by omega)).1]; exact d3) (e2 i (by omega))
  · rcases wpl_spec μ c x (κ 0 4) with ⟨j, e1, e2, e3⟩ | ⟨e1, e2⟩
    · exact absurd (by rw [(cw j (by omega)).1]; exact e2) (d2 j (Nat.zero_le _) (by omega))
    · exact Or.inl ⟨d1, e1⟩
theorem flo_lo {μ : ST} {cl j k w its r : Nat} (h1 : 1 ≤ r) (h2 : r ≤ 17) : flo μ cl j k w its r = μ r := by
  unfold flo
  rw [su_ne (by omega), su_ne (by omega), su_ne (by omega), su_ne (by omega), su_ne (by omega), sv_ne (by omega)]
theorem flo_eq {σ κ κo μ : ST} {c co i k w : Nat} (hc : c < 2) (hco : co < 2) (hne : co ≠ c) (I : IS σ μ) (C : IC c κ μ) (Co : IC co κo μ) (R : IR μ) (hC : CI κ) (hi : i < κ 0 4) (hk : k < 4) (hw : w < 2) (hfl : κ 0 5 < 10) :
    IS σ (flo μ c (κ 1 i) k w (10 * c + i)) ∧ IC c (nte κ i k w) (flo μ c (κ 1 i) k w (10 * c + i)) ∧ IC co κo (flo μ c (κ 1 i) k w (10 * c + i)) ∧ IR (flo μ c (κ 1 i) k w (10 * c + i)) ∧ CI (nte κ i k w) := by
  obtain ⟨⟨a1, a2, a3, a4, a5, a6⟩, ⟨b1, b2, b3, b4, b5⟩, cw, cf, cm, cdd⟩ := C
  have b49 := I.2.2.2.2.2.2.2.2.2
  have h60 := I.1.2.1
  obtain ⟨R1, R2, R3, R4⟩ := R
  have hmi := cm i hi
  have hwn : ∀ j, wn (μ 18 j) k (nb w) < 16 := fun j => wn_lt (R1 j) hk _
  have f20 : flo μ c (κ 1 i) k w (10 * c + i) 20 = upN (μ 20) (10 * c + κ 0 5) (κ 1 i) := by rw [a6]; rfl
  have f21 : flo μ c (κ 1 i) k w (10 * c + i) 21 = upN (μ 21) (10 * c + κ 0 5) k := by rw [a6]; rfl
  have f22 : flo μ c (κ 1 i) k w (10 * c + i) 22 = upN (μ 22) (10 * c + κ 0 5) w := by rw [a6]; rfl
  have f19 : flo μ c (κ 1 i) k w (10 * c + i) 19 = upN (μ 19) c (κ 0 5 + 1) := by rw [a6]; rfl
  have f18 : flo μ c (κ 1 i) k w (10 * c + i) 18 = upN (μ 18) (10 * c + i) (wn (μ 18 (10 * c + i)) k (nb w)) := rfl
  have hb : ∀ r j, flo μ c (κ 1 i) k w (10 * c + i) r j < 20000 := by
    have h19 := b49 19 c
    have h18 := hwn (10 * c + i)
    exact su_lt (su_lt (su_lt (su_lt (su_lt (sv_lt b49 (by decide)) (up_lt (b49 20) (by omega))) (up_lt (b49 21) (by omega))) (up_lt (b49 22) (by omega))) (up_lt (b49 19) (by omega))) (up_lt (b49 18) (by omega))
  refine ⟨IS_fr I rfl rfl (fun r h1 h2 => flo_lo h1 (by omega)) hb, ⟨⟨?_, ?_, ?_, ?_, ?_, ?_⟩, ⟨b1, b2, b3, b4, ?_⟩, fun j hj => ⟨(cw j hj).1, ?_⟩, fun j hj => ?_, cm, cdd⟩, ?_, ⟨?_, ?_, ?_, ?_⟩, ?_⟩
  · rw [flo_lo (by decide) (by decide)]; exact a1
  · rw [flo_lo (by decide) (by decide)]; exact a2
  · rw [flo_lo (by decide) (by decide)]; exact a3
  · exact a4
  · rw [flo_lo (by decide) (by decide)]; exact a5
  · rw [f19, upN_same]; rfl
  · show κ 0 5 + 1 ≤ 10
    omega
  · rw [f18]
    show upN (κ 2) i (wn (κ 2 i) k (nb w)) j = _
    by_cases q : j = i
    · subst q; rw [upN_same, upN_same, (cw j hj).2]
    · rw [upN_ne _ q, upN_ne _ (show 10 * c + j ≠ 10 * c + i by omega)]; exact (cw j hj).2
  · rw [f20, f21, f22]
    show upN (κ 3) (κ 0 5) (κ 1 i) j = _ ∧ upN (κ 4) (κ 0 5) k j = _ ∧ upN (κ 5) (κ 0 5) w j = _ ∧ upN (κ 3) (κ 0 5) (κ 1 i) j < μ 0 0
    have hj2 : j < κ 0 5 + 1 := hj
    by_cases q : j = κ 0 5
    · rw [q]; simp only [upN_same]; exact ⟨trivial, trivial, trivial, hmi⟩
    · simp only [upN_ne _ q, upN_ne _ (show 10 * c + j ≠ 10 * c + κ 0 5 by omega)]
      exact cf j (by omega)
  · have hco5 := Co.2.1.2.2.2.2
    refine IC_fr Co (Nat.le_refl _) (Nat.le_refl _) (by rw [flo_lo (by decide) (by decide)]) (by rw [flo_lo (by decide) (by decide)]) (by rw [flo_lo (by decide) (by decide)]) rfl (by rw [flo_lo (by decide) (by decide)]) (by rw [f19, upN_ne _ hne]) (fun j hj => ⟨by rw [flo_lo (by decide) (by decide)], ?_⟩) (fun j hj => ⟨?_, ?_, ?_⟩)
    · rw [f18, upN_ne _ (by omega)]
    · rw [f20, upN_ne _ (by omega)]
    · rw [f21, upN_ne _ (by omega)]
    · rw [f22, upN_ne _ (by omega)]
  · rw [f18]; exact up_lt R1 (hwn _)
  · rw [f20]; exact up_lt R2 (by omega)
  · rw [f21]; exact up_lt R3 hk
  · rw [f22]; exact up_lt R4 hw
  · obtain ⟨c1, c2, c3, c4, c5, c6⟩ := hC
    have h16 := wn_lt (c5 i) hk (nb w)
    exact CI_lst ⟨c1, c2, c3, c4, up_lt c5 h16, su_lt c6 (up_lt (c6 2) (by omega))⟩ (by show κ 0 5 + 1 < _; omega) (c4 i) hk hw
/-! what holds between the calls -/
def Inv9 (n : Nat) (σ κ0 κ1 μ : ST) : Prop := IS σ μ ∧ IC 0 κ0 μ ∧ IC 1 κ1 μ ∧ IR μ ∧ CI κ0 ∧ CI κ1 ∧ μ 0 1 + κ0 0 5 + κ1 0 5 ≤ n ∧ κ0 0 3 ≤ n ∧ κ1 0 3 ≤ n
theorem Inv_up {n : Nat} {σ κ0 κ1 μ : ST} (h : Inv9 n σ κ0 κ1 μ) : Inv9 (n + 1) σ κ0 κ1 μ := by
  obtain ⟨a, b, c, d, e, f, g, i, j⟩ := h
  exact ⟨a, b, c, d, e, f, by omega, by omega, by omega⟩
theorem Inv_srv {n : Nat} {σ σ' κ0 κ1 μ μ' : ST} (h : Inv9 n σ κ0 κ1 μ) (I : IS σ' μ') (h0 : μ 0 0 ≤ μ' 0 0) (h1 : μ 0 1 ≤ μ' 0 1) (h2 : μ' 0 1 ≤ μ 0 1 + 1) (hr : ∀ r, 13 ≤ r → μ' r = μ r) : Inv9 (n + 1) σ' κ0 κ1 μ' := by
  obtain ⟨a, b, c, d, e, f, g, i, j⟩ := h
  exact ⟨I, IC_hi b h0 h1 hr, IC_hi c h0 h1 hr, IR_hi d hr, e, f, by omega, by omega, by omega⟩
theorem Inv_th {n : Nat} {σ κ0 κ1 μ : ST} (v : Nat) (h : Inv9 n σ κ0 κ1 μ) (hv : v < 20000) : Inv9 (n + 1) σ κ0 κ1 (sv μ 0 2 v) := Inv_srv h (IS_th h.1 hv) (Nat.le_refl _) (Nat.le_refl _) (Nat.le_succ _) (fun r hr => sv_ne (by omega))
/-! changes -/
theorem IS_add {σ μ : ST} {t b th : Nat} (I : IS σ μ) (hc : μ 0 0 < 60) (hb1 : 1 ≤ b) (hb2 : b < 64) (ht : t ≤ 9999) (hth : th ≤ 9) (hst : μ 0 1 < 3000) : IS (lc σ t b th) (ada μ t b th) := by
  have b3 := I.2.2.2.2.2.2.2.2.1
  have b4 := I.2.2.2.2.2.2.2.2.2
  have c1 := I.1.1
  have c3 := I.1.2.2
  refine IS_come (t := t) (b := b) (th := th) I hc hb1 hb2 (by omega) rfl rfl rfl rfl rfl rfl rfl rfl rfl rfl rfl rfl rfl rfl rfl rfl rfl rfl rfl rfl rfl rfl rfl rfl rfl ?_ ?_
  · have hX : ∀ k i, (sv (su (su (su σ 2 (upN (σ 2) (σ 1 0) t)) 3 (upN (σ 3) (σ 1 0) th)) 6 (pio (upN (σ 2) (σ 1 0) t) t (σ 1 0) (min (σ 1 0) 59) (σ 6))) 1 0 (σ 1 0 + 1)) k i < 20000 :=
      sv_lt (su_lt (su_lt (su_lt b3 (up_lt (b3 2) (by omega))) (up_lt (b3 3) (by omega))) (pio_lt (b3 6) (by omega) _)) (by omega)
    exact chg_b hX (show σ 7 0 < 4000 by omega) (by omega) (by omega) (by decide)
  · have hN := nts_b (μ := sv μ 0 2 0) (its := 0) (m := μ 0 0) (wd := 0) (w := 0) (sv_lt b4 (by decide)) (show μ 0 1 < 4000 by omega) (by decide) (by omega) (by decide) (by decide)
    exact sv_lt (su_lt (su_lt (su_lt (su_lt hN (up_lt (b4 1) (by omega))) (up_lt (b4 2) (by omega))) (up_lt (b4 4) (by omega))) (up_lt (b4 5) (by omega))) (by omega)
theorem IS_move {σ μ : ST} {j b : Nat} (I : IS σ μ) (hj : j < μ 0 0) (h6 : μ 6 j = 0) (hb1 : 1 ≤ b) (hb2 : b < 64) (hst : μ 0 1 < 3000) : IS (chg σ j b (σ 5 j)) (su (nts (sv μ 0 2 0) 1 j 0 0) 2 (upN (μ 2) j b)) := by
  have b3 := I.2.2.2.2.2.2.2.2.1
  have b4 := I.2.2.2.2.2.2.2.2.2
  have c3 := I.1.2.2
  have h60 := I.1.2.1
  have h5 : σ 5 j = μ 3 j := (I.2.1 j).2.2.1
  have h16 : μ 3 j < 16 := (I.2.1 j).2.2.2.2
  refine IS_step (j := j) (its := 1) (wd := 0) (ws := 0) (b := b) (w := μ 3 j) (g := 0) I hj h6 hb1 hb2 h16 (Or.inl rfl) (by omega) (by decide) (by decide) (by decide) (fun z => by omega) (fun _ => rfl)
    rfl rfl rfl rfl ?_ rfl rfl rfl rfl rfl ?_ rfl rfl rfl rfl ?_ rfl rfl ?_ rfl rfl rfl rfl rfl rfl (chg_b b3 (by omega) (by omega) (by omega) (b3 5 j)) ?_
  · show upN (σ 5) j (σ 5 j) = _
    rw [h5]
  · show upN (σ 11) ((σ 7 0 + 1) % 40) (σ 5 j) = _
    rw [h5]
  · exact (upN_self (μ 3) j).symm
  · show μ 6 = upN (μ 6) j 0
    rw [← h6]; exact (upN_self (μ 6) j).symm
  · exact su_lt (nts_b (sv_lt b4 (by decide)) (show μ 0 1 < 4000 by omega) (by decide) (by omega) (by decide) (by decide)) (up_lt (b4 2) (by omega))
theorem IS_destroy {σ μ : ST} {j : Nat} (I : IS σ μ) (hj : j < μ 0 0) (h6 : μ 6 j = 0) (hst : μ 0 1 < 3000) : IS (chg σ j 0 (σ 5 j)) (su (nts (sv μ 0 2 0) 3 j 0 0) 6 (upN (μ 6) j (μ 0 1 + 1))) := by
  have b3 := I.2.2.2.2.2.2.2.2.1
  have b4 := I.2.2.2.2.2.2.2.2.2
  have c3 := I.1.2.2
  have h60 := I.1.2.1
  have h5 : σ 5 j = μ 3 j := (I.2.1 j).2.2.1
  have h16 : μ 3 j < 16 := (I.2.1 j).2.2.2.2
  have h63 : μ 2 j < 64 := (I.2.1 j).2.2.2.1
  have h1 : 1 ≤ μ 2 j := ((I.2.1 j).1 hj).2.2.2
  refine IS_step (j := j) (its := 3) (wd := 0) (ws := 0) (b := μ 2 j) (w := μ 3 j) (g := μ 0 1 + 1) I hj h6 h1 h63 h16 (Or.inr rfl) (by omega) (by decide) (by decide) (by decide) (fun z => by omega) (fun _ => rfl)
    rfl rfl rfl ?_ ?_ rfl rfl rfl rfl rfl ?_ rfl rfl rfl ?_ ?_ rfl rfl rfl rfl rfl rfl rfl rfl rfl (chg_b b3 (by omega) (by omega) (by decide) (b3 5 j)) ?_
  · rw [if_neg (Nat.succ_ne_zero _)]; rfl
  · show upN (σ 5) j (σ 5 j) = _
    rw [h5]
  · show upN (σ 11) ((σ 7 0 + 1) % 40) (σ 5 j) = _
    rw [h5]
  · exact (upN_self (μ 2) j).symm
  · exact (upN_self (μ 3) j).symm
  · exact su_lt (nts_b (sv_lt b4 (by decide)) (show μ 0 1 < 4000 by omega) (by decide) (by omega) (by decide) (by decide)) (up_lt (b4 6) (by omega))
