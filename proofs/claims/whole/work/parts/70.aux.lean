/-! what the calls' cases rest on -/
theorem gu_at (g : Nat → Int64) (v : Int64) : gu g v (nI 0).toNatClampNeg = v := by unfold gu; exact pk_uLs
theorem gv_at (g : Nat → UInt64) (v : UInt64) : gv g v (nI 0).toNatClampNeg = v := by unfold gv vf_upd; simp
theorem iw_of {x : Int32} {a b : Nat} (ha : a < 2 ^ 31) (hb : b < 2 ^ 31) (h : iw x (nI a) (nI b) = true) : ∃ j, a ≤ j ∧ j ≤ b ∧ x = nI j := by
  simp only [iw, Bool.and_eq_true, Bool.not_eq_true', decide_eq_false_iff_not] at h
  obtain ⟨j, hj, rfl⟩ := nI_of (x := x) (fun q => h.1 (Int32.lt_of_lt_of_le q (nI_pos' ha)))
  exact ⟨j, Nat.le_of_not_lt (fun q => h.1 ((nI_ltI hj ha).mpr q)), Nat.le_of_not_lt (fun q => h.2 ((nI_ltI hb hj).mpr q)), rfl⟩
theorem cl_cases (x : Int32) : iw x (nI 0) (nI 1) = false ∨ x = nI 0 ∨ x = nI 1 := by
  cases h : iw x (nI 0) (nI 1)
  · exact Or.inl rfl
  · obtain ⟨j, -, j2, rfl⟩ := iw_of (by decide) (by decide) h
    rcases (show j = 0 ∨ j = 1 by omega) with rfl | rfl
    · exact Or.inr (Or.inl rfl)
    · exact Or.inr (Or.inr rfl)
theorem iq_eq (y : Int32) : iq y = iw y (oi 0) (nI 3) := by
  have h0 : (oi 0).toInt = -1 := by decide
  have h1 : (nI 0).toInt = 0 := by decide
  have h3 : (nI 3).toInt = 3 := by decide
  rw [Bool.eq_iff_iff]
  simp only [iq, iw, Bool.or_eq_true, Bool.and_eq_true, Bool.not_eq_true', decide_eq_false_iff_not, decide_eq_true_eq, Int32.lt_iff_toInt_lt, ← Int32.toInt_inj, h0, h1, h3]
  omega
theorem iqm_eq (x y : Int32) : iqm x y = (iw x (nI 0) (nI 5) && iq y) := by unfold iqm; rw [iq_eq]
theorem iq_of {y : Int32} (h : iq y = true) : ∃ k, k ≤ 4 ∧ y = oi k := by
  unfold iq at h
  rw [Bool.or_eq_true] at h
  rcases h with h | h
  · exact ⟨0, by decide, of_decide_eq_true h⟩
  · obtain ⟨j, -, j2, rfl⟩ := iw_of (by decide) (by decide) h
    exact ⟨j + 1, by omega, rfl⟩
theorem hpl_eq {κ : ST} {x : Int32} (h10 : κ 0 4 ≤ 10) : hpl κ x = iw x (nI 0) (oi (κ 0 4)) := by
  cases h : iw x (nI 0) (oi (κ 0 4))
  · cases q : hpl κ x
    · rfl
    · unfold hpl at q
      simp only [Bool.and_eq_true, Bool.not_eq_true', decide_eq_false_iff_not] at q
      obtain ⟨j, hj, rfl⟩ := nI_of (x := x) q.1.1
      have : j < κ 0 4 := Nat.lt_of_not_le (fun z => q.1.2 (nI_le z hj))
      rw [iw_k this (by omega)] at h
      exact absurd h (by decide)
  · obtain ⟨j, hj, rfl⟩ := iw_get (by omega) h
    exact hpl_n hj h10
theorem mail_cases {σ μ : ST} (I : IS σ μ) (x : Int32) : (iw x (nI 0) (nI 59) = false ∧ iw x (nI 0) (oi (μ 0 0)) = false) ∨ (∃ j, j < 60 ∧ x = nI j ∧ σ 4 j = 0 ∧ iw x (nI 0) (oi (μ 0 0)) = false) ∨ (∃ j, j < μ 0 0 ∧ x = nI j ∧ σ 4 j = 0 ∧ μ 6 j ≠ 0) ∨ (∃ j, j < μ 0 0 ∧ x = nI j ∧ σ 4 j ≠ 0 ∧ μ 6 j = 0) := by
  have h60 := I.1.2.1
  cases h : iw x (nI 0) (oi (μ 0 0))
  · cases h2 : iw x (nI 0) (nI 59)
    · exact Or.inl ⟨rfl, rfl⟩
    · obtain ⟨j, -, j2, rfl⟩ := iw_of (by decide) (by decide) h2
      refine Or.inr (Or.inl ⟨j, by omega, rfl, ?_, rfl⟩)
      refine ((I.2.1 j).2.1 (Nat.le_of_not_lt (fun q => ?_))).1
      rw [iw_k q (by omega)] at h
      exact absurd h (by decide)
  · obtain ⟨j, hj, rfl⟩ := iw_get (by omega) h
    have ht := there_eq I hj
    by_cases q : μ 6 j = 0
    · exact Or.inr (Or.inr (Or.inr ⟨j, hj, rfl, fun z => absurd q (ht.mp z), q⟩))
    · exact Or.inr (Or.inr (Or.inl ⟨j, hj, rfl, ht.mpr q, q⟩))
theorem Inv_f {n : Nat} {σ κ0 κ1 μ : ST} (h : Inv9 n σ κ0 κ1 μ) (hn : n < 512) : IS σ μ ∧ (∀ k i, σ k i < 1073741824) ∧ (∀ k i, μ k i < 1073741824) ∧ μ 0 0 ≤ 60 ∧ μ 0 1 < 512 ∧ σ 1 0 = μ 0 0 ∧ σ 7 0 = μ 0 1 ∧ (∀ i, σ 5 i < 16) ∧ ∀ i, σ 6 i < 60 := by
  obtain ⟨I, -, -, -, -, -, hc, -, -⟩ := h
  exact ⟨I, fun k i => Nat.lt_trans (I.2.2.2.2.2.2.2.2.1 k i) (by decide), fun k i => Nat.lt_trans (I.2.2.2.2.2.2.2.2.2 k i) (by decide), I.1.2.1, by omega, I.1.1, I.1.2.2, fun i => by rw [(I.2.1 i).2.2.1]; exact (I.2.1 i).2.2.2.2, I.2.2.2.2.2.2.2.1⟩
theorem nts_hi {μ : ST} {its m wd w r : Nat} (hr : 13 ≤ r) : nts μ its m wd w r = μ r := by
  unfold nts
  rw [sv_ne (by omega), su_ne (by omega), su_ne (by omega), su_ne (by omega), su_ne (by omega), su_ne (by omega), su_ne (by omega)]
theorem ada_hi {μ : ST} {t b th r : Nat} (hr : 13 ≤ r) : ada μ t b th r = μ r := by
  unfold ada
  rw [sv_ne (by omega), su_ne (by omega), su_ne (by omega), su_ne (by omega), su_ne (by omega), nts_hi hr, sv_ne (by omega)]
theorem watch_eq {σ κ κo μ : ST} {c co b wd : Nat} (hne : co ≠ c) (I : IS σ μ) (C : IC c κ μ) (Co : IC co κo μ) (R : IR μ) (hC : CI κ) (hb : b < 6) (hw : wd ≤ 10) :
    IS σ (su (su (sv μ 0 2 0) 13 (upN (μ 13) c b)) 14 (upN (μ 14) c wd)) ∧ IC c (sv (sv κ 0 0 b) 0 1 wd) (su (su (sv μ 0 2 0) 13 (upN (μ 13) c b)) 14 (upN (μ 14) c wd)) ∧ IC co κo (su (su (sv μ 0 2 0) 13 (upN (μ 13) c b)) 14 (upN (μ 14) c wd)) ∧ IR (su (su (sv μ 0 2 0) 13 (upN (μ 13) c b)) 14 (upN (μ 14) c wd)) ∧ CI (sv (sv κ 0 0 b) 0 1 wd) := by
  have b4 := I.2.2.2.2.2.2.2.2.2
  obtain ⟨⟨a1, a2, a3, a4, a5, a6⟩, ⟨b1, b2, b3, b5, b6⟩, cw, cf, cm, cd⟩ := C
  refine ⟨IS_fr I rfl rfl (fun r h1 h2 => by rw [su_ne (by omega), su_ne (by omega), sv_ne (by omega)]) (su_lt (su_lt (sv_lt b4 (by decide)) (up_lt (b4 13) (by omega))) (up_lt (b4 14) (by omega))), ⟨⟨?_, ?_, a3, a4, a5, a6⟩, ⟨hb, hw, b3, b5, b6⟩, cw, cf, cm, cd⟩, ?_, R, ?_⟩
  · show b = upN (μ 13) c b c
    rw [upN_same]
  · show wd = upN (μ 14) c wd c
    rw [upN_same]
  · exact IC_fr Co (Nat.le_refl _) (Nat.le_refl _) (upN_ne (μ 13) hne) (upN_ne (μ 14) hne) rfl rfl rfl rfl (fun _ _ => ⟨rfl, rfl⟩) (fun _ _ => ⟨rfl, rfl, rfl⟩)
  · obtain ⟨c1, c2, c3, c4, c5, c6⟩ := hC
    exact ⟨c1, c2, c3, c4, c5, sv_lt (sv_lt c6 (by omega)) (by omega)⟩
theorem watch_0 {n : Nat} {σ κ0 κ1 μ : ST} {b wd : Nat} (h : Inv9 n σ κ0 κ1 μ) (hb : b < 6) (hw : wd ≤ 10) : Inv9 (n + 1) σ (sv (sv κ0 0 0 b) 0 1 wd) κ1 (su (su (sv μ 0 2 0) 13 (upN (μ 13) 0 b)) 14 (upN (μ 14) 0 wd)) := by
  obtain ⟨I, C0, C1, R, K0, K1, hc, h0, h1⟩ := h
  obtain ⟨x1, x2, x3, x4, x5⟩ := watch_eq (c := 0) (co := 1) (by decide) I C0 C1 R K0 hb hw
  exact ⟨x1, x2, x3, x4, x5, K1, by show μ 0 1 + κ0 0 5 + κ1 0 5 ≤ n + 1; omega, by show κ0 0 3 ≤ n + 1; omega, by omega⟩
theorem watch_1 {n : Nat} {σ κ0 κ1 μ : ST} {b wd : Nat} (h : Inv9 n σ κ0 κ1 μ) (hb : b < 6) (hw : wd ≤ 10) : Inv9 (n + 1) σ κ0 (sv (sv κ1 0 0 b) 0 1 wd) (su (su (sv μ 0 2 0) 13 (upN (μ 13) 1 b)) 14 (upN (μ 14) 1 wd)) := by
  obtain ⟨I, C0, C1, R, K0, K1, hc, h0, h1⟩ := h
  obtain ⟨x1, x2, x3, x4, x5⟩ := watch_eq (c := 1) (co := 0) (by decide) I C1 C0 R K1 hb hw
  exact ⟨x1, x3, x2, x4, K0, x5, by show μ 0 1 + κ0 0 5 + κ1 0 5 ≤ n + 1; omega, by omega, by show κ1 0 3 ≤ n + 1; omega⟩
theorem IC_0 : ∀ c : Fin 2, IC c.val kz muz := by
  have h : ∀ c : Fin 2, muz 14 c.val = 5 := by decide
  intro c
  exact ⟨⟨rfl, (h c).symm, rfl, rfl, rfl, rfl⟩, ⟨by decide, by decide, by decide, by decide, by decide⟩, fun i _ => ⟨rfl, rfl⟩, fun i hi => absurd hi (Nat.not_lt_zero _), fun i hi => absurd hi (Nat.not_lt_zero _), fun i j _ hj => absurd hj (Nat.not_lt_zero _)⟩
theorem z0_b {N : Nat} (h : 0 < N) : ∀ k i, z0 k i < N := fun _ _ => h
theorem muz_b : ∀ k i, muz k i < 20000 := su_lt (su_lt (z0_b (by decide)) (fun _ => by decide)) (up_lt (up_lt (fun _ => by decide) (by decide)) (by decide))
theorem CI_0 : CI kz := ⟨fun _ => (by decide : (0 : Nat) < 60), fun _ => (by decide : (0 : Nat) < 4), fun _ => (by decide : (0 : Nat) < 2), fun _ => (by decide : (0 : Nat) < 60), fun _ => (by decide : (0 : Nat) < 16), sv_lt (z0_b (by decide)) (by decide)⟩
theorem Inv_0 : Inv9 0 z0 kz kz muz := by
  refine ⟨⟨⟨rfl, by decide, rfl⟩, fun j => ⟨fun h => absurd h (Nat.not_lt_zero _), fun _ => ⟨rfl, rfl, rfl, rfl⟩, rfl, (by decide : (0 : Nat) < 64), (by decide : (0 : Nat) < 16)⟩, fun k h => absurd h (Nat.not_lt_zero _), fun m h => absurd h (Nat.not_lt_zero _), fun k h => absurd h (Nat.not_lt_zero _), ⟨fun p h => absurd h (Nat.not_lt_zero _), fun p q _ h => absurd h (Nat.not_lt_zero _), fun P => rfl⟩, fun _ => (by decide : (0 : Nat) < 60), fun _ => (by decide : (0 : Nat) < 60), z0_b (by decide), muz_b⟩, IC_0 0, IC_0 1, ⟨fun _ => (by decide : (0 : Nat) < 16), fun _ => (by decide : (0 : Nat) < 60), fun _ => (by decide : (0 : Nat) < 4), fun _ => (by decide : (0 : Nat) < 2)⟩, CI_0, CI_0, by decide, by decide, by decide⟩
