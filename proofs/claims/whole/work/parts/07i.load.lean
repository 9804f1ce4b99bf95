/-! a window taken, on both sides -/
theorem ldk_1 {σ κ : ST} : ∀ n i, ldk σ κ n 1 i = if i < n then wml σ (κ 0 0) i else κ 1 i := by
  intro n
  induction n with
  | zero => intro i; rw [if_neg (Nat.not_lt_zero _)]; rfl
  | succ n ih =>
    intro i
    show upN (ldk σ κ n 1) n (wml σ (κ 0 0) n) i = _
    by_cases q : i = n
    · subst q; rw [upN_same, if_pos (Nat.lt_succ_self _)]
    · rw [upN_ne _ q, ih i]
      by_cases z : i < n
      · rw [if_pos z, if_pos (by omega)]
      · rw [if_neg z, if_neg (by omega)]
theorem ldk_2 {σ κ : ST} : ∀ n i, ldk σ κ n 2 i = if i < n then σ 5 (wml σ (κ 0 0) i) else κ 2 i := by
  intro n
  induction n with
  | zero => intro i; rw [if_neg (Nat.not_lt_zero _)]; rfl
  | succ n ih =>
    intro i
    show upN (ldk σ κ n 2) n (σ 5 (wml σ (κ 0 0) n)) i = _
    by_cases q : i = n
    · subst q; rw [upN_same, if_pos (Nat.lt_succ_self _)]
    · rw [upN_ne _ q, ih i]
      by_cases z : i < n
      · rw [if_pos z, if_pos (by omega)]
      · rw [if_neg z, if_neg (by omega)]
theorem ldk_o {σ κ : ST} {r : Nat} (h1 : r ≠ 1) (h2 : r ≠ 2) : ∀ n, ldk σ κ n r = ldk σ κ 0 r := by
  intro n
  induction n with
  | zero => rfl
  | succ n ih =>
    rw [← ih]
    simp only [ldk]
    rw [su_ne h2, su_ne h1]
theorem tkm_eq {ν : ST} {cl : Nat} : ∀ n x, tkm ν cl n x = if 10 * cl ≤ x ∧ x < 10 * cl + n then wmm ν (ν 13 cl) (x - 10 * cl) else ν 17 x := by
  intro n
  induction n with
  | zero => intro x; rw [if_neg (by omega)]; rfl
  | succ n ih =>
    intro x
    show upN (tkm ν cl n) (10 * cl + n) (wmm ν (ν 13 cl) n) x = _
    by_cases q : x = 10 * cl + n
    · subst q; rw [upN_same, if_pos (by omega), show 10 * cl + n - 10 * cl = n by omega]
    · rw [upN_ne _ q, ih x]
      by_cases z : 10 * cl ≤ x ∧ x < 10 * cl + n
      · rw [if_pos z, if_pos (by omega)]
      · rw [if_neg z, if_neg (by omega)]
theorem tkw_eq {ν : ST} {cl : Nat} : ∀ n x, tkw ν cl n x = if 10 * cl ≤ x ∧ x < 10 * cl + n then ν 3 (wmm ν (ν 13 cl) (x - 10 * cl)) else ν 18 x := by
  intro n
  induction n with
  | zero => intro x; rw [if_neg (by omega)]; rfl
  | succ n ih =>
    intro x
    show upN (tkw ν cl n) (10 * cl + n) (ν 3 (wmm ν (ν 13 cl) n)) x = _
    by_cases q : x = 10 * cl + n
    · subst q; rw [upN_same, if_pos (by omega), show 10 * cl + n - 10 * cl = n by omega]
    · rw [upN_ne _ q, ih x]
      by_cases z : 10 * cl ≤ x ∧ x < 10 * cl + n
      · rw [if_pos z, if_pos (by omega)]
      · rw [if_neg z, if_neg (by omega)]
theorem win_eq {ρ ν : ST} (I : IS ρ ν) {b i : Nat} (hb : b < 6) (hi : i < cnt (fun m9 => ifd ν b 0 m9) (ν 0 0)) : 0 < lat ρ (ms (bxs ρ b) 60) (nI i) (ρ 1 0) 0 0 ∧ wml ρ b i = wmm ν b i ∧ wmm ν b i < ν 0 0 ∧ rnk ν b 0 (wmm ν b i) (ν 0 0) = i := by
  obtain ⟨m, h1, h2, h3, h4⟩ := (lat_eq (k := 0) I hb (by decide)).2 i hi
  have h5 : lat ρ (ms (bxs ρ b) 60) (nI i) (ρ 1 0) 0 0 = m + 1 := h4
  have e1 : wml ρ b i = m := by unfold wml; rw [h5]; rfl
  have e2 : wmm ν b i = m := by unfold wmm; rw [h3]; rfl
  rw [h5, e1, e2]
  exact ⟨Nat.succ_pos _, rfl, h1, h2⟩
/-! what holds between the calls: a client -/
def IC (c : Nat) (κ μ : ST) : Prop := (κ 0 0 = μ 13 c ∧ κ 0 1 = μ 14 c ∧ κ 0 2 = μ 15 c ∧ κ 0 3 = μ 23 c ∧ κ 0 4 = μ 16 c ∧ κ 0 5 = μ 19 c) ∧ (κ 0 0 < 6 ∧ κ 0 1 ≤ 10 ∧ κ 0 2 ≤ μ 0 1 ∧ κ 0 4 ≤ 10 ∧ κ 0 5 ≤ 10) ∧ (∀ i, i < 10 → κ 1 i = μ 17 (10 * c + i) ∧ κ 2 i = μ 18 (10 * c + i)) ∧ (∀ i, i < κ 0 5 → κ 3 i = μ 20 (10 * c + i) ∧ κ 4 i = μ 21 (10 * c + i) ∧ κ 5 i = μ 22 (10 * c + i) ∧ κ 3 i < μ 0 0) ∧ (∀ i, i < κ 0 4 → κ 1 i < μ 0 0) ∧ (∀ i j, i < j → j < κ 0 4 → κ 1 i ≠ κ 1 j)
def IR (μ : ST) : Prop := (∀ i, μ 18 i < 16) ∧ (∀ i, μ 20 i < 60) ∧ (∀ i, μ 21 i < 4) ∧ (∀ i, μ 22 i < 2)
theorem IC_fr {c : Nat} {κ μ μ' : ST} (C : IC c κ μ) (h0 : μ 0 0 ≤ μ' 0 0) (h1 : μ 0 1 ≤ μ' 0 1) (h13 : μ' 13 c = μ 13 c) (h14 : μ' 14 c = μ 14 c) (h15 : μ' 15 c = μ 15 c) (h23 : μ' 23 c = μ 23 c) (h16 : μ' 16 c = μ 16 c) (h19 : μ' 19 c = μ 19 c) (hw : ∀ i, i < 10 → μ' 17 (10 * c + i) = μ 17 (10 * c + i) ∧ μ' 18 (10 * c + i) = μ 18 (10 * c + i)) (hf : ∀ i, i < 10 → μ' 20 (10 * c + i) = μ 20 (10 * c + i) ∧ μ' 21 (10 * c + i) = μ 21 (10 * c + i) ∧ μ' 22 (10 * c + i) = μ 22 (10 * c + i)) : IC c κ μ' := by
  obtain ⟨⟨a1, a2, a3, a4, a5, a6⟩, ⟨b1, b2, b3, b4, b5⟩, cw, cf, cm, cd⟩ := C
  refine ⟨⟨by rw [h13, a1], by rw [h14, a2], by rw [h15, a3], by rw [h23, a4], by rw [h16, a5], by rw [h19, a6]⟩, ⟨b1, b2, Nat.le_trans b3 h1, b4, b5⟩, fun i hi => ?_, fun i hi => ?_, fun i hi => Nat.lt_of_lt_of_le (cm i hi) h0, cd⟩
  · obtain ⟨x, y⟩ := hw i hi
    rw [x, y]; exact cw i hi
  · obtain ⟨x, y, z⟩ := hf i (by omega)
    rw [x, y, z]
    obtain ⟨u, v, w, t⟩ := cf i hi
    exact ⟨u, v, w, Nat.lt_of_lt_of_le t h0⟩
theorem IC_hi {c : Nat} {κ μ μ' : ST} (C : IC c κ μ) (h0 : μ 0 0 ≤ μ' 0 0) (h1 : μ 0 1 ≤ μ' 0 1) (hr : ∀ r, 13 ≤ r → μ' r = μ r) : IC c κ μ' := by
  refine IC_fr C h0 h1 ?_ ?_ ?_ ?_ ?_ ?_ (fun i _ => ⟨?_, ?_⟩) (fun i _ => ⟨?_, ?_, ?_⟩) <;> rw [hr _ (by decide)]
theorem IR_hi {μ μ' : ST} (R : IR μ) (hr : ∀ r, 13 ≤ r → μ' r = μ r) : IR μ' := by
  obtain ⟨a, b, c, d⟩ := R
  unfold IR
  rw [hr 18 (by decide), hr 20 (by decide), hr 21 (by decide), hr 22 (by decide)]
  exact ⟨a, b, c, d⟩
theorem tke_lo {ν : ST} {cl r : Nat} (h : r ≤ 14) : tke ν cl r = ν r := by
  unfold tke tk
  rw [su_ne (by omega), su_ne (by omega), su_ne (by omega), su_ne (by omega), su_ne (by omega)]
theorem tke_b {ν : ST} {cl : Nat} (hB : ∀ k i, ν k i < 20000) (hm0 : ν 0 0 ≤ 60) : ∀ k i, tke ν cl k i < 20000 := by
  have h1 : ∀ n i, tkm ν cl n i < 20000 := fun n i => by
    rw [tkm_eq]
    split
    · exact Nat.lt_trans (wmm_lt hm0) (by decide)
    · exact hB 17 i
  have h2 : ∀ n i, tkw ν cl n i < 20000 := fun n i => by
    rw [tkw_eq]
    split
    · exact hB 3 _
    · exact hB 18 i
  exact su_lt (su_lt (su_lt (su_lt (su_lt hB (up_lt (hB 16) (Nat.lt_of_le_of_lt (Nat.min_le_left _ _) (hB 14 cl)))) (h1 _)) (h2 _)) (up_lt (hB 15) (hB 0 1))) (up_lt (hB 19) (by decide))
/-- the other client keeps what it holds -/
theorem IC_tke {c cl : Nat} {κ ν : ST} (C : IC c κ ν) (hc : c < 2) (hcl : cl < 2) (hne : c ≠ cl) (h14 : tsz ν cl ≤ 10) : IC c κ (tke ν cl) := by
  refine IC_fr C ?_ ?_ ?_ ?_ (upN_ne (ν 15) hne) rfl (upN_ne (ν 16) hne) (upN_ne (ν 19) hne) (fun i hi => ⟨?_, ?_⟩) (fun i hi => ⟨rfl, rfl, rfl⟩)
  · exact Nat.le_refl _
  · exact Nat.le_refl _
  · rfl
  · rfl
  · show tkm ν cl (tsz ν cl) (10 * c + i) = _
    rw [tkm_eq, if_neg (by omega)]
  · show tkw ν cl (tsz ν cl) (10 * c + i) = _
    rw [tkw_eq, if_neg (by omega)]
/-- the client that takes its window -/
theorem load_eq {ρ κ ν : ST} {cl : Nat} (I : IS ρ ν) (hC : CI κ) (R : IR ν) (h00 : κ 0 0 = ν 13 cl) (h01 : κ 0 1 = ν 14 cl) (h03 : κ 0 3 = ν 23 cl) (h05 : κ 0 5 = 0) (hb : κ 0 0 < 6) (hw : κ 0 1 ≤ 10) (h17 : ∀ i, i < 10 → κ 1 i = ν 17 (10 * cl + i) ∧ κ 2 i = ν 18 (10 * cl + i)) :
    IS ρ (tke ν cl) ∧ IC cl (ldk ρ κ (wsz ρ κ)) (tke ν cl) ∧ IR (tke ν cl) ∧ CI (ldk ρ κ (wsz ρ κ)) ∧ tsz ν cl ≤ 10 ∧ (∀ i, i < wsz ρ κ → 0 < lat ρ (ms (bxs ρ (κ 0 0)) 60) (nI i) (ρ 1 0) 0 0 ∧ wml ρ (κ 0 0) i < 60) ∧ ldk ρ κ (wsz ρ κ) 0 5 = 0 ∧ ldk ρ κ (wsz ρ κ) 0 3 = κ 0 3 := by
  have hz : wsz ρ κ = tsz ν cl := by unfold wsz tsz; rw [bxs_eq I hb, h00, h01]
  have hz10 : tsz ν cl ≤ 10 := by unfold tsz; rw [← h01]; exact Nat.le_trans (Nat.min_le_left _ _) hw
  have hin : ∀ i, i < tsz ν cl → i < cnt (fun m9 => ifd ν (κ 0 0) 0 m9) (ν 0 0) := fun i hi => by
    rw [h00]; exact Nat.lt_of_lt_of_le hi (Nat.min_le_right _ _)
  have h60 := I.1.2.1
  have b3 := I.2.2.2.2.2.2.2.2.1
  have b4 := I.2.2.2.2.2.2.2.2.2
  have h0 : ∀ j, ldk ρ κ (wsz ρ κ) 0 j = ldk ρ κ 0 0 j := fun j => by rw [ldk_o (by decide) (by decide)]
  have IS' : IS ρ (tke ν cl) := IS_fr I rfl rfl (fun r _ h => tke_lo (by omega)) (tke_b b4 h60)
  have hwm : ∀ i, i < wsz ρ κ → wml ρ (κ 0 0) i < 60 := fun i hi => by
    rw [hz] at hi
    obtain ⟨-, e, l, -⟩ := win_eq I hb (hin i hi)
    rw [e]; omega
  refine ⟨IS', ⟨⟨?_, ?_, ?_, ?_, ?_, ?_⟩, ⟨?_, ?_, ?_, ?_, ?_⟩, fun i hi => ⟨?_, ?_⟩, fun i hi => ?_, fun i hi => ?_, fun i j hij hj => ?_⟩, ⟨fun i => ?_, R.2.1, R.2.2.1, R.2.2.2⟩, ?_, hz10, fun i hi => ?_, ?_, ?_⟩
  · rw [h0]; exact h00
  · rw [h0]; exact h01
  · rw [h0]
    show ρ 7 0 = upN (ν 15) cl (ν 0 1) cl
    rw [upN_same]; exact I.1.2.2
  · rw [h0]; exact h03
  · rw [h0]
    show wsz ρ κ = upN (ν 16) cl (tsz ν cl) cl
    rw [upN_same, hz]
  · rw [h0]
    show κ 0 5 = upN (ν 19) cl 0 cl
    rw [upN_same, h05]
  · rw [h0]; exact hb
  · rw [h0]; exact hw
  · rw [h0]
    show ρ 7 0 ≤ ν 0 1
    rw [I.1.2.2]; exact Nat.le_refl _
  · rw [h0]
    show wsz ρ κ ≤ 10
    omega
  · rw [h0]
    show κ 0 5 ≤ 10
    omega
  · show _ = tkm ν cl (tsz ν cl) (10 * cl + i)
    rw [ldk_1, tkm_eq, hz]
    by_cases q : i < tsz ν cl
    · rw [if_pos q, if_pos (by omega), (win_eq I hb (hin i q)).2.1, h00, show 10 * cl + i - 10 * cl = i by omega]
    · rw [if_neg q, if_neg (by omega)]; exact (h17 i hi).1
  · show _ = tkw ν cl (tsz ν cl) (10 * cl + i)
    rw [ldk_2, tkw_eq, hz]
    by_cases q : i < tsz ν cl
    · rw [if_pos q, if_pos (by omega), (win_eq I hb (hin i q)).2.1, h00, show 10 * cl + i - 10 * cl = i by omega, (I.2.1 _).2.2.1]
    · rw [if_neg q, if_neg (by omega)]; exact (h17 i hi).2
  · rw [h0] at hi
    have hi2 : i < κ 0 5 := hi
    omega
  · rw [h0] at hi
    have hi2 : i < wsz ρ κ := hi
    rw [ldk_1, if_pos hi2]
    rw [hz] at hi2
    obtain ⟨-, e, l, -⟩ := win_eq I hb (hin i hi2)
    rw [e]; exact l
  · rw [h0] at hj
    have hj2 : j < wsz ρ κ := hj
    rw [ldk_1, ldk_1, if_pos hj2, if_pos (by omega)]
    rw [hz] at hj2
    obtain ⟨-, e, l, r⟩ := win_eq I hb (hin j hj2)
    obtain ⟨-, e2, l2, r2⟩ := win_eq I hb (hin i (by omega))
    rw [e, e2]
    intro q
    rw [q, r] at r2
    omega
  · show tkw ν cl (tsz ν cl) i < 16
    rw [tkw_eq]
    split
    · exact (I.2.1 _).2.2.2.2
    · exact R.1 i
  · obtain ⟨c1, c2, c3, c4, c5, c6⟩ := hC
    have r3 : ldk ρ κ (wsz ρ κ) 3 = κ 3 := ldk_o (by decide) (by decide) _
    have r4 : ldk ρ κ (wsz ρ κ) 4 = κ 4 := ldk_o (by decide) (by decide) _
    have r5 : ldk ρ κ (wsz ρ κ) 5 = κ 5 := ldk_o (by decide) (by decide) _
    have l1 : ∀ i, ldk ρ κ (wsz ρ κ) 1 i < 60 := fun i => by
      rw [ldk_1]
      split
      · next h => exact hwm i h
      · exact c4 i
    have l2 : ∀ i, ldk ρ κ (wsz ρ κ) 2 i < 16 := fun i => by
      rw [ldk_2]
      split
      · rw [(I.2.1 _).2.2.1]; exact (I.2.1 _).2.2.2.2
      · exact c5 i
    refine ⟨by rw [r3]; exact c1, by rw [r4]; exact c2, by rw [r5]; exact c3, l1, l2, fun k i => ?_⟩
    by_cases q1 : k = 1
    · subst q1; exact Nat.lt_trans (l1 i) (by decide)
    · by_cases q2 : k = 2
      · subst q2; exact Nat.lt_trans (l2 i) (by decide)
      · rw [ldk_o q1 q2]
        exact sv_lt (sv_lt c6 (Nat.lt_trans (b3 7 0) (by decide))) (by omega) k i
  · rw [hz] at hi
    obtain ⟨p, e, l, -⟩ := win_eq I hb (hin i hi)
    exact ⟨p, by rw [e]; omega⟩
  · rw [h0]; exact h05
  · rw [h0]; rfl
/-- a whole sync -/
theorem sync_all {σ κ κ' κo μ : ST} {cl co : Nat} {cd : Bool} (hcl : cl < 2) (hco : co < 2) (hne : co ≠ cl) (I : IS σ μ) (C : IC cl κ μ) (Co : IC co κo μ) (R : IR μ) (hC : CI κ') (hst : μ 0 1 < 3000) (h23 : μ 23 cl < 3000)
    (k1 : κ' 1 = κ 1) (k2 : κ' 2 = κ 2) (k3 : κ' 3 = κ 3) (k4 : κ' 4 = κ 4) (k5 : κ' 5 = κ 5) (k00 : κ' 0 0 = κ 0 0) (k01 : κ' 0 1 = κ 0 1) (k02 : κ' 0 2 = κ 0 2) (k05 : κ' 0 5 = κ 0 5) (hcd : decide (μ 0 1 - μ 15 cl ≤ 40) = cd) (k03 : κ' 0 3 = κ 0 3 + b2n (!cd)) :
    (CI (syB σ κ') ∧ (syB σ κ') 0 5 ≤ 10 ∧ (∀ k i, (syS σ κ') k i < 1073741824) ∧ CI (syC σ κ') ∧ (syS σ κ') 1 0 ≤ 60 ∧ (syC σ κ') 0 0 < 6 ∧ (syC σ κ') 0 1 ≤ 10 ∧ (∀ i, i < wsz (syS σ κ') (syC σ κ') → 0 < lat (syS σ κ') (ms (bxs (syS σ κ') ((syC σ κ') 0 0)) 60) (nI i) ((syS σ κ') 1 0) 0 0 ∧ wml (syS σ κ') ((syC σ κ') 0 0) i < 60)) ∧
    κ 0 5 - (syB σ κ') 0 5 = (sfin μ cl cd).2 ∧ IS (syS σ κ') (sye μ cl cd) ∧ IC cl (syD σ κ') (sye μ cl cd) ∧ IC co κo (sye μ cl cd) ∧ IR (sye μ cl cd) ∧ CI (syD σ κ') ∧ sye μ cl cd 0 1 ≤ μ 0 1 + κ 0 5 ∧ syD σ κ' 0 5 = 0 ∧ syD σ κ' 0 3 = κ 0 3 + b2n (!cd) ∧ sye μ cl cd 0 2 = 0 := by
  subst hcd
  obtain ⟨⟨a1, a2, a3, a4, a5, a6⟩, ⟨b1, b2, b3, b4, b5⟩, cw, cf, cm, cdd⟩ := C
  have hN : μ 19 cl ≤ 10 := by rw [← a6]; exact b5
  have hQ := syf_spec (σ := σ) (κ := κ') (μ := μ) (cl := cl) (t := μ 15 cl) I (by rw [← a3]; exact b3) (by rw [k02, a3]) hst (μ 19 cl) hN (fun i hi => by
      obtain ⟨d1, d2, d3, d4⟩ := cf i (by rw [a6]; exact hi)
      rw [k3, k4, k5]
      exact ⟨d1, d2, d3, d4, by rw [← k4]; exact hC.2.1 i, by rw [← k5]; exact hC.2.2.1 i⟩) (μ 19 cl) 0 (sv μ 0 2 0) 0 (Nat.zero_add _)
    ⟨IS_th I (by decide), rfl, rfl, rfl, fun r hr => sv_ne (by omega), fun k _ => ⟨rfl, rfl, rfl, rfl⟩, Nat.le_refl _, Nat.le_refl _, rfl⟩
  have hS0 : syf cl (μ 15 cl) (μ 0 1) (decide (μ 0 1 - μ 15 cl ≤ 40)) (μ 19 cl) 0 (sv μ 0 2 0) 0 = sfin μ cl (decide (μ 0 1 - μ 15 cl ≤ 40)) := rfl
  rw [hS0] at hQ
  unfold sye
  generalize sfin μ cl (decide (μ 0 1 - μ 15 cl ≤ 40)) = S at hQ ⊢
  obtain ⟨q1, q2, q22, q3, q4, q5, q6, q7, q8⟩ := hQ
  have hB : syB σ κ' = loc σ κ' (μ 19 cl) := by unfold syB; rw [k05, a6]
  obtain ⟨l1, l2, l3, l4, ⟨l5, l6, l7, l8⟩, l9, l10⟩ := loc_spec σ κ' (μ 19 cl)
  obtain ⟨g1, g2, g3⟩ := loc_all (σ := σ) hC (μ 19 cl) hN
  have hSS : syS σ κ' = rkf σ κ' (μ 19 cl) := by unfold syS; rw [hB, l4]
  have hCC : syC σ κ' = sv (loc σ κ' (μ 19 cl)) 0 5 0 := by unfold syC; rw [hB]
  have c00 : syC σ κ' 0 0 = κ 0 0 := by rw [hCC]; show loc σ κ' (μ 19 cl) 0 0 = _; rw [l5, k00]
  have c01 : syC σ κ' 0 1 = κ 0 1 := by rw [hCC]; show loc σ κ' (μ 19 cl) 0 1 = _; rw [l6, k01]
  have c03 : syC σ κ' 0 3 = κ' 0 3 := by rw [hCC]; show loc σ κ' (μ 19 cl) 0 3 = _; rw [l7]
  have c05 : syC σ κ' 0 5 = 0 := by rw [hCC]; rfl
  have c1 : syC σ κ' 1 = κ 1 := by rw [hCC]; show loc σ κ' (μ 19 cl) 1 = _; rw [l9, k1]
  have c2 : syC σ κ' 2 = κ 2 := by rw [hCC]; show loc σ κ' (μ 19 cl) 2 = _; rw [l10, k2]
  have hCI : CI (syC σ κ') := by
    rw [hCC]
    exact ⟨g1.1, g1.2.1, g1.2.2.1, g1.2.2.2.1, g1.2.2.2.2.1, sv_lt g1.2.2.2.2.2 (by decide)⟩
  generalize hν : su S.1 23 (upN (S.1 23) cl (S.1 23 cl + b2n (!decide (μ 0 1 - μ 15 cl ≤ 40)))) = ν
  have r23 : ν 23 = upN (S.1 23) cl (S.1 23 cl + b2n (!decide (μ 0 1 - μ 15 cl ≤ 40))) := by rw [← hν]; rfl
  have rne : ∀ r, r ≠ 23 → ν r = S.1 r := fun r hr => by rw [← hν]; exact su_ne hr
  have s23 : S.1 23 = μ 23 := q4 23 (by decide)
  have IB := q1.2.2.2.2.2.2.2.2
  have hb2 := b2n_lt (!decide (μ 0 1 - μ 15 cl ≤ 40))
  have I' : IS (syS σ κ') ν := by
    rw [hSS]
    refine IS_fr q1 (by rw [rne 0 (by decide)]) (by rw [rne 0 (by decide)]) (fun r _ h => rne r (by omega)) ?_
    rw [← hν]
    exact su_lt IB.2 (up_lt (IB.2 23) (by rw [s23]; omega))
  have R' : IR ν := by
    obtain ⟨x, y, z, w⟩ := R
    unfold IR
    rw [rne 18 (by decide), rne 20 (by decide), rne 21 (by decide), rne 22 (by decide), q4 18 (by decide), q4 20 (by decide), q4 21 (by decide), q4 22 (by decide)]
    exact ⟨x, y, z, w⟩
  have L := load_eq (ρ := syS σ κ') (κ := syC σ κ') (ν := ν) (cl := cl) I' hCI R' (by rw [c00, rne 13 (by decide), q4 13 (by decide), a1]) (by rw [c01, rne 14 (by decide), q4 14 (by decide), a2]) (by rw [c03, k03, r23, upN_same, s23, a4]) c05 (by rw [c00]; exact b1) (by rw [c01]; exact b2) (fun i hi => by
    rw [c1, c2, rne 17 (by decide), rne 18 (by decide), q4 17 (by decide), q4 18 (by decide)]
    exact cw i hi)
  obtain ⟨L1, L2, L3, L4, L5, L6, L7, L8⟩ := L
  have e0 : tke ν cl 0 = S.1 0 := by rw [tke_lo (by decide), rne 0 (by decide)]
  refine ⟨⟨by rw [hB]; exact g1, by rw [hB]; omega, fun k i => by rw [hSS]; exact Nat.lt_trans (IB.1 k i) (by decide), hCI, by rw [hSS, q1.1.1]; exact q1.1.2.1, by rw [c00]; exact b1, by rw [c01]; exact b2, L6⟩, ?_, L1, L2, ?_, L3, L4, ?_, L7, ?_, ?_⟩
  · rw [hB, a6, q8]; omega
  · refine IC_tke ?_ hco hcl hne L5
    refine IC_fr Co (by rw [rne 0 (by decide), q2]; exact Nat.le_refl _) (by rw [rne 0 (by decide)]; exact q6) ?_ ?_ ?_ ?_ ?_ ?_ (fun i _ => ⟨?_, ?_⟩) (fun i _ => ⟨?_, ?_, ?_⟩)
    · rw [rne 13 (by decide), q4 13 (by decide)]
    · rw [rne 14 (by decide), q4 14 (by decide)]
    · rw [rne 15 (by decide), q4 15 (by decide)]
    · rw [r23, upN_ne _ hne, s23]
    · rw [rne 16 (by decide), q4 16 (by decide)]
    · rw [rne 19 (by decide), q4 19 (by decide)]
    · rw [rne 17 (by decide), q4 17 (by decide)]
    · rw [rne 18 (by decide), q4 18 (by decide)]
    · rw [rne 20 (by decide), q4 20 (by decide)]
    · rw [rne 21 (by decide), q4 21 (by decide)]
    · rw [rne 22 (by decide), q4 22 (by decide)]
  · rw [e0, a6]; omega
  · show ldk (syS σ κ') (syC σ κ') (wsz (syS σ κ') (syC σ κ')) 0 3 = _
    rw [L8, c03, k03]
  · rw [e0, q22]
