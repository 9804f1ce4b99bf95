/-! a sync -/
theorem su_ne {S : ST} {k j : Nat} {f : Nat → Nat} (h : j ≠ k) : su S k f j = S j := by
  unfold su
  cases h2 : Nat.beq j k
  · rfl
  · exact absurd (Nat.eq_of_beq_eq_true h2) h
theorem sv_ne {S : ST} {k i v j : Nat} (h : j ≠ k) : sv S k i v j = S j := su_ne h
theorem chg_b {σ : ST} {j b w : Nat} (hB : ∀ k i, σ k i < 20000) (h7 : σ 7 0 < 4000) (hj : j < 20000) (hb : b < 20000) (hw : w < 20000) : ∀ k i, chg σ j b w k i < 20000 :=
  su_lt (su_lt (kp_lt hB (by omega) hj (hB 4 j) (hB 5 j) hw) (up_lt (hB 4) hb)) (up_lt (hB 5) hw)
theorem nts_b {μ : ST} {its m wd w : Nat} (hB : ∀ k i, μ k i < 20000) (h7 : μ 0 1 < 4000) (h1 : its < 20000) (h2 : m < 20000) (h3 : wd < 20000) (h4 : w < 20000) : ∀ k i, nts μ its m wd w k i < 20000 :=
  sv_lt (su_lt (su_lt (su_lt (su_lt (su_lt (su_lt hB (up_lt (hB 7) h1)) (up_lt (hB 8) h2)) (up_lt (hB 9) (hB 2 m))) (up_lt (hB 10) (hB 3 m))) (up_lt (hB 11) h3)) (up_lt (hB 12) h4)) (by omega)
/-- the server's part rests on these rows alone -/
theorem IS_fr {σ μ μ' : ST} (I : IS σ μ) (h0 : μ' 0 0 = μ 0 0) (h1 : μ' 0 1 = μ 0 1) (hr : ∀ r, 1 ≤ r → r ≤ 12 → μ' r = μ r) (hb : ∀ k i, μ' k i < 20000) : IS σ μ' := by
  have e1 := hr 1 (by decide) (by decide)
  have e2 := hr 2 (by decide) (by decide)
  have e3 := hr 3 (by decide) (by decide)
  have e4 := hr 4 (by decide) (by decide)
  have e5 := hr 5 (by decide) (by decide)
  have e6 := hr 6 (by decide) (by decide)
  have e7 := hr 7 (by decide) (by decide)
  have e8 := hr 8 (by decide) (by decide)
  have e9 := hr 9 (by decide) (by decide)
  have e10 := hr 10 (by decide) (by decide)
  have e11 := hr 11 (by decide) (by decide)
  have e12 := hr 12 (by decide) (by decide)
  have ea : ahd μ' = ahd μ := by funext m o; unfold ahd; rw [e1]
  obtain ⟨Ic, Im, Ir, Ih1, Ih2, Io, b1, b2, b3, b4⟩ := I
  unfold IS I_c I_m I_r I_h1 I_h2 I_o I_b at *
  simp only [h0, h1, e1, e2, e3, e4, e5, e6, e7, e8, e9, e10, e11, e12, ea]
  exact ⟨Ic, Im, Ir, Ih1, Ih2, Io, b1, b2, b3, hb⟩
theorem IS_th {σ μ : ST} {v : Nat} (I : IS σ μ) (hv : v < 20000) : IS σ (sv μ 0 2 v) := IS_fr I rfl rfl (fun r h _ => sv_ne (by omega)) (sv_lt I.2.2.2.2.2.2.2.2.2 hv)
theorem IS_flag {σ μ : ST} {m k w : Nat} (I : IS σ μ) (hm : m < μ 0 0) (h6 : μ 6 m = 0) (hk : k < 4) (hw : w < 2) (hst : μ 0 1 < 4000) : IS (sk σ m k w) (flw μ m k w) := by
  have h5 : σ 5 m = μ 3 m := (I.2.1 m).2.2.1
  have h16 : μ 3 m < 16 := (I.2.1 m).2.2.2.2
  have h63 : μ 2 m < 64 := (I.2.1 m).2.2.2.1
  obtain ⟨-, -, h4, h1⟩ := (I.2.1 m).1 hm
  rw [if_pos h6] at h4
  have b3 := I.2.2.2.2.2.2.2.2.1
  have b4 := I.2.2.2.2.2.2.2.2.2
  have h60 := I.1.2.1
  unfold sk flw
  rw [h5, show decide (μ 3 m = wn (μ 3 m) k (nb w)) = decide (hs (μ 3 m) k = nb w) from wn_hs ⟨μ 3 m, h16⟩ ⟨k, hk⟩ (nb w)]
  by_cases q : hs (μ 3 m) k = nb w
  · rw [decide_eq_true q]; exact I
  · rw [decide_eq_false q]
    have hx : wn (μ 3 m) k (nb w) = μ 3 m ^^^ 2 ^ k := wn_xor ⟨μ 3 m, h16⟩ ⟨k, hk⟩ (nb w) q
    have hl : wn (μ 3 m) k (nb w) < 16 := wn_lt h16 hk _
    refine IS_step (j := m) (its := 2) (wd := k + 1) (ws := w) (b := μ 2 m) (w := wn (μ 3 m) k (nb w)) (g := 0) I hm h6 h1 h63 hl (Or.inl rfl) hst (by decide) (by omega) (by omega) (fun _ => ⟨by omega, by omega, hw, q, rfl⟩) (fun z => absurd rfl z)
      rfl rfl rfl ?_ rfl rfl rfl rfl rfl rfl rfl rfl rfl rfl ?_ ?_ rfl rfl ?_ rfl rfl rfl rfl rfl rfl (chg_b b3 (by rw [I.1.2.2]; exact hst) (by omega) (b3 _ _) (by omega)) ?_
    · show upN (σ 4) m (σ 4 m) = _
      rw [h4]; rfl
    · exact (upN_self (μ 2) m).symm
    · show upN (μ 3) m (μ 3 m ^^^ 2 ^ k) = _
      rw [hx]
    · show μ 6 = upN (μ 6) m 0
      rw [← h6]; exact (upN_self (μ 6) m).symm
    · exact su_lt (nts_b b4 hst (by decide) (by omega) (by omega) (by omega)) (up_lt (b4 3) (by rw [← hx]; omega))
/-! conflicts -/
theorem cf_x1 : ∀ x : Fin 16, ∀ k' k : Fin 4, ∀ b : Bool, hs x.val k'.val ≠ b → hl64 ((nI x.val ^^^ nI (wn x.val k'.val b)).toInt64) k.val = decide (k'.val = k.val) := by decide +kernel
theorem cf_x2 : ∀ x : Fin 16, ∀ k : Fin 4, hl64 ((nI x.val ^^^ nI x.val).toInt64) k.val = false := by decide +kernel
theorem cf_x3 : ∀ x : Fin 16, ∀ k : Fin 4, ∀ b : Bool, hl64 ((nI (wn x.val k.val b)).toInt64) k.val = b := by decide +kernel
theorem nb_ne {a b : Nat} (ha : a < 2) (hb : b < 2) : (nb a != nb b) = !decide (a = b) := by
  rcases (show a = 0 ∨ a = 1 by omega) with rfl | rfl <;> rcases (show b = 0 ∨ b = 1 by omega) with rfl | rfl <;> rfl
theorem ctr_iso {σ μ : ST} (I : IS σ μ) {m k w t : Nat} (hk : k < 4) (hw : w < 2) (ht : t ≤ μ 0 1) (h40 : μ 0 1 - t ≤ 40) : ∀ n b, b + n = μ 0 1 - t → ctr σ m k w n b = iso μ m k w t n := by
  intro n
  induction n with
  | zero => intro b _; rfl
  | succ n ih =>
    intro b hb
    have e : σ 7 0 - b = t + n + 1 := by rw [I.1.2.2]; omega
    obtain ⟨a1, a2, a3, a4, a5⟩ := I.2.2.1 (t + n) (by omega) (by omega)
    have h16 : μ 10 (t + n) < 16 := (I.2.2.2.2.1 (t + n) (by omega)).2.2.2.2.2.2
    simp only [ctr, iso]
    rw [ih (b + 1) (by omega)]
    unfold ctc
    rw [e, a1, a3]
    by_cases q : μ 7 (t + n) = 2
    · obtain ⟨c1, c2, c3, c4, c5⟩ := a4 q
      have x1 : hl64 ((nI (μ 10 (t + n)) ^^^ nI (wn (μ 10 (t + n)) (μ 11 (t + n) - 1) (nb (μ 12 (t + n))))).toInt64) k = decide (μ 11 (t + n) - 1 = k) := cf_x1 ⟨_, h16⟩ ⟨_, by omega⟩ ⟨k, hk⟩ _ c4
      rw [c5, x1, decide_eq_true q, Bool.true_and]
      have e2 : decide (μ 11 (t + n) - 1 = k) = decide (μ 11 (t + n) = k + 1) := by
        by_cases z : μ 11 (t + n) = k + 1
        · rw [decide_eq_true z, decide_eq_true (by omega)]
        · rw [decide_eq_false z, decide_eq_false (by omega)]
      rw [e2]
      by_cases z : μ 11 (t + n) = k + 1
      · have x3 : hl64 ((nI (wn (μ 10 (t + n)) (μ 11 (t + n) - 1) (nb (μ 12 (t + n))))).toInt64) k = nb (μ 12 (t + n)) := by
          rw [show μ 11 (t + n) - 1 = k by omega]
          exact cf_x3 ⟨_, h16⟩ ⟨k, hk⟩ _
        rw [x3, nb_ne c3 hw]
      · rw [decide_eq_false z, Bool.and_false]; rfl
    · have x2 : hl64 ((nI (μ 10 (t + n)) ^^^ nI (μ 10 (t + n))).toInt64) k = false := cf_x2 ⟨_, h16⟩ ⟨k, hk⟩
      rw [a5 q, x2, decide_eq_false q, Bool.false_and, Bool.and_false]; rfl
theorem cf_eq {σ κ μ : ST} (I : IS σ μ) {m k w t : Nat} (hm : m < μ 0 0) (hk : k < 4) (hw : w < 2) (ht : t ≤ μ 0 1) (h2 : κ 0 2 = t) : icf σ κ m k w = icm μ t (μ 0 1) (decide (μ 0 1 - t ≤ 40)) m k w := by
  unfold icf icm
  rw [h2, I.1.2.2, Bool.not_not]
  have e : decide (σ 4 m = 0) = !decide (μ 6 m = 0) := by
    by_cases q : μ 6 m = 0
    · rw [decide_eq_true q, decide_eq_false (fun z => absurd q ((there_eq I hm).mp z))]; rfl
    · rw [decide_eq_false q, decide_eq_true ((there_eq I hm).mpr q)]; rfl
  rw [e]
  by_cases h40 : μ 0 1 - t ≤ 40
  · rw [decide_eq_true h40, Nat.min_eq_left h40, ctr_iso I hk hw ht h40 _ 0 (Nat.zero_add _)]
  · rw [decide_eq_false h40, Bool.false_and, Bool.false_and]
/-! the class: flags left out, the others replayed -/
def cfl (σ κ : ST) (i : Nat) : Bool := icf σ κ (κ 3 i) (κ 4 i) (κ 5 i)
def rkf (σ κ : ST) : Nat → ST
  | 0 => σ
  | i + 1 => cond (cfl σ κ i) (rkf σ κ i) (sk (rkf σ κ i) (κ 3 i) (κ 4 i) (κ 5 i))
theorem rpl_congr {σ κ κ' : ST} : ∀ n, (∀ j, j < n → κ 3 j = κ' 3 j ∧ κ 4 j = κ' 4 j ∧ κ 5 j = κ' 5 j) → rpl σ κ n = rpl σ κ' n := by
  intro n
  induction n with
  | zero => intro _; rfl
  | succ n ih =>
    intro h
    obtain ⟨a, b, c⟩ := h n (Nat.lt_succ_self n)
    simp only [rpl]
    rw [ih (fun j hj => h j (Nat.lt_succ_of_lt hj)), a, b, c]
theorem loc_spec (σ κ : ST) : ∀ i, loc σ κ i 0 2 = κ 0 2 ∧ loc σ κ i 0 5 + cnt (cfl σ κ) i = i ∧ (∀ j, i ≤ j → loc σ κ i 3 j = κ 3 j ∧ loc σ κ i 4 j = κ 4 j ∧ loc σ κ i 5 j = κ 5 j) ∧ rpl σ (loc σ κ i) (loc σ κ i 0 5) = rkf σ κ i ∧ (loc σ κ i 0 0 = κ 0 0 ∧ loc σ κ i 0 1 = κ 0 1 ∧ loc σ κ i 0 3 = κ 0 3 ∧ loc σ κ i 0 4 = κ 0 4) ∧ loc σ κ i 1 = κ 1 ∧ loc σ κ i 2 = κ 2 := by
  intro i
  induction i with
  | zero => exact ⟨rfl, rfl, fun j _ => ⟨rfl, rfl, rfl⟩, rfl, ⟨rfl, rfl, rfl, rfl⟩, rfl, rfl⟩
  | succ i ih =>
    obtain ⟨a1, a2, a3, a4, ⟨a5, a6, a7, a8⟩, a9, a10⟩ := ih
    obtain ⟨c1, c2, c3⟩ := a3 i (Nat.le_refl _)
    have ec : icf σ (loc σ κ i) (loc σ κ i 3 i) (loc σ κ i 4 i) (loc σ κ i 5 i) = cfl σ κ i := by
      rw [c1, c2, c3]; unfold cfl icf; rw [a1]
    simp only [loc, rkf]
    rw [ec, c1, c2, c3]
    cases hc : cfl σ κ i
    · simp only [cond_false]
      generalize hX : loc σ κ i = X at *
      refine ⟨a1, ?_, fun j hj => ?_, ?_, ⟨a5, a6, a7, a8⟩, a9, a10⟩
      · rw [← cnt_f hc]
        show X 0 5 + 1 + _ = _
        omega
      · obtain ⟨d1, d2, d3⟩ := a3 j (by omega)
        have hne : j ≠ X 0 5 := by omega
        exact ⟨(upN_ne (X 3) hne).trans d1, (upN_ne (X 4) hne).trans d2, (upN_ne (X 5) hne).trans d3⟩
      · show sk (rpl σ (lst X (κ 3 i) (κ 4 i) (κ 5 i)) (X 0 5)) (upN (X 3) (X 0 5) (κ 3 i) (X 0 5)) (upN (X 4) (X 0 5) (κ 4 i) (X 0 5)) (upN (X 5) (X 0 5) (κ 5 i) (X 0 5)) = _
        have hcg : rpl σ (lst X (κ 3 i) (κ 4 i) (κ 5 i)) (X 0 5) = rpl σ X (X 0 5) := rpl_congr (X 0 5) (fun j hj => ⟨upN_ne (X 3) (Nat.ne_of_lt hj), upN_ne (X 4) (Nat.ne_of_lt hj), upN_ne (X 5) (Nat.ne_of_lt hj)⟩)
        rw [upN_same, upN_same, upN_same, hcg, a4]
    · simp only [cond_true]
      refine ⟨a1, ?_, fun j hj => a3 j (by omega), a4, ⟨a5, a6, a7, a8⟩, a9, a10⟩
      rw [← cnt_t hc]; omega
/-! the reference: flag by flag -/
def SyQ (σ κ μ : ST) (i : Nat) (ν : ST) (c : Nat) : Prop := IS (rkf σ κ i) ν ∧ ν 0 0 = μ 0 0 ∧ ν 0 2 = 0 ∧ ν 6 = μ 6 ∧ (∀ r, 13 ≤ r → ν r = μ r) ∧ (∀ k, k < μ 0 1 → ν 7 k = μ 7 k ∧ ν 8 k = μ 8 k ∧ ν 11 k = μ 11 k ∧ ν 12 k = μ 12 k) ∧ μ 0 1 ≤ ν 0 1 ∧ ν 0 1 + c ≤ μ 0 1 + i ∧ c = cnt (cfl σ κ) i
theorem iso_eq {μ ν : ST} {m wd w t : Nat} : ∀ n, (∀ k, k < t + n → ν 7 k = μ 7 k ∧ ν 8 k = μ 8 k ∧ ν 11 k = μ 11 k ∧ ν 12 k = μ 12 k) → iso ν m wd w t n = iso μ m wd w t n := by
  intro n
  induction n with
  | zero => intro _; rfl
  | succ n ih =>
    intro h
    obtain ⟨a, b, c, d⟩ := h (t + n) (by omega)
    simp only [iso]
    rw [a, b, c, d, ih (fun k hk => h k (by omega))]
theorem flw_hi {μ : ST} {m k w r : Nat} (hr : 13 ≤ r) : flw μ m k w r = μ r := by
  refine flw_c ?_
  unfold fls nts
  rw [su_ne (by omega), sv_ne (by omega), su_ne (by omega), su_ne (by omega), su_ne (by omega), su_ne (by omega), su_ne (by omega), su_ne (by omega)]
theorem flw_old {μ : ST} {m k w q : Nat} (hq : q < μ 0 1) : flw μ m k w 7 q = μ 7 q ∧ flw μ m k w 8 q = μ 8 q ∧ flw μ m k w 11 q = μ 11 q ∧ flw μ m k w 12 q = μ 12 q := by
  unfold flw
  cases decide (hs (μ 3 m) k = nb w)
  · have hne : q ≠ μ 0 1 := by omega
    exact ⟨upN_ne (μ 7) hne, upN_ne (μ 8) hne, upN_ne (μ 11) hne, upN_ne (μ 12) hne⟩
  · exact ⟨rfl, rfl, rfl, rfl⟩
theorem flw_up {μ : ST} {m k w : Nat} : μ 0 1 ≤ flw μ m k w 0 1 := by
  unfold flw
  cases decide (hs (μ 3 m) k = nb w)
  · exact Nat.le_succ _
  · exact Nat.le_refl _
theorem flw_02 {μ : ST} {m k w : Nat} : flw μ m k w 0 2 = μ 0 2 := by
  unfold flw
  cases decide (hs (μ 3 m) k = nb w) <;> rfl
theorem syf_spec {σ κ μ : ST} {cl t : Nat} (I : IS σ μ) (ht : t ≤ μ 0 1) (h2 : κ 0 2 = t) (hst : μ 0 1 < 3000) (N : Nat) (hN : N ≤ 10) (hf : ∀ i, i < N → κ 3 i = μ 20 (10 * cl + i) ∧ κ 4 i = μ 21 (10 * cl + i) ∧ κ 5 i = μ 22 (10 * cl + i) ∧ κ 3 i < μ 0 0 ∧ κ 4 i < 4 ∧ κ 5 i < 2) : ∀ n i ν c, i + n = N → SyQ σ κ μ i ν c → SyQ σ κ μ N (syf cl t (μ 0 1) (decide (μ 0 1 - t ≤ 40)) n i ν c).1 (syf cl t (μ 0 1) (decide (μ 0 1 - t ≤ 40)) n i ν c).2 := by
  intro n
  induction n with
  | zero =>
    intro i ν c hi hQ
    have : i = N := by omega
    subst this; exact hQ
  | succ n ih =>
    intro i ν c hi hQ
    obtain ⟨q1, q2, q22, q3, q4, q5, q6, q7, q8⟩ := hQ
    obtain ⟨f1, f2, f3, f4, f5, f6⟩ := hf i (by omega)
    have e20 : ν 20 (10 * cl + i) = κ 3 i := by rw [q4 20 (by decide), f1]
    have e21 : ν 21 (10 * cl + i) = κ 4 i := by rw [q4 21 (by decide), f2]
    have e22 : ν 22 (10 * cl + i) = κ 5 i := by rw [q4 22 (by decide), f3]
    have ec : icm ν t (μ 0 1) (decide (μ 0 1 - t ≤ 40)) (κ 3 i) (κ 4 i) (κ 5 i) = cfl σ κ i := by
      unfold cfl
      rw [cf_eq I f4 f5 f6 ht h2]
      unfold icm
      rw [q3, iso_eq (μ := μ) _ (fun k hk => q5 k (by omega))]
    simp only [syf]
    rw [e20, e21, e22, ec]
    cases hc : cfl σ κ i
    · simp only [cond_false]
      have h6 : μ 6 (κ 3 i) = 0 := by
        unfold cfl at hc
        rw [cf_eq I f4 f5 f6 ht h2] at hc
        unfold icm at hc
        by_cases z : μ 6 (κ 3 i) = 0
        · exact z
        · rw [decide_eq_false z] at hc; exact absurd hc (by simp)
      refine ih (i + 1) _ _ (by omega) ⟨?_, ?_, ?_, ?_, ?_, ?_, ?_, ?_, ?_⟩
      · simp only [rkf]
        rw [hc, cond_false]
        exact IS_flag q1 (by rw [q2]; exact f4) (by rw [q3]; exact h6) f5 f6 (by omega)
      · rw [flw_00, q2]
      · rw [flw_02, q22]
      · rw [flw_c (μ := ν) (c := 6) rfl, q3]
      · intro r hr; rw [flw_hi hr, q4 r hr]
      · intro k hk
        obtain ⟨a, b, c9, d⟩ := flw_old (μ := ν) (m := κ 3 i) (k := κ 4 i) (w := κ 5 i) (q := k) (by omega)
        rw [a, b, c9, d]; exact q5 k hk
      · exact Nat.le_trans q6 flw_up
      · have := flw_01 (μ := ν) (m := κ 3 i) (k := κ 4 i) (w := κ 5 i); omega
      · rw [← cnt_f hc]; exact q8
    · simp only [cond_true]
      refine ih (i + 1) _ _ (by omega) ⟨?_, q2, q22, q3, q4, q5, q6, by omega, ?_⟩
      · simp only [rkf]
        rw [hc, cond_true]; exact q1
      · rw [← cnt_t hc]; omega
