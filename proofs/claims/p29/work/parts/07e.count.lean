/-! counting -/
theorem cnt_step {p : Nat → Bool} {a b : Nat} (h : a < b) : cnt p a + b2n (p a) ≤ cnt p b := by
  induction b with
  | zero => omega
  | succ b ih =>
    rcases Nat.lt_or_ge a b with q | q
    · have := ih q
      cases hp : p b
      · rw [← cnt_f hp]; exact this
      · rw [← cnt_t hp]; omega
    · have : a = b := by omega
      subst this
      cases hp : p a
      · rw [← cnt_f hp]; exact Nat.le_refl _
      · rw [← cnt_t hp]; exact Nat.le_refl _
theorem cnt_none {p : Nat → Bool} : ∀ {n : Nat}, (∀ j, j < n → p j = false) → cnt p n = 0 := by
  intro n
  induction n with
  | zero => intro _; rfl
  | succ n ih => intro h; simp only [cnt]; rw [ih (fun j hj => h j (Nat.lt_succ_of_lt hj)), h n (Nat.lt_succ_self n)]; rfl
theorem cnt_ext {p q : Nat → Bool} {a b : Nat} (h : a ≤ b) (h1 : ∀ j, j < a → p j = q j) (h2 : ∀ j, a ≤ j → j < b → p j = false) : cnt p b = cnt q a := by
  obtain ⟨k, rfl⟩ : ∃ k, b = a + k := ⟨b - a, by omega⟩
  rw [cnt_add, cnt_congr h1, cnt_none (fun j hj => h2 (a + j) (by omega) (by omega)), Nat.add_zero]
theorem cnt_hit {p : Nat → Bool} : ∀ {n i : Nat}, i < cnt p n → ∃ m, m < n ∧ p m = true ∧ cnt p m = i := by
  intro n
  induction n with
  | zero => intro i h; exact absurd h (Nat.not_lt_zero _)
  | succ n ih =>
    intro i h
    cases hp : p n
    · rw [← cnt_f hp] at h
      obtain ⟨m, a, b, c⟩ := ih h
      exact ⟨m, Nat.lt_succ_of_lt a, b, c⟩
    · rw [← cnt_t hp] at h
      rcases Nat.lt_or_ge i (cnt p n) with q | q
      · obtain ⟨m, a, b, c⟩ := ih q
        exact ⟨m, Nat.lt_succ_of_lt a, b, c⟩
      · exact ⟨n, Nat.lt_succ_self n, hp, by omega⟩
theorem cnt_lt_of {p : Nat → Bool} {m n : Nat} (h : m < n) (hp : p m = true) : cnt p m < cnt p n := by
  have := cnt_step (p := p) h
  rw [hp] at this
  exact this
theorem cnt_mono_n (p : Nat → Bool) {a b : Nat} (h : a ≤ b) : cnt p a ≤ cnt p b := by
  obtain ⟨k, rfl⟩ : ∃ k, b = a + k := ⟨b - a, by omega⟩
  rw [cnt_add]; omega
theorem cnt_inj {p : Nat → Bool} {a b : Nat} (ha : p a = true) (hb : p b = true) (h : cnt p a = cnt p b) : a = b := by
  rcases Nat.lt_trichotomy a b with q | q | q
  · have := cnt_lt_of q ha; omega
  · exact q
  · have := cnt_lt_of q hb; omega
/-- an element more -/
theorem cnt_more {p : Nat → Bool} {m : Nat} (hm : p m = false) : ∀ {n : Nat}, m < n → cnt (fun j => if j = m then true else p j) n = cnt p n + 1 := by
  intro n
  induction n with
  | zero => intro h; exact absurd h (Nat.not_lt_zero _)
  | succ n ih =>
    intro h
    simp only [cnt]
    rcases Nat.lt_or_ge m n with q | q
    · rw [ih q, if_neg (show ¬ n = m by omega)]; omega
    · have : m = n := by omega
      subst this
      rw [if_pos rfl, hm, cnt_congr (n := m) (q := p) (fun j hj => if_neg (show ¬ j = m by omega))]
      rfl
theorem nI_inj {a b : Nat} (ha : a < 2 ^ 31) (hb : b < 2 ^ 31) (h : nI a = nI b) : a = b := by
  rcases Nat.lt_trichotomy a b with q | q | q
  · exact absurd h (Int32.ne_of_lt ((nI_ltI ha hb).mpr q))
  · exact q
  · exact absurd h.symm (Int32.ne_of_lt ((nI_ltI hb ha).mpr q))
/-- the mail with so many lower numbers ahead of it -/
theorem low_spec (p : Nat → Bool) (ix : Int32) : ∀ n m, m + n = 60 → (∃ mm, m ≤ mm ∧ mm < 60 ∧ p mm = true ∧ nI (cnt p mm) = ix ∧ low (ms p 60) ix n m (cnt p m) = mm + 1) ∨ (low (ms p 60) ix n m (cnt p m) = 0 ∧ ∀ mm, m ≤ mm → mm < 60 → p mm = true → ¬ nI (cnt p mm) = ix) := by
  intro n
  induction n with
  | zero => intro m h; exact Or.inr ⟨rfl, fun mm h1 h2 => by omega⟩
  | succ n ih =>
    intro m h
    simp only [low]
    rw [hl_ms p (show m < 60 by omega)]
    cases hp : p m
    · rw [cnt_f hp]
      rcases ih (m + 1) (by omega) with ⟨mm, a, b, c, d, e⟩ | ⟨a, b⟩
      · exact Or.inl ⟨mm, by omega, b, c, d, e⟩
      · refine Or.inr ⟨a, fun mm h1 h2 h3 => ?_⟩
        rcases Nat.lt_or_ge m mm with q | q
        · exact b mm q h2 h3
        · have : mm = m := by omega
          subst this; rw [hp] at h3; exact absurd h3 (by decide)
    · rw [cond_true]
      by_cases q : nI (cnt p m) = ix
      · rw [decide_eq_true q, cond_true]
        exact Or.inl ⟨m, Nat.le_refl _, by omega, hp, q, rfl⟩
      · rw [decide_eq_false q, cond_false, cnt_t hp]
        rcases ih (m + 1) (by omega) with ⟨mm, a, b, c, d, e⟩ | ⟨a, b⟩
        · exact Or.inl ⟨mm, by omega, b, c, d, e⟩
        · refine Or.inr ⟨a, fun mm h1 h2 h3 => ?_⟩
          rcases Nat.lt_or_ge m mm with q2 | q2
          · exact b mm q2 h2 h3
          · have : mm = m := by omega
            subst this; exact q
/-- the mail with so many ahead of it in the order -/
theorem lat_spec {σ : ST} (p : Nat → Bool) (ix : Int32) (h60 : ∀ i, σ 6 i < 60) (N : Nat) : ∀ n pl, pl + n = N → (∃ k, pl ≤ k ∧ k < N ∧ p (σ 6 k) = true ∧ nI (cnt (fun i => p (σ 6 i)) k) = ix ∧ lat σ (ms p 60) ix n pl (cnt (fun i => p (σ 6 i)) pl) = σ 6 k + 1) ∨ (lat σ (ms p 60) ix n pl (cnt (fun i => p (σ 6 i)) pl) = 0 ∧ ∀ k, pl ≤ k → k < N → p (σ 6 k) = true → ¬ nI (cnt (fun i => p (σ 6 i)) k) = ix) := by
  intro n
  induction n with
  | zero => intro m h; exact Or.inr ⟨rfl, fun mm h1 h2 => by omega⟩
  | succ n ih =>
    intro m h
    simp only [lat]
    rw [hl_ms p (h60 m)]
    cases hp : p (σ 6 m)
    · rw [cnt_f (p := fun i => p (σ 6 i)) hp]
      rcases ih (m + 1) (by omega) with ⟨mm, a, b, c, d, e⟩ | ⟨a, b⟩
      · exact Or.inl ⟨mm, by omega, b, c, d, e⟩
      · refine Or.inr ⟨a, fun mm h1 h2 h3 => ?_⟩
        rcases Nat.lt_or_ge m mm with q | q
        · exact b mm q h2 h3
        · have : mm = m := by omega
          subst this; rw [hp] at h3; exact absurd h3 (by decide)
    · rw [cond_true]
      by_cases q : nI (cnt (fun i => p (σ 6 i)) m) = ix
      · rw [decide_eq_true q, cond_true]
        exact Or.inl ⟨m, Nat.le_refl _, by omega, hp, q, rfl⟩
      · rw [decide_eq_false q, cond_false, cnt_t (p := fun i => p (σ 6 i)) hp]
        rcases ih (m + 1) (by omega) with ⟨mm, a, b, c, d, e⟩ | ⟨a, b⟩
        · exact Or.inl ⟨mm, by omega, b, c, d, e⟩
        · refine Or.inr ⟨a, fun mm h1 h2 h3 => ?_⟩
          rcases Nat.lt_or_ge m mm with q2 | q2
          · exact b mm q2 h2 h3
          · have : mm = m := by omega
            subst this; exact q
theorem upN_self (g : Nat → Nat) (j : Nat) : upN g j (g j) = g := by
  funext i; unfold upN; split
  · next h => rw [h]
  · rfl
theorem pio_spec (tm : Nat → Nat) (t mail : Nat) : ∀ (n : Nat) (od : Nat → Nat), ∃ pl, pl ≤ n ∧ (∀ i, i < pl → pio tm t mail n od i = od i) ∧ pio tm t mail n od pl = mail ∧ (∀ i, pl < i → i ≤ n → pio tm t mail n od i = od (i - 1)) ∧ (∀ i, n < i → pio tm t mail n od i = od i) ∧ (∀ i, pl ≤ i → i < n → tm (od i) ≤ t) ∧ (0 < pl → ¬ tm (od (pl - 1)) ≤ t) := by
  intro n
  induction n with
  | zero => exact fun od => ⟨0, Nat.le_refl _, fun i h => absurd h (Nat.not_lt_zero _), upN_same _ _ _, fun i h1 h2 => by omega, fun i h => upN_ne _ (by omega), fun i h1 h2 => by omega, fun h => absurd h (Nat.lt_irrefl _)⟩
  | succ k ih =>
    intro od
    by_cases hc : tm (od k) ≤ t
    · obtain ⟨pl, a1, a2, a3, a4, a5, a6, a7⟩ := ih (upN od (k + 1) (od k))
      have e : pio tm t mail (k + 1) od = pio tm t mail k (upN od (k + 1) (od k)) := by simp only [pio]; rw [decide_eq_true hc, cond_true]
      rw [e]
      refine ⟨pl, by omega, fun i h => ?_, a3, fun i h1 h2 => ?_, fun i h => ?_, fun i h1 h2 => ?_, fun h => ?_⟩
      · rw [a2 i h, upN_ne _ (by omega)]
      · rcases Nat.lt_or_ge k i with q | q
        · have : i = k + 1 := by omega
          subst this
          rw [a5 _ q, upN_same]; rfl
        · rw [a4 i h1 q, upN_ne _ (by omega)]
      · rw [a5 i (by omega), upN_ne _ (by omega)]
      · rcases Nat.lt_or_ge i k with q | q
        · have := a6 i h1 q; rw [upN_ne _ (by omega)] at this; exact this
        · have : i = k := by omega
          subst this; exact hc
      · have := a7 h; rw [upN_ne _ (by omega)] at this; exact this
    · have e : pio tm t mail (k + 1) od = upN od (k + 1) mail := by simp only [pio]; rw [decide_eq_false hc, cond_false]
      rw [e]
      exact ⟨k + 1, Nat.le_refl _, fun i h => upN_ne _ (by omega), upN_same _ _ _, fun i h1 h2 => by omega, fun i h => upN_ne _ (by omega), fun i h1 h2 => by omega, fun _ => hc⟩
