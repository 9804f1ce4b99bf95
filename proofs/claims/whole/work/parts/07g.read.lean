/-! what is read: the class's answers and the reference's -/
theorem mt_z {b c d : Nat} : mt 0 b c d = false := by
  unfold mt
  rw [nI_0, Int32.zero_and, decide_eq_true rfl]; rfl
theorem mt_all {a b : Nat} (ha : a < 64) : mt a b 63 0 = !decide (a = 0) := by
  have e : ∀ c, mt a c 63 0 = !decide (nI a &&& nI 63 = 0) := fun c => by
    unfold mt; rw [nI_0, Int32.and_zero, decide_eq_true (rfl : (0 : Int32) = 0), Bool.and_true]
  rw [e b, ← e 0]
  exact mt_63 ⟨a, ha⟩
theorem mt_ifd {σ μ : ST} (I : IS σ μ) {b k : Nat} (hb : b < 6) (hk : k ≤ 4) (j : Nat) : (j < μ 0 0 → mt (σ 4 j) (σ 5 j) (2 ^ b) (askq k) = ifd μ b k j) ∧ (μ 0 0 ≤ j → mt (σ 4 j) (σ 5 j) (2 ^ b) (askq k) = false) := by
  obtain ⟨i1, i2, i5, i63, i16⟩ := I.2.1 j
  refine ⟨fun h => ?_, fun h => ?_⟩
  · obtain ⟨-, -, i4, -⟩ := i1 h
    rw [i4, i5]
    unfold ifd
    by_cases q : μ 6 j = 0
    · rw [if_pos q, mt_hs i63 i16 hb hk, decide_eq_true q, Bool.true_and]
    · rw [if_neg q, mt_z, decide_eq_false q, Bool.false_and]
  · rw [(i2 h).1, mt_z]
theorem mt_th {σ μ : ST} (I : IS σ μ) (j : Nat) : (j < μ 0 0 → mt (σ 4 j) (σ 5 j) 63 0 = decide (μ 6 j = 0)) ∧ (μ 0 0 ≤ j → mt (σ 4 j) (σ 5 j) 63 0 = false) := by
  obtain ⟨i1, i2, i5, i63, i16⟩ := I.2.1 j
  refine ⟨fun h => ?_, fun h => ?_⟩
  · obtain ⟨-, -, i4, i0⟩ := i1 h
    rw [i4]
    by_cases q : μ 6 j = 0
    · rw [if_pos q, mt_all i63, decide_eq_true q, decide_eq_false (by omega)]; rfl
    · rw [if_neg q, mt_z, decide_eq_false q]
  · rw [(i2 h).1, mt_z]
theorem found_eq {σ μ : ST} (I : IS σ μ) {b k : Nat} (hb : b < 6) (hk : k ≤ 4) : cnt (fun j => mt (σ 4 j) (σ 5 j) (2 ^ b) (askq k)) 60 = cnt (fun m9 => ifd μ b k m9) (μ 0 0) := cnt_ext I.1.2.1 (fun j hj => (mt_ifd I hb hk j).1 hj) (fun j h _ => (mt_ifd I hb hk j).2 h)
theorem bxs_eq {σ μ : ST} (I : IS σ μ) {b : Nat} (hb : b < 6) : cnt (bxs σ b) 60 = cnt (fun m9 => ifd μ b 0 m9) (μ 0 0) := found_eq (k := 0) I hb (by decide)
theorem mails_eq {σ μ : ST} (I : IS σ μ) : cnt (fun j => mt (σ 4 j) (σ 5 j) 63 0) 60 = cnt (fun m9 => decide (μ 6 m9 = 0)) (μ 0 0) := cnt_ext I.1.2.1 (fun j hj => (mt_th I j).1 hj) (fun j h _ => (mt_th I j).2 h)
theorem there_eq {σ μ : ST} (I : IS σ μ) {j : Nat} (hj : j < μ 0 0) : σ 4 j = 0 ↔ μ 6 j ≠ 0 := by
  obtain ⟨-, -, i4, i0⟩ := (I.2.1 j).1 hj
  rw [i4]
  by_cases q : μ 6 j = 0
  · rw [if_pos q]; omega
  · rw [if_neg q]; exact ⟨fun _ => q, fun _ => rfl⟩
theorem thread_eq {σ μ : ST} (I : IS σ μ) (t : Nat) : cnt (fun j => inT σ t j) 60 = cnt (fun m9 => decide (μ 6 m9 = 0) && decide (μ 4 m9 = t)) (μ 0 0) := by
  refine cnt_ext I.1.2.1 (fun j hj => ?_) (fun j h _ => ?_)
  · unfold inT
    rw [((I.2.1 j).1 hj).2.1]
    by_cases q : μ 6 j = 0
    · rw [decide_eq_true q, decide_eq_false (fun z => absurd q ((there_eq I hj).mp z))]; rfl
    · rw [decide_eq_false q, decide_eq_true ((there_eq I hj).mpr q)]; rfl
  · unfold inT
    rw [decide_eq_true ((I.2.1 j).2.1 h).1]; rfl
/-! what was -/
theorem fst_ch (μ : ST) (m t : Nat) : ∀ n, (∃ k, t ≤ k ∧ k < t + n ∧ μ 8 k = m ∧ ∀ i, t ≤ i → i < k → μ 8 i ≠ m) ∨ (∀ i, t ≤ i → i < t + n → μ 8 i ≠ m) := by
  intro n
  induction n with
  | zero => exact Or.inr (fun i h1 h2 => by omega)
  | succ n ih =>
    rcases ih with ⟨k, a, b, c, d⟩ | h
    · exact Or.inl ⟨k, a, by omega, c, d⟩
    · by_cases q : μ 8 (t + n) = m
      · exact Or.inl ⟨t + n, by omega, by omega, q, h⟩
      · refine Or.inr (fun i h1 h2 => ?_)
        rcases Nat.lt_or_ge i (t + n) with z | z
        · exact h i h1 z
        · have : i = t + n := by omega
          subst this; exact q
theorem bk_none {μ : ST} {cc m t : Nat} : ∀ n acc, (∀ i, t ≤ i → i < t + n → μ 8 i ≠ m) → bk μ cc m t n acc = acc := by
  intro n
  induction n with
  | zero => intro acc _; rfl
  | succ n ih =>
    intro acc h
    simp only [bk]
    rw [decide_eq_false (h (t + n) (by omega) (by omega)), cond_false]
    exact ih acc (fun i h1 h2 => h i h1 (by omega))
theorem bk_fst {μ : ST} {cc m t k : Nat} (h1 : t ≤ k) (h2 : μ 8 k = m) (h3 : ∀ i, t ≤ i → i < k → μ 8 i ≠ m) : ∀ n acc, k < t + n → bk μ cc m t n acc = μ cc k := by
  intro n
  induction n with
  | zero => intro acc h; omega
  | succ n ih =>
    intro acc h
    simp only [bk]
    by_cases q : k = t + n
    · subst q
      rw [decide_eq_true h2, cond_true]
      exact bk_none n _ h3
    · exact ih _ (by omega)
theorem slot_eq {σ μ : ST} (I : IS σ μ) {b : Nat} (h1 : b < μ 0 1) (h2 : b < 40) : σ 8 ((σ 7 0 - b) % 40) = μ 8 (μ 0 1 - (b + 1)) ∧ σ 9 ((σ 7 0 - b) % 40) = μ 9 (μ 0 1 - (b + 1)) ∧ σ 10 ((σ 7 0 - b) % 40) = μ 10 (μ 0 1 - (b + 1)) := by
  have e : σ 7 0 - b = μ 0 1 - (b + 1) + 1 := by rw [I.1.2.2]; omega
  rw [e]
  obtain ⟨a1, a2, a3, -⟩ := I.2.2.1 (μ 0 1 - (b + 1)) (by omega) (by omega)
  exact ⟨a1, a2, a3⟩
theorem undp_none {σ μ : ST} (I : IS σ μ) {any al j : Nat} {p : Nat → Bool} : ∀ n, n ≤ μ 0 1 → n ≤ 40 → (∀ i, μ 0 1 - n ≤ i → i < μ 0 1 → μ 8 i ≠ j) → undp σ any al p n j = p j := by
  intro n
  induction n with
  | zero => intro _ _ _; rfl
  | succ b ih =>
    intro h1 h2 h
    obtain ⟨a1, -, -⟩ := slot_eq I (show b < μ 0 1 by omega) (show b < 40 by omega)
    simp only [undp]
    rw [a1, if_neg (fun q => h (μ 0 1 - (b + 1)) (Nat.le_refl _) (by omega) q.symm)]
    exact ih (by omega) (by omega) (fun i q1 q2 => h i (by omega) q2)
theorem undp_fst {σ μ : ST} (I : IS σ μ) {any al j k : Nat} {p : Nat → Bool} (hk : μ 8 k = j) (hs9 : k < μ 0 1) : ∀ n, n ≤ μ 0 1 → n ≤ 40 → μ 0 1 - n ≤ k → (∀ i, μ 0 1 - n ≤ i → i < k → μ 8 i ≠ j) → undp σ any al p n j = mt (μ 9 k) (μ 10 k) any al := by
  intro n
  induction n with
  | zero => intro _ _ h _; omega
  | succ b ih =>
    intro h1 h2 h3 h
    obtain ⟨a1, a2, a3⟩ := slot_eq I (show b < μ 0 1 by omega) (show b < 40 by omega)
    simp only [undp]
    rw [a1, a2, a3]
    by_cases q : k = μ 0 1 - (b + 1)
    · rw [← q, if_pos hk.symm]
    · rw [if_neg (fun z => h (μ 0 1 - (b + 1)) (Nat.le_refl _) (by omega) z.symm)]
      exact ih (by omega) (by omega) (by omega) (fun i q1 q2 => h i (by omega) q2)
theorem hist {σ μ : ST} (I : IS σ μ) {t j : Nat} (ht : t ≤ μ 0 1) (hj : j < μ 0 0) : (∃ k, t ≤ k ∧ k < μ 0 1 ∧ μ 8 k = j ∧ (∀ i, t ≤ i → i < k → μ 8 i ≠ j) ∧ ((wth μ j t = true ∧ 1 ≤ μ 9 k) ∨ (wth μ j t = false ∧ μ 9 k = 0)) ∧ μ 9 k < 64 ∧ μ 10 k < 16) ∨ ((∀ i, t ≤ i → i < μ 0 1 → μ 8 i ≠ j) ∧ wth μ j t = decide (μ 6 j = 0)) := by
  obtain ⟨-, -, -, Ih1, Ih2, -, -⟩ := I
  obtain ⟨a1, a2, a3, a4⟩ := Ih1 j hj
  rcases fst_ch μ j t (μ 0 1 - t) with ⟨k, b1, b2, b3, b4⟩ | h
  · have hk : k < μ 0 1 := by omega
    obtain ⟨-, d2, d3, d4, d5, d6, d7⟩ := Ih2 k hk
    rw [b3] at d2 d3 d4 d5
    refine Or.inl ⟨k, b1, hk, b3, b4, ?_, d6, d7⟩
    by_cases q : μ 5 j = k + 1
    · refine Or.inr ⟨?_, d4 q⟩
      unfold wth
      rw [decide_eq_true (show t < μ 5 j by omega)]; rfl
    · refine Or.inl ⟨?_, d5 q⟩
      have h5 : μ 5 j ≤ t := by
        rcases Nat.lt_or_ge t (μ 5 j) with z | z
        · exact absurd a3 (b4 (μ 5 j - 1) (by omega) (by omega))
        · exact z
      unfold wth
      rw [decide_eq_false (show ¬ t < μ 5 j by omega)]
      rcases d3 with z | z
      · rw [decide_eq_true z]; rfl
      · rw [decide_eq_false (show ¬ μ 6 j ≤ t by omega), Bool.not_false, Bool.or_true]; rfl
  · have h' : ∀ i, t ≤ i → i < μ 0 1 → μ 8 i ≠ j := fun i h1 h2 => h i h1 (by omega)
    refine Or.inr ⟨h', ?_⟩
    have h5 : μ 5 j ≤ t := by
      rcases Nat.lt_or_ge t (μ 5 j) with z | z
      · exact absurd a3 (h' (μ 5 j - 1) (by omega) (by omega))
      · exact z
    unfold wth
    rw [decide_eq_false (show ¬ t < μ 5 j by omega)]
    by_cases q : μ 6 j = 0
    · rw [decide_eq_true q]; rfl
    · obtain ⟨e1, e2⟩ := a4 q
      have h6 : μ 6 j ≤ t := by
        rcases Nat.lt_or_ge t (μ 6 j) with z | z
        · exact absurd e2 (h' (μ 6 j - 1) (by omega) (by omega))
        · exact z
      rw [decide_eq_false q, decide_eq_true h6]; rfl
theorem no_ch {σ μ : ST} (I : IS σ μ) {j i : Nat} (hj : μ 0 0 ≤ j) (hi : i < μ 0 1) : μ 8 i ≠ j := by
  have := (I.2.2.2.2.1 i hi).1
  omega
/-- the mails that were in the result of a query -/
theorem wfd_eq {σ μ : ST} (I : IS σ μ) {b k t : Nat} (hb : b < 6) (hk : k ≤ 4) (ht : t ≤ μ 0 1) (h40 : μ 0 1 - t ≤ 40) (j : Nat) : (j < μ 0 0 → undp σ (2 ^ b) (askq k) (fun j => mt (σ 4 j) (σ 5 j) (2 ^ b) (askq k)) (μ 0 1 - t) j = wfd μ t b k j) ∧ (μ 0 0 ≤ j → undp σ (2 ^ b) (askq k) (fun j => mt (σ 4 j) (σ 5 j) (2 ^ b) (askq k)) (μ 0 1 - t) j = false) := by
  have e : μ 0 1 - (μ 0 1 - t) = t := by omega
  refine ⟨fun hj => ?_, fun hj => ?_⟩
  · unfold wfd
    rcases hist I ht hj with ⟨q, a1, a2, a3, a4, a5, a6, a7⟩ | ⟨a1, a2⟩
    · rw [undp_fst I a3 a2 _ (by omega) h40 (by omega) (by rw [e]; exact a4), bk_fst a1 a3 a4 _ _ (by omega), bk_fst a1 a3 a4 _ _ (by omega)]
      rcases a5 with ⟨z, -⟩ | ⟨z, z0⟩
      · rw [z, Bool.true_and, mt_hs a6 a7 hb hk]
      · rw [z, z0, mt_z]; rfl
    · rw [undp_none I _ (by omega) h40 (by rw [e]; exact a1), bk_none _ _ (fun i h1 h2 => a1 i h1 (by omega)), bk_none _ _ (fun i h1 h2 => a1 i h1 (by omega)), a2]
      exact (mt_ifd I hb hk j).1 hj
  · rw [undp_none I _ (by omega) h40 (fun i _ h2 => no_ch I hj h2)]
    exact (mt_ifd I hb hk j).2 hj
theorem wth_eq {σ μ : ST} (I : IS σ μ) {t : Nat} (ht : t ≤ μ 0 1) (h40 : μ 0 1 - t ≤ 40) (j : Nat) : (j < μ 0 0 → undp σ 63 0 (fun j => mt (σ 4 j) (σ 5 j) 63 0) (μ 0 1 - t) j = wth μ j t) ∧ (μ 0 0 ≤ j → undp σ 63 0 (fun j => mt (σ 4 j) (σ 5 j) 63 0) (μ 0 1 - t) j = false) := by
  have e : μ 0 1 - (μ 0 1 - t) = t := by omega
  refine ⟨fun hj => ?_, fun hj => ?_⟩
  · rcases hist I ht hj with ⟨q, a1, a2, a3, a4, a5, a6, a7⟩ | ⟨a1, a2⟩
    · rw [undp_fst I a3 a2 _ (by omega) h40 (by omega) (by rw [e]; exact a4), mt_all a6]
      rcases a5 with ⟨z, z0⟩ | ⟨z, z0⟩
      · rw [z, decide_eq_false (by omega)]; rfl
      · rw [z, z0]; rfl
    · rw [undp_none I _ (by omega) h40 (by rw [e]; exact a1), a2]
      exact (mt_th I j).1 hj
  · rw [undp_none I _ (by omega) h40 (fun i _ h2 => no_ch I hj h2)]
    exact (mt_th I j).2 hj
theorem min_eq9 {σ μ : ST} (I : IS σ μ) {t : Nat} (h40 : μ 0 1 - t ≤ 40) : min (σ 7 0 - t) 40 = μ 0 1 - t := by rw [I.1.2.2]; exact Nat.min_eq_left h40
theorem rmv_eq {σ μ : ST} (I : IS σ μ) {b k t : Nat} (hb : b < 6) (hk : k ≤ 4) (ht : t ≤ μ 0 1) (h40 : μ 0 1 - t ≤ 40) : bitc (rmv σ t (2 ^ b) (askq k)) = nI (cnt (fun m9 => wfd μ t b k m9 && !ifd μ b k m9) (μ 0 0)) := by
  unfold rmv
  rw [min_eq9 I h40, und_ms I.2.2.2.2.2.2.1, ms_andn, bitc_ms]
  congr 1
  refine cnt_ext I.1.2.1 (fun j hj => ?_) (fun j h _ => ?_)
  · rw [(wfd_eq I hb hk ht h40 j).1 hj, (mt_ifd I hb hk j).1 hj]
  · rw [(wfd_eq I hb hk ht h40 j).2 h, Bool.false_and]
theorem add_eq {σ μ : ST} (I : IS σ μ) {b k t : Nat} (hb : b < 6) (hk : k ≤ 4) (ht : t ≤ μ 0 1) (h40 : μ 0 1 - t ≤ 40) : bitc (add_ σ t (2 ^ b) (askq k)) = nI (cnt (fun m9 => !wfd μ t b k m9 && ifd μ b k m9) (μ 0 0)) := by
  unfold add_
  rw [min_eq9 I h40, und_ms I.2.2.2.2.2.2.1, ms_andn, bitc_ms]
  congr 1
  refine cnt_ext I.1.2.1 (fun j hj => ?_) (fun j h _ => ?_)
  · rw [(wfd_eq I hb hk ht h40 j).1 hj, (mt_ifd I hb hk j).1 hj, Bool.and_comm]
  · rw [(mt_ifd I hb hk j).2 h, Bool.false_and]
theorem exn_iff {p : Nat → Bool} {t : Nat} : ∀ {n : Nat}, exn p t n = true ↔ ∃ k, t ≤ k ∧ k < t + n ∧ p k = true := by
  intro n
  induction n with
  | zero => exact ⟨fun h => absurd h (by simp [exn]), fun ⟨k, a, b, _⟩ => by omega⟩
  | succ n ih =>
    simp only [exn, Bool.or_eq_true, ih]
    constructor
    · rintro (⟨k, a, b, c⟩ | h)
      · exact ⟨k, a, by omega, c⟩
      · exact ⟨t + n, by omega, by omega, h⟩
    · rintro ⟨k, a, b, c⟩
      rcases Nat.lt_or_ge k (t + n) with q | q
      · exact Or.inl ⟨k, a, q, c⟩
      · have : k = t + n := by omega
        subst this; exact Or.inr c
theorem tchp_iff {σ μ : ST} (I : IS σ μ) {j : Nat} : ∀ {n : Nat}, n ≤ μ 0 1 → n ≤ 40 → (tchp σ n j = true ↔ ∃ k, μ 0 1 - n ≤ k ∧ k < μ 0 1 ∧ μ 8 k = j) := by
  intro n
  induction n with
  | zero => intro _ _; exact ⟨fun h => absurd h (by simp [tchp]), fun ⟨k, a, b, _⟩ => by omega⟩
  | succ b ih =>
    intro h1 h2
    obtain ⟨a1, -, -⟩ := slot_eq I (show b < μ 0 1 by omega) (show b < 40 by omega)
    simp only [tchp]
    rw [a1]
    by_cases q : j = μ 8 (μ 0 1 - (b + 1))
    · rw [if_pos q]
      exact ⟨fun _ => ⟨_, Nat.le_refl _, by omega, q.symm⟩, fun _ => rfl⟩
    · rw [if_neg q, ih (by omega) (by omega)]
      constructor
      · rintro ⟨k, a, c, d⟩; exact ⟨k, by omega, c, d⟩
      · rintro ⟨k, a, c, d⟩
        refine ⟨k, ?_, c, d⟩
        rcases Nat.lt_or_ge k (μ 0 1 - b) with z | z
        · have : k = μ 0 1 - (b + 1) := by omega
          subst this; exact absurd d.symm q
        · exact z
theorem tch_eq {σ μ : ST} (I : IS σ μ) {t j : Nat} (ht : t ≤ μ 0 1) (h40 : μ 0 1 - t ≤ 40) : tchp σ (μ 0 1 - t) j = ich μ j t := by
  rw [Bool.eq_iff_iff, tchp_iff I (by omega) h40]
  unfold ich
  rw [exn_iff]
  constructor
  · rintro ⟨k, a, c, d⟩; exact ⟨k, by omega, by omega, decide_eq_true d⟩
  · rintro ⟨k, a, c, d⟩; exact ⟨k, by omega, by omega, of_decide_eq_true d⟩
theorem chs_eq {σ μ : ST} (I : IS σ μ) {t way : Nat} (ht : t ≤ μ 0 1) (h40 : μ 0 1 - t ≤ 40) : ∃ P : Nat → Bool, chs σ t way = ms P 60 ∧ (∀ j, j < μ 0 0 → P j = chm μ t way j) ∧ (∀ j, μ 0 0 ≤ j → P j = false) := by
  simp only [chs, chm]
  rw [min_eq9 I h40, und_ms I.2.2.2.2.2.2.1, tch_ms I.2.2.2.2.2.2.1]
  by_cases w0 : way = 0
  · simp only [if_pos w0]
    refine ⟨_, ms_andn _ _, fun j hj => ?_, fun j hj => ?_⟩
    · show (_ && !_) = _
      rw [(mt_th I j).1 hj, (wth_eq I ht h40 j).1 hj]
    · show (_ && !_) = _
      rw [(mt_th I j).2 hj]; rfl
  · simp only [if_neg w0]
    by_cases w2 : way = 2
    · simp only [if_pos w2]
      refine ⟨_, ms_andn _ _, fun j hj => ?_, fun j hj => ?_⟩
      · show (_ && !_) = _
        rw [(mt_th I j).1 hj, (wth_eq I ht h40 j).1 hj]
      · show (_ && !_) = _
        rw [(wth_eq I ht h40 j).2 hj]; rfl
    · simp only [if_neg w2]
      rw [ms_and, ms_and]
      refine ⟨_, rfl, fun j hj => ?_, fun j hj => ?_⟩
      · show ((_ && _) && _) = _
        rw [(mt_th I j).1 hj, (wth_eq I ht h40 j).1 hj, tch_eq I ht h40]
        cases decide (μ 6 j = 0) <;> cases wth μ j t <;> rfl
      · show ((_ && _) && _) = _
        rw [(mt_th I j).2 hj]; rfl
theorem changed_eq {σ μ : ST} (I : IS σ μ) {t way : Nat} (ht : t ≤ μ 0 1) (h40 : μ 0 1 - t ≤ 40) : bitc (chs σ t way) = nI (cnt (fun m9 => chm μ t way m9) (μ 0 0)) := by
  obtain ⟨P, e, h1, h2⟩ := chs_eq (way := way) I ht h40
  rw [e, bitc_ms, cnt_ext I.1.2.1 h1 (fun j h _ => h2 j h)]
theorem chAt_eq {σ μ : ST} (I : IS σ μ) {t way : Nat} (ht : t ≤ μ 0 1) (h40 : μ 0 1 - t ≤ 40) : (∀ ix, iw ix (nI 0) (oi (cnt (fun m9 => chm μ t way m9) (μ 0 0))) = false → low (chs σ t way) ix 60 0 0 = 0) ∧ (∀ i, i < cnt (fun m9 => chm μ t way m9) (μ 0 0) → ∃ mm, mm < μ 0 0 ∧ chm μ t way mm = true ∧ cnt (fun m9 => chm μ t way m9) mm = i ∧ low (chs σ t way) (nI i) 60 0 0 = mm + 1) := by
  obtain ⟨P, e, h1, h2⟩ := chs_eq (way := way) I ht h40
  have h60 := I.1.2.1
  have hC : cnt P 60 = cnt (fun m9 => chm μ t way m9) (μ 0 0) := cnt_ext h60 h1 (fun j h _ => h2 j h)
  rw [e, ← hC]
  have hle := cnt_le P 60
  refine ⟨fun ix h => ?_, fun i hi => ?_⟩
  · rcases low_spec P ix 60 0 (by decide) with ⟨mm, a, b, c, d, f⟩ | ⟨a, -⟩
    · rw [iw_at d (cnt_lt_of b c) (by omega)] at h; exact absurd h (by decide)
    · exact a
  · rcases low_spec P (nI i) 60 0 (by decide) with ⟨mm, a, b, c, d, f⟩ | ⟨-, a⟩
    · have hmm : mm < μ 0 0 := by
        rcases Nat.lt_or_ge mm (μ 0 0) with z | z
        · exact z
        · rw [h2 mm z] at c; exact absurd c (by decide)
      have hb9 := cnt_le P mm
      refine ⟨mm, hmm, by rw [← h1 mm hmm]; exact c, ?_, f⟩
      rw [← (nI_eq (by omega) (by omega)).mp d]
      exact (cnt_congr (fun j hj => h1 j (by omega))).symm
    · obtain ⟨m, b, c, d⟩ := cnt_hit hi
      exact absurd (by rw [d]) (a m (Nat.zero_le _) b c)
/-! the order -/
theorem ord_on {σ μ : ST} (I : IS σ μ) {m : Nat} (hm : m < μ 0 0) : ∃ p, p < μ 0 0 ∧ σ 6 p = m := by
  obtain ⟨-, -, -, -, -, ⟨o1, o2, o3⟩, -⟩ := I
  have h := o3 (fun j => decide (j = m))
  have h2 : 0 < cnt (fun j => decide (j = m)) (μ 0 0) := by
    have := cnt_lt_of (p := fun j => decide (j = m)) hm (decide_eq_true rfl)
    omega
  rw [← h] at h2
  obtain ⟨p, a, b, -⟩ := cnt_hit h2
  exact ⟨p, a, of_decide_eq_true b⟩
theorem ord_rnk {σ μ : ST} (I : IS σ μ) {b k p : Nat} (hp : p < μ 0 0) : rnk μ b k (σ 6 p) (μ 0 0) = cnt (fun i => ifd μ b k (σ 6 i)) p := by
  obtain ⟨-, -, -, -, -, ⟨o1, o2, o3⟩, -⟩ := I
  have h := o3 (fun o => ifd μ b k o && ahd μ (σ 6 p) o)
  show cnt (fun o => ifd μ b k o && ahd μ (σ 6 p) o) (μ 0 0) = _
  rw [← h]
  refine cnt_ext (Nat.le_of_lt hp) (fun i hi => ?_) (fun i h1 h2 => ?_)
  · rw [o2 i p hi hp, Bool.and_true]
  · have : ahd μ (σ 6 p) (σ 6 i) = false := by
      rcases Nat.lt_or_ge p i with q | q
      · cases z : ahd μ (σ 6 p) (σ 6 i)
        · rfl
        · have := ahd_tr z (o2 p i q h2)
          rw [ahd_ir] at this; exact absurd this (by decide)
      · have : i = p := by omega
        subst this; exact ahd_ir
    rw [this, Bool.and_false]
theorem fo_or {μ : ST} {b w ix : Nat} : ∀ n m, fo μ b w ix n m = 0 ∨ ∃ m', m ≤ m' ∧ m' < m + n ∧ ifd μ b w m' = true ∧ rnk μ b w m' (μ 0 0) = ix ∧ fo μ b w ix n m = m' + 1 := by
  intro n
  induction n with
  | zero => intro m; exact Or.inl rfl
  | succ n ih =>
    intro m
    simp only [fo]
    cases hc : (ifd μ b w m && decide (rnk μ b w m (μ 0 0) = ix))
    · rcases ih (m + 1) with h | ⟨m', a, c, d, e, f⟩
      · exact Or.inl h
      · exact Or.inr ⟨m', by omega, by omega, d, e, f⟩
    · simp only [Bool.and_eq_true, decide_eq_true_eq] at hc
      exact Or.inr ⟨m, Nat.le_refl _, by omega, hc.1, hc.2, rfl⟩
theorem lat_eq {σ μ : ST} (I : IS σ μ) {b k : Nat} (hb : b < 6) (hk : k ≤ 4) : (∀ ix, iw ix (nI 0) (oi (cnt (fun m9 => ifd μ b k m9) (μ 0 0))) = false → lat σ (ms (fun j => mt (σ 4 j) (σ 5 j) (2 ^ b) (askq k)) 60) ix (σ 1 0) 0 0 = 0) ∧ (∀ i, i < cnt (fun m9 => ifd μ b k m9) (μ 0 0) → ∃ m, m < μ 0 0 ∧ rnk μ b k m (μ 0 0) = i ∧ fo μ b k i (μ 0 0) 0 = m + 1 ∧ lat σ (ms (fun j => mt (σ 4 j) (σ 5 j) (2 ^ b) (askq k)) 60) (nI i) (σ 1 0) 0 0 = m + 1) := by
  have h60 := I.1.2.1
  obtain ⟨o1, o2, o3⟩ := I.2.2.2.2.2.1
  have b2 := I.2.2.2.2.2.2.2.1
  generalize hP : (fun j => mt (σ 4 j) (σ 5 j) (2 ^ b) (askq k)) = P
  have hPi : ∀ j, j < μ 0 0 → P j = ifd μ b k j := fun j hj => by rw [← hP]; exact (mt_ifd I hb hk j).1 hj
  have hcg : ∀ q, q ≤ μ 0 0 → cnt (fun i => P (σ 6 i)) q = cnt (fun i => ifd μ b k (σ 6 i)) q := fun q hq => cnt_congr (fun i hi => hPi _ (o1 i (by omega)))
  have hC : cnt (fun i => ifd μ b k (σ 6 i)) (μ 0 0) = cnt (fun m9 => ifd μ b k m9) (μ 0 0) := o3 (fun m9 => ifd μ b k m9)
  rw [I.1.1]
  have hle := cnt_le (fun m9 => ifd μ b k m9) (μ 0 0)
  refine ⟨fun ix h => ?_, fun i hi => ?_⟩
  · rcases lat_spec P ix b2 (μ 0 0) (μ 0 0) 0 (Nat.zero_add _) with ⟨q, a, c, d, e, f⟩ | ⟨a, -⟩
    · rw [hPi _ (o1 q c)] at d
      rw [hcg q (by omega)] at e
      rw [iw_at e (by rw [← hC]; exact cnt_lt_of (p := fun i => ifd μ b k (σ 6 i)) c d) (by omega)] at h; exact absurd h (by decide)
    · exact a
  · rcases lat_spec P (nI i) b2 (μ 0 0) (μ 0 0) 0 (Nat.zero_add _) with ⟨q, a, c, d, e, f⟩ | ⟨-, a⟩
    · have hq := o1 q c
      rw [hPi _ hq] at d
      rw [hcg q (by omega)] at e
      have hb9 := cnt_le (fun i => ifd μ b k (σ 6 i)) q
      have hr : rnk μ b k (σ 6 q) (μ 0 0) = i := by rw [ord_rnk I c]; exact (nI_eq (by omega) (by omega)).mp e
      refine ⟨σ 6 q, hq, hr, ?_, f⟩
      rcases fo_or (μ := μ) (b := b) (w := k) (ix := i) (μ 0 0) 0 with h | ⟨m', -, c2, d2, e2, f2⟩
      · exact absurd h (fo_ne hi)
      · obtain ⟨q2, g1, rfl⟩ := ord_on I (show m' < μ 0 0 by omega)
        rw [ord_rnk I g1] at e2
        rw [ord_rnk I c] at hr
        rw [cnt_inj (p := fun i => ifd μ b k (σ 6 i)) d d2 (by rw [hr, e2])]
        exact f2
    · rw [← hC] at hi
      obtain ⟨q, c, d, e⟩ := cnt_hit hi
      exact absurd (by rw [hcg q (by omega), e]) (a q (Nat.zero_le _) c (by rw [hPi _ (o1 q c)]; exact d))
/-! pages -/
theorem pgs_iff {σ μ : ST} (I : IS σ μ) {st j : Nat} (hst : st ≤ μ 0 1) (h40 : μ 0 1 - st ≤ 40) : ∀ {a : Nat}, st + a ≤ μ 0 1 → (pgsp σ st a j = true ↔ ∃ k, st ≤ k ∧ k < st + a ∧ μ 8 k = j) := by
  intro a
  induction a with
  | zero => intro _; exact ⟨fun h => absurd h (by simp [pgsp]), fun ⟨k, a, b, _⟩ => by omega⟩
  | succ a ih =>
    intro h
    have a1 := (I.2.2.1 (st + a) (by omega) (by omega)).1
    simp only [pgsp]
    rw [show st + 1 + a = st + a + 1 by omega, a1]
    by_cases q : j = μ 8 (st + a)
    · rw [if_pos q]
      exact ⟨fun _ => ⟨st + a, by omega, by omega, q.symm⟩, fun _ => rfl⟩
    · rw [if_neg q, ih (by omega)]
      constructor
      · rintro ⟨k, b, c, d⟩; exact ⟨k, b, by omega, d⟩
      · rintro ⟨k, b, c, d⟩
        refine ⟨k, b, ?_, d⟩
        rcases Nat.lt_or_ge k (st + a) with z | z
        · exact z
        · have : k = st + a := by omega
          subst this; exact absurd d.symm q
theorem page_eq {σ μ : ST} (I : IS σ μ) {st pl : Nat} (hst : st ≤ μ 0 1) (h40 : μ 0 1 - st ≤ 40) (hpl : pl ≤ 20) : ∀ n a left, st + a + n = μ 0 1 → cnt (pgsp σ st a) 60 + left = pl → pge σ st pl n a = mpg μ st n (st + a) left := by
  intro n
  induction n with
  | zero => intro a left h _; show σ 7 0 = st + a; rw [I.1.2.2]; omega
  | succ n ih =>
    intro a left h hl
    have a1 := (I.2.2.1 (st + a) (by omega) (by omega)).1
    have hm : μ 8 (st + a) < 60 := by
      have := (I.2.2.2.2.1 (st + a) (by omega)).1
      have := I.1.2.1
      omega
    have hnw : pgsp σ st a (μ 8 (st + a)) = !mnw μ st (st + a) := by
      unfold mnw
      rw [Bool.not_not, Bool.eq_iff_iff, pgs_iff I hst h40 (by omega), exn_iff]
      constructor
      · rintro ⟨k, b, c, d⟩; exact ⟨k, b, by omega, decide_eq_true d⟩
      · rintro ⟨k, b, c, d⟩; exact ⟨k, b, by omega, of_decide_eq_true d⟩
    have hle := cnt_le (pgsp σ st a) 60
    have hcc : pgc σ st pl a = (mnw μ st (st + a) && decide (left = 0)) := by
      unfold pgc
      rw [show st + 1 + a = st + a + 1 by omega, a1, pgs_ms I.2.2.2.2.2.2.1, hl_ms _ hm, bitc_ms, hnw, Bool.not_not]
      congr 1
      by_cases q : left = 0
      · rw [decide_eq_true q, decide_eq_false (fun z => absurd ((nI_ltI (by omega) (by omega)).mp z) (by omega))]; rfl
      · rw [decide_eq_false q, decide_eq_true ((nI_ltI (by omega) (by omega)).mpr (by omega))]; rfl
    simp only [pge, mpg]
    rw [hcc]
    cases hw : mnw μ st (st + a)
    · rw [Bool.false_and, cond_false, cond_false]
      refine ih (a + 1) _ (by omega) ?_
      rw [hw] at hnw
      have e : ∀ j, j < 60 → pgsp σ st (a + 1) j = pgsp σ st a j := fun j _ => by
        simp only [pgsp]
        rw [show st + 1 + a = st + a + 1 by omega, a1]
        by_cases q : j = μ 8 (st + a)
        · rw [if_pos q, q, hnw]; rfl
        · rw [if_neg q]
      rw [cnt_congr e]
      exact hl
    · rw [Bool.true_and]
      by_cases q : left = 0
      · rw [decide_eq_true q, cond_true, cond_true]
      · rw [decide_eq_false q, cond_false, cond_false]
        refine ih (a + 1) _ (by omega) ?_
        rw [hw] at hnw
        have e : cnt (pgsp σ st (a + 1)) 60 = cnt (pgsp σ st a) 60 + 1 := by
          have h1 := cnt_more (p := pgsp σ st a) (m := μ 8 (st + a)) (by rw [hnw]; rfl) hm
          rw [← h1]
          refine cnt_congr (fun j _ => ?_)
          simp only [pgsp]
          rw [show st + 1 + a = st + a + 1 by omega, a1]
        rw [e]
        show _ + 1 + (left - 1) = pl
        omega
