/-! what holds between the calls: the server of the class and the reference -/
def I_c (σ μ : ST) : Prop := σ 1 0 = μ 0 0 ∧ μ 0 0 ≤ 60 ∧ σ 7 0 = μ 0 1
def I_m (σ μ : ST) : Prop := ∀ j, (j < μ 0 0 → σ 2 j = μ 1 j ∧ σ 3 j = μ 4 j ∧ σ 4 j = (if μ 6 j = 0 then μ 2 j else 0) ∧ 1 ≤ μ 2 j) ∧ (μ 0 0 ≤ j → σ 4 j = 0 ∧ μ 2 j = 0 ∧ μ 3 j = 0 ∧ μ 6 j = 0) ∧ σ 5 j = μ 3 j ∧ μ 2 j < 64 ∧ μ 3 j < 16
def I_r (σ μ : ST) : Prop := ∀ k, k < μ 0 1 → μ 0 1 ≤ k + 40 → σ 8 ((k + 1) % 40) = μ 8 k ∧ σ 9 ((k + 1) % 40) = μ 9 k ∧ σ 10 ((k + 1) % 40) = μ 10 k ∧ (μ 7 k = 2 → 1 ≤ μ 11 k ∧ μ 11 k ≤ 4 ∧ μ 12 k < 2 ∧ hs (μ 10 k) (μ 11 k - 1) ≠ nb (μ 12 k) ∧ σ 11 ((k + 1) % 40) = wn (μ 10 k) (μ 11 k - 1) (nb (μ 12 k))) ∧ (μ 7 k ≠ 2 → σ 11 ((k + 1) % 40) = μ 10 k)
def I_h1 (μ : ST) : Prop := ∀ m, m < μ 0 0 → 1 ≤ μ 5 m ∧ μ 5 m ≤ μ 0 1 ∧ μ 8 (μ 5 m - 1) = m ∧ (μ 6 m ≠ 0 → μ 6 m ≤ μ 0 1 ∧ μ 8 (μ 6 m - 1) = m)
def I_h2 (μ : ST) : Prop := ∀ k, k < μ 0 1 → μ 8 k < μ 0 0 ∧ μ 5 (μ 8 k) ≤ k + 1 ∧ (μ 6 (μ 8 k) = 0 ∨ k + 1 ≤ μ 6 (μ 8 k)) ∧ (μ 5 (μ 8 k) = k + 1 → μ 9 k = 0) ∧ (μ 5 (μ 8 k) ≠ k + 1 → 1 ≤ μ 9 k) ∧ μ 9 k < 64 ∧ μ 10 k < 16
def I_o (σ μ : ST) : Prop := (∀ p, p < μ 0 0 → σ 6 p < μ 0 0) ∧ (∀ p q, p < q → q < μ 0 0 → ahd μ (σ 6 q) (σ 6 p) = true) ∧ (∀ P : Nat → Bool, cnt (fun i => P (σ 6 i)) (μ 0 0) = cnt P (μ 0 0))
def I_b (σ μ : ST) : Prop := (∀ i, σ 8 i < 60) ∧ (∀ i, σ 6 i < 60) ∧ (∀ k i, σ k i < 20000) ∧ (∀ k i, μ k i < 20000)
def IS (σ μ : ST) : Prop := I_c σ μ ∧ I_m σ μ ∧ I_r σ μ ∧ I_h1 μ ∧ I_h2 μ ∧ I_o σ μ ∧ I_b σ μ
theorem su_self (S : ST) (k : Nat) : su S k (S k) = S := by
  funext j; unfold su
  cases h : Nat.beq j k
  · rfl
  · rw [Nat.eq_of_beq_eq_true h]; rfl
theorem mod_ne {s k : Nat} (h : k < s) (h2 : s + 1 ≤ k + 40) : (k + 1) % 40 ≠ (s + 1) % 40 := by omega
/-- one change of a mail that is there, on both sides -/
theorem IS_step {σ σ' μ μ' : ST} {j its wd ws b w g : Nat} (I : IS σ μ) (hj : j < μ 0 0) (h6 : μ 6 j = 0) (hb1 : 1 ≤ b) (hb2 : b < 64) (hw : w < 16) (hg : g = 0 ∨ g = μ 0 1 + 1) (hst : μ 0 1 < 4000) (hits : its < 20000) (hwd : wd < 20000) (hws : ws < 20000)
    (hk2 : its = 2 → 1 ≤ wd ∧ wd ≤ 4 ∧ ws < 2 ∧ hs (μ 3 j) (wd - 1) ≠ nb ws ∧ w = wn (μ 3 j) (wd - 1) (nb ws)) (hk1 : its ≠ 2 → w = μ 3 j)
    (s1 : σ' 1 0 = σ 1 0) (s2 : σ' 2 = σ 2) (s3 : σ' 3 = σ 3) (s4 : σ' 4 = upN (σ 4) j (if g = 0 then b else 0)) (s5 : σ' 5 = upN (σ 5) j w) (s6 : σ' 6 = σ 6) (s7 : σ' 7 0 = σ 7 0 + 1) (s8 : σ' 8 = upN (σ 8) ((σ 7 0 + 1) % 40) j) (s9 : σ' 9 = upN (σ 9) ((σ 7 0 + 1) % 40) (σ 4 j)) (s10 : σ' 10 = upN (σ 10) ((σ 7 0 + 1) % 40) (σ 5 j)) (s11 : σ' 11 = upN (σ 11) ((σ 7 0 + 1) % 40) w)
    (m0 : μ' 0 0 = μ 0 0) (m01 : μ' 0 1 = μ 0 1 + 1) (m1 : μ' 1 = μ 1) (m2 : μ' 2 = upN (μ 2) j b) (m3 : μ' 3 = upN (μ 3) j w) (m4 : μ' 4 = μ 4) (m5 : μ' 5 = μ 5) (m6 : μ' 6 = upN (μ 6) j g) (m7 : μ' 7 = upN (μ 7) (μ 0 1) its) (m8 : μ' 8 = upN (μ 8) (μ 0 1) j) (m9 : μ' 9 = upN (μ 9) (μ 0 1) (μ 2 j)) (m10 : μ' 10 = upN (μ 10) (μ 0 1) (μ 3 j)) (m11 : μ' 11 = upN (μ 11) (μ 0 1) wd) (m12 : μ' 12 = upN (μ 12) (μ 0 1) ws)
    (hbσ : ∀ k i, σ' k i < 20000) (hbμ : ∀ k i, μ' k i < 20000) : IS σ' μ' := by
  obtain ⟨⟨c1, c2, c3⟩, Im, Ir, Ih1, Ih2, ⟨o1, o2, o3⟩, ⟨b1, b2, b3, b4⟩⟩ := I
  obtain ⟨j1, -, j5, j63, j16⟩ := Im j
  obtain ⟨j2, j3, j4, j0⟩ := j1 hj
  rw [if_pos h6] at j4
  have hah : ∀ x y, ahd μ' x y = ahd μ x y := fun x y => by unfold ahd; rw [m1]
  refine ⟨⟨by rw [s1, m0]; exact c1, by rw [m0]; exact c2, by rw [s7, m01, c3]⟩, ?_, ?_, ?_, ?_, ⟨?_, ?_, ?_⟩, ⟨?_, by rw [s6]; exact b2, hbσ, hbμ⟩⟩
  · intro i
    obtain ⟨i1, i2, i5, i63, i16⟩ := Im i
    rw [m0, s2, s3, s4, s5, m1, m2, m3, m4, m6]
    by_cases q : i = j
    · subst q
      simp only [upN_same]
      exact ⟨fun _ => ⟨j2, j3, trivial, hb1⟩, fun h => absurd hj (by omega), trivial, hb2, hw⟩
    · simp only [upN_ne _ q]
      exact ⟨i1, i2, i5, i63, i16⟩
  · intro k hk1' hk2'
    rw [m01] at hk1' hk2'
    rw [s8, s9, s10, s11, m7, m8, m9, m10, m11, m12, c3]
    rcases Nat.lt_or_ge k (μ 0 1) with q | q
    · have ne := mod_ne q hk2'
      have nk : k ≠ μ 0 1 := by omega
      simp only [upN_ne _ ne, upN_ne _ nk]
      exact Ir k q (by omega)
    · have : k = μ 0 1 := by omega
      subst this
      simp only [upN_same]
      exact ⟨trivial, j4, j5, hk2, hk1⟩
  · intro m hm
    rw [m0] at hm
    obtain ⟨a1, a2, a3, a4⟩ := Ih1 m hm
    rw [m5, m01, m8, m6, upN_ne _ (show μ 5 m - 1 ≠ μ 0 1 by omega)]
    refine ⟨a1, by omega, a3, ?_⟩
    by_cases q : m = j
    · subst q
      rw [upN_same]
      intro hg0
      rcases hg with h | h
      · exact absurd h hg0
      · subst h; exact ⟨Nat.le_refl _, by rw [Nat.add_sub_cancel, upN_same]⟩
    · rw [upN_ne _ q]
      intro h
      obtain ⟨e1, e2⟩ := a4 h
      exact ⟨by omega, by rw [upN_ne _ (by omega)]; exact e2⟩
  · intro k hk
    rw [m01] at hk
    rw [m8, m5, m6, m9, m10, m0]
    rcases Nat.lt_or_ge k (μ 0 1) with q | q
    · have nk : k ≠ μ 0 1 := by omega
      simp only [upN_ne _ nk]
      obtain ⟨a1, a2, a3, a4, a5, a6, a7⟩ := Ih2 k q
      refine ⟨a1, a2, ?_, a4, a5, a6, a7⟩
      by_cases q2 : μ 8 k = j
      · rw [q2, upN_same]; omega
      · rw [upN_ne _ q2]; exact a3
    · have : k = μ 0 1 := by omega
      subst this
      simp only [upN_same]
      obtain ⟨a1, a2, a3, a4⟩ := Ih1 j hj
      exact ⟨hj, by omega, by omega, fun h => by omega, fun _ => j0, j63, j16⟩
  · intro p hp; rw [s6, m0]; rw [m0] at hp; exact o1 p hp
  · intro p q h1 h2; rw [s6, hah]; rw [m0] at h2; exact o2 p q h1 h2
  · intro P; rw [s6, m0]; exact o3 P
  · rw [s8]; exact up_lt b1 (by omega)
/-- a mail that comes, on both sides -/
theorem IS_come {σ σ' μ μ' : ST} {t b th : Nat} (I : IS σ μ) (hc : μ 0 0 < 60) (hb1 : 1 ≤ b) (hb2 : b < 64) (hst : μ 0 1 < 4000)
    (s1 : σ' 1 0 = σ 1 0 + 1) (s2 : σ' 2 = upN (σ 2) (σ 1 0) t) (s3 : σ' 3 = upN (σ 3) (σ 1 0) th) (s4 : σ' 4 = upN (σ 4) (σ 1 0) b) (s5 : σ' 5 = upN (σ 5) (σ 1 0) 0) (s6 : σ' 6 = pio (upN (σ 2) (σ 1 0) t) t (σ 1 0) (min (σ 1 0) 59) (σ 6)) (s7 : σ' 7 0 = σ 7 0 + 1) (s8 : σ' 8 = upN (σ 8) ((σ 7 0 + 1) % 40) (σ 1 0)) (s9 : σ' 9 = upN (σ 9) ((σ 7 0 + 1) % 40) (σ 4 (σ 1 0))) (s10 : σ' 10 = upN (σ 10) ((σ 7 0 + 1) % 40) (σ 5 (σ 1 0))) (s11 : σ' 11 = upN (σ 11) ((σ 7 0 + 1) % 40) 0)
    (m0 : μ' 0 0 = μ 0 0 + 1) (m01 : μ' 0 1 = μ 0 1 + 1) (m1 : μ' 1 = upN (μ 1) (μ 0 0) t) (m2 : μ' 2 = upN (μ 2) (μ 0 0) b) (m3 : μ' 3 = μ 3) (m4 : μ' 4 = upN (μ 4) (μ 0 0) th) (m5 : μ' 5 = upN (μ 5) (μ 0 0) (μ 0 1 + 1)) (m6 : μ' 6 = μ 6) (m7 : μ' 7 = upN (μ 7) (μ 0 1) 0) (m8 : μ' 8 = upN (μ 8) (μ 0 1) (μ 0 0)) (m9 : μ' 9 = upN (μ 9) (μ 0 1) (μ 2 (μ 0 0))) (m10 : μ' 10 = upN (μ 10) (μ 0 1) (μ 3 (μ 0 0))) (m11 : μ' 11 = upN (μ 11) (μ 0 1) 0) (m12 : μ' 12 = upN (μ 12) (μ 0 1) 0)
    (hbσ : ∀ k i, σ' k i < 20000) (hbμ : ∀ k i, μ' k i < 20000) : IS σ' μ' := by
  obtain ⟨⟨c1, c2, c3⟩, Im, Ir, Ih1, Ih2, ⟨o1, o2, o3⟩, ⟨b1, b2, b3, b4⟩⟩ := I
  rw [c1] at s1 s2 s3 s4 s5 s6 s8 s9 s10
  rw [c3] at s7 s8 s9 s10 s11
  rw [Nat.min_eq_left (show μ 0 0 ≤ 59 by omega)] at s6
  obtain ⟨-, j1, j5, j63, j16⟩ := Im (μ 0 0)
  obtain ⟨j4, j2, j3, j6⟩ := j1 (Nat.le_refl _)
  obtain ⟨pl, p1, p2, p3, p4, p5, p6, p7⟩ := pio_spec (upN (σ 2) (μ 0 0) t) t (μ 0 0) (μ 0 0) (σ 6)
  rw [← s6] at p2 p3 p4 p5
  have tme : ∀ i, i < μ 0 0 → upN (σ 2) (μ 0 0) t (σ 6 i) = μ 1 (σ 6 i) := fun i hi => by
    have h1 := o1 i hi
    rw [upN_ne _ (by omega)]
    exact ((Im (σ 6 i)).1 h1).1
  have m1e : ∀ i, i < μ 0 0 → μ' 1 i = μ 1 i := fun i hi => by rw [m1]; exact upN_ne _ (by omega)
  have m1n : μ' 1 (μ 0 0) = t := by rw [m1]; exact upN_same _ _ _
  refine ⟨⟨by rw [s1, m0], by omega, by rw [s7, m01]⟩, ?_, ?_, ?_, ?_, ⟨?_, ?_, ?_⟩, ⟨?_, ?_, hbσ, hbμ⟩⟩
  · intro i
    obtain ⟨i1, i2, i5, i63, i16⟩ := Im i
    rw [m0, s2, s3, s4, s5, m1, m2, m3, m4, m6]
    by_cases q : i = μ 0 0
    · subst q
      simp only [upN_same]
      exact ⟨fun _ => ⟨trivial, trivial, by rw [if_pos j6], hb1⟩, fun h => by omega, j3.symm, hb2, j16⟩
    · simp only [upN_ne _ q]
      exact ⟨fun h => i1 (by omega), fun h => i2 (by omega), i5, i63, i16⟩
  · intro k hk1' hk2'
    rw [m01] at hk1' hk2'
    rw [s8, s9, s10, s11, m7, m8, m9, m10, m11, m12]
    rcases Nat.lt_or_ge k (μ 0 1) with q | q
    · have ne := mod_ne q hk2'
      have nk : k ≠ μ 0 1 := by omega
      simp only [upN_ne _ ne, upN_ne _ nk]
      exact Ir k q (by omega)
    · have : k = μ 0 1 := by omega
      subst this
      simp only [upN_same]
      exact ⟨trivial, by rw [j4, j2], j5, fun h => by omega, fun _ => j3.symm⟩
  · intro m hm
    rw [m0] at hm
    rw [m5, m01, m8, m6]
    rcases Nat.lt_or_ge m (μ 0 0) with q | q
    · obtain ⟨a1, a2, a3, a4⟩ := Ih1 m q
      rw [upN_ne (μ 5) (show m ≠ μ 0 0 by omega), upN_ne _ (show μ 5 m - 1 ≠ μ 0 1 by omega)]
      refine ⟨a1, by omega, a3, fun h => ?_⟩
      obtain ⟨e1, e2⟩ := a4 h
      exact ⟨by omega, by rw [upN_ne _ (by omega)]; exact e2⟩
    · have : m = μ 0 0 := by omega
      subst this
      rw [upN_same, Nat.add_sub_cancel, upN_same]
      exact ⟨by omega, Nat.le_refl _, rfl, fun h => absurd j6 h⟩
  · intro k hk
    rw [m01] at hk
    rw [m8, m5, m6, m9, m10, m0]
    rcases Nat.lt_or_ge k (μ 0 1) with q | q
    · have nk : k ≠ μ 0 1 := by omega
      simp only [upN_ne _ nk]
      obtain ⟨a1, a2, a3, a4, a5, a6, a7⟩ := Ih2 k q
      rw [upN_ne _ (show μ 8 k ≠ μ 0 0 by omega)]
      exact ⟨by omega, a2, a3, a4, a5, a6, a7⟩
    · have : k = μ 0 1 := by omega
      subst this
      simp only [upN_same]
      exact ⟨by omega, Nat.le_refl _, Or.inl j6, fun _ => j2, fun h => absurd rfl h, j63, j16⟩
  · intro p hp
    rw [m0] at hp ⊢
    rcases Nat.lt_trichotomy p pl with q | q | q
    · rw [p2 p q]; have := o1 p (by omega); omega
    · subst q; rw [p3]; omega
    · rw [p4 p q (by omega)]; have := o1 (p - 1) (by omega); omega
  · intro p q h1 h2
    rw [m0] at h2
    have old : ∀ x y, x < y → y < μ 0 0 → ahd μ' (σ 6 y) (σ 6 x) = true := fun x y hx hy => by
      have := o2 x y hx hy
      rw [ahd_iff] at this ⊢
      rw [m1e _ (o1 x (by omega)), m1e _ (o1 y hy)]
      exact this
    rcases Nat.lt_trichotomy q pl with e | e | e
    · rw [p2 q e, p2 p (by omega)]; exact old p q h1 (by omega)
    · subst e
      rw [p3, p2 p h1, ahd_iff, m1n, m1e _ (o1 p (by omega))]
      have h7 := p7 (by omega)
      rw [tme _ (by omega)] at h7
      rcases Nat.lt_or_ge p (q - 1) with f | f
      · have := o2 p (q - 1) f (by omega)
        rw [ahd_iff] at this
        omega
      · have : p = q - 1 := by omega
        subst this; omega
    · rw [p4 q e (by omega)]
      rcases Nat.lt_trichotomy p pl with f | f | f
      · rw [p2 p f]; exact old p (q - 1) (by omega) (by omega)
      · subst f
        rw [p3, ahd_iff, m1n, m1e _ (o1 (q - 1) (by omega))]
        have h6 := p6 (q - 1) (by omega) (by omega)
        rw [tme _ (by omega)] at h6
        have := o1 (q - 1) (by omega)
        omega
      · rw [p4 p f (by omega)]; exact old (p - 1) (q - 1) (by omega) (by omega)
  · intro P
    rw [m0]
    obtain ⟨r, hr⟩ : ∃ r, μ 0 0 = pl + r := ⟨μ 0 0 - pl, by omega⟩
    have e1 : cnt (fun i => P (σ' 6 i)) (μ 0 0 + 1) = cnt (fun i => P (σ 6 i)) (μ 0 0) + b2n (P (μ 0 0)) := by
      have h1 : cnt (fun i => P (σ' 6 i)) (pl + (1 + r)) = cnt (fun i => P (σ 6 i)) pl + (b2n (P (μ 0 0)) + cnt (fun i => P (σ 6 (pl + i))) r) := by
        rw [cnt_add, cnt_add]
        congr 1
        · exact cnt_congr (fun i hi => by rw [p2 i hi])
        · congr 1
          · show 0 + b2n (P (σ' 6 (pl + 0))) = _
            rw [Nat.zero_add, Nat.add_zero, p3]
          · refine cnt_congr (fun i hi => ?_)
            show P (σ' 6 (pl + (1 + i))) = _
            rw [p4 _ (by omega) (by omega)]
            congr 2
            omega
      have h2 : cnt (fun i => P (σ 6 i)) (pl + r) = cnt (fun i => P (σ 6 i)) pl + cnt (fun i => P (σ 6 (pl + i))) r := cnt_add _ _ _
      have h3 : μ 0 0 + 1 = pl + (1 + r) := by omega
      rw [h3, h1]
      have h4 : cnt (fun i => P (σ 6 i)) (μ 0 0) = cnt (fun i => P (σ 6 i)) (pl + r) := by rw [hr]
      rw [h4, h2]; omega
    rw [e1, o3 P]; rfl
  · rw [s8]; exact up_lt b1 hc
  · rw [s6]; exact pio_lt b2 hc _
