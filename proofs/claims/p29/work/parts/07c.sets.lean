def undp (σ : ST) (any al : Nat) (p : Nat → Bool) : Nat → Nat → Bool
  | 0 => p
  | b + 1 => fun j => if j = σ 8 ((σ 7 0 - b) % 40) then mt (σ 9 ((σ 7 0 - b) % 40)) (σ 10 ((σ 7 0 - b) % 40)) any al else undp σ any al p b j
theorem und_ms {σ : ST} {any al : Nat} {p : Nat → Bool} (h : ∀ i, σ 8 i < 60) : ∀ n, und σ any al (ms p 60) n = ms (undp σ any al p n) 60 := by
  intro n
  induction n with
  | zero => rfl
  | succ n ih => simp only [und, undp]; rw [ih]; exact wi_ms _ _ (h _)
def tchp (σ : ST) : Nat → Nat → Bool
  | 0 => fun _ => false
  | b + 1 => fun j => if j = σ 8 ((σ 7 0 - b) % 40) then true else tchp σ b j
theorem tch_ms {σ : ST} (h : ∀ i, σ 8 i < 60) : ∀ n, tch σ n = ms (tchp σ n) 60 := by
  intro n
  induction n with
  | zero => exact ms_zero.symm
  | succ n ih => simp only [tch, tchp]; rw [ih]; exact wi_ms _ _ (h _)
def pgsp (σ : ST) (st : Nat) : Nat → Nat → Bool
  | 0 => fun _ => false
  | a + 1 => fun j => if j = σ 8 ((st + 1 + a) % 40) then true else pgsp σ st a j
theorem pgs_ms {σ : ST} {st : Nat} (h : ∀ i, σ 8 i < 60) : ∀ n, pgs σ st n = ms (pgsp σ st n) 60 := by
  intro n
  induction n with
  | zero => exact ms_zero.symm
  | succ n ih => simp only [pgs, pgsp]; rw [ih]; exact wi_ms _ _ (h _)
