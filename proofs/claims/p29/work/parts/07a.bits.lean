theorem sh_amt : ∀ k : Fin 64, ((nI k.val).toInt64 &&& 63).toBitVec.smod 64 = BitVec.ofNat 64 k.val := by decide +kernel
theorem and1 (v : BitVec 64) : (v &&& 1#64 = 1#64) ↔ v.getLsbD 0 = true := by
  constructor
  · intro h
    have := congrArg (fun w : BitVec 64 => w.getLsbD 0) h
    simpa using this
  · intro h
    apply BitVec.eq_of_getLsbD_eq
    intro i hi
    rcases Nat.eq_zero_or_pos i with rfl | q
    · simp [h]
    · simp [BitVec.getLsbD_one, show ¬ i = 0 by omega]
theorem hl_bit (x : Int64) {k : Nat} (hk : k < 64) : hl64 x k = x.toBitVec.getLsbD k := by
  unfold hl64
  have e : ((x >>> ((nI k).toInt64 &&& 63)) &&& 1 = 1) ↔ x.toBitVec.getLsbD k = true := by
    rw [← Int64.toBitVec_inj, Int64.toBitVec_and, Int64.toBitVec_shiftRight, sh_amt ⟨k, hk⟩]
    show (_ &&& 1#64 = 1#64) ↔ _
    rw [and1]
    simp [BitVec.getElem_sshiftRight, hk, Nat.mod_eq_of_lt (show k < 18446744073709551616 by omega)]
  cases h : x.toBitVec.getLsbD k
  · exact decide_eq_false (fun q => by rw [e, h] at q; exact absurd q (by decide))
  · exact decide_eq_true (e.mpr h)
theorem wi_amt : ∀ k : Fin 64, ((1 : Int64) <<< ((nI k.val).toInt64 &&& 63)).toBitVec = BitVec.twoPow 64 k.val := by decide +kernel
theorem wi_bit (x : Int64) {k j : Nat} (b : Bool) (hk : k < 64) (hj : j < 64) : (wi x k b).toBitVec.getLsbD j = if j = k then b else x.toBitVec.getLsbD j := by
  have e : ((1 : Int64) <<< ((nI k).toInt64 &&& 63)).toBitVec.getLsbD j = decide (j = k) := by
    rw [wi_amt ⟨k, hk⟩, BitVec.getLsbD_twoPow]
    simp [hk, eq_comm]
  unfold wi
  cases b
  · show (x &&& _).toBitVec.getLsbD j = _
    rw [Int64.toBitVec_and, BitVec.getLsbD_and, Int64.toBitVec_xor, BitVec.getLsbD_xor, e]
    have m1 : (-1 : Int64).toBitVec.getLsbD j = true := by
      show (BitVec.allOnes 64).getLsbD j = true
      rw [BitVec.getLsbD_allOnes]; exact decide_eq_true hj
    rw [m1]
    by_cases h : j = k <;> simp [h]
  · show (x ||| _).toBitVec.getLsbD j = _
    rw [Int64.toBitVec_or, BitVec.getLsbD_or, e]
    by_cases h : j = k <;> simp [h]
theorem ms_bit (p : Nat → Bool) : ∀ (n : Nat), n ≤ 64 → ∀ j, j < 64 → (ms p n).toBitVec.getLsbD j = (decide (j < n) && p j) := by
  intro n
  induction n with
  | zero => intro _ j _; simp [ms]
  | succ n ih =>
    intro hn j hj
    show (wi (ms p n) n (p n)).toBitVec.getLsbD j = _
    rw [wi_bit _ _ (by omega) hj, ih (by omega) j hj]
    by_cases h : j = n
    · subst h; simp
    · rw [if_neg h]
      by_cases h2 : j < n
      · simp [h2, Nat.lt_succ_of_lt h2]
      · simp [h2, show ¬ j < n + 1 by omega]
/-- a set of mails holds a mail as its predicate says -/
theorem hl_ms (p : Nat → Bool) {k : Nat} (hk : k < 60) : hl64 (ms p 60) k = p k := by
  rw [hl_bit _ (by omega), ms_bit p 60 (by decide) k (by omega), decide_eq_true hk, Bool.true_and]
theorem i64_ext {x y : Int64} (h : ∀ j, j < 64 → x.toBitVec.getLsbD j = y.toBitVec.getLsbD j) : x = y := Int64.toBitVec_inj.mp (BitVec.eq_of_getLsbD_eq (fun i hi => h i hi))
theorem ms_and (p q : Nat → Bool) : ms p 60 &&& ms q 60 = ms (fun j => p j && q j) 60 := by
  refine i64_ext (fun j hj => ?_)
  rw [Int64.toBitVec_and, BitVec.getLsbD_and, ms_bit p 60 (by decide) j hj, ms_bit q 60 (by decide) j hj, ms_bit _ 60 (by decide) j hj]
  cases decide (j < 60) <;> simp
theorem ms_or (p q : Nat → Bool) : ms p 60 ||| ms q 60 = ms (fun j => p j || q j) 60 := by
  refine i64_ext (fun j hj => ?_)
  rw [Int64.toBitVec_or, BitVec.getLsbD_or, ms_bit p 60 (by decide) j hj, ms_bit q 60 (by decide) j hj, ms_bit _ 60 (by decide) j hj]
  cases decide (j < 60) <;> simp
theorem ms_xor (p q : Nat → Bool) : ms p 60 ^^^ ms q 60 = ms (fun j => p j ^^ q j) 60 := by
  refine i64_ext (fun j hj => ?_)
  rw [Int64.toBitVec_xor, BitVec.getLsbD_xor, ms_bit p 60 (by decide) j hj, ms_bit q 60 (by decide) j hj, ms_bit _ 60 (by decide) j hj]
  cases decide (j < 60) <;> simp
theorem ms_andn (p q : Nat → Bool) : ms p 60 &&& (ms q 60 ^^^ (-1)) = ms (fun j => p j && !q j) 60 := by
  refine i64_ext (fun j hj => ?_)
  have m1 : (-1 : Int64).toBitVec.getLsbD j = true := by
    show (BitVec.allOnes 64).getLsbD j = true
    rw [BitVec.getLsbD_allOnes]; exact decide_eq_true hj
  rw [Int64.toBitVec_and, BitVec.getLsbD_and, Int64.toBitVec_xor, BitVec.getLsbD_xor, m1, ms_bit p 60 (by decide) j hj, ms_bit q 60 (by decide) j hj, ms_bit _ 60 (by decide) j hj]
  cases decide (j < 60) <;> simp
theorem wi_ms (p : Nat → Bool) {k : Nat} (b : Bool) (hk : k < 60) : wi (ms p 60) k b = ms (fun j => if j = k then b else p j) 60 := by
  refine i64_ext (fun j hj => ?_)
  rw [wi_bit _ _ (by omega) hj, ms_bit p 60 (by decide) j hj, ms_bit _ 60 (by decide) j hj]
  by_cases h : j = k
  · subst h; simp [hk]
  · simp [h]
theorem ms_zero : ms (fun _ => false) 60 = 0 := by decide +kernel
theorem ms_congr {p q : Nat → Bool} (h : ∀ j, j < 60 → p j = q j) : ms p 60 = ms q 60 := by
  refine i64_ext (fun j hj => ?_)
  rw [ms_bit p 60 (by decide) j hj, ms_bit q 60 (by decide) j hj]
  by_cases h2 : j < 60
  · rw [h j h2]
  · simp [h2]
