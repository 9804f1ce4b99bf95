/-! what the class's small methods answer -/
theorem nx_and (a b : Nat) : nI a &&& nI b = nI (a &&& b) := by
  apply Int32.toBitVec_inj.1
  show BitVec.ofNat 32 a &&& BitVec.ofNat 32 b = BitVec.ofNat 32 (a &&& b)
  apply BitVec.eq_of_getLsbD_eq
  intro i hi
  simp [hi]
theorem nx_xor (a b : Nat) : nI a ^^^ nI b = nI (a ^^^ b) := by
  apply Int32.toBitVec_inj.1
  show BitVec.ofNat 32 a ^^^ BitVec.ofNat 32 b = BitVec.ofNat 32 (a ^^^ b)
  apply BitVec.eq_of_getLsbD_eq
  intro i hi
  simp [hi]
def iw (v a b : Int32) : Bool := !decide (v < a) && !decide (b < v)
def mt (a b c d : Nat) : Bool := !decide (nI a &&& nI c = 0) && decide (nI b &&& nI d = nI d)
def hl64 (x : Int64) (k : Nat) : Bool := decide ((x >>> ((nI k).toInt64 &&& 63)) &&& 1 = 1)
def wi (x : Int64) (k : Nat) (b : Bool) : Int64 := cond b (x ||| ((1 : Int64) <<< ((nI k).toInt64 &&& 63))) (x &&& (((1 : Int64) <<< ((nI k).toInt64 &&& 63)) ^^^ (-1)))
/-- the mails of which p holds, below n, as bits -/
def ms (p : Nat → Bool) : Nat → Int64
  | 0 => 0
  | n + 1 => wi (ms p n) n (p n)
def bitc (x : Int64) : Int32 :=
  let a := x - ((x.toUInt64 >>> ((nI 1).toInt64.toUInt64 &&& Int64.toUInt64 63)).toInt64 &&& 6148914691236517205)
  let b := (a &&& 3689348814741910323) + ((a.toUInt64 >>> ((nI 2).toInt64.toUInt64 &&& Int64.toUInt64 63)).toInt64 &&& 3689348814741910323)
  let c := (b + (b.toUInt64 >>> ((nI 4).toInt64.toUInt64 &&& Int64.toUInt64 63)).toInt64) &&& 1085102592571150095
  let d := c + (c.toUInt64 >>> ((nI 8).toInt64.toUInt64 &&& Int64.toUInt64 63)).toInt64
  let e := d + (d.toUInt64 >>> ((nI 16).toInt64.toUInt64 &&& Int64.toUInt64 63)).toInt64
  let f := e + (e.toUInt64 >>> ((nI 32).toInt64.toUInt64 &&& Int64.toUInt64 63)).toInt64
  f.toInt32 &&& nI 127
theorem lg_eq {x y : Int64} : lg_cmp x y = 0 ↔ x = y := by
  unfold lg_cmp
  by_cases h1 : x > y
  · rw [if_pos h1]
    refine ⟨fun q => absurd q (by decide), fun q => ?_⟩
    subst q
    simp [gt_iff_lt, Int64.lt_iff_toInt_lt] at h1
  · rw [if_neg h1]
    by_cases h2 : x = y
    · rw [if_pos h2]; exact ⟨fun _ => h2, fun _ => rfl⟩
    · rw [if_neg h2]; exact ⟨fun q => absurd q (by decide), fun q => absurd q h2⟩
theorem nI_lt_lit {a : Nat} (h : a < 2 ^ 31) : a < 2 ^ 31 := h
