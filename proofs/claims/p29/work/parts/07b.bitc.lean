/-! how many bits are set: the steps of Long.bitCount, byte by byte -/
def rpb (b : Nat) : Nat → Nat
  | 0 => 0
  | k + 1 => rpb b k * 256 + b
theorem rpb_1 (b : Nat) : rpb b 1 = b := by simp [rpb]
theorem rpb_s (b k : Nat) : rpb b (k + 1) = rpb b k * 256 + b := rfl
theorem land_hl {h l H L : Nat} (hl : l < 256) (hL : L < 256) : (h * 256 + l) &&& (H * 256 + L) = (h &&& H) * 256 + (l &&& L) := by
  apply Nat.eq_of_testBit_eq
  intro i
  have e : ∀ a b : Nat, b < 256 → ∀ j, Nat.testBit (a * 256 + b) j = if j < 8 then b.testBit j else a.testBit (j - 8) := fun a b hb j => by
    rw [Nat.mul_comm]; exact Nat.testBit_two_pow_mul_add a (i := 8) hb j
  rw [Nat.testBit_and, e h l hl, e H L hL, e _ _ (Nat.lt_of_le_of_lt Nat.and_le_left hl)]
  by_cases q : i < 8
  · rw [if_pos q, if_pos q, if_pos q, Nat.testBit_and]
  · rw [if_neg q, if_neg q, if_neg q, Nat.testBit_and]
def bq1 (k x : Nat) : Nat := x - ((x / 2) &&& rpb 85 k)
def bq2 (k x : Nat) : Nat := (x &&& rpb 51 k) + ((x / 4) &&& rpb 51 k)
def bq3 (k x : Nat) : Nat := (x + x / 16) &&& rpb 15 k
def bvn (x : Nat) : Nat := cnt (fun j => Nat.testBit x j) 8
theorem by1 : ∀ l : Fin 256, ∀ m : Fin 2, (m.val * 128 + l.val / 2) &&& 85 = (l.val / 2) &&& 85 := by decide +kernel
theorem by2 : ∀ l : Fin 256, ∀ m : Fin 4, (m.val * 64 + l.val / 4) &&& 51 = (l.val / 4) &&& 51 := by decide +kernel
theorem by3 : ∀ l : Fin 256, ∀ m : Fin 16, (l.val + m.val * 16 + l.val / 16) &&& 15 = (l.val + l.val / 16) &&& 15 := by decide +kernel
theorem by4 : ∀ l : Fin 256, bq2 1 (bq1 1 l.val) ≤ 68 ∧ bq2 1 (bq1 1 l.val) % 16 ≤ 4 := by decide +kernel
theorem by5 : ∀ l : Fin 256, bq3 1 (bq2 1 (bq1 1 l.val)) = bvn l.val := by decide +kernel
theorem bq1_s {k h l : Nat} (hl : l < 256) : bq1 (k + 1) (h * 256 + l) = bq1 k h * 256 + bq1 1 l := by
  unfold bq1
  rw [rpb_1, rpb_s]
  have e : (h * 256 + l) / 2 = (h / 2) * 256 + ((h % 2) * 128 + l / 2) := by omega
  have b1 : ((h % 2) * 128 + l / 2) &&& 85 = (l / 2) &&& 85 := by1 ⟨l, hl⟩ ⟨h % 2, Nat.mod_lt _ (by decide)⟩
  rw [e, land_hl (by omega) (by decide), b1]
  have a1 : (h / 2) &&& rpb 85 k ≤ h / 2 := Nat.and_le_left
  have a2 : (l / 2) &&& 85 ≤ l / 2 := Nat.and_le_left
  generalize (h / 2) &&& rpb 85 k = X at a1 ⊢
  generalize (l / 2) &&& 85 = Y at a2 ⊢
  omega
theorem bq2_s {k h l : Nat} (hl : l < 256) : bq2 (k + 1) (h * 256 + l) = bq2 k h * 256 + bq2 1 l := by
  unfold bq2
  rw [rpb_1, rpb_s]
  have e : (h * 256 + l) / 4 = (h / 4) * 256 + ((h % 4) * 64 + l / 4) := by omega
  have b1 : ((h % 4) * 64 + l / 4) &&& 51 = (l / 4) &&& 51 := by2 ⟨l, hl⟩ ⟨h % 4, Nat.mod_lt _ (by decide)⟩
  rw [e, land_hl hl (by decide), land_hl (l := (h % 4) * 64 + l / 4) (by omega) (by decide), b1]
  generalize (h / 4) &&& rpb 51 k = X
  generalize (l / 4) &&& 51 = Y
  generalize h &&& rpb 51 k = Z
  generalize l &&& 51 = U
  omega
theorem bq3_s {k h l : Nat} (h1 : h % 16 ≤ 4) (h2 : l ≤ 68) : bq3 (k + 1) (h * 256 + l) = bq3 k h * 256 + bq3 1 l := by
  unfold bq3
  rw [rpb_1, rpb_s]
  have e : (h * 256 + l) + (h * 256 + l) / 16 = (h + h / 16) * 256 + (l + (h % 16) * 16 + l / 16) := by omega
  have b1 : (l + (h % 16) * 16 + l / 16) &&& 15 = (l + l / 16) &&& 15 := by3 ⟨l, by omega⟩ ⟨h % 16, Nat.mod_lt _ (by decide)⟩
  rw [e, land_hl (by omega) (by decide), b1]
def bsn : Nat → Nat → Nat
  | 0, _ => 0
  | k + 1, x => bsn k (x / 256) * 256 + bvn (x % 256)
theorem bq_all : ∀ k x, x < 256 ^ k → bq3 k (bq2 k (bq1 k x)) = bsn k x ∧ bq2 k (bq1 k x) % 16 ≤ 4 := by
  intro k
  induction k with
  | zero =>
    intro x hx
    have : x = 0 := by simpa using hx
    subst this
    exact ⟨by decide, by decide⟩
  | succ k ih =>
    intro x hx
    have hl : x % 256 < 256 := Nat.mod_lt _ (by decide)
    obtain ⟨i1, i2⟩ := ih (x / 256) (Nat.div_lt_of_lt_mul (by rw [Nat.pow_succ, Nat.mul_comm] at hx; exact hx))
    obtain ⟨l1, l2⟩ := by4 ⟨x % 256, hl⟩
    have l3 : bq3 1 (bq2 1 (bq1 1 (x % 256))) = bvn (x % 256) := by5 ⟨x % 256, hl⟩
    have hx2 : x = (x / 256) * 256 + x % 256 := by omega
    have e1 : bq1 (k + 1) x = bq1 k (x / 256) * 256 + bq1 1 (x % 256) := by
      conv => lhs; rw [hx2]
      exact bq1_s hl
    have e2 : bq2 (k + 1) (bq1 (k + 1) x) = bq2 k (bq1 k (x / 256)) * 256 + bq2 1 (bq1 1 (x % 256)) := by
      rw [e1]
      exact bq2_s (Nat.lt_of_le_of_lt (Nat.sub_le _ _) hl)
    rw [e2]
    refine ⟨?_, ?_⟩
    · rw [bq3_s i2 l1, i1, l3]; rfl
    · show _ % 16 ≤ 4
      have l2' : bq2 1 (bq1 1 (x % 256)) % 16 ≤ 4 := l2
      omega
theorem cnt_add (p : Nat → Bool) (a : Nat) : ∀ b, cnt p (a + b) = cnt p a + cnt (fun j => p (a + j)) b := by
  intro b
  induction b with
  | zero => rfl
  | succ b ih => show cnt p (a + b) + b2n (p (a + b)) = _; rw [ih]; simp only [cnt]; omega
theorem cnt_congr {p q : Nat → Bool} : ∀ {n : Nat}, (∀ j, j < n → p j = q j) → cnt p n = cnt q n := by
  intro n
  induction n with
  | zero => intro _; rfl
  | succ n ih => intro h; simp only [cnt]; rw [ih (fun j hj => h j (Nat.lt_succ_of_lt hj)), h n (Nat.lt_succ_self n)]
theorem cnt_by (k x : Nat) : cnt (fun j => x.testBit j) (8 + k) = bvn (x % 256) + cnt (fun j => (x / 256).testBit j) k := by
  rw [cnt_add]
  congr 1
  · refine cnt_congr (fun j hj => ?_)
    show x.testBit j = (x % 2 ^ 8).testBit j
    rw [Nat.testBit_mod_two_pow, decide_eq_true hj, Bool.true_and]
  · refine cnt_congr (fun j hj => ?_)
    show x.testBit (8 + j) = (x / 2 ^ 8).testBit j
    rw [Nat.testBit_div_two_pow, Nat.add_comm]
theorem bvn_le (x : Nat) : bvn x ≤ 8 := cnt_le _ _
theorem bd1 {x y a : Nat} (h : a < 256) (e : x = y * 256 + a) : x / 256 = y := by omega
theorem bd2 {x y a : Nat} (h : a < 65536) (e : x = y * 65536 + a) : x / 65536 = y := by omega
theorem bd3 {x y a : Nat} (h : a < 4294967296) (e : x = y * 4294967296 + a) : x / 4294967296 = y := by omega
theorem bd4 {x y a : Nat} (h : a < 128) (e : x = y * 128 + a) : x % 128 = a := by omega
theorem be1 {c d b0 b1 b2 C1 C2 C3 : Nat} (hc : c = C1 * 256 + b0) (hd : d = c + C1) (k1 : C1 = C2 * 256 + b1) (k2 : C2 = C3 * 256 + b2) : d = (C2 + C3) * 65536 + ((b1 + b2) * 256 + (b0 + b1)) := by omega
theorem be2 {C2 C3 C4 C5 b2 b3 b4 : Nat} (k2 : C2 = C3 * 256 + b2) (k3 : C3 = C4 * 256 + b3) (k4 : C4 = C5 * 256 + b4) : C2 + C3 = (C4 + C5) * 65536 + ((b3 + b4) * 256 + (b2 + b3)) := by omega
theorem be3k {K e D2 D4 D6 D0 d2 d4 : Nat} (he : e = D2 * K + D0 + D2) (k2 : D2 = D4 * K + d2) (k4 : D4 = D6 * K + d4) : e = (D4 + D6) * (K * K) + ((d2 + d4) * K + (D0 + d2)) := by
  subst k4
  subst k2
  subst he
  simp only [Nat.add_mul, Nat.mul_assoc]
  ac_rfl
theorem be3 {e D2 D4 D6 D0 d2 d4 : Nat} (he : e = D2 * 65536 + D0 + D2) (k2 : D2 = D4 * 65536 + d2) (k4 : D4 = D6 * 65536 + d4) : e = (D4 + D6) * 4294967296 + ((d2 + d4) * 65536 + (D0 + d2)) := be3k he k2 k4
theorem be5 {e Z R : Nat} (he : e = Z * 4294967296 + R) : ∃ Y, e = Y * 128 + R := ⟨Z * 33554432, by rw [he, Nat.mul_assoc]⟩
theorem be4 {f e D4 D6 X b0 b1 b2 b3 b4 b5 b6 b7 : Nat} (hf : f = e + (D4 + D6)) (he : e = (D4 + D6) * 4294967296 + (X * 65536 + (((b1 + b2) * 256 + (b0 + b1)) + ((b3 + b4) * 256 + (b2 + b3))))) (k4 : D4 = D6 * 65536 + ((b5 + b6) * 256 + (b4 + b5))) (k6 : D6 = b7 * 256 + (b6 + b7)) : ∃ y, f = y * 128 + (b0 + (b1 + (b2 + (b3 + (b4 + (b5 + (b6 + b7))))))) := by
  obtain ⟨Y, e2⟩ := be5 he
  exact ⟨Y + X * 512 + (b1 + b2) * 2 + (b3 + b4) * 2 + D6 * 512 + (b5 + b6) * 2 + b7 * 2, by clear he; omega⟩
theorem bsm {b0 b1 b2 b3 b4 b5 b6 b7 : Nat} (h0 : b0 ≤ 8) (h1 : b1 ≤ 8) (h2 : b2 ≤ 8) (h3 : b3 ≤ 8) (h4 : b4 ≤ 8) (h5 : b5 ≤ 8) (h6 : b6 ≤ 8) (h7 : b7 ≤ 8) : b0 + (b1 + (b2 + (b3 + (b4 + (b5 + (b6 + b7)))))) < 128 := by omega
theorem bs2 {b0 b1 b2 : Nat} (h0 : b0 ≤ 8) (h1 : b1 ≤ 8) (h2 : b2 ≤ 8) : (b1 + b2) * 256 + (b0 + b1) < 65536 := by omega
theorem bs3 {X Y : Nat} (h : X < 65535) (h2 : Y < 65536) : X * 65536 + Y < 4294967296 := by omega
theorem bs4 {b0 b1 b2 b3 b4 : Nat} (h0 : b0 ≤ 8) (h1 : b1 ≤ 8) (h2 : b2 ≤ 8) (h3 : b3 ≤ 8) (h4 : b4 ≤ 8) : (b1 + b2) * 256 + (b0 + b1) + ((b3 + b4) * 256 + (b2 + b3)) < 65535 := by omega
theorem bc_fold {b0 b1 b2 b3 b4 b5 b6 b7 C1 C2 C3 C4 C5 C6 c d e f : Nat} (h0 : b0 ≤ 8) (h1 : b1 ≤ 8) (h2 : b2 ≤ 8) (h3 : b3 ≤ 8) (h4 : b4 ≤ 8) (h5 : b5 ≤ 8) (h6 : b6 ≤ 8) (h7 : b7 ≤ 8)
    (k6 : C6 = b7 * 256 + b6) (k5 : C5 = C6 * 256 + b5) (k4 : C4 = C5 * 256 + b4) (k3 : C3 = C4 * 256 + b3) (k2 : C2 = C3 * 256 + b2) (k1 : C1 = C2 * 256 + b1) (hc : c = C1 * 256 + b0) (hd : d = c + c / 256) (he : e = d + d / 65536) (hf : f = e + e / 4294967296) : f % 128 = b0 + (b1 + (b2 + (b3 + (b4 + (b5 + (b6 + b7)))))) := by
  rw [bd1 (Nat.lt_of_le_of_lt h0 (by decide)) hc] at hd
  have d1 := be1 hc hd k1 k2
  rw [bd2 (bs2 h0 h1 h2) d1] at he
  have D2 := be2 k2 k3 k4
  have D4 := be2 k4 k5 k6
  have e1 := be3 (D0 := (b1 + b2) * 256 + (b0 + b1)) (he.trans (congrArg (fun z => z + (C2 + C3)) d1)) D2 D4
  rw [bd3 (bs3 (bs4 h2 h3 h4 h5 h6) (Nat.lt_succ_of_lt (bs4 h0 h1 h2 h3 h4))) e1] at hf
  obtain ⟨y, f1⟩ := be4 hf e1 D4 (show C6 + b7 = b7 * 256 + (b6 + b7) by rw [k6, Nat.add_assoc])
  exact bd4 (bsm h0 h1 h2 h3 h4 h5 h6 h7) f1
theorem bc_nat {x c d e f : Nat} (hx : x < 18446744073709551616) (hc : c = bq3 8 (bq2 8 (bq1 8 x))) (hd : d = c + c / 256) (he : e = d + d / 65536) (hf : f = e + e / 4294967296) : f % 128 = cnt (fun j => x.testBit j) 64 := by
  rw [(bq_all 8 x hx).1] at hc
  have t : ∀ y, cnt (fun j => Nat.testBit y j) 8 = bvn y := fun y => rfl
  have z : bsn 1 (x / 256 / 256 / 256 / 256 / 256 / 256 / 256) = bvn (x / 256 / 256 / 256 / 256 / 256 / 256 / 256 % 256) := by simp [bsn]
  have r := bc_fold (C1 := bsn 7 (x / 256)) (C2 := bsn 6 (x / 256 / 256)) (C3 := bsn 5 (x / 256 / 256 / 256)) (C4 := bsn 4 (x / 256 / 256 / 256 / 256)) (C5 := bsn 3 (x / 256 / 256 / 256 / 256 / 256)) (C6 := bsn 2 (x / 256 / 256 / 256 / 256 / 256 / 256)) (bvn_le (x % 256)) (bvn_le (x / 256 % 256)) (bvn_le (x / 256 / 256 % 256)) (bvn_le (x / 256 / 256 / 256 % 256)) (bvn_le (x / 256 / 256 / 256 / 256 % 256)) (bvn_le (x / 256 / 256 / 256 / 256 / 256 % 256)) (bvn_le (x / 256 / 256 / 256 / 256 / 256 / 256 % 256)) (bvn_le (x / 256 / 256 / 256 / 256 / 256 / 256 / 256 % 256))
    (by rw [← z]; rfl) rfl rfl rfl rfl rfl hc hd he hf
  rw [r]
  have w : ∀ k y, cnt (fun j => y.testBit j) (8 + k) = bvn (y % 256) + cnt (fun j => (y / 256).testBit j) k := cnt_by
  have w0 := w 0 (x / 256 / 256 / 256 / 256 / 256 / 256 / 256)
  have w1 := w 8 (x / 256 / 256 / 256 / 256 / 256 / 256)
  have w2 := w 16 (x / 256 / 256 / 256 / 256 / 256)
  have w3 := w 24 (x / 256 / 256 / 256 / 256)
  have w4 := w 32 (x / 256 / 256 / 256)
  have w5 := w 40 (x / 256 / 256)
  have w6 := w 48 (x / 256)
  have w7 := w 56 x
  rw [show 8 + 0 = 8 from rfl] at w0
  rw [show 8 + 8 = 16 from rfl, w0] at w1
  rw [show 8 + 16 = 24 from rfl, w1] at w2
  rw [show 8 + 24 = 32 from rfl, w2] at w3
  rw [show 8 + 32 = 40 from rfl, w3] at w4
  rw [show 8 + 40 = 48 from rfl, w4] at w5
  rw [show 8 + 48 = 56 from rfl, w5] at w6
  rw [show 8 + 56 = 64 from rfl, w6] at w7
  rw [w7]
  rfl
theorem uadd (a b : UInt64) (h : a.toNat + b.toNat < 18446744073709551616) : (a + b).toNat = a.toNat + b.toNat := by rw [UInt64.toNat_add]; exact Nat.mod_eq_of_lt h
theorem ushr (u s : UInt64) (k : Nat) (h : s.toNat % 64 = k) : (u >>> s).toNat = u.toNat / 2 ^ k := by rw [UInt64.toNat_shiftRight, h, Nat.shiftRight_eq_div_pow]
theorem w127 : ∀ i : Fin 32, (nI 127).toBitVec.getLsbD i.val = decide (i.val < 7) := by decide +kernel
theorem low7 (w : Int64) : w.toInt32 &&& nI 127 = nI (w.toUInt64.toNat % 128) := by
  apply Int32.toBitVec_inj.mp
  rw [Int32.toBitVec_and, Int64.toBitVec_toInt32]
  apply BitVec.eq_of_getLsbD_eq
  intro i hi
  rw [BitVec.getLsbD_and, BitVec.signExtend_eq_setWidth_of_le _ (by decide), BitVec.getLsbD_setWidth, w127 ⟨i, hi⟩]
  show _ = (BitVec.ofNat 32 (w.toBitVec.toNat % 2 ^ 7)).getLsbD i
  rw [BitVec.getLsbD_ofNat, Nat.testBit_mod_two_pow, BitVec.testBit_toNat, decide_eq_true hi]
  cases decide (i < 7) <;> simp
theorem bitc_u (x : Int64) : ∃ a b c d e f : UInt64, bitc x = nI (f.toNat % 128) ∧ a = x.toUInt64 - ((x.toUInt64 >>> ((nI 1).toInt64.toUInt64 &&& Int64.toUInt64 63)) &&& Int64.toUInt64 6148914691236517205) ∧ b = (a &&& Int64.toUInt64 3689348814741910323) + ((a >>> ((nI 2).toInt64.toUInt64 &&& Int64.toUInt64 63)) &&& Int64.toUInt64 3689348814741910323) ∧ c = (b + (b >>> ((nI 4).toInt64.toUInt64 &&& Int64.toUInt64 63))) &&& Int64.toUInt64 1085102592571150095 ∧ d = c + (c >>> ((nI 8).toInt64.toUInt64 &&& Int64.toUInt64 63)) ∧ e = d + (d >>> ((nI 16).toInt64.toUInt64 &&& Int64.toUInt64 63)) ∧ f = e + (e >>> ((nI 32).toInt64.toUInt64 &&& Int64.toUInt64 63)) := by
  unfold bitc
  exact ⟨_, _, _, _, _, _, low7 _, rfl, rfl, rfl, rfl, rfl, rfl⟩
theorem m85 : (Int64.toUInt64 6148914691236517205).toNat = rpb 85 8 := by decide +kernel
theorem m51 : (Int64.toUInt64 3689348814741910323).toNat = rpb 51 8 := by decide +kernel
theorem m15 : (Int64.toUInt64 1085102592571150095).toNat = rpb 15 8 := by decide +kernel
theorem bitc_cnt (x : Int64) : bitc x = nI (cnt (fun j => x.toUInt64.toNat.testBit j) 64) := by
  obtain ⟨a, b, c, d, e, f, h0, ha, hb, hc, hd, he, hf⟩ := bitc_u x
  rw [h0]
  have hx : x.toUInt64.toNat < 18446744073709551616 := x.toUInt64.toNat_lt
  have na : a.toNat = bq1 8 x.toUInt64.toNat := by
    have e1 : ((x.toUInt64 >>> ((nI 1).toInt64.toUInt64 &&& Int64.toUInt64 63)) &&& Int64.toUInt64 6148914691236517205).toNat = (x.toUInt64.toNat / 2) &&& rpb 85 8 := by
      rw [UInt64.toNat_and, ushr _ _ 1 (by decide +kernel), m85]
    have e2 : (x.toUInt64.toNat / 2) &&& rpb 85 8 ≤ x.toUInt64.toNat / 2 := Nat.and_le_left
    rw [ha, UInt64.toNat_sub_of_le _ _ (UInt64.le_iff_toNat_le.mpr (by rw [e1]; omega)), e1]; rfl
  have nb : b.toNat = bq2 8 a.toNat := by
    have e1 : (a &&& Int64.toUInt64 3689348814741910323).toNat = a.toNat &&& rpb 51 8 := by rw [UInt64.toNat_and, m51]
    have e2 : ((a >>> ((nI 2).toInt64.toUInt64 &&& Int64.toUInt64 63)) &&& Int64.toUInt64 3689348814741910323).toNat = (a.toNat / 4) &&& rpb 51 8 := by
      rw [UInt64.toNat_and, ushr _ _ 2 (by decide +kernel), m51]
    have g1 : a.toNat &&& rpb 51 8 ≤ rpb 51 8 := Nat.and_le_right
    have g2 : (a.toNat / 4) &&& rpb 51 8 ≤ rpb 51 8 := Nat.and_le_right
    have g3 : rpb 51 8 = 3689348814741910323 := by decide +kernel
    rw [hb, uadd _ _ (by rw [e1, e2]; omega), e1, e2]; rfl
  have lb : b.toNat ≤ 7378697629483820646 := by
    have g1 : a.toNat &&& rpb 51 8 ≤ rpb 51 8 := Nat.and_le_right
    have g2 : (a.toNat / 4) &&& rpb 51 8 ≤ rpb 51 8 := Nat.and_le_right
    have g3 : rpb 51 8 = 3689348814741910323 := by decide +kernel
    rw [nb]; unfold bq2; omega
  have nc : c.toNat = bq3 8 b.toNat := by
    have e1 : (b >>> ((nI 4).toInt64.toUInt64 &&& Int64.toUInt64 63)).toNat = b.toNat / 16 := ushr _ _ 4 (by decide +kernel)
    rw [hc, UInt64.toNat_and, m15, uadd _ _ (by rw [e1]; omega), e1]; rfl
  have lc9 : c.toNat ≤ 1085102592571150095 := by
    have g1 : (b.toNat + b.toNat / 16) &&& rpb 15 8 ≤ rpb 15 8 := Nat.and_le_right
    have g3 : rpb 15 8 = 1085102592571150095 := by decide +kernel
    rw [nc]; unfold bq3; omega
  have nd : d.toNat = c.toNat + c.toNat / 256 := by
    have e1 : (c >>> ((nI 8).toInt64.toUInt64 &&& Int64.toUInt64 63)).toNat = c.toNat / 256 := ushr _ _ 8 (by decide +kernel)
    rw [hd, uadd _ _ (by rw [e1]; omega), e1]
  have ne : e.toNat = d.toNat + d.toNat / 65536 := by
    have e1 : (d >>> ((nI 16).toInt64.toUInt64 &&& Int64.toUInt64 63)).toNat = d.toNat / 65536 := ushr _ _ 16 (by decide +kernel)
    rw [he, uadd _ _ (by rw [e1]; omega), e1]
  have nf : f.toNat = e.toNat + e.toNat / 4294967296 := by
    have e1 : (e >>> ((nI 32).toInt64.toUInt64 &&& Int64.toUInt64 63)).toNat = e.toNat / 4294967296 := ushr _ _ 32 (by decide +kernel)
    rw [hf, uadd _ _ (by rw [e1]; omega), e1]
  rw [bc_nat hx (by rw [nc, nb, na]) nd ne nf]
theorem bitc_ms (p : Nat → Bool) : bitc (ms p 60) = nI (cnt p 60) := by
  rw [bitc_cnt]
  congr 1
  have e : ∀ j, (ms p 60).toUInt64.toNat.testBit j = (ms p 60).toBitVec.getLsbD j := fun j => BitVec.testBit_toNat _
  rw [show (64 : Nat) = 60 + 4 from rfl, cnt_add, cnt_congr (n := 60) (q := p) (fun j hj => by rw [e, ms_bit p 60 (by decide) j (by omega), decide_eq_true hj, Bool.true_and]), cnt_congr (n := 4) (q := fun _ => false) (fun j hj => by rw [e, ms_bit p 60 (by decide) _ (by omega), decide_eq_false (by omega), Bool.false_and])]
  rfl
