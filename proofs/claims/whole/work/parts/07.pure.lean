/-! what the class's small methods answer -/
theorem nx_and (a b : Nat) : nI a &&& nI b = nI (a &&& b) := by
  apply Int32.toBitVec_inj.1
  show BitVec.ofNat 32 a &&& BitVec.ofNat 32 b = BitVec.ofNat 32 (a &&& b)
  apply BitVec.eq_of_getLsbD_eq
  intro i hi
  simp [hi]
theorem nx_xor (a b : Nat) : nI a ^^^ nI b = nI (a ^^^ b) := by
  apply Int32.toBitVec_inj.1
  show BitVec.ofNat 32 a ^^^ BitVec.ofNat 32 b = BitVec.ofNat 32 (a ^^^ b)
  apply BitVec.eq_of_getLsbD_eq
  intro i hi
  simp [hi]
def iw (v a b : Int32) : Bool := !decide (v < a) && !decide (b < v)
def mt (a b c d : Nat) : Bool := !decide (nI a &&& nI c = 0) && decide (nI b &&& nI d = nI d)
def hl64 (x : Int64) (k : Nat) : Bool := decide ((x >>> ((nI k).toInt64 &&& 63)) &&& 1 = 1)
def wi (x : Int64) (k : Nat) (b : Bool) : Int64 := cond b (x ||| ((1 : Int64) <<< ((nI k).toInt64 &&& 63))) (x &&& (((1 : Int64) <<< ((nI k).toInt64 &&& 63)) ^^^ (-1)))
/-- the mails of which p holds, below n, as bits -/
def ms (p : Nat → Bool) : Nat → Int64
  | 0 => 0
  | n + 1 => wi (ms p n) n (p n)
def bitc (x : Int64) : Int32 :=
  let a := x - ((x.toUInt64 >>> ((nI 1).toInt64.toUInt64 &&& Int64.toUInt64 63)).toInt64 &&& 6148914691236517205)
  let b := (a &&& 3689348814741910323) + ((a.toUInt64 >>> ((nI 2).toInt64.toUInt64 &&& Int64.toUInt64 63)).toInt64 &&& 3689348814741910323)
  let c := (b + (b.toUInt64 >>> ((nI 4).toInt64.toUInt64 &&& Int64.toUInt64 63)).toInt64) &&& 1085102592571150095
  let d := c + (c.toUInt64 >>> ((nI 8).toInt64.toUInt64 &&& Int64.toUInt64 63)).toInt64
  let e := d + (d.toUInt64 >>> ((nI 16).toInt64.toUInt64 &&& Int64.toUInt64 63)).toInt64
  let f := e + (e.toUInt64 >>> ((nI 32).toInt64.toUInt64 &&& Int64.toUInt64 63)).toInt64
  f.toInt32 &&& nI 127
theorem lg_eq {x y : Int64} : lg_cmp x y = 0 ↔ x = y := by
  unfold lg_cmp
  by_cases h1 : x > y
  · rw [if_pos h1]
    refine ⟨fun q => absurd q (by decide), fun q => ?_⟩
    subst q
    simp [gt_iff_lt, Int64.lt_iff_toInt_lt] at h1
  · rw [if_neg h1]
    by_cases h2 : x = y
    · rw [if_pos h2]; exact ⟨fun _ => h2, fun _ => rfl⟩
    · rw [if_neg h2]; exact ⟨fun q => absurd q (by decide), fun q => absurd q h2⟩
theorem nI_lt_lit {a : Nat} (h : a < 2 ^ 31) : a < 2 ^ 31 := h
/-- a change kept: the state grows, its slot holds the mail, what it was and what its keywords are -/
def kp (σ : ST) (mail ob ok nk : Nat) : ST := su (su (su (su (sv σ 7 0 (σ 7 0 + 1)) 8 (upN (σ 8) ((σ 7 0 + 1) % 40) mail)) 9 (upN (σ 9) ((σ 7 0 + 1) % 40) ob)) 10 (upN (σ 10) ((σ 7 0 + 1) % 40) ok)) 11 (upN (σ 11) ((σ 7 0 + 1) % 40) nk)
def und (σ : ST) (any al : Nat) (x : Int64) : Nat → Int64
  | 0 => x
  | b + 1 => wi (und σ any al x b) (σ 8 ((σ 7 0 - b) % 40)) (mt (σ 9 ((σ 7 0 - b) % 40)) (σ 10 ((σ 7 0 - b) % 40)) any al)
def tch (σ : ST) : Nat → Int64
  | 0 => 0
  | b + 1 => wi (tch σ b) (σ 8 ((σ 7 0 - b) % 40)) true
def pgs (σ : ST) (st : Nat) : Nat → Int64
  | 0 => 0
  | a + 1 => wi (pgs σ st a) (σ 8 ((st + 1 + a) % 40)) true
def pgc (σ : ST) (st pl a : Nat) : Bool := !hl64 (pgs σ st a) (σ 8 ((st + 1 + a) % 40)) && !decide (bitc (pgs σ st a) < nI pl)
def pge (σ : ST) (st pl : Nat) : Nat → Nat → Nat
  | 0, _ => σ 7 0
  | n + 1, a => cond (pgc σ st pl a) (st + a) (pge σ st pl n (a + 1))
def ctc (σ : ST) (mail kw b : Nat) : Bool := decide (σ 8 ((σ 7 0 - b) % 40) = mail) && hl64 ((nI (σ 10 ((σ 7 0 - b) % 40)) ^^^ nI (σ 11 ((σ 7 0 - b) % 40))).toInt64) kw
def ctr (σ : ST) (mail kw w : Nat) : Nat → Nat → Bool
  | 0, _ => false
  | n + 1, b => cond (ctc σ mail kw b) (hl64 ((nI (σ 11 ((σ 7 0 - b) % 40))).toInt64) kw != nb w) (ctr σ mail kw w n (b + 1))
def cnt (p : Nat → Bool) : Nat → Nat
  | 0 => 0
  | n + 1 => cnt p n + b2n (p n)
theorem cnt_t {p : Nat → Bool} {n : Nat} (h : p n = true) : cnt p n + 1 = cnt p (n + 1) := by simp [cnt, h, b2n]
theorem cnt_f {p : Nat → Bool} {n : Nat} (h : p n = false) : cnt p n = cnt p (n + 1) := by simp [cnt, h, b2n]
theorem cnt_le (p : Nat → Bool) (n : Nat) : cnt p n ≤ n := by
  induction n with
  | zero => exact Nat.le_refl 0
  | succ n ih => have := b2n_lt (p n); simp only [cnt]; omega
def chg (σ : ST) (j b w : Nat) : ST := su (su (kp σ j (σ 4 j) (σ 5 j) w) 4 (upN (σ 4) j b)) 5 (upN (σ 5) j w)
def wn (w k : Nat) (b : Bool) : Nat := cond b (w ||| 2 ^ k) (w &&& (15 - 2 ^ k))
theorem wi_n0 : ∀ b : Bool, ∀ k : Fin 4, ∀ w : Fin 16, (wi ((nI w.val).toInt64) k.val b).toInt32 = nI (wn w.val k.val b) := by decide +kernel
theorem wi_n {w k : Nat} (hw : w < 16) (hk : k < 4) (b : Bool) : (wi ((nI w).toInt64) k b).toInt32 = nI (wn w k b) := wi_n0 b ⟨k, hk⟩ ⟨w, hw⟩
theorem wn_lt0 : ∀ b : Bool, ∀ k : Fin 4, ∀ w : Fin 16, wn w.val k.val b < 16 := by decide +kernel
theorem wn_lt {w k : Nat} (hw : w < 16) (hk : k < 4) (b : Bool) : wn w k b < 16 := wn_lt0 b ⟨k, hk⟩ ⟨w, hw⟩
def pio (tm : Nat → Nat) (t mail : Nat) : Nat → (Nat → Nat) → (Nat → Nat)
  | 0, od => upN od 0 mail
  | k + 1, od => cond (decide (tm (od k) ≤ t)) (pio tm t mail k (upN od (k + 1) (od k))) (upN od (k + 1) mail)
def lat (σ : ST) (x : Int64) (ix : Int32) : Nat → Nat → Nat → Nat
  | 0, _, _ => 0
  | n + 1, pl, ah => cond (hl64 x (σ 6 pl)) (cond (decide (nI ah = ix)) (σ 6 pl + 1) (lat σ x ix n (pl + 1) (ah + 1))) (lat σ x ix n (pl + 1) ah)
def low (x : Int64) (ix : Int32) : Nat → Nat → Nat → Nat
  | 0, _, _ => 0
  | n + 1, m, ah => cond (hl64 x m) (cond (decide (nI ah = ix)) (m + 1) (low x ix n (m + 1) (ah + 1))) (low x ix n (m + 1) ah)
def inT (σ : ST) (t j : Nat) : Bool := !decide (σ 4 j = 0) && decide (σ 3 j = t)
def chs (σ : ST) (st : Nat) : Nat → Int64 := fun way =>
  let now := ms (fun j => mt (σ 4 j) (σ 5 j) 63 0) 60
  let thn := und σ 63 0 now (min (σ 7 0 - st) 40)
  if way = 0 then now &&& (thn ^^^ (-1)) else if way = 2 then thn &&& (now ^^^ (-1)) else (now &&& thn) &&& tch σ (min (σ 7 0 - st) 40)
theorem upN_same (g : Nat → Nat) (k v : Nat) : upN g k v k = v := by unfold upN; rw [if_pos rfl]
theorem upN_ne (g : Nat → Nat) {k v i : Nat} (h : i ≠ k) : upN g k v i = g i := by unfold upN; rw [if_neg h]
theorem iw_f {x : Int32} {a b : Nat} (h : iw x (nI a) (nI b) = false) : iw x (nI a) (nI b) = false := h
theorem iw_n {j a b : Nat} (h1 : a ≤ j) (h2 : j ≤ b) (hb : b < 2 ^ 31) : iw (nI j) (nI a) (nI b) = true := iw_t h1 h2 hb
theorem kp_lt {σ : ST} {N mail ob ok nk : Nat} (hB : ∀ k i, σ k i < N) (h7 : σ 7 0 + 1 < N) (h1 : mail < N) (h2 : ob < N) (h3 : ok < N) (h4 : nk < N) : ∀ k i, kp σ mail ob ok nk k i < N := by
  intro k i
  have up : ∀ (g : Nat → Nat) (a b : Nat), (∀ i, g i < N) → b < N → ∀ i, upN g a b i < N := by
    intro g a b hg hb i; unfold upN; split
    · exact hb
    · exact hg i
  have su_ : ∀ (S : ST) (c : Nat) (f : Nat → Nat), (∀ k i, S k i < N) → (∀ i, f i < N) → ∀ k i, su S c f k i < N := by
    intro S c f hS hf k i; unfold su
    cases Nat.beq k c
    · exact hS k i
    · exact hf i
  have sv_ : ∀ (S : ST) (c j v : Nat), (∀ k i, S k i < N) → v < N → ∀ k i, sv S c j v k i < N := by
    intro S c j v hS hv k i; unfold sv
    refine su_ S c _ hS (fun i => ?_) k i
    cases Nat.beq i j
    · exact hS c i
    · exact hv
  unfold kp
  exact su_ _ _ _ (su_ _ _ _ (su_ _ _ _ (su_ _ _ _ (sv_ _ _ _ _ hB h7) (up _ _ _ (hB 8) h1)) (up _ _ _ (hB 9) h2)) (up _ _ _ (hB 10) h3)) (up _ _ _ (hB 11) h4) k i
theorem su_lt {S : ST} {N c : Nat} {f : Nat → Nat} (hS : ∀ k i, S k i < N) (hf : ∀ i, f i < N) : ∀ k i, su S c f k i < N := by
  intro k i; unfold su
  cases Nat.beq k c
  · exact hS k i
  · exact hf i
theorem sv_lt {S : ST} {N c j v : Nat} (hS : ∀ k i, S k i < N) (hv : v < N) : ∀ k i, sv S c j v k i < N := by
  intro k i; unfold sv
  refine su_lt hS (fun i => ?_) k i
  cases Nat.beq i j
  · exact hS c i
  · exact hv
theorem up_lt {g : Nat → Nat} {N a b : Nat} (hg : ∀ i, g i < N) (hb : b < N) : ∀ i, upN g a b i < N := by
  intro i; unfold upN; split
  · exact hb
  · exact hg i
/-- a keyword set or taken away -/
def sk (σ : ST) (j k w : Nat) : ST := cond (decide (σ 5 j = wn (σ 5 j) k (nb w))) σ (chg σ j (σ 4 j) (wn (σ 5 j) k (nb w)))
/-- a mail comes -/
def lc (σ : ST) (t b th : Nat) : ST :=
  chg (sv (su (su (su σ 2 (upN (σ 2) (σ 1 0) t)) 3 (upN (σ 3) (σ 1 0) th)) 6 (pio (upN (σ 2) (σ 1 0) t) t (σ 1 0) (min (σ 1 0) 59) (σ 6))) 1 0 (σ 1 0 + 1)) (σ 1 0) b 0
theorem pio_lt {tm od : Nat → Nat} {t mail N : Nat} (hod : ∀ i, od i < N) (hm : mail < N) : ∀ (n : Nat) (i : Nat), pio tm t mail n od i < N := by
  intro n
  induction n generalizing od with
  | zero => intro i; exact up_lt hod hm i
  | succ n ih =>
    intro i
    simp only [pio]
    cases decide (tm (od n) ≤ t)
    · exact up_lt hod hm i
    · exact ih (up_lt hod (hod n)) i
theorem pio_lt' {tm od : Nat → Nat} {t mail N : Nat} (hod : ∀ i, od i < N) (hm : mail < N) (n m : Nat) : ∀ i, pio tm t mail n od i < N := pio_lt hod hm n
