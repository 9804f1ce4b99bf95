/-! what the class's small methods answer -/
def iw (v a b : Int32) : Bool := !decide (v < a) && !decide (b < v)
def mt (a b c d : Nat) : Bool := !decide (nI a &&& nI c = 0) && decide (nI b &&& nI d = nI d)
def hl64 (x : Int64) (k : Nat) : Bool := decide ((x >>> ((nI k).toInt64 &&& 63)) &&& 1 = 1)
def wi (x : Int64) (k : Nat) (b : Bool) : Int64 := cond b (x ||| ((1 : Int64) <<< ((nI k).toInt64 &&& 63))) (x &&& (((1 : Int64) <<< ((nI k).toInt64 &&& 63)) ^^^ (-1)))
/-- the mails of which p holds, below n, as bits -/
def ms (p : Nat → Bool) : Nat → Int64
  | 0 => 0
  | n + 1 => wi (ms p n) n (p n)
def bitc (x : Int64) : Int32 :=
  let a := x - ((x.toUInt64 >>> ((nI 1).toInt64.toUInt64 &&& Int64.toUInt64 63)).toInt64 &&& 6148914691236517205)
  let b := (a &&& 3689348814741910323) + ((a.toUInt64 >>> ((nI 2).toInt64.toUInt64 &&& Int64.toUInt64 63)).toInt64 &&& 3689348814741910323)
  let c := (b + (b.toUInt64 >>> ((nI 4).toInt64.toUInt64 &&& Int64.toUInt64 63)).toInt64) &&& 1085102592571150095
  let d := c + (c.toUInt64 >>> ((nI 8).toInt64.toUInt64 &&& Int64.toUInt64 63)).toInt64
  let e := d + (d.toUInt64 >>> ((nI 16).toInt64.toUInt64 &&& Int64.toUInt64 63)).toInt64
  let f := e + (e.toUInt64 >>> ((nI 32).toInt64.toUInt64 &&& Int64.toUInt64 63)).toInt64
  f.toInt32 &&& nI 127
theorem lg_eq {x y : Int64} : lg_cmp x y = 0 ↔ x = y := by
  unfold lg_cmp
  by_cases h1 : x > y
  · rw [if_pos h1]
    refine ⟨fun q => absurd q (by decide), fun q => ?_⟩
    subst q
    simp [gt_iff_lt, Int64.lt_iff_toInt_lt] at h1
  · rw [if_neg h1]
    by_cases h2 : x = y
    · rw [if_pos h2]; exact ⟨fun _ => h2, fun _ => rfl⟩
    · rw [if_neg h2]; exact ⟨fun q => absurd q (by decide), fun q => absurd q h2⟩
theorem nI_lt_lit {a : Nat} (h : a < 2 ^ 31) : a < 2 ^ 31 := h
/-- a change kept: the state grows, its slot holds the mail, what it was and what its keywords are -/
def kp (σ : ST) (mail ob ok nk : Nat) : ST := su (su (su (su (sv σ 7 0 (σ 7 0 + 1)) 8 (upN (σ 8) ((σ 7 0 + 1) % 40) mail)) 9 (upN (σ 9) ((σ 7 0 + 1) % 40) ob)) 10 (upN (σ 10) ((σ 7 0 + 1) % 40) ok)) 11 (upN (σ 11) ((σ 7 0 + 1) % 40) nk)
def und (σ : ST) (any al : Nat) (x : Int64) : Nat → Int64
  | 0 => x
  | b + 1 => wi (und σ any al x b) (σ 8 ((σ 7 0 - b) % 40)) (mt (σ 9 ((σ 7 0 - b) % 40)) (σ 10 ((σ 7 0 - b) % 40)) any al)
def tch (σ : ST) : Nat → Int64
  | 0 => 0
  | b + 1 => wi (tch σ b) (σ 8 ((σ 7 0 - b) % 40)) true
def pgs (σ : ST) (st : Nat) : Nat → Int64
  | 0 => 0
  | a + 1 => wi (pgs σ st a) (σ 8 ((st + 1 + a) % 40)) true
def pgc (σ : ST) (st pl a : Nat) : Bool := !hl64 (pgs σ st a) (σ 8 ((st + 1 + a) % 40)) && !decide (bitc (pgs σ st a) < nI pl)
def pge (σ : ST) (st pl : Nat) : Nat → Nat → Nat
  | 0, _ => σ 7 0
  | n + 1, a => cond (pgc σ st pl a) (st + a) (pge σ st pl n (a + 1))
def ctc (σ : ST) (mail kw b : Nat) : Bool := decide (σ 8 ((σ 7 0 - b) % 40) = mail) && hl64 ((nI (σ 10 ((σ 7 0 - b) % 40)) ^^^ nI (σ 11 ((σ 7 0 - b) % 40))).toInt64) kw
def ctr (σ : ST) (mail kw w : Nat) : Nat → Nat → Bool
  | 0, _ => false
  | n + 1, b => cond (ctc σ mail kw b) (hl64 ((nI (σ 11 ((σ 7 0 - b) % 40))).toInt64) kw != nb w) (ctr σ mail kw w n (b + 1))
def cnt (p : Nat → Bool) : Nat → Nat
  | 0 => 0
  | n + 1 => cnt p n + b2n (p n)
theorem cnt_t {p : Nat → Bool} {n : Nat} (h : p n = true) : cnt p n + 1 = cnt p (n + 1) := by simp [cnt, h, b2n]
theorem cnt_f {p : Nat → Bool} {n : Nat} (h : p n = false) : cnt p n = cnt p (n + 1) := by simp [cnt, h, b2n]
theorem cnt_le (p : Nat → Bool) (n : Nat) : cnt p n ≤ n := by
  induction n with
  | zero => exact Nat.le_refl 0
  | succ n ih => have := b2n_lt (p n); simp only [cnt]; omega
def chg (σ : ST) (j b w : Nat) : ST := su (su (kp σ j (σ 4 j) (σ 5 j) w) 4 (upN (σ 4) j b)) 5 (upN (σ 5) j w)
def wn (w k : Nat) (b : Bool) : Nat := cond b (w ||| 2 ^ k) (w &&& (15 - 2 ^ k))
theorem wi_n0 : ∀ b : Bool, ∀ k : Fin 4, ∀ w : Fin 16, (wi ((nI w.val).toInt64) k.val b).toInt32 = nI (wn w.val k.val b) := by decide +kernel
theorem wi_n {w k : Nat} (hw : w < 16) (hk : k < 4) (b : Bool) : (wi ((nI w).toInt64) k b).toInt32 = nI (wn w k b) := wi_n0 b ⟨k, hk⟩ ⟨w, hw⟩
theorem wn_lt0 : ∀ b : Bool, ∀ k : Fin 4, ∀ w : Fin 16, wn w.val k.val b < 16 := by decide +kernel
theorem wn_lt {w k : Nat} (hw : w < 16) (hk : k < 4) (b : Bool) : wn w k b < 16 := wn_lt0 b ⟨k, hk⟩ ⟨w, hw⟩
def pio (tm : Nat → Nat) (t mail : Nat) : Nat → (Nat → Nat) → (Nat → Nat)
  | 0, od => upN od 0 mail
  | k + 1, od => cond (decide (tm (od k) ≤ t)) (pio tm t mail k (upN od (k + 1) (od k))) (upN od (k + 1) mail)
def lat (σ : ST) (x : Int64) (ix : Int32) : Nat → Nat → Nat → Nat
  | 0, _, _ => 0
  | n + 1, pl, ah => cond (hl64 x (σ 6 pl)) (cond (decide (nI ah = ix)) (σ 6 pl + 1) (lat σ x ix n (pl + 1) (ah + 1))) (lat σ x ix n (pl + 1) ah)
def low (x : Int64) (ix : Int32) : Nat → Nat → Nat → Nat
  | 0, _, _ => 0
  | n + 1, m, ah => cond (hl64 x m) (cond (decide (nI ah = ix)) (m + 1) (low x ix n (m + 1) (ah + 1))) (low x ix n (m + 1) ah)
def inT (σ : ST) (t j : Nat) : Bool := !decide (σ 4 j = 0) && decide (σ 3 j = t)
def chs (σ : ST) (st : Nat) : Nat → Int64 := fun way =>
  let now := ms (fun j => mt (σ 4 j) (σ 5 j) 63 0) 60
  let thn := und σ 63 0 now (min (σ 7 0 - st) 40)
  if way = 0 then now &&& (thn ^^^ (-1)) else if way = 2 then thn &&& (now ^^^ (-1)) else (now &&& thn) &&& tch σ (min (σ 7 0 - st) 40)
theorem upN_same (g : Nat → Nat) (k v : Nat) : upN g k v k = v := by unfold upN; rw [if_pos rfl]
theorem upN_ne (g : Nat → Nat) {k v i : Nat} (h : i ≠ k) : upN g k v i = g i := by unfold upN; rw [if_neg h]
theorem iw_f {x : Int32} {a b : Nat} (h : iw x (nI a) (nI b) = false) : iw x (nI a) (nI b) = false := h
theorem iw_n {j a b : Nat} (h1 : a ≤ j) (h2 : j ≤ b) (hb : b < 2 ^ 31) : iw (nI j) (nI a) (nI b) = true := iw_t h1 h2 hb
theorem kp_lt {σ : ST} {N mail ob ok nk : Nat} (hB : ∀ k i, σ k i < N) (h7 : σ 7 0 + 1 < N) (h1 : mail < N) (h2 : ob < N) (h3 : ok < N) (h4 : nk < N) : ∀ k i, kp σ mail ob ok nk k i < N := by
  intro k i
  have up : ∀ (g : Nat → Nat) (a b : Nat), (∀ i, g i < N) → b < N → ∀ i, upN g a b i < N := by
    intro g a b hg hb i; unfold upN; split
    · exact hb
    · exact hg i
  have su_ : ∀ (S : ST) (c : Nat) (f : Nat → Nat), (∀ k i, S k i < N) → (∀ i, f i < N) → ∀ k i, su S c f k i < N := by
    intro S c f hS hf k i; unfold su
    cases Nat.beq k c
    · exact hS k i
    · exact hf i
  have sv_ : ∀ (S : ST) (c j v : Nat), (∀ k i, S k i < N) → v < N → ∀ k i, sv S c j v k i < N := by
    intro S c j v hS hv k i; unfold sv
    refine su_ S c _ hS (fun i => ?_) k i
    cases Nat.beq i j
    · exact hS c i
    · exact hv
  unfold kp
  exact su_ _ _ _ (su_ _ _ _ (su_ _ _ _ (su_ _ _ _ (sv_ _ _ _ _ hB h7) (up _ _ _ (hB 8) h1)) (up _ _ _ (hB 9) h2)) (up _ _ _ (hB 10) h3)) (up _ _ _ (hB 11) h4) k i
theorem su_lt {S : ST} {N c : Nat} {f : Nat → Nat} (hS : ∀ k i, S k i < N) (hf : ∀ i, f i < N) : ∀ k i, su S c f k i < N := by
  intro k i; unfold su
  cases Nat.beq k c
  · exact hS k i
  · exact hf i
theorem sv_lt {S : ST} {N c j v : Nat} (hS : ∀ k i, S k i < N) (hv : v < N) : ∀ k i, sv S c j v k i < N := by
  intro k i; unfold sv
  refine su_lt hS (fun i => ?_) k i
  cases Nat.beq i j
  · exact hS c i
  · exact hv
theorem up_lt {g : Nat → Nat} {N a b : Nat} (hg : ∀ i, g i < N) (hb : b < N) : ∀ i, upN g a b i < N := by
  intro i; unfold upN; split
  · exact hb
  · exact hg i
/-- a keyword set or taken away -/
def sk (σ : ST) (j k w : Nat) : ST := cond (decide (σ 5 j = wn (σ 5 j) k (nb w))) σ (chg σ j (σ 4 j) (wn (σ 5 j) k (nb w)))
/-- a mail comes -/
def lc (σ : ST) (t b th : Nat) : ST :=
  chg (sv (su (su (su σ 2 (upN (σ 2) (σ 1 0) t)) 3 (upN (σ 3) (σ 1 0) th)) 6 (pio (upN (σ 2) (σ 1 0) t) t (σ 1 0) (min (σ 1 0) 59) (σ 6))) 1 0 (σ 1 0 + 1)) (σ 1 0) b 0
theorem pio_lt {tm od : Nat → Nat} {t mail N : Nat} (hod : ∀ i, od i < N) (hm : mail < N) : ∀ (n : Nat) (i : Nat), pio tm t mail n od i < N := by
  intro n
  induction n generalizing od with
  | zero => intro i; exact up_lt hod hm i
  | succ n ih =>
    intro i
    simp only [pio]
    cases decide (tm (od n) ≤ t)
    · exact up_lt hod hm i
    · exact ih (up_lt hod (hod n)) i
theorem pio_lt' {tm od : Nat → Nat} {t mail N : Nat} (hod : ∀ i, od i < N) (hm : mail < N) (n m : Nat) : ∀ i, pio tm t mail n od i < N := pio_lt hod hm n
/-! the clients -/
def plo (κ : ST) (m : Int32) : Nat → Nat → Nat
  | 0, _ => 0
  | n + 1, pl => cond (decide (nI (κ 1 pl) = m)) (pl + 1) (plo κ m n (pl + 1))
def hpl (κ : ST) (x : Int32) : Bool := !decide (x < 0) && !decide (nI (κ 0 4) ≤ x) && !decide (nI 10 ≤ x)
theorem hpl_n {κ : ST} {j : Nat} (h : j < κ 0 4) (h10 : κ 0 4 ≤ 10) : hpl κ (nI j) = true := by
  unfold hpl
  rw [decide_eq_false (nI_pos (by omega)), decide_eq_false (nI_ge h (by omega)), decide_eq_false (nI_ge (by omega) (by decide))]
  rfl
def lst (κ : ST) (m k w : Nat) : ST := sv (su (su (su κ 3 (upN (κ 3) (κ 0 5) m)) 4 (upN (κ 4) (κ 0 5) k)) 5 (upN (κ 5) (κ 0 5) w)) 0 5 (κ 0 5 + 1)
def nte (κ : ST) (pl k w : Nat) : ST := lst (su κ 2 (upN (κ 2) pl (wn (κ 2 pl) k (nb w)))) (κ 1 pl) k w
def icf (σ κ : ST) (m k w : Nat) : Bool := !(!decide (σ 4 m = 0)) || (decide (σ 7 0 - κ 0 2 ≤ 40) && ctr σ m k w (min (σ 7 0 - κ 0 2) 40) 0)
def loc (σ κ : ST) : Nat → ST
  | 0 => sv κ 0 5 0
  | i + 1 => cond (icf σ (loc σ κ i) (loc σ κ i 3 i) (loc σ κ i 4 i) (loc σ κ i 5 i)) (loc σ κ i) (lst (loc σ κ i) (loc σ κ i 3 i) (loc σ κ i 4 i) (loc σ κ i 5 i))
def CI (κ : ST) : Prop := (∀ i, κ 3 i < 60) ∧ (∀ i, κ 4 i < 4) ∧ (∀ i, κ 5 i < 2) ∧ (∀ i, κ 1 i < 60) ∧ (∀ i, κ 2 i < 16) ∧ ∀ k i, κ k i < 1073741824
theorem CI_lst {κ : ST} {m k w : Nat} (h : CI κ) (h5 : κ 0 5 + 1 < 1073741824) (hm : m < 60) (hk : k < 4) (hw : w < 2) : CI (lst κ m k w) :=
  ⟨up_lt h.1 hm, up_lt h.2.1 hk, up_lt h.2.2.1 hw, h.2.2.2.1, h.2.2.2.2.1, sv_lt (su_lt (su_lt (su_lt h.2.2.2.2.2 (up_lt (h.2.2.2.2.2 3) (by omega))) (up_lt (h.2.2.2.2.2 4) (by omega))) (up_lt (h.2.2.2.2.2 5) (by omega))) h5⟩
theorem loc_all {σ κ : ST} (h : CI κ) : ∀ i, i ≤ 10 → CI (loc σ κ i) ∧ loc σ κ i 0 5 ≤ i ∧ loc σ κ i 0 2 = κ 0 2 := by
  intro i
  induction i with
  | zero => intro _; exact ⟨⟨h.1, h.2.1, h.2.2.1, h.2.2.2.1, h.2.2.2.2.1, sv_lt h.2.2.2.2.2 (by decide)⟩, Nat.le_refl 0, rfl⟩
  | succ i ih =>
    intro hi
    obtain ⟨h1, h2, h3⟩ := ih (by omega)
    simp only [loc]
    cases icf σ (loc σ κ i) (loc σ κ i 3 i) (loc σ κ i 4 i) (loc σ κ i 5 i)
    · exact ⟨CI_lst h1 (by omega) (h1.1 i) (h1.2.1 i) (h1.2.2.1 i), (by show loc σ κ i 0 5 + 1 ≤ i + 1; omega), h3⟩
    · exact ⟨h1, by simp only [cond_true]; omega, h3⟩
def rpl (σ κ : ST) : Nat → ST
  | 0 => σ
  | i + 1 => sk (rpl σ κ i) (κ 3 i) (κ 4 i) (κ 5 i)
theorem chg_lt {σ : ST} {N j b w : Nat} (hB : ∀ k i, σ k i < N) (hj : j < N) (hb : b < N) (hw : w < N) (h7 : σ 7 0 + 1 < N + 1) : ∀ k i, chg σ j b w k i < N + 1 := by
  have hB1 : ∀ k i, σ k i < N + 1 := fun k i => Nat.lt_succ_of_lt (hB k i)
  have hk := kp_lt (σ := σ) (N := N + 1) (mail := j) (ob := σ 4 j) (ok := σ 5 j) (nk := w) hB1 h7 (by omega) (hB1 _ _) (hB1 _ _) (by omega)
  exact su_lt (su_lt hk (up_lt (hB1 4) (by omega))) (up_lt (hB1 5) (by omega))
theorem sk_lt {σ : ST} {N j k w : Nat} (hB : ∀ k i, σ k i < N) (hN : 60 ≤ N) (hj : j < 60) (h15 : ∀ i, σ 5 i < 16) (hk : k < 4) : ∀ a i, sk σ j k w a i < N + 1 := by
  unfold sk
  cases decide (σ 5 j = wn (σ 5 j) k (nb w))
  · exact chg_lt hB (by omega) (hB 4 j) (Nat.lt_of_lt_of_le (wn_lt (h15 j) hk _) (by omega)) (by have := hB 7 0; omega)
  · exact fun a i => Nat.lt_succ_of_lt (hB a i)
theorem sk_15 {σ : ST} {j k w : Nat} (h15 : ∀ i, σ 5 i < 16) (hk : k < 4) : ∀ i, sk σ j k w 5 i < 16 := by
  unfold sk
  cases decide (σ 5 j = wn (σ 5 j) k (nb w))
  · exact up_lt h15 (wn_lt (h15 j) hk _)
  · exact h15
theorem rpl_all {σ κ : ST} (hC : CI κ) (hB : ∀ k i, σ k i < 1000000000) (h15 : ∀ i, σ 5 i < 16) : ∀ n, (∀ k i, rpl σ κ n k i < 1000000000 + n) ∧ ∀ i, rpl σ κ n 5 i < 16 := by
  intro n
  induction n with
  | zero => exact ⟨hB, h15⟩
  | succ n ih => exact ⟨sk_lt (N := 1000000000 + n) ih.1 (by omega) (hC.1 n) ih.2 (hC.2.1 n), sk_15 ih.2 (hC.2.1 n)⟩
def bxs (σ : ST) (b : Nat) : Nat → Bool := fun j => mt (σ 4 j) (σ 5 j) (2 ^ b) 0
def wml (σ : ST) (b i : Nat) : Nat := lat σ (ms (bxs σ b) 60) (nI i) (σ 1 0) 0 0 - 1
theorem oi_wml {σ : ST} {b i : Nat} (h : 0 < lat σ (ms (bxs σ b) 60) (nI i) (σ 1 0) 0 0) : oi (lat σ (ms (bxs σ b) 60) (nI i) (σ 1 0) 0 0) = nI (wml σ b i) := by
  unfold wml
  cases hc : lat σ (ms (bxs σ b) 60) (nI i) (σ 1 0) 0 0 with
  | zero => rw [hc] at h; exact absurd h (by decide)
  | succ n => rfl
def wsz (σ κ : ST) : Nat := min (κ 0 1) (cnt (bxs σ (κ 0 0)) 60)
def ldk (σ κ : ST) : Nat → ST
  | 0 => sv (sv κ 0 2 (σ 7 0)) 0 4 (wsz σ κ)
  | i + 1 => su (su (ldk σ κ i) 1 (upN (ldk σ κ i 1) i (wml σ (κ 0 0) i))) 2 (upN (ldk σ κ i 2) i (σ 5 (wml σ (κ 0 0) i)))
theorem ldk_ws (σ κ : ST) : ∀ i, ldk σ κ i 0 4 = wsz σ κ := by
  intro i
  induction i with
  | zero => rfl
  | succ i ih => exact ih
/-! the face -/
def askq (k : Nat) : Nat := match k with
  | 0 => 0
  | j + 1 => 2 ^ j
def iq (x : Int32) : Bool := decide (x = oi 0) || iw x (nI 0) (nI 3)
theorem iq_k {k : Nat} (h : k ≤ 4) : iq (oi k) = true := by
  unfold iq
  cases k with
  | zero => rfl
  | succ j => rw [show oi (j + 1) = nI j from rfl, iw_n (Nat.zero_le _) (by omega) (by decide), Bool.or_true]
def rmv (σ : ST) (st any al : Nat) : Int64 := und σ any al (ms (fun j => mt (σ 4 j) (σ 5 j) any al) 60) (min (σ 7 0 - st) 40) &&& ((ms (fun j => mt (σ 4 j) (σ 5 j) any al) 60) ^^^ (-1))
def add_ (σ : ST) (st any al : Nat) : Int64 := (ms (fun j => mt (σ 4 j) (σ 5 j) any al) 60) &&& ((und σ any al (ms (fun j => mt (σ 4 j) (σ 5 j) any al) 60) (min (σ 7 0 - st) 40)) ^^^ (-1))
/-- the sets that tell what changed are sets of mails: by membership -/
def chp (σ : ST) (st way j : Nat) : Bool := hl64 (chs σ st way) j
def rmp (σ : ST) (st any al j : Nat) : Bool := hl64 (rmv σ st any al) j
def adp (σ : ST) (st any al j : Nat) : Bool := hl64 (add_ σ st any al) j
theorem low_le (x : Int64) (ix : Int32) : ∀ n m ah, low x ix n m ah ≤ m + n + 1 := by
  intro n
  induction n with
  | zero => intro m ah; exact Nat.zero_le _
  | succ n ih =>
    intro m ah
    simp only [low]
    cases hl64 x m
    · have := ih (m + 1) ah; simp only [cond_false]; omega
    · cases decide (nI ah = ix)
      · have := ih (m + 1) (ah + 1); simp only [cond_true, cond_false]; omega
      · simp only [cond_true]; omega
theorem lat_le {σ : ST} {N : Nat} (h : ∀ i, σ 6 i < N) (x : Int64) (ix : Int32) : ∀ n pl ah, lat σ x ix n pl ah ≤ N := by
  intro n
  induction n with
  | zero => intro pl ah; exact Nat.zero_le _
  | succ n ih =>
    intro pl ah
    simp only [lat]
    cases hl64 x (σ 6 pl)
    · exact ih _ _
    · cases decide (nI ah = ix)
      · exact ih _ _
      · exact h pl
theorem plo_le (κ : ST) (x : Int32) : ∀ n pl, plo κ x n pl ≤ pl + n := by
  intro n
  induction n with
  | zero => intro pl; exact Nat.zero_le _
  | succ n ih =>
    intro pl
    simp only [plo]
    cases decide (nI (κ 1 pl) = x)
    · have := ih (pl + 1); simp only [cond_false]; omega
    · simp only [cond_true]; omega
/-- a sync, by the state of the client that begins it -/
def syB (σ κ : ST) : ST := loc σ κ (κ 0 5)
def syS (σ κ : ST) : ST := rpl σ (syB σ κ) (syB σ κ 0 5)
def syC (σ κ : ST) : ST := sv (syB σ κ) 0 5 0
def syD (σ κ : ST) : ST := ldk (syS σ κ) (syC σ κ) (wsz (syS σ κ) (syC σ κ))
