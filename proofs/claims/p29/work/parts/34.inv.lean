/-! the server by itself: what holds of it between the calls -/
theorem su_ne {S : ST} {k j : Nat} {f : Nat → Nat} (h : j ≠ k) : su S k f j = S j := by
  unfold su
  cases h2 : Nat.beq j k
  · rfl
  · exact absurd (Nat.eq_of_beq_eq_true h2) h
theorem sv_ne {S : ST} {k i v j : Nat} (h : j ≠ k) : sv S k i v j = S j := su_ne h
theorem chg_b {σ : ST} {j b w : Nat} (hB : ∀ k i, σ k i < 20000) (h7 : σ 7 0 < 4000) (hj : j < 20000) (hb : b < 20000) (hw : w < 20000) : ∀ k i, chg σ j b w k i < 20000 :=
  su_lt (su_lt (kp_lt hB (by omega) hj (hB 4 j) (hB 5 j) hw) (up_lt (hB 4) hb)) (up_lt (hB 5) hw)
theorem mt_z {b c d : Nat} : mt 0 b c d = false := by
  have e : nI 0 &&& nI c = 0 := by rw [nx_and, Nat.zero_and]; rfl
  unfold mt
  rw [e]; rfl
def JO (σ : ST) : Prop := ∀ P : Nat → Bool, cnt (fun i => P (σ 6 i)) (σ 1 0) = cnt P (σ 1 0)
def JS (σ : ST) : Prop := σ 1 0 ≤ 60 ∧ (∀ j, σ 1 0 ≤ j → σ 4 j = 0 ∧ σ 5 j = 0) ∧ (∀ i, σ 4 i < 64) ∧ (∀ i, σ 5 i < 16) ∧ (∀ i, σ 8 i < 60) ∧ (∀ i, σ 6 i < 60) ∧ JO σ ∧ (∀ k i, σ k i < 20000)
theorem JS_chg {σ : ST} {j b w : Nat} (J : JS σ) (hj : j < σ 1 0) (hb : b < 64) (hw : w < 16) (h7 : σ 7 0 < 4000) : JS (chg σ j b w) := by
  obtain ⟨j1, j2, j3, j4, j5, j6, j7, j8⟩ := J
  refine ⟨j1, fun i hi => ?_, up_lt j3 hb, up_lt j4 hw, up_lt j5 (by omega), j6, j7, chg_b j8 h7 (by omega) (by omega) (by omega)⟩
  have hi : σ 1 0 ≤ i := hi
  exact ⟨(upN_ne (σ 4) (by omega)).trans (j2 i hi).1, (upN_ne (σ 5) (by omega)).trans (j2 i hi).2⟩
theorem JS_sk {σ : ST} {j k w : Nat} (J : JS σ) (hj : j < σ 1 0) (hk : k < 4) (h7 : σ 7 0 < 4000) : JS (sk σ j k w) := by
  unfold sk
  cases decide (σ 5 j = wn (σ 5 j) k (nb w))
  · exact JS_chg J hj (J.2.2.1 j) (wn_lt (J.2.2.2.1 j) hk _) h7
  · exact J
theorem pio_cnt {tm od : Nat → Nat} {t m n : Nat} (o3 : ∀ P : Nat → Bool, cnt (fun i => P (od i)) n = cnt P n) (hm : m = n) : ∀ P : Nat → Bool, cnt (fun i => P (pio tm t m n od i)) (n + 1) = cnt P (n + 1) := by
  intro P
  subst hm
  obtain ⟨pl, p1, p2, p3, p4, p5, p6, p7⟩ := pio_spec tm t m m od
  obtain ⟨r, hr⟩ : ∃ r, m = pl + r := ⟨m - pl, by omega⟩
  have e1 : cnt (fun i => P (pio tm t m m od i)) (m + 1) = cnt (fun i => P (od i)) m + b2n (P m) := by
    have h1 : cnt (fun i => P (pio tm t m m od i)) (pl + (1 + r)) = cnt (fun i => P (od i)) pl + (b2n (P m) + cnt (fun i => P (od (pl + i))) r) := by
      rw [cnt_add, cnt_add]
      congr 1
      · exact cnt_congr (fun i hi => by rw [p2 i hi])
      · congr 1
        · show 0 + b2n (P (pio tm t m m od (pl + 0))) = _
          rw [Nat.zero_add, Nat.add_zero, p3]
        · refine cnt_congr (fun i hi => ?_)
          show P (pio tm t m m od (pl + (1 + i))) = _
          rw [p4 _ (by omega) (by omega)]
          congr 2
          omega
    have h2 : cnt (fun i => P (od i)) (pl + r) = cnt (fun i => P (od i)) pl + cnt (fun i => P (od (pl + i))) r := cnt_add _ _ _
    have h3 : m + 1 = pl + (1 + r) := by omega
    rw [h3, h1]
    have h4 : cnt (fun i => P (od i)) m = cnt (fun i => P (od i)) (pl + r) := by rw [← hr]
    rw [h4, h2]; omega
  rw [e1, o3 P]; rfl
/-- the server before its newcomer is told as a change -/
def lc0 (σ : ST) (t th : Nat) : ST := sv (su (su (su σ 2 (upN (σ 2) (σ 1 0) t)) 3 (upN (σ 3) (σ 1 0) th)) 6 (pio (upN (σ 2) (σ 1 0) t) t (σ 1 0) (min (σ 1 0) 59) (σ 6))) 1 0 (σ 1 0 + 1)
theorem JS_lc0 {σ : ST} {t th : Nat} (J : JS σ) (hc : σ 1 0 < 60) (ht : t < 20000) (hth : th < 20000) : JS (lc0 σ t th) := by
  obtain ⟨j1, j2, j3, j4, j5, j6, j7, j8⟩ := J
  have hm : min (σ 1 0) 59 = σ 1 0 := Nat.min_eq_left (by omega)
  refine ⟨hc, fun i hi => j2 i (Nat.le_trans (Nat.le_succ _) hi), j3, j4, j5, ?_, ?_, ?_⟩
  · exact pio_lt j6 hc _
  · intro P
    show cnt (fun i => P (pio (upN (σ 2) (σ 1 0) t) t (σ 1 0) (min (σ 1 0) 59) (σ 6) i)) (σ 1 0 + 1) = cnt P (σ 1 0 + 1)
    rw [hm]
    exact pio_cnt j7 rfl P
  · exact sv_lt (su_lt (su_lt (su_lt j8 (up_lt (j8 2) ht)) (up_lt (j8 3) hth)) (fun i => Nat.lt_trans (pio_lt j6 hc _ i) (by decide))) (by omega)
theorem lc_eq {σ : ST} {t b th : Nat} : lc σ t b th = chg (lc0 σ t th) (σ 1 0) b 0 := rfl
theorem JS_lc {σ : ST} {t b th : Nat} (J : JS σ) (hc : σ 1 0 < 60) (ht : t < 20000) (hth : th < 20000) (hb : b < 64) (h7 : σ 7 0 < 4000) : JS (lc σ t b th) := by
  rw [lc_eq]
  exact JS_chg (JS_lc0 J hc ht hth) (Nat.lt_succ_self (σ 1 0)) hb (by decide) h7
/-! what was then, out of the ring -/
def pw (σ : ST) (a l j : Nat) : Bool := mt (σ 4 j) (σ 5 j) a l
theorem undp_eq {σ σ' : ST} {a l : Nat} {p : Nat → Bool} (h7 : σ' 7 0 = σ 7 0) (h8 : σ' 8 = σ 8) (h9 : σ' 9 = σ 9) (h10 : σ' 10 = σ 10) : ∀ n, undp σ' a l p n = undp σ a l p n := by
  intro n
  induction n with
  | zero => rfl
  | succ n ih => simp only [undp]; rw [h7, h8, h9, h10, ih]
theorem und_chg {σ : ST} {j b w a l : Nat} : ∀ n, n + 1 ≤ 40 → n ≤ σ 7 0 → undp (chg σ j b w) a l (pw (chg σ j b w) a l) (n + 1) = undp σ a l (pw σ a l) n := by
  have e7 : chg σ j b w 7 0 = σ 7 0 + 1 := rfl
  have e8 : chg σ j b w 8 = upN (σ 8) ((σ 7 0 + 1) % 40) j := rfl
  have e9 : chg σ j b w 9 = upN (σ 9) ((σ 7 0 + 1) % 40) (σ 4 j) := rfl
  have e10 : chg σ j b w 10 = upN (σ 10) ((σ 7 0 + 1) % 40) (σ 5 j) := rfl
  intro n
  induction n with
  | zero =>
    intro _ _
    funext i
    simp only [undp]
    rw [e7, e8, e9, e10, Nat.sub_zero, upN_same, upN_same, upN_same]
    by_cases q : i = j
    · subst q; rw [if_pos rfl]; rfl
    · rw [if_neg q]
      show mt (upN (σ 4) j b i) (upN (σ 5) j w i) a l = mt (σ 4 i) (σ 5 i) a l
      rw [upN_ne _ q, upN_ne _ q]
  | succ n ih =>
    intro h1 h2
    have ih := ih (by omega) (by omega)
    have es : σ 7 0 + 1 - (n + 1) = σ 7 0 - n := by omega
    have ne : (σ 7 0 - n) % 40 ≠ (σ 7 0 + 1) % 40 := by omega
    funext i
    rw [undp, ih, e7, e8, e9, e10, es, upN_ne _ ne, upN_ne _ ne, upN_ne _ ne]
    rfl
/-- what a client wrote down at a state, as the ring tells it -/
def SN (σ : ST) (st M bx F : Nat) : Prop := st ≤ σ 7 0 ∧ (σ 7 0 - st ≤ 40 → cnt (undp σ 63 0 (pw σ 63 0) (σ 7 0 - st)) 60 = M ∧ cnt (undp σ (2 ^ bx) 0 (pw σ (2 ^ bx) 0) (σ 7 0 - st)) 60 = F)
theorem SN_now (σ : ST) (bx : Nat) : SN σ (σ 7 0) (cnt (pw σ 63 0) 60) bx (cnt (pw σ (2 ^ bx) 0) 60) := by
  refine ⟨Nat.le_refl _, fun _ => ?_⟩
  rw [Nat.sub_self]
  exact ⟨rfl, rfl⟩
theorem SN_chg {σ : ST} {j b w st M bx F : Nat} (S : SN σ st M bx F) : SN (chg σ j b w) st M bx F := by
  obtain ⟨h1, h2⟩ := S
  refine ⟨Nat.le_succ_of_le h1, fun h => ?_⟩
  have h : σ 7 0 + 1 - st ≤ 40 := h
  have e : chg σ j b w 7 0 - st = (σ 7 0 - st) + 1 := by
    show σ 7 0 + 1 - st = _
    omega
  rw [e, und_chg _ (by omega) (by omega), und_chg _ (by omega) (by omega)]
  exact h2 (by omega)
theorem SN_sk {σ : ST} {j k w st M bx F : Nat} (S : SN σ st M bx F) : SN (sk σ j k w) st M bx F := by
  unfold sk
  cases decide (σ 5 j = wn (σ 5 j) k (nb w))
  · exact SN_chg S
  · exact S
theorem SN_lc {σ : ST} {t b th st M bx F : Nat} (S : SN σ st M bx F) : SN (lc σ t b th) st M bx F := by
  rw [lc_eq]
  refine SN_chg ?_
  obtain ⟨h1, h2⟩ := S
  refine ⟨h1, fun h => ?_⟩
  have e : ∀ a l n, undp (lc0 σ t th) a l (pw (lc0 σ t th) a l) n = undp σ a l (pw σ a l) n := fun a l n => undp_eq (σ := σ) (σ' := lc0 σ t th) (p := pw σ a l) rfl rfl rfl rfl n
  rw [e, e]
  exact h2 h
/-- what came and what went since a state -/
def uw (σ : ST) (a l st : Nat) : Nat → Bool := undp σ a l (pw σ a l) (min (σ 7 0 - st) 40)
def crn (σ : ST) (a l st : Nat) : Nat := cnt (fun j => pw σ a l j && !uw σ a l st j) 60
def dsn (σ : ST) (a l st : Nat) : Nat := cnt (fun j => uw σ a l st j && !pw σ a l j) 60
theorem cnt_bal (p u : Nat → Bool) : ∀ n, cnt u n + cnt (fun j => p j && !u j) n = cnt p n + cnt (fun j => u j && !p j) n := by
  intro n
  induction n with
  | zero => rfl
  | succ n ih =>
    simp only [cnt]
    cases p n <;> cases u n <;> simp only [b2n, cond_true, cond_false, Bool.not_true, Bool.not_false, Bool.and_true, Bool.and_false, Bool.true_and, Bool.false_and] <;> omega
theorem uw_ms {σ : ST} {a l st : Nat} (h : ∀ i, σ 8 i < 60) : und σ a l (ms (fun j => mt (σ 4 j) (σ 5 j) a l) 60) (min (σ 7 0 - st) 40) = ms (uw σ a l st) 60 := und_ms h _
theorem chs0_eq {σ : ST} {st : Nat} (h : ∀ i, σ 8 i < 60) : bitc (chs σ st 0) = nI (crn σ 63 0 st) := by
  unfold chs
  simp only [if_pos]
  rw [uw_ms h, ms_andn, bitc_ms]
  rfl
theorem chs2_eq {σ : ST} {st : Nat} (h : ∀ i, σ 8 i < 60) : bitc (chs σ st 2) = nI (dsn σ 63 0 st) := by
  unfold chs
  simp only [show ¬ (2 = 0) by decide, if_pos, if_false]
  rw [uw_ms h, ms_andn, bitc_ms]
  rfl
theorem rmv_eq {σ : ST} {st a l : Nat} (h : ∀ i, σ 8 i < 60) : bitc (rmv σ st a l) = nI (dsn σ a l st) := by
  unfold rmv
  rw [uw_ms h, ms_andn, bitc_ms]
  rfl
theorem add_eq {σ : ST} {st a l : Nat} (h : ∀ i, σ 8 i < 60) : bitc (add_ σ st a l) = nI (crn σ a l st) := by
  unfold add_
  rw [uw_ms h, ms_andn, bitc_ms]
  rfl
theorem SN_bal {σ : ST} {st M bx F : Nat} (S : SN σ st M bx F) (h : σ 7 0 - st ≤ 40) : M + crn σ 63 0 st = cnt (pw σ 63 0) 60 + dsn σ 63 0 st ∧ F + crn σ (2 ^ bx) 0 st = cnt (pw σ (2 ^ bx) 0) 60 + dsn σ (2 ^ bx) 0 st := by
  obtain ⟨-, h2⟩ := S
  obtain ⟨h3, h4⟩ := h2 h
  have em : min (σ 7 0 - st) 40 = σ 7 0 - st := Nat.min_eq_left h
  have b1 := cnt_bal (pw σ 63 0) (uw σ 63 0 st) 60
  have b2 := cnt_bal (pw σ (2 ^ bx) 0) (uw σ (2 ^ bx) 0 st) 60
  have e1 : cnt (uw σ 63 0 st) 60 = M := by unfold uw; rw [em]; exact h3
  have e2 : cnt (uw σ (2 ^ bx) 0 st) 60 = F := by unfold uw; rw [em]; exact h4
  rw [e1] at b1
  rw [e2] at b2
  exact ⟨b1, b2⟩
/-! a page -/
def pgv (σ : ST) (st pl : Nat) : Nat := pge σ st pl (min (σ 7 0 - st) 40) 0
theorem pge_rng {σ : ST} {st pl : Nat} : ∀ n a, st + a + n ≤ σ 7 0 → st + a ≤ pge σ st pl n a ∧ pge σ st pl n a ≤ σ 7 0 := by
  intro n
  induction n with
  | zero => intro a h; exact ⟨by show st + a ≤ σ 7 0; omega, Nat.le_refl _⟩
  | succ n ih =>
    intro a h
    simp only [pge]
    cases pgc σ st pl a
    · have := ih (a + 1) (by omega)
      simp only [cond_false]; omega
    · simp only [cond_true]; omega
theorem pgv_end (σ : ST) (pl : Nat) : pgv σ (σ 7 0) pl = σ 7 0 := by
  unfold pgv
  rw [Nat.sub_self, Nat.zero_min]
  rfl
theorem bitc_0 : bitc 0 = nI 0 := by decide +kernel
theorem pgv_up {σ : ST} {st pl : Nat} (h : st < σ 7 0) (h1 : 1 ≤ pl) (h2 : pl ≤ 20) : st < pgv σ st pl ∧ pgv σ st pl ≤ σ 7 0 := by
  have hc : pgc σ st pl 0 = false := by
    unfold pgc
    show (_ && !decide (bitc 0 < nI pl)) = false
    rw [bitc_0, decide_eq_true ((nI_ltI (by omega) (by omega)).mpr (by omega)), Bool.not_true, Bool.and_false]
  unfold pgv
  obtain ⟨n, hn⟩ : ∃ n, min (σ 7 0 - st) 40 = n + 1 := ⟨min (σ 7 0 - st) 40 - 1, by omega⟩
  rw [hn]
  simp only [pge]
  rw [hc, cond_false]
  have := pge_rng (σ := σ) (st := st) (pl := pl) n (0 + 1) (by omega)
  omega
/-! the order, and a window taken -/
theorem cnt_one (m : Nat) : ∀ n, cnt (fun j => decide (j = m)) n ≤ 1 ∧ (n ≤ m → cnt (fun j => decide (j = m)) n = 0) := by
  intro n
  induction n with
  | zero => exact ⟨Nat.zero_le _, fun _ => rfl⟩
  | succ n ih =>
    obtain ⟨i1, i2⟩ := ih
    simp only [cnt]
    by_cases q : n = m
    · rw [decide_eq_true q, i2 (by omega)]
      exact ⟨by simp [b2n], fun h => by omega⟩
    · rw [decide_eq_false q]
      exact ⟨by simp only [b2n, cond_false]; omega, fun h => by rw [i2 (by omega)]; rfl⟩
theorem ord_inj {σ : ST} (J : JS σ) {p q : Nat} (hp : p < σ 1 0) (hq : q < σ 1 0) (h : σ 6 p = σ 6 q) : p = q := by
  have o := J.2.2.2.2.2.2.1 (fun j => decide (j = σ 6 p))
  have c1 := (cnt_one (σ 6 p) (σ 1 0)).1
  have key : ∀ {a b : Nat}, a < b → b < σ 1 0 → σ 6 a = σ 6 p → σ 6 b = σ 6 p → False := fun {a b} h1 h2 e1 e2 => by
    have l1 := cnt_lt_of (p := fun i => decide (σ 6 i = σ 6 p)) h1 (decide_eq_true e1)
    have l2 := cnt_lt_of (p := fun i => decide (σ 6 i = σ 6 p)) h2 (decide_eq_true e2)
    omega
  rcases Nat.lt_trichotomy p q with z | z | z
  · exact (key z hq rfl h.symm).elim
  · exact z
  · exact (key z hp h.symm rfl).elim
theorem bxs_co {σ : ST} (J : JS σ) (b : Nat) : cnt (bxs σ b) 60 = cnt (bxs σ b) (σ 1 0) := cnt_ext J.1 (fun _ _ => rfl) (fun j h _ => by unfold bxs; rw [(J.2.1 j h).1]; exact mt_z)
theorem bxs_th {σ : ST} {b j : Nat} (h : bxs σ b j = true) : σ 4 j ≠ 0 := fun e => by
  unfold bxs at h
  rw [e, mt_z] at h
  exact absurd h (by decide)
theorem lat_w {σ : ST} (J : JS σ) {b i : Nat} (hi : i < cnt (bxs σ b) 60) : ∃ p, p < σ 1 0 ∧ lat σ (ms (bxs σ b) 60) (nI i) (σ 1 0) 0 0 = σ 6 p + 1 ∧ bxs σ b (σ 6 p) = true ∧ cnt (fun x => bxs σ b (σ 6 x)) p = i := by
  have h60 := J.1
  have hc : cnt (fun x => bxs σ b (σ 6 x)) (σ 1 0) = cnt (bxs σ b) (σ 1 0) := J.2.2.2.2.2.2.1 (bxs σ b)
  have hle := cnt_le (bxs σ b) 60
  rcases lat_spec (bxs σ b) (nI i) J.2.2.2.2.2.1 (σ 1 0) (σ 1 0) 0 (Nat.zero_add _) with ⟨q, a, c, d, e, f⟩ | ⟨-, a⟩
  · have := cnt_le (fun x => bxs σ b (σ 6 x)) q
    exact ⟨q, c, f, d, (nI_eq (by omega) (by omega)).mp e⟩
  · rw [bxs_co J, ← hc] at hi
    obtain ⟨q, c, d, e⟩ := cnt_hit hi
    exact absurd (by rw [e]) (a q (Nat.zero_le _) c d)
