def hs (v i : Nat) : Bool := decide ((nI v >>> (nI i &&& 31)) &&& nI 1 = nI 1)
theorem mt_h1 : ∀ a : Fin 64, ∀ x : Fin 6, (!decide (nI a.val &&& nI (2 ^ x.val) = 0)) = hs a.val x.val := by decide +kernel
theorem mt_h2 : ∀ b : Fin 16, ∀ k : Fin 5, decide (nI b.val &&& nI (askq k.val) = nI (askq k.val)) = (decide (k.val = 0) || hs b.val (k.val - 1)) := by decide +kernel
/-- the class's match of a mail and the reference's -/
theorem mt_hs {a b x k : Nat} (ha : a < 64) (hb : b < 16) (hx : x < 6) (hk : k ≤ 4) : mt a b (2 ^ x) (askq k) = (hs a x && (decide (k = 0) || hs b (k - 1))) := by
  unfold mt
  rw [mt_h1 ⟨a, ha⟩ ⟨x, hx⟩, mt_h2 ⟨b, hb⟩ ⟨k, by omega⟩]
/-- a mail that was there: its boxes are one at least -/
theorem mt_63 : ∀ a : Fin 64, mt a.val 0 63 0 = !decide (a.val = 0) := by decide +kernel
theorem hs_0 : ∀ x : Fin 6, hs 0 x.val = false := by decide +kernel
theorem wn_hs : ∀ b : Fin 16, ∀ k : Fin 4, ∀ w : Bool, decide (b.val = wn b.val k.val w) = decide (hs b.val k.val = w) := by decide +kernel
theorem wn_xor : ∀ b : Fin 16, ∀ k : Fin 4, ∀ w : Bool, hs b.val k.val ≠ w → wn b.val k.val w = b.val ^^^ 2 ^ k.val := by decide +kernel
