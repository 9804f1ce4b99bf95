/-! quotients of counts are numbers -/
theorem share_nn0 : ∀ a : Fin 61, ∀ b : Fin 60, vf_n32 (FP.fdiv (FP.i2f (nI a.val)) (FP.i2f (nI (b.val + 1)))) := by unfold vf_n32; decide +kernel
theorem share_nn (a b : Nat) (ha : a ≤ 60) (hb : b ≤ 60) (h0 : b ≠ 0) : vf_n32 (FP.fdiv (FP.i2f (nI a)) (FP.i2f (nI b))) := by
  obtain ⟨k, rfl⟩ : ∃ k, b = k + 1 := ⟨b - 1, by omega⟩
  exact share_nn0 ⟨a, by omega⟩ ⟨k, by omega⟩
theorem f2d_nn1 : ∀ a : Fin 61, ∀ b : Fin 60, vf_n64 (FP.f2d (FP.fdiv (FP.i2f (nI a.val)) (FP.i2f (nI (b.val + 1))))) ∧ Op.cmpValue (FP.dcmp (FP.f2d (FP.fdiv (FP.i2f (nI a.val)) (FP.i2f (nI (b.val + 1))))) (FP.f2d (FP.fdiv (FP.i2f (nI a.val)) (FP.i2f (nI (b.val + 1)))))) .l = 0 := by unfold vf_n64; decide +kernel
theorem f2d_nn0 : vf_n64 (FP.f2d FP.fconst0) := by unfold vf_n64; decide +kernel
theorem f2d_nn (a b : Nat) (ha : a ≤ 60) (hb : b ≤ 60) (h0 : b ≠ 0) : vf_n64 (FP.f2d (FP.fdiv (FP.i2f (nI a)) (FP.i2f (nI b)))) := by
  obtain ⟨k, rfl⟩ : ∃ k, b = k + 1 := ⟨b - 1, by omega⟩
  exact (f2d_nn1 ⟨a, by omega⟩ ⟨k, by omega⟩).1
theorem f2d_c0 : Op.cmpValue (FP.dcmp (FP.f2d FP.fconst0) (FP.f2d FP.fconst0)) .l = 0 := by decide +kernel
theorem f2d_cc (a b : Nat) (ha : a ≤ 60) (hb : b ≤ 60) (h0 : b ≠ 0) : Op.cmpValue (FP.dcmp (FP.f2d (FP.fdiv (FP.i2f (nI a)) (FP.i2f (nI b)))) (FP.f2d (FP.fdiv (FP.i2f (nI a)) (FP.i2f (nI b))))) .l = 0 := by
  obtain ⟨k, rfl⟩ : ∃ k, b = k + 1 := ⟨b - 1, by omega⟩
  exact (f2d_nn1 ⟨a, by omega⟩ ⟨k, by omega⟩).2
