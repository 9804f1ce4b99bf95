theorem sims_all : ∃ Inv : Nat → ST → ST → ST → ST → Prop, Sims Inv ∧ Inv 0 z0 kz kz muz := sorry
