theorem tq_1 {w : Cond} (h : w ∈ tables_1_1) : w ∈ lw_tbl := List.mem_append_right _ (show w ∈ tables_1_1 ++ (tables_1_2 ++ tables_1_3) from List.mem_append_left _ h)
theorem tq_2 {w : Cond} (h : w ∈ tables_1_2) : w ∈ lw_tbl := List.mem_append_right _ (show w ∈ tables_1_1 ++ (tables_1_2 ++ tables_1_3) from List.mem_append_right _ (List.mem_append_left _ h))
theorem tq_3 {w : Cond} (h : w ∈ tables_1_3) : w ∈ lw_tbl := List.mem_append_right _ (show w ∈ tables_1_1 ++ (tables_1_2 ++ tables_1_3) from List.mem_append_right _ (List.mem_append_right _ h))
set_option maxHeartbeats 4000000 in
set_option maxRecDepth 100000 in
theorem start_EX {args : Array Value} {s : State} (hts : ∀ w ∈ lw_tbl, w.before args s = true) (sa : Nat → Nat) : EX sa s := ⟨⟨va_Nw.of rfl (hts _ (tq_1 (List.mem_of_getElem? (i := 38) rfl))), va_Nw.of rfl (hts _ (tq_1 (List.mem_of_getElem? (i := 39) rfl))), va_Nw.of rfl (hts _ (tq_1 (List.mem_of_getElem? (i := 58) rfl))), va_Nw.of rfl (hts _ (tq_1 (List.mem_of_getElem? (i := 59) rfl))), va_Nw.of rfl (hts _ (tq_1 (List.mem_of_getElem? (i := 60) rfl))), va_Nw.of rfl (hts _ (tq_1 (List.mem_of_getElem? (i := 84) rfl))), va_Nw.of rfl (hts _ (tq_1 (List.mem_of_getElem? (i := 86) rfl))), va_Nw.of rfl (hts _ (tq_1 (List.mem_of_getElem? (i := 88) rfl))), va_Nw.of rfl (hts _ (tq_1 (List.mem_of_getElem? (i := 89) rfl)))⟩, ⟨va_Nw.of rfl (hts _ (tq_1 (List.mem_of_getElem? (i := 91) rfl))), va_Nw.of rfl (hts _ (tq_1 (List.mem_of_getElem? (i := 93) rfl))), va_Nw.of rfl (hts _ (tq_1 (List.mem_of_getElem? (i := 95) rfl))), va_Nw.of rfl (hts _ (tq_1 (List.mem_of_getElem? (i := 100) rfl))), va_Nw.of rfl (hts _ (tq_2 (List.mem_of_getElem? (i := 7) rfl))), va_Nw.of rfl (hts _ (tq_2 (List.mem_of_getElem? (i := 73) rfl))), va_Nw.of rfl (hts _ (tq_2 (List.mem_of_getElem? (i := 98) rfl))), va_Nw.of rfl (hts _ (tq_2 (List.mem_of_getElem? (i := 152) rfl))), va_Nw.of rfl (hts _ (tq_2 (List.mem_of_getElem? (i := 188) rfl)))⟩, ⟨va_Nw.of rfl (hts _ (tq_2 (List.mem_of_getElem? (i := 207) rfl))), va_Nw.of rfl (hts _ (tq_3 (List.mem_of_getElem? (i := 43) rfl))), va_Nw.of rfl (hts _ (tq_3 (List.mem_of_getElem? (i := 44) rfl)))⟩⟩
theorem st_arrI {args : Array Value} {s : State} (h : (Cond.arrayClass .int).before args s = true) : ∃ cA : ClassId, ArrOfT s cA .int ∧ va_RA s cA .int := by
  obtain ⟨cA, kA, comp, h1, h2, h3⟩ := Cond.arrayClass_spec h
  exact ⟨cA, fun n z => ⟨fun k h => (by cases h), kA, h2, comp, h3⟩, h1⟩
theorem st_arrZ {args : Array Value} {s : State} (h : (Cond.arrayClass .boolean).before args s = true) : ∃ cA : ClassId, ArrOfT s cA .boolean ∧ va_RA s cA .boolean := by
  obtain ⟨cA, kA, comp, h1, h2, h3⟩ := Cond.arrayClass_spec h
  exact ⟨cA, fun n z => ⟨fun k h => (by cases h), kA, h2, comp, h3⟩, h1⟩
theorem start_K {args : Array Value} {s : State} (htA : ∀ w ∈ WA, w.before args s = true) : ∃ (D : va_G) (cI cZ : ClassId), va_K D vwCl (tyA cI cZ) s := by
  obtain ⟨c0, i0, k0⟩ := u_known (C := RX0) (T := TX0) (N := 5) (n := 5) htA uwX0 (htA _ wd_28)
  obtain ⟨c1, i1, k1⟩ := u_known (C := RX1) (T := TX1) (N := 11) (n := 11) htA uwX1 (htA _ wd_78)
  obtain ⟨c2, i2, k2⟩ := u_known (C := RX2) (T := TX2) (N := 7) (n := 7) htA uwX2 (htA _ wd_22)
  obtain ⟨c3, i3, k3⟩ := u_known (C := RX3) (T := TX3) (N := 3) (n := 3) htA uwX3 (htA _ wd_14)
  obtain ⟨cI, aI⟩ := st_arrI (htA _ wd_51)
  obtain ⟨cZ, aZ⟩ := st_arrZ (htA _ wd_124)
  obtain ⟨dC, dI, hKc⟩ : ∃ (dC : Nat → ClassId) (dI : Nat → Nat → Nat), ∀ (k : Nat) (q : vw_C), vwCl[k]? = some q → u_Kn s q.1 q.2.1 q.2.2 (dC k) (dI k) := by
    refine ⟨fun k => match k with | 0 => c0 | 1 => c1 | 2 => c2 | _ => c3, fun k => match k with | 0 => i0 | 1 => i1 | 2 => i2 | _ => i3, ?_⟩
    intro k q hq
    match k, hq with
    | 0, hq => cases hq; exact k0
    | 1, hq => cases hq; exact k1
    | 2, hq => cases hq; exact k2
    | 3, hq => cases hq; exact k3
    | k + 4, hq => exact absurd hq (by simp)
  refine ⟨(dC, dI), cI, cZ, ⟨hKc, ?_⟩⟩
  intro k q hq
  match k, hq with
  | 0, hq => cases hq; exact aI
  | 1, hq => cases hq; exact aZ
  | k + 2, hq => exact absurd hq (by simp)
