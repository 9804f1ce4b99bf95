/-! what holds between the law's steps -/
def f0 : Nat → Nat := fun _ => 0
def GI (σ : ST) (g : Nat → Nat) : Prop := ∀ j, g j < 2 ∧ (j < σ 1 0 → (g j = 0 ↔ σ 4 j ≠ 0)) ∧ (σ 1 0 ≤ j → g j = 0)
def CK (σ κ : ST) (bc wc n f : Nat) : Prop := JC σ κ ∧ κ 0 5 = f ∧ κ 0 3 ≤ n ∧ bc = κ 0 0 ∧ wc = κ 0 1
def LI (n : Nat) (σ : ST) (K : Nat → ST) (g b w : Nat → Nat) (st M bx F : Nat) (fl : Nat → Nat) : Prop := JS σ ∧ SN σ st M bx F ∧ bx < 6 ∧ σ 7 0 ≤ 2 * n ∧ GI σ g ∧ ∀ c, c < 2 → CK σ (K c) (b c) (w c) n (fl c)
theorem CK_up {σ σ' κ : ST} {bc wc n f : Nat} (h : CK σ κ bc wc n f) (h7 : σ 7 0 ≤ σ' 7 0) : CK σ' κ bc wc (n + 1) f := ⟨JC_up h.1 h7, h.2.1, Nat.le_succ_of_le h.2.2.1, h.2.2.2.1, h.2.2.2.2⟩
theorem LI_srv {n : Nat} {σ σ' : ST} {K : Nat → ST} {g g' b w : Nat → Nat} {st M bx F : Nat} {fl : Nat → Nat} (I : LI n σ K g b w st M bx F fl) (J' : JS σ') (S' : SN σ' st M bx F) (h1 : σ 7 0 ≤ σ' 7 0) (h2 : σ' 7 0 ≤ σ 7 0 + 2) (G' : GI σ' g') : LI (n + 1) σ' K g' b w st M bx F fl := by
  obtain ⟨-, -, hb, h7, -, CC⟩ := I
  exact ⟨J', S', hb, by omega, G', fun c hc => CK_up (CC c hc) h1⟩
theorem LI_up {n : Nat} {σ : ST} {K : Nat → ST} {g b w : Nat → Nat} {st M bx F : Nat} {fl : Nat → Nat} (I : LI n σ K g b w st M bx F fl) : LI (n + 1) σ K g b w st M bx F fl := LI_srv I I.1 I.2.1 (Nat.le_refl _) (by omega) I.2.2.2.2.1
theorem LI_add {n t b0 th : Nat} {σ : ST} {K : Nat → ST} {g b w : Nat → Nat} {st M bx F : Nat} {fl : Nat → Nat} (I : LI n σ K g b w st M bx F fl) (hn : n < 90) (hc : σ 1 0 < 60) (ht : t < 20000) (hth : th < 20000) (hb1 : 1 ≤ b0) (hb2 : b0 < 64) : LI (n + 1) (lc σ t b0 th) K g b w st M bx F fl := by
  have h7 := I.2.2.2.1
  refine LI_srv I (JS_lc I.1 hc ht hth hb2 (by omega)) (SN_lc I.2.1) (Nat.le_succ (σ 7 0)) (Nat.le_succ (σ 7 0 + 1)) (fun j => ?_)
  obtain ⟨g1, g2, g3⟩ := I.2.2.2.2.1 j
  have e1 : lc σ t b0 th 1 0 = σ 1 0 + 1 := rfl
  have e4 : lc σ t b0 th 4 = upN (σ 4) (σ 1 0) b0 := rfl
  rw [e1, e4]
  refine ⟨g1, fun h => ?_, fun h => g3 (by omega)⟩
  by_cases q : j = σ 1 0
  · subst q
    rw [upN_same]
    exact ⟨fun _ => by omega, fun _ => g3 (Nat.le_refl _)⟩
  · rw [upN_ne _ q]; exact g2 (by omega)
theorem GI_mv {σ : ST} {g : Nat → Nat} {j b0 : Nat} (G : GI σ g) (hg : g j = 0) (hb1 : 1 ≤ b0) : GI (mv σ j b0) g := fun i => by
  obtain ⟨g1, g2, g3⟩ := G i
  obtain ⟨m1, m2, -⟩ := mv_f (σ := σ) (j := j) (b := b0)
  rw [m1, m2]
  refine ⟨g1, fun h => ?_, g3⟩
  by_cases q : i = j
  · subst q; rw [upN_same]; exact ⟨fun _ => by omega, fun _ => hg⟩
  · rw [upN_ne _ q]; exact g2 h
theorem LI_move {n j b0 : Nat} {σ : ST} {K : Nat → ST} {g b w : Nat → Nat} {st M bx F : Nat} {fl : Nat → Nat} (I : LI n σ K g b w st M bx F fl) (hn : n < 90) (hj : j < σ 1 0) (hg : g j = 0) (hb1 : 1 ≤ b0) (hb2 : b0 < 64) : LI (n + 1) (mv (mv σ j b0) j b0) K g b w st M bx F fl := by
  have h7 := I.2.2.2.1
  obtain ⟨m1, m2, m3, m4, m5⟩ := mv_f (σ := σ) (j := j) (b := b0)
  obtain ⟨k1, k2, k3, k4, k5⟩ := mv_f (σ := mv σ j b0) (j := j) (b := b0)
  have J1 := JS_mv I.1 hj hb2 (by omega)
  exact LI_srv I (JS_mv J1 (by omega) hb2 (by omega)) (SN_mv (SN_mv I.2.1)) (by omega) (by omega) (GI_mv (GI_mv I.2.2.2.2.1 hg hb1) hg hb1)
theorem GI_sk {σ : ST} {g : Nat → Nat} {j k w0 : Nat} (G : GI σ g) : GI (sk σ j k w0) g := fun i => by
  obtain ⟨m1, m2, -⟩ := sk_f (σ := σ) (j := j) (k := k) (w := w0)
  rw [m1, m2]
  exact G i
theorem LI_flag {n j k w0 : Nat} {σ : ST} {K : Nat → ST} {g b w : Nat → Nat} {st M bx F : Nat} {fl : Nat → Nat} (I : LI n σ K g b w st M bx F fl) (hn : n < 90) (hj : j < σ 1 0) (hk : k < 4) : LI (n + 1) (sk (sk σ j k w0) j k w0) K g b w st M bx F fl := by
  have h7 := I.2.2.2.1
  obtain ⟨m1, m2, m4, m5⟩ := sk_f (σ := σ) (j := j) (k := k) (w := w0)
  obtain ⟨k1, k2, k4, k5⟩ := sk_f (σ := sk σ j k w0) (j := j) (k := k) (w := w0)
  have J1 := JS_sk (w := w0) I.1 hj hk (by omega)
  exact LI_srv I (JS_sk J1 (by omega) hk (by omega)) (SN_sk (SN_sk I.2.1)) (by omega) (by omega) (GI_sk (GI_sk I.2.2.2.2.1))
theorem LI_destroy {n j : Nat} {σ : ST} {K : Nat → ST} {g b w : Nat → Nat} {st M bx F : Nat} {fl : Nat → Nat} (I : LI n σ K g b w st M bx F fl) (hn : n < 90) (hj : j < σ 1 0) : LI (n + 1) (chg σ j 0 (σ 5 j)) K (upN g j 1) b w st M bx F fl := by
  have h7 := I.2.2.2.1
  refine LI_srv I (JS_chg I.1 hj (by decide) (I.1.2.2.2.1 j) (by omega)) (SN_chg I.2.1) (Nat.le_succ (σ 7 0)) (Nat.le_succ (σ 7 0 + 1)) (fun i => ?_)
  obtain ⟨g1, g2, g3⟩ := I.2.2.2.2.1 i
  have e1 : chg σ j 0 (σ 5 j) 1 0 = σ 1 0 := rfl
  have e4 : chg σ j 0 (σ 5 j) 4 = upN (σ 4) j 0 := rfl
  rw [e1, e4]
  by_cases q : i = j
  · subst q
    rw [upN_same, upN_same]
    exact ⟨by decide, fun _ => ⟨fun h => absurd h (by decide), fun h => absurd rfl h⟩, fun h => by omega⟩
  · rw [upN_ne _ q, upN_ne _ q]; exact ⟨g1, g2, g3⟩
theorem LI_snap {n : Nat} {σ : ST} {K : Nat → ST} {g b w : Nat → Nat} {st M bx F bx' : Nat} {fl : Nat → Nat} (I : LI n σ K g b w st M bx F fl) (hb : bx' < 6) : LI (n + 1) σ K g b w (σ 7 0) (cnt (pw σ 63 0) 60) bx' (cnt (pw σ (2 ^ bx') 0) 60) fl := by
  obtain ⟨J, -, -, h7, G, CC⟩ := I
  exact ⟨J, SN_now σ bx', hb, by omega, G, fun c hc => CK_up (CC c hc) (Nat.le_refl _)⟩
theorem LI_watch {n cl b0 wd : Nat} {σ : ST} {K : Nat → ST} {g b w : Nat → Nat} {st M bx F : Nat} {fl : Nat → Nat} (I : LI n σ K g b w st M bx F fl) (hb : b0 < 6) (hw : wd ≤ 10) : LI n σ (upK K cl (sv (sv (K cl) 0 0 b0) 0 1 wd)) g (upN b cl b0) (upN w cl wd) st M bx F fl := by
  obtain ⟨J, S, hbx, h7, G, CC⟩ := I
  refine ⟨J, S, hbx, h7, G, fun c hc => ?_⟩
  by_cases q : c = cl
  · subst q
    rw [upK_same, upN_same, upN_same]
    obtain ⟨⟨c1, c2, c3, c4, c5, c6⟩, d2, d3, -, -⟩ := CC c hc
    exact ⟨⟨⟨c1.1, c1.2.1, c1.2.2.1, c1.2.2.2.1, c1.2.2.2.2.1, sv_lt (sv_lt c1.2.2.2.2.2 (by omega)) (by omega)⟩, hb, hw, c4, c5, c6⟩, d2, d3, rfl, rfl⟩
  · rw [upK_ne _ q, upN_ne _ q, upN_ne _ q]; exact CC c hc
theorem LI_off {n cl i k w0 : Nat} {σ : ST} {K : Nat → ST} {g b w : Nat → Nat} {st M bx F : Nat} {fl : Nat → Nat} (I : LI n σ K g b w st M bx F fl) (hcl : cl < 2) (hi : i < 10) (hk : k < 4) (hw : w0 < 2) (hf : fl cl < 10) : LI n σ (upK K cl (nte (K cl) i k w0)) g b w st M bx F (upN fl cl (fl cl + 1)) := by
  obtain ⟨J, S, hbx, h7, G, CC⟩ := I
  refine ⟨J, S, hbx, h7, G, fun c hc => ?_⟩
  by_cases q : c = cl
  · subst q
    rw [upK_same, upN_same]
    obtain ⟨d1, d2, d3, d4, d5⟩ := CC c hc
    exact ⟨JC_nte d1 hi hk hw (by rw [d2]; exact hf), by show K c 0 5 + 1 = _; rw [d2], d3, d4, d5⟩
  · rw [upK_ne _ q, upN_ne _ q]; exact CC c hc
theorem LI_sync {n cl : Nat} {σ : ST} {K : Nat → ST} {g b w : Nat → Nat} {st M bx F : Nat} {fl : Nat → Nat} (I : LI n σ K g b w st M bx F fl) (hn : n < 90) (hcl : cl < 2) (hz : ∀ c, c ≠ cl → fl c = 0) (h2 : fl cl ≤ 2) : LI (n + 1) (syS σ (syK σ (K cl))) (upK K cl (syD σ (syK σ (K cl)))) g b w st M bx F f0 ∧ Fresh (syS σ (syK σ (K cl))) (upK K cl (syD σ (syK σ (K cl))) cl) ∧ syS σ (syK σ (K cl)) 1 0 = σ 1 0 := by
  obtain ⟨J, S, hbx, h7, G, CC⟩ := I
  obtain ⟨d1, d2, d3, d4, d5⟩ := CC cl hcl
  obtain ⟨k1, k2, k3, k4, k5, k6⟩ := syK_f (σ := σ) d1.1 (by omega)
  obtain ⟨-, ⟨r1, r2, r3, r4, r5, r6⟩, p3, p4, p5, p6, p7, p8⟩ := sync_pre J k1 (by rw [k2]; exact d1.2.1) (by rw [k3]; exact d1.2.2.1) (by rw [k5, d2]; omega) (by omega)
  refine ⟨⟨r1, r6 _ _ _ _ S, hbx, by omega, fun i => ?_, fun c hc => ?_⟩, by rw [upK_same]; exact p4, r2⟩
  · rw [r2, r3]; exact G i
  · by_cases q : c = cl
    · subst q
      rw [upK_same]
      exact ⟨p3, p8, by omega, by rw [p5, k2]; exact d4, by rw [p6, k3]; exact d5⟩
    · rw [upK_ne _ q]
      obtain ⟨e1, e2, e3, e4, e5⟩ := CC c hc
      exact ⟨JC_up e1 r4, by rw [e2]; exact hz c q, by omega, e4, e5⟩
theorem f0_z (cl k c : Nat) (h : c ≠ cl) : upN f0 cl k c = 0 := upN_ne _ h
theorem kz_JC : JC z0 kz := by
  refine ⟨⟨fun i => by show (0 : Nat) < 60; decide, fun i => by show (0 : Nat) < 4; decide, fun i => by show (0 : Nat) < 2; decide, fun i => by show (0 : Nat) < 60; decide, fun i => by show (0 : Nat) < 16; decide, sv_lt (fun _ _ => by show (0 : Nat) < 1073741824; decide) (by decide)⟩, by show (0 : Nat) < 6; decide, by show (5 : Nat) ≤ 10; decide, by show (0 : Nat) ≤ 0; decide, by show (0 : Nat) ≤ 10; decide, fun i j _ h => absurd h (Nat.not_lt_zero _)⟩
theorem JS_z0 : JS z0 := ⟨by show (0 : Nat) ≤ 60; decide, fun _ _ => ⟨rfl, rfl⟩, fun _ => by show (0 : Nat) < 64; decide, fun _ => by show (0 : Nat) < 16; decide, fun _ => by show (0 : Nat) < 60; decide, fun _ => by show (0 : Nat) < 60; decide, fun _ => rfl, fun _ _ => by show (0 : Nat) < 20000; decide⟩
theorem pw_z0 (a l : Nat) : cnt (pw z0 a l) 60 = 0 := cnt_none (fun j _ => mt_z)
theorem LI_0 : LI 0 z0 (fun _ => kz) (fun _ => 0) (fun _ => 0) (upN (upN (fun _ => 0) 0 5) 1 5) 0 0 0 0 f0 := by
  refine ⟨JS_z0, ?_, by decide, Nat.le_refl _, fun j => ⟨by show (0 : Nat) < 2; decide, fun h => absurd h (Nat.not_lt_zero j), fun _ => rfl⟩, fun c hc => ?_⟩
  · have h := SN_now z0 0
    rw [pw_z0, pw_z0] at h
    exact h
  · rcases (show c = 0 ∨ c = 1 by omega) with rfl | rfl
    · exact ⟨kz_JC, rfl, Nat.le_refl _, rfl, rfl⟩
    · exact ⟨kz_JC, rfl, Nat.le_refl _, rfl, rfl⟩
