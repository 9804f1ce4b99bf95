/-! the calls, one by one -/
set_option maxHeartbeats 4000000 in
theorem sm_add : Sm_s_add Inv9 := by
  intro n σ κ0 κ1 μ hn hI a1 a2 a3 g
  obtain ⟨I, hB, hBm, hm0, hs9, e1, e7, h15, h60⟩ := Inv_f hI hn
  have hs8 : μ 0 1 ≤ 2048 := Nat.le_of_lt (Nat.lt_trans hs9 (by decide))
  have hs7 : μ 0 1 < 2048 := Nat.lt_trans hs9 (by decide)
  cases hbad : (iw a1 (nI 0) (nI 9999) && iw a2 (nI 1) (nI 63) && iw a3 (nI 0) (nI 9))
  · exact ⟨σ, κ0, κ1, sv μ 0 2 1, 1, fun g => g, fun g => g, nI 0, ⟨({ frames := 7, cells := 1, slots := 6, locals := 137 } : Room), rfl, rfl, by decide, by decide, fun l D cI cZ cL cD sa q qo qd g gd A hst hD => w_add_bad l D cI cZ cL cD sa q qo qd σ κ0 κ1 g gd A hD hst a1 a2 a3 hbad⟩, ⟨({ frames := 1, cells := 0, slots := 0, locals := 22 } : Room), rfl, rfl, by decide, by decide, fun l D cI cZ sa q A hD => r_add_bad l D cI cZ sa q μ a1 a2 a3 A hD hbad⟩, rfl, by decide, fun h => absurd h (by decide), Inv_th 1 hI (by decide)⟩
  · simp only [Bool.and_eq_true] at hbad
    obtain ⟨⟨x1, x2⟩, x3⟩ := hbad
    obtain ⟨t, -, t2, rfl⟩ := iw_of (by decide) (by decide) x1
    obtain ⟨b, b1, b2, rfl⟩ := iw_of (by decide) (by decide) x2
    obtain ⟨th, -, th2, rfl⟩ := iw_of (by decide) (by decide) x3
    rcases Nat.lt_or_ge (μ 0 0) 60 with hc | hc
    · exact ⟨lc σ t b th, κ0, κ1, ada μ t b th, 0, fun g => gu g ((nI (σ 1 0)).toInt64), fun g => g, nI (μ 0 0), ⟨({ frames := 7, cells := 1, slots := 6, locals := 137 } : Room), rfl, rfl, by decide, by decide, fun l D cI cZ cL cD sa q qo qd g gd A hst hD => w_add_ok l D cI cZ cL cD sa q qo qd σ κ0 κ1 g gd A hD t b th hB t2 b1 b2 th2 (by rw [e1]; exact hc) h60 (by rw [e1]; exact ((I.2.1 _).2.1 (Nat.le_refl _)).1)⟩, ⟨({ frames := 1, cells := 0, slots := 0, locals := 24 } : Room), rfl, rfl, by decide, by decide, fun l D cI cZ sa q A hD => r_add_ok l D cI cZ sa q μ t b th A hD hBm hm0 t2 b1 b2 th2 hc hs7⟩, rfl, by decide, fun _ => (gu_at _ _).trans (by rw [e1]), Inv_srv hI (IS_add I hc b1 (by omega) t2 th2 (by omega)) (Nat.le_succ _) (Nat.le_succ _) (Nat.le_refl _) (fun r hr => ada_hi hr)⟩
    · exact ⟨σ, κ0, κ1, sv μ 0 2 2, 2, fun g => g, fun g => g, nI 0, ⟨({ frames := 7, cells := 1, slots := 6, locals := 137 } : Room), rfl, rfl, by decide, by decide, fun l D cI cZ cL cD sa q qo qd g gd A hst hD => w_add_full l D cI cZ cL cD sa q qo qd σ κ0 κ1 g gd A hD hst t b th hB t2 b1 b2 th2 (by rw [e1]; exact hc)⟩, ⟨({ frames := 1, cells := 0, slots := 0, locals := 22 } : Room), rfl, rfl, by decide, by decide, fun l D cI cZ sa q A hD => r_add_full l D cI cZ sa q μ t b th A hD hBm hm0 t2 b1 b2 th2 (Nat.le_antisymm hm0 hc)⟩, rfl, by decide, fun h => absurd h (by decide), Inv_th 2 hI (by decide)⟩
set_option maxHeartbeats 4000000 in
theorem sm_move : Sm_s_move Inv9 := by
  intro n σ κ0 κ1 μ hn hI a1 a2 g
  obtain ⟨I, hB, hBm, hm0, hs9, e1, e7, h15, h60⟩ := Inv_f hI hn
  have hs8 : μ 0 1 ≤ 2048 := Nat.le_of_lt (Nat.lt_trans hs9 (by decide))
  have hs7 : μ 0 1 < 2048 := Nat.lt_trans hs9 (by decide)
  rcases mail_cases I a1 with ⟨x1, x2⟩ | ⟨j, j1, rfl, j4, x2⟩ | ⟨j, j1, rfl, j4, j6⟩ | ⟨j, j1, rfl, j4, j6⟩
  · exact ⟨σ, κ0, κ1, sv μ 0 2 1, 1, fun g => g, fun g => g, nI 0, ⟨({ frames := 8, cells := 1, slots := 6, locals := 125 } : Room), rfl, rfl, by decide, by decide, fun l D cI cZ cL cD sa q qo qd g gd A hst hD => w_move_nr l D cI cZ cL cD sa q qo qd σ κ0 κ1 g gd A hD hst a1 a2 hB x1⟩, ⟨({ frames := 2, cells := 0, slots := 0, locals := 43 } : Room), rfl, rfl, by decide, by decide, fun l D cI cZ sa q A hD => r_move_nr l D cI cZ sa q μ a1 a2 A hD x2⟩, rfl, by decide, fun h => absurd h (by decide), Inv_th 1 hI (by decide)⟩
  · exact ⟨σ, κ0, κ1, sv μ 0 2 1, 1, fun g => g, fun g => g, nI 0, ⟨({ frames := 8, cells := 1, slots := 6, locals := 125 } : Room), rfl, rfl, by decide, by decide, fun l D cI cZ cL cD sa q qo qd g gd A hst hD => w_move_nz l D cI cZ cL cD sa q qo qd σ κ0 κ1 g gd A hD hst j a2 hB j1 j4⟩, ⟨({ frames := 2, cells := 0, slots := 0, locals := 43 } : Room), rfl, rfl, by decide, by decide, fun l D cI cZ sa q A hD => r_move_nr l D cI cZ sa q μ (nI j) a2 A hD x2⟩, rfl, by decide, fun h => absurd h (by decide), Inv_th 1 hI (by decide)⟩
  · exact ⟨σ, κ0, κ1, sv μ 0 2 1, 1, fun g => g, fun g => g, nI 0, ⟨({ frames := 8, cells := 1, slots := 6, locals := 125 } : Room), rfl, rfl, by decide, by decide, fun l D cI cZ cL cD sa q qo qd g gd A hst hD => w_move_nz l D cI cZ cL cD sa q qo qd σ κ0 κ1 g gd A hD hst j a2 hB (by omega) j4⟩, ⟨({ frames := 2, cells := 0, slots := 0, locals := 43 } : Room), rfl, rfl, by decide, by decide, fun l D cI cZ sa q A hD => r_move_nz l D cI cZ sa q μ j a2 A hD hBm hm0 j1 j6⟩, rfl, by decide, fun h => absurd h (by decide), Inv_th 1 hI (by decide)⟩
  · have jm : j < 60 := by omega
    obtain ⟨-, -, q4, q1⟩ := (I.2.1 j).1 j1
    rw [if_pos j6] at q4
    cases hbad : iw a2 (nI 1) (nI 63)
    · exact ⟨σ, κ0, κ1, sv μ 0 2 2, 2, fun g => g, fun g => g, nI 0, ⟨({ frames := 8, cells := 1, slots := 6, locals := 125 } : Room), rfl, rfl, by decide, by decide, fun l D cI cZ cL cD sa q qo qd g gd A hst hD => w_move_bad l D cI cZ cL cD sa q qo qd σ κ0 κ1 g gd A hD hst j a2 hB jm j4 hbad⟩, ⟨({ frames := 2, cells := 0, slots := 0, locals := 43 } : Room), rfl, rfl, by decide, by decide, fun l D cI cZ sa q A hD => r_move_bad l D cI cZ sa q μ j a2 A hD hBm hm0 j1 j6 hbad⟩, rfl, by decide, fun h => absurd h (by decide), Inv_th 2 hI (by decide)⟩
    · obtain ⟨b, b1, b2, rfl⟩ := iw_of (by decide) (by decide) hbad
      by_cases he : μ 2 j = b
      · exact ⟨σ, κ0, κ1, sv μ 0 2 0, 0, fun g => gu g ((nI (σ 4 j)).toInt64), fun g => g, nI (μ 2 j), ⟨({ frames := 8, cells := 1, slots := 6, locals := 125 } : Room), rfl, rfl, by decide, by decide, fun l D cI cZ cL cD sa q qo qd g gd A hst hD => w_move_s l D cI cZ cL cD sa q qo qd σ κ0 κ1 g gd A hD j b hB jm j4 b1 b2 (by rw [q4]; exact he)⟩, ⟨({ frames := 2, cells := 0, slots := 0, locals := 43 } : Room), rfl, rfl, by decide, by decide, fun l D cI cZ sa q A hD => r_move_s l D cI cZ sa q μ j b A hD hBm hm0 j1 j6 b1 b2 he⟩, rfl, by decide, fun _ => (gu_at _ _).trans (by rw [q4]), Inv_th 0 hI (by decide)⟩
      · exact ⟨chg σ j b (σ 5 j), κ0, κ1, su (nts (sv μ 0 2 0) 1 j 0 0) 2 (upN (μ 2) j b), 0, fun g => gu g ((nI (σ 4 j)).toInt64), fun g => g, nI (μ 2 j), ⟨({ frames := 8, cells := 1, slots := 6, locals := 125 } : Room), rfl, rfl, by decide, by decide, fun l D cI cZ cL cD sa q qo qd g gd A hst hD => w_move_d l D cI cZ cL cD sa q qo qd σ κ0 κ1 g gd A hD j b hB jm j4 b1 b2 (by rw [q4]; exact he)⟩, ⟨({ frames := 2, cells := 0, slots := 0, locals := 43 } : Room), rfl, rfl, by decide, by decide, fun l D cI cZ sa q A hD => r_move_d l D cI cZ sa q μ j b A hD hBm hm0 j1 j6 b1 b2 jm hs7 he⟩, rfl, by decide, fun _ => (gu_at _ _).trans (by rw [q4]), Inv_srv hI (IS_move I j1 j6 b1 (by omega) (by omega)) (Nat.le_refl _) (Nat.le_succ _) (Nat.le_refl _) (fun r hr => by rw [su_ne (by omega), nts_hi hr, sv_ne (by omega)])⟩
set_option maxHeartbeats 4000000 in
theorem sm_flag : Sm_s_flag Inv9 := by
  intro n σ κ0 κ1 μ hn hI a1 a2 w3 g
  obtain ⟨I, hB, hBm, hm0, hs9, e1, e7, h15, h60⟩ := Inv_f hI hn
  have hs8 : μ 0 1 ≤ 2048 := Nat.le_of_lt (Nat.lt_trans hs9 (by decide))
  have hs7 : μ 0 1 < 2048 := Nat.lt_trans hs9 (by decide)
  rw [b2i_n w3]
  rcases mail_cases I a1 with ⟨x1, x2⟩ | ⟨j, j1, rfl, j4, x2⟩ | ⟨j, j1, rfl, j4, j6⟩ | ⟨j, j1, rfl, j4, j6⟩
  · exact ⟨σ, κ0, κ1, sv μ 0 2 1, 1, fun g => g, fun g => g, false, ⟨({ frames := 8, cells := 1, slots := 6, locals := 136 } : Room), rfl, rfl, by decide, by decide, fun l D cI cZ cL cD sa q qo qd g gd A hst hD => w_flag_nr l D cI cZ cL cD sa q qo qd σ κ0 κ1 g gd A hD hst a1 a2 (b2n w3) hB x1⟩, ⟨({ frames := 2, cells := 0, slots := 0, locals := 43 } : Room), rfl, rfl, by decide, by decide, fun l D cI cZ sa q A hD => r_flag_nr l D cI cZ sa q μ a1 a2 (b2n w3) A hD x2⟩, rfl, by decide, fun h => absurd h (by decide), Inv_th 1 hI (by decide)⟩
  · exact ⟨σ, κ0, κ1, sv μ 0 2 1, 1, fun g => g, fun g => g, false, ⟨({ frames := 8, cells := 1, slots := 6, locals := 136 } : Room), rfl, rfl, by decide, by decide, fun l D cI cZ cL cD sa q qo qd g gd A hst hD => w_flag_nz l D cI cZ cL cD sa q qo qd σ κ0 κ1 g gd A hD hst j a2 (b2n w3) hB j1 j4⟩, ⟨({ frames := 2, cells := 0, slots := 0, locals := 43 } : Room), rfl, rfl, by decide, by decide, fun l D cI cZ sa q A hD => r_flag_nr l D cI cZ sa q μ (nI j) a2 (b2n w3) A hD x2⟩, rfl, by decide, fun h => absurd h (by decide), Inv_th 1 hI (by decide)⟩
  · exact ⟨σ, κ0, κ1, sv μ 0 2 1, 1, fun g => g, fun g => g, false, ⟨({ frames := 8, cells := 1, slots := 6, locals := 136 } : Room), rfl, rfl, by decide, by decide, fun l D cI cZ cL cD sa q qo qd g gd A hst hD => w_flag_nz l D cI cZ cL cD sa q qo qd σ κ0 κ1 g gd A hD hst j a2 (b2n w3) hB (by omega) j4⟩, ⟨({ frames := 2, cells := 0, slots := 0, locals := 43 } : Room), rfl, rfl, by decide, by decide, fun l D cI cZ sa q A hD => r_flag_nz l D cI cZ sa q μ j a2 (b2n w3) A hD hBm hm0 j1 j6⟩, rfl, by decide, fun h => absurd h (by decide), Inv_th 1 hI (by decide)⟩
  · have jm : j < 60 := by omega
    cases hbad : iw a2 (nI 0) (nI 3)
    · exact ⟨σ, κ0, κ1, sv μ 0 2 2, 2, fun g => g, fun g => g, false, ⟨({ frames := 8, cells := 1, slots := 6, locals := 136 } : Room), rfl, rfl, by decide, by decide, fun l D cI cZ cL cD sa q qo qd g gd A hst hD => w_flag_bad l D cI cZ cL cD sa q qo qd σ κ0 κ1 g gd A hD hst j a2 (b2n w3) hB jm j4 hbad⟩, ⟨({ frames := 2, cells := 0, slots := 0, locals := 43 } : Room), rfl, rfl, by decide, by decide, fun l D cI cZ sa q A hD => r_flag_bad l D cI cZ sa q μ j a2 (b2n w3) A hD hBm hm0 j1 j6 hbad⟩, rfl, by decide, fun h => absurd h (by decide), Inv_th 2 hI (by decide)⟩
    · obtain ⟨k, -, k3, rfl⟩ := iw_of (by decide) (by decide) hbad
      have q5 : σ 5 j = μ 3 j := (I.2.1 j).2.2.1
      have q16 : μ 3 j < 16 := (I.2.1 j).2.2.2.2
      have hx : decide (σ 5 j = wn (σ 5 j) k (nb (b2n w3))) = decide (hs (μ 3 j) k = nb (b2n w3)) := by rw [q5]; exact wn_hs ⟨μ 3 j, q16⟩ ⟨k, by omega⟩ _
      have hIS := IS_flag (m := j) (k := k) (w := b2n w3) (IS_th (v := 0) I (by decide)) j1 j6 (by omega) (b2n_lt w3) (show μ 0 1 < 4000 by omega)
      by_cases he : hs (μ 3 j) k = nb (b2n w3)
      · have hfl : flw (sv μ 0 2 0) j k (b2n w3) = sv μ 0 2 0 := by unfold flw; rw [show decide (hs ((sv μ 0 2 0) 3 j) k = nb (b2n w3)) = true from decide_eq_true he]; rfl
        rw [hfl] at hIS
        exact ⟨sk σ j k (b2n w3), κ0, κ1, sv μ 0 2 0, 0, fun g => gu g (bl (!(decide (σ 5 j = wn (σ 5 j) k (nb (b2n w3)))))), fun g => g, false, ⟨({ frames := 8, cells := 1, slots := 6, locals := 136 } : Room), rfl, rfl, by decide, by decide, fun l D cI cZ cL cD sa q qo qd g gd A hst hD => w_flag_ok l D cI cZ cL cD sa q qo qd σ κ0 κ1 g gd A hD j k (b2n w3) hB jm j4 h15 (by omega) (b2n_lt w3)⟩, ⟨({ frames := 2, cells := 0, slots := 0, locals := 47 } : Room), rfl, rfl, by decide, by decide, fun l D cI cZ sa q A hD => r_flag_s l D cI cZ sa q μ j k (b2n w3) A hD hBm hm0 j1 j6 jm hs7 (b2n_lt w3) (by omega) (by omega) he⟩, rfl, by decide, fun _ => (gu_at _ _).trans (by rw [hx, decide_eq_true he]; rfl), Inv_srv hI hIS (Nat.le_refl _) (Nat.le_refl _) (Nat.le_succ _) (fun r hr => sv_ne (by omega))⟩
      · have hfl : flw (sv μ 0 2 0) j k (b2n w3) = fls (sv μ 0 2 0) j k (b2n w3) := by unfold flw; rw [show decide (hs ((sv μ 0 2 0) 3 j) k = nb (b2n w3)) = false from decide_eq_false he]; rfl
        rw [hfl] at hIS
        exact ⟨sk σ j k (b2n w3), κ0, κ1, fls (sv μ 0 2 0) j k (b2n w3), 0, fun g => gu g (bl (!(decide (σ 5 j = wn (σ 5 j) k (nb (b2n w3)))))), fun g => g, true, ⟨({ frames := 8, cells := 1, slots := 6, locals := 136 } : Room), rfl, rfl, by decide, by decide, fun l D cI cZ cL cD sa q qo qd g gd A hst hD => w_flag_ok l D cI cZ cL cD sa q qo qd σ κ0 κ1 g gd A hD j k (b2n w3) hB jm j4 h15 (by omega) (b2n_lt w3)⟩, ⟨({ frames := 2, cells := 0, slots := 0, locals := 47 } : Room), rfl, rfl, by decide, by decide, fun l D cI cZ sa q A hD => r_flag_d l D cI cZ sa q μ j k (b2n w3) A hD hBm hm0 j1 j6 jm hs7 (b2n_lt w3) (by omega) (by omega) he⟩, rfl, by decide, fun _ => (gu_at _ _).trans (by rw [hx, decide_eq_false he]; rfl), Inv_srv hI hIS (Nat.le_refl _) (Nat.le_succ _) (Nat.le_refl _) (fun r hr => by rw [← hfl, flw_hi hr, sv_ne (by omega)])⟩
set_option maxHeartbeats 4000000 in
theorem sm_flagIf : Sm_s_flagIf Inv9 := by
  intro n σ κ0 κ1 μ hn hI a1 a2 w3 a4 g
  obtain ⟨I, hB, hBm, hm0, hs9, e1, e7, h15, h60⟩ := Inv_f hI hn
  have hs8 : μ 0 1 ≤ 2048 := Nat.le_of_lt (Nat.lt_trans hs9 (by decide))
  have hs7 : μ 0 1 < 2048 := Nat.lt_trans hs9 (by decide)
  rw [b2i_n w3]
  rcases mail_cases I a1 with ⟨x1, x2⟩ | ⟨j, j1, rfl, j4, x2⟩ | ⟨j, j1, rfl, j4, j6⟩ | ⟨j, j1, rfl, j4, j6⟩
  · exact ⟨σ, κ0, κ1, sv μ 0 2 1, 1, fun g => g, fun g => g, false, ⟨({ frames := 8, cells := 1, slots := 6, locals := 137 } : Room), rfl, rfl, by decide, by decide, fun l D cI cZ cL cD sa q qo qd g gd A hst hD => w_flagIf_nr l D cI cZ cL cD sa q qo qd σ κ0 κ1 g gd A hD hst a1 a2 (b2n w3) a4 hB x1⟩, ⟨({ frames := 2, cells := 0, slots := 0, locals := 43 } : Room), rfl, rfl, by decide, by decide, fun l D cI cZ sa q A hD => r_flagIf_nr l D cI cZ sa q μ a1 a2 (b2n w3) a4 A hD x2⟩, rfl, by decide, fun h => absurd h (by decide), Inv_th 1 hI (by decide)⟩
  · exact ⟨σ, κ0, κ1, sv μ 0 2 1, 1, fun g => g, fun g => g, false, ⟨({ frames := 8, cells := 1, slots := 6, locals := 137 } : Room), rfl, rfl, by decide, by decide, fun l D cI cZ cL cD sa q qo qd g gd A hst hD => w_flagIf_nz l D cI cZ cL cD sa q qo qd σ κ0 κ1 g gd A hD hst j a2 (b2n w3) a4 hB j1 j4⟩, ⟨({ frames := 2, cells := 0, slots := 0, locals := 43 } : Room), rfl, rfl, by decide, by decide, fun l D cI cZ sa q A hD => r_flagIf_nr l D cI cZ sa q μ (nI j) a2 (b2n w3) a4 A hD x2⟩, rfl, by decide, fun h => absurd h (by decide), Inv_th 1 hI (by decide)⟩
  · exact ⟨σ, κ0, κ1, sv μ 0 2 1, 1, fun g => g, fun g => g, false, ⟨({ frames := 8, cells := 1, slots := 6, locals := 137 } : Room), rfl, rfl, by decide, by decide, fun l D cI cZ cL cD sa q qo qd g gd A hst hD => w_flagIf_nz l D cI cZ cL cD sa q qo qd σ κ0 κ1 g gd A hD hst j a2 (b2n w3) a4 hB (by omega) j4⟩, ⟨({ frames := 2, cells := 0, slots := 0, locals := 43 } : Room), rfl, rfl, by decide, by decide, fun l D cI cZ sa q A hD => r_flagIf_nz l D cI cZ sa q μ j a2 (b2n w3) a4 A hD hBm hm0 j1 j6⟩, rfl, by decide, fun h => absurd h (by decide), Inv_th 1 hI (by decide)⟩
  · have jm : j < 60 := by omega
    cases hbad : iw a2 (nI 0) (nI 3)
    · exact ⟨σ, κ0, κ1, sv μ 0 2 2, 2, fun g => g, fun g => g, false, ⟨({ frames := 8, cells := 1, slots := 6, locals := 137 } : Room), rfl, rfl, by decide, by decide, fun l D cI cZ cL cD sa q qo qd g gd A hst hD => w_flagIf_bad l D cI cZ cL cD sa q qo qd σ κ0 κ1 g gd A hD hst j a2 (b2n w3) a4 hB jm j4 hbad⟩, ⟨({ frames := 2, cells := 0, slots := 0, locals := 43 } : Room), rfl, rfl, by decide, by decide, fun l D cI cZ sa q A hD => r_flagIf_bad l D cI cZ sa q μ j a2 (b2n w3) a4 A hD hBm hm0 j1 j6 hbad⟩, rfl, by decide, fun h => absurd h (by decide), Inv_th 2 hI (by decide)⟩
    · obtain ⟨k, -, k3, rfl⟩ := iw_of (by decide) (by decide) hbad
      by_cases hz : a4 = nI (μ 0 1)
      · subst hz
        have q5 : σ 5 j = μ 3 j := (I.2.1 j).2.2.1
        have q16 : μ 3 j < 16 := (I.2.1 j).2.2.2.2
        have hx : decide (σ 5 j = wn (σ 5 j) k (nb (b2n w3))) = decide (hs (μ 3 j) k = nb (b2n w3)) := by rw [q5]; exact wn_hs ⟨μ 3 j, q16⟩ ⟨k, by omega⟩ _
        have hIS := IS_flag (m := j) (k := k) (w := b2n w3) (IS_th (v := 0) I (by decide)) j1 j6 (by omega) (b2n_lt w3) (show μ 0 1 < 4000 by omega)
        by_cases he : hs (μ 3 j) k = nb (b2n w3)
        · have hfl : flw (sv μ 0 2 0) j k (b2n w3) = sv μ 0 2 0 := by unfold flw; rw [show decide (hs ((sv μ 0 2 0) 3 j) k = nb (b2n w3)) = true from decide_eq_true he]; rfl
          rw [hfl] at hIS
          exact ⟨sk σ j k (b2n w3), κ0, κ1, sv μ 0 2 0, 0, fun g => gu g (bl (!(decide (σ 5 j = wn (σ 5 j) k (nb (b2n w3)))))), fun g => g, false, ⟨({ frames := 8, cells := 1, slots := 6, locals := 137 } : Room), rfl, rfl, by decide, by decide, fun l D cI cZ cL cD sa q qo qd g gd A hst hD => w_flagIf_ok l D cI cZ cL cD sa q qo qd σ κ0 κ1 g gd A hD j k (b2n w3) (nI (μ 0 1)) hB jm j4 h15 (by omega) (b2n_lt w3) (by rw [e7])⟩, ⟨({ frames := 2, cells := 0, slots := 0, locals := 47 } : Room), rfl, rfl, by decide, by decide, fun l D cI cZ sa q A hD => r_flagIf_s l D cI cZ sa q μ j k (b2n w3) A hD hBm hm0 j1 j6 jm hs7 (b2n_lt w3) (by omega) (by omega) he⟩, rfl, by decide, fun _ => (gu_at _ _).trans (by rw [hx, decide_eq_true he]; rfl), Inv_srv hI hIS (Nat.le_refl _) (Nat.le_refl _) (Nat.le_succ _) (fun r hr => sv_ne (by omega))⟩
        · have hfl : flw (sv μ 0 2 0) j k (b2n w3) = fls (sv μ 0 2 0) j k (b2n w3) := by unfold flw; rw [show decide (hs ((sv μ 0 2 0) 3 j) k = nb (b2n w3)) = false from decide_eq_false he]; rfl
          rw [hfl] at hIS
          exact ⟨sk σ j k (b2n w3), κ0, κ1, fls (sv μ 0 2 0) j k (b2n w3), 0, fun g => gu g (bl (!(decide (σ 5 j = wn (σ 5 j) k (nb (b2n w3)))))), fun g => g, true, ⟨({ frames := 8, cells := 1, slots := 6, locals := 137 } : Room), rfl, rfl, by decide, by decide, fun l D cI cZ cL cD sa q qo qd g gd A hst hD => w_flagIf_ok l D cI cZ cL cD sa q qo qd σ κ0 κ1 g gd A hD j k (b2n w3) (nI (μ 0 1)) hB jm j4 h15 (by omega) (b2n_lt w3) (by rw [e7])⟩, ⟨({ frames := 2, cells := 0, slots := 0, locals := 47 } : Room), rfl, rfl, by decide, by decide, fun l D cI cZ sa q A hD => r_flagIf_d l D cI cZ sa q μ j k (b2n w3) A hD hBm hm0 j1 j6 jm hs7 (b2n_lt w3) (by omega) (by omega) he⟩, rfl, by decide, fun _ => (gu_at _ _).trans (by rw [hx, decide_eq_false he]; rfl), Inv_srv hI hIS (Nat.le_refl _) (Nat.le_succ _) (Nat.le_refl _) (fun r hr => by rw [← hfl, flw_hi hr, sv_ne (by omega)])⟩
      · exact ⟨σ, κ0, κ1, sv μ 0 2 3, 3, fun g => g, fun g => g, false, ⟨({ frames := 8, cells := 1, slots := 6, locals := 137 } : Room), rfl, rfl, by decide, by decide, fun l D cI cZ cL cD sa q qo qd g gd A hst hD => w_flagIf_st l D cI cZ cL cD sa q qo qd σ κ0 κ1 g gd A hD hst j k (b2n w3) a4 hB jm j4 (by omega) (by rw [e7]; exact hz)⟩, ⟨({ frames := 2, cells := 0, slots := 0, locals := 43 } : Room), rfl, rfl, by decide, by decide, fun l D cI cZ sa q A hD => r_flagIf_st l D cI cZ sa q μ j k (b2n w3) a4 A hD hBm hm0 j1 j6 (by omega) hz⟩, rfl, by decide, fun h => absurd h (by decide), Inv_th 3 hI (by decide)⟩
set_option maxHeartbeats 4000000 in
theorem sm_destroy : Sm_s_destroy Inv9 := by
  intro n σ κ0 κ1 μ hn hI a1 g
  obtain ⟨I, hB, hBm, hm0, hs9, e1, e7, h15, h60⟩ := Inv_f hI hn
  have hs8 : μ 0 1 ≤ 2048 := Nat.le_of_lt (Nat.lt_trans hs9 (by decide))
  have hs7 : μ 0 1 < 2048 := Nat.lt_trans hs9 (by decide)
  rcases mail_cases I a1 with ⟨x1, x2⟩ | ⟨j, j1, rfl, j4, x2⟩ | ⟨j, j1, rfl, j4, j6⟩ | ⟨j, j1, rfl, j4, j6⟩
  · exact ⟨σ, κ0, κ1, sv μ 0 2 1, 1, fun g => g, fun g => g, nI 0, ⟨({ frames := 8, cells := 1, slots := 6, locals := 123 } : Room), rfl, rfl, by decide, by decide, fun l D cI cZ cL cD sa q qo qd g gd A hst hD => w_destroy_nr l D cI cZ cL cD sa q qo qd σ κ0 κ1 g gd A hD hst a1  hB x1⟩, ⟨({ frames := 2, cells := 0, slots := 0, locals := 43 } : Room), rfl, rfl, by decide, by decide, fun l D cI cZ sa q A hD => r_destroy_nr l D cI cZ sa q μ a1  A hD x2⟩, rfl, by decide, fun h => absurd h (by decide), Inv_th 1 hI (by decide)⟩
  · exact ⟨σ, κ0, κ1, sv μ 0 2 1, 1, fun g => g, fun g => g, nI 0, ⟨({ frames := 8, cells := 1, slots := 6, locals := 123 } : Room), rfl, rfl, by decide, by decide, fun l D cI cZ cL cD sa q qo qd g gd A hst hD => w_destroy_nz l D cI cZ cL cD sa q qo qd σ κ0 κ1 g gd A hD hst j  hB j1 j4⟩, ⟨({ frames := 2, cells := 0, slots := 0, locals := 43 } : Room), rfl, rfl, by decide, by decide, fun l D cI cZ sa q A hD => r_destroy_nr l D cI cZ sa q μ (nI j)  A hD x2⟩, rfl, by decide, fun h => absurd h (by decide), Inv_th 1 hI (by decide)⟩
  · exact ⟨σ, κ0, κ1, sv μ 0 2 1, 1, fun g => g, fun g => g, nI 0, ⟨({ frames := 8, cells := 1, slots := 6, locals := 123 } : Room), rfl, rfl, by decide, by decide, fun l D cI cZ cL cD sa q qo qd g gd A hst hD => w_destroy_nz l D cI cZ cL cD sa q qo qd σ κ0 κ1 g gd A hD hst j  hB (by omega) j4⟩, ⟨({ frames := 2, cells := 0, slots := 0, locals := 43 } : Room), rfl, rfl, by decide, by decide, fun l D cI cZ sa q A hD => r_destroy_nz l D cI cZ sa q μ j  A hD hBm hm0 j1 j6⟩, rfl, by decide, fun h => absurd h (by decide), Inv_th 1 hI (by decide)⟩
  · have jm : j < 60 := by omega
    exact ⟨chg σ j 0 (σ 5 j), κ0, κ1, su (nts (sv μ 0 2 0) 3 j 0 0) 6 (upN (μ 6) j (μ 0 1 + 1)), 0, fun g => gu g ((nI (σ 7 0 + 1)).toInt64), fun g => g, nI (μ 0 1 + 1), ⟨({ frames := 8, cells := 1, slots := 6, locals := 123 } : Room), rfl, rfl, by decide, by decide, fun l D cI cZ cL cD sa q qo qd g gd A hst hD => w_destroy_ok l D cI cZ cL cD sa q qo qd σ κ0 κ1 g gd A hD j hB jm j4⟩, ⟨({ frames := 2, cells := 0, slots := 0, locals := 43 } : Room), rfl, rfl, by decide, by decide, fun l D cI cZ sa q A hD => r_destroy_ok l D cI cZ sa q μ j A hD hBm hm0 j1 j6 jm hs7⟩, rfl, by decide, fun _ => (gu_at _ _).trans (by rw [e7]), Inv_srv hI (IS_destroy I j1 j6 (by omega)) (Nat.le_refl _) (Nat.le_succ _) (Nat.le_refl _) (fun r hr => by rw [su_ne (by omega), nts_hi hr, sv_ne (by omega)])⟩
set_option maxHeartbeats 4000000 in
theorem sm_state : Sm_s_state Inv9 := by
  intro n σ κ0 κ1 μ hn hI  
  obtain ⟨I, hB, hBm, hm0, hs9, e1, e7, h15, h60⟩ := Inv_f hI hn
  have hs8 : μ 0 1 ≤ 2048 := Nat.le_of_lt (Nat.lt_trans hs9 (by decide))
  have hs7 : μ 0 1 < 2048 := Nat.lt_trans hs9 (by decide)
  refine ⟨sv μ 0 2 0, nI (μ 0 1), ?_, ⟨({ frames := 0, cells := 0, slots := 0, locals := 0 } : Room), rfl, rfl, by decide, by decide, fun l D cI cZ sa q A hD => r_state l D cI cZ sa q μ  A hD ⟩, Inv_th 0 hI (by decide)⟩
  rw [← e7]
  exact ⟨({ frames := 0, cells := 0, slots := 0, locals := 0 } : Room), rfl, rfl, by decide, by decide, fun l D cI cZ sa q H hP => f_state l D cI cZ sa q σ κ0 κ1 H hP⟩
set_option maxHeartbeats 4000000 in
theorem sm_mails : Sm_s_mails Inv9 := by
  intro n σ κ0 κ1 μ hn hI  
  obtain ⟨I, hB, hBm, hm0, hs9, e1, e7, h15, h60⟩ := Inv_f hI hn
  have hs8 : μ 0 1 ≤ 2048 := Nat.le_of_lt (Nat.lt_trans hs9 (by decide))
  have hs7 : μ 0 1 < 2048 := Nat.lt_trans hs9 (by decide)
  refine ⟨sv μ 0 2 0, nI (cnt (fun m9 => decide (μ 6 m9 = 0)) (μ 0 0)), ?_, ⟨({ frames := 0, cells := 0, slots := 0, locals := 0 } : Room), rfl, rfl, by decide, by decide, fun l D cI cZ sa q A hD => r_mails l D cI cZ sa q μ  A hD hBm hm0⟩, Inv_th 0 hI (by decide)⟩
  rw [← mails_eq I]
  exact ⟨({ frames := 2, cells := 0, slots := 0, locals := 48 } : Room), rfl, rfl, by decide, by decide, fun l D cI cZ sa q H hP => f_mails l D cI cZ sa q σ κ0 κ1 H hP⟩
set_option maxHeartbeats 4000000 in
theorem sm_keywords : Sm_s_keywords Inv9 := by
  intro n σ κ0 κ1 μ hn hI a1 g
  obtain ⟨I, hB, hBm, hm0, hs9, e1, e7, h15, h60⟩ := Inv_f hI hn
  have hs8 : μ 0 1 ≤ 2048 := Nat.le_of_lt (Nat.lt_trans hs9 (by decide))
  have hs7 : μ 0 1 < 2048 := Nat.lt_trans hs9 (by decide)
  rcases mail_cases I a1 with ⟨x1, x2⟩ | ⟨j, j1, rfl, j4, x2⟩ | ⟨j, j1, rfl, j4, j6⟩ | ⟨j, j1, rfl, j4, j6⟩
  · exact ⟨σ, κ0, κ1, sv μ 0 2 1, 1, fun g => g, fun g => g, nI 0, ⟨({ frames := 8, cells := 1, slots := 6, locals := 123 } : Room), rfl, rfl, by decide, by decide, fun l D cI cZ cL cD sa q qo qd g gd A hst hD => w_keywords_nr l D cI cZ cL cD sa q qo qd σ κ0 κ1 g gd A hD hst a1  hB x1⟩, ⟨({ frames := 2, cells := 0, slots := 0, locals := 43 } : Room), rfl, rfl, by decide, by decide, fun l D cI cZ sa q A hD => r_keywords_nr l D cI cZ sa q μ a1  A hD x2⟩, rfl, by decide, fun h => absurd h (by decide), Inv_th 1 hI (by decide)⟩
  · exact ⟨σ, κ0, κ1, sv μ 0 2 1, 1, fun g => g, fun g => g, nI 0, ⟨({ frames := 8, cells := 1, slots := 6, locals := 123 } : Room), rfl, rfl, by decide, by decide, fun l D cI cZ cL cD sa q qo qd g gd A hst hD => w_keywords_nz l D cI cZ cL cD sa q qo qd σ κ0 κ1 g gd A hD hst j  hB j1 j4⟩, ⟨({ frames := 2, cells := 0, slots := 0, locals := 43 } : Room), rfl, rfl, by decide, by decide, fun l D cI cZ sa q A hD => r_keywords_nr l D cI cZ sa q μ (nI j)  A hD x2⟩, rfl, by decide, fun h => absurd h (by decide), Inv_th 1 hI (by decide)⟩
  · exact ⟨σ, κ0, κ1, sv μ 0 2 1, 1, fun g => g, fun g => g, nI 0, ⟨({ frames := 8, cells := 1, slots := 6, locals := 123 } : Room), rfl, rfl, by decide, by decide, fun l D cI cZ cL cD sa q qo qd g gd A hst hD => w_keywords_nz l D cI cZ cL cD sa q qo qd σ κ0 κ1 g gd A hD hst j  hB (by omega) j4⟩, ⟨({ frames := 2, cells := 0, slots := 0, locals := 43 } : Room), rfl, rfl, by decide, by decide, fun l D cI cZ sa q A hD => r_keywords_nz l D cI cZ sa q μ j  A hD hBm hm0 j1 j6⟩, rfl, by decide, fun h => absurd h (by decide), Inv_th 1 hI (by decide)⟩
  · have jm : j < 60 := by omega
    exact ⟨σ, κ0, κ1, sv μ 0 2 0, 0, fun g => gu g ((nI (σ 5 j)).toInt64), fun g => g, nI (μ 3 j), ⟨({ frames := 8, cells := 1, slots := 6, locals := 123 } : Room), rfl, rfl, by decide, by decide, fun l D cI cZ cL cD sa q qo qd g gd A hst hD => w_keywords_ok l D cI cZ cL cD sa q qo qd σ κ0 κ1 g gd A hD j hB jm j4⟩, ⟨({ frames := 2, cells := 0, slots := 0, locals := 43 } : Room), rfl, rfl, by decide, by decide, fun l D cI cZ sa q A hD => r_keywords_ok l D cI cZ sa q μ j A hD hBm hm0 j1 j6 jm⟩, rfl, by decide, fun _ => (gu_at _ _).trans (by rw [(I.2.1 j).2.2.1]), Inv_th 0 hI (by decide)⟩
set_option maxHeartbeats 4000000 in
theorem sm_inThread : Sm_s_inThread Inv9 := by
  intro n σ κ0 κ1 μ hn hI a1 g
  obtain ⟨I, hB, hBm, hm0, hs9, e1, e7, h15, h60⟩ := Inv_f hI hn
  have hs8 : μ 0 1 ≤ 2048 := Nat.le_of_lt (Nat.lt_trans hs9 (by decide))
  have hs7 : μ 0 1 < 2048 := Nat.lt_trans hs9 (by decide)
  cases hbad : iw a1 (nI 0) (nI 9)
  · exact ⟨σ, κ0, κ1, sv μ 0 2 1, 1, fun g => g, fun g => g, nI 0, ⟨({ frames := 7, cells := 1, slots := 6, locals := 108 } : Room), rfl, rfl, by decide, by decide, fun l D cI cZ cL cD sa q qo qd g gd A hst hD => w_inThread_bad l D cI cZ cL cD sa q qo qd σ κ0 κ1 g gd A hD hst a1 hbad⟩, ⟨({ frames := 1, cells := 0, slots := 0, locals := 22 } : Room), rfl, rfl, by decide, by decide, fun l D cI cZ sa q A hD => r_inThread_bad l D cI cZ sa q μ a1 A hD hbad⟩, rfl, by decide, fun h => absurd h (by decide), Inv_th 1 hI (by decide)⟩
  · obtain ⟨t, -, t2, rfl⟩ := iw_of (by decide) (by decide) hbad
    exact ⟨σ, κ0, κ1, sv μ 0 2 0, 0, fun g => gu g ((nI (cnt (fun j => inT σ t j) 60)).toInt64), fun g => g, nI (cnt (fun m9 => decide (μ 6 m9 = 0) && decide (μ 4 m9 = t)) (μ 0 0)), ⟨({ frames := 7, cells := 1, slots := 6, locals := 108 } : Room), rfl, rfl, by decide, by decide, fun l D cI cZ cL cD sa q qo qd g gd A hst hD => w_inThread_ok l D cI cZ cL cD sa q qo qd σ κ0 κ1 g gd A hD t hB t2⟩, ⟨({ frames := 1, cells := 0, slots := 0, locals := 22 } : Room), rfl, rfl, by decide, by decide, fun l D cI cZ sa q A hD => r_inThread_ok l D cI cZ sa q μ t A hD hBm hm0 t2⟩, rfl, by decide, fun _ => (gu_at _ _).trans (by rw [thread_eq I t]), Inv_th 0 hI (by decide)⟩
set_option maxHeartbeats 4000000 in
theorem sm_share : Sm_s_share Inv9 := by
  intro n σ κ0 κ1 μ hn hI a1 a2 gd
  obtain ⟨I, hB, hBm, hm0, hs9, e1, e7, h15, h60⟩ := Inv_f hI hn
  have hs8 : μ 0 1 ≤ 2048 := Nat.le_of_lt (Nat.lt_trans hs9 (by decide))
  have hs7 : μ 0 1 < 2048 := Nat.lt_trans hs9 (by decide)
  cases hbad : (iw a1 (nI 0) (nI 5) && iw a2 (nI 0) (nI 3))
  · exact ⟨σ, κ0, κ1, sv μ 0 2 1, 1, fun g => g, fun g => g, FP.fconst0, ⟨({ frames := 7, cells := 1, slots := 6, locals := 106 } : Room), rfl, rfl, by decide, by decide, fun l D cI cZ cL cD sa q qo qd g gd A hst hD => w_share_bad l D cI cZ cL cD sa q qo qd σ κ0 κ1 g gd A hD hst a1 a2 hbad⟩, ⟨({ frames := 1, cells := 0, slots := 0, locals := 22 } : Room), rfl, rfl, by decide, by decide, fun l D cI cZ sa q A hD => r_share_bad l D cI cZ sa q μ a1 a2 A hD hbad⟩, rfl, by decide, fun h => absurd h (by decide), Inv_th 1 hI (by decide)⟩
  · simp only [Bool.and_eq_true] at hbad
    obtain ⟨x1, x2⟩ := hbad
    obtain ⟨b, -, b2, rfl⟩ := iw_of (by decide) (by decide) x1
    obtain ⟨k, -, k2, rfl⟩ := iw_of (by decide) (by decide) x2
    have hb : b < 6 := by omega
    have hk : k < 4 := by omega
    have q0 := bxs_eq I hb
    have q1 : cnt (fun j => mt (σ 4 j) (σ 5 j) (2 ^ b) (2 ^ k)) 60 = cnt (fun m9 => ifd μ b (k + 1) m9) (μ 0 0) := found_eq (k := k + 1) I hb (by omega)
    by_cases hz : cnt (fun m9 => ifd μ b 0 m9) (μ 0 0) = 0
    · exact ⟨σ, κ0, κ1, sv μ 0 2 0, 0, fun g => g, fun g => gv g (FP.f2d (FP.fconst0)), FP.fconst0, ⟨({ frames := 7, cells := 1, slots := 6, locals := 106 } : Room), rfl, rfl, by decide, by decide, fun l D cI cZ cL cD sa q qo qd g gd A hst hD => w_share_0 l D cI cZ cL cD sa q qo qd σ κ0 κ1 g gd A hD b k hb hk (by rw [q0]; exact hz)⟩, ⟨({ frames := 3, cells := 0, slots := 0, locals := 68 } : Room), rfl, rfl, by decide, by decide, fun l D cI cZ sa q A hD => r_share_0 l D cI cZ sa q μ b k A hD hBm hm0 hb hk hz⟩, rfl, by decide, fun _ => ⟨gv_at _ _, f2d_nn0, f2d_c0⟩, Inv_th 0 hI (by decide)⟩
    · have l1 : cnt (fun m9 => ifd μ b (k + 1) m9) (μ 0 0) ≤ 60 := Nat.le_trans (cnt_le _ _) hm0
      have l2 : cnt (fun m9 => ifd μ b 0 m9) (μ 0 0) ≤ 60 := Nat.le_trans (cnt_le _ _) hm0
      exact ⟨σ, κ0, κ1, sv μ 0 2 0, 0, fun g => g, fun g => gv g (FP.f2d (FP.fdiv (FP.i2f (nI (cnt (fun j => mt (σ 4 j) (σ 5 j) (2 ^ b) (2 ^ k)) 60))) (FP.i2f (nI (cnt (bxs σ b) 60))))), FP.fdiv (FP.i2f (nI (cnt (fun m9 => ifd μ b (k + 1) m9) (μ 0 0)))) (FP.i2f (nI (cnt (fun m9 => ifd μ b 0 m9) (μ 0 0)))), ⟨({ frames := 7, cells := 1, slots := 6, locals := 106 } : Room), rfl, rfl, by decide, by decide, fun l D cI cZ cL cD sa q qo qd g gd A hst hD => w_share_n l D cI cZ cL cD sa q qo qd σ κ0 κ1 g gd A hD b k hb hk (by rw [q0]; exact hz)⟩, ⟨({ frames := 3, cells := 0, slots := 0, locals := 68 } : Room), rfl, rfl, by decide, by decide, fun l D cI cZ sa q A hD => r_share_n l D cI cZ sa q μ b k A hD hBm hm0 hb hk hz⟩, rfl, by decide, fun _ => ⟨(gv_at _ _).trans (by rw [q0, q1]), f2d_nn _ _ l1 l2 hz, f2d_cc _ _ l1 l2 hz⟩, Inv_th 0 hI (by decide)⟩
set_option maxHeartbeats 4000000 in
theorem sm_canTell : Sm_s_canTell Inv9 := by
  intro n σ κ0 κ1 μ hn hI a1 g
  obtain ⟨I, hB, hBm, hm0, hs9, e1, e7, h15, h60⟩ := Inv_f hI hn
  have hs8 : μ 0 1 ≤ 2048 := Nat.le_of_lt (Nat.lt_trans hs9 (by decide))
  have hs7 : μ 0 1 < 2048 := Nat.lt_trans hs9 (by decide)
  cases hbad : iw a1 (nI 0) (nI (μ 0 1))
  · exact ⟨σ, κ0, κ1, sv μ 0 2 1, 1, fun g => g, fun g => g, false, ⟨({ frames := 7, cells := 1, slots := 6, locals := 103 } : Room), rfl, rfl, by decide, by decide, fun l D cI cZ cL cD sa q qo qd g gd A hst hD => w_canTell_bad l D cI cZ cL cD sa q qo qd σ κ0 κ1 g gd A hD hst a1 (by rw [e7]; exact hbad)⟩, ⟨({ frames := 2, cells := 0, slots := 0, locals := 43 } : Room), rfl, rfl, by decide, by decide, fun l D cI cZ sa q A hD => r_canTell_bad l D cI cZ sa q μ a1 A hD hbad⟩, rfl, by decide, fun h => absurd h (by decide), Inv_th 1 hI (by decide)⟩
  · obtain ⟨t, -, t2, rfl⟩ := iw_of (by decide) (by omega) hbad
    exact ⟨σ, κ0, κ1, sv μ 0 2 0, 0, fun g => gu g (bl (decide (σ 7 0 - t ≤ 40))), fun g => g, decide (μ 0 1 - t ≤ 40), ⟨({ frames := 7, cells := 1, slots := 6, locals := 103 } : Room), rfl, rfl, by decide, by decide, fun l D cI cZ cL cD sa q qo qd g gd A hst hD => w_canTell_ok l D cI cZ cL cD sa q qo qd σ κ0 κ1 g gd A hD t hB (by rw [e7]; exact t2)⟩, ⟨({ frames := 2, cells := 0, slots := 0, locals := 43 } : Room), rfl, rfl, by decide, by decide, fun l D cI cZ sa q A hD => r_canTell_ok l D cI cZ sa q μ t A hD hBm hm0 t2⟩, rfl, by decide, fun _ => (gu_at _ _).trans (by rw [e7]), Inv_th 0 hI (by decide)⟩
set_option maxHeartbeats 4000000 in
theorem sm_changed : Sm_s_changed Inv9 := by
  intro n σ κ0 κ1 μ hn hI a1 a2 g
  obtain ⟨I, hB, hBm, hm0, hs9, e1, e7, h15, h60⟩ := Inv_f hI hn
  have hs8 : μ 0 1 ≤ 2048 := Nat.le_of_lt (Nat.lt_trans hs9 (by decide))
  have hs7 : μ 0 1 < 2048 := Nat.lt_trans hs9 (by decide)
  cases hbad : (iw a1 (nI 0) (nI (μ 0 1)) && iw a2 (nI 0) (nI 2))
  · exact ⟨σ, κ0, κ1, sv μ 0 2 1, 1, fun g => g, fun g => g, nI 0, ⟨({ frames := 8, cells := 1, slots := 6, locals := 144 } : Room), rfl, rfl, by decide, by decide, fun l D cI cZ cL cD sa q qo qd g gd A hst hD => w_changed_bad l D cI cZ cL cD sa q qo qd σ κ0 κ1 g gd A hD hst a1 a2 (by rw [e7]; exact hbad)⟩, ⟨({ frames := 3, cells := 0, slots := 0, locals := 65 } : Room), rfl, rfl, by decide, by decide, fun l D cI cZ sa q A hD => r_changed_bad l D cI cZ sa q μ a1 a2 A hD hbad⟩, rfl, by decide, fun h => absurd h (by decide), Inv_th 1 hI (by decide)⟩
  · simp only [Bool.and_eq_true] at hbad
    obtain ⟨x1, x2⟩ := hbad
    obtain ⟨t, -, t2, rfl⟩ := iw_of (by decide) (by omega) x1
    obtain ⟨w, -, w2, rfl⟩ := iw_of (by decide) (by decide) x2
    cases hv : decide (μ 0 1 - t ≤ 40)
    · exact ⟨σ, κ0, κ1, sv μ 0 2 2, 2, fun g => g, fun g => g, nI 0, ⟨({ frames := 8, cells := 1, slots := 6, locals := 144 } : Room), rfl, rfl, by decide, by decide, fun l D cI cZ cL cD sa q qo qd g gd A hst hD => w_changed_no l D cI cZ cL cD sa q qo qd σ κ0 κ1 g gd A hD hst t w hB (by rw [e7]; exact t2) (by omega) (by rw [e7]; exact hv)⟩, ⟨({ frames := 3, cells := 0, slots := 0, locals := 65 } : Room), rfl, rfl, by decide, by decide, fun l D cI cZ sa q A hD => r_changed_no l D cI cZ sa q μ t w A hD hBm hm0 hs8 t2 (by omega) hv⟩, rfl, by decide, fun h => absurd h (by decide), Inv_th 2 hI (by decide)⟩
    · exact ⟨σ, κ0, κ1, sv μ 0 2 0, 0, fun g => gu g ((bitc (chs σ t w)).toInt64), fun g => g, nI (cnt (fun m9 => chm μ t w m9) (μ 0 0)), ⟨({ frames := 8, cells := 1, slots := 6, locals := 144 } : Room), rfl, rfl, by decide, by decide, fun l D cI cZ cL cD sa q qo qd g gd A hst hD => w_changed_ok l D cI cZ cL cD sa q qo qd σ κ0 κ1 g gd A hD t w hB (by rw [e7]; exact t2) (by omega) (by rw [e7]; exact hv)⟩, ⟨({ frames := 3, cells := 0, slots := 0, locals := 73 } : Room), rfl, rfl, by decide, by decide, fun l D cI cZ sa q A hD => r_changed_ok l D cI cZ sa q μ t w A hD hBm hm0 hs8 t2 (by omega) hv⟩, rfl, by decide, fun _ => (gu_at _ _).trans (by rw [changed_eq I t2 (of_decide_eq_true hv)]), Inv_th 0 hI (by decide)⟩
set_option maxHeartbeats 4000000 in
theorem sm_changedAt : Sm_s_changedAt Inv9 := by
  intro n σ κ0 κ1 μ hn hI a1 a2 a3 g
  obtain ⟨I, hB, hBm, hm0, hs9, e1, e7, h15, h60⟩ := Inv_f hI hn
  have hs8 : μ 0 1 ≤ 2048 := Nat.le_of_lt (Nat.lt_trans hs9 (by decide))
  have hs7 : μ 0 1 < 2048 := Nat.lt_trans hs9 (by decide)
  cases hbad : (iw a1 (nI 0) (nI (μ 0 1)) && iw a2 (nI 0) (nI 2))
  · exact ⟨σ, κ0, κ1, sv μ 0 2 1, 1, fun g => g, fun g => g, nI 0, ⟨({ frames := 8, cells := 1, slots := 6, locals := 146 } : Room), rfl, rfl, by decide, by decide, fun l D cI cZ cL cD sa q qo qd g gd A hst hD => w_changedAt_bad l D cI cZ cL cD sa q qo qd σ κ0 κ1 g gd A hD hst a1 a2 a3 (by rw [e7]; exact hbad)⟩, ⟨({ frames := 3, cells := 0, slots := 0, locals := 65 } : Room), rfl, rfl, by decide, by decide, fun l D cI cZ sa q A hD => r_changedAt_bad l D cI cZ sa q μ a1 a2 a3 A hD hbad⟩, rfl, by decide, fun h => absurd h (by decide), Inv_th 1 hI (by decide)⟩
  · simp only [Bool.and_eq_true] at hbad
    obtain ⟨x1, x2⟩ := hbad
    obtain ⟨t, -, t2, rfl⟩ := iw_of (by decide) (by omega) x1
    obtain ⟨w, -, w2, rfl⟩ := iw_of (by decide) (by decide) x2
    cases hv : decide (μ 0 1 - t ≤ 40)
    · exact ⟨σ, κ0, κ1, sv μ 0 2 2, 2, fun g => g, fun g => g, nI 0, ⟨({ frames := 8, cells := 1, slots := 6, locals := 146 } : Room), rfl, rfl, by decide, by decide, fun l D cI cZ cL cD sa q qo qd g gd A hst hD => w_changedAt_no l D cI cZ cL cD sa q qo qd σ κ0 κ1 g gd A hD hst t w a3 hB (by rw [e7]; exact t2) (by omega) (by rw [e7]; exact hv)⟩, ⟨({ frames := 3, cells := 0, slots := 0, locals := 65 } : Room), rfl, rfl, by decide, by decide, fun l D cI cZ sa q A hD => r_changedAt_no l D cI cZ sa q μ t w a3 A hD hBm hm0 hs8 t2 (by omega) hv⟩, rfl, by decide, fun h => absurd h (by decide), Inv_th 2 hI (by decide)⟩
    · obtain ⟨c1, c2⟩ := chAt_eq (way := w) I t2 (of_decide_eq_true hv)
      cases hz : iw a3 (nI 0) (oi (cnt (fun m9 => chm μ t w m9) (μ 0 0)))
      · exact ⟨σ, κ0, κ1, sv μ 0 2 3, 3, fun g => g, fun g => g, nI 0, ⟨({ frames := 8, cells := 1, slots := 6, locals := 146 } : Room), rfl, rfl, by decide, by decide, fun l D cI cZ cL cD sa q qo qd g gd A hst hD => w_changedAt_ix l D cI cZ cL cD sa q qo qd σ κ0 κ1 g gd A hD hst t w a3 hB (by rw [e7]; exact t2) (by omega) (by rw [e7]; exact hv) (c1 a3 hz)⟩, ⟨({ frames := 3, cells := 0, slots := 0, locals := 73 } : Room), rfl, rfl, by decide, by decide, fun l D cI cZ sa q A hD => r_changedAt_ix l D cI cZ sa q μ t w a3 A hD hBm hm0 hs8 t2 (by omega) hv hz⟩, rfl, by decide, fun h => absurd h (by decide), Inv_th 3 hI (by decide)⟩
      · have hle := cnt_le (fun m9 => chm μ t w m9) (μ 0 0)
        obtain ⟨i, hi, rfl⟩ := iw_get (by omega) hz
        obtain ⟨mm, d1, d2, d3, d4⟩ := c2 i hi
        exact ⟨σ, κ0, κ1, sv μ 0 2 0, 0, fun g => gu g ((oi (low (chs σ t w) (nI i) 60 0 0)).toInt64), fun g => g, nI mm, ⟨({ frames := 8, cells := 1, slots := 6, locals := 146 } : Room), rfl, rfl, by decide, by decide, fun l D cI cZ cL cD sa q qo qd g gd A hst hD => w_changedAt_ok l D cI cZ cL cD sa q qo qd σ κ0 κ1 g gd A hD t w (nI i) hB (by rw [e7]; exact t2) (by omega) (by rw [e7]; exact hv) (by rw [d4]; exact Nat.succ_ne_zero _)⟩, ⟨({ frames := 3, cells := 0, slots := 0, locals := 73 } : Room), rfl, rfl, by decide, by decide, fun l D cI cZ sa q A hD => r_changedAt_ok l D cI cZ sa q μ t w i mm A hD hBm hm0 hs8 t2 (by omega) hv d1 d2 d3 hi⟩, rfl, by decide, fun _ => (gu_at _ _).trans (by rw [d4]; first | done | rfl), Inv_th 0 hI (by decide)⟩
