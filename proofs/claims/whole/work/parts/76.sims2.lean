/-! the calls, one by one (on) -/
set_option maxHeartbeats 4000000 in
theorem sm_page : Sm_s_page Inv9 := by
  intro n σ κ0 κ1 μ hn hI a1 a2 g
  obtain ⟨I, hB, hBm, hm0, hs9, e1, e7, h15, h60⟩ := Inv_f hI hn
  have hs8 : μ 0 1 ≤ 2048 := Nat.le_of_lt (Nat.lt_trans hs9 (by decide))
  have hs7 : μ 0 1 < 2048 := Nat.lt_trans hs9 (by decide)
  cases hbad : (iw a1 (nI 0) (nI (μ 0 1)) && iw a2 (nI 1) (nI 20))
  · exact ⟨σ, κ0, κ1, sv μ 0 2 1, 1, fun g => g, fun g => g, nI 0, ⟨({ frames := 8, cells := 1, slots := 6, locals := 125 } : Room), rfl, rfl, by decide, by decide, fun l D cI cZ cL cD sa q qo qd g gd A hst hD => w_page_bad l D cI cZ cL cD sa q qo qd σ κ0 κ1 g gd A hD hst a1 a2 (by rw [e7]; exact hbad)⟩, ⟨({ frames := 2, cells := 0, slots := 0, locals := 43 } : Room), rfl, rfl, by decide, by decide, fun l D cI cZ sa q A hD => r_page_bad l D cI cZ sa q μ a1 a2 A hD hbad⟩, rfl, by decide, fun h => absurd h (by decide), Inv_th 1 hI (by decide)⟩
  · simp only [Bool.and_eq_true] at hbad
    obtain ⟨x1, x2⟩ := hbad
    obtain ⟨t, -, t2, rfl⟩ := iw_of (by decide) (by omega) x1
    obtain ⟨p, p1, p2, rfl⟩ := iw_of (by decide) (by decide) x2
    cases hv : decide (μ 0 1 - t ≤ 40)
    · exact ⟨σ, κ0, κ1, sv μ 0 2 2, 2, fun g => g, fun g => g, nI 0, ⟨({ frames := 8, cells := 1, slots := 6, locals := 125 } : Room), rfl, rfl, by decide, by decide, fun l D cI cZ cL cD sa q qo qd g gd A hst hD => w_page_no l D cI cZ cL cD sa q qo qd σ κ0 κ1 g gd A hD hst t p hB (by rw [e7]; exact t2) p1 p2 (by rw [e7]; exact hv)⟩, ⟨({ frames := 2, cells := 0, slots := 0, locals := 43 } : Room), rfl, rfl, by decide, by decide, fun l D cI cZ sa q A hD => r_page_no l D cI cZ sa q μ t p A hD hBm hm0 t2 p1 p2 hv⟩, rfl, by decide, fun h => absurd h (by decide), Inv_th 2 hI (by decide)⟩
    · have hp := page_eq I t2 (of_decide_eq_true hv) p2 (μ 0 1 - t) 0 p (by omega) (by rw [show cnt (pgsp σ t 0) 60 = 0 from cnt_none (fun _ _ => rfl), Nat.zero_add])
      exact ⟨σ, κ0, κ1, sv μ 0 2 0, 0, fun g => gu g ((nI (pge σ t p (min (σ 7 0 - t) 40) 0)).toInt64), fun g => g, nI (mpg μ t (μ 0 1 - t) t p), ⟨({ frames := 8, cells := 1, slots := 6, locals := 125 } : Room), rfl, rfl, by decide, by decide, fun l D cI cZ cL cD sa q qo qd g gd A hst hD => w_page_ok l D cI cZ cL cD sa q qo qd σ κ0 κ1 g gd A hD t p hB (by rw [e7]; exact t2) p1 p2 (by rw [e7]; exact hv)⟩, ⟨({ frames := 2, cells := 0, slots := 0, locals := 43 } : Room), rfl, rfl, by decide, by decide, fun l D cI cZ sa q A hD => r_page_ok l D cI cZ sa q μ t p A hD hBm hm0 t2 p1 p2 hs8 hv⟩, rfl, by decide, fun _ => (gu_at _ _).trans (by rw [min_eq9 I (of_decide_eq_true hv), hp]; first | done | rfl), Inv_th 0 hI (by decide)⟩
set_option maxHeartbeats 4000000 in
theorem sm_found : Sm_s_found Inv9 := by
  intro n σ κ0 κ1 μ hn hI a1 a2 g
  obtain ⟨I, hB, hBm, hm0, hs9, e1, e7, h15, h60⟩ := Inv_f hI hn
  have hs8 : μ 0 1 ≤ 2048 := Nat.le_of_lt (Nat.lt_trans hs9 (by decide))
  have hs7 : μ 0 1 < 2048 := Nat.lt_trans hs9 (by decide)
  cases hbad : (iw a1 (nI 0) (nI 5) && iq a2)
  · exact ⟨σ, κ0, κ1, sv μ 0 2 1, 1, fun g => g, fun g => g, nI 0, ⟨({ frames := 7, cells := 1, slots := 6, locals := 104 } : Room), rfl, rfl, by decide, by decide, fun l D cI cZ cL cD sa q qo qd g gd A hst hD => w_found_bad l D cI cZ cL cD sa q qo qd σ κ0 κ1 g gd A hD hst a1 a2 hbad⟩, ⟨({ frames := 2, cells := 0, slots := 0, locals := 43 } : Room), rfl, rfl, by decide, by decide, fun l D cI cZ sa q A hD => r_found_bad l D cI cZ sa q μ a1 a2 A hD (by rw [iqm_eq]; exact hbad)⟩, rfl, by decide, fun h => absurd h (by decide), Inv_th 1 hI (by decide)⟩
  · simp only [Bool.and_eq_true] at hbad
    obtain ⟨x1, x2⟩ := hbad
    obtain ⟨b, -, b2, rfl⟩ := iw_of (by decide) (by decide) x1
    obtain ⟨k, k2, rfl⟩ := iq_of x2
    exact ⟨σ, κ0, κ1, sv μ 0 2 0, 0, fun g => gu g ((nI (cnt (fun j => mt (σ 4 j) (σ 5 j) (2 ^ b) (askq k)) 60)).toInt64), fun g => g, nI (cnt (fun m9 => ifd μ b k m9) (μ 0 0)), ⟨({ frames := 7, cells := 1, slots := 6, locals := 104 } : Room), rfl, rfl, by decide, by decide, fun l D cI cZ cL cD sa q qo qd g gd A hst hD => w_found_ok l D cI cZ cL cD sa q qo qd σ κ0 κ1 g gd A hD b k (by omega) k2⟩, ⟨({ frames := 3, cells := 0, slots := 0, locals := 68 } : Room), rfl, rfl, by decide, by decide, fun l D cI cZ sa q A hD => r_found_ok l D cI cZ sa q μ b k A hD hBm hm0 (by omega) k2 (by omega)⟩, rfl, by decide, fun _ => (gu_at _ _).trans (by rw [found_eq I (by omega) k2]), Inv_th 0 hI (by decide)⟩
set_option maxHeartbeats 4000000 in
theorem sm_foundAt : Sm_s_foundAt Inv9 := by
  intro n σ κ0 κ1 μ hn hI a1 a2 a3 g
  obtain ⟨I, hB, hBm, hm0, hs9, e1, e7, h15, h60⟩ := Inv_f hI hn
  have hs8 : μ 0 1 ≤ 2048 := Nat.le_of_lt (Nat.lt_trans hs9 (by decide))
  have hs7 : μ 0 1 < 2048 := Nat.lt_trans hs9 (by decide)
  cases hbad : (iw a1 (nI 0) (nI 5) && iq a2)
  · exact ⟨σ, κ0, κ1, sv μ 0 2 1, 1, fun g => g, fun g => g, nI 0, ⟨({ frames := 8, cells := 1, slots := 6, locals := 126 } : Room), rfl, rfl, by decide, by decide, fun l D cI cZ cL cD sa q qo qd g gd A hst hD => w_foundAt_bad l D cI cZ cL cD sa q qo qd σ κ0 κ1 g gd A hD hst a1 a2 a3 hbad⟩, ⟨({ frames := 2, cells := 0, slots := 0, locals := 43 } : Room), rfl, rfl, by decide, by decide, fun l D cI cZ sa q A hD => r_foundAt_bad l D cI cZ sa q μ a1 a2 a3 A hD (by rw [iqm_eq]; exact hbad)⟩, rfl, by decide, fun h => absurd h (by decide), Inv_th 1 hI (by decide)⟩
  · simp only [Bool.and_eq_true] at hbad
    obtain ⟨x1, x2⟩ := hbad
    obtain ⟨b, -, b2, rfl⟩ := iw_of (by decide) (by decide) x1
    obtain ⟨k, k2, rfl⟩ := iq_of x2
    have hb : b < 6 := by omega
    obtain ⟨c1, c2⟩ := lat_eq I hb k2
    cases hz : iw a3 (nI 0) (oi (cnt (fun m9 => ifd μ b k m9) (μ 0 0)))
    · exact ⟨σ, κ0, κ1, sv μ 0 2 2, 2, fun g => g, fun g => g, nI 0, ⟨({ frames := 8, cells := 1, slots := 6, locals := 126 } : Room), rfl, rfl, by decide, by decide, fun l D cI cZ cL cD sa q qo qd g gd A hst hD => w_foundAt_ix l D cI cZ cL cD sa q qo qd σ κ0 κ1 g gd A hD hst b k a3 hB hb k2 (by rw [e1]; exact hm0) (c1 a3 hz)⟩, ⟨({ frames := 3, cells := 0, slots := 0, locals := 68 } : Room), rfl, rfl, by decide, by decide, fun l D cI cZ sa q A hD => r_foundAt_ix l D cI cZ sa q μ b k a3 A hD hBm hm0 hb k2 (by omega) hz⟩, rfl, by decide, fun h => absurd h (by decide), Inv_th 2 hI (by decide)⟩
    · have hle := cnt_le (fun m9 => ifd μ b k m9) (μ 0 0)
      obtain ⟨i, hi, rfl⟩ := iw_get (by omega) hz
      obtain ⟨mm, d1, d2, d3, d4⟩ := c2 i hi
      exact ⟨σ, κ0, κ1, sv μ 0 2 0, 0, fun g => gu g ((oi (lat σ (ms (fun j => mt (σ 4 j) (σ 5 j) (2 ^ b) (askq k)) 60) (nI i) (σ 1 0) 0 0)).toInt64), fun g => g, oi (fo μ b k i (μ 0 0) 0), ⟨({ frames := 8, cells := 1, slots := 6, locals := 126 } : Room), rfl, rfl, by decide, by decide, fun l D cI cZ cL cD sa q qo qd g gd A hst hD => w_foundAt_ok l D cI cZ cL cD sa q qo qd σ κ0 κ1 g gd A hD b k (nI i) hB hb k2 (by rw [e1]; exact hm0) (by rw [d4]; exact Nat.succ_ne_zero _)⟩, ⟨({ frames := 3, cells := 0, slots := 0, locals := 71 } : Room), rfl, rfl, by decide, by decide, fun l D cI cZ sa q A hD => r_foundAt_ok l D cI cZ sa q μ b k i A hD hBm hm0 hb k2 (by omega) hi⟩, rfl, by decide, fun _ => (gu_at _ _).trans (by rw [d4, d3]), Inv_th 0 hI (by decide)⟩
set_option maxHeartbeats 4000000 in
theorem sm_removed : Sm_s_removed Inv9 := by
  intro n σ κ0 κ1 μ hn hI a1 a2 a3 g
  obtain ⟨I, hB, hBm, hm0, hs9, e1, e7, h15, h60⟩ := Inv_f hI hn
  have hs8 : μ 0 1 ≤ 2048 := Nat.le_of_lt (Nat.lt_trans hs9 (by decide))
  have hs7 : μ 0 1 < 2048 := Nat.lt_trans hs9 (by decide)
  cases hbad : (iw a1 (nI 0) (nI (μ 0 1)) && iw a2 (nI 0) (nI 5) && iq a3)
  · exact ⟨σ, κ0, κ1, sv μ 0 2 1, 1, fun g => g, fun g => g, nI 0, ⟨({ frames := 8, cells := 1, slots := 6, locals := 128 } : Room), rfl, rfl, by decide, by decide, fun l D cI cZ cL cD sa q qo qd g gd A hst hD => w_removed_bad l D cI cZ cL cD sa q qo qd σ κ0 κ1 g gd A hD hst a1 a2 a3 (by rw [e7]; exact hbad)⟩, ⟨({ frames := 2, cells := 0, slots := 0, locals := 43 } : Room), rfl, rfl, by decide, by decide, fun l D cI cZ sa q A hD => r_removed_bad l D cI cZ sa q μ a1 a2 a3 A hD (by rw [iqm_eq, ← Bool.and_assoc]; exact hbad)⟩, rfl, by decide, fun h => absurd h (by decide), Inv_th 1 hI (by decide)⟩
  · simp only [Bool.and_eq_true] at hbad
    obtain ⟨⟨x1, x2⟩, x3⟩ := hbad
    obtain ⟨t, -, t2, rfl⟩ := iw_of (by decide) (by omega) x1
    obtain ⟨b, -, b2, rfl⟩ := iw_of (by decide) (by decide) x2
    obtain ⟨k, k2, rfl⟩ := iq_of x3
    have hb : b < 6 := by omega
    cases hv : decide (μ 0 1 - t ≤ 40)
    · exact ⟨σ, κ0, κ1, sv μ 0 2 2, 2, fun g => g, fun g => g, nI 0, ⟨({ frames := 8, cells := 1, slots := 6, locals := 128 } : Room), rfl, rfl, by decide, by decide, fun l D cI cZ cL cD sa q qo qd g gd A hst hD => w_removed_no l D cI cZ cL cD sa q qo qd σ κ0 κ1 g gd A hD hst t b k hB (by rw [e7]; exact t2) hb k2 (by rw [e7]; exact hv)⟩, ⟨({ frames := 2, cells := 0, slots := 0, locals := 43 } : Room), rfl, rfl, by decide, by decide, fun l D cI cZ sa q A hD => r_removed_no l D cI cZ sa q μ t b k A hD hBm hm0 t2 hb k2 (by omega) hv⟩, rfl, by decide, fun h => absurd h (by decide), Inv_th 2 hI (by decide)⟩
    · exact ⟨σ, κ0, κ1, sv μ 0 2 0, 0, fun g => gu g ((bitc (rmv σ t (2 ^ b) (askq k))).toInt64), fun g => g, nI (cnt (fun m9 => wfd μ t b k m9 && !ifd μ b k m9) (μ 0 0)), ⟨({ frames := 8, cells := 1, slots := 6, locals := 128 } : Room), rfl, rfl, by decide, by decide, fun l D cI cZ cL cD sa q qo qd g gd A hst hD => w_removed_ok l D cI cZ cL cD sa q qo qd σ κ0 κ1 g gd A hD t b k hB (by rw [e7]; exact t2) hb k2 (by rw [e7]; exact hv)⟩, ⟨({ frames := 2, cells := 0, slots := 0, locals := 49 } : Room), rfl, rfl, by decide, by decide, fun l D cI cZ sa q A hD => r_removed_ok l D cI cZ sa q μ t b k A hD hBm hm0 t2 hb k2 (by omega) hs8 hv⟩, rfl, by decide, fun _ => (gu_at _ _).trans (by rw [rmv_eq I hb k2 t2 (of_decide_eq_true hv)]), Inv_th 0 hI (by decide)⟩
set_option maxHeartbeats 4000000 in
theorem sm_added : Sm_s_added Inv9 := by
  intro n σ κ0 κ1 μ hn hI a1 a2 a3 g
  obtain ⟨I, hB, hBm, hm0, hs9, e1, e7, h15, h60⟩ := Inv_f hI hn
  have hs8 : μ 0 1 ≤ 2048 := Nat.le_of_lt (Nat.lt_trans hs9 (by decide))
  have hs7 : μ 0 1 < 2048 := Nat.lt_trans hs9 (by decide)
  cases hbad : (iw a1 (nI 0) (nI (μ 0 1)) && iw a2 (nI 0) (nI 5) && iq a3)
  · exact ⟨σ, κ0, κ1, sv μ 0 2 1, 1, fun g => g, fun g => g, nI 0, ⟨({ frames := 8, cells := 1, slots := 6, locals := 128 } : Room), rfl, rfl, by decide, by decide, fun l D cI cZ cL cD sa q qo qd g gd A hst hD => w_added_bad l D cI cZ cL cD sa q qo qd σ κ0 κ1 g gd A hD hst a1 a2 a3 (by rw [e7]; exact hbad)⟩, ⟨({ frames := 2, cells := 0, slots := 0, locals := 43 } : Room), rfl, rfl, by decide, by decide, fun l D cI cZ sa q A hD => r_added_bad l D cI cZ sa q μ a1 a2 a3 A hD (by rw [iqm_eq, ← Bool.and_assoc]; exact hbad)⟩, rfl, by decide, fun h => absurd h (by decide), Inv_th 1 hI (by decide)⟩
  · simp only [Bool.and_eq_true] at hbad
    obtain ⟨⟨x1, x2⟩, x3⟩ := hbad
    obtain ⟨t, -, t2, rfl⟩ := iw_of (by decide) (by omega) x1
    obtain ⟨b, -, b2, rfl⟩ := iw_of (by decide) (by decide) x2
    obtain ⟨k, k2, rfl⟩ := iq_of x3
    have hb : b < 6 := by omega
    cases hv : decide (μ 0 1 - t ≤ 40)
    · exact ⟨σ, κ0, κ1, sv μ 0 2 2, 2, fun g => g, fun g => g, nI 0, ⟨({ frames := 8, cells := 1, slots := 6, locals := 128 } : Room), rfl, rfl, by decide, by decide, fun l D cI cZ cL cD sa q qo qd g gd A hst hD => w_added_no l D cI cZ cL cD sa q qo qd σ κ0 κ1 g gd A hD hst t b k hB (by rw [e7]; exact t2) hb k2 (by rw [e7]; exact hv)⟩, ⟨({ frames := 2, cells := 0, slots := 0, locals := 43 } : Room), rfl, rfl, by decide, by decide, fun l D cI cZ sa q A hD => r_added_no l D cI cZ sa q μ t b k A hD hBm hm0 t2 hb k2 (by omega) hv⟩, rfl, by decide, fun h => absurd h (by decide), Inv_th 2 hI (by decide)⟩
    · exact ⟨σ, κ0, κ1, sv μ 0 2 0, 0, fun g => gu g ((bitc (add_ σ t (2 ^ b) (askq k))).toInt64), fun g => g, nI (cnt (fun m9 => !wfd μ t b k m9 && ifd μ b k m9) (μ 0 0)), ⟨({ frames := 8, cells := 1, slots := 6, locals := 128 } : Room), rfl, rfl, by decide, by decide, fun l D cI cZ cL cD sa q qo qd g gd A hst hD => w_added_ok l D cI cZ cL cD sa q qo qd σ κ0 κ1 g gd A hD t b k hB (by rw [e7]; exact t2) hb k2 (by rw [e7]; exact hv)⟩, ⟨({ frames := 2, cells := 0, slots := 0, locals := 49 } : Room), rfl, rfl, by decide, by decide, fun l D cI cZ sa q A hD => r_added_ok l D cI cZ sa q μ t b k A hD hBm hm0 t2 hb k2 (by omega) hs8 hv⟩, rfl, by decide, fun _ => (gu_at _ _).trans (by rw [add_eq I hb k2 t2 (of_decide_eq_true hv)]), Inv_th 0 hI (by decide)⟩
set_option maxHeartbeats 4000000 in
theorem sm_watch : Sm_s_watch Inv9 := by
  intro n σ κ0 κ1 μ hn hI a1 a2 a3 
  obtain ⟨I, hB, hBm, hm0, hs9, e1, e7, h15, h60⟩ := Inv_f hI hn
  have hs8 : μ 0 1 ≤ 2048 := Nat.le_of_lt (Nat.lt_trans hs9 (by decide))
  have hs7 : μ 0 1 < 2048 := Nat.lt_trans hs9 (by decide)
  cases hbad : (iw a1 (nI 0) (nI 1) && iw a2 (nI 0) (nI 5) && iw a3 (nI 1) (nI 10))
  · exact ⟨σ, κ0, κ1, sv μ 0 2 1, 1, fun g => g, fun g => g, ⟨({ frames := 7, cells := 1, slots := 6, locals := 106 } : Room), rfl, rfl, by decide, by decide, fun l D cI cZ cL cD sa q qo qd g gd A hst hD => w_watch_bad l D cI cZ cL cD sa q qo qd σ κ0 κ1 g gd A hD hst a1 a2 a3 hbad⟩, ⟨({ frames := 2, cells := 0, slots := 0, locals := 42 } : Room), rfl, rfl, by decide, by decide, fun l D cI cZ sa q A hD => r_watch_bad l D cI cZ sa q μ a1 a2 a3 A hD hbad⟩, rfl, by decide, Inv_th 1 hI (by decide)⟩
  · simp only [Bool.and_eq_true] at hbad
    obtain ⟨⟨x1, x2⟩, x3⟩ := hbad
    obtain ⟨b, -, b2, rfl⟩ := iw_of (by decide) (by decide) x2
    obtain ⟨wd, w1, w2, rfl⟩ := iw_of (by decide) (by decide) x3
    have hb : b < 6 := by omega
    rcases cl_cases a1 with h | rfl | rfl
    · rw [h] at x1; exact absurd x1 (by decide)
    · exact ⟨σ, sv (sv κ0 0 0 b) 0 1 wd, κ1, su (su (sv μ 0 2 0) 13 (upN (μ 13) 0 b)) 14 (upN (μ 14) 0 wd), 0, fun g => g, fun g => g, ⟨({ frames := 7, cells := 1, slots := 6, locals := 106 } : Room), rfl, rfl, by decide, by decide, fun l D cI cZ cL cD sa q qo qd g gd A hst hD => w_watch_0 l D cI cZ cL cD sa q qo qd σ κ0 κ1 g gd A hD b wd hb w1 w2⟩, ⟨({ frames := 2, cells := 0, slots := 0, locals := 42 } : Room), rfl, rfl, by decide, by decide, fun l D cI cZ sa q A hD => r_watch_0 l D cI cZ sa q μ b wd A hD hb w1 w2⟩, rfl, by decide, watch_0 hI hb w2⟩
    · exact ⟨σ, κ0, sv (sv κ1 0 0 b) 0 1 wd, su (su (sv μ 0 2 0) 13 (upN (μ 13) 1 b)) 14 (upN (μ 14) 1 wd), 0, fun g => g, fun g => g, ⟨({ frames := 7, cells := 1, slots := 6, locals := 106 } : Room), rfl, rfl, by decide, by decide, fun l D cI cZ cL cD sa q qo qd g gd A hst hD => w_watch_1 l D cI cZ cL cD sa q qo qd σ κ0 κ1 g gd A hD b wd hb w1 w2⟩, ⟨({ frames := 2, cells := 0, slots := 0, locals := 42 } : Room), rfl, rfl, by decide, by decide, fun l D cI cZ sa q A hD => r_watch_1 l D cI cZ sa q μ b wd A hD hb w1 w2⟩, rfl, by decide, watch_1 hI hb w2⟩
set_option maxHeartbeats 4000000 in
theorem sm_flagOffline : Sm_s_flagOffline Inv9 := by
  intro n σ κ0 κ1 μ hn hI a1 a2 a3 w3 g
  obtain ⟨I, hB, hBm, hm0, hs9, e1, e7, h15, h60⟩ := Inv_f hI hn
  have hs8 : μ 0 1 ≤ 2048 := Nat.le_of_lt (Nat.lt_trans hs9 (by decide))
  have hs7 : μ 0 1 < 2048 := Nat.lt_trans hs9 (by decide)
  rw [b2i_n w3]
  obtain ⟨-, C0, C1, R, K0, K1, hct, hl0, hl1⟩ := hI
  have hI : Inv9 n σ κ0 κ1 μ := ⟨I, C0, C1, R, K0, K1, hct, hl0, hl1⟩
  cases hbad : (iw a1 (nI 0) (nI 1) && iw a3 (nI 0) (nI 3))
  · exact ⟨σ, κ0, κ1, sv μ 0 2 1, 1, fun g => g, fun g => g, nI 0, ⟨({ frames := 7, cells := 1, slots := 6, locals := 108 } : Room), rfl, rfl, by decide, by decide, fun l D cI cZ cL cD sa q qo qd g gd A hst hD => w_flagOffline_bad l D cI cZ cL cD sa q qo qd σ κ0 κ1 g gd A hD hst a1 a2 a3 (b2n w3) hbad⟩, ⟨({ frames := 2, cells := 0, slots := 0, locals := 42 } : Room), rfl, rfl, by decide, by decide, fun l D cI cZ sa q A hD => r_flagOffline_bad l D cI cZ sa q μ a1 a2 a3 (b2n w3) A hD hbad⟩, rfl, by decide, fun h => absurd h (by decide), Inv_th 1 hI (by decide)⟩
  · simp only [Bool.and_eq_true] at hbad
    obtain ⟨x1, x3⟩ := hbad
    obtain ⟨k, -, k2, rfl⟩ := iw_of (by decide) (by decide) x3
    have hk : k < 4 := by omega
    rcases cl_cases a1 with h | rfl | rfl
    · rw [h] at x1; exact absurd x1 (by decide)
    · have h4 : κ0 0 4 = μ 16 0 := C0.1.2.2.2.2.1
      have h5 : κ0 0 5 = μ 19 0 := C0.1.2.2.2.2.2
      have h10 : κ0 0 4 ≤ 10 := C0.2.1.2.2.2.1
      have hf10 : κ0 0 5 ≤ 10 := C0.2.1.2.2.2.2
      rcases place_eq C0 hm0 a2 with ⟨p1, p2⟩ | ⟨i, i1, rfl, p1, p2⟩
      · exact ⟨σ, κ0, κ1, sv μ 0 2 1, 1, fun g => g, fun g => g, nI 0, ⟨({ frames := 7, cells := 1, slots := 6, locals := 108 } : Room), rfl, rfl, by decide, by decide, fun l D cI cZ cL cD sa q qo qd g gd A hst hD => w_flagOffline_no0 l D cI cZ cL cD sa q qo qd σ κ0 κ1 g gd A hD hst a2 k (b2n w3) hk h10 p1⟩, ⟨({ frames := 2, cells := 0, slots := 0, locals := 42 } : Room), rfl, rfl, by decide, by decide, fun l D cI cZ sa q A hD => r_flagOffline_no0 l D cI cZ sa q μ a2 k (b2n w3) A hD hk (by rw [← h4]; exact h10) p2⟩, rfl, by decide, fun h => absurd h (by decide), Inv_th 1 hI (by decide)⟩
      · have p3 : plo κ0 (nI (κ0 1 i)) (κ0 0 4) 0 ≠ 0 := by rw [p1]; exact Nat.succ_ne_zero _
        have p4 : wpl μ 0 (nI (κ0 1 i)) (μ 16 0) ≠ 0 := by rw [p2]; exact Nat.succ_ne_zero _
        rcases Nat.lt_or_ge (κ0 0 5) 10 with hf | hf
        · have F := flo_eq (c := 0) (co := 1) (i := i) (k := k) (w := b2n w3) (by decide) (by decide) (by decide) I C0 C1 R K0 i1 hk (b2n_lt w3) hf
          have ew : wpl μ 0 (nI (κ0 1 i)) (μ 16 0) - 1 = 10 * 0 + i := by rw [p2]; rfl
          have ep : plo κ0 (nI (κ0 1 i)) (κ0 0 4) 0 - 1 = i := by rw [p1]; rfl
          obtain ⟨F1, F2, F3, F4, F5⟩ := F
          exact ⟨σ, nte κ0 (plo κ0 (nI (κ0 1 i)) (κ0 0 4) 0 - 1) k (b2n w3), κ1, flo μ 0 (κ0 1 i) k (b2n w3) (wpl μ 0 (nI (κ0 1 i)) (μ 16 0) - 1), 0, fun g => gu g ((nI (κ0 0 5 + 1)).toInt64), fun g => g, nI (μ 19 0 + 1), ⟨({ frames := 7, cells := 1, slots := 6, locals := 108 } : Room), rfl, rfl, by decide, by decide, fun l D cI cZ cL cD sa q qo qd g gd A hst hD => w_flagOffline_ok0 l D cI cZ cL cD sa q qo qd σ κ0 κ1 g gd A hD (nI (κ0 1 i)) k (b2n w3) hk h10 p3 hf K0 (b2n_lt w3)⟩, ⟨({ frames := 2, cells := 0, slots := 0, locals := 42 } : Room), rfl, rfl, by decide, by decide, fun l D cI cZ sa q A hD => r_flagOffline_ok0 l D cI cZ sa q μ (κ0 1 i) k (b2n w3) A hD hk (by rw [← h4]; exact h10) p4 (by rw [← h5]; exact hf) R.1 (b2n_lt w3)⟩, rfl, by decide, fun _ => (gu_at _ _).trans (by rw [h5]), (by rw [ew, ep]; exact ⟨F1, F2, F3, F4, F5, K1, by show μ 0 1 + (κ0 0 5 + 1) + κ1 0 5 ≤ n + 1; omega, Nat.le_succ_of_le hl0, Nat.le_succ_of_le hl1⟩)⟩
        · exact ⟨σ, κ0, κ1, sv μ 0 2 2, 2, fun g => g, fun g => g, nI 0, ⟨({ frames := 7, cells := 1, slots := 6, locals := 108 } : Room), rfl, rfl, by decide, by decide, fun l D cI cZ cL cD sa q qo qd g gd A hst hD => w_flagOffline_full0 l D cI cZ cL cD sa q qo qd σ κ0 κ1 g gd A hD hst (nI (κ0 1 i)) k (b2n w3) hk h10 p3 hf (by omega)⟩, ⟨({ frames := 2, cells := 0, slots := 0, locals := 42 } : Room), rfl, rfl, by decide, by decide, fun l D cI cZ sa q A hD => r_flagOffline_full0 l D cI cZ sa q μ (nI (κ0 1 i)) k (b2n w3) A hD hk (by rw [← h4]; exact h10) p4 (by rw [← h5]; omega)⟩, rfl, by decide, fun h => absurd h (by decide), Inv_th 2 hI (by decide)⟩
    · have h4 : κ1 0 4 = μ 16 1 := C1.1.2.2.2.2.1
      have h5 : κ1 0 5 = μ 19 1 := C1.1.2.2.2.2.2
      have h10 : κ1 0 4 ≤ 10 := C1.2.1.2.2.2.1
      have hf10 : κ1 0 5 ≤ 10 := C1.2.1.2.2.2.2
      rcases place_eq C1 hm0 a2 with ⟨p1, p2⟩ | ⟨i, i1, rfl, p1, p2⟩
      · exact ⟨σ, κ0, κ1, sv μ 0 2 1, 1, fun g => g, fun g => g, nI 0, ⟨({ frames := 7, cells := 1, slots := 6, locals := 108 } : Room), rfl, rfl, by decide, by decide, fun l D cI cZ cL cD sa q qo qd g gd A hst hD => w_flagOffline_no1 l D cI cZ cL cD sa q qo qd σ κ0 κ1 g gd A hD hst a2 k (b2n w3) hk h10 p1⟩, ⟨({ frames := 2, cells := 0, slots := 0, locals := 42 } : Room), rfl, rfl, by decide, by decide, fun l D cI cZ sa q A hD => r_flagOffline_no1 l D cI cZ sa q μ a2 k (b2n w3) A hD hk (by rw [← h4]; exact h10) p2⟩, rfl, by decide, fun h => absurd h (by decide), Inv_th 1 hI (by decide)⟩
      · have p3 : plo κ1 (nI (κ1 1 i)) (κ1 0 4) 0 ≠ 0 := by rw [p1]; exact Nat.succ_ne_zero _
        have p4 : wpl μ 1 (nI (κ1 1 i)) (μ 16 1) ≠ 0 := by rw [p2]; exact Nat.succ_ne_zero _
        rcases Nat.lt_or_ge (κ1 0 5) 10 with hf | hf
        · have F := flo_eq (c := 1) (co := 0) (i := i) (k := k) (w := b2n w3) (by decide) (by decide) (by decide) I C1 C0 R K1 i1 hk (b2n_lt w3) hf
          have ew : wpl μ 1 (nI (κ1 1 i)) (μ 16 1) - 1 = 10 * 1 + i := by rw [p2]; rfl
          have ep : plo κ1 (nI (κ1 1 i)) (κ1 0 4) 0 - 1 = i := by rw [p1]; rfl
          obtain ⟨F1, F2, F3, F4, F5⟩ := F
          exact ⟨σ, κ0, nte κ1 (plo κ1 (nI (κ1 1 i)) (κ1 0 4) 0 - 1) k (b2n w3), flo μ 1 (κ1 1 i) k (b2n w3) (wpl μ 1 (nI (κ1 1 i)) (μ 16 1) - 1), 0, fun g => gu g ((nI (κ1 0 5 + 1)).toInt64), fun g => g, nI (μ 19 1 + 1), ⟨({ frames := 7, cells := 1, slots := 6, locals := 108 } : Room), rfl, rfl, by decide, by decide, fun l D cI cZ cL cD sa q qo qd g gd A hst hD => w_flagOffline_ok1 l D cI cZ cL cD sa q qo qd σ κ0 κ1 g gd A hD (nI (κ1 1 i)) k (b2n w3) hk h10 p3 hf K1 (b2n_lt w3)⟩, ⟨({ frames := 2, cells := 0, slots := 0, locals := 42 } : Room), rfl, rfl, by decide, by decide, fun l D cI cZ sa q A hD => r_flagOffline_ok1 l D cI cZ sa q μ (κ1 1 i) k (b2n w3) A hD hk (by rw [← h4]; exact h10) p4 (by rw [← h5]; exact hf) R.1 (b2n_lt w3)⟩, rfl, by decide, fun _ => (gu_at _ _).trans (by rw [h5]), (by rw [ew, ep]; exact ⟨F1, F3, F2, F4, K0, F5, by show μ 0 1 + κ0 0 5 + (κ1 0 5 + 1) ≤ n + 1; omega, Nat.le_succ_of_le hl0, Nat.le_succ_of_le hl1⟩)⟩
        · exact ⟨σ, κ0, κ1, sv μ 0 2 2, 2, fun g => g, fun g => g, nI 0, ⟨({ frames := 7, cells := 1, slots := 6, locals := 108 } : Room), rfl, rfl, by decide, by decide, fun l D cI cZ cL cD sa q qo qd g gd A hst hD => w_flagOffline_full1 l D cI cZ cL cD sa q qo qd σ κ0 κ1 g gd A hD hst (nI (κ1 1 i)) k (b2n w3) hk h10 p3 hf (by omega)⟩, ⟨({ frames := 2, cells := 0, slots := 0, locals := 42 } : Room), rfl, rfl, by decide, by decide, fun l D cI cZ sa q A hD => r_flagOffline_full1 l D cI cZ sa q μ (nI (κ1 1 i)) k (b2n w3) A hD hk (by rw [← h4]; exact h10) p4 (by rw [← h5]; omega)⟩, rfl, by decide, fun h => absurd h (by decide), Inv_th 2 hI (by decide)⟩
set_option maxHeartbeats 4000000 in
theorem sm_sync : Sm_s_sync Inv9 := by
  intro n σ κ0 κ1 μ hn hI a1 g
  obtain ⟨I, hB, hBm, hm0, hs9, e1, e7, h15, h60⟩ := Inv_f hI hn
  have hs8 : μ 0 1 ≤ 2048 := Nat.le_of_lt (Nat.lt_trans hs9 (by decide))
  have hs7 : μ 0 1 < 2048 := Nat.lt_trans hs9 (by decide)
  obtain ⟨-, C0, C1, R, K0, K1, hct, hl0, hl1⟩ := hI
  have hI : Inv9 n σ κ0 κ1 μ := ⟨I, C0, C1, R, K0, K1, hct, hl0, hl1⟩
  rcases cl_cases a1 with hbad | rfl | rfl
  · exact ⟨σ, κ0, κ1, sv μ 0 2 1, 1, fun g => g, fun g => g, nI 0, ⟨({ frames := 8, cells := 1, slots := 6, locals := 158 } : Room), rfl, rfl, by decide, by decide, fun l D cI cZ cL cD sa q qo qd g gd A hst hD => w_sync_bad l D cI cZ cL cD sa q qo qd σ κ0 κ1 g gd A hD hst a1 hbad⟩, ⟨({ frames := 2, cells := 0, slots := 0, locals := 42 } : Room), rfl, rfl, by decide, by decide, fun l D cI cZ sa q A hD => r_sync_bad l D cI cZ sa q μ a1 A hD hbad⟩, rfl, by decide, fun h => absurd h (by decide), Inv_th 1 hI (by decide)⟩
  · have h2 : κ0 0 2 = μ 15 0 := C0.1.2.2.1
    have h3 : κ0 0 3 = μ 23 0 := C0.1.2.2.2.1
    have h5 : κ0 0 5 = μ 19 0 := C0.1.2.2.2.2.2
    have hsy : κ0 0 2 ≤ μ 0 1 := C0.2.1.2.2.1
    have hf10 : κ0 0 5 ≤ 10 := C0.2.1.2.2.2.2
    have h14 : μ 14 0 ≤ 10 := by rw [← C0.1.2.1]; exact C0.2.1.2.1
    have hBs : ∀ k i, σ k i < 1000000000 := fun k i => Nat.lt_trans (I.2.2.2.2.2.2.2.2.1 k i) (by decide)
    cases hv : decide (μ 0 1 - μ 15 0 ≤ 40)
    · have KA : CI (sv κ0 0 3 (κ0 0 3 + 1)) := ⟨K0.1, K0.2.1, K0.2.2.1, K0.2.2.2.1, K0.2.2.2.2.1, sv_lt K0.2.2.2.2.2 (by omega)⟩
      have S := sync_all (cl := 0) (co := 1) (κ' := (sv κ0 0 3 (κ0 0 3 + 1))) (cd := false) (by decide) (by decide) (by decide) I C0 C1 R KA (by omega) (by omega) rfl rfl rfl rfl rfl rfl rfl rfl rfl hv rfl
      obtain ⟨⟨s1, s2, s3, s4, s5, s6, s7, s8⟩, t1, t2, t3, t4, t5, t6, t7, t8, t9, t10⟩ := S
      exact ⟨syS σ (sv κ0 0 3 (κ0 0 3 + 1)), syD σ (sv κ0 0 3 (κ0 0 3 + 1)), κ1, sye μ 0 false, 0, fun g => gu g ((nI (κ0 0 5 - (syB σ (sv κ0 0 3 (κ0 0 3 + 1))) 0 5)).toInt64), fun g => g, nI ((sfin μ 0 false).2), ⟨({ frames := 8, cells := 1, slots := 6, locals := 158 } : Room), rfl, rfl, by decide, by decide, fun l D cI cZ cL cD sa q qo qd g gd A hst hD => w_sync_n0 l D cI cZ cL cD sa q qo qd σ κ0 κ1 g gd A hD hBs (by rw [e7, h2]; exact hv) (by rw [e7]; exact hsy) KA hf10 s1 h15 s2 s3 s4 s5 s6 s7 s8⟩, ⟨({ frames := 4, cells := 0, slots := 0, locals := 94 } : Room), rfl, rfl, by decide, by decide, fun l D cI cZ sa q A hD => r_sync_n0 l D cI cZ sa q μ  A hD hBm hm0 hv (by rw [← h2]; exact hsy) (by rw [← h5]; exact hf10) (by rw [← h5]; omega) R.2.1 R.2.2.1 R.2.2.2 h14 (by rw [← h3]; omega)⟩, t10, by decide, fun _ => (gu_at _ _).trans (by rw [t1]), ⟨t2, t3, t4, t5, t6, K1, by rw [t8]; omega, by rw [t9]; show κ0 0 3 + 1 ≤ n + 1; omega, Nat.le_succ_of_le hl1⟩⟩
    · have S := sync_all (cl := 0) (co := 1) (κ' := κ0) (cd := true) (by decide) (by decide) (by decide) I C0 C1 R K0 (by omega) (by omega) rfl rfl rfl rfl rfl rfl rfl rfl rfl hv rfl
      have KA := K0
      obtain ⟨⟨s1, s2, s3, s4, s5, s6, s7, s8⟩, t1, t2, t3, t4, t5, t6, t7, t8, t9, t10⟩ := S
      exact ⟨syS σ κ0, syD σ κ0, κ1, sye μ 0 true, 0, fun g => gu g ((nI (κ0 0 5 - (syB σ κ0) 0 5)).toInt64), fun g => g, nI ((sfin μ 0 true).2), ⟨({ frames := 8, cells := 1, slots := 6, locals := 158 } : Room), rfl, rfl, by decide, by decide, fun l D cI cZ cL cD sa q qo qd g gd A hst hD => w_sync_y0 l D cI cZ cL cD sa q qo qd σ κ0 κ1 g gd A hD hBs (by rw [e7, h2]; exact hv) (by rw [e7]; exact hsy) KA hf10 s1 h15 s2 s3 s4 s5 s6 s7 s8⟩, ⟨({ frames := 4, cells := 0, slots := 0, locals := 94 } : Room), rfl, rfl, by decide, by decide, fun l D cI cZ sa q A hD => r_sync_y0 l D cI cZ sa q μ  A hD hBm hm0 hv (by rw [← h2]; exact hsy) (by rw [← h5]; exact hf10) (by rw [← h5]; omega) R.2.1 R.2.2.1 R.2.2.2 h14 (by rw [← h3]; omega)⟩, t10, by decide, fun _ => (gu_at _ _).trans (by rw [t1]), ⟨t2, t3, t4, t5, t6, K1, by rw [t8]; omega, by rw [t9]; show κ0 0 3 + 0 ≤ n + 1; omega, Nat.le_succ_of_le hl1⟩⟩
  · have h2 : κ1 0 2 = μ 15 1 := C1.1.2.2.1
    have h3 : κ1 0 3 = μ 23 1 := C1.1.2.2.2.1
    have h5 : κ1 0 5 = μ 19 1 := C1.1.2.2.2.2.2
    have hsy : κ1 0 2 ≤ μ 0 1 := C1.2.1.2.2.1
    have hf10 : κ1 0 5 ≤ 10 := C1.2.1.2.2.2.2
    have h14 : μ 14 1 ≤ 10 := by rw [← C1.1.2.1]; exact C1.2.1.2.1
    have hBs : ∀ k i, σ k i < 1000000000 := fun k i => Nat.lt_trans (I.2.2.2.2.2.2.2.2.1 k i) (by decide)
    cases hv : decide (μ 0 1 - μ 15 1 ≤ 40)
    · have KA : CI (sv κ1 0 3 (κ1 0 3 + 1)) := ⟨K1.1, K1.2.1, K1.2.2.1, K1.2.2.2.1, K1.2.2.2.2.1, sv_lt K1.2.2.2.2.2 (by omega)⟩
      have S := sync_all (cl := 1) (co := 0) (κ' := (sv κ1 0 3 (κ1 0 3 + 1))) (cd := false) (by decide) (by decide) (by decide) I C1 C0 R KA (by omega) (by omega) rfl rfl rfl rfl rfl rfl rfl rfl rfl hv rfl
      obtain ⟨⟨s1, s2, s3, s4, s5, s6, s7, s8⟩, t1, t2, t3, t4, t5, t6, t7, t8, t9, t10⟩ := S
      exact ⟨syS σ (sv κ1 0 3 (κ1 0 3 + 1)), κ0, syD σ (sv κ1 0 3 (κ1 0 3 + 1)), sye μ 1 false, 0, fun g => gu g ((nI (κ1 0 5 - (syB σ (sv κ1 0 3 (κ1 0 3 + 1))) 0 5)).toInt64), fun g => g, nI ((sfin μ 1 false).2), ⟨({ frames := 8, cells := 1, slots := 6, locals := 158 } : Room), rfl, rfl, by decide, by decide, fun l D cI cZ cL cD sa q qo qd g gd A hst hD => w_sync_n1 l D cI cZ cL cD sa q qo qd σ κ0 κ1 g gd A hD hBs (by rw [e7, h2]; exact hv) (by rw [e7]; exact hsy) KA hf10 s1 h15 s2 s3 s4 s5 s6 s7 s8⟩, ⟨({ frames := 4, cells := 0, slots := 0, locals := 94 } : Room), rfl, rfl, by decide, by decide, fun l D cI cZ sa q A hD => r_sync_n1 l D cI cZ sa q μ  A hD hBm hm0 hv (by rw [← h2]; exact hsy) (by rw [← h5]; exact hf10) (by rw [← h5]; omega) R.2.1 R.2.2.1 R.2.2.2 h14 (by rw [← h3]; omega)⟩, t10, by decide, fun _ => (gu_at _ _).trans (by rw [t1]), ⟨t2, t4, t3, t5, K0, t6, by rw [t8]; omega, Nat.le_succ_of_le hl0, by rw [t9]; show κ1 0 3 + 1 ≤ n + 1; omega⟩⟩
    · have S := sync_all (cl := 1) (co := 0) (κ' := κ1) (cd := true) (by decide) (by decide) (by decide) I C1 C0 R K1 (by omega) (by omega) rfl rfl rfl rfl rfl rfl rfl rfl rfl hv rfl
      have KA := K1
      obtain ⟨⟨s1, s2, s3, s4, s5, s6, s7, s8⟩, t1, t2, t3, t4, t5, t6, t7, t8, t9, t10⟩ := S
      exact ⟨syS σ κ1, κ0, syD σ κ1, sye μ 1 true, 0, fun g => gu g ((nI (κ1 0 5 - (syB σ κ1) 0 5)).toInt64), fun g => g, nI ((sfin μ 1 true).2), ⟨({ frames := 8, cells := 1, slots := 6, locals := 158 } : Room), rfl, rfl, by decide, by decide, fun l D cI cZ cL cD sa q qo qd g gd A hst hD => w_sync_y1 l D cI cZ cL cD sa q qo qd σ κ0 κ1 g gd A hD hBs (by rw [e7, h2]; exact hv) (by rw [e7]; exact hsy) KA hf10 s1 h15 s2 s3 s4 s5 s6 s7 s8⟩, ⟨({ frames := 4, cells := 0, slots := 0, locals := 94 } : Room), rfl, rfl, by decide, by decide, fun l D cI cZ sa q A hD => r_sync_y1 l D cI cZ sa q μ  A hD hBm hm0 hv (by rw [← h2]; exact hsy) (by rw [← h5]; exact hf10) (by rw [← h5]; omega) R.2.1 R.2.2.1 R.2.2.2 h14 (by rw [← h3]; omega)⟩, t10, by decide, fun _ => (gu_at _ _).trans (by rw [t1]), ⟨t2, t4, t3, t5, K0, t6, by rw [t8]; omega, Nat.le_succ_of_le hl0, by rw [t9]; show κ1 0 3 + 0 ≤ n + 1; omega⟩⟩
set_option maxHeartbeats 4000000 in
theorem sm_stateOf : Sm_s_stateOf Inv9 := by
  intro n σ κ0 κ1 μ hn hI a1 g
  obtain ⟨I, hB, hBm, hm0, hs9, e1, e7, h15, h60⟩ := Inv_f hI hn
  have hs8 : μ 0 1 ≤ 2048 := Nat.le_of_lt (Nat.lt_trans hs9 (by decide))
  have hs7 : μ 0 1 < 2048 := Nat.lt_trans hs9 (by decide)
  rcases cl_cases a1 with hbad | rfl | rfl
  · exact ⟨σ, κ0, κ1, sv μ 0 2 1, 1, fun g => g, fun g => g, nI 0, ⟨({ frames := 8, cells := 1, slots := 6, locals := 123 } : Room), rfl, rfl, by decide, by decide, fun l D cI cZ cL cD sa q qo qd g gd A hst hD => w_stateOf_bad l D cI cZ cL cD sa q qo qd σ κ0 κ1 g gd A hD hst a1 hbad⟩, ⟨({ frames := 2, cells := 0, slots := 0, locals := 42 } : Room), rfl, rfl, by decide, by decide, fun l D cI cZ sa q A hD => r_stateOf_bad l D cI cZ sa q μ a1 A hD hbad⟩, rfl, by decide, fun h => absurd h (by decide), Inv_th 1 hI (by decide)⟩
  · have h2 : κ0 0 2 = μ 15 0 := hI.2.1.1.2.2.1
    exact ⟨σ, κ0, κ1, sv μ 0 2 0, 0, fun g => gu g ((nI (κ0 0 2)).toInt64), fun g => g, nI (μ 15 0), ⟨({ frames := 8, cells := 1, slots := 6, locals := 123 } : Room), rfl, rfl, by decide, by decide, fun l D cI cZ cL cD sa q qo qd g gd A hst hD => w_stateOf_0 l D cI cZ cL cD sa q qo qd σ κ0 κ1 g gd A hD ⟩, ⟨({ frames := 2, cells := 0, slots := 0, locals := 42 } : Room), rfl, rfl, by decide, by decide, fun l D cI cZ sa q A hD => r_stateOf_0 l D cI cZ sa q μ  A hD ⟩, rfl, by decide, fun _ => (gu_at _ _).trans (by rw [h2]), Inv_th 0 hI (by decide)⟩
  · have h2 : κ1 0 2 = μ 15 1 := hI.2.2.1.1.2.2.1
    exact ⟨σ, κ0, κ1, sv μ 0 2 0, 0, fun g => gu g ((nI (κ1 0 2)).toInt64), fun g => g, nI (μ 15 1), ⟨({ frames := 8, cells := 1, slots := 6, locals := 123 } : Room), rfl, rfl, by decide, by decide, fun l D cI cZ cL cD sa q qo qd g gd A hst hD => w_stateOf_1 l D cI cZ cL cD sa q qo qd σ κ0 κ1 g gd A hD ⟩, ⟨({ frames := 2, cells := 0, slots := 0, locals := 42 } : Room), rfl, rfl, by decide, by decide, fun l D cI cZ sa q A hD => r_stateOf_1 l D cI cZ sa q μ  A hD ⟩, rfl, by decide, fun _ => (gu_at _ _).trans (by rw [h2]), Inv_th 0 hI (by decide)⟩
set_option maxHeartbeats 4000000 in
theorem sm_window : Sm_s_window Inv9 := by
  intro n σ κ0 κ1 μ hn hI a1 g
  obtain ⟨I, hB, hBm, hm0, hs9, e1, e7, h15, h60⟩ := Inv_f hI hn
  have hs8 : μ 0 1 ≤ 2048 := Nat.le_of_lt (Nat.lt_trans hs9 (by decide))
  have hs7 : μ 0 1 < 2048 := Nat.lt_trans hs9 (by decide)
  rcases cl_cases a1 with hbad | rfl | rfl
  · exact ⟨σ, κ0, κ1, sv μ 0 2 1, 1, fun g => g, fun g => g, nI 0, ⟨({ frames := 8, cells := 1, slots := 6, locals := 123 } : Room), rfl, rfl, by decide, by decide, fun l D cI cZ cL cD sa q qo qd g gd A hst hD => w_window_bad l D cI cZ cL cD sa q qo qd σ κ0 κ1 g gd A hD hst a1 hbad⟩, ⟨({ frames := 2, cells := 0, slots := 0, locals := 42 } : Room), rfl, rfl, by decide, by decide, fun l D cI cZ sa q A hD => r_window_bad l D cI cZ sa q μ a1 A hD hbad⟩, rfl, by decide, fun h => absurd h (by decide), Inv_th 1 hI (by decide)⟩
  · have h2 : κ0 0 4 = μ 16 0 := hI.2.1.1.2.2.2.2.1
    exact ⟨σ, κ0, κ1, sv μ 0 2 0, 0, fun g => gu g ((nI (κ0 0 4)).toInt64), fun g => g, nI (μ 16 0), ⟨({ frames := 8, cells := 1, slots := 6, locals := 123 } : Room), rfl, rfl, by decide, by decide, fun l D cI cZ cL cD sa q qo qd g gd A hst hD => w_window_0 l D cI cZ cL cD sa q qo qd σ κ0 κ1 g gd A hD ⟩, ⟨({ frames := 2, cells := 0, slots := 0, locals := 42 } : Room), rfl, rfl, by decide, by decide, fun l D cI cZ sa q A hD => r_window_0 l D cI cZ sa q μ  A hD ⟩, rfl, by decide, fun _ => (gu_at _ _).trans (by rw [h2]), Inv_th 0 hI (by decide)⟩
  · have h2 : κ1 0 4 = μ 16 1 := hI.2.2.1.1.2.2.2.2.1
    exact ⟨σ, κ0, κ1, sv μ 0 2 0, 0, fun g => gu g ((nI (κ1 0 4)).toInt64), fun g => g, nI (μ 16 1), ⟨({ frames := 8, cells := 1, slots := 6, locals := 123 } : Room), rfl, rfl, by decide, by decide, fun l D cI cZ cL cD sa q qo qd g gd A hst hD => w_window_1 l D cI cZ cL cD sa q qo qd σ κ0 κ1 g gd A hD ⟩, ⟨({ frames := 2, cells := 0, slots := 0, locals := 42 } : Room), rfl, rfl, by decide, by decide, fun l D cI cZ sa q A hD => r_window_1 l D cI cZ sa q μ  A hD ⟩, rfl, by decide, fun _ => (gu_at _ _).trans (by rw [h2]), Inv_th 0 hI (by decide)⟩
set_option maxHeartbeats 4000000 in
theorem sm_freshLoads : Sm_s_freshLoads Inv9 := by
  intro n σ κ0 κ1 μ hn hI a1 g
  obtain ⟨I, hB, hBm, hm0, hs9, e1, e7, h15, h60⟩ := Inv_f hI hn
  have hs8 : μ 0 1 ≤ 2048 := Nat.le_of_lt (Nat.lt_trans hs9 (by decide))
  have hs7 : μ 0 1 < 2048 := Nat.lt_trans hs9 (by decide)
  rcases cl_cases a1 with hbad | rfl | rfl
  · exact ⟨σ, κ0, κ1, sv μ 0 2 1, 1, fun g => g, fun g => g, nI 0, ⟨({ frames := 8, cells := 1, slots := 6, locals := 123 } : Room), rfl, rfl, by decide, by decide, fun l D cI cZ cL cD sa q qo qd g gd A hst hD => w_freshLoads_bad l D cI cZ cL cD sa q qo qd σ κ0 κ1 g gd A hD hst a1 hbad⟩, ⟨({ frames := 2, cells := 0, slots := 0, locals := 42 } : Room), rfl, rfl, by decide, by decide, fun l D cI cZ sa q A hD => r_freshLoads_bad l D cI cZ sa q μ a1 A hD hbad⟩, rfl, by decide, fun h => absurd h (by decide), Inv_th 1 hI (by decide)⟩
  · have h2 : κ0 0 3 = μ 23 0 := hI.2.1.1.2.2.2.1
    exact ⟨σ, κ0, κ1, sv μ 0 2 0, 0, fun g => gu g ((nI (κ0 0 3)).toInt64), fun g => g, nI (μ 23 0), ⟨({ frames := 8, cells := 1, slots := 6, locals := 123 } : Room), rfl, rfl, by decide, by decide, fun l D cI cZ cL cD sa q qo qd g gd A hst hD => w_freshLoads_0 l D cI cZ cL cD sa q qo qd σ κ0 κ1 g gd A hD ⟩, ⟨({ frames := 2, cells := 0, slots := 0, locals := 42 } : Room), rfl, rfl, by decide, by decide, fun l D cI cZ sa q A hD => r_freshLoads_0 l D cI cZ sa q μ  A hD ⟩, rfl, by decide, fun _ => (gu_at _ _).trans (by rw [h2]), Inv_th 0 hI (by decide)⟩
  · have h2 : κ1 0 3 = μ 23 1 := hI.2.2.1.1.2.2.2.1
    exact ⟨σ, κ0, κ1, sv μ 0 2 0, 0, fun g => gu g ((nI (κ1 0 3)).toInt64), fun g => g, nI (μ 23 1), ⟨({ frames := 8, cells := 1, slots := 6, locals := 123 } : Room), rfl, rfl, by decide, by decide, fun l D cI cZ cL cD sa q qo qd g gd A hst hD => w_freshLoads_1 l D cI cZ cL cD sa q qo qd σ κ0 κ1 g gd A hD ⟩, ⟨({ frames := 2, cells := 0, slots := 0, locals := 42 } : Room), rfl, rfl, by decide, by decide, fun l D cI cZ sa q A hD => r_freshLoads_1 l D cI cZ sa q μ  A hD ⟩, rfl, by decide, fun _ => (gu_at _ _).trans (by rw [h2]), Inv_th 0 hI (by decide)⟩
set_option maxHeartbeats 4000000 in
theorem sm_windowAt : Sm_s_windowAt Inv9 := by
  intro n σ κ0 κ1 μ hn hI a1 a2 g
  obtain ⟨I, hB, hBm, hm0, hs9, e1, e7, h15, h60⟩ := Inv_f hI hn
  have hs8 : μ 0 1 ≤ 2048 := Nat.le_of_lt (Nat.lt_trans hs9 (by decide))
  have hs7 : μ 0 1 < 2048 := Nat.lt_trans hs9 (by decide)
  rcases cl_cases a1 with hbad | rfl | rfl
  · exact ⟨σ, κ0, κ1, sv μ 0 2 1, 1, fun g => g, fun g => g, nI 0, ⟨({ frames := 8, cells := 1, slots := 6, locals := 125 } : Room), rfl, rfl, by decide, by decide, fun l D cI cZ cL cD sa q qo qd g gd A hst hD => w_windowAt_bad l D cI cZ cL cD sa q qo qd σ κ0 κ1 g gd A hD hst a1 a2 hbad⟩, ⟨({ frames := 2, cells := 0, slots := 0, locals := 42 } : Room), rfl, rfl, by decide, by decide, fun l D cI cZ sa q A hD => r_windowAt_bad l D cI cZ sa q μ a1 a2 A hD hbad⟩, rfl, by decide, fun h => absurd h (by decide), Inv_th 1 hI (by decide)⟩
  · have h4 : κ0 0 4 = μ 16 0 := hI.2.1.1.2.2.2.2.1
    have h10 : κ0 0 4 ≤ 10 := hI.2.1.2.1.2.2.2.1
    cases hz : iw a2 (nI 0) (oi (μ 16 0))
    · exact ⟨σ, κ0, κ1, sv μ 0 2 2, 2, fun g => g, fun g => g, nI 0, ⟨({ frames := 8, cells := 1, slots := 6, locals := 125 } : Room), rfl, rfl, by decide, by decide, fun l D cI cZ cL cD sa q qo qd g gd A hst hD => w_windowAt_no0 l D cI cZ cL cD sa q qo qd σ κ0 κ1 g gd A hD hst a2 (by rw [hpl_eq h10, h4]; exact hz)⟩, ⟨({ frames := 2, cells := 0, slots := 0, locals := 42 } : Room), rfl, rfl, by decide, by decide, fun l D cI cZ sa q A hD => r_windowAt_no0 l D cI cZ sa q μ a2 A hD hz⟩, rfl, by decide, fun h => absurd h (by decide), Inv_th 2 hI (by decide)⟩
    · obtain ⟨j, hj, rfl⟩ := iw_get (by omega) hz
      have hv := (hI.2.1.2.2.1 j (by omega)).1
      exact ⟨σ, κ0, κ1, sv μ 0 2 0, 0, fun g => gu g ((nI (κ0 1 j)).toInt64), fun g => g, nI (μ 17 (10 * 0 + j)), ⟨({ frames := 8, cells := 1, slots := 6, locals := 125 } : Room), rfl, rfl, by decide, by decide, fun l D cI cZ cL cD sa q qo qd g gd A hst hD => w_windowAt_ok0 l D cI cZ cL cD sa q qo qd σ κ0 κ1 g gd A hD j (by rw [h4]; exact hj) h10⟩, ⟨({ frames := 2, cells := 0, slots := 0, locals := 42 } : Room), rfl, rfl, by decide, by decide, fun l D cI cZ sa q A hD => r_windowAt_ok0 l D cI cZ sa q μ j A hD hj (by rw [← h4]; exact h10)⟩, rfl, by decide, fun _ => (gu_at _ _).trans (by rw [hv]), Inv_th 0 hI (by decide)⟩
  · have h4 : κ1 0 4 = μ 16 1 := hI.2.2.1.1.2.2.2.2.1
    have h10 : κ1 0 4 ≤ 10 := hI.2.2.1.2.1.2.2.2.1
    cases hz : iw a2 (nI 0) (oi (μ 16 1))
    · exact ⟨σ, κ0, κ1, sv μ 0 2 2, 2, fun g => g, fun g => g, nI 0, ⟨({ frames := 8, cells := 1, slots := 6, locals := 125 } : Room), rfl, rfl, by decide, by decide, fun l D cI cZ cL cD sa q qo qd g gd A hst hD => w_windowAt_no1 l D cI cZ cL cD sa q qo qd σ κ0 κ1 g gd A hD hst a2 (by rw [hpl_eq h10, h4]; exact hz)⟩, ⟨({ frames := 2, cells := 0, slots := 0, locals := 42 } : Room), rfl, rfl, by decide, by decide, fun l D cI cZ sa q A hD => r_windowAt_no1 l D cI cZ sa q μ a2 A hD hz⟩, rfl, by decide, fun h => absurd h (by decide), Inv_th 2 hI (by decide)⟩
    · obtain ⟨j, hj, rfl⟩ := iw_get (by omega) hz
      have hv := (hI.2.2.1.2.2.1 j (by omega)).1
      exact ⟨σ, κ0, κ1, sv μ 0 2 0, 0, fun g => gu g ((nI (κ1 1 j)).toInt64), fun g => g, nI (μ 17 (10 * 1 + j)), ⟨({ frames := 8, cells := 1, slots := 6, locals := 125 } : Room), rfl, rfl, by decide, by decide, fun l D cI cZ cL cD sa q qo qd g gd A hst hD => w_windowAt_ok1 l D cI cZ cL cD sa q qo qd σ κ0 κ1 g gd A hD j (by rw [h4]; exact hj) h10⟩, ⟨({ frames := 2, cells := 0, slots := 0, locals := 42 } : Room), rfl, rfl, by decide, by decide, fun l D cI cZ sa q A hD => r_windowAt_ok1 l D cI cZ sa q μ j A hD hj (by rw [← h4]; exact h10)⟩, rfl, by decide, fun _ => (gu_at _ _).trans (by rw [hv]), Inv_th 0 hI (by decide)⟩
set_option maxHeartbeats 4000000 in
theorem sm_known : Sm_s_known Inv9 := by
  intro n σ κ0 κ1 μ hn hI a1 a2 g
  obtain ⟨I, hB, hBm, hm0, hs9, e1, e7, h15, h60⟩ := Inv_f hI hn
  have hs8 : μ 0 1 ≤ 2048 := Nat.le_of_lt (Nat.lt_trans hs9 (by decide))
  have hs7 : μ 0 1 < 2048 := Nat.lt_trans hs9 (by decide)
  rcases cl_cases a1 with hbad | rfl | rfl
  · exact ⟨σ, κ0, κ1, sv μ 0 2 1, 1, fun g => g, fun g => g, nI 0, ⟨({ frames := 8, cells := 1, slots := 6, locals := 125 } : Room), rfl, rfl, by decide, by decide, fun l D cI cZ cL cD sa q qo qd g gd A hst hD => w_known_bad l D cI cZ cL cD sa q qo qd σ κ0 κ1 g gd A hD hst a1 a2 hbad⟩, ⟨({ frames := 2, cells := 0, slots := 0, locals := 42 } : Room), rfl, rfl, by decide, by decide, fun l D cI cZ sa q A hD => r_known_bad l D cI cZ sa q μ a1 a2 A hD hbad⟩, rfl, by decide, fun h => absurd h (by decide), Inv_th 1 hI (by decide)⟩
  · have h4 : κ0 0 4 = μ 16 0 := hI.2.1.1.2.2.2.2.1
    have h10 : κ0 0 4 ≤ 10 := hI.2.1.2.1.2.2.2.1
    cases hz : iw a2 (nI 0) (oi (μ 16 0))
    · exact ⟨σ, κ0, κ1, sv μ 0 2 2, 2, fun g => g, fun g => g, nI 0, ⟨({ frames := 8, cells := 1, slots := 6, locals := 125 } : Room), rfl, rfl, by decide, by decide, fun l D cI cZ cL cD sa q qo qd g gd A hst hD => w_known_no0 l D cI cZ cL cD sa q qo qd σ κ0 κ1 g gd A hD hst a2 (by rw [hpl_eq h10, h4]; exact hz)⟩, ⟨({ frames := 2, cells := 0, slots := 0, locals := 42 } : Room), rfl, rfl, by decide, by decide, fun l D cI cZ sa q A hD => r_known_no0 l D cI cZ sa q μ a2 A hD hz⟩, rfl, by decide, fun h => absurd h (by decide), Inv_th 2 hI (by decide)⟩
    · obtain ⟨j, hj, rfl⟩ := iw_get (by omega) hz
      have hv := (hI.2.1.2.2.1 j (by omega)).2
      exact ⟨σ, κ0, κ1, sv μ 0 2 0, 0, fun g => gu g ((nI (κ0 2 j)).toInt64), fun g => g, nI (μ 18 (10 * 0 + j)), ⟨({ frames := 8, cells := 1, slots := 6, locals := 125 } : Room), rfl, rfl, by decide, by decide, fun l D cI cZ cL cD sa q qo qd g gd A hst hD => w_known_ok0 l D cI cZ cL cD sa q qo qd σ κ0 κ1 g gd A hD j (by rw [h4]; exact hj) h10⟩, ⟨({ frames := 2, cells := 0, slots := 0, locals := 42 } : Room), rfl, rfl, by decide, by decide, fun l D cI cZ sa q A hD => r_known_ok0 l D cI cZ sa q μ j A hD hj (by rw [← h4]; exact h10)⟩, rfl, by decide, fun _ => (gu_at _ _).trans (by rw [hv]), Inv_th 0 hI (by decide)⟩
  · have h4 : κ1 0 4 = μ 16 1 := hI.2.2.1.1.2.2.2.2.1
    have h10 : κ1 0 4 ≤ 10 := hI.2.2.1.2.1.2.2.2.1
    cases hz : iw a2 (nI 0) (oi (μ 16 1))
    · exact ⟨σ, κ0, κ1, sv μ 0 2 2, 2, fun g => g, fun g => g, nI 0, ⟨({ frames := 8, cells := 1, slots := 6, locals := 125 } : Room), rfl, rfl, by decide, by decide, fun l D cI cZ cL cD sa q qo qd g gd A hst hD => w_known_no1 l D cI cZ cL cD sa q qo qd σ κ0 κ1 g gd A hD hst a2 (by rw [hpl_eq h10, h4]; exact hz)⟩, ⟨({ frames := 2, cells := 0, slots := 0, locals := 42 } : Room), rfl, rfl, by decide, by decide, fun l D cI cZ sa q A hD => r_known_no1 l D cI cZ sa q μ a2 A hD hz⟩, rfl, by decide, fun h => absurd h (by decide), Inv_th 2 hI (by decide)⟩
    · obtain ⟨j, hj, rfl⟩ := iw_get (by omega) hz
      have hv := (hI.2.2.1.2.2.1 j (by omega)).2
      exact ⟨σ, κ0, κ1, sv μ 0 2 0, 0, fun g => gu g ((nI (κ1 2 j)).toInt64), fun g => g, nI (μ 18 (10 * 1 + j)), ⟨({ frames := 8, cells := 1, slots := 6, locals := 125 } : Room), rfl, rfl, by decide, by decide, fun l D cI cZ cL cD sa q qo qd g gd A hst hD => w_known_ok1 l D cI cZ cL cD sa q qo qd σ κ0 κ1 g gd A hD j (by rw [h4]; exact hj) h10⟩, ⟨({ frames := 2, cells := 0, slots := 0, locals := 42 } : Room), rfl, rfl, by decide, by decide, fun l D cI cZ sa q A hD => r_known_ok1 l D cI cZ sa q μ j A hD hj (by rw [← h4]; exact h10)⟩, rfl, by decide, fun _ => (gu_at _ _).trans (by rw [hv]), Inv_th 0 hI (by decide)⟩
