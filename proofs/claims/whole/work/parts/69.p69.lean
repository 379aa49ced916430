section CLS6
variable {M H S : MM} {LV : LVT} {h c : Nat}
/-- the loop of hours -/
theorem c_run (hh : h = 8 ∨ h = 31) (hc : c = 54 ∨ c = 62 ∨ c = 70) (hH : HC M h H) (hHo : HOK H) (hC : CC M c S) (hSo : SOK H S) (hP : SP S) (hz : S 0 1 = (h : Int)) (hL : CL M h LV) (hLc : LVc LV) (hLr : LVr LV) (hs : S 1 9 = 0 ∨ r32 (S 1 10)) {n : Nat} (hn : S 0 2 + n ≤ 20000) (hn2 : n < 999999) : ∃ M', f_X0_run M c (n : Int) = some M' ∧ (CC M' c (aRun H LV S n) ∧ SOK H (aRun H LV S n) ∧ SP (aRun H LV S n) ∧ Fr3 h c M' M) ∧ aRun H LV S n 0 1 = (h : Int) ∧ aRun H LV S n 0 2 = S 0 2 + n ∧ aRun H LV S n 1 9 = S 1 9 ∧ (aRun H LV S n 1 9 = 0 ∨ r32 (aRun H LV S n 1 10)) := by
  unfold f_X0_run
  have := lp_cnt (step := (fun x1 : Int × MM =>
    if x1.1 < (n : Int) then
    (gH (x1.2 c 1) fun b3 =>
    (f_X2_outAt x1.2 b3 (x1.2 c 2)).bind fun x4 =>
    (f_X10_outOf x1.2 (c + 1) x4).bind fun x5 =>
    bM (upM x5.2 c 6 x5.1) fun M6 =>
    (f_X0_isOn M6 c).bind fun x7 =>
    ((if x7 = 0 then
    (some M6)
    else
    gH (M6 c 1) fun b9 =>
    bM (upM M6 c 13 (w32 ((M6 c 13) + (M6 b9 11)))) fun M10 =>
    bM (upM M10 c 14 (w32 ((M10 c 14) + 1))) fun M11 =>
    some M11) : Option (MM)).bind fun x12 =>
    (f_X0_changeRooms x12 c x7).bind fun x13 =>
    ((if (x13 (c + 1) 0) = 0 then
    ((f_X0_turnKnob x13 c).bind fun x15 =>
    some x15)
    else
    some x13) : Option (MM)).bind fun x16 =>
    ((if (x16 (c + 1) 1) = 0 then
    ((f_X0_crossPeople x16 c).bind fun x18 =>
    some x18)
    else
    some x16) : Option (MM)).bind fun x19 =>
    bM (upM x19 c 2 (w32 ((x19 c 2) + 1))) fun M20 =>
    some (Sum.inl (w32 (x1.1 + 1), M20)))
    else
    some (Sum.inr x1.2))) n (fun k m => (CC m c (aRun H LV S k) ∧ SOK H (aRun H LV S k) ∧ SP (aRun H LV S k) ∧ Fr3 h c m M) ∧ aRun H LV S k 0 1 = (h : Int) ∧ aRun H LV S k 0 2 = S 0 2 + k ∧ aRun H LV S k 1 9 = S 1 9 ∧ (aRun H LV S k 1 9 = 0 ∨ r32 (aRun H LV S k 1 10))) (fun m => (CC m c (aRun H LV S n) ∧ SOK H (aRun H LV S n) ∧ SP (aRun H LV S n) ∧ Fr3 h c m M) ∧ aRun H LV S n 0 1 = (h : Int) ∧ aRun H LV S n 0 2 = S 0 2 + n ∧ aRun H LV S n 1 9 = S 1 9 ∧ (aRun H LV S n 1 9 = 0 ∨ r32 (aRun H LV S n 1 10))) hn2 ?_ ?_ M ⟨⟨hC, hSo, hP, Fr3.rf⟩, hz, by show S 0 2 = S 0 2 + (0 : Int); omega, rfl, hs⟩
  · exact this
  · rintro k m hk ⟨⟨hCm, hSm, hPm, fm⟩, z01, z02, z19, zs⟩
    left
    have hHm := fm.HC (by omega) hH
    have hLm := fm.CL (by omega) hL
    have hT : aRun H LV S (k + 1) = aStep H LV (aRun H LV S k) := rfl
    rw [hT]
    rw [← z19] at *
    generalize aRun H LV S k = s at hCm hSm hPm z01 z02 zs ⊢
    have ht := hSm.1
    have hor := aO_r (S := s) hHo
    obtain ⟨m1, e1, c1, f1⟩ := c_outOf hHo hCm zs
    have hS1 := SOK_6 (o := aO H s) (SOK_seed hSm)
    have hP1 : SP (upM (aSeed s) 0 6 (aO H s)) := by unfold SP at *; simp (disch := omega) only [up_ni, aSeed_a]; exact hPm
    have c2 := c1.up0 (i := 6) (v := aO H s)
    have f2 : Fr3 h c (upM m1 c 6 (aO H s)) M := fun a a1 a2 a3 => by rw [up_row (by omega), f1 a (by omega)]; exact fm a a1 a2 a3
    have hH2 := f2.HC (by omega) hH
    have hL2 := f2.CL (by omega) hL
    have z2 : upM (aSeed s) 0 6 (aO H s) 0 1 = (h : Int) := by rw [up_ni (by omega), aSeed_a (by omega), z01]
    have eon := c_isOn hh hH2 hHo c2 hS1 z2
    have hpr := hHo.2.2.2.2.2.2.1
    have h13 := hS1.2.2.2.2.1
    have h14 := hS1.2.2.2.2.2.1
    have h02 := hS1.1
    unfold SP at hP1
    obtain ⟨m3, e3, c3, f3⟩ : ∃ m3, ((if b1 (aOn H (upM (aSeed s) 0 6 (aO H s))) = 0 then (some (upM m1 c 6 (aO H s))) else gH ((upM m1 c 6 (aO H s)) c 1) fun b9 => bM (upM (upM m1 c 6 (aO H s)) c 13 (w32 (((upM m1 c 6 (aO H s)) c 13) + ((upM m1 c 6 (aO H s)) b9 11)))) fun M10 => bM (upM M10 c 14 (w32 ((M10 c 14) + 1))) fun M11 => some M11) : Option MM) = some m3 ∧ CC m3 c (aPay H (upM (aSeed s) 0 6 (aO H s)) (aOn H (upM (aSeed s) 0 6 (aO H s)))) ∧ Fr3 h c m3 M := by
      unfold aPay
      by_cases q : aOn H (upM (aSeed s) 0 6 (aO H s))
      · rw [if_neg (fun z => b1_0.mp z q), if_pos q]
        simp (disch := omega) only [c2.at0, z2, gH_h, hH2.at0, w32_i, bM_eq, up_ni (a := c)]
        exact ⟨_, rfl, c2.up0.up0, (f2.up (by omega)).up (by omega)⟩
      · rw [if_pos (b1_0.mpr q), if_neg q]
        exact ⟨_, rfl, c2, f2⟩
    have hH3 := f3.HC (by omega) hH
    have hL3 := f3.CL (by omega) hL
    have hS3 := SOK_pay hHo hS1 hP1 (on := aOn H (upM (aSeed s) 0 6 (aO H s)))
    have z3 : aPay H (upM (aSeed s) 0 6 (aO H s)) (aOn H (upM (aSeed s) 0 6 (aO H s))) 0 1 = (h : Int) := by rw [ap_a (by omega), z2]
    have z36 : aPay H (upM (aSeed s) 0 6 (aO H s)) (aOn H (upM (aSeed s) 0 6 (aO H s))) 0 6 = aO H s := by rw [ap_a (by omega), upM_eq]
    obtain ⟨m4, e4, c4, f4⟩ := c_rooms (on := aOn H (upM (aSeed s) 0 6 (aO H s))) hh hc hH3 hHo c3 hS3 z3 hL3 hLc hLr z36 hor
    have hS4 := SOK_ar (LV := LV) (o := aO H s) (on := aOn H (upM (aSeed s) 0 6 (aO H s))) hS3 (H 1 0).toNat
    have f4 := f4.tr f3
    have hH4 := f4.HC (by omega) hH
    have hL4 := f4.CL (by omega) hL
    have w0 : aRooms H LV (aPay H (upM (aSeed s) 0 6 (aO H s)) (aOn H (upM (aSeed s) 0 6 (aO H s)))) (aO H s) (aOn H (upM (aSeed s) 0 6 (aO H s))) (H 1 0).toNat 0 1 = (h : Int) := by rw [ar_a (by omega), z3]
    have w6 : aRooms H LV (aPay H (upM (aSeed s) 0 6 (aO H s)) (aOn H (upM (aSeed s) 0 6 (aO H s)))) (aO H s) (aOn H (upM (aSeed s) 0 6 (aO H s))) (H 1 0).toNat 0 6 = aO H s := by rw [ar_a (by omega), z36]
    have w1 : ∀ j, aRooms H LV (aPay H (upM (aSeed s) 0 6 (aO H s)) (aOn H (upM (aSeed s) 0 6 (aO H s)))) (aO H s) (aOn H (upM (aSeed s) 0 6 (aO H s))) (H 1 0).toNat 1 j = aSeed s 1 j := fun j => by rw [ar_a (by omega), ap_a (by omega), up_na (by omega)]
    have w2 : aRooms H LV (aPay H (upM (aSeed s) 0 6 (aO H s)) (aOn H (upM (aSeed s) 0 6 (aO H s)))) (aO H s) (aOn H (upM (aSeed s) 0 6 (aO H s))) (H 1 0).toNat 0 2 = s 0 2 := by rw [ar_a (by omega), ap_a (by omega), up_ni (by omega), aSeed_a (by omega)]
    have hdef := aHour_def (H := H) (LV := LV) (aSeed s) (aO H s)
    have hfin := SOK_h (LV := LV) (o := aO H s) hHo (SOK_seed hSm) (by unfold SP at *; simp (disch := omega) only [aSeed_a]; exact hPm) (by rw [aSeed_a (by omega)]; omega)
    have y01 := ah_0 (H := H) (LV := LV) (S := aSeed s) (o := aO H s) (j := 1) (by omega)
    have y02 := ah_t (H := H) (LV := LV) (S := aSeed s) (o := aO H s)
    have y19 := ah_1 (H := H) (LV := LV) (S := aSeed s) (o := aO H s) (j := 9)
    have y110 := ah_1 (H := H) (LV := LV) (S := aSeed s) (o := aO H s) (j := 10)
    rw [aSeed_a (by omega)] at y01 y02 y19
    have ys : aHour H LV (aO H s) (aSeed s) 1 9 = 0 ∨ r32 (aHour H LV (aO H s) (aSeed s) 1 10) := by
      rw [y19, y110]
      unfold aSeed
      by_cases q : s 1 9 = 0
      · exact Or.inl q
      · rw [if_neg q, upM_eq]
        have := aNext_r (s 1 10)
        right; unfold r32; omega
    generalize aRooms H LV (aPay H (upM (aSeed s) 0 6 (aO H s)) (aOn H (upM (aSeed s) 0 6 (aO H s)))) (aO H s) (aOn H (upM (aSeed s) 0 6 (aO H s))) (H 1 0).toNat = s4 at c4 hS4 w0 w1 w2 w6 hdef
    obtain ⟨m5, s5, e5, c5, f5, hS5, v0, v6, v1, v2, d5⟩ : ∃ m5 s5, ((if (m4 (c + 1) 0) = 0 then ((f_X0_turnKnob m4 c).bind fun x15 => some x15) else some m4) : Option MM) = some m5 ∧ CC m5 c s5 ∧ Fr3 h c m5 M ∧ SOK H s5 ∧ s5 0 1 = (h : Int) ∧ s5 0 6 = aO H s ∧ (∀ j, s5 1 j = aSeed s 1 j) ∧ s5 0 2 = s 0 2 ∧ s5 = (if aSeed s 1 0 = 0 then aTurns H LV (aO H s) s4 (H 6 0).toNat else s4) := by
      rw [c4.at (k := 1) (by omega), w1]
      by_cases q : aSeed s 1 0 = 0
      · rw [if_pos q, if_pos q, bid]
        obtain ⟨m5, e5, c5, f5⟩ := c_turns hh hc hH4 hHo c4 hS4 w0 hL4 hLc hLr w6 hor
        exact ⟨m5, _, e5, c5, f5.tr f4, SOK_Ts hS4 _, by rw [aTs_a (by omega) (by omega) (by omega) (by omega), w0], by rw [aTs_a (by omega) (by omega) (by omega) (by omega), w6], fun j => by rw [aTs_a (by omega) (by omega) (by omega) (by omega), w1], by rw [aTs_a (by omega) (by omega) (by omega) (by omega), w2], rfl⟩
      · rw [if_neg q, if_neg q]
        exact ⟨m4, _, rfl, c4, f4, hS4, w0, w6, w1, w2, rfl⟩
    rw [← d5] at hdef
    have hH5 := f5.HC (by omega) hH
    have hL5 := f5.CL (by omega) hL
    obtain ⟨m6, s6, e6, c6, f6, u2, d6⟩ : ∃ m6 s6, ((if (m5 (c + 1) 1) = 0 then ((f_X0_crossPeople m5 c).bind fun x18 => some x18) else some m5) : Option MM) = some m6 ∧ CC m6 c s6 ∧ Fr3 h c m6 M ∧ s6 0 2 = s 0 2 ∧ s6 = (if aSeed s 1 1 = 0 then aCross H LV s5 (aO H s) (H 6 0).toNat else s5) := by
      rw [c5.at (k := 1) (by omega), v1]
      by_cases q : aSeed s 1 1 = 0
      · rw [if_pos q, if_pos q, bid]
        obtain ⟨m6, e6, c6, f6⟩ := c_cross hh hc hH5 hHo c5 hS5 v0 hL5 hLc hLr v6 hor
        exact ⟨m6, _, e6, c6, f6.tr f5, by rw [ac_a (by omega), v2], rfl⟩
      · rw [if_neg q, if_neg q]
        exact ⟨m5, _, rfl, c5, f5, v2, rfl⟩
    rw [← d6] at hdef
    refine ⟨upM m6 c 2 (s 0 2 + 1), ?_, ⟨?_, hfin.1, hfin.2, f6.up (by omega)⟩, y01.trans z01, y02.trans (by omega), y19, ys⟩
    · dsimp only
      rw [if_pos (by omega), hCm.at0, z01, gH_h hh, hCm.at0, c_outAt hHm hHo (by omega), Option.bind_some, e1, Option.bind_some, bM_eq, eon, Option.bind_some, e3, Option.bind_some, e4, Option.bind_some, e5, Option.bind_some, e6, Option.bind_some, bM_eq, c6.at0, u2, w32_i (by omega) (by omega), w32_i (by omega) (by omega)]
      rfl
    · rw [aStep, hdef, aSeed_a (by omega)]
      exact c6.up0
  · rintro m ⟨⟨hCm, hSm, hPm, fm⟩, z⟩
    refine ⟨m, ?_, ⟨hCm, hSm, hPm, fm⟩, z⟩
    dsimp only
    rw [if_neg (by omega)]
end CLS6
