theorem bid {X : Type} (o : Option X) : (o.bind fun x => some x) = o := by cases o <;> rfl
section CLS4
variable {M H S : MM} {LV : LVT} {h c : Nat} {o : Int}
theorem aSw_a {way : Int} {a j : Nat} (h : a ≠ 0 ∨ j ≠ 16) : aSw S way a j = S a j := by
  unfold aSw
  split
  · by_cases q : a = 0
    · subst q; rw [up_ni (by omega)]
    · rw [up_na q]
  · rfl
theorem aSw_16 {way : Int} : aSw S way 0 16 = if way = -(S 0 17) then w32 (S 0 16 + 1) else S 0 16 := by
  unfold aSw
  split
  · rw [upM_eq]
  · rfl
theorem aSw_r {way : Int} (h : r32 (S 0 16)) : r32 (aSw S way 0 16) := by
  rw [aSw_16]
  split
  · exact w32_r _
  · exact h
theorem aTd_a {p : Nat} {to : Int} {a j : Nat} (h : a ≠ 5) (h1 : a ≠ 6) (h2 : a ≠ 7) (h3 : a ≠ 0 ∨ (j ≠ 3 ∧ j ≠ 15 ∧ j ≠ 16 ∧ j ≠ 17)) : aTurned S p to a j = S a j := by
  unfold aTurned
  rw [up_na h2, up_na h1, up_na h]
  by_cases q : a = 0
  · subst q
    rw [up_ni (by omega), up_ni (by omega), up_ni (by omega), aSw_a (by omega)]
  · rw [up_na q, up_na q, up_na q, aSw_a (by omega)]
theorem aT1_a {p : Nat} {a j : Nat} (h : a ≠ 5) (h1 : a ≠ 6) (h2 : a ≠ 7) (h3 : a ≠ 0 ∨ (j ≠ 3 ∧ j ≠ 15 ∧ j ≠ 16 ∧ j ≠ 17)) : aTurn1 H LV o p S a j = S a j := by
  unfold aTurn1
  repeat' split
  all_goals first | rfl | exact aTd_a h h1 h2 h3
theorem aTs_a {a j : Nat} (h : a ≠ 5) (h1 : a ≠ 6) (h2 : a ≠ 7) (h3 : a ≠ 0 ∨ (j ≠ 3 ∧ j ≠ 15 ∧ j ≠ 16 ∧ j ≠ 17)) : ∀ n, aTurns H LV o S n a j = S a j
  | 0 => rfl
  | n + 1 => (aT1_a h h1 h2 h3).trans (aTs_a h h1 h2 h3 n)
theorem SOK_Td (hSo : SOK H S) {p : Nat} {to : Int} (h1 : 5 ≤ to ∧ to ≤ 30) : SOK H (aTurned S p to) := by
  unfold SOK at *
  obtain ⟨x1, x2, x3, x4, x5, x6, x7, x8, h30, x10, x11, x12⟩ := hSo
  simp (disch := omega) only [aTd_a]
  have e3 : aTurned S p to 0 3 = to := by unfold aTurned; simp (disch := omega) only [up_na, up_ni, upM_eq]
  have e15 : aTurned S p to 0 15 = w32 (S 0 15 + 1) := by unfold aTurned; simp (disch := omega) only [up_na, up_ni, upM_eq]
  have e16 : r32 (aTurned S p to 0 16) := by unfold aTurned; simp (disch := omega) only [up_na, up_ni]; exact aSw_r x11.2
  have e17 : aTurned S p to 0 17 = (if S 0 3 < to then 1 else -1) := by unfold aTurned; simp (disch := omega) only [up_na, up_ni, upM_eq]
  refine ⟨x1, by omega, x3, x4, x5, x6, ?_, x8, h30, ?_, ⟨by rw [e15]; exact w32_r _, e16⟩, x12⟩
  · rw [e17]; split <;> omega
  · intro j hj
    refine ⟨(x10 j hj).1, ?_⟩
    unfold aTurned
    rw [up_na (by omega), up_na (by omega)]
    by_cases q : j = p
    · subst q; rw [upM_eq]; exact w32_r _
    · rw [up_ni q, up_na (by omega), up_na (by omega), up_na (by omega), aSw_a (by omega)]
      exact (x10 j hj).2
theorem SOK_T1 (hSo : SOK H S) {p : Nat} : SOK H (aTurn1 H LV o p S) := by
  unfold aTurn1
  repeat' split
  all_goals first | exact hSo | exact SOK_Td hSo (cl_r (by omega))
theorem SOK_Ts (hSo : SOK H S) : ∀ n, SOK H (aTurns H LV o S n)
  | 0 => hSo
  | n + 1 => SOK_T1 (SOK_Ts hSo n)
theorem c_turns (hh : h = 8 ∨ h = 31) (hc : c = 54 ∨ c = 62 ∨ c = 70) (hH : HC M h H) (hHo : HOK H) (hC : CC M c S) (hSo : SOK H S) (hz : S 0 1 = (h : Int)) (hL : CL M h LV) (hLc : LVc LV) (hLr : LVr LV) (he : S 0 6 = o) (ho : 0 ≤ o ∧ o ≤ 400) : ∃ M', f_X0_turnKnob M c = some M' ∧ CC M' c (aTurns H LV o S (H 6 0).toNat) ∧ Fr3 h c M' M := by
  have h6 := hHo.2.1
  unfold f_X0_turnKnob
  refine lp_cnt (H 6 0).toNat (fun k m => CC m c (aTurns H LV o S k) ∧ Fr3 h c m M) _ (by omega) ?_ ?_ _ ⟨hC, Fr3.rf⟩
  · rintro k m hk ⟨hCm, fm⟩
    left
    have hHm := fm.HC (by omega) hH
    have hLm := fm.CL (by omega) hL
    have hSm := SOK_Ts (H := H) (LV := LV) (o := o) hSo k
    have z01 : aTurns H LV o S k 0 1 = (h : Int) := by rw [aTs_a (by omega) (by omega) (by omega) (by omega)]; exact hz
    have z06 : aTurns H LV o S k 0 6 = o := by rw [aTs_a (by omega) (by omega) (by omega) (by omega)]; exact he
    have hT : aTurns H LV o S (k + 1) = aTurn1 H LV o k (aTurns H LV o S k) := rfl
    rw [hT]
    generalize aTurns H LV o S k = s at hCm hSm z01 z06
    have hP := hHo.2.2.2.2.2.2.2.2.2.1 k (by omega)
    have ht := hSm.1
    have hst := hSm.2.1
    have hfr := aFelt_r hHo hSm (p := k) (by omega)
    have hf := c_felt hh hHm hHo hCm hSm z01 (p := k) (by omega)
    obtain ⟨m1, e1, f1⟩ := c_plaw hh hc hHm hHo hCm hSm z01 hLm hLc z06 ho (w := 1) (by omega) (p := k) (by omega) hfr
    have e1 : f_X0_personLaw m c 1 (k : Int) (aFelt H s k) = _ := e1
    have hC1 := f1.CC (by omega) hCm
    have hH1 := f1.HC hHm
    dsimp only
    simp (disch := omega) only [hCm.at0, z01, gH_h, hHm.at (k := 6), hCm.at (k := 1), gd_t, Int.toNat_natCast, hHm.at (k := 11), tmn, w32_i, hf, e1, Option.bind_some, getD_ERR hLr, hC1.at0, hH1.at (k := 9), bI_eq]
    rw [if_pos (by omega)]
    unfold aTurn1
    by_cases q1 : (k : Int) = s 1 5
    · rw [if_pos q1, if_pos q1]
      exact ⟨m, rfl, hCm, fm⟩
    rw [if_neg q1, if_neg q1]
    by_cases q2 : H 11 k = s 0 2 % 24
    · rw [if_pos q2, if_pos q2]
      have key : ∀ by' : Int, by' = aBy H LV s o k → ∃ s' : MM, (((f_X11_limited m1 by' (-9) 9).bind fun x18 => (f_X11_limited m1 (w32 (s 0 3 + x18)) 5 30).bind fun x19 => f_X0_turnTo m1 c x19 (k : Int)).bind fun x21 => (some (Sum.inl ((k : Int) + 1, x21)) : Option ((Int × MM) ⊕ MM))) = some (Sum.inl (((k + 1 : Nat) : Int), s')) ∧ CC s' c (if aTo H LV s o k = s 0 3 then s else aTurned s k (aTo H LV s o k)) ∧ Fr3 h c s' M := by
        intro by' hb
        have hcr := cl_r (a := by') (b := -9) (c := 9) (by omega)
        rw [lim (by omega) (by omega), Option.bind_some, w32_i (by omega) (by omega), lim (by omega) (by omega), Option.bind_some]
        obtain ⟨m2, e2, c2, f2⟩ := c_turnTo (H := H) (h := h) hc hC1 hSm (p := k) (by omega) (to := aTo H LV s o k)
        have e2 : f_X0_turnTo m1 c (cl (s 0 3 + cl by' (-9) 9) 5 30) (k : Int) = some m2 := by rw [hb]; exact e2
        rw [e2]
        exact ⟨m2, rfl, c2, f2.tr (f1.to3.tr fm)⟩
      unfold aBy at key
      cases e : LV 1 (aNm s o (H 8 k).toNat (aFelt H s k) (10 * H 9 k) (H 4 (H 8 k).toNat)) with
      | none =>
        rw [e] at key
        rw [if_pos rfl]
        by_cases q3 : aFelt H s k < 10 * H 9 k - 5
        · rw [if_pos q3] at key ⊢
          simp only [Option.bind_some, bid]
          with_reducible exact key 1 rfl
        · rw [if_neg q3] at key ⊢
          by_cases q4 : 10 * H 9 k + 5 < aFelt H s k
          · rw [if_pos q4] at key ⊢
            simp only [Option.bind_some, bid]
            with_reducible exact key (-1) rfl
          · rw [if_neg q4] at key ⊢
            simp only [Option.bind_some, bid]
            with_reducible exact key 0 rfl
      | some v =>
        rw [e] at key
        rw [if_neg (by simp)]
        simp only [Option.bind_some, bid, Option.getD_some]
        with_reducible exact key v rfl
    · rw [if_neg q2, if_neg q2]
      exact ⟨m, rfl, hCm, fm⟩
  · rintro m ⟨hCm, fm⟩
    have hHm := fm.HC (by omega) hH
    refine ⟨m, ?_, hCm, fm⟩
    have z01 : aTurns H LV o S (H 6 0).toNat 0 1 = (h : Int) := by rw [aTs_a (by omega) (by omega) (by omega) (by omega)]; exact hz
    dsimp only
    simp (disch := omega) only [hCm.at0, z01, gH_h, hHm.at (k := 6)]
    rw [if_neg (by omega)]
theorem ac_a {n a j : Nat} (h : a ≠ 4) : aCross H LV S o n a j = S a j := if_neg (fun z => h z.1)
theorem ac_n {n j : Nat} (h : n ≤ j) : aCross H LV S o n 4 j = S 4 j := if_neg (fun z => by omega)
theorem ac_felt {n p : Nat} : aFelt H (aCross H LV S o n) p = aFelt H S p := by
  unfold aFelt aLate
  simp (disch := omega) only [ac_a]
theorem ac_cr {n p : Nat} : aCr H LV (aCross H LV S o n) o p = aCr H LV S o p := by
  unfold aCr aNm
  simp (disch := omega) only [ac_a, ac_felt]
theorem SOK_ac (hSo : SOK H S) (n : Nat) : SOK H (aCross H LV S o n) := by
  unfold SOK at *
  obtain ⟨x1, x2, x3, x4, x5, x6, x7, x8, h30, x10, x11, x12⟩ := hSo
  simp (disch := omega) only [ac_a]
  refine ⟨x1, x2, x3, x4, x5, x6, x7, x8, h30, ?_, x11, x12⟩
  intro j hj
  refine ⟨?_, (x10 j hj).2⟩
  unfold aCross
  split
  · exact w32_r _
  · exact (x10 j hj).1
theorem c_cross (hh : h = 8 ∨ h = 31) (hc : c = 54 ∨ c = 62 ∨ c = 70) (hH : HC M h H) (hHo : HOK H) (hC : CC M c S) (hSo : SOK H S) (hz : S 0 1 = (h : Int)) (hL : CL M h LV) (hLc : LVc LV) (hLr : LVr LV) (he : S 0 6 = o) (ho : 0 ≤ o ∧ o ≤ 400) : ∃ M', f_X0_crossPeople M c = some M' ∧ CC M' c (aCross H LV S o (H 6 0).toNat) ∧ Fr3 h c M' M := by
  have h6 := hHo.2.1
  unfold f_X0_crossPeople
  refine lp_cnt (H 6 0).toNat (fun k m => CC m c (aCross H LV S o k) ∧ Fr3 h c m M) _ (by omega) ?_ ?_ _ ⟨hC.cg (fun k _ => ?_), Fr3.rf⟩
  · rintro k m hk ⟨hCm, fm⟩
    left
    have hHm := fm.HC (by omega) hH
    have hLm := fm.CL (by omega) hL
    have hSm := SOK_ac (H := H) (LV := LV) (o := o) hSo k
    have z01 : aCross H LV S o k 0 1 = (h : Int) := by rw [ac_a (by omega)]; exact hz
    have z06 : aCross H LV S o k 0 6 = o := by rw [ac_a (by omega)]; exact he
    have z15 : aCross H LV S o k 1 5 = S 1 5 := ac_a (by omega)
    have z4 : aCross H LV S o k 4 k = S 4 k := ac_n (Nat.le_refl _)
    have ecr := ac_cr (H := H) (LV := LV) (S := S) (o := o) (n := k) (p := k)
    have hnext : ∀ (m' : MM) (v : Int), CC m' c (aCross H LV S o k) → (v = if (k : Int) = S 1 5 then S 4 k else w32 (S 4 k + aCr H LV S o k)) → CC (upM m' (c + 4) k v) c (aCross H LV S o (k + 1)) := by
      intro m' v hC' hv
      refine (hC'.up (k := 4) (by omega)).cg ?_
      intro x hx
      funext j
      by_cases e : x = 4
      · subst e
        by_cases ej : j = k
        · subst ej
          rw [upM_eq, hv]
          unfold aCross
          by_cases q : (j : Int) = S 1 5
          · rw [if_pos q, if_neg (fun z => z.2.2 q)]
          · rw [if_neg q, if_pos ⟨rfl, by omega, q⟩]
        · rw [up_ni ej]
          unfold aCross
          by_cases q : j < k ∧ (j : Int) ≠ S 1 5
          · rw [if_pos ⟨rfl, q⟩, if_pos ⟨rfl, by omega, q.2⟩]
          · rw [if_neg (fun z => q z.2), if_neg (fun z => q ⟨by omega, z.2.2⟩)]
      · rw [up_na e, ac_a e, ac_a e]
    have hsame : (k : Int) = S 1 5 → CC m c (aCross H LV S o (k + 1)) := by
      intro q
      refine hCm.cg ?_
      intro x hx
      funext j
      unfold aCross
      by_cases e : x = 4 ∧ j < k ∧ (j : Int) ≠ S 1 5
      · rw [if_pos e, if_pos ⟨e.1, by omega, e.2.2⟩]
      · rw [if_neg e, if_neg (fun z => e ⟨z.1, by omega, z.2.2⟩)]
    have ecr' : aCr H LV (aCross H LV S o k) o k = cl ((LV 2 (aNm (aCross H LV S o k) o (H 8 k).toNat (aFelt H (aCross H LV S o k) k) (10 * H 9 k) (H 4 (H 8 k).toNat))).getD (ds (aFelt H (aCross H LV S o k) k) (10 * H 9 k) / 10)) 0 999 := rfl
    rw [ecr] at ecr'
    generalize hgs : aCross H LV S o k = s at hCm hSm z01 z06 z15 z4 ecr'
    rw [hgs] at hnext
    have hP := hHo.2.2.2.2.2.2.2.2.2.1 k (by omega)
    have hfr := aFelt_r hHo hSm (p := k) (by omega)
    have hf := c_felt hh hHm hHo hCm hSm z01 (p := k) (by omega)
    obtain ⟨m1, e1, f1⟩ := c_plaw hh hc hHm hHo hCm hSm z01 hLm hLc z06 ho (w := 2) (by omega) (p := k) (by omega) hfr
    have e1 : f_X0_personLaw m c 2 (k : Int) (aFelt H s k) = _ := e1
    have hC1 := f1.CC (by omega) hCm
    have hH1 := f1.HC hHm
    have hdr : 0 ≤ ds (aFelt H s k) (10 * H 9 k) ∧ ds (aFelt H s k) (10 * H 9 k) ≤ 1000 := by unfold ds; split <;> omega
    dsimp only
    simp (disch := omega) only [hCm.at0, z01, gH_h, hHm.at (k := 6), hCm.at (k := 1), z15, gd_t, Int.toNat_natCast, w32_i, hf, e1, Option.bind_some, getD_ERR hLr, hC1.at0, hH1.at (k := 9), bI_eq, bM_eq, hC1.at (k := 4), z4]
    rw [if_pos (by omega)]
    by_cases q1 : (k : Int) = S 1 5
    · rw [if_pos q1]
      exact ⟨m, rfl, hsame q1, fm⟩
    rw [if_neg q1]
    rw [if_neg q1] at hnext
    have key : ∀ v : Int, cl v 0 999 = aCr H LV S o k → ∃ s' : MM, (((f_X11_limited m1 v 0 999).bind fun x14 => (some (upM m1 (c + 4) k (w32 (S 4 k + x14))) : Option MM)).bind fun x17 => (some (Sum.inl ((k : Int) + 1, x17)) : Option ((Int × MM) ⊕ MM))) = some (Sum.inl (((k + 1 : Nat) : Int), s')) ∧ CC s' c (aCross H LV S o (k + 1)) ∧ Fr3 h c s' M := by
      intro v hv
      rw [lim (by omega) (by omega), Option.bind_some, hv]
      exact ⟨_, rfl, hnext m1 _ hC1 rfl, (f1.to3.tr fm).up (by omega)⟩
    cases e : LV 2 (aNm s o (H 8 k).toNat (aFelt H s k) (10 * H 9 k) (H 4 (H 8 k).toNat)) with
    | none =>
      rw [e, Option.getD_none] at ecr'
      rw [if_pos rfl, pu_distance m1 (by unfold r32; omega) (by unfold r32; omega)]
      simp (disch := omega) only [Option.bind_some, tdn, w32_i]
      with_reducible exact key _ ecr'.symm
    | some v =>
      rw [e, Option.getD_some] at ecr'
      rw [if_neg (by simp)]
      simp only [Option.bind_some, Option.getD_some]
      with_reducible exact key v ecr'.symm
  · rintro m ⟨hCm, fm⟩
    have hHm := fm.HC (by omega) hH
    refine ⟨m, ?_, hCm, fm⟩
    have z01 : aCross H LV S o (H 6 0).toNat 0 1 = (h : Int) := by rw [ac_a (by omega)]; exact hz
    dsimp only
    simp (disch := omega) only [hCm.at0, z01, gH_h, hHm.at (k := 6)]
    rw [if_neg (by omega)]
  · funext j
    unfold aCross
    rw [if_neg (by omega)]
end CLS4
