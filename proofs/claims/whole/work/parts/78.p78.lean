section TRY
variable {M H S T : MM} {h c : Nat}
def fgS (S : MM) : MM := fun k j => if (k = 4 ∧ j < 5) ∨ (k = 5 ∧ j < 5) ∨ (k = 0 ∧ (j = 13 ∨ j = 15 ∨ j = 16 ∨ j = 17)) then 0 else S k j
def twS (S : MM) : MM := fun k j => if k = 1 ∧ (j < 5 ∨ j = 9) then 0 else if k = 1 ∧ (j = 5 ∨ j = 6 ∨ j = 7) then -1 else S k j
def aTry (S T : MM) : MM := twS (fgS (cpS S T))
theorem c_forget (hS : CC M c S) : ∃ M', f_X0_forget M c = some M' ∧ CC M' c (fgS S) ∧ ∀ a, a < c ∨ c + 7 < a → M' a = M a := by
  unfold f_X0_forget
  obtain ⟨m, e, i1, i2⟩ : ∃ m, (lp (X := Int × MM) (Y := MM) (fun x1 =>
      if x1.1 < 5 then
      (gd (0 ≤ x1.1 ∧ x1.1 < (5 : Int)) <|
      bM (upM x1.2 (c + 4) (x1.1).toNat 0) fun M4 =>
      gd (0 ≤ x1.1 ∧ x1.1 < (5 : Int)) <|
      bM (upM M4 (c + 5) (x1.1).toNat 0) fun M6 =>
      some (Sum.inl (w32 (x1.1 + 1), M6)))
      else
      some (Sum.inr x1.2)) FU (0, M)) = some m ∧ ((∀ j : Nat, j < 5 → m (c + 4) j = 0 ∧ m (c + 5) j = 0) ∧ ∀ a j, ¬ ((a = c + 4 ∨ a = c + 5) ∧ j < 5) → m a j = M a j) := by
    refine lp_cnt 5 (fun k m => (∀ j : Nat, j < k → m (c + 4) j = 0 ∧ m (c + 5) j = 0) ∧ ∀ a j, ¬ ((a = c + 4 ∨ a = c + 5) ∧ j < 5) → m a j = M a j) _ (by decide) ?_ ?_ _ ⟨fun j hj => absurd hj (Nat.not_lt_zero _), fun _ _ _ => rfl⟩
    · rintro k m hk ⟨i1, i2⟩
      left
      have z5 : 0 ≤ (k : Int) ∧ (k : Int) < 5 := ⟨by omega, by omega⟩
      have w1 : -2147483648 ≤ (k : Int) + 1 ∧ (k : Int) + 1 ≤ 2147483647 := ⟨by omega, by omega⟩
      have g : c + 4 ≠ c + 5 := by omega
      refine ⟨upM (upM m (c + 4) k 0) (c + 5) k 0, ?_, ?_, ?_⟩
      · dsimp only
        rw [if_pos z5.2, gd_t z5, bM_eq, gd_t z5, bM_eq, Int.toNat_natCast, w32_i w1.1 w1.2]
        rfl
      · intro j hj
        by_cases q : j = k
        · rw [q, upM_eq, up_na g, upM_eq]
          exact ⟨rfl, rfl⟩
        · rw [up_na g, up_ni q, up_ni q, up_na g.symm]
          exact i1 j (by omega)
      · intro a j hn
        rw [upM_ne a j (fun z => hn ⟨Or.inr z.1, by omega⟩), upM_ne a j (fun z => hn ⟨Or.inl z.1, by omega⟩)]
        exact i2 a j hn
    · rintro m ⟨i1, i2⟩
      exact ⟨m, rfl, i1, i2⟩
  rw [e, Option.bind_some]
  simp only [bM_eq]
  clear e
  refine ⟨_, rfl, ?_, ?_⟩
  · intro k hk
    funext j
    by_cases q0 : k = 0
    · subst q0
      have gm : m c j = S 0 j := by rw [i2 c j (fun z => by omega), hS.at0]
      show upM _ c 17 0 c j = fgS S 0 j
      by_cases q : j = 13 ∨ j = 15 ∨ j = 16 ∨ j = 17
      · have hc : fgS S 0 j = 0 := if_pos (Or.inr (Or.inr ⟨rfl, q⟩))
        rw [hc]
        rcases q with rfl | rfl | rfl | rfl <;> simp (disch := omega) only [up_ni, upM_eq]
      · have hc : fgS S 0 j = S 0 j := if_neg (by omega)
        rw [hc]
        simp (disch := omega) only [up_ni]
        exact gm
    · have g0 : c + k ≠ c := by omega
      rw [up_na g0, up_na g0, up_na g0, up_na g0]
      by_cases q : (k = 4 ∨ k = 5) ∧ j < 5
      · have hc : fgS S k j = 0 := if_pos (by omega)
        rw [hc]
        rcases q.1 with rfl | rfl
        · exact (i1 j q.2).1
        · exact (i1 j q.2).2
      · have hc : fgS S k j = S k j := if_neg (by omega)
        rw [hc, i2 (c + k) j (fun z => q (by omega)), hS.at hk]
  · intro a ha
    have g0 : a ≠ c := by omega
    rw [up_row g0, up_row g0, up_row g0, up_row g0]
    funext j
    exact i2 a j (fun z => by omega)
theorem c_clear (hS : CC M c S) : ∃ M', f_X10_clear M (c + 1) = some M' ∧ CC M' c (twS S) ∧ ∀ a, a ≠ c + 1 → M' a = M a := by
  unfold f_X10_clear
  simp only [bM_eq]
  refine ⟨_, rfl, ?_, ?_⟩
  · intro k hk
    funext j
    by_cases q0 : k = 1
    · subst q0
      have gm : M (c + 1) j = S 1 j := hS.at (by decide)
      by_cases q : j < 5 ∨ j = 9
      · have hc : twS S 1 j = 0 := if_pos ⟨rfl, q⟩
        rw [hc]
        have : j = 0 ∨ j = 1 ∨ j = 2 ∨ j = 3 ∨ j = 4 ∨ j = 9 := by omega
        rcases this with rfl | rfl | rfl | rfl | rfl | rfl <;> simp (disch := omega) only [up_ni, upM_eq]
      · by_cases q1 : j = 5 ∨ j = 6 ∨ j = 7
        · have hc : twS S 1 j = -1 := by unfold twS; rw [if_neg (fun z => q z.2), if_pos ⟨rfl, q1⟩]
          rw [hc]
          rcases q1 with rfl | rfl | rfl <;> simp (disch := omega) only [up_ni, upM_eq]
        · have hc : twS S 1 j = S 1 j := by unfold twS; rw [if_neg (fun z => q z.2), if_neg (fun z => q1 z.2)]
          rw [hc]
          simp (disch := omega) only [up_ni]
          exact gm
    · have hc : twS S k j = S k j := by unfold twS; rw [if_neg (fun z => q0 z.1), if_neg (fun z => q0 z.1)]
      have g0 : c + k ≠ c + 1 := by omega
      rw [hc]
      simp (disch := exact g0) only [up_na]
      exact hS.at hk
  · intro a ha
    simp (disch := exact ha) only [up_row]
theorem c_try (hS : CC M 54 S) (hT : CC M 70 T) (hh : h = 8 ∨ h = 31) (hz : S 0 1 = (h : Int)) (h5 : S 0 5 = 0 ∨ S 0 5 = 1) (h2 : ∀ j : Nat, j < 5 → S 2 j = 0 ∨ S 2 j = 1) : ∃ M', f_X11_tryAsItGoes M = some M' ∧ CC M' 70 (aTry S T) ∧ ∀ a, a < 70 ∨ 77 < a → M' a = M a := by
  obtain ⟨M1, e1, c1, f1⟩ := c_copy (a0 := 70) (a1 := 54) (by decide) (by decide) (by decide) hS hT hh hz h5 h2
  obtain ⟨M2, e2, c2, f2⟩ := c_forget c1
  obtain ⟨M3, e3, c3, f3⟩ := c_clear c2
  refine ⟨M3, ?_, c3, fun a ha => by rw [f3 a (by omega), f2 a (by omega), f1 a (by omega)]⟩
  unfold f_X11_tryAsItGoes
  have e3 : f_X10_clear M2 71 = some M3 := e3
  rw [e1, Option.bind_some, e2, Option.bind_some, e3, Option.bind_some]
/-- what a trial is at its start -/
theorem at_0 {j : Nat} (q : j = 1 ∨ j = 2 ∨ j = 3 ∨ j = 4 ∨ j = 5 ∨ j = 14) : aTry S T 0 j = S 0 j := by
  unfold aTry twS fgS cpS
  rw [if_neg (by omega), if_neg (by omega), if_neg (by omega), if_pos (by omega)]
theorem at_z {j : Nat} (q : j = 13 ∨ j = 15 ∨ j = 16 ∨ j = 17) : aTry S T 0 j = 0 := by
  unfold aTry twS fgS
  rw [if_neg (by omega), if_neg (by omega), if_pos (by omega)]
theorem at_1 {j : Nat} (q : j < 5 ∨ j = 9) : aTry S T 1 j = 0 := by
  unfold aTry twS
  rw [if_pos (by omega)]
theorem at_m {j : Nat} (q : j = 5 ∨ j = 6 ∨ j = 7) : aTry S T 1 j = -1 := by
  unfold aTry twS
  rw [if_neg (by omega), if_pos (by omega)]
theorem at_2 {j : Nat} (q : j < 5) : aTry S T 2 j = S 2 j := by
  unfold aTry twS fgS cpS
  rw [if_neg (by omega), if_neg (by omega), if_neg (by omega), if_pos (by omega)]
theorem at_3 {j : Nat} (q : j < 30) : aTry S T 3 j = S 3 j := by
  unfold aTry twS fgS cpS
  rw [if_neg (by omega), if_neg (by omega), if_neg (by omega), if_pos (by omega)]
theorem at_4 {j : Nat} (q : j < 5) : aTry S T 4 j = 0 := by
  unfold aTry twS fgS
  rw [if_neg (by omega), if_neg (by omega), if_pos (by omega)]
theorem at_5 {j : Nat} (q : j < 5) : aTry S T 5 j = 0 := by
  unfold aTry twS fgS
  rw [if_neg (by omega), if_neg (by omega), if_pos (by omega)]
theorem SOK_at (hSo : SOK H S) (hP : SP S) : SOK H (aTry S T) ∧ SP (aTry S T) := by
  obtain ⟨x1, x2, x3, x4, x5, x6, x7, x8, h30, x10, x11, x12⟩ := hSo
  have a2 : aTry S T 0 2 = S 0 2 := at_0 (by decide)
  have a3 : aTry S T 0 3 = S 0 3 := at_0 (by decide)
  have a4 : aTry S T 0 4 = S 0 4 := at_0 (by decide)
  have a5 : aTry S T 0 5 = S 0 5 := at_0 (by decide)
  have a13 : aTry S T 0 13 = 0 := at_z (by decide)
  have a14 : aTry S T 0 14 = S 0 14 := at_0 (by decide)
  have a15 : aTry S T 0 15 = 0 := at_z (by decide)
  have a16 : aTry S T 0 16 = 0 := at_z (by decide)
  have a17 : aTry S T 0 17 = 0 := at_z (by decide)
  unfold SP at *
  unfold SOK
  rw [a2, a3, a4, a5, a13, a14, a15, a16, a17]
  refine ⟨⟨x1, x2, x3, x4, ⟨by omega, by omega⟩, x6, Or.inl rfl, fun j hj => by rw [at_2 hj]; exact x8 j hj, fun j hj => by rw [at_3 hj]; exact h30 j hj, fun j hj => by rw [at_4 hj, at_5 hj]; exact ⟨r0, r0⟩, ⟨r0, r0⟩, Or.inl (at_m (by decide))⟩, by omega, hP.2⟩
end TRY
