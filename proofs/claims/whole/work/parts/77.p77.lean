theorem cp_na {M : MM} {a b s d n x j : Nat} (h : x ≠ b) : cpM M a b s d n x j = M x j := by unfold cpM; rw [if_neg (fun z => h z.1)]
theorem cp_row {M : MM} {a b s d n x : Nat} (h : x ≠ b) : cpM M a b s d n x = M x := funext fun _ => cp_na h
theorem cp_is {M : MM} {a b n j : Nat} : cpM M a b 0 0 n b j = if j < n then M a j else M b j := by
  unfold cpM
  by_cases q : j < n
  · rw [if_pos ⟨rfl, Nat.zero_le _, by omega⟩, if_pos q, Nat.zero_add, Nat.sub_zero]
  · rw [if_neg (fun z => q (by omega)), if_neg q]
section CPY
variable {M H S T : MM} {h a0 a1 : Nat}
/-- a course laid over another -/
def cpS (S T : MM) : MM := fun k j => if (k = 0 ∧ (j = 1 ∨ j = 2 ∨ j = 3 ∨ j = 4 ∨ j = 5 ∨ j = 13 ∨ j = 14 ∨ j = 15 ∨ j = 16 ∨ j = 17)) ∨ (k = 2 ∧ j < 5) ∨ (k = 3 ∧ j < 30) ∨ (k = 4 ∧ j < 5) ∨ (k = 5 ∧ j < 5) ∨ (k = 6 ∧ j < 24) ∨ (k = 7 ∧ j < 24) then S k j else T k j
theorem c_copy (h0 : a0 = 54 ∨ a0 = 62 ∨ a0 = 70) (h1 : a1 = 54 ∨ a1 = 62 ∨ a1 = 70) (hne : a0 + 7 < a1 ∨ a1 + 7 < a0) (hS : CC M a1 S) (hT : CC M a0 T) (hh : h = 8 ∨ h = 31) (hz : S 0 1 = (h : Int)) (h5 : S 0 5 = 0 ∨ S 0 5 = 1) (h2 : ∀ j : Nat, j < 5 → S 2 j = 0 ∨ S 2 j = 1) : ∃ M', f_X0_copy M a0 a1 = some M' ∧ CC M' a0 (cpS S T) ∧ ∀ a, a < a0 ∨ a0 + 7 < a → M' a = M a := by
  have s0 : ∀ j, M a1 j = S 0 j := fun j => hS.at0
  have sk : ∀ k j, k < 8 → M (a1 + k) j = S k j := fun k j hk => hS.at hk
  have tk : ∀ k j, k < 8 → M (a0 + k) j = T k j := fun k j hk => hT.at hk
  have n0 : a1 ≠ a0 := by omega
  have nk : ∀ k, k < 8 → a1 ≠ a0 + k := fun k hk => by omega
  have nk2 : ∀ k l, k < 8 → l < 8 → a1 + k ≠ a0 + l := fun k l hk hl => by omega
  have n1 : ∀ k, k < 8 → a1 + k ≠ a0 := fun k hk => by omega
  clear h0 h1
  unfold f_X0_copy
  rw [s0, hz, gH_h hh]
  simp (disch := exact n0) only [bM_eq, up_na, s0]
  rw [gd_t h5]
  obtain ⟨m, e, i1, i2⟩ : ∃ m, (lp (X := Int × MM) (Y := MM) (fun x8 =>
      if x8.1 < 5 then
      (gd (0 ≤ x8.1 ∧ x8.1 < (5 : Int)) <|
      gd (0 ≤ x8.1 ∧ x8.1 < (5 : Int)) <|
      gd ((x8.2 (a1 + 2) (x8.1).toNat) = 0 ∨ (x8.2 (a1 + 2) (x8.1).toNat) = 1) <|
      upM x8.2 (a0 + 2) (x8.1).toNat (x8.2 (a1 + 2) (x8.1).toNat) |> fun M13 =>
      some (Sum.inl (w32 (x8.1 + 1), M13)))
      else
      some (Sum.inr x8.2)) FU (0, upM (upM (upM (upM (upM M a0 1 (h : Int)) a0 2 (S 0 2)) a0 3 (S 0 3)) a0 4 (S 0 4)) a0 5 (S 0 5))) = some m ∧ ((∀ j : Nat, j < 5 → m (a0 + 2) j = S 2 j) ∧ ∀ a j, ¬ (a = a0 + 2 ∧ j < 5) → m a j = upM (upM (upM (upM (upM M a0 1 (h : Int)) a0 2 (S 0 2)) a0 3 (S 0 3)) a0 4 (S 0 4)) a0 5 (S 0 5) a j) := by
    refine lp_cnt 5 (fun k m => (∀ j : Nat, j < k → m (a0 + 2) j = S 2 j) ∧ ∀ a j, ¬ (a = a0 + 2 ∧ j < 5) → m a j = upM (upM (upM (upM (upM M a0 1 (h : Int)) a0 2 (S 0 2)) a0 3 (S 0 3)) a0 4 (S 0 4)) a0 5 (S 0 5) a j) _ (by decide) ?_ ?_ _ ⟨fun j hj => absurd hj (Nat.not_lt_zero _), fun _ _ _ => rfl⟩
    · rintro k m hk ⟨i1, i2⟩
      left
      have es : m (a1 + 2) k = S 2 k := by
        rw [i2 (a1 + 2) k (fun z => nk2 2 2 (by decide) (by decide) z.1)]
        simp (disch := exact n1 2 (by decide)) only [up_na]
        exact sk 2 k (by decide)
      have z5 : 0 ≤ (k : Int) ∧ (k : Int) < 5 := ⟨by omega, by omega⟩
      have w1 : -2147483648 ≤ (k : Int) + 1 ∧ (k : Int) + 1 ≤ 2147483647 := ⟨by omega, by omega⟩
      refine ⟨upM m (a0 + 2) k (S 2 k), ?_, ?_, ?_⟩
      · dsimp only
        rw [if_pos z5.2, gd_t z5, gd_t z5, Int.toNat_natCast, gd_t (show m (a1 + 2) k = 0 ∨ m (a1 + 2) k = 1 by rw [es]; exact h2 k hk), es, w32_i w1.1 w1.2]
        rfl
      · intro j hj
        by_cases q : j = k
        · rw [q, upM_eq]
        · rw [up_ni q]
          exact i1 j (by omega)
      · intro a j hn
        rw [upM_ne a j (fun z => hn ⟨z.1, by rw [z.2]; exact hk⟩)]
        exact i2 a j hn
    · rintro m ⟨i1, i2⟩
      exact ⟨m, rfl, i1, i2⟩
  have e' : (lp (X := Int × MM) (Y := MM) (fun x8 =>
      if x8.1 < 5 then
      (gd (0 ≤ x8.1 ∧ x8.1 < (5 : Int)) <|
      gd (0 ≤ x8.1 ∧ x8.1 < (5 : Int)) <|
      gd ((x8.2 (a1 + 2) (x8.1).toNat) = 0 ∨ (x8.2 (a1 + 2) (x8.1).toNat) = 1) <|
      some (Sum.inl (w32 (x8.1 + 1), upM x8.2 (a0 + 2) (x8.1).toNat (x8.2 (a1 + 2) (x8.1).toNat))))
      else
      some (Sum.inr x8.2)) FU (0, upM (upM (upM (upM (upM M a0 1 (h : Int)) a0 2 (S 0 2)) a0 3 (S 0 3)) a0 4 (S 0 4)) a0 5 (S 0 5))) = some m := e
  with_reducible rw [e']
  rw [Option.bind_some]
  refine ⟨_, rfl, ?_, ?_⟩
  · have r0 : ∀ j, m a1 j = S 0 j := fun j => by
      rw [i2 a1 j (fun z => nk 2 (by decide) z.1)]
      simp (disch := exact n0) only [up_na]
      exact s0 j
    have rk : ∀ k j, 0 < k → k < 8 → m (a1 + k) j = S k j := fun k j hk0 hk => by
      rw [i2 (a1 + k) j (fun z => nk2 k 2 hk (by decide) z.1)]
      simp (disch := exact n1 k hk) only [up_na]
      exact sk k j hk
    have uk : ∀ k j, 0 < k → k < 8 → k ≠ 2 → m (a0 + k) j = T k j := fun k j hk0 hk hk2 => by
      rw [i2 (a0 + k) j (fun z => hk2 (Nat.add_left_cancel z.1))]
      have : a0 + k ≠ a0 := by omega
      simp (disch := exact this) only [up_na]
      exact tk k j hk
    have u2 : ∀ j, 5 ≤ j → m (a0 + 2) j = T 2 j := fun j hj => by
      rw [i2 (a0 + 2) j (fun z => by omega)]
      have : a0 + 2 ≠ a0 := by omega
      simp (disch := exact this) only [up_na]
      exact tk 2 j (by decide)
    have u0 : ∀ j, m a0 j = if j = 1 ∨ j = 2 ∨ j = 3 ∨ j = 4 ∨ j = 5 then S 0 j else T 0 j := fun j => by
      rw [i2 a0 j (fun z => by omega)]
      by_cases q5 : j = 5
      · subst q5; rw [upM_eq]; rfl
      rw [up_ni q5]
      by_cases q4 : j = 4
      · subst q4; rw [upM_eq]; rfl
      rw [up_ni q4]
      by_cases q3 : j = 3
      · subst q3; rw [upM_eq]; rfl
      rw [up_ni q3]
      by_cases q2 : j = 2
      · subst q2; rw [upM_eq]; rfl
      rw [up_ni q2]
      by_cases q1 : j = 1
      · subst q1; rw [upM_eq, ← hz]; rfl
      rw [up_ni q1, if_neg (by omega)]
      exact tk 0 j (by decide)
    clear e e'
    intro k hk
    funext j
    have hk' : k = 0 ∨ k = 1 ∨ k = 2 ∨ k = 3 ∨ k = 4 ∨ k = 5 ∨ k = 6 ∨ k = 7 := by omega
    rcases hk' with rfl | rfl | rfl | rfl | rfl | rfl | rfl | rfl
    · show _ = cpS S T 0 j
      simp (disch := omega) only [Nat.add_zero, cp_na, r0]
      by_cases q : j = 13 ∨ j = 14 ∨ j = 15 ∨ j = 16 ∨ j = 17
      · have hc : cpS S T 0 j = S 0 j := if_pos (Or.inl ⟨rfl, by omega⟩)
        rw [hc]
        rcases q with rfl | rfl | rfl | rfl | rfl <;> simp (disch := omega) only [up_na, up_ni, upM_eq, cp_na, r0]
      · simp (disch := omega) only [up_na, up_ni, cp_na, u0]
        by_cases q2 : j = 1 ∨ j = 2 ∨ j = 3 ∨ j = 4 ∨ j = 5
        · have hc : cpS S T 0 j = S 0 j := if_pos (Or.inl ⟨rfl, by omega⟩)
          rw [if_pos q2, hc]
        · have hc : cpS S T 0 j = T 0 j := if_neg (by omega)
          rw [if_neg q2, hc]
    · simp (disch := omega) only [up_na, cp_na, uk]
      unfold cpS
      rw [if_neg (by omega)]
    · simp (disch := omega) only [up_na, cp_na]
      unfold cpS
      by_cases q : j < 5
      · rw [if_pos (by omega), i1 j q]
      · rw [if_neg (by omega), u2 j (by omega)]
    · simp (disch := omega) only [up_na, cp_na, cp_is, rk, uk]
      unfold cpS
      by_cases q : j < 30
      · rw [if_pos q, if_pos (by omega)]
      · rw [if_neg q, if_neg (by omega)]
    · simp (disch := omega) only [up_na, cp_na, cp_is, rk, uk]
      unfold cpS
      by_cases q : j < 5
      · rw [if_pos q, if_pos (by omega)]
      · rw [if_neg q, if_neg (by omega)]
    · simp (disch := omega) only [up_na, cp_na, cp_is, rk, uk]
      unfold cpS
      by_cases q : j < 5
      · rw [if_pos q, if_pos (by omega)]
      · rw [if_neg q, if_neg (by omega)]
    · simp (disch := omega) only [up_na, cp_na, cp_is, rk, uk]
      unfold cpS
      by_cases q : j < 24
      · rw [if_pos q, if_pos (by omega)]
      · rw [if_neg q, if_neg (by omega)]
    · simp (disch := omega) only [up_na, cp_na, cp_is, rk, uk]
      unfold cpS
      by_cases q : j < 24
      · rw [if_pos q, if_pos (by omega)]
      · rw [if_neg q, if_neg (by omega)]
  · intro a ha
    have g0 : a ≠ a0 := by omega
    have g2 : a ≠ a0 + 2 := by omega
    have g3 : a ≠ a0 + 3 := by omega
    have g4 : a ≠ a0 + 4 := by omega
    have g5 : a ≠ a0 + 5 := by omega
    have g6 : a ≠ a0 + 6 := by omega
    have g7 : a ≠ a0 + 7 := by omega
    rw [up_row g0, up_row g0, up_row g0, up_row g0, up_row g0, cp_row g7, cp_row g6, cp_row g5, cp_row g4, cp_row g3]
    funext j
    rw [i2 a j (fun z => g2 z.1), up_na g0, up_na g0, up_na g0, up_na g0, up_na g0]
end CPY
