theorem KR_c {k v w : Int} (h : (k = 60 ∧ w = 0) ∨ (k = 256 ∧ w = 1) ∨ (k = 61 ∧ w = 2) ∨ (k = 257 ∧ w = 3) ∨ (k = 258 ∧ w = 4) ∨ (k = 62 ∧ w = 5)) : KR k v 5 w := Or.inr (Or.inr (Or.inr (Or.inr (Or.inr (Or.inl ⟨rfl, h⟩)))))
theorem KR_s {k v : Int} (h : k = 59 ∨ k = 40 ∨ k = 41 ∨ k = 43 ∨ k = 45 ∨ k = 42 ∨ k = 47) : KR k v 4 k := Or.inr (Or.inr (Or.inr (Or.inr (Or.inl ⟨h, rfl, rfl⟩))))
theorem KR_b {v w : Int} : KR 0 v 6 w := Or.inr (Or.inr (Or.inr (Or.inl ⟨rfl, Or.inl rfl⟩)))
theorem KR_p {v : Int} : KR 0 v 4 37 := Or.inr (Or.inr (Or.inr (Or.inl ⟨rfl, Or.inr ⟨rfl, rfl⟩⟩)))
section SIGN
variable {M N H S B T ST : MM} {n t : Nat}
theorem q_byte (k : TK M N n t) {s : Nat} (hs : s ≤ 700) : ∃ x2 x22, f_X9_byteAt M (s : Int) = some x2 ∧ ((if (s : Int) < (n : Int) then (gd (0 ≤ (s : Int) ∧ (s : Int) < (700 : Int)) <| some (N 89 s)) else some 0) : Option Int) = some x22 ∧ (x2 = 61 ↔ x22 = 61) ∧ (x2 = 62 ↔ x22 = 62) ∧ (s < n ∨ (x2 ≠ 61 ∧ x2 ≠ 62)) := by
  obtain ⟨⟨a1, a2, a3⟩, _, c, _⟩ := k
  unfold f_X9_byteAt
  rw [a1]
  by_cases q : s < n
  · have cb := c s (by omega)
    rw [if_pos (show (s : Int) < (n : Int) by omega), gd_t (show 0 ≤ (s : Int) ∧ (s : Int) < 700 by omega), if_pos (show (s : Int) < (n : Int) by omega), gd_t (show 0 ≤ (s : Int) ∧ (s : Int) < 700 by omega), Int.toNat_natCast]
    exact ⟨_, _, rfl, rfl, by omega, by omega, Or.inl q⟩
  · rw [if_neg (show ¬ (s : Int) < (n : Int) by omega), if_neg (show ¬ (s : Int) < (n : Int) by omega)]
    exact ⟨_, _, rfl, rfl, by decide, by decide, Or.inr (by decide)⟩
/-- signs -/
theorem q_sign (k : TK M N n t) (ht : t < n) : ∃ M1 N1, f_X9_readSign M (M 1 t) = some M1 ∧ f_X12_signToken N = some N1 ∧ ∃ s : Nat, t < s ∧ TK M1 N1 n s ∧ FT M1 M ∧ FTN N1 N ∧ (M1 3 6 = M 3 6 ∧ N1 88 10 = N 88 10) ∧ KR (M1 3 4) (M1 3 5) (N1 88 8) (N1 88 9) := by
  obtain ⟨⟨a1, a2, a3⟩, ⟨b1, b2, b3⟩, c, _⟩ := id k
  have cb := c t (by omega)
  have z : 0 ≤ (t : Int) ∧ (t : Int) < 700 := by omega
  have t7 : t ≤ 700 := by omega
  have tn : t + 1 ≤ n := ht
  unfold f_X9_readSign f_X12_signToken
  rw [b1, b2, wi7 t7, bM_eq, bM_eq, upM_eq, bM_eq, bM_eq, gd_t z, Int.toNat_natCast]
  have k1 : TK (upM M 3 3 ((t + 1 : Nat) : Int)) (upM (upM N 88 9 (N 89 t)) 88 7 ((t + 1 : Nat) : Int)) n (t + 1) := k.cg (FT.rf.up (by decide)) ((FTN.rf.up (by decide)).up (by decide)) upM_eq upM_eq tn
  obtain ⟨x2, x22, e1, e2, x61, x62, xn⟩ := q_byte k1 (s := t + 1) (by omega)
  have u7 : upM (upM N 88 9 (N 89 t)) 88 7 ((t + 1 : Nat) : Int) 88 7 = ((t + 1 : Nat) : Int) := upM_eq
  have u9 : upM (upM N 88 9 (N 89 t)) 88 7 ((t + 1 : Nat) : Int) 88 9 = N 89 t := by rw [up_ni (by decide), upM_eq]
  have u6 : upM (upM N 88 9 (N 89 t)) 88 7 ((t + 1 : Nat) : Int) 88 6 = (n : Int) := by rw [up_ni (by decide), up_ni (by decide)]; exact a2
  have u0 : upM N 88 9 (N 89 t) 88 7 = (t : Int) := by rw [up_ni (by decide)]; exact b2
  rw [u0, wi7 t7, e1, Option.bind_some, u9, u7, u6, Int.toNat_natCast, e2]
  have ff : FT (upM M 3 3 ((t + 1 : Nat) : Int)) M := FT.rf.up (by decide)
  have fn : FTN (upM (upM N 88 9 (N 89 t)) 88 7 ((t + 1 : Nat) : Int)) N := (FTN.rf.up (by decide)).up (by decide)
  have v6 : upM M 3 3 ((t + 1 : Nat) : Int) 3 6 = M 3 6 := up_ni (by decide)
  have v33 : upM M 3 3 ((t + 1 : Nat) : Int) 3 3 = ((t + 1 : Nat) : Int) := upM_eq
  have v10 : upM (upM N 88 9 (N 89 t)) 88 7 ((t + 1 : Nat) : Int) 88 10 = N 88 10 := by rw [up_ni (by decide), up_ni (by decide)]
  clear e1 e2 u0
  generalize upM M 3 3 ((t + 1 : Nat) : Int) = A at k1 ff v6 v33
  generalize upM (upM N 88 9 (N 89 t)) 88 7 ((t + 1 : Nat) : Int) = D at k1 fn u7 u9 u6 v10
  generalize N 89 t = c0 at *
  generalize M 1 t = b0 at *
  -- a sign of one byte
  have one : ∀ kd kd' w : Int, KR kd (A 3 5) kd' w → ∃ M1 N1, (some (upM (upM A 3 4 0) 3 4 kd) : Option MM) = some M1 ∧ (some (upM (upM D 88 8 kd') 88 9 w) : Option MM) = some N1 ∧ ∃ s : Nat, t < s ∧ TK M1 N1 n s ∧ FT M1 M ∧ FTN N1 N ∧ (M1 3 6 = M 3 6 ∧ N1 88 10 = N 88 10) ∧ KR (M1 3 4) (M1 3 5) (N1 88 8) (N1 88 9) := fun kd kd' w hk => by
    refine ⟨_, _, rfl, rfl, t + 1, by omega, k1.cg ((FT.rf.up (by decide)).up (by decide)) ((FTN.rf.up (by decide)).up (by decide)) (by rw [up_ni (by decide), up_ni (by decide)]; exact v33) (by rw [up_ni (by decide), up_ni (by decide)]; exact u7) tn, (ff.up (by decide)).up (by decide), (fn.up (by decide)).up (by decide), ⟨by rw [up_ni (by decide), up_ni (by decide)]; exact v6, by rw [up_ni (by decide), up_ni (by decide)]; exact v10⟩, ?_⟩
    rw [upM_eq, up_ni (by decide), up_ni (by decide), up_ni (by decide), upM_eq, upM_eq]
    exact hk
  have one' : ∀ kd kd' : Int, KR kd (A 3 5) kd' c0 → ∃ M1 N1, (some (upM (upM A 3 4 0) 3 4 kd) : Option MM) = some M1 ∧ (some (upM D 88 8 kd') : Option MM) = some N1 ∧ ∃ s : Nat, t < s ∧ TK M1 N1 n s ∧ FT M1 M ∧ FTN N1 N ∧ (M1 3 6 = M 3 6 ∧ N1 88 10 = N 88 10) ∧ KR (M1 3 4) (M1 3 5) (N1 88 8) (N1 88 9) := fun kd kd' hk => by
    refine ⟨_, _, rfl, rfl, t + 1, by omega, k1.cg ((FT.rf.up (by decide)).up (by decide)) (FTN.rf.up (by decide)) (by rw [up_ni (by decide), up_ni (by decide)]; exact v33) (by rw [up_ni (by decide)]; exact u7) tn, (ff.up (by decide)).up (by decide), fn.up (by decide), ⟨by rw [up_ni (by decide), up_ni (by decide)]; exact v6, by rw [up_ni (by decide)]; exact v10⟩, ?_⟩
    rw [upM_eq, up_ni (by decide), up_ni (by decide), upM_eq, up_ni (by decide), u9]
    exact hk
  have none' : ∀ kd' : Int, KR 0 (A 3 5) kd' c0 → ∃ M1 N1, (some (upM A 3 4 0) : Option MM) = some M1 ∧ (some (upM D 88 8 kd') : Option MM) = some N1 ∧ ∃ s : Nat, t < s ∧ TK M1 N1 n s ∧ FT M1 M ∧ FTN N1 N ∧ (M1 3 6 = M 3 6 ∧ N1 88 10 = N 88 10) ∧ KR (M1 3 4) (M1 3 5) (N1 88 8) (N1 88 9) := fun kd' hk => by
    refine ⟨_, _, rfl, rfl, t + 1, by omega, k1.cg (FT.rf.up (by decide)) (FTN.rf.up (by decide)) (by rw [up_ni (by decide)]; exact v33) (by rw [up_ni (by decide)]; exact u7) tn, ff.up (by decide), fn.up (by decide), ⟨by rw [up_ni (by decide)]; exact v6, by rw [up_ni (by decide)]; exact v10⟩, ?_⟩
    rw [upM_eq, up_ni (by decide), upM_eq, up_ni (by decide), u9]
    exact hk
  -- and of two
  have two : ∀ kd w : Int, t + 1 < n → KR kd (A 3 5) 5 w → ∃ M1 N1, (some (upM (upM (upM A 3 4 0) 3 4 kd) 3 3 ((t + 1 + 1 : Nat) : Int)) : Option MM) = some M1 ∧ (some (upM (upM (upM D 88 7 ((t + 1 + 1 : Nat) : Int)) 88 8 5) 88 9 w) : Option MM) = some N1 ∧ ∃ s : Nat, t < s ∧ TK M1 N1 n s ∧ FT M1 M ∧ FTN N1 N ∧ (M1 3 6 = M 3 6 ∧ N1 88 10 = N 88 10) ∧ KR (M1 3 4) (M1 3 5) (N1 88 8) (N1 88 9) := fun kd w hn hk => by
    refine ⟨_, _, rfl, rfl, t + 1 + 1, by omega, k1.cg (((FT.rf.up (by decide)).up (by decide)).up (by decide)) (((FTN.rf.up (by decide)).up (by decide)).up (by decide)) upM_eq (by rw [up_ni (by decide), up_ni (by decide), upM_eq]) hn, ((ff.up (by decide)).up (by decide)).up (by decide), ((fn.up (by decide)).up (by decide)).up (by decide), ⟨by rw [up_ni (by decide), up_ni (by decide), up_ni (by decide)]; exact v6, by rw [up_ni (by decide), up_ni (by decide), up_ni (by decide)]; exact v10⟩, ?_⟩
    rw [up_ni (by decide), upM_eq, up_ni (by decide), up_ni (by decide), up_ni (by decide), up_ni (by decide), upM_eq, upM_eq]
    exact hk
  have w2 : ∀ kd : Int, w32 (upM (upM A 3 4 0) 3 4 kd 3 3 + 1) = ((t + 1 + 1 : Nat) : Int) := fun kd => by rw [up_ni (by decide), up_ni (by decide), v33]; exact wi7 (by omega)
  have t8 : t + 1 ≤ 700 := by omega
  have ek : ∀ kd : Int, upM (upM A 3 4 0) 3 4 kd 3 4 = kd := fun kd => upM_eq
  have e9a : ∀ m : MM, ∀ v w : Int, upM (upM m 88 7 v) 88 8 w 88 9 = m 88 9 := fun m v w => by rw [up_ni (by decide), up_ni (by decide)]
  have e9b : ∀ m : MM, ∀ w : Int, upM m 88 8 w 88 9 = m 88 9 := fun m w => up_ni (by decide)
  have e9c : ∀ m : MM, ∀ v : Int, upM m 88 7 v 88 9 = m 88 9 := fun m v => up_ni (by decide)
  by_cases h60 : b0 = 60
  · have hc : c0 = 60 := by omega
    subst h60 hc
    by_cases y1 : x2 = 61
    · have y2 := x61.mp y1
      have y3 : ¬ x22 = 62 := by omega
      simp only [Int.reduceEq, ↓reduceIte, bS_l, bS_r, Option.bind_some, bM_eq, y1, y2, w2, wi7 t8, ek, e9a, e9b, e9c, u9, Int.reduceNeg]
      exact two 256 1 (by omega) (KR_c (by decide))
    · have y2 : ¬ x22 = 61 := fun z => y1 (x61.mpr z)
      by_cases y3 : x2 = 62
      · have y4 := x62.mp y3
        simp only [Int.reduceEq, ↓reduceIte, bS_l, bS_r, Option.bind_some, bM_eq, y3, y4, w2, wi7 t8, ek, e9a, e9b, e9c, u9]
        exact two 257 3 (by omega) (KR_c (by decide))
      · have y4 : ¬ x22 = 62 := fun z => y3 (x62.mpr z)
        simp only [Int.reduceEq, ↓reduceIte, bS_l, bS_r, Option.bind_some, bM_eq, y1, y2, y3, y4, w2, wi7 t8, ek, e9a, e9b, e9c, u9]
        exact one 60 5 0 (KR_c (by decide))
  by_cases h62 : b0 = 62
  · have hc : c0 = 62 := by omega
    subst h62 hc
    by_cases y1 : x2 = 61
    · have y2 := x61.mp y1
      simp only [Int.reduceEq, ↓reduceIte, bS_l, bS_r, Option.bind_some, bM_eq, y1, y2, w2, wi7 t8, ek, e9a, e9b, e9c, u9]
      exact two 258 4 (by omega) (KR_c (by decide))
    · have y2 : ¬ x22 = 61 := fun z => y1 (x61.mpr z)
      simp only [Int.reduceEq, ↓reduceIte, bS_l, bS_r, Option.bind_some, bM_eq, y1, y2, w2, wi7 t8, ek, e9a, e9b, e9c, u9]
      exact one 62 5 5 (KR_c (by decide))
  by_cases h61 : b0 = 61
  · have hc : c0 = 61 := by omega
    subst h61 hc
    simp only [Int.reduceEq, ↓reduceIte, bS_l, bS_r, Option.bind_some, bM_eq, w2, wi7 t8, ek, e9a, e9b, e9c, u9]
    exact one 61 5 2 (KR_c (by decide))
  by_cases hs : b0 = 59 ∨ b0 = 40 ∨ b0 = 41 ∨ b0 = 43 ∨ b0 = 45 ∨ b0 = 42 ∨ b0 = 47
  · have hc : c0 = b0 := by omega
    subst hc
    have hk : KR c0 (A 3 5) 4 c0 := KR_s hs
    rcases hs with h | h | h | h | h | h | h <;> subst h <;> simp only [Int.reduceEq, ↓reduceIte, bS_l, bS_r, Option.bind_some, bM_eq] <;> with_reducible exact one' _ _ hk
  · have n59 : ¬ b0 = 59 := fun z => hs (by omega)
    have n40 : ¬ b0 = 40 := fun z => hs (by omega)
    have n41 : ¬ b0 = 41 := fun z => hs (by omega)
    have n42 : ¬ b0 = 42 := fun z => hs (by omega)
    have n43 : ¬ b0 = 43 := fun z => hs (by omega)
    have n45 : ¬ b0 = 45 := fun z => hs (by omega)
    have n47 : ¬ b0 = 47 := fun z => hs (by omega)
    have m60 : ¬ c0 = 60 := by omega
    have m61 : ¬ c0 = 61 := by omega
    have m62 : ¬ c0 = 62 := by omega
    have m59 : ¬ c0 = 59 := by omega
    have m40 : ¬ c0 = 40 := by omega
    have m41 : ¬ c0 = 41 := by omega
    have m42 : ¬ c0 = 42 := by omega
    have m43 : ¬ c0 = 43 := by omega
    have m45 : ¬ c0 = 45 := by omega
    have m47 : ¬ c0 = 47 := by omega
    simp only [n40, n41, n42, n43, n45, n47, n59, h60, h61, h62, m40, m41, m42, m43, m45, m47, m59, m60, m61, m62, ↓reduceIte, ite_self, bS_r, bS_l]
    by_cases m37 : c0 = 37
    · subst m37
      simp only [Int.reduceEq, ↓reduceIte, Option.bind_some, bM_eq, bS_r]
      exact none' 4 KR_p
    · simp only [m37, Int.reduceEq, ↓reduceIte, Option.bind_some, bM_eq, bS_r]
      exact none' 6 KR_b
end SIGN
