section KEEP2
variable {M N H S : MM} {LV : LVT} {h g : Nat}
theorem m_begin (N : MM) : ∃ N', f_X12_begin N = some N' ∧ ((∀ r : Nat, r < 5 → N' 116 r = N 94 r ∧ ∀ k : Nat, k < 6 → N' 117 (6 * r + k) = N 94 r) ∧ (∀ p : Nat, p < 5 → N' 118 p = 0 ∧ N' 119 p = 0 ∧ N' 120 p = 0) ∧ (N' 121 0 = N 92 0 ∧ N' 122 0 = N 92 1 ∧ N' 123 0 = 0 ∧ N' 124 0 = 0 ∧ N' 125 0 = 0 ∧ N' 126 0 = 0 ∧ N' 127 0 = 0) ∧ (∀ j : Nat, j < 24 → N' 128 j = 0 ∧ N' 129 j = 0) ∧ (N' 88 80 = 0 ∧ N' 88 81 = -1 ∧ N' 88 85 = 0 ∧ N' 88 87 = 0)) ∧ ∀ a j, a < 116 → ¬ (a = 88 ∧ 69 ≤ j) → N' a j = N a j := by
  unfold f_X12_begin
  obtain ⟨y1, e1, ⟨p1, p2, p3⟩, f1⟩ := m_first (N := N) (b := 0) (by decide)
  have e1 : f_X12_atFirst N 0 = some y1 := e1
  rw [e1, Option.bind_some]
  obtain ⟨y2, e2, i1, i2⟩ : ∃ m, (lp (X := Int × MM) (Y := MM) (fun x2 =>
if x2.1 < 24 then
(gd (0 ≤ x2.1 ∧ x2.1 < (24 : Int)) <|
bM (upM x2.2 128 (x2.1).toNat 0) fun M5 =>
gd (0 ≤ x2.1 ∧ x2.1 < (24 : Int)) <|
bM (upM M5 129 (x2.1).toNat 0) fun M7 =>
some (Sum.inl (w32 (x2.1 + 1), M7)))
else
some (Sum.inr x2.2)) FU (0, y1)) = some m ∧ ((∀ j : Nat, j < 24 → m 128 j = 0 ∧ m 129 j = 0) ∧ ∀ a j, a ≠ 128 → a ≠ 129 → m a j = y1 a j) := by
    refine lp_cnt 24 (fun k m => (∀ j : Nat, j < k → m 128 j = 0 ∧ m 129 j = 0) ∧ ∀ a j, a ≠ 128 → a ≠ 129 → m a j = y1 a j) _ (by decide) ?_ ?_ _ ⟨fun j hj => absurd hj (Nat.not_lt_zero _), fun _ _ _ _ => rfl⟩
    · rintro k m hk ⟨i1, i2⟩
      left
      have z : 0 ≤ (k : Int) ∧ (k : Int) < 24 := by omega
      refine ⟨upM (upM m 128 k 0) 129 k 0, ?_, ?_, ?_⟩
      · try dsimp +instances only
        rw [if_pos z.2, gd_t z, bM_eq, gd_t z, bM_eq, Int.toNat_natCast, wi1 (by omega)]
        rfl
      · intro j hj
        by_cases q : j = k
        · rw [q]; exact ⟨by rw [up_na (by omega), upM_eq], upM_eq⟩
        · exact ⟨by rw [up_na (by omega), up_ni q]; exact (i1 j (by omega)).1, by rw [up_ni q, up_na (by omega)]; exact (i1 j (by omega)).2⟩
      · intro a j h1 h2
        rw [up_na h2, up_na h1]
        exact i2 a j h1 h2
    · rintro m ⟨i1, i2⟩
      exact ⟨m, rfl, i1, i2⟩
  rw [e2, Option.bind_some]
  obtain ⟨y3, e3, _, f3⟩ := m_plain (N := y2)
  rw [e3, Option.bind_some, bM_eq, bM_eq, bM_eq, bM_eq]
  have ha : ∀ a j, a ≠ 88 → upM (upM (upM (upM y3 88 80 0) 88 81 (-1)) 88 85 0) 88 87 0 a j = y2 a j := fun a j h => by rw [up_na h, up_na h, up_na h, up_na h, f3 a j (by omega)]
  have hb : ∀ a j, a ≠ 88 → a ≠ 128 → a ≠ 129 → upM (upM (upM (upM y3 88 80 0) 88 81 (-1)) 88 85 0) 88 87 0 a j = y1 a j := fun a j h1 h2 h3 => by rw [ha a j h1, i2 a j h2 h3]
  refine ⟨_, rfl, ⟨fun r hr => ⟨?_, fun k hk => ?_⟩, fun p hp => ⟨?_, ?_, ?_⟩, ⟨?_, ?_, ?_, ?_, ?_, ?_, ?_⟩, fun j hj => ⟨?_, ?_⟩, ⟨rfl, rfl, rfl, rfl⟩⟩, fun a j h1 h2 => ?_⟩
  · rw [hb _ _ (by decide) (by decide) (by decide)]
    have := (p1 r hr).1
    rw [show 5 * 0 + r = r by omega] at this
    exact this
  · rw [hb _ _ (by decide) (by decide) (by decide)]
    have := (p1 r hr).2 k hk
    rw [show 30 * 0 + 6 * r + k = 6 * r + k by omega] at this
    exact this
  · rw [hb _ _ (by decide) (by decide) (by decide)]
    have := (p2 p hp).1
    rw [show 5 * 0 + p = p by omega] at this
    exact this
  · rw [hb _ _ (by decide) (by decide) (by decide)]
    have := (p2 p hp).2.1
    rw [show 5 * 0 + p = p by omega] at this
    exact this
  · rw [hb _ _ (by decide) (by decide) (by decide)]
    have := (p2 p hp).2.2
    rw [show 5 * 0 + p = p by omega] at this
    exact this
  · rw [hb _ _ (by decide) (by decide) (by decide)]; exact p3.1
  · rw [hb _ _ (by decide) (by decide) (by decide)]; exact p3.2.1
  · rw [hb _ _ (by decide) (by decide) (by decide)]; exact p3.2.2.1
  · rw [hb _ _ (by decide) (by decide) (by decide)]; exact p3.2.2.2.1
  · rw [hb _ _ (by decide) (by decide) (by decide)]; exact p3.2.2.2.2.1
  · rw [hb _ _ (by decide) (by decide) (by decide)]; exact p3.2.2.2.2.2.1
  · rw [hb _ _ (by decide) (by decide) (by decide)]; exact p3.2.2.2.2.2.2
  · rw [ha _ _ (by decide)]; exact (i1 j hj).1
  · rw [ha _ _ (by decide)]; exact (i1 j hj).2
  · rw [upM_ne a j (by omega), upM_ne a j (by omega), upM_ne a j (by omega), upM_ne a j (by omega), f3 a j (by omega), i2 a j (by omega) (by omega), f1 a j (by omega)]
/-- a text kept: the second system -/
theorem m_keepT (hb : ∀ l, l < 3 → N 106 (3 + l) = 0 ∨ N 106 (3 + l) = 1) : ∃ N', f_X12_keepText N = some N' ∧ ((N' 88 12 = N 88 17 ∧ N' 88 13 = N 88 18 ∧ N' 88 14 = N 88 19 ∧ N' 88 15 = N 88 20 ∧ N' 88 16 = N 88 21) ∧ (∀ a j, 92 ≤ a → a ≤ 111 → j < kk a → N' a j = N a (kk a + j)) ∧ ((∀ r : Nat, r < 5 → N' 116 r = N 94 (5 + r) ∧ ∀ k : Nat, k < 6 → N' 117 (6 * r + k) = N 94 (5 + r)) ∧ (∀ p : Nat, p < 5 → N' 118 p = 0 ∧ N' 119 p = 0 ∧ N' 120 p = 0) ∧ (N' 121 0 = N 92 3 ∧ N' 122 0 = N 92 4 ∧ N' 123 0 = 0 ∧ N' 124 0 = 0 ∧ N' 125 0 = 0 ∧ N' 126 0 = 0 ∧ N' 127 0 = 0) ∧ (∀ j : Nat, j < 24 → N' 128 j = 0 ∧ N' 129 j = 0) ∧ (N' 88 80 = 0 ∧ N' 88 81 = -1 ∧ N' 88 85 = 0 ∧ N' 88 87 = 0))) ∧ ∀ a j, a < 91 → ¬ (a = 88 ∧ 12 ≤ j) → N' a j = N a j := by
  obtain ⟨N1, e1, c1⟩ := m_copied (k5 N) (fun l hl => by rw [k5_a N (by omega)]; exact hb l hl) (G := fun y => (f_X12_begin y).bind fun x => some x)
  have e1 : f_X12_keepText N = (f_X12_begin N1).bind fun x => some x := (keep_eq N).trans e1
  obtain ⟨N2, e2, ⟨b1, b2, b3, b4, b5⟩, f2⟩ := m_begin N1
  have cp : ∀ a j, 92 ≤ a → a ≤ 111 → j < kk a → N1 a j = N a (kk a + j) := fun a j h1 h2 h3 => by rw [c1, if_pos ⟨h1, by omega, h3⟩, k5_a N (by omega)]
  have c8 : ∀ j, N1 88 j = k5 N 88 j := fun j => by rw [c1, if_neg (by omega)]
  have e94 : ∀ r, r < 5 → N1 94 r = N 94 (5 + r) := fun r hr => cp 94 r (by decide) (by decide) hr
  refine ⟨N2, by rw [e1, e2, Option.bind_some], ⟨⟨?_, ?_, ?_, ?_, ?_⟩, ?_, ⟨?_, b2, ?_, b4, b5⟩⟩, ?_⟩
  · rw [f2 88 12 (by decide) (by decide), c8]; rfl
  · rw [f2 88 13 (by decide) (by decide), c8]; rfl
  · rw [f2 88 14 (by decide) (by decide), c8]; rfl
  · rw [f2 88 15 (by decide) (by decide), c8]; rfl
  · rw [f2 88 16 (by decide) (by decide), c8]; rfl
  · intro a j h1 h2 h3
    rw [f2 a j (by omega) (by omega)]
    exact cp a j h1 h2 h3
  · intro r hr
    rw [← e94 r hr]
    exact b1 r hr
  · have n0 : N1 92 0 = N 92 3 := cp 92 0 (by decide) (by decide) (by decide)
    have n1 : N1 92 1 = N 92 4 := cp 92 1 (by decide) (by decide) (by decide)
    rw [← n0, ← n1]
    exact b3
  · intro a j h1 h2
    rw [f2 a j (by omega) (by omega), c1, if_neg (by omega), k5_a N (by omega)]
/-- a text kept: the class -/
theorem c_take (hh : h = 8 ∨ h = 31) (hg : g = 8 ∨ g = 31) (h3 : M 0 3 = (h : Int)) (h4 : M 0 4 = (g : Int)) (hC : CC M 54 S) : ∃ M', f_X11_takeSpare M = some M' ∧ (M' 0 3 = (g : Int) ∧ M' 0 4 = (h : Int) ∧ M' 0 7 = 0 ∧ (M' 78 0 = 0 ∧ M' 78 1 = -1) ∧ M' 84 0 = 0) ∧ CC M' 54 (bgS (fun k => M (g + k)) S g) ∧ (∀ a, a ≠ 0 → (a < 54 ∨ 61 < a) → a ≠ 78 → a ≠ 84 → M' a = M a) ∧ ∀ j, j ≠ 3 → j ≠ 4 → j ≠ 7 → M' 0 j = M 0 j := by
  unfold f_X11_takeSpare f_X4_clear
  rw [h3, gH_h hh, h4, gH_h hg, bM_eq, bM_eq, up_ni (by decide), upM_eq, gH_h hg]
  have ha : ∀ a, a ≠ 0 → upM (upM M 0 3 (g : Int)) 0 4 (h : Int) a = M a := fun a h => by rw [up_row h, up_row h]
  obtain ⟨x6, e1, c1, f1⟩ := c_begin (M := upM (upM M 0 3 (g : Int)) 0 4 (h : Int)) (H := fun k => M (g + k)) (T := S) hg (c := 54) (by decide) (fun k _ _ _ => ha (g + k) (by omega)) (fun k hk => by rw [ha (54 + k) (by omega)]; exact hC k hk)
  rw [e1, Option.bind_some, bM_eq, bM_eq, bM_eq, Option.bind_some, bM_eq]
  have x0 : ∀ j, x6 0 j = upM (upM M 0 3 (g : Int)) 0 4 (h : Int) 0 j := fun j => by rw [f1 0 (by decide)]
  refine ⟨_, rfl, ⟨?_, ?_, rfl, ⟨rfl, rfl⟩, rfl⟩, ?_, ?_, ?_⟩
  · rw [up_na (by decide), up_na (by decide), up_na (by decide), up_ni (by decide), x0, up_ni (by decide), upM_eq]
  · rw [up_na (by decide), up_na (by decide), up_na (by decide), up_ni (by decide), x0, upM_eq]
  · intro k hk
    rw [up_row (by omega), up_row (by omega), up_row (by omega), up_row (by omega)]
    exact c1 k hk
  · intro a h1 h2 h3 h4
    rw [up_row h4, up_row h3, up_row h3, up_row h1, f1 a (by omega), ha a h1]
  · intro j h1 h2 h3
    rw [up_na (by decide), up_na (by decide), up_na (by decide), up_ni h3, x0, up_ni h2, up_ni h1]
end KEEP2
