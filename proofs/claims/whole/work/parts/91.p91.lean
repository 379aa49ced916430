section BEG
variable {M N H S B T ST : MM} {LV : LVT} {h c : Nat}
/-- a course at its beginning -/
def bgS (H T : MM) (h : Nat) : MM := fun k j => if k = 0 then (if j = 1 then (h : Int) else if j = 3 then H 0 9 else if j = 4 then H 0 10 else if j = 2 ∨ j = 5 ∨ j = 13 ∨ j = 14 ∨ j = 15 ∨ j = 16 ∨ j = 17 then 0 else T 0 j) else if (k = 2 ∨ k = 4 ∨ k = 5) ∧ j < 5 then 0 else if k = 3 ∧ j < 30 then H 3 (j % 5) else if (k = 6 ∨ k = 7) ∧ j < 24 then 0 else T k j
theorem wi1 {k : Nat} (h : k < 1000) : w32 ((k : Int) + 1) = (k : Int) + 1 := w32_i (by omega) (by omega)
theorem c_begin (hh : h = 8 ∨ h = 31) (hc : c = 54 ∨ c = 70) (hH : HC M h H) (hT : CC M c T) : ∃ M', f_X0_begin M c h = some M' ∧ CC M' c (bgS H T h) ∧ ∀ a, a < c ∨ c + 7 < a → M' a = M a := by
  have e9 : M h 9 = H 0 9 := hH.at0
  have e10 : M h 10 = H 0 10 := hH.at0
  have nh : h ≠ c := by omega
  unfold f_X0_begin
  rw [bM_eq, bM_eq, up_ni (by decide), upM_eq, gH_h hh, bM_eq, up_ni (by decide), up_ni (by decide), upM_eq, gH_h hh, bM_eq, bM_eq]
  rw [up_na (a := c) (x := h) nh, up_na (a := c) (x := h) nh, up_na (a := c) (x := h) nh, up_na (a := c) (x := h) nh, up_na (a := c) (x := h) nh, e9, e10]
  generalize hA : upM (upM (upM (upM (upM M c 1 (h : Int)) c 2 0) c 3 (H 0 9)) c 4 (H 0 10)) c 5 0 = A
  have A0 : ∀ j, A c j = if j = 1 then (h : Int) else if j = 3 then H 0 9 else if j = 4 then H 0 10 else if j = 2 ∨ j = 5 then 0 else M c j := fun j => by
    rw [← hA]
    unfold upM
    by_cases q1 : j = 1
    · subst q1; simp
    by_cases q2 : j = 2
    · subst q2; simp
    by_cases q3 : j = 3
    · subst q3; simp
    by_cases q4 : j = 4
    · subst q4; simp
    by_cases q5 : j = 5
    · subst q5; simp
    simp [q1, q2, q3, q4, q5]
  have Aa : ∀ a, a ≠ c → A a = M a := fun a ha => by rw [← hA, up_row ha, up_row ha, up_row ha, up_row ha, up_row ha]
  clear hA
  obtain ⟨m1, e1, i1, i2⟩ : ∃ m, (lp (X := Int × MM) (Y := MM) (fun x8 =>
if x8.1 < 5 then
(gd (0 ≤ x8.1 ∧ x8.1 < (5 : Int)) <|
bM (upM x8.2 (c + 2) (x8.1).toNat 0) fun M11 =>
some (Sum.inl (w32 (x8.1 + 1), M11)))
else
some (Sum.inr x8.2)) FU (0, A)) = some m ∧ ((∀ j : Nat, j < 5 → m (c + 2) j = 0) ∧ ∀ a j, ¬ (a = c + 2 ∧ j < 5) → m a j = A a j) := by
    refine lp_cnt 5 (fun k m => (∀ j : Nat, j < k → m (c + 2) j = 0) ∧ ∀ a j, ¬ (a = c + 2 ∧ j < 5) → m a j = A a j) _ (by decide) ?_ ?_ _ ⟨fun j hj => absurd hj (Nat.not_lt_zero _), fun _ _ _ => rfl⟩
    · rintro k m hk ⟨i1, i2⟩
      left
      have z5 : 0 ≤ (k : Int) ∧ (k : Int) < 5 := ⟨by omega, by omega⟩
      refine ⟨upM m (c + 2) k 0, ?_, ?_, ?_⟩
      · try dsimp +instances only
        rw [if_pos z5.2, gd_t z5, bM_eq, Int.toNat_natCast, wi1 (by omega)]
        rfl
      · intro j hj
        by_cases q : j = k
        · rw [q, upM_eq]
        · rw [up_ni q]; exact i1 j (by omega)
      · intro a j hn
        rw [upM_ne a j (fun z => hn ⟨z.1, by omega⟩)]
        exact i2 a j hn
    · rintro m ⟨i1, i2⟩
      exact ⟨m, rfl, i1, i2⟩
  rw [e1, Option.bind_some]
  clear e1
  obtain ⟨m2, e2, j1, j2⟩ : ∃ m, (lp (X := Int × MM) (Y := MM) (fun x13 =>
if x13.1 < 30 then
(gH (x13.2 c 1) fun b15 =>
gd (0 ≤ w32 (Int.tmod x13.1 5) ∧ w32 (Int.tmod x13.1 5) < (5 : Int)) <|
gd (0 ≤ x13.1 ∧ x13.1 < (30 : Int)) <|
bM (upM x13.2 (c + 3) (x13.1).toNat (x13.2 (b15 + 3) (w32 (Int.tmod x13.1 5)).toNat)) fun M18 =>
some (Sum.inl (w32 (x13.1 + 1), M18)))
else
some (Sum.inr x13.2)) FU (0, m1)) = some m ∧ ((∀ j : Nat, j < 30 → m (c + 3) j = H 3 (j % 5)) ∧ ∀ a j, ¬ (a = c + 3 ∧ j < 30) → m a j = m1 a j) := by
    refine lp_cnt 30 (fun k m => (∀ j : Nat, j < k → m (c + 3) j = H 3 (j % 5)) ∧ ∀ a j, ¬ (a = c + 3 ∧ j < 30) → m a j = m1 a j) _ (by decide) ?_ ?_ _ ⟨fun j hj => absurd hj (Nat.not_lt_zero _), fun _ _ _ => rfl⟩
    · rintro k m hk ⟨i1', i2'⟩
      left
      have z5 : 0 ≤ (k : Int) ∧ (k : Int) < 30 := ⟨by omega, by omega⟩
      have z6 : 0 ≤ (k : Int) % 5 ∧ (k : Int) % 5 < 5 := ⟨by omega, by omega⟩
      have z7 : ((k : Int) % 5).toNat = k % 5 := by omega
      have e01 : m c 1 = (h : Int) := by rw [i2' c 1 (by omega), i2 c 1 (by omega), A0]; rfl
      have eh : m (h + 3) (k % 5) = H 3 (k % 5) := by rw [i2' (h + 3) _ (by omega), i2 (h + 3) _ (by omega), Aa (h + 3) (by omega)]; exact hH.at (by decide) (by decide) (by decide)
      have wt : w32 (Int.tmod (k : Int) 5) = (k : Int) % 5 := by rw [tmn z5.1]; exact w32_i (by omega) (by omega)
      refine ⟨upM m (c + 3) k (H 3 (k % 5)), ?_, ?_, ?_⟩
      · try dsimp +instances only
        rw [if_pos z5.2, e01, gH_h hh, wt, gd_t z6, gd_t z5, bM_eq, Int.toNat_natCast, z7, eh, wi1 (by clear wt; omega)]
        rfl
      · intro j hj
        by_cases q : j = k
        · rw [q, upM_eq]
        · rw [up_ni q]; exact i1' j (by clear wt; omega)
      · intro a j hn
        rw [upM_ne a j (fun z => hn ⟨z.1, by clear wt; omega⟩)]
        exact i2' a j hn
    · rintro m ⟨i1', i2'⟩
      exact ⟨m, rfl, i1', i2'⟩
  rw [e2, Option.bind_some]
  clear e2
  obtain ⟨m3, e3, k1, k2⟩ : ∃ m, (lp (X := Int × MM) (Y := MM) (fun x20 =>
if x20.1 < 24 then
(gd (0 ≤ x20.1 ∧ x20.1 < (24 : Int)) <|
bM (upM x20.2 (c + 6) (x20.1).toNat 0) fun M23 =>
gd (0 ≤ x20.1 ∧ x20.1 < (24 : Int)) <|
bM (upM M23 (c + 7) (x20.1).toNat 0) fun M25 =>
some (Sum.inl (w32 (x20.1 + 1), M25)))
else
some (Sum.inr x20.2)) FU (0, m2)) = some m ∧ ((∀ j : Nat, j < 24 → m (c + 6) j = 0 ∧ m (c + 7) j = 0) ∧ ∀ a j, ¬ ((a = c + 6 ∨ a = c + 7) ∧ j < 24) → m a j = m2 a j) := by
    refine lp_cnt 24 (fun k m => (∀ j : Nat, j < k → m (c + 6) j = 0 ∧ m (c + 7) j = 0) ∧ ∀ a j, ¬ ((a = c + 6 ∨ a = c + 7) ∧ j < 24) → m a j = m2 a j) _ (by decide) ?_ ?_ _ ⟨fun j hj => absurd hj (Nat.not_lt_zero _), fun _ _ _ => rfl⟩
    · rintro k m hk ⟨i1', i2'⟩
      left
      have z5 : 0 ≤ (k : Int) ∧ (k : Int) < 24 := ⟨by omega, by omega⟩
      have g : c + 6 ≠ c + 7 := by omega
      refine ⟨upM (upM m (c + 6) k 0) (c + 7) k 0, ?_, ?_, ?_⟩
      · try dsimp +instances only
        rw [if_pos z5.2, gd_t z5, bM_eq, gd_t z5, bM_eq, Int.toNat_natCast, wi1 (by omega)]
        rfl
      · intro j hj
        by_cases q : j = k
        · rw [q, upM_eq, up_na g, upM_eq]; exact ⟨rfl, rfl⟩
        · rw [up_na g, up_ni q, up_ni q, up_na g.symm]; exact i1' j (by omega)
      · intro a j hn
        rw [upM_ne a j (fun z => hn ⟨Or.inr z.1, by omega⟩), upM_ne a j (fun z => hn ⟨Or.inl z.1, by omega⟩)]
        exact i2' a j hn
    · rintro m ⟨i1', i2'⟩
      exact ⟨m, rfl, i1', i2'⟩
  rw [e3, Option.bind_some, bM_eq]
  clear e3
  have full : ∀ a j, ¬ (a = c + 2 ∧ j < 5) → ¬ (a = c + 3 ∧ j < 30) → ¬ ((a = c + 6 ∨ a = c + 7) ∧ j < 24) → m3 a j = A a j := fun a j h1 h2 h3 => by rw [k2 a j h3, j2 a j h2, i2 a j h1]
  obtain ⟨m4, e4, c4, f4⟩ := c_forget (M := upM m3 c 14 0) (c := c) (S := fun k => upM m3 c 14 0 (c + k)) (fun k _ => rfl)
  rw [e4, Option.bind_some]
  clear e4
  refine ⟨m4, rfl, ?_, ?_⟩
  · intro k hk
    rw [c4 k hk]
    funext j
    unfold fgS bgS
    dsimp only
    have hk' : k = 0 ∨ k = 1 ∨ k = 2 ∨ k = 3 ∨ k = 4 ∨ k = 5 ∨ k = 6 ∨ k = 7 := by omega
    rcases hk' with rfl | rfl | rfl | rfl | rfl | rfl | rfl | rfl
    · by_cases q : j = 13 ∨ j = 15 ∨ j = 16 ∨ j = 17
      · rw [if_pos (Or.inr (Or.inr ⟨rfl, q⟩)), if_pos rfl, if_neg (by omega), if_neg (by omega), if_neg (by omega), if_pos (by omega)]
      · rw [if_neg (by omega), if_pos rfl]
        show upM m3 c 14 0 c j = _
        by_cases q14 : j = 14
        · subst q14
          rw [upM_eq, if_neg (by decide), if_neg (by decide), if_neg (by decide), if_pos (by decide)]
        · rw [up_ni q14, full c j (by omega) (by omega) (by omega), A0]
          by_cases r1 : j = 1
          · rw [if_pos r1, if_pos r1]
          rw [if_neg r1, if_neg r1]
          by_cases r3 : j = 3
          · rw [if_pos r3, if_pos r3]
          rw [if_neg r3, if_neg r3]
          by_cases r4 : j = 4
          · rw [if_pos r4, if_pos r4]
          rw [if_neg r4, if_neg r4]
          by_cases r2 : j = 2 ∨ j = 5
          · rw [if_pos r2, if_pos (by omega)]
          · rw [if_neg r2, if_neg (by omega)]
            exact hT.at0
    · rw [if_neg (by omega), if_neg (by decide), if_neg (by omega), if_neg (by omega), if_neg (by omega), up_na (by omega), full _ _ (by omega) (by omega) (by omega), Aa _ (by omega)]
      exact hT.at (by decide)
    · rw [if_neg (by omega), if_neg (by decide), up_na (by omega)]
      by_cases q : j < 5
      · rw [if_pos ⟨by decide, q⟩, k2 _ _ (by omega), j2 _ _ (by omega)]
        exact i1 j q
      · rw [if_neg (by omega), if_neg (by omega), if_neg (by omega), full _ _ (by omega) (by omega) (by omega), Aa _ (by omega)]
        exact hT.at (by decide)
    · rw [if_neg (by omega), if_neg (by decide), up_na (by omega), if_neg (by omega)]
      by_cases q : j < 30
      · rw [if_pos ⟨rfl, q⟩, k2 _ _ (by omega)]
        exact j1 j q
      · rw [if_neg (by omega), if_neg (by omega), full _ _ (by omega) (by omega) (by omega), Aa _ (by omega)]
        exact hT.at (by decide)
    · by_cases q : j < 5
      · rw [if_pos (by omega), if_neg (by decide), if_pos ⟨by decide, q⟩]
      · rw [if_neg (by omega), if_neg (by decide), if_neg (by omega), if_neg (by omega), if_neg (by omega), up_na (by omega), full _ _ (by omega) (by omega) (by omega), Aa _ (by omega)]
        exact hT.at (by decide)
    · by_cases q : j < 5
      · rw [if_pos (by omega), if_neg (by decide), if_pos ⟨by decide, q⟩]
      · rw [if_neg (by omega), if_neg (by decide), if_neg (by omega), if_neg (by omega), if_neg (by omega), up_na (by omega), full _ _ (by omega) (by omega) (by omega), Aa _ (by omega)]
        exact hT.at (by decide)
    · rw [if_neg (by omega), if_neg (by decide), if_neg (by omega), if_neg (by omega), up_na (by omega)]
      by_cases q : j < 24
      · rw [if_pos ⟨by decide, q⟩]
        exact (k1 j q).1
      · rw [if_neg (by omega), full _ _ (by omega) (by omega) (by omega), Aa _ (by omega)]
        exact hT.at (by decide)
    · rw [if_neg (by omega), if_neg (by decide), if_neg (by omega), if_neg (by omega), up_na (by omega)]
      by_cases q : j < 24
      · rw [if_pos ⟨by decide, q⟩]
        exact (k1 j q).2
      · rw [if_neg (by omega), full _ _ (by omega) (by omega) (by omega), Aa _ (by omega)]
        exact hT.at (by decide)
  · intro a ha
    rw [f4 a ha]
    funext j
    rw [up_na (by omega), full a j (by omega) (by omega) (by omega), Aa a (by omega)]
/-- the second system at its beginning -/
theorem m_first {b : Nat} (hb : b < 2) : ∃ N', f_X12_atFirst N (b : Int) = some N' ∧ ((∀ r : Nat, r < 5 → N' 116 (5 * b + r) = N 94 r ∧ ∀ k : Nat, k < 6 → N' 117 (30 * b + 6 * r + k) = N 94 r) ∧ (∀ p : Nat, p < 5 → N' 118 (5 * b + p) = 0 ∧ N' 119 (5 * b + p) = 0 ∧ N' 120 (5 * b + p) = 0) ∧ (N' 121 b = N 92 0 ∧ N' 122 b = N 92 1 ∧ N' 123 b = 0 ∧ N' 124 b = 0 ∧ N' 125 b = 0 ∧ N' 126 b = 0 ∧ N' 127 b = 0)) ∧ ∀ a j, ¬ ((116 ≤ a ∧ a ≤ 120 ∧ a ≠ 117 ∧ 5 * b ≤ j ∧ j < 5 * b + 5) ∨ (a = 117 ∧ 30 * b ≤ j ∧ j < 30 * b + 30) ∨ (121 ≤ a ∧ a ≤ 127 ∧ j = b)) → N' a j = N a j := by
  have zb : 0 ≤ (b : Int) ∧ (b : Int) < 2 := ⟨by omega, by omega⟩
  unfold f_X12_atFirst
  obtain ⟨n1, e1, a1, a2, a3⟩ : ∃ m, (lp (X := Int × MM) (Y := MM) (fun x1 =>
if x1.1 < 5 then
(gd (0 ≤ x1.1 ∧ x1.1 < (10 : Int)) <|
gd (0 ≤ w32 ((w32 (5 * (b : Int))) + x1.1) ∧ w32 ((w32 (5 * (b : Int))) + x1.1) < (10 : Int)) <|
bM (upM x1.2 116 (w32 ((w32 (5 * (b : Int))) + x1.1)).toNat (x1.2 94 (x1.1).toNat)) fun M5 =>
(lp (X := Int × MM) (Y := MM) (fun x6 =>
if x6.1 < 6 then
(gd (0 ≤ x1.1 ∧ x1.1 < (10 : Int)) <|
gd (0 ≤ w32 ((w32 ((w32 (30 * (b : Int))) + (w32 (6 * x1.1)))) + x6.1) ∧ w32 ((w32 ((w32 (30 * (b : Int))) + (w32 (6 * x1.1)))) + x6.1) < (60 : Int)) <|
bM (upM x6.2 117 (w32 ((w32 ((w32 (30 * (b : Int))) + (w32 (6 * x1.1)))) + x6.1)).toNat (x6.2 94 (x1.1).toNat)) fun M10 =>
some (Sum.inl (w32 (x6.1 + 1), M10)))
else
some (Sum.inr x6.2)) FU (0, M5)).bind fun x11 =>
some (Sum.inl (w32 (x1.1 + 1), x11)))
else
some (Sum.inr x1.2)) FU (0, N)) = some m ∧ ((∀ r : Nat, r < 5 → m 116 (5 * b + r) = N 94 r) ∧ (∀ r : Nat, r < 5 → ∀ k : Nat, k < 6 → m 117 (30 * b + 6 * r + k) = N 94 r) ∧ ∀ a j, ¬ (a = 116 ∧ 5 * b ≤ j ∧ j < 5 * b + 5) → ¬ (a = 117 ∧ 30 * b ≤ j ∧ j < 30 * b + 30) → m a j = N a j) := by
    refine lp_cnt 5 (fun k m => (∀ r : Nat, r < k → m 116 (5 * b + r) = N 94 r) ∧ (∀ r : Nat, r < k → ∀ i : Nat, i < 6 → m 117 (30 * b + 6 * r + i) = N 94 r) ∧ ∀ a j, ¬ (a = 116 ∧ 5 * b ≤ j ∧ j < 5 * b + 5) → ¬ (a = 117 ∧ 30 * b ≤ j ∧ j < 30 * b + 30) → m a j = N a j) _ (by decide) ?_ ?_ _ ⟨fun j hj => absurd hj (Nat.not_lt_zero _), fun j hj => absurd hj (Nat.not_lt_zero _), fun _ _ _ _ => rfl⟩
    · rintro k m hk ⟨i1, i2, i3⟩
      left
      obtain ⟨x1, y1, y2, w1, w2, w3, y6, _⟩ := ix5 (k := k) hb hk
      obtain ⟨x2, y3, y5, z2⟩ := ix30 (k := k) hb hk
      have e94 : m 94 k = N 94 k := i3 94 k (by clear y1 y2 y3 y5 y6; omega) (by clear y1 y2 y3 y5 y6; omega)
      obtain ⟨m1, e, p1, p2⟩ : ∃ m1, (lp (X := Int × MM) (Y := MM) (fun x6 =>
if x6.1 < 6 then
(gd (0 ≤ (k : Int) ∧ (k : Int) < (10 : Int)) <|
gd (0 ≤ w32 ((30 * (b : Int) + 6 * (k : Int)) + x6.1) ∧ w32 ((30 * (b : Int) + 6 * (k : Int)) + x6.1) < (60 : Int)) <|
bM (upM x6.2 117 (w32 ((30 * (b : Int) + 6 * (k : Int)) + x6.1)).toNat (x6.2 94 k)) fun M10 =>
some (Sum.inl (w32 (x6.1 + 1), M10)))
else
some (Sum.inr x6.2)) FU (0, upM m 116 (5 * b + k) (N 94 k))) = some m1 ∧ ((∀ i : Nat, i < 6 → m1 117 (30 * b + 6 * k + i) = N 94 k) ∧ ∀ a j, ¬ (a = 117 ∧ 30 * b + 6 * k ≤ j ∧ j < 30 * b + 6 * k + 6) → m1 a j = upM m 116 (5 * b + k) (N 94 k) a j) := by
        clear y1 y2 y3 y5 y6
        refine lp_cnt 6 (fun t m1 => (∀ i : Nat, i < t → m1 117 (30 * b + 6 * k + i) = N 94 k) ∧ ∀ a j, ¬ (a = 117 ∧ 30 * b + 6 * k ≤ j ∧ j < 30 * b + 6 * k + 6) → m1 a j = upM m 116 (5 * b + k) (N 94 k) a j) _ (by decide) ?_ ?_ _ ⟨fun j hj => absurd hj (Nat.not_lt_zero _), fun _ _ _ => rfl⟩
        · rintro t m1 ht ⟨q1, q2⟩
          left
          have r1 : 0 ≤ 30 * (b : Int) + 6 * (k : Int) + (t : Int) ∧ 30 * (b : Int) + 6 * (k : Int) + (t : Int) < 60 := ⟨by omega, by omega⟩
          have r2 : (30 * (b : Int) + 6 * (k : Int) + (t : Int)).toNat = 30 * b + 6 * k + t := by omega
          have r3 : (t : Int) < 6 := by omega
          have r4 : m1 94 k = N 94 k := by rw [q2 94 k (by omega), up_na (by decide)]; exact e94
          have r5 : w32 (30 * (b : Int) + 6 * (k : Int) + (t : Int)) = 30 * (b : Int) + 6 * (k : Int) + (t : Int) := w32_i (by omega) (by omega)
          refine ⟨upM m1 117 (30 * b + 6 * k + t) (N 94 k), ?_, ?_, ?_⟩
          · try dsimp +instances only
            rw [if_pos r3, gd_t w2, r5, gd_t r1, bM_eq, r2, r4, wi1 (by clear r5; omega)]
            rfl
          · clear r5
            intro i hi
            by_cases q : i = t
            · rw [q, upM_eq]
            · rw [up_ni (by omega)]; exact q1 i (by omega)
          · clear r5
            intro a j hn
            rw [upM_ne a j (fun z => hn ⟨z.1, by omega, by omega⟩)]
            exact q2 a j hn
        · rintro m1 ⟨q1, q2⟩
          exact ⟨m1, rfl, q1, q2⟩
      refine ⟨m1, ?_, ?_, ?_, ?_⟩
      · try dsimp +instances only
        rw [if_pos w3.2, gd_t w2, y1, y2, gd_t w1, bM_eq, x1, Int.toNat_natCast, e94, y3, y5]
        have e : (lp (X := Int × MM) (Y := MM) (fun x6 =>
if x6.1 < 6 then
(gd (0 ≤ (k : Int) ∧ (k : Int) < (10 : Int)) <|
gd (0 ≤ w32 ((30 * (b : Int) + 6 * (k : Int)) + x6.1) ∧ w32 ((30 * (b : Int) + 6 * (k : Int)) + x6.1) < (60 : Int)) <|
bM (upM x6.2 117 (w32 ((30 * (b : Int) + 6 * (k : Int)) + x6.1)).toNat (x6.2 94 k)) fun M10 =>
some (Sum.inl (w32 (x6.1 + 1), M10)))
else
some (Sum.inr x6.2)) FU (0, upM m 116 (5 * b + k) (N 94 k))) = some m1 := e
        rw [e, Option.bind_some, y6]
        rfl
      · clear y1 y2 y3 y5 y6
        intro r hr
        rw [p2 116 _ (by omega)]
        by_cases q : r = k
        · rw [q, upM_eq]
        · rw [up_ni (by omega)]; exact i1 r (by omega)
      · clear y1 y2 y3 y5 y6
        intro r hr i hi
        by_cases q : r = k
        · subst q; exact p1 i hi
        · rw [p2 117 _ (by omega), up_na (by decide)]; exact i2 r (by omega) i hi
      · clear y1 y2 y3 y5 y6
        intro a j h1 h2
        rw [p2 a j (by omega), upM_ne a j (by omega)]
        exact i3 a j h1 h2
    · rintro m ⟨i1, i2, i3⟩
      exact ⟨m, rfl, i1, i2, i3⟩
  rw [e1, Option.bind_some]
  clear e1
  obtain ⟨n2, e2, b1, b2⟩ : ∃ m, (lp (X := Int × MM) (Y := MM) (fun x13 =>
if x13.1 < 5 then
(gd (0 ≤ w32 ((w32 (5 * (b : Int))) + x13.1) ∧ w32 ((w32 (5 * (b : Int))) + x13.1) < (10 : Int)) <|
bM (upM x13.2 118 (w32 ((w32 (5 * (b : Int))) + x13.1)).toNat 0) fun M16 =>
gd (0 ≤ w32 ((w32 (5 * (b : Int))) + x13.1) ∧ w32 ((w32 (5 * (b : Int))) + x13.1) < (10 : Int)) <|
bM (upM M16 119 (w32 ((w32 (5 * (b : Int))) + x13.1)).toNat 0) fun M18 =>
gd (0 ≤ w32 ((w32 (5 * (b : Int))) + x13.1) ∧ w32 ((w32 (5 * (b : Int))) + x13.1) < (10 : Int)) <|
bM (upM M18 120 (w32 ((w32 (5 * (b : Int))) + x13.1)).toNat 0) fun M20 =>
some (Sum.inl (w32 (x13.1 + 1), M20)))
else
some (Sum.inr x13.2)) FU (0, n1)) = some m ∧ ((∀ p : Nat, p < 5 → m 118 (5 * b + p) = 0 ∧ m 119 (5 * b + p) = 0 ∧ m 120 (5 * b + p) = 0) ∧ ∀ a j, ¬ (118 ≤ a ∧ a ≤ 120 ∧ 5 * b ≤ j ∧ j < 5 * b + 5) → m a j = n1 a j) := by
    refine lp_cnt 5 (fun k m => (∀ p : Nat, p < k → m 118 (5 * b + p) = 0 ∧ m 119 (5 * b + p) = 0 ∧ m 120 (5 * b + p) = 0) ∧ ∀ a j, ¬ (118 ≤ a ∧ a ≤ 120 ∧ 5 * b ≤ j ∧ j < 5 * b + 5) → m a j = n1 a j) _ (by decide) ?_ ?_ _ ⟨fun j hj => absurd hj (Nat.not_lt_zero _), fun _ _ _ => rfl⟩
    · rintro k m hk ⟨i1, i2⟩
      left
      obtain ⟨x1, y1, y2, w1, w2, w3, y6, _⟩ := ix5 (k := k) hb hk
      refine ⟨upM (upM (upM m 118 (5 * b + k) 0) 119 (5 * b + k) 0) 120 (5 * b + k) 0, ?_, ?_, ?_⟩
      · try dsimp +instances only
        rw [if_pos w3.2, y1, y2, gd_t w1, bM_eq, gd_t w1, bM_eq, gd_t w1, bM_eq, x1, y6]
        rfl
      · clear y1 y2 y6
        intro p hp
        by_cases q : p = k
        · subst q
          simp (disch := decide) only [up_na, upM_eq]
          exact ⟨trivial, trivial, trivial⟩
        · have qn : 5 * b + p ≠ 5 * b + k := by omega
          rw [up_na (by decide), up_na (by decide), up_ni qn, up_na (by decide), up_ni qn, up_na (by decide), up_ni qn, up_na (by decide), up_na (by decide)]
          exact i1 p (by omega)
      · clear y1 y2 y6
        intro a j hn
        rw [upM_ne a j (fun z => hn (by omega)), upM_ne a j (fun z => hn (by omega)), upM_ne a j (fun z => hn (by omega))]
        exact i2 a j hn
    · rintro m ⟨i1, i2⟩
      exact ⟨m, rfl, i1, i2⟩
  rw [e2, Option.bind_some]
  clear e2
  have g1 : ∀ a j, a < 116 ∨ 120 < a → n2 a j = N a j := fun a j ha => by rw [b2 a j (by omega), a3 a j (by omega) (by omega)]
  rw [gd_t zb, bM_eq, gd_t zb, bM_eq, gd_t zb, bM_eq, gd_t zb, bM_eq, gd_t zb, bM_eq, gd_t zb, bM_eq, gd_t zb, bM_eq, Int.toNat_natCast, up_na (by decide), g1 92 0 (by decide), g1 92 1 (by decide)]
  refine ⟨_, rfl, ⟨?_, ?_, ?_⟩, ?_⟩
  · intro r hr
    refine ⟨?_, fun k hk => ?_⟩
    · simp (disch := decide) only [up_na]
      rw [b2 116 _ (by omega)]
      exact a1 r hr
    · simp (disch := decide) only [up_na]
      rw [b2 117 _ (by omega)]
      exact a2 r hr k hk
  · intro p hp
    simp (disch := decide) only [up_na]
    exact b1 p hp
  · simp (disch := decide) only [up_na, upM_eq]
    exact ⟨trivial, trivial, trivial, trivial, trivial, trivial, trivial⟩
  · intro a j hn
    rw [upM_ne a j (by omega), upM_ne a j (by omega), upM_ne a j (by omega), upM_ne a j (by omega), upM_ne a j (by omega), upM_ne a j (by omega), upM_ne a j (by omega), b2 a j (by omega), a3 a j (by omega) (by omega)]
end BEG
