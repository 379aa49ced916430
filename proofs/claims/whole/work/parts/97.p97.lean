section UNDO2
variable {M N H S B T ST : MM} {LV : LVT} {h : Nat}
/-- the second system lays a row -/
theorem m_put {a1 n1 p : Nat} (ha : a1 = 133 ∨ a1 = 134) (hp : p + 8 ≤ n1) (hn : n1 ≤ 160) (h3 : N 123 0 = 0 ∨ N 123 0 = 1) (hj : ∀ i : Nat, i < 5 → N 120 i = 0 ∨ N 120 i = 1) : ∃ N', f_X12_put N a1 n1 (p : Int) = some N' ∧ (N' a1 p = N 121 0 ∧ N' a1 (p + 1) = N 122 0 ∧ N' a1 (p + 2) = N 123 0 ∧ ∀ i : Nat, i < 5 → N' a1 (p + 3 + i) = N 120 i) ∧ ∀ a j, ¬ (a = a1 ∧ p ≤ j ∧ j < p + 8) → N' a j = N a j := by
  have z0 : 0 ≤ (p : Int) ∧ (p : Int) < (n1 : Int) := by omega
  have z1 : 0 ≤ (p : Int) + 1 ∧ (p : Int) + 1 < (n1 : Int) := by omega
  have z2 : 0 ≤ (p : Int) + 2 ∧ (p : Int) + 2 < (n1 : Int) := by omega
  have w1 : -2147483648 ≤ (p : Int) + 1 ∧ (p : Int) + 1 ≤ 2147483647 := by omega
  have w2 : -2147483648 ≤ (p : Int) + 2 ∧ (p : Int) + 2 ≤ 2147483647 := by omega
  have w3 : -2147483648 ≤ (p : Int) + 3 ∧ (p : Int) + 3 ≤ 2147483647 := by omega
  have t1 : ((p : Int) + 1).toNat = p + 1 := by omega
  have t2 : ((p : Int) + 2).toNat = p + 2 := by omega
  have n2 : (122 : Nat) ≠ a1 := by omega
  have n3 : (123 : Nat) ≠ a1 := by omega
  have ib : ∀ v : Int, v = 0 ∨ v = 1 → ((if v = 0 then some 0 else some 1) : Option Int) = some v := fun v hv => by
    rcases hv with rfl | rfl <;> rfl
  unfold f_X12_put
  rw [gd_t z0, bM_eq, w32_i w1.1 w1.2, gd_t z1, bM_eq, w32_i w2.1 w2.2, Int.toNat_natCast, t1, t2, up_na n2, up_na n3, up_na n3, ib _ h3, Option.bind_some, gd_t z2, bM_eq, w32_i w3.1 w3.2]
  have hA : ∀ i, upM (upM (upM N a1 p (N 121 0)) a1 (p + 1) (N 122 0)) a1 (p + 2) (N 123 0) 120 i = N 120 i := fun i => by rw [up_na (by omega), up_na (by omega), up_na (by omega)]
  have hB : ∀ a j, ¬ (a = a1 ∧ p ≤ j ∧ j < p + 8) → upM (upM (upM N a1 p (N 121 0)) a1 (p + 1) (N 122 0)) a1 (p + 2) (N 123 0) a j = N a j := fun a j hn => by rw [upM_ne a j (by omega), upM_ne a j (by omega), upM_ne a j (by omega)]
  have hC : upM (upM (upM N a1 p (N 121 0)) a1 (p + 1) (N 122 0)) a1 (p + 2) (N 123 0) a1 p = N 121 0 := by rw [up_ni (by omega), up_ni (by omega), upM_eq]
  have hD : upM (upM (upM N a1 p (N 121 0)) a1 (p + 1) (N 122 0)) a1 (p + 2) (N 123 0) a1 (p + 1) = N 122 0 := by rw [up_ni (by omega), upM_eq]
  have hE : upM (upM (upM N a1 p (N 121 0)) a1 (p + 1) (N 122 0)) a1 (p + 2) (N 123 0) a1 (p + 2) = N 123 0 := upM_eq
  generalize upM (upM (upM N a1 p (N 121 0)) a1 (p + 1) (N 122 0)) a1 (p + 2) (N 123 0) = A at hA hB hC hD hE
  obtain ⟨m, e, i1, i2⟩ : ∃ m, (lp (X := Int × MM) (Y := MM) (fun x9 =>
if x9.1 < 5 then
(gd (0 ≤ x9.1 ∧ x9.1 < (10 : Int)) <|
((if (x9.2 120 (x9.1).toNat) = 0 then
(some 0)
else
some 1) : Option (Int)).bind fun x13 =>
gd (0 ≤ w32 ((p : Int) + 3 + x9.1) ∧ w32 ((p : Int) + 3 + x9.1) < (n1 : Int)) <|
bM (upM x9.2 a1 (w32 ((p : Int) + 3 + x9.1)).toNat x13) fun M15 =>
some (Sum.inl (w32 (x9.1 + 1), M15)))
else
some (Sum.inr x9.2)) FU (0, A)) = some m ∧ ((∀ i : Nat, i < 5 → m a1 (p + 3 + i) = N 120 i) ∧ ∀ a j, ¬ (a = a1 ∧ p + 3 ≤ j ∧ j < p + 8) → m a j = A a j) := by
    refine lp_cnt 5 (fun k m => (∀ i : Nat, i < k → m a1 (p + 3 + i) = N 120 i) ∧ ∀ a j, ¬ (a = a1 ∧ p + 3 ≤ j ∧ j < p + 8) → m a j = A a j) _ (by decide) ?_ ?_ _ ⟨fun j hj => absurd hj (Nat.not_lt_zero _), fun _ _ _ => rfl⟩
    · rintro k m hk ⟨i1, i2⟩
      left
      have y0 : 0 ≤ (k : Int) ∧ (k : Int) < 10 := by omega
      have y5 : (k : Int) < 5 := by omega
      have y1 : 0 ≤ (p : Int) + 3 + (k : Int) ∧ (p : Int) + 3 + (k : Int) < (n1 : Int) := by omega
      have y2 : -2147483648 ≤ (p : Int) + 3 + (k : Int) ∧ (p : Int) + 3 + (k : Int) ≤ 2147483647 := by omega
      have y3 : ((p : Int) + 3 + (k : Int)).toNat = p + 3 + k := by omega
      have em : m 120 k = N 120 k := by rw [i2 120 k (by omega), hA]
      have eb : ((if m 120 k = 0 then some 0 else some 1) : Option Int) = some (N 120 k) := by rw [em]; exact ib _ (hj k hk)
      refine ⟨upM m a1 (p + 3 + k) (N 120 k), ?_, ?_, ?_⟩
      · try dsimp +instances only
        rw [if_pos y5, gd_t y0, Int.toNat_natCast, eb, Option.bind_some, w32_i y2.1 y2.2, gd_t y1, bM_eq, y3, wi1 (by omega)]
        rfl
      · intro j hj
        by_cases q : j = k
        · rw [q, upM_eq]
        · rw [up_ni (by omega)]; exact i1 j (by omega)
      · intro a j hn
        rw [upM_ne a j (fun z => hn ⟨z.1, by omega, by omega⟩)]
        exact i2 a j hn
    · rintro m ⟨i1, i2⟩
      exact ⟨m, rfl, i1, i2⟩
  refine ⟨m, e, ⟨?_, ?_, ?_, i1⟩, fun a j hn => ?_⟩
  · rw [i2 a1 p (by omega)]; exact hC
  · rw [i2 a1 (p + 1) (by omega)]; exact hD
  · rw [i2 a1 (p + 2) (by omega)]; exact hE
  · rw [i2 a j (by omega)]; exact hB a j hn
/-- and takes one -/
theorem m_take {a1 n1 p : Nat} (ha : a1 = 133 ∨ a1 = 134) (hp : p + 8 ≤ n1) (hn : n1 ≤ 160) (hj : ∀ i : Nat, 2 ≤ i → i < 8 → N a1 (p + i) = 0 ∨ N a1 (p + i) = 1) : ∃ N', f_X12_take N a1 n1 (p : Int) = some N' ∧ (N' 121 0 = N a1 p ∧ N' 122 0 = N a1 (p + 1) ∧ N' 123 0 = N a1 (p + 2) ∧ ∀ i : Nat, i < 5 → N' 120 i = N a1 (p + 3 + i)) ∧ ∀ a j, ¬ ((a = 120 ∧ j < 5) ∨ (121 ≤ a ∧ a ≤ 123 ∧ j = 0)) → N' a j = N a j := by
  have z0 : 0 ≤ (p : Int) ∧ (p : Int) < (n1 : Int) := by omega
  have z1 : 0 ≤ (p : Int) + 1 ∧ (p : Int) + 1 < (n1 : Int) := by omega
  have z2 : 0 ≤ (p : Int) + 2 ∧ (p : Int) + 2 < (n1 : Int) := by omega
  have w1 : -2147483648 ≤ (p : Int) + 1 ∧ (p : Int) + 1 ≤ 2147483647 := by omega
  have w2 : -2147483648 ≤ (p : Int) + 2 ∧ (p : Int) + 2 ≤ 2147483647 := by omega
  have w3 : -2147483648 ≤ (p : Int) + 3 ∧ (p : Int) + 3 ≤ 2147483647 := by omega
  have t1 : ((p : Int) + 1).toNat = p + 1 := by omega
  have t2 : ((p : Int) + 2).toNat = p + 2 := by omega
  have n1' : a1 ≠ 121 := by omega
  have n2 : a1 ≠ 122 := by omega
  have n3 : a1 ≠ 123 := by omega
  have n0 : a1 ≠ 120 := by omega
  have ib : ∀ v : Int, v = 0 ∨ v = 1 → ((if v = 1 then some 1 else some 0) : Option Int) = some v := fun v hv => by
    rcases hv with rfl | rfl <;> rfl
  have h2 := hj 2 (by decide) (by decide)
  unfold f_X12_take
  rw [gd_t z0, bM_eq, w32_i w1.1 w1.2, gd_t z1, bM_eq, w32_i w2.1 w2.2, gd_t z2, Int.toNat_natCast, t1, t2, up_na n1', up_na n2, up_na n1', ib _ h2, Option.bind_some, gd_t h2, bM_eq, w32_i w3.1 w3.2]
  have hA : ∀ i, upM (upM (upM N 121 0 (N a1 p)) 122 0 (N a1 (p + 1))) 123 0 (N a1 (p + 2)) a1 i = N a1 i := fun i => by rw [up_na n3, up_na n2, up_na n1']
  have hB : ∀ a j, ¬ (121 ≤ a ∧ a ≤ 123 ∧ j = 0) → upM (upM (upM N 121 0 (N a1 p)) 122 0 (N a1 (p + 1))) 123 0 (N a1 (p + 2)) a j = N a j := fun a j hn => by rw [upM_ne a j (by omega), upM_ne a j (by omega), upM_ne a j (by omega)]
  have hC : upM (upM (upM N 121 0 (N a1 p)) 122 0 (N a1 (p + 1))) 123 0 (N a1 (p + 2)) 121 0 = N a1 p := by rw [up_na (by decide), up_na (by decide), upM_eq]
  have hD : upM (upM (upM N 121 0 (N a1 p)) 122 0 (N a1 (p + 1))) 123 0 (N a1 (p + 2)) 122 0 = N a1 (p + 1) := by rw [up_na (by decide), upM_eq]
  have hE : upM (upM (upM N 121 0 (N a1 p)) 122 0 (N a1 (p + 1))) 123 0 (N a1 (p + 2)) 123 0 = N a1 (p + 2) := upM_eq
  generalize upM (upM (upM N 121 0 (N a1 p)) 122 0 (N a1 (p + 1))) 123 0 (N a1 (p + 2)) = A at hA hB hC hD hE
  obtain ⟨m, e, i1, i2⟩ : ∃ m, (lp (X := Int × MM) (Y := MM) (fun x10 =>
if x10.1 < 5 then
(gd (0 ≤ w32 ((p : Int) + 3 + x10.1) ∧ w32 ((p : Int) + 3 + x10.1) < (n1 : Int)) <|
((if (x10.2 a1 (w32 ((p : Int) + 3 + x10.1)).toNat) = 1 then
(some 1)
else
some 0) : Option (Int)).bind fun x14 =>
gd (0 ≤ x10.1 ∧ x10.1 < (10 : Int)) <|
gd (x14 = 0 ∨ x14 = 1) <|
bM (upM x10.2 120 (x10.1).toNat x14) fun M17 =>
some (Sum.inl (w32 (x10.1 + 1), M17)))
else
some (Sum.inr x10.2)) FU (0, A)) = some m ∧ ((∀ i : Nat, i < 5 → m 120 i = N a1 (p + 3 + i)) ∧ ∀ a j, ¬ (a = 120 ∧ j < 5) → m a j = A a j) := by
    refine lp_cnt 5 (fun k m => (∀ i : Nat, i < k → m 120 i = N a1 (p + 3 + i)) ∧ ∀ a j, ¬ (a = 120 ∧ j < 5) → m a j = A a j) _ (by decide) ?_ ?_ _ ⟨fun j hj => absurd hj (Nat.not_lt_zero _), fun _ _ _ => rfl⟩
    · rintro k m hk ⟨i1, i2⟩
      left
      have y0 : 0 ≤ (k : Int) ∧ (k : Int) < 10 := by omega
      have y5 : (k : Int) < 5 := by omega
      have y1 : 0 ≤ (p : Int) + 3 + (k : Int) ∧ (p : Int) + 3 + (k : Int) < (n1 : Int) := by omega
      have y2 : -2147483648 ≤ (p : Int) + 3 + (k : Int) ∧ (p : Int) + 3 + (k : Int) ≤ 2147483647 := by omega
      have y3 : ((p : Int) + 3 + (k : Int)).toNat = p + 3 + k := by omega
      have em : m a1 (p + 3 + k) = N a1 (p + 3 + k) := by rw [i2 a1 _ (by omega), hA]
      have y4 := hj (3 + k) (by omega) (by omega)
      rw [← Nat.add_assoc] at y4
      have eb : ((if m a1 (p + 3 + k) = 1 then some 1 else some 0) : Option Int) = some (N a1 (p + 3 + k)) := by rw [em]; exact ib _ y4
      refine ⟨upM m 120 k (N a1 (p + 3 + k)), ?_, ?_, ?_⟩
      · try dsimp +instances only
        rw [if_pos y5, w32_i y2.1 y2.2, gd_t y1, y3, eb, Option.bind_some, gd_t y0, gd_t y4, bM_eq, Int.toNat_natCast, wi1 (by omega)]
        rfl
      · intro j hj
        by_cases q : j = k
        · rw [q, upM_eq]
        · rw [up_ni q]; exact i1 j (by omega)
      · intro a j hn
        rw [upM_ne a j (fun z => hn ⟨z.1, by omega⟩)]
        exact i2 a j hn
    · rintro m ⟨i1, i2⟩
      exact ⟨m, rfl, i1, i2⟩
  refine ⟨m, e, ⟨?_, ?_, ?_, i1⟩, fun a j hn => ?_⟩
  · rw [i2 121 0 (by omega)]; exact hC
  · rw [i2 122 0 (by omega)]; exact hD
  · rw [i2 123 0 (by omega)]; exact hE
  · rw [i2 a j (by omega)]; exact hB a j (by omega)
theorem m_remember (hr : 0 ≤ N 88 85 ∧ N 88 85 ≤ 20) (h3 : N 123 0 = 0 ∨ N 123 0 = 1) (hj : ∀ i : Nat, i < 5 → N 120 i = 0 ∨ N 120 i = 1) : ∃ N', f_X12_remember N = some N' ∧ (∃ n : Nat, n < 20 ∧ N' 88 85 = (n : Int) + 1 ∧ (N 88 85 = (n : Int) ∨ (n = 19 ∧ N 88 85 = 20)) ∧ (N' 133 (8 * n) = N 121 0 ∧ N' 133 (8 * n + 1) = N 122 0 ∧ N' 133 (8 * n + 2) = N 123 0 ∧ ∀ i : Nat, i < 5 → N' 133 (8 * n + 3 + i) = N 120 i) ∧ ∀ k : Nat, k < n → ∀ j : Nat, j < 8 → N' 133 (8 * k + j) = N 133 (8 * (if N 88 85 = 20 then k + 1 else k) + j)) ∧ ∀ a j, a ≠ 133 → ¬ (a = 88 ∧ j = 85) → N' a j = N a j := by
  unfold f_X12_remember
  by_cases q : N 88 85 = 20
  · obtain ⟨m, e, i1, i2⟩ : ∃ m, (lp (X := Int × MM) (Y := MM) (fun x2 =>
if x2.1 < 152 then
(gd (0 ≤ w32 (x2.1 + 8) ∧ w32 (x2.1 + 8) < (160 : Int)) <|
gd (0 ≤ x2.1 ∧ x2.1 < (160 : Int)) <|
bM (upM x2.2 133 (x2.1).toNat (x2.2 133 (w32 (x2.1 + 8)).toNat)) fun M6 =>
some (Sum.inl (w32 (x2.1 + 1), M6)))
else
some (Sum.inr x2.2)) FU (0, N)) = some m ∧ ((∀ j : Nat, j < 152 → m 133 j = N 133 (j + 8)) ∧ ∀ a j, ¬ (a = 133 ∧ j < 152) → m a j = N a j) := by
      have := lp_cnt (step := (fun x2 : Int × MM =>
if x2.1 < 152 then
(gd (0 ≤ w32 (x2.1 + 8) ∧ w32 (x2.1 + 8) < (160 : Int)) <|
gd (0 ≤ x2.1 ∧ x2.1 < (160 : Int)) <|
bM (upM x2.2 133 (x2.1).toNat (x2.2 133 (w32 (x2.1 + 8)).toNat)) fun M6 =>
some (Sum.inl (w32 (x2.1 + 1), M6)))
else
some (Sum.inr x2.2))) 152 (fun k m => (∀ j : Nat, j < k → m 133 j = N 133 (j + 8)) ∧ ∀ a j, ¬ (a = 133 ∧ j < k) → m a j = N a j) (fun m => (∀ j : Nat, j < 152 → m 133 j = N 133 (j + 8)) ∧ ∀ a j, ¬ (a = 133 ∧ j < 152) → m a j = N a j) (by decide) ?_ ?_ N ⟨fun j hj => absurd hj (Nat.not_lt_zero _), fun _ _ _ => rfl⟩
      · exact this
      · rintro k m hk ⟨i1, i2⟩
        left
        have y0 : 0 ≤ (k : Int) ∧ (k : Int) < 160 := by omega
        have y5 : (k : Int) < 152 := by omega
        have y1 : 0 ≤ (k : Int) + 8 ∧ (k : Int) + 8 < 160 := by omega
        have y2 : -2147483648 ≤ (k : Int) + 8 ∧ (k : Int) + 8 ≤ 2147483647 := by omega
        have y3 : ((k : Int) + 8).toNat = k + 8 := by omega
        have em : m 133 (k + 8) = N 133 (k + 8) := i2 133 _ (by omega)
        refine ⟨upM m 133 k (N 133 (k + 8)), ?_, ?_, ?_⟩
        · try dsimp +instances only
          rw [if_pos y5, w32_i y2.1 y2.2, gd_t y1, gd_t y0, bM_eq, y3, em, Int.toNat_natCast, wi1 (by omega)]
          rfl
        · intro j hj
          by_cases q : j = k
          · rw [q, upM_eq]
          · rw [up_ni q]; exact i1 j (by omega)
        · intro a j hn
          rw [upM_ne a j (fun z => hn ⟨z.1, by omega⟩)]
          exact i2 a j (by omega)
      · rintro m ⟨i1, i2⟩
        exact ⟨m, rfl, i1, i2⟩
    have e85 : m 88 85 = 20 := by rw [i2 88 85 (by omega)]; exact q
    have w19 : w32 (20 - 1) = 19 := by decide
    rw [if_pos q, e, Option.bind_some, bM_eq, e85, w19, Option.bind_some, upM_eq]
    have w152 : w32 (8 * 19) = ((152 : Nat) : Int) := by decide
    rw [w152]
    obtain ⟨N', e2, ⟨p1, p2, p3, p4⟩, f2⟩ := m_put (N := upM m 88 85 19) (a1 := 133) (n1 := 160) (p := 152) (Or.inl rfl) (by decide) (by decide) (by rw [up_na (by decide), i2 123 0 (by omega)]; exact h3) (fun i hi => by rw [up_na (by decide), i2 120 i (by omega)]; exact hj i hi)
    rw [up_na (by decide), i2 121 0 (by omega)] at p1
    rw [up_na (by decide), i2 122 0 (by omega)] at p2
    rw [up_na (by decide), i2 123 0 (by omega)] at p3
    have e86 : N' 88 85 = 19 := by rw [f2 88 85 (by omega), upM_eq]
    have w20 : w32 (19 + 1) = 20 := by decide
    rw [e2, Option.bind_some, bM_eq, e86, w20]
    refine ⟨_, rfl, ⟨19, by decide, upM_eq, Or.inr ⟨rfl, q⟩, ⟨?_, ?_, ?_, ?_⟩, ?_⟩, ?_⟩
    · rw [up_na (by decide)]; exact p1
    · rw [up_na (by decide)]; exact p2
    · rw [up_na (by decide)]; exact p3
    · intro i hi
      rw [up_na (by decide)]
      have := p4 i hi
      rw [up_na (by decide), i2 120 i (by omega)] at this
      exact this
    · intro k hk j hj
      rw [if_pos q, up_na (by decide), f2 133 _ (by omega), up_na (by decide), i1 _ (by omega), show 8 * k + j + 8 = 8 * (k + 1) + j by omega]
    · intro a j h1 h2
      rw [upM_ne a j h2, f2 a j (by omega), upM_ne a j h2, i2 a j (by omega)]
  · obtain ⟨n, hn⟩ := nat_of hr.1
    have w8 : w32 (8 * (n : Int)) = ((8 * n : Nat) : Int) := by rw [w32_i (by omega) (by omega)]; omega
    have hn20 : n < 20 := by clear w8; omega
    rw [if_neg q, Option.bind_some, hn, w8]
    clear w8
    obtain ⟨N', e2, ⟨p1, p2, p3, p4⟩, f2⟩ := m_put (N := N) (a1 := 133) (n1 := 160) (p := 8 * n) (Or.inl rfl) (by omega) (by decide) h3 hj
    have e86 : N' 88 85 = (n : Int) := by rw [f2 88 85 (by omega)]; exact hn
    rw [e2, Option.bind_some, bM_eq, e86, wi1 (by omega)]
    refine ⟨_, rfl, ⟨n, hn20, upM_eq, Or.inl rfl, ⟨?_, ?_, ?_, ?_⟩, ?_⟩, ?_⟩
    · rw [up_na (by decide)]; exact p1
    · rw [up_na (by decide)]; exact p2
    · rw [up_na (by decide)]; exact p3
    · intro i hi
      rw [up_na (by decide)]; exact p4 i hi
    · intro k hk j hj
      rw [if_neg (by omega), up_na (by decide), f2 133 _ (by omega)]
    · intro a j h1 h2
      rw [upM_ne a j h2, f2 a j (by omega)]
end UNDO2
