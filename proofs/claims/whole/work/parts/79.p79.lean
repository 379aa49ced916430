section LAY
variable {N H S T : MM} {LV : LVT}
def CM0 (N H S : MM) : Prop := (N 127 0 = S 0 2 ∧ N 121 0 = S 0 3 ∧ N 122 0 = S 0 4 ∧ N 123 0 = S 0 5 ∧ N 124 0 = S 0 13 ∧ N 125 0 = S 0 14 ∧ N 126 0 = S 0 15) ∧ (∀ p : Nat, p < 5 → N 120 p = S 2 p ∧ N 119 p = S 5 p ∧ N 118 p = S 4 p) ∧ (∀ r : Nat, (r : Int) < H 1 0 → N 116 r = S 3 r ∧ ∀ k : Nat, k < 6 → N 117 (6 * r + k) = S 3 (5 * k + r)) ∧ (∀ j : Nat, j < 24 → N 128 j = S 6 j ∧ N 129 j = S 7 j)
/-- what a question may change -/
def QS (a j : Nat) : Prop := MS 1 a j ∨ (a = 88 ∧ (j = 2 ∨ (69 ≤ j ∧ j ≤ 79) ∨ j = 84)) ∨ a = 132
def FQ (N' N : MM) : Prop := ∀ a j, ¬ QS a j → N' a j = N a j
theorem FQ.rf : FQ N N := fun _ _ _ => rfl
theorem FQ.tr {N1 N2 N3 : MM} (h1 : FQ N1 N2) (h2 : FQ N2 N3) : FQ N1 N3 := fun a j x => (h1 a j x).trans (h2 a j x)
theorem FQ.up {N' : MM} (f : FQ N' N) {a j : Nat} {v : Int} (h : QS a j) : FQ (upM N' a j v) N := fun x y hn => by
  rw [upM_ne x y (fun z => hn (by rw [z.1, z.2]; exact h))]
  exact f x y hn
theorem FM.fq {N' : MM} (f : FM 1 N' N) : FQ N' N := fun a j h => f a j (fun z => h (Or.inl z))
theorem FQ.hm {N' : MM} (f : FQ N' N) (h : HM N H) : HM N' H := by
  have fa : ∀ a j, 92 ≤ a → a ≤ 105 → N' a j = N a j := fun a j h1 h2 => f a j (by unfold QS MS; omega)
  have f8 : ∀ j, 12 ≤ j → j ≤ 16 → N' 88 j = N 88 j := fun j h1 h2 => f 88 j (by unfold QS MS; omega)
  unfold HM at *
  simp (disch := decide) only [fa, f8]
  exact h
theorem FQ.ml {N' : MM} (f : FQ N' N) (h : ML N LV) : ML N' LV := by
  intro n hn w hw ok
  have e : ∀ a, 106 ≤ a → a ≤ 111 → N' a = N a := fun a x y => funext fun j => f a j (by unfold QS MS; omega)
  have := h n (fun a j x => (hn a j x).trans (congrFun (e a (by omega) (by omega)) j)) w hw ok
  rw [e 106 (by omega) (by omega)]
  exact this
theorem FQ.cm {N' : MM} (f : FQ N' N) (h5 : H 1 0 ≤ 5) (h : CM0 N H S) : CM0 N' H S := by
  have fa : ∀ a j, 116 ≤ a → a ≤ 120 → a ≠ 117 → j < 5 → N' a j = N a j := fun a j h1 h2 h3 h4 => f a j (by unfold QS MS; omega)
  have f7 : ∀ j, j < 30 → N' 117 j = N 117 j := fun j h1 => f 117 j (by unfold QS MS; omega)
  have fb : ∀ a, 121 ≤ a → a ≤ 127 → N' a 0 = N a 0 := fun a h1 h2 => f a 0 (by unfold QS MS; omega)
  have fl : ∀ j, N' 128 j = N 128 j ∧ N' 129 j = N 129 j := fun j => ⟨f 128 j (by unfold QS MS; omega), f 129 j (by unfold QS MS; omega)⟩
  obtain ⟨g1, g2, g3, g4⟩ := h
  refine ⟨?_, ?_, ?_, ?_⟩
  · simp (disch := decide) only [fb]; exact g1
  · intro p hp
    rw [fa 120 p (by decide) (by decide) (by decide) hp, fa 119 p (by decide) (by decide) (by decide) hp, fa 118 p (by decide) (by decide) (by decide) hp]
    exact g2 p hp
  · intro r hr
    rw [fa 116 r (by decide) (by decide) (by decide) (by omega)]
    refine ⟨(g3 r hr).1, fun k hk => ?_⟩
    rw [f7 _ (by omega)]
    exact (g3 r hr).2 k hk
  · intro j hj
    rw [(fl j).1, (fl j).2]
    exact g4 j hj
theorem m_plain : ∃ N', f_X12_plainTried N = some N' ∧ (∀ j, 69 ≤ j → j ≤ 79 → N' 88 j = if 73 ≤ j ∧ j ≤ 75 then -1 else 0) ∧ ∀ a j, ¬ (a = 88 ∧ 69 ≤ j ∧ j ≤ 79) → N' a j = N a j := by
  unfold f_X12_plainTried
  simp only [bM_eq]
  refine ⟨_, rfl, ?_, ?_⟩
  · intro j h1 h2
    have : j = 69 ∨ j = 70 ∨ j = 71 ∨ j = 72 ∨ j = 73 ∨ j = 74 ∨ j = 75 ∨ j = 76 ∨ j = 77 ∨ j = 78 ∨ j = 79 := by omega
    rcases this with rfl | rfl | rfl | rfl | rfl | rfl | rfl | rfl | rfl | rfl | rfl <;> simp (disch := decide) only [up_ni, upM_eq] <;> rfl
  · intro a j hn
    repeat rw [upM_ne a j (by omega)]
theorem m_lay (h120 : ∀ p : Nat, p < 5 → N 120 p = 0 ∨ N 120 p = 1) (h123 : N 123 0 = 0 ∨ N 123 0 = 1) : ∃ N', f_X12_layTried N = some N' ∧ ((∀ j, 69 ≤ j → j ≤ 79 → N' 88 j = if 73 ≤ j ∧ j ≤ 75 then -1 else 0) ∧ (∀ a, 121 ≤ a → a ≤ 127 → N' a 1 = N a 0) ∧ (∀ r : Nat, r < 5 → N' 116 (5 + r) = N 116 r) ∧ (∀ r : Nat, r < 30 → N' 117 (30 + r) = N 117 r) ∧ (∀ p : Nat, p < 5 → N' 118 (5 + p) = N 118 p ∧ N' 119 (5 + p) = N 119 p ∧ N' 120 (5 + p) = N 120 p)) ∧ (FQ N' N ∧ N' 88 84 = N 88 84) := by
  unfold f_X12_layTried
  obtain ⟨n1, e1, a1, b1⟩ : ∃ n1, (lp (X := Int × MM) (Y := MM) (fun x1 =>
      if x1.1 < 5 then
      (gd (0 ≤ x1.1 ∧ x1.1 < (10 : Int)) <|
      gd (0 ≤ w32 (5 + x1.1) ∧ w32 (5 + x1.1) < (10 : Int)) <|
      bM (upM x1.2 116 (w32 (5 + x1.1)).toNat (x1.2 116 (x1.1).toNat)) fun M5 =>
      some (Sum.inl (w32 (x1.1 + 1), M5)))
      else
      some (Sum.inr x1.2)) FU (0, N)) = some n1 ∧ ((∀ r : Nat, r < 5 → n1 116 (5 + r) = N 116 r) ∧ ∀ a j, ¬ (a = 116 ∧ 5 ≤ j ∧ j < 10) → n1 a j = N a j) := by
    refine lp_cnt 5 (fun k m => (∀ r : Nat, r < k → m 116 (5 + r) = N 116 r) ∧ ∀ a j, ¬ (a = 116 ∧ 5 ≤ j ∧ j < 10) → m a j = N a j) _ (by decide) ?_ ?_ _ ⟨fun j hj => absurd hj (Nat.not_lt_zero _), fun _ _ _ => rfl⟩
    · rintro k m hk ⟨i1, i2⟩
      left
      have z5 : (k : Int) < 5 := by omega
      have z10 : 0 ≤ (k : Int) ∧ (k : Int) < 10 := ⟨by omega, by omega⟩
      have z11 : 0 ≤ 5 + (k : Int) ∧ 5 + (k : Int) < 10 := ⟨by omega, by omega⟩
      have x1 : (5 + (k : Int)).toNat = 5 + k := by omega
      have g : m 116 k = N 116 k := i2 116 k (by omega)
      have w1 : w32 ((k : Int) + 1) = (k : Int) + 1 := w32_i (by omega) (by omega)
      have w5 : w32 (5 + (k : Int)) = 5 + (k : Int) := by clear w1; exact w32_i (by omega) (by omega)
      refine ⟨upM m 116 (5 + k) (N 116 k), ?_, ?_, ?_⟩
      · dsimp only
        rw [if_pos z5, gd_t z10, w5, gd_t z11, bM_eq, x1, Int.toNat_natCast, g, w1]
        rfl
      · clear w1 w5
        intro j hj
        by_cases q : j = k
        · rw [q, upM_eq]
        · rw [up_ni (by omega)]
          exact i1 j (by omega)
      · clear w1 w5
        intro a j hn
        rw [upM_ne a j (fun z => hn ⟨z.1, by omega, by omega⟩)]
        exact i2 a j hn
    · rintro m ⟨i1, i2⟩
      exact ⟨m, rfl, i1, i2⟩
  rw [e1, Option.bind_some]
  clear e1
  obtain ⟨n2, e2, a2, b2⟩ : ∃ n2, (lp (X := Int × MM) (Y := MM) (fun x7 =>
      if x7.1 < 30 then
      (gd (0 ≤ x7.1 ∧ x7.1 < (60 : Int)) <|
      gd (0 ≤ w32 (30 + x7.1) ∧ w32 (30 + x7.1) < (60 : Int)) <|
      bM (upM x7.2 117 (w32 (30 + x7.1)).toNat (x7.2 117 (x7.1).toNat)) fun M11 =>
      some (Sum.inl (w32 (x7.1 + 1), M11)))
      else
      some (Sum.inr x7.2)) FU (0, n1)) = some n2 ∧ ((∀ r : Nat, r < 30 → n2 117 (30 + r) = n1 117 r) ∧ ∀ a j, ¬ (a = 117 ∧ 30 ≤ j ∧ j < 60) → n2 a j = n1 a j) := by
    refine lp_cnt 30 (fun k m => (∀ r : Nat, r < k → m 117 (30 + r) = n1 117 r) ∧ ∀ a j, ¬ (a = 117 ∧ 30 ≤ j ∧ j < 60) → m a j = n1 a j) _ (by decide) ?_ ?_ _ ⟨fun j hj => absurd hj (Nat.not_lt_zero _), fun _ _ _ => rfl⟩
    · rintro k m hk ⟨i1, i2⟩
      left
      have z5 : (k : Int) < 30 := by omega
      have z10 : 0 ≤ (k : Int) ∧ (k : Int) < 60 := ⟨by omega, by omega⟩
      have z11 : 0 ≤ 30 + (k : Int) ∧ 30 + (k : Int) < 60 := ⟨by omega, by omega⟩
      have x1 : (30 + (k : Int)).toNat = 30 + k := by omega
      have g : m 117 k = n1 117 k := i2 117 k (by omega)
      have w1 : w32 ((k : Int) + 1) = (k : Int) + 1 := w32_i (by omega) (by omega)
      have w5 : w32 (30 + (k : Int)) = 30 + (k : Int) := by clear w1; exact w32_i (by omega) (by omega)
      refine ⟨upM m 117 (30 + k) (n1 117 k), ?_, ?_, ?_⟩
      · dsimp only
        rw [if_pos z5, gd_t z10, w5, gd_t z11, bM_eq, x1, Int.toNat_natCast, g, w1]
        rfl
      · clear w1 w5
        intro j hj
        by_cases q : j = k
        · rw [q, upM_eq]
        · rw [up_ni (by omega)]
          exact i1 j (by omega)
      · clear w1 w5
        intro a j hn
        rw [upM_ne a j (fun z => hn ⟨z.1, by omega, by omega⟩)]
        exact i2 a j hn
    · rintro m ⟨i1, i2⟩
      exact ⟨m, rfl, i1, i2⟩
  rw [e2, Option.bind_some]
  clear e2
  have g12 : ∀ a j, ¬ (a = 116 ∧ 5 ≤ j ∧ j < 10) → ¬ (a = 117 ∧ 30 ≤ j ∧ j < 60) → n2 a j = N a j := fun a j h1 h2 => (b2 a j h2).trans (b1 a j h1)
  obtain ⟨n3, e3, a3, b3⟩ : ∃ n3, (lp (X := Int × MM) (Y := MM) (fun x13 =>
      if x13.1 < 5 then
      (gd (0 ≤ x13.1 ∧ x13.1 < (10 : Int)) <|
      gd (0 ≤ w32 (5 + x13.1) ∧ w32 (5 + x13.1) < (10 : Int)) <|
      bM (upM x13.2 118 (w32 (5 + x13.1)).toNat (x13.2 118 (x13.1).toNat)) fun M17 =>
      gd (0 ≤ x13.1 ∧ x13.1 < (10 : Int)) <|
      gd (0 ≤ w32 (5 + x13.1) ∧ w32 (5 + x13.1) < (10 : Int)) <|
      bM (upM M17 119 (w32 (5 + x13.1)).toNat (M17 119 (x13.1).toNat)) fun M20 =>
      gd (0 ≤ x13.1 ∧ x13.1 < (10 : Int)) <|
      gd (0 ≤ w32 (5 + x13.1) ∧ w32 (5 + x13.1) < (10 : Int)) <|
      gd ((M20 120 (x13.1).toNat) = 0 ∨ (M20 120 (x13.1).toNat) = 1) <|
      bM (upM M20 120 (w32 (5 + x13.1)).toNat (M20 120 (x13.1).toNat)) fun M24 =>
      some (Sum.inl (w32 (x13.1 + 1), M24)))
      else
      some (Sum.inr x13.2)) FU (0, n2)) = some n3 ∧ ((∀ p : Nat, p < 5 → n3 118 (5 + p) = N 118 p ∧ n3 119 (5 + p) = N 119 p ∧ n3 120 (5 + p) = N 120 p) ∧ ∀ a j, ¬ (118 ≤ a ∧ a ≤ 120 ∧ 5 ≤ j ∧ j < 10) → n3 a j = n2 a j) := by
    refine lp_cnt 5 (fun k m => (∀ p : Nat, p < k → m 118 (5 + p) = N 118 p ∧ m 119 (5 + p) = N 119 p ∧ m 120 (5 + p) = N 120 p) ∧ ∀ a j, ¬ (118 ≤ a ∧ a ≤ 120 ∧ 5 ≤ j ∧ j < 10) → m a j = n2 a j) _ (by decide) ?_ ?_ _ ⟨fun j hj => absurd hj (Nat.not_lt_zero _), fun _ _ _ => rfl⟩
    · rintro k m hk ⟨i1, i2⟩
      left
      have z5 : (k : Int) < 5 := by omega
      have z10 : 0 ≤ (k : Int) ∧ (k : Int) < 10 := ⟨by omega, by omega⟩
      have z11 : 0 ≤ 5 + (k : Int) ∧ 5 + (k : Int) < 10 := ⟨by omega, by omega⟩
      have x1 : (5 + (k : Int)).toNat = 5 + k := by omega
      have g8 : m 118 k = N 118 k := (i2 118 k (by omega)).trans (g12 118 k (by omega) (by omega))
      have g9 : m 119 k = N 119 k := (i2 119 k (by omega)).trans (g12 119 k (by omega) (by omega))
      have g0 : m 120 k = N 120 k := (i2 120 k (by omega)).trans (g12 120 k (by omega) (by omega))
      have w1 : w32 ((k : Int) + 1) = (k : Int) + 1 := w32_i (by omega) (by omega)
      have w5 : w32 (5 + (k : Int)) = 5 + (k : Int) := by clear w1; exact w32_i (by omega) (by omega)
      have hu9 : upM m 118 (5 + k) (N 118 k) 119 k = N 119 k := by rw [up_na (by decide)]; exact g9
      have hu0 : upM (upM m 118 (5 + k) (N 118 k)) 119 (5 + k) (N 119 k) 120 k = N 120 k := by rw [up_na (by decide), up_na (by decide)]; exact g0
      refine ⟨upM (upM (upM m 118 (5 + k) (N 118 k)) 119 (5 + k) (N 119 k)) 120 (5 + k) (N 120 k), ?_, ?_, ?_⟩
      · dsimp only
        rw [if_pos z5, gd_t z10, w5, gd_t z11, bM_eq, gd_t z10, gd_t z11, bM_eq, gd_t z10, gd_t z11, x1, Int.toNat_natCast, g8, hu9, gd_t (show _ ∨ _ by rw [hu0]; exact h120 k hk), bM_eq, hu0, w1]
        rfl
      · clear w1 w5
        intro p hp
        by_cases q : p = k
        · subst q
          simp (disch := decide) only [up_na, upM_eq]
          exact ⟨trivial, trivial, trivial⟩
        · have qn : 5 + p ≠ 5 + k := by omega
          rw [up_na (by decide), up_na (by decide), up_ni qn, up_na (by decide), up_ni qn, up_na (by decide), up_ni qn, up_na (by decide), up_na (by decide)]
          exact i1 p (by omega)
      · clear w1 w5
        intro a j hn
        rw [upM_ne a j (fun z => hn ⟨by omega, by omega, by omega, by omega⟩), upM_ne a j (fun z => hn ⟨by omega, by omega, by omega, by omega⟩), upM_ne a j (fun z => hn ⟨by omega, by omega, by omega, by omega⟩)]
        exact i2 a j hn
    · rintro m ⟨i1, i2⟩
      exact ⟨m, rfl, i1, i2⟩
  rw [e3, Option.bind_some]
  clear e3
  have g13 : ∀ a j, ¬ (a = 116 ∧ 5 ≤ j ∧ j < 10) → ¬ (a = 117 ∧ 30 ≤ j ∧ j < 60) → ¬ (118 ≤ a ∧ a ≤ 120 ∧ 5 ≤ j ∧ j < 10) → n3 a j = N a j := fun a j h1 h2 h3 => (b3 a j h3).trans (g12 a j h1 h2)
  have g7 : ∀ a j, 121 ≤ a → n3 a j = N a j := fun a j h => g13 a j (by omega) (by omega) (by omega)
  rw [bM_eq, bM_eq, gd_t (show _ ∨ _ by rw [up_na (by decide), up_na (by decide), g7 _ _ (by decide)]; exact h123)]
  simp (disch := decide) only [bM_eq, up_na, g7]
  obtain ⟨n4, e4, a4, b4⟩ := m_plain (N := upM (upM (upM (upM (upM (upM (upM n3 121 1 (N 121 0)) 122 1 (N 122 0)) 123 1 (N 123 0)) 124 1 (N 124 0)) 125 1 (N 125 0)) 126 1 (N 126 0)) 127 1 (N 127 0))
  rw [e4, Option.bind_some]
  have b5 : ∀ a j, a ≠ 88 → n4 a j = upM (upM (upM (upM (upM (upM (upM n3 121 1 (N 121 0)) 122 1 (N 122 0)) 123 1 (N 123 0)) 124 1 (N 124 0)) 125 1 (N 125 0)) 126 1 (N 126 0)) 127 1 (N 127 0) a j := fun a j h => b4 a j (fun z => h z.1)
  refine ⟨n4, rfl, ⟨a4, ?_, ?_, ?_, ?_⟩, ?_, ?_⟩
  · intro a h1 h2
    have : a = 121 ∨ a = 122 ∨ a = 123 ∨ a = 124 ∨ a = 125 ∨ a = 126 ∨ a = 127 := by omega
    rcases this with rfl | rfl | rfl | rfl | rfl | rfl | rfl <;> rw [b5 _ _ (by decide)] <;> simp (disch := decide) only [up_na, upM_eq]
  · intro r hr
    rw [b5 _ _ (by decide)]
    simp (disch := decide) only [up_na]
    rw [b3 116 (5 + r) (by omega), b2 116 (5 + r) (by omega)]
    exact a1 r hr
  · intro r hr
    rw [b5 _ _ (by decide)]
    simp (disch := decide) only [up_na]
    rw [b3 117 (30 + r) (by omega), a2 r hr]
    exact b1 117 r (by omega)
  · intro p hp
    rw [b5 _ _ (by decide), b5 _ _ (by decide), b5 _ _ (by decide)]
    simp (disch := decide) only [up_na]
    exact a3 p hp
  · intro a j hn
    unfold QS MS at hn
    rw [b4 a j (by omega)]
    rw [upM_ne a j (by omega), upM_ne a j (by omega), upM_ne a j (by omega), upM_ne a j (by omega), upM_ne a j (by omega), upM_ne a j (by omega), upM_ne a j (by omega)]
    exact g13 a j (by omega) (by omega) (by omega)
  · rw [b4 88 84 (by omega)]
    simp (disch := decide) only [up_na]
    exact g13 88 84 (by omega) (by omega) (by omega)
end LAY
