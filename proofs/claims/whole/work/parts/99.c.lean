section IMAGE
variable {M N H S B T ST : MM} {LV : LVT} {h : Nat}
/-- a row laid cell by cell -/
theorem m_cells {a1 n1 a2 n2 o1 o2 k : Nat} (h1 : o1 + k ≤ n1) (h2 : o2 + k ≤ n2) (hn1 : n1 ≤ 1000) (hn2 : n2 ≤ 1000) (hne : a1 ≠ a2) (A : MM) (step : Int × MM → Option ((Int × MM) ⊕ MM)) (hs : ∀ (t : Nat) (m : MM), t < k → step ((t : Int), m) = some (.inl ((t : Int) + 1, upM m a2 (o2 + t) (m a1 (o1 + t))))) (he : ∀ m : MM, step ((k : Int), m) = some (.inr m)) : ∃ m, lp step FU (0, A) = some m ∧ ((∀ t : Nat, t < k → m a2 (o2 + t) = A a1 (o1 + t)) ∧ ∀ a j, ¬ (a = a2 ∧ o2 ≤ j ∧ j < o2 + k) → m a j = A a j) := by
  refine lp_cnt k (fun t m => (∀ i : Nat, i < t → m a2 (o2 + i) = A a1 (o1 + i)) ∧ ∀ a j, ¬ (a = a2 ∧ o2 ≤ j ∧ j < o2 + k) → m a j = A a j) _ (by omega) ?_ ?_ _ ⟨fun j hj => absurd hj (Nat.not_lt_zero _), fun _ _ _ => rfl⟩
  · rintro t m ht ⟨i1, i2⟩
    left
    refine ⟨_, hs t m ht, ?_, ?_⟩
    · intro i hi
      by_cases q : i = t
      · rw [q, upM_eq, i2 a1 _ (fun z => hne z.1)]
      · rw [up_ni (by omega)]; exact i1 i (by omega)
    · intro a j hn
      rw [upM_ne a j (fun z => hn ⟨z.1, by omega, by omega⟩)]
      exact i2 a j hn
  · rintro m ⟨i1, i2⟩
    exact ⟨m, he m, i1, i2⟩
/-- two rows laid cell by cell -/
theorem m_cells2 {a1 a2 a3 o2 o3 o1 o1' a1' k : Nat} (hk : k ≤ 1000) (n1 : a1 ≠ a2 ∧ a1 ≠ a3) (n2 : a1' ≠ a2 ∧ a1' ≠ a3) (d : a2 ≠ a3 ∨ o2 + k ≤ o3) (A : MM) (step : Int × MM → Option ((Int × MM) ⊕ MM)) (hs : ∀ (t : Nat) (m : MM), t < k → step ((t : Int), m) = some (.inl ((t : Int) + 1, upM (upM m a2 (o2 + t) (m a1 (o1 + t))) a3 (o3 + t) (m a1' (o1' + t))))) (he : ∀ m : MM, step ((k : Int), m) = some (.inr m)) : ∃ m, lp step FU (0, A) = some m ∧ ((∀ t : Nat, t < k → m a2 (o2 + t) = A a1 (o1 + t) ∧ m a3 (o3 + t) = A a1' (o1' + t)) ∧ ∀ a j, ¬ (a = a2 ∧ o2 ≤ j ∧ j < o2 + k) → ¬ (a = a3 ∧ o3 ≤ j ∧ j < o3 + k) → m a j = A a j) := by
  refine lp_cnt k (fun t m => (∀ i : Nat, i < t → m a2 (o2 + i) = A a1 (o1 + i) ∧ m a3 (o3 + i) = A a1' (o1' + i)) ∧ ∀ a j, ¬ (a = a2 ∧ o2 ≤ j ∧ j < o2 + k) → ¬ (a = a3 ∧ o3 ≤ j ∧ j < o3 + k) → m a j = A a j) _ (by omega) ?_ ?_ _ ⟨fun j hj => absurd hj (Nat.not_lt_zero _), fun _ _ _ _ => rfl⟩
  · rintro t m ht ⟨i1, i2⟩
    left
    refine ⟨_, hs t m ht, ?_, ?_⟩
    · intro i hi
      by_cases q : i = t
      · subst q
        rw [upM_eq, upM_ne a2 (o2 + i) (by omega), upM_eq, i2 a1 _ (fun z => n1.1 z.1) (fun z => n1.2 z.1), i2 a1' _ (fun z => n2.1 z.1) (fun z => n2.2 z.1)]
        exact ⟨rfl, rfl⟩
      · rw [upM_ne a2 (o2 + i) (by omega), upM_ne a2 (o2 + i) (by omega), upM_ne a3 (o3 + i) (by omega), upM_ne a3 (o3 + i) (by omega)]
        exact i1 i (by omega)
    · intro a j h1 h2
      rw [upM_ne a j (fun z => h2 ⟨z.1, by omega, by omega⟩), upM_ne a j (fun z => h1 ⟨z.1, by omega, by omega⟩)]
      exact i2 a j h1 h2
  · rintro m ⟨i1, i2⟩
    exact ⟨m, he m, i1, i2⟩
theorem wk5 {t c n : Nat} (h : c + t < n) (hn : n ≤ 1000) : w32 ((c : Int) + (t : Int)) = (c : Int) + (t : Int) ∧ ((c : Int) + (t : Int)).toNat = c + t ∧ (0 ≤ (c : Int) + (t : Int) ∧ (c : Int) + (t : Int) < (n : Int)) := by
  refine ⟨w32_i (by omega) (by omega), by omega, by omega⟩
theorem keep_1 (t : Nat) (m : MM) (ht : t < 5) : (fun x4 : Int × MM => if x4.1 < 5 then (gd (0 ≤ x4.1 ∧ x4.1 < (10 : Int)) <| gd (0 ≤ x4.1 ∧ x4.1 < (35 : Int)) <| bM (upM x4.2 135 (x4.1).toNat (x4.2 116 (x4.1).toNat)) fun M8 => some (Sum.inl (w32 (x4.1 + 1), M8))) else some (Sum.inr x4.2)) ((t : Int), m) = (some (.inl ((t : Int) + 1, upM m 135 (0 + t) (m 116 (0 + t)))) : Option ((Int × MM) ⊕ MM)) := by
  have z : (t : Int) < 5 := by omega
  have z1 : 0 ≤ (t : Int) ∧ (t : Int) < 10 := by omega
  have z2 : 0 ≤ (t : Int) ∧ (t : Int) < 35 := by omega
  try dsimp +instances only
  rw [if_pos z, gd_t z1, gd_t z2, bM_eq, Int.toNat_natCast, wi1 (by omega), Nat.zero_add]
theorem keep_2 (t : Nat) (m : MM) (ht : t < 30) : (fun x10 : Int × MM => if x10.1 < 30 then (gd (0 ≤ x10.1 ∧ x10.1 < (60 : Int)) <| gd (0 ≤ w32 (5 + x10.1) ∧ w32 (5 + x10.1) < (35 : Int)) <| bM (upM x10.2 135 (w32 (5 + x10.1)).toNat (x10.2 117 (x10.1).toNat)) fun M14 => some (Sum.inl (w32 (x10.1 + 1), M14))) else some (Sum.inr x10.2)) ((t : Int), m) = (some (.inl ((t : Int) + 1, upM m 135 (5 + t) (m 117 (0 + t)))) : Option ((Int × MM) ⊕ MM)) := by
  have z : (t : Int) < 30 := by omega
  have z1 : 0 ≤ (t : Int) ∧ (t : Int) < 60 := by omega
  obtain ⟨y1, y2, y3⟩ := wk5 (t := t) (c := 5) (n := 35) (by omega) (by decide)
  have y1 : w32 (5 + (t : Int)) = 5 + (t : Int) := y1
  have y2 : (5 + (t : Int)).toNat = 5 + t := y2
  have y3 : 0 ≤ 5 + (t : Int) ∧ 5 + (t : Int) < 35 := y3
  try dsimp +instances only
  rw [if_pos z, gd_t z1, y1, gd_t y3, bM_eq, y2, Int.toNat_natCast, wi1 (by omega), Nat.zero_add]
theorem keep_3 (t : Nat) (m : MM) (ht : t < 5) : (fun x16 : Int × MM => if x16.1 < 5 then (gd (0 ≤ x16.1 ∧ x16.1 < (10 : Int)) <| gd (0 ≤ x16.1 ∧ x16.1 < (10 : Int)) <| bM (upM x16.2 136 (x16.1).toNat (x16.2 118 (x16.1).toNat)) fun M20 => gd (0 ≤ x16.1 ∧ x16.1 < (10 : Int)) <| gd (0 ≤ w32 (5 + x16.1) ∧ w32 (5 + x16.1) < (10 : Int)) <| bM (upM M20 136 (w32 (5 + x16.1)).toNat (M20 119 (x16.1).toNat)) fun M23 => some (Sum.inl (w32 (x16.1 + 1), M23))) else some (Sum.inr x16.2)) ((t : Int), m) = (some (.inl ((t : Int) + 1, upM (upM m 136 (0 + t) (m 118 (0 + t))) 136 (5 + t) (m 119 (0 + t)))) : Option ((Int × MM) ⊕ MM)) := by
  have z : (t : Int) < 5 := by omega
  have z1 : 0 ≤ (t : Int) ∧ (t : Int) < 10 := by omega
  obtain ⟨y1, y2, y3⟩ := wk5 (t := t) (c := 5) (n := 10) (by omega) (by decide)
  have y1 : w32 (5 + (t : Int)) = 5 + (t : Int) := y1
  have y2 : (5 + (t : Int)).toNat = 5 + t := y2
  have y3 : 0 ≤ 5 + (t : Int) ∧ 5 + (t : Int) < 10 := y3
  try dsimp +instances only
  rw [if_pos z, gd_t z1, gd_t z1, bM_eq, gd_t z1, y1, gd_t y3, bM_eq, y2, Int.toNat_natCast, wi1 (by omega), Nat.zero_add, up_na (by decide)]
theorem keep_4 (t : Nat) (m : MM) (ht : t < 24) : (fun x25 : Int × MM => if x25.1 < 24 then (gd (0 ≤ x25.1 ∧ x25.1 < (24 : Int)) <| gd (0 ≤ x25.1 ∧ x25.1 < (48 : Int)) <| bM (upM x25.2 137 (x25.1).toNat (x25.2 128 (x25.1).toNat)) fun M29 => gd (0 ≤ x25.1 ∧ x25.1 < (24 : Int)) <| gd (0 ≤ w32 (24 + x25.1) ∧ w32 (24 + x25.1) < (48 : Int)) <| bM (upM M29 137 (w32 (24 + x25.1)).toNat (M29 129 (x25.1).toNat)) fun M32 => some (Sum.inl (w32 (x25.1 + 1), M32))) else some (Sum.inr x25.2)) ((t : Int), m) = (some (.inl ((t : Int) + 1, upM (upM m 137 (0 + t) (m 128 (0 + t))) 137 (24 + t) (m 129 (0 + t)))) : Option ((Int × MM) ⊕ MM)) := by
  have z : (t : Int) < 24 := by omega
  have z1 : 0 ≤ (t : Int) ∧ (t : Int) < 24 := by omega
  have z2 : 0 ≤ (t : Int) ∧ (t : Int) < 48 := by omega
  obtain ⟨y1, y2, y3⟩ := wk5 (t := t) (c := 24) (n := 48) (by omega) (by decide)
  have y1 : w32 (24 + (t : Int)) = 24 + (t : Int) := y1
  have y2 : (24 + (t : Int)).toNat = 24 + t := y2
  have y3 : 0 ≤ 24 + (t : Int) ∧ 24 + (t : Int) < 48 := y3
  try dsimp +instances only
  rw [if_pos z, gd_t z1, gd_t z2, bM_eq, gd_t z1, y1, gd_t y3, bM_eq, y2, Int.toNat_natCast, wi1 (by omega), Nat.zero_add, up_na (by decide)]
theorem m_keep (g : BA M N h H LV S) : ∃ N', f_X12_keep N = some (S 0 2, N') ∧ IMG N' H S ∧ N' 88 87 = 1 ∧ ∀ a j, (a < 134 ∨ 138 < a) → a ≠ 88 ∨ (j ≠ 2 ∧ j ≠ 87) → N' a j = N a j := by
  obtain ⟨⟨k1, k2, k3, k4, k5, k6, k7⟩, l2, l3, l4⟩ := g.2.1.2.2
  have hso := g.2.2.1.2.2.2.1
  have h5 := g.2.2.1.1.1
  unfold f_X12_keep
  rw [bM_eq, bM_eq]
  have u : ∀ a j, a ≠ 88 ∨ (j ≠ 2 ∧ j ≠ 87) → upM (upM N 88 2 0) 88 87 1 a j = N a j := fun a j hn => by rw [upM_ne a j (by omega), upM_ne a j (by omega)]
  have u87 : upM (upM N 88 2 0) 88 87 1 88 87 = 1 := upM_eq
  generalize upM (upM N 88 2 0) 88 87 1 = A at u u87
  obtain ⟨B1, e1, ⟨p1, p2, p3, p4⟩, f1⟩ := m_put (N := A) (a1 := 134) (n1 := 8) (p := 0) (Or.inr rfl) (by decide) (by decide) (by rw [u 123 0 (by decide), k4]; exact hso.2.2.2.1) (fun i hi => by rw [u 120 i (Or.inl (by decide)), (l2 i hi).1]; exact hso.2.2.2.2.2.2.2.1 i hi)
  have e1 : f_X12_put A 134 8 0 = some B1 := e1
  rw [e1, Option.bind_some]
  clear e1
  obtain ⟨B2, e2, q1, f2⟩ := m_cells (a1 := 116) (n1 := 10) (a2 := 135) (n2 := 35) (o1 := 0) (o2 := 0) (k := 5) (by decide) (by decide) (by decide) (by decide) (by decide) B1 (fun x4 => if x4.1 < 5 then (gd (0 ≤ x4.1 ∧ x4.1 < (10 : Int)) <| gd (0 ≤ x4.1 ∧ x4.1 < (35 : Int)) <| bM (upM x4.2 135 (x4.1).toNat (x4.2 116 (x4.1).toNat)) fun M8 => some (Sum.inl (w32 (x4.1 + 1), M8))) else some (Sum.inr x4.2)) keep_1 (fun m => rfl)
  rw [e2, Option.bind_some]
  clear e2
  obtain ⟨B3, e3, q2, f3⟩ := m_cells (a1 := 117) (n1 := 60) (a2 := 135) (n2 := 35) (o1 := 0) (o2 := 5) (k := 30) (by decide) (by decide) (by decide) (by decide) (by decide) B2 (fun x10 => if x10.1 < 30 then (gd (0 ≤ x10.1 ∧ x10.1 < (60 : Int)) <| gd (0 ≤ w32 (5 + x10.1) ∧ w32 (5 + x10.1) < (35 : Int)) <| bM (upM x10.2 135 (w32 (5 + x10.1)).toNat (x10.2 117 (x10.1).toNat)) fun M14 => some (Sum.inl (w32 (x10.1 + 1), M14))) else some (Sum.inr x10.2)) keep_2 (fun m => rfl)
  rw [e3, Option.bind_some]
  clear e3
  obtain ⟨B4, e4, q3, f4⟩ := m_cells2 (a1 := 118) (a2 := 136) (a3 := 136) (a1' := 119) (o1 := 0) (o2 := 0) (o3 := 5) (o1' := 0) (k := 5) (by decide) (by decide) (by decide) (by decide) B3 (fun x16 => if x16.1 < 5 then (gd (0 ≤ x16.1 ∧ x16.1 < (10 : Int)) <| gd (0 ≤ x16.1 ∧ x16.1 < (10 : Int)) <| bM (upM x16.2 136 (x16.1).toNat (x16.2 118 (x16.1).toNat)) fun M20 => gd (0 ≤ x16.1 ∧ x16.1 < (10 : Int)) <| gd (0 ≤ w32 (5 + x16.1) ∧ w32 (5 + x16.1) < (10 : Int)) <| bM (upM M20 136 (w32 (5 + x16.1)).toNat (M20 119 (x16.1).toNat)) fun M23 => some (Sum.inl (w32 (x16.1 + 1), M23))) else some (Sum.inr x16.2)) keep_3 (fun m => rfl)
  rw [e4, Option.bind_some]
  clear e4
  obtain ⟨B5, e5, q4, f5⟩ := m_cells2 (a1 := 128) (a2 := 137) (a3 := 137) (a1' := 129) (o1 := 0) (o2 := 0) (o3 := 24) (o1' := 0) (k := 24) (by decide) (by decide) (by decide) (by decide) B4 (fun x25 => if x25.1 < 24 then (gd (0 ≤ x25.1 ∧ x25.1 < (24 : Int)) <| gd (0 ≤ x25.1 ∧ x25.1 < (48 : Int)) <| bM (upM x25.2 137 (x25.1).toNat (x25.2 128 (x25.1).toNat)) fun M29 => gd (0 ≤ x25.1 ∧ x25.1 < (24 : Int)) <| gd (0 ≤ w32 (24 + x25.1) ∧ w32 (24 + x25.1) < (48 : Int)) <| bM (upM M29 137 (w32 (24 + x25.1)).toNat (M29 129 (x25.1).toNat)) fun M32 => some (Sum.inl (w32 (x25.1 + 1), M32))) else some (Sum.inr x25.2)) keep_4 (fun m => rfl)
  rw [e5, Option.bind_some]
  clear e5
  have s : ∀ a j, (a < 134 ∨ 137 < a) → B5 a j = A a j := fun a j ha => by rw [f5 a j (by omega) (by omega), f4 a j (by omega) (by omega), f3 a j (by omega), f2 a j (by omega), f1 a j (by omega)]
  have sN : ∀ a j, (a < 134 ∨ 137 < a) → a ≠ 88 ∨ (j ≠ 2 ∧ j ≠ 87) → B5 a j = N a j := fun a j ha hj => by rw [s a j ha, u a j hj]
  simp (disch := decide) only [bM_eq, up_na]
  rw [sN 127 0 (by decide) (by decide), k1, sN 124 0 (by decide) (by decide), sN 125 0 (by decide) (by decide), sN 126 0 (by decide) (by decide), k5, k6, k7]
  refine ⟨_, rfl, ⟨?_, ?_, ?_, ?_, ?_⟩, ?_, ?_⟩
  · intro j hj
    simp (disch := decide) only [up_na]
    rw [f5 134 j (by omega) (by omega), f4 134 j (by omega) (by omega), f3 134 j (by omega), f2 134 j (by omega)]
    have hj' : j = 0 ∨ j = 1 ∨ j = 2 ∨ ∃ p, p < 5 ∧ j = p + 3 := by
      by_cases q : j < 3
      · omega
      · exact Or.inr (Or.inr (Or.inr ⟨j - 3, by omega, by omega⟩))
    rcases hj' with rfl | rfl | rfl | ⟨p, hp, rfl⟩
    · rw [p1, u 121 0 (by decide), k2]; rfl
    · have := p2; rw [u 122 0 (by decide), k3] at this; exact this
    · have := p3; rw [u 123 0 (by decide), k4] at this; exact this
    · have := p4 p hp
      rw [u 120 p (Or.inl (by decide)), (l2 p hp).1] at this
      rw [show p + 3 = 0 + 3 + p by omega, this, show 0 + 3 + p = 3 + p by omega, snp_3]
  · intro r hr
    have r5 : r < 5 := by omega
    simp (disch := decide) only [up_na]
    refine ⟨?_, fun k hk => ?_⟩
    · rw [f5 135 r (by omega) (by omega), f4 135 r (by omega) (by omega), f3 135 r (by omega)]
      have := q1 r r5
      rw [Nat.zero_add] at this
      rw [this, f1 116 r (by omega), u 116 r (Or.inl (by decide))]
      exact (l3 r hr).1
    · rw [f5 135 _ (by omega) (by omega), f4 135 _ (by omega) (by omega), q2 (6 * r + k) (by omega), Nat.zero_add, f2 117 _ (by omega), f1 117 _ (by omega), u 117 _ (Or.inl (by decide))]
      exact (l3 r hr).2 k hk
  · intro p hp
    obtain ⟨y1, y2⟩ := q3 p hp
    rw [Nat.zero_add] at y1
    obtain ⟨o1, o2, o3⟩ := l2 p hp
    simp (disch := decide) only [up_na]
    rw [f5 136 p (by omega) (by omega), f5 136 (5 + p) (by omega) (by omega), y1, y2, Nat.zero_add, f3 118 p (by omega), f2 118 p (by omega), f1 118 p (by omega), u 118 p (Or.inl (by decide)), f3 119 p (by omega), f2 119 p (by omega), f1 119 p (by omega), u 119 p (Or.inl (by decide))]
    exact ⟨o3, o2⟩
  · intro j hj
    obtain ⟨y1, y2⟩ := q4 j hj
    rw [Nat.zero_add] at y1
    simp (disch := decide) only [up_na]
    rw [y1, y2, Nat.zero_add, f4 128 j (by omega) (by omega), f3 128 j (by omega), f2 128 j (by omega), f1 128 j (by omega), u 128 j (Or.inl (by decide)), f4 129 j (by omega) (by omega), f3 129 j (by omega), f2 129 j (by omega), f1 129 j (by omega), u 129 j (Or.inl (by decide))]
    exact l4 j hj
  · simp (disch := decide) only [up_ni, upM_eq]
    exact ⟨trivial, trivial, trivial, trivial⟩
  · simp (disch := decide) only [up_na]
    rw [s 88 87 (by decide)]; exact u87
  · intro a j ha hj
    rw [up_na (by omega), up_na (by omega), up_na (by omega), up_na (by omega)]
    exact sN a j (by omega) hj
theorem al_keep {X : MM} (hX : AL X) : AN (f_X11_keep X) (fun m => f_X12_keep m) := by
  obtain ⟨h, H, LV, S, g, x⟩ := hX
  have hh := g.1.1
  have hso := g.2.2.1.2.2.2.1
  obtain ⟨M1, e1, c1, f1⟩ := c_copy (a0 := 62) (a1 := 54) (by decide) (by decide) (by decide) g.1.2.2.2.2 (CC.self 62) hh g.2.2.1.2.2.2.2.2 hso.2.2.2.1 hso.2.2.2.2.2.2.2.1
  have et : upM M1 0 7 1 54 2 = S 0 2 := by rw [up_na (by decide), f1 54 (by decide)]; exact g.1.2.2.2.2.at0
  have hi : ∀ a, 88 ≤ a → upM M1 0 7 1 a = X a := fun a ha => by rw [up_row (by omega), f1 a (by omega)]
  have g1 := g.cg FrX.rf (fqx_low hi)
  obtain ⟨N1, e2, im, e87, f2⟩ := m_keep g1
  have low : ∀ a, a < 88 → N1 a = upM M1 0 7 1 a := fun a ha => funext fun j => f2 a j (by omega) (Or.inl (by omega))
  have lowX : ∀ a, a < 88 → a ≠ 0 → (a < 62 ∨ 69 < a) → N1 a = X a := fun a h1 h2 h3 => by rw [low a h1, up_row h2, f1 a (by omega)]
  have low0 : ∀ j, j ≠ 7 → N1 0 j = X 0 j := fun j hj => by rw [low 0 (by decide), up_ni hj, f1 0 (by decide)]
  have hiX : ∀ a j, 88 ≤ a → (a < 134 ∨ 138 < a) → a ≠ 88 ∨ (j ≠ 2 ∧ j ≠ 87) → N1 a j = X a j := fun a j h1 h2 h3 => by rw [f2 a j h2 h3, hi a h1]
  refine ⟨S 0 2, upM M1 0 7 1, N1, ?_, e2, h, H, LV, S, ?_, ?_⟩
  · unfold f_X11_keep
    rw [e1, Option.bind_some, bM_eq, et]
  · obtain ⟨⟨a1, a2, a3, a4, a5⟩, ⟨b1, b2, b3⟩, c, d⟩ := g
    refine ⟨⟨a1, by rw [low0 3 (by decide)]; exact a2, fun k k1 k2 k3 => by rw [lowX (h + k) (by omega) (by omega) (by omega)]; exact a3 k k1 k2 k3, fun m hm w hw hn => a4 m (fun k u1 u2 => by rw [hm k u1 u2, lowX (h + k) (by omega) (by omega) (by omega)]) w hw hn, fun k hk => by rw [lowX (54 + k) (by omega) (by omega) (by omega)]; exact a5 k hk⟩, ⟨?_, ?_, ?_⟩, c, d⟩
    · have fa : ∀ a j, 92 ≤ a → a ≤ 105 → N1 a j = X a j := fun a j u1 u2 => hiX a j (by omega) (by omega) (Or.inl (by omega))
      have f8 : ∀ j, 12 ≤ j → j ≤ 16 → N1 88 j = X 88 j := fun j u1 u2 => hiX 88 j (by omega) (by omega) (Or.inr (by omega))
      unfold HM at *
      simp (disch := decide) only [fa, f8]
      exact b1
    · intro n' hn w hw ok
      have e : ∀ a, 106 ≤ a → a ≤ 111 → N1 a = X a := fun a u1 u2 => funext fun j => hiX a j (by omega) (by omega) (Or.inl (by omega))
      have := b2 n' (fun a j x => (hn a j x).trans (congrFun (e a (by omega) (by omega)) j)) w hw ok
      rw [e 106 (by omega) (by omega)]
      exact this
    · have fa : ∀ a j, 116 ≤ a → a ≤ 129 → N1 a j = X a j := fun a j u1 u2 => hiX a j (by omega) (by omega) (Or.inl (by omega))
      unfold CM0 at *
      simp (disch := decide) only [fa]
      exact b3
  · obtain ⟨x1, x2, x3, x4, ⟨x5, x6, x7⟩, x8, x9⟩ := x
    have na : ∀ a j, a = 89 ∨ a = 90 ∨ a = 131 ∨ a = 133 → N1 a j = X a j := fun a j ha => hiX a j (by omega) (by omega) (Or.inl (by omega))
    have n8 : ∀ j, j = 1 ∨ j = 4 ∨ j = 5 ∨ j = 80 ∨ j = 81 ∨ j = 85 → N1 88 j = X 88 j := fun j hj => hiX 88 j (by omega) (by omega) (Or.inr (by omega))
    have cc : ∀ a, a = 1 ∨ a = 4 ∨ (78 ≤ a ∧ a ≤ 87) → N1 a = X a := fun a ha => lowX a (by omega) (by omega) (by omega)
    have c07 : N1 0 7 = 1 := by rw [low 0 (by decide), upM_eq]
    have c63 : N1 63 7 = -1 := by
      rw [low 63 (by decide), up_na (by decide)]
      have : M1 63 7 = cpS S (fun k => X (62 + k)) 1 7 := c1.at (k := 1) (by decide)
      rw [this, cp_1]
      exact x6
    obtain ⟨s1, s2⟩ := SOK_cp (T := fun k => X (62 + k)) hso g.2.2.1.2.2.2.2.1 x6
    refine ⟨?_, ?_, ?_, ?_, ⟨⟨by rw [c07, e87], Or.inr c07⟩, c63, fun _ => ⟨cpS S (fun k => X (62 + k)), fun k hk => by rw [low (62 + k) (by omega), up_row (by omega)]; exact c1 k hk, ?_, s1, s2, (cp_0 (by decide)).trans g.2.2.1.2.2.2.2.2, by rw [cp_0 (by decide)]; exact g.t⟩⟩, ?_, ?_⟩
    · unfold TPR at *; simp (disch := decide) only [low0, cc, n8, na]; exact x1
    · simp (disch := decide) only [low0, n8]; exact x2
    · unfold LGR at *; simp (disch := decide) only [cc, n8, na]; exact x3
    · unfold PAR rowU at *; simp (disch := decide) only [cc, n8, na]; exact x4
    · have h5 := g.2.2.1.1.1
      obtain ⟨i1, i2, i3, i4, i5⟩ := im
      refine ⟨fun j hj => ?_, fun r hr => ?_, fun p hp => ?_, fun j hj => ?_, ?_⟩
      · rw [i1 j hj]
        unfold snp
        rw [cp_0 (by decide), cp_0 (by decide), cp_0 (by decide)]
        by_cases q : j < 3
        · have : j = 0 ∨ j = 1 ∨ j = 2 := by omega
          rcases this with rfl | rfl | rfl <;> rfl
        · rw [if_neg (by omega), if_neg (by omega), if_neg (by omega), if_neg (by omega), if_neg (by omega), if_neg (by omega), cp_5 ⟨by decide, by omega⟩]
      · obtain ⟨y1, y2⟩ := i2 r hr
        rw [y1, cp_30 (by omega)]
        exact ⟨rfl, fun k hk => by rw [y2 k hk, cp_30 (by omega)]⟩
      · rw [(i3 p hp).1, (i3 p hp).2, cp_5 ⟨by decide, hp⟩, cp_5 ⟨by decide, hp⟩]
        exact ⟨rfl, rfl⟩
      · rw [(i4 j hj).1, (i4 j hj).2, cp_24 ⟨by decide, hj⟩, cp_24 ⟨by decide, hj⟩]
        exact ⟨rfl, rfl⟩
      · rw [cp_0 (by decide), cp_0 (by decide), cp_0 (by decide), cp_0 (by decide)]
        exact i5
    · unfold WDR at *; simp (disch := decide) only [cc, na]; exact x8
    · simp (disch := decide) only [low0, lowX 11 (by decide) (by decide) (by decide), lowX 34 (by decide) (by decide) (by decide)]; exact x9
end IMAGE
