section BACK
variable {M N H S B T ST J : MM} {LV : LVT} {h : Nat}
theorem back_1 (t : Nat) (m : MM) (ht : t < 5) : (fun x4 : Int × MM => if x4.1 < 5 then (gd (0 ≤ x4.1 ∧ x4.1 < (35 : Int)) <| gd (0 ≤ x4.1 ∧ x4.1 < (10 : Int)) <| bM (upM x4.2 116 (x4.1).toNat (x4.2 135 (x4.1).toNat)) fun M8 => some (Sum.inl (w32 (x4.1 + 1), M8))) else some (Sum.inr x4.2)) ((t : Int), m) = (some (.inl ((t : Int) + 1, upM m 116 (0 + t) (m 135 (0 + t)))) : Option ((Int × MM) ⊕ MM)) := by
  have z : (t : Int) < 5 := by omega
  have z1 : 0 ≤ (t : Int) ∧ (t : Int) < 10 := by omega
  have z2 : 0 ≤ (t : Int) ∧ (t : Int) < 35 := by omega
  have z3 : t < 1000 := by omega
  try dsimp +instances only
  rw [if_pos z, gd_t z2, gd_t z1, bM_eq, Int.toNat_natCast, wi1 z3, Nat.zero_add]
theorem back_2 (t : Nat) (m : MM) (ht : t < 30) : (fun x10 : Int × MM => if x10.1 < 30 then (gd (0 ≤ w32 (5 + x10.1) ∧ w32 (5 + x10.1) < (35 : Int)) <| gd (0 ≤ x10.1 ∧ x10.1 < (60 : Int)) <| bM (upM x10.2 117 (x10.1).toNat (x10.2 135 (w32 (5 + x10.1)).toNat)) fun M14 => some (Sum.inl (w32 (x10.1 + 1), M14))) else some (Sum.inr x10.2)) ((t : Int), m) = (some (.inl ((t : Int) + 1, upM m 117 (0 + t) (m 135 (5 + t)))) : Option ((Int × MM) ⊕ MM)) := by
  have z : (t : Int) < 30 := by omega
  have z1 : 0 ≤ (t : Int) ∧ (t : Int) < 60 := by omega
  have z3 : t < 1000 := by omega
  obtain ⟨y1, y2, y3⟩ := wk5 (t := t) (c := 5) (n := 35) (by omega) (by decide)
  have y1 : w32 (5 + (t : Int)) = 5 + (t : Int) := y1
  have y2 : (5 + (t : Int)).toNat = 5 + t := y2
  have y3 : 0 ≤ 5 + (t : Int) ∧ 5 + (t : Int) < 35 := y3
  try dsimp +instances only
  rw [if_pos z, y1, gd_t y3, gd_t z1, bM_eq, y2, Int.toNat_natCast, wi1 z3, Nat.zero_add]
theorem back_3 (t : Nat) (m : MM) (ht : t < 5) : (fun x16 : Int × MM => if x16.1 < 5 then (gd (0 ≤ x16.1 ∧ x16.1 < (10 : Int)) <| gd (0 ≤ x16.1 ∧ x16.1 < (10 : Int)) <| bM (upM x16.2 118 (x16.1).toNat (x16.2 136 (x16.1).toNat)) fun M20 => gd (0 ≤ w32 (5 + x16.1) ∧ w32 (5 + x16.1) < (10 : Int)) <| gd (0 ≤ x16.1 ∧ x16.1 < (10 : Int)) <| bM (upM M20 119 (x16.1).toNat (M20 136 (w32 (5 + x16.1)).toNat)) fun M23 => some (Sum.inl (w32 (x16.1 + 1), M23))) else some (Sum.inr x16.2)) ((t : Int), m) = (some (.inl ((t : Int) + 1, upM (upM m 118 (0 + t) (m 136 (0 + t))) 119 (0 + t) (m 136 (5 + t)))) : Option ((Int × MM) ⊕ MM)) := by
  have z : (t : Int) < 5 := by omega
  have z1 : 0 ≤ (t : Int) ∧ (t : Int) < 10 := by omega
  have z3 : t < 1000 := by omega
  obtain ⟨y1, y2, y3⟩ := wk5 (t := t) (c := 5) (n := 10) (by omega) (by decide)
  have y1 : w32 (5 + (t : Int)) = 5 + (t : Int) := y1
  have y2 : (5 + (t : Int)).toNat = 5 + t := y2
  have y3 : 0 ≤ 5 + (t : Int) ∧ 5 + (t : Int) < 10 := y3
  try dsimp +instances only
  rw [if_pos z, gd_t z1, gd_t z1, bM_eq, y1, gd_t y3, gd_t z1, bM_eq, y2, Int.toNat_natCast, wi1 z3, Nat.zero_add, up_na (by decide)]
theorem back_4 (t : Nat) (m : MM) (ht : t < 24) : (fun x25 : Int × MM => if x25.1 < 24 then (gd (0 ≤ x25.1 ∧ x25.1 < (48 : Int)) <| gd (0 ≤ x25.1 ∧ x25.1 < (24 : Int)) <| bM (upM x25.2 128 (x25.1).toNat (x25.2 137 (x25.1).toNat)) fun M29 => gd (0 ≤ w32 (24 + x25.1) ∧ w32 (24 + x25.1) < (48 : Int)) <| gd (0 ≤ x25.1 ∧ x25.1 < (24 : Int)) <| bM (upM M29 129 (x25.1).toNat (M29 137 (w32 (24 + x25.1)).toNat)) fun M32 => some (Sum.inl (w32 (x25.1 + 1), M32))) else some (Sum.inr x25.2)) ((t : Int), m) = (some (.inl ((t : Int) + 1, upM (upM m 128 (0 + t) (m 137 (0 + t))) 129 (0 + t) (m 137 (24 + t)))) : Option ((Int × MM) ⊕ MM)) := by
  have z : (t : Int) < 24 := by omega
  have z1 : 0 ≤ (t : Int) ∧ (t : Int) < 24 := by omega
  have z2 : 0 ≤ (t : Int) ∧ (t : Int) < 48 := by omega
  have z3 : t < 1000 := by omega
  obtain ⟨y1, y2, y3⟩ := wk5 (t := t) (c := 24) (n := 48) (by omega) (by decide)
  have y1 : w32 (24 + (t : Int)) = 24 + (t : Int) := y1
  have y2 : (24 + (t : Int)).toNat = 24 + t := y2
  have y3 : 0 ≤ 24 + (t : Int) ∧ 24 + (t : Int) < 48 := y3
  try dsimp +instances only
  rw [if_pos z, gd_t z2, gd_t z1, bM_eq, y1, gd_t y3, gd_t z1, bM_eq, y2, Int.toNat_natCast, wi1 z3, Nat.zero_add, up_na (by decide)]
theorem m_back (im : IMG N H J) (h5 : H 1 0 ≤ 5) (hJ : SOK H J) (h87 : N 88 87 = 1) : ∃ N', f_X12_back N = some (J 0 2, N') ∧ CM0 N' H J ∧ N' 88 85 = 0 ∧ ∀ a j, ¬ (116 ≤ a ∧ a ≤ 129) → a ≠ 88 ∨ (j ≠ 2 ∧ j ≠ 85) → N' a j = N a j := by
  obtain ⟨i1, i2, i3, i4, ⟨i5, i6, i7, i8⟩⟩ := im
  have rn := row_now hJ
  have u : ∀ a j, a ≠ 88 ∨ j ≠ 2 → upM N 88 2 0 a j = N a j := fun a j hn => by rw [upM_ne a j (by omega)]
  have u87 : ¬ upM N 88 2 0 88 87 = 0 := by rw [u 88 87 (by decide), h87]; decide
  unfold f_X12_back
  rw [bM_eq, if_neg u87]
  clear u87
  generalize upM N 88 2 0 = A at u
  obtain ⟨B1, e1, ⟨p1, p2, p3, p4⟩, f1⟩ := m_take (N := A) (a1 := 134) (n1 := 8) (p := 0) (Or.inr rfl) (by decide) (by decide) (fun j j1 j2 => by rw [Nat.zero_add, u 134 j (Or.inl (by decide)), i1 j j2]; exact rn.2.2 j j1 j2)
  have e1 : f_X12_take A 134 8 0 = some B1 := e1
  rw [e1, Option.bind_some]
  clear e1
  obtain ⟨B2, e2, q1, f2⟩ := m_cells (a1 := 135) (n1 := 35) (a2 := 116) (n2 := 10) (o1 := 0) (o2 := 0) (k := 5) (by decide) (by decide) (by decide) (by decide) (by decide) B1 (fun x4 => if x4.1 < 5 then (gd (0 ≤ x4.1 ∧ x4.1 < (35 : Int)) <| gd (0 ≤ x4.1 ∧ x4.1 < (10 : Int)) <| bM (upM x4.2 116 (x4.1).toNat (x4.2 135 (x4.1).toNat)) fun M8 => some (Sum.inl (w32 (x4.1 + 1), M8))) else some (Sum.inr x4.2)) back_1 (fun m => rfl)
  rw [e2, Option.bind_some]
  clear e2
  obtain ⟨B3, e3, q2, f3⟩ := m_cells (a1 := 135) (n1 := 35) (a2 := 117) (n2 := 60) (o1 := 5) (o2 := 0) (k := 30) (by decide) (by decide) (by decide) (by decide) (by decide) B2 (fun x10 => if x10.1 < 30 then (gd (0 ≤ w32 (5 + x10.1) ∧ w32 (5 + x10.1) < (35 : Int)) <| gd (0 ≤ x10.1 ∧ x10.1 < (60 : Int)) <| bM (upM x10.2 117 (x10.1).toNat (x10.2 135 (w32 (5 + x10.1)).toNat)) fun M14 => some (Sum.inl (w32 (x10.1 + 1), M14))) else some (Sum.inr x10.2)) back_2 (fun m => rfl)
  rw [e3, Option.bind_some]
  clear e3
  obtain ⟨B4, e4, q3, f4⟩ := m_cells2 (a1 := 136) (a2 := 118) (a3 := 119) (a1' := 136) (o1 := 0) (o2 := 0) (o3 := 0) (o1' := 5) (k := 5) (by decide) (by decide) (by decide) (by decide) B3 (fun x16 => if x16.1 < 5 then (gd (0 ≤ x16.1 ∧ x16.1 < (10 : Int)) <| gd (0 ≤ x16.1 ∧ x16.1 < (10 : Int)) <| bM (upM x16.2 118 (x16.1).toNat (x16.2 136 (x16.1).toNat)) fun M20 => gd (0 ≤ w32 (5 + x16.1) ∧ w32 (5 + x16.1) < (10 : Int)) <| gd (0 ≤ x16.1 ∧ x16.1 < (10 : Int)) <| bM (upM M20 119 (x16.1).toNat (M20 136 (w32 (5 + x16.1)).toNat)) fun M23 => some (Sum.inl (w32 (x16.1 + 1), M23))) else some (Sum.inr x16.2)) back_3 (fun m => rfl)
  rw [e4, Option.bind_some]
  clear e4
  obtain ⟨B5, e5, q4, f5⟩ := m_cells2 (a1 := 137) (a2 := 128) (a3 := 129) (a1' := 137) (o1 := 0) (o2 := 0) (o3 := 0) (o1' := 24) (k := 24) (by decide) (by decide) (by decide) (by decide) B4 (fun x25 => if x25.1 < 24 then (gd (0 ≤ x25.1 ∧ x25.1 < (48 : Int)) <| gd (0 ≤ x25.1 ∧ x25.1 < (24 : Int)) <| bM (upM x25.2 128 (x25.1).toNat (x25.2 137 (x25.1).toNat)) fun M29 => gd (0 ≤ w32 (24 + x25.1) ∧ w32 (24 + x25.1) < (48 : Int)) <| gd (0 ≤ x25.1 ∧ x25.1 < (24 : Int)) <| bM (upM M29 129 (x25.1).toNat (M29 137 (w32 (24 + x25.1)).toNat)) fun M32 => some (Sum.inl (w32 (x25.1 + 1), M32))) else some (Sum.inr x25.2)) back_4 (fun m => rfl)
  rw [e5, Option.bind_some]
  clear e5
  have s : ∀ a j, ¬ (116 ≤ a ∧ a ≤ 123) → ¬ (128 ≤ a ∧ a ≤ 129) → B5 a j = A a j := fun a j h1 h2 => by rw [f5 a j (by omega) (by omega), f4 a j (by omega) (by omega), f3 a j (by omega), f2 a j (by omega), f1 a j (by omega)]
  have s4 : ∀ a j, ¬ (116 ≤ a ∧ a ≤ 119) → ¬ (128 ≤ a ∧ a ≤ 129) → B5 a j = B1 a j := fun a j h1 h2 => by rw [f5 a j (by omega) (by omega), f4 a j (by omega) (by omega), f3 a j (by omega), f2 a j (by omega)]
  simp (disch := decide) only [bM_eq, up_na, upM_eq]
  rw [s 138 0 (by decide) (by decide), s 138 1 (by decide) (by decide), s 138 2 (by decide) (by decide), s 138 3 (by decide) (by decide), u 138 0 (by decide), u 138 1 (by decide), u 138 2 (by decide), u 138 3 (by decide), i5, i6, i7, i8]
  refine ⟨_, rfl, ⟨⟨?_, ?_, ?_, ?_, ?_, ?_, ?_⟩, ?_, ?_, ?_⟩, upM_eq, ?_⟩
  · simp (disch := decide) only [up_na, upM_eq]
  · simp (disch := decide) only [up_na]
    rw [s4 121 0 (by decide) (by decide), p1, u 134 0 (by decide), i1 0 (by decide)]; rfl
  · simp (disch := decide) only [up_na]
    rw [s4 122 0 (by decide) (by decide), p2, u 134 _ (by decide), i1 _ (by decide)]; rfl
  · simp (disch := decide) only [up_na]
    rw [s4 123 0 (by decide) (by decide), p3, u 134 _ (by decide), i1 _ (by decide)]; rfl
  · simp (disch := decide) only [up_na, upM_eq]
  · simp (disch := decide) only [up_na, upM_eq]
  · simp (disch := decide) only [up_na, upM_eq]
  · intro p hp
    simp (disch := decide) only [up_na]
    obtain ⟨y1, y2⟩ := q3 p hp
    rw [Nat.zero_add] at y1 y2
    have y3 := p4 p hp
    rw [u 134 _ (Or.inl (by decide)), i1 _ (by omega), show 0 + 3 + p = 3 + p by omega, snp_3] at y3
    rw [s4 120 p (by decide) (by decide), y3, f5 119 p (by omega) (by omega), y2, f3 136 _ (by omega), f2 136 _ (by omega), f1 136 _ (by omega), u 136 _ (Or.inl (by decide)), (i3 p hp).2, f5 118 p (by omega) (by omega), y1, f3 136 _ (by omega), f2 136 _ (by omega), f1 136 _ (by omega), u 136 _ (Or.inl (by decide)), (i3 p hp).1]
    exact ⟨rfl, rfl, rfl⟩
  · intro r hr
    have r5 : r < 5 := by omega
    simp (disch := decide) only [up_na]
    have y1 := q1 r r5
    rw [Nat.zero_add] at y1
    refine ⟨?_, fun k hk => ?_⟩
    · rw [f5 116 r (by omega) (by omega), f4 116 r (by omega) (by omega), f3 116 r (by omega), y1, f1 135 r (by omega), u 135 r (Or.inl (by decide))]
      exact (i2 r hr).1
    · have y2 := q2 (6 * r + k) (by omega)
      rw [Nat.zero_add] at y2
      rw [f5 117 _ (by omega) (by omega), f4 117 _ (by omega) (by omega), y2, f2 135 _ (by omega), f1 135 _ (by omega), u 135 _ (Or.inl (by decide))]
      exact (i2 r hr).2 k hk
  · intro j hj
    simp (disch := decide) only [up_na]
    obtain ⟨y1, y2⟩ := q4 j hj
    rw [Nat.zero_add] at y1 y2
    rw [y1, y2, f4 137 _ (by omega) (by omega), f3 137 _ (by omega), f2 137 _ (by omega), f1 137 _ (by omega), u 137 _ (Or.inl (by decide)), f4 137 _ (by omega) (by omega), f3 137 _ (by omega), f2 137 _ (by omega), f1 137 _ (by omega), u 137 _ (Or.inl (by decide))]
    exact i4 j hj
  · intro a j h1 h2
    rw [upM_ne a j (by omega), upM_ne a j (by omega), upM_ne a j (by omega), upM_ne a j (by omega), upM_ne a j (by omega), s a j (by omega) (by omega), u a j (by omega)]
theorem al_back {X : MM} (hX : AL X) : AN (f_X11_back X) (fun m => f_X12_back m) := by
  have hX0 := hX
  obtain ⟨h, H, LV, S, g, x⟩ := hX
  have hh := g.1.1
  obtain ⟨⟨x5, x5b⟩, x6, x7⟩ := x.2.2.2.2.1
  unfold f_X11_back
  by_cases q : X 0 7 = 0
  · refine ⟨-1, X, upM X 88 2 0, by rw [if_pos q], ?_, al_thr hX0⟩
    show f_X12_back X = _
    unfold f_X12_back
    rw [bM_eq, if_pos (show upM X 88 2 0 88 87 = 0 by rw [up_ni (by decide), ← x5]; exact q)]
  have q1 : X 0 7 = 1 := x5b.resolve_left q
  obtain ⟨J, j1, j2, j3, j4, j5, j6⟩ := x7 q1
  rw [if_neg q]
  obtain ⟨M1, e1, c1, f1⟩ := c_copy (a0 := 54) (a1 := 62) (by decide) (by decide) (by decide) j1 g.1.2.2.2.2 hh j5 j3.2.2.2.1 j3.2.2.2.2.2.2.2.1
  have et : upM M1 84 0 0 54 2 = J 0 2 := by
    rw [up_na (by decide)]
    have : M1 54 2 = cpS J S 0 2 := c1.at0
    rw [this, cp_0 (by decide)]
  have hi : ∀ a, 88 ≤ a → upM M1 84 0 0 a = X a := fun a ha => by rw [up_row (by omega), f1 a (by omega)]
  have h5 := g.2.2.1.1.1
  have im : IMG (upM M1 84 0 0) H J := by
    unfold IMG at *
    rw [hi 134 (by decide), hi 135 (by decide), hi 136 (by decide), hi 137 (by decide), hi 138 (by decide)]
    exact j2
  obtain ⟨N1, e2, cm, e85, f2⟩ := m_back im h5.2 j3 (by rw [hi 88 (by decide), ← x5]; exact q1)
  have low : ∀ a, a < 88 → N1 a = upM M1 84 0 0 a := fun a ha => funext fun j => f2 a j (by omega) (Or.inl (by omega))
  have lowX : ∀ a, a < 88 → a ≠ 84 → (a < 54 ∨ 61 < a) → N1 a = X a := fun a h1 h2 h3 => by rw [low a h1, up_row h2, f1 a (by omega)]
  have hiX : ∀ a j, 88 ≤ a → ¬ (116 ≤ a ∧ a ≤ 129) → a ≠ 88 ∨ (j ≠ 2 ∧ j ≠ 85) → N1 a j = X a j := fun a j h1 h2 h3 => by rw [f2 a j h2 h3, hi a h1]
  obtain ⟨⟨a1, a2, a3, a4, a5⟩, ⟨b1, b2, b3⟩, ⟨c1', c2, c3, c4, c5, c6⟩, d1, d2, d3⟩ := g
  obtain ⟨s1, s2⟩ := SOK_cp (T := S) j3 j4 (d2 7 (by decide))
  refine ⟨J 0 2, upM M1 84 0 0, N1, by rw [e1, Option.bind_some, bM_eq, et], e2, h, H, LV, cpS J S, ?_, ?_⟩
  · refine ⟨⟨a1, by rw [lowX 0 (by decide) (by decide) (by decide)]; exact a2, fun k k1 k2 k3 => by rw [lowX (h + k) (by omega) (by omega) (by omega)]; exact a3 k k1 k2 k3, fun m hm w hw hn => a4 m (fun k u1 u2 => by rw [hm k u1 u2, lowX (h + k) (by omega) (by omega) (by omega)]) w hw hn, fun k hk => by rw [low (54 + k) (by omega), up_row (by omega)]; exact c1 k hk⟩, ⟨?_, ?_, ?_⟩, ⟨c1', c2, c3, s1, s2, (cp_0 (by decide)).trans j5⟩, fun j hj => by rw [cp_1]; exact d1 j hj, fun j hj => by rw [cp_1]; exact d2 j hj, by rw [cp_0 (by decide)]; exact j6⟩
    · have fa : ∀ a j, 92 ≤ a → a ≤ 105 → N1 a j = X a j := fun a j u1 u2 => hiX a j (by omega) (by omega) (Or.inl (by omega))
      have f8 : ∀ j, 12 ≤ j → j ≤ 16 → N1 88 j = X 88 j := fun j u1 u2 => hiX 88 j (by omega) (by omega) (Or.inr (by omega))
      unfold HM at *
      simp (disch := decide) only [fa, f8]
      exact b1
    · intro n' hn w hw ok
      have e : ∀ a, 106 ≤ a → a ≤ 111 → N1 a = X a := fun a u1 u2 => funext fun j => hiX a j (by omega) (by omega) (Or.inl (by omega))
      have := b2 n' (fun a j x => (hn a j x).trans (congrFun (e a (by omega) (by omega)) j)) w hw ok
      rw [e 106 (by omega) (by omega)]
      exact this
    · obtain ⟨g1, g2, g3, g4⟩ := cm
      refine ⟨?_, fun p hp => ?_, fun r hr => ?_, fun j hj => ?_⟩
      · rw [cp_0 (by decide), cp_0 (by decide), cp_0 (by decide), cp_0 (by decide), cp_0 (by decide), cp_0 (by decide), cp_0 (by decide)]
        exact g1
      · rw [cp_5 ⟨by decide, hp⟩, cp_5 ⟨by decide, hp⟩, cp_5 ⟨by decide, hp⟩]
        exact g2 p hp
      · rw [cp_30 (by omega)]
        refine ⟨(g3 r hr).1, fun k hk => ?_⟩
        rw [cp_30 (by omega)]
        exact (g3 r hr).2 k hk
      · rw [cp_24 ⟨by decide, hj⟩, cp_24 ⟨by decide, hj⟩]
        exact g4 j hj
  · have e84 : N1 84 0 = 0 := by rw [low 84 (by decide), upM_eq]
    refine x.par2 (fun a ha => lowX a (by omega) (by omega) (by omega)) (fun j hj => hiX 88 j (by omega) (by omega) (by omega)) (fun a j ha => hiX a j (by omega) (by omega) (Or.inl (by omega))) ⟨⟨by rw [e84, e85], by rw [e84]; decide, by rw [e84]; decide⟩, fun k hk => ?_⟩
    rw [e84] at hk
    omega
end BACK
