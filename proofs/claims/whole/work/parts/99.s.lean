section LINES6
variable {M N : MM} {n t g : Nat}
theorem q_personLine (k : RT' M N n t) (rd : RD M N g) : LN g n t M N (f_X7_readPerson M) (f_X12_personLine N) := by
  obtain ⟨⟨r1, r2⟩, ⟨r3, r4, r5⟩, R3, R4, R5, R6, ⟨R7a, R7b, R7c⟩, R8, R9, R10, R11⟩ := id rd
  unfold f_X7_readPerson f_X12_personLine
  rw [r1, gH_h r2, bI_eq, ← R3.1]
  by_cases q : M (g + 6) 0 < 5
  rotate_left
  · rw [if_neg q, if_pos (show M (g + 6) 0 = 5 by omega)]
    exact LN.f k.2.1 CF.rf.l NF.rf.l
  rw [if_pos q, if_neg (show ¬ M (g + 6) 0 = 5 by omega)]
  obtain ⟨m, hm⟩ := nat_of R3.2.1
  have m5 : m < 5 := by omega
  obtain ⟨M1, N1, e1, e2, ⟨s1, k1, _, t1⟩, f1, f1'⟩ := k.next
  have n18 : N1 88 18 = (m : Int) := by rw [f1' 88 18 (by omega), ← R3.1]; exact hm
  rw [e1, e2, Option.bind_some, Option.bind_some, n18, hm]
  rcases q_newName k1 (a1 := g + 7) (a2 := 97) (m := m) m5 (by omega) (by decide) (fun j hj => by rw [f1' 97 _ (by omega), f1 (g + 7) j (by omega)]; exact (R9 j (by omega)).1.1) with ⟨M2, N2, e3, e4, fl, c1, c2⟩ | ⟨M2, N2, v7, e3, e4, ⟨s2, t2, k2⟩, f2, f2'⟩
  · exact Or.inl ⟨M2, N2, by rw [e3]; rfl, by rw [e4]; rfl, fl, (f1.c.l).tr c1.l, (f1'.c.l).tr c2.l⟩
  have z5 : 0 ≤ (m : Int) ∧ (m : Int) < 5 := by omega
  have z10 : 0 ≤ ((5 + m : Nat) : Int) ∧ ((5 + m : Nat) : Int) < 10 := by omega
  have n18b : N2 88 18 = (m : Int) := by rw [f2' 88 18 (by omega), up_na (by decide)]; exact n18
  have w5 : w32 (5 + (m : Int)) = ((5 + m : Nat) : Int) := w32_i (by omega) (by omega)
  rw [e3, e4, Option.bind_some, Option.bind_some]
  try dsimp +instances only
  rw [if_neg (show ¬ (1 : Int) = 0 by decide), if_neg (show ¬ (1 : Int) = 0 by decide), n18b, w5, bI_eq]
  clear w5
  have F2 : LCF 0 g M M2 := f1.c.l.tr (LCF.tr (CF.rf.l.up (by omega)) f2.c.l)
  have F2' : LNF 0 N N2 := f1'.c.l.tr (LNF.tr (NF.rf.l.up (by omega)) f2'.c.l)
  have cc2 : ∀ a j, ¬ (a = 3 ∧ 3 ≤ j ∧ j ≤ 6) → ¬ (a = g + 7 ∧ j = m) → M2 a j = M a j := fun a j h1 h2 => by rw [f2 a j h1, upM_ne a j h2, f1 a j h1]
  have nn2 : ∀ a j, ¬ (a = 88 ∧ 7 ≤ j ∧ j ≤ 10) → ¬ (a = 97 ∧ j = 5 + m) → N2 a j = N a j := fun a j h1 h2 => by rw [f2' a j h1, upM_ne a j h2, f1' a j h1]
  have rn : RN M2 N2 g := rd.rn.cg (cc2 2 2 (by omega) (by omega)) (cc2 (g + 1) 0 (by omega) (by omega)) (fun j => cc2 (g + 2) j (by omega) (by omega)) (nn2 88 17 (by omega) (by omega)) (fun j => nn2 93 j (by omega) (by omega))
  have sz1 : M2 (g + 1) 0 = M (g + 1) 0 := cc2 (g + 1) 0 (by omega) (by omega)
  have xx7 : M2 (g + 7) m = v7 := by rw [f2 (g + 7) m (by omega), upM_eq]
  have yy7 : N2 97 (5 + m) = v7 := by rw [f2' 97 _ (by omega), upM_eq]
  clear f1 f1' f2 f2' n18 e1 e2 e3 e4
  rcases q_roomT k2 rn with ⟨M3, N3, e5, e6, fl, c1, c2⟩ | ⟨M3, N3, e5, e6, ⟨s3, t3, k3⟩, ⟨v8, v8a, v8b⟩, ⟨c3, _⟩, c3'⟩
  · exact Or.inl ⟨M3, N3, by rw [e5]; rfl, by rw [e6]; rfl, fl, F2.tr c1.l, F2'.tr c2.l⟩
  rw [sz1] at v8b
  rw [e5, e6, Option.bind_some, Option.bind_some]
  try dsimp +instances only
  rw [if_neg (show ¬ (1 : Int) = 0 by decide), if_neg (show ¬ (1 : Int) = 0 by decide), gd_t z5, gd_t z10, ← v8, bM_eq (upM M3 (g + 8) _ _), bM_eq (upM N3 98 _ _), Int.toNat_natCast, Int.toNat_natCast]
  have F3 : LCF 0 g M (upM M3 (g + 8) m (M3 2 4)) := (F2.tr c3.l).up (by omega)
  have F3' : LNF 0 N (upM N3 98 (5 + m) (M3 2 4)) := (F2'.tr c3'.l).up (by omega)
  have k3 := k3.up (a1 := g + 8) (i := m) (v := M3 2 4) (a2 := 98) (j := 5 + m) (w := M3 2 4) (by omega) (by omega)
  rcases q_into k3 (a1 := g + 9) (n1 := 5) (at' := m) (hi := 40) (by decide) m5 with ⟨M4, N4, e7, e8, fl, c1, c2⟩ | ⟨M4, N4, e7, e8, ⟨⟨s4, t4, k4⟩, v9, v9a, v9b⟩, c4, c4'⟩
  · exact Or.inl ⟨M4, N4, by rw [e7]; rfl, by rw [e8]; rfl, fl, F3.tr c1.l, F3'.tr c2.l⟩
  rw [e7, e8, Option.bind_some, Option.bind_some]
  try dsimp +instances only
  rw [if_neg (show ¬ (1 : Int) = 0 by decide), if_neg (show ¬ (1 : Int) = 0 by decide), gd_t z10, ← v9, bM_eq (upM N4 99 _ _)]
  have F4 : LCF 0 g M (upM M4 (g + 9) m (M4 2 3)) := (F3.tr c4.l).up (by omega)
  have F4' : LNF 0 N (upM N4 99 (5 + m) (M4 2 3)) := (F3'.tr c4'.l).up (by omega)
  have k4 := k4.up (a1 := g + 9) (i := m) (v := M4 2 3) (a2 := 99) (j := 5 + m) (w := M4 2 3) (by omega) (by omega)
  rcases q_into k4 (a1 := g + 10) (n1 := 5) (at' := m) (hi := 5) (by decide) m5 with ⟨M5, N5, e9, e10, fl, c1, c2⟩ | ⟨M5, N5, e9, e10, ⟨⟨s5, t5, k5⟩, v10, v10a, v10b⟩, c5, c5'⟩
  · exact Or.inl ⟨M5, N5, by rw [e9]; rfl, by rw [e10]; rfl, fl, F4.tr c1.l, F4'.tr c2.l⟩
  rw [e9, e10, Option.bind_some, Option.bind_some]
  try dsimp +instances only
  rw [if_neg (show ¬ (1 : Int) = 0 by decide), if_neg (show ¬ (1 : Int) = 0 by decide), gd_t z10, ← v10, bM_eq (upM N5 100 _ _)]
  have F5 : LCF 0 g M (upM M5 (g + 10) m (M5 2 3)) := (F4.tr c5.l).up (by omega)
  have F5' : LNF 0 N (upM N5 100 (5 + m) (M5 2 3)) := (F4'.tr c5'.l).up (by omega)
  have k5 := k5.up (a1 := g + 10) (i := m) (v := M5 2 3) (a2 := 100) (j := 5 + m) (w := M5 2 3) (by omega) (by omega)
  rcases q_into k5 (a1 := g + 11) (n1 := 5) (at' := m) (hi := 23) (by decide) m5 with ⟨M6, N6, e11, e12, fl, c1, c2⟩ | ⟨M6, N6, e11, e12, ⟨⟨s6, t6, k6⟩, v11, v11a, v11b⟩, c6, c6'⟩
  · exact Or.inl ⟨M6, N6, by rw [e11]; rfl, by rw [e12]; rfl, fl, F5.tr c1.l, F5'.tr c2.l⟩
  have hc : ∀ a j, ¬ (a = 2 ∧ 3 ≤ j) → ¬ (a = 3 ∧ 3 ≤ j ∧ j ≤ 6) → ¬ (g + 7 ≤ a ∧ a ≤ g + 11 ∧ j = m) → upM M6 (g + 11) m (M6 2 3) a j = M a j := fun a j h1 h2 h3 => by
    rw [upM_ne a j (by omega), c6 a j (by omega) h2, upM_ne a j (by omega), c5 a j (by omega) h2, upM_ne a j (by omega), c4 a j (by omega) h2, upM_ne a j (by omega), c3 a j (by omega) h2, cc2 a j h2 (by omega)]
  have hn : ∀ a j, ¬ (a = 88 ∧ 4 ≤ j ∧ j ≤ 11 ∧ j ≠ 6) → ¬ (97 ≤ a ∧ a ≤ 101 ∧ j = 5 + m) → upM N6 101 (5 + m) (M6 2 3) a j = N a j := fun a j h1 h3 => by
    rw [upM_ne a j (by omega), c6' a j (by omega), upM_ne a j (by omega), c5' a j (by omega), upM_ne a j (by omega), c4' a j (by omega), upM_ne a j (by omega), c3' a j (by omega), nn2 a j (by omega) (by omega)]
  have g4 : upM M6 (g + 11) m (M6 2 3) 2 2 = (g : Int) := by rw [hc 2 2 (by omega) (by omega) (by omega)]; exact r1
  have m6 : upM M6 (g + 11) m (M6 2 3) (g + 6) 0 = (m : Int) := by rw [hc (g + 6) 0 (by omega) (by omega) (by omega)]; exact hm
  have n18' : upM N6 101 (5 + m) (M6 2 3) 88 18 = (m : Int) := by rw [hn 88 18 (by omega) (by omega), ← R3.1]; exact hm
  have wm := wi1 (k := m) (by omega)
  rw [e11, e12, Option.bind_some, Option.bind_some]
  try dsimp +instances only
  rw [if_neg (show ¬ (1 : Int) = 0 by decide), if_neg (show ¬ (1 : Int) = 0 by decide), gd_t z10, ← v11, Option.bind_some]
  try dsimp +instances only
  rw [if_neg (show ¬ (1 : Int) = 0 by decide), m6]
  simp only [bM_eq, gd_t (show (1 : Int) = 0 ∨ (1 : Int) = 1 from Or.inr rfl)]
  rw [n18', wm]
  clear wm
  have x7 : upM M6 (g + 11) m (M6 2 3) (g + 7) m = v7 := by rw [upM_ne (g + 7) m (by omega), c6 (g + 7) m (by omega) (by omega), upM_ne (g + 7) m (by omega), c5 (g + 7) m (by omega) (by omega), upM_ne (g + 7) m (by omega), c4 (g + 7) m (by omega) (by omega), upM_ne (g + 7) m (by omega), c3 (g + 7) m (by omega) (by omega)]; exact xx7
  have x8 : upM M6 (g + 11) m (M6 2 3) (g + 8) m = M3 2 4 := by rw [upM_ne (g + 8) m (by omega), c6 (g + 8) m (by omega) (by omega), upM_ne (g + 8) m (by omega), c5 (g + 8) m (by omega) (by omega), upM_ne (g + 8) m (by omega), c4 (g + 8) m (by omega) (by omega), upM_eq]
  have x9 : upM M6 (g + 11) m (M6 2 3) (g + 9) m = M4 2 3 := by rw [upM_ne (g + 9) m (by omega), c6 (g + 9) m (by omega) (by omega), upM_ne (g + 9) m (by omega), c5 (g + 9) m (by omega) (by omega), upM_eq]
  have x10 : upM M6 (g + 11) m (M6 2 3) (g + 10) m = M5 2 3 := by rw [upM_ne (g + 10) m (by omega), c6 (g + 10) m (by omega) (by omega), upM_eq]
  have x11 : upM M6 (g + 11) m (M6 2 3) (g + 11) m = M6 2 3 := upM_eq
  have y7 : upM N6 101 (5 + m) (M6 2 3) 97 (5 + m) = v7 := by rw [up_na (by decide), c6' 97 _ (by omega), up_na (by decide), c5' 97 _ (by omega), up_na (by decide), c4' 97 _ (by omega), up_na (by decide), c3' 97 _ (by omega)]; exact yy7
  have y8 : upM N6 101 (5 + m) (M6 2 3) 98 (5 + m) = M3 2 4 := by rw [up_na (by decide), c6' 98 _ (by omega), up_na (by decide), c5' 98 _ (by omega), up_na (by decide), c4' 98 _ (by omega), upM_eq]
  have y9 : upM N6 101 (5 + m) (M6 2 3) 99 (5 + m) = M4 2 3 := by rw [up_na (by decide), c6' 99 _ (by omega), up_na (by decide), c5' 99 _ (by omega), upM_eq]
  have y10 : upM N6 101 (5 + m) (M6 2 3) 100 (5 + m) = M5 2 3 := by rw [up_na (by decide), c6' 100 _ (by omega), upM_eq]
  have y11 : upM N6 101 (5 + m) (M6 2 3) 101 (5 + m) = M6 2 3 := upM_eq
  have F6 : LCF 0 g M (upM M6 (g + 11) m (M6 2 3)) := (F5.tr c6.l).up (by omega)
  have F6' : LNF 0 N (upM N6 101 (5 + m) (M6 2 3)) := (F5'.tr c6'.l).up (by omega)
  have k6 := k6.up (a1 := g + 11) (i := m) (v := M6 2 3) (a2 := 101) (j := 5 + m) (w := M6 2 3) (by omega) (by omega)
  refine Or.inr ⟨_, _, rfl, rfl, ⟨⟨s6, by omega, k6.up (by omega) (by decide)⟩, ?_⟩, F6.up (by omega), F6'.up (by omega)⟩
  clear k k1 k2 k3 k4 k5 k6 F2 F2' F3 F3' F4 F4' F5 F5' F6 F6' c3 c3' c4 c4' c5 c5' c6 c6' cc2 nn2 t1 t2 t3 t4 t5 t6 rn sz1 e5 e6 e7 e8 e9 e10 e11 e12 xx7 yy7 n18b
  generalize M6 2 3 = w6 at *
  generalize M5 2 3 = w5 at *
  generalize M4 2 3 = w4 at *
  generalize M3 2 4 = w3 at *
  generalize upM M6 (g + 11) m w6 = A at hc g4 x7 x8 x9 x10 x11
  generalize upM N6 101 (5 + m) w6 = D at hn y7 y8 y9 y10 y11
  have ha : ∀ a j, g ≤ a → a ≤ g + 22 → ¬ ((g + 7 ≤ a ∧ a ≤ g + 11 ∧ j = m) ∨ (a = g + 6 ∧ j = 0)) → upM A (g + 6) 0 ((m : Int) + 1) a j = M a j := fun a j h1 h2 h3 => by rw [upM_ne a j (by omega), hc a j (by omega) (by omega) (by omega)]
  have hd : ∀ a j, 91 ≤ a → a ≤ 105 → ¬ (97 ≤ a ∧ a ≤ 101 ∧ j = 5 + m) → upM D 88 18 ((m : Int) + 1) a j = N a j := fun a j h1 h2 h3 => by rw [up_na (by omega), hn a j (by omega) h3]
  have hd8 : ∀ j, 17 ≤ j → j ≤ 20 → j ≠ 18 → upM D 88 18 ((m : Int) + 1) 88 j = N 88 j := fun j h1 h2 h3 => by rw [up_ni h3, hn 88 j (by omega) (by omega)]
  have sz : upM A (g + 6) 0 ((m : Int) + 1) (g + 6) 0 = (m : Int) + 1 := upM_eq
  have sz' : upM D 88 18 ((m : Int) + 1) 88 18 = (m : Int) + 1 := upM_eq
  have x22 : upM A (g + 6) 0 ((m : Int) + 1) 2 2 = (g : Int) := by rw [upM_ne 2 2 (by omega)]; exact g4
  have ux : ∀ a j, a ≠ g + 6 → upM A (g + 6) 0 ((m : Int) + 1) a j = A a j := fun a j h => up_na h
  have uy : ∀ a j, a ≠ 88 → upM D 88 18 ((m : Int) + 1) a j = D a j := fun a j h => up_na h
  rw [← ux (g + 7) m (by omega)] at x7
  rw [← ux (g + 8) m (by omega)] at x8
  rw [← ux (g + 9) m (by omega)] at x9
  rw [← ux (g + 10) m (by omega)] at x10
  rw [← ux (g + 11) m (by omega)] at x11
  rw [← uy 97 _ (by decide)] at y7
  rw [← uy 98 _ (by decide)] at y8
  rw [← uy 99 _ (by decide)] at y9
  rw [← uy 100 _ (by decide)] at y10
  rw [← uy 101 _ (by decide)] at y11
  clear ux uy hc hn
  generalize upM A (g + 6) 0 ((m : Int) + 1) = A' at ha sz x22 x7 x8 x9 x10 x11
  generalize upM D 88 18 ((m : Int) + 1) = D' at hd hd8 sz' y7 y8 y9 y10 y11
  refine ⟨⟨x22, r2⟩, ?_, ?_, ?_, ?_, ?_, ⟨?_, ?_, ?_⟩, ?_, ?_, ?_, ?_⟩
  · rw [ha (g + 1) 0 (by omega) (by omega) (by omega), hd8 17 (by decide) (by decide) (by decide)]; exact ⟨r3, r4, r5⟩
  · exact ⟨by rw [sz, sz'], by rw [sz]; omega, by rw [sz]; omega⟩
  · rw [ha g 3 (by omega) (by omega) (by omega), hd8 19 (by decide) (by decide) (by decide)]; exact R4
  · rw [ha g 7 (by omega) (by omega) (by omega), hd8 20 (by decide) (by decide) (by decide)]; exact R5
  · rw [ha g 12 (by omega) (by omega) (by omega), ha g 13 (by omega) (by omega) (by omega), hd 91 0 (by decide) (by decide) (by omega), hd 91 1 (by decide) (by decide) (by omega)]; exact R6
  · rw [ha g 9 (by omega) (by omega) (by omega), hd 92 3 (by decide) (by decide) (by omega)]; exact R7a
  · rw [ha g 10 (by omega) (by omega) (by omega), ha (g + 1) 0 (by omega) (by omega) (by omega), hd 92 4 (by decide) (by decide) (by omega)]; exact R7b
  · rw [ha g 11 (by omega) (by omega) (by omega), hd 92 5 (by decide) (by decide) (by omega)]; exact R7c
  · rw [ha (g + 1) 0 (by omega) (by omega) (by omega)]
    intro r hr
    rw [ha (g + 2) r (by omega) (by omega) (by omega), ha (g + 3) r (by omega) (by omega) (by omega), ha (g + 4) r (by omega) (by omega) (by omega), ha (g + 5) r (by omega) (by omega) (by omega), hd 93 _ (by decide) (by decide) (by omega), hd 94 _ (by decide) (by decide) (by omega), hd 95 _ (by decide) (by decide) (by omega), hd 96 _ (by decide) (by decide) (by omega)]
    exact R8 r hr
  · rw [sz, ha (g + 1) 0 (by omega) (by omega) (by omega)]
    intro p hp
    by_cases e : p = m
    · subst e
      rw [x7, x8, x9, x10, x11, y7, y8, y9, y10, y11]
      exact ⟨⟨rfl, rfl, rfl, rfl, rfl⟩, ⟨v8a, v8b⟩, ⟨v9a, v9b⟩, ⟨v10a, v10b⟩, ⟨v11a, v11b⟩⟩
    · rw [ha (g + 7) p (by omega) (by omega) (by omega), ha (g + 8) p (by omega) (by omega) (by omega), ha (g + 9) p (by omega) (by omega) (by omega), ha (g + 10) p (by omega) (by omega) (by omega), ha (g + 11) p (by omega) (by omega) (by omega), hd 97 _ (by decide) (by decide) (by omega), hd 98 _ (by decide) (by decide) (by omega), hd 99 _ (by decide) (by decide) (by omega), hd 100 _ (by decide) (by decide) (by omega), hd 101 _ (by decide) (by decide) (by omega)]
      exact R9 p (by omega)
  · rw [ha g 3 (by omega) (by omega) (by omega)]
    intro s hs
    rw [ha (g + 19) s (by omega) (by omega) (by omega), ha (g + 20) s (by omega) (by omega) (by omega), ha (g + 21) s (by omega) (by omega) (by omega), hd 102 _ (by decide) (by decide) (by omega), hd 103 _ (by decide) (by decide) (by omega), hd 104 _ (by decide) (by decide) (by omega)]
    exact R10 s hs
  · rw [ha g 7 (by omega) (by omega) (by omega)]
    intro s hs
    rw [ha (g + 22) s (by omega) (by omega) (by omega), hd 105 _ (by decide) (by decide) (by omega)]
    exact R11 s hs
end LINES6
