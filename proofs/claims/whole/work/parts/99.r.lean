section LINES5
variable {M N : MM} {n t g : Nat}
theorem upN_id {a i : Nat} : upM M a i (M a i) = M := by
  funext b j
  unfold upM
  split
  · rename_i h; rw [h.1, h.2]
  · rfl
theorem RT'.upN (k : RT' M N n t) {a2 j : Nat} {w : Int} (h2 : a2 ≠ 89 ∧ a2 ≠ 90 ∧ ¬ (a2 = 88 ∧ 6 ≤ j ∧ j ≤ 10)) : RT' M (upM N a2 j w) n t := by
  have := k.up (a1 := 2) (i := 2) (v := M 2 2) (a2 := a2) (j := j) (w := w) (by decide) h2
  rw [upN_id] at this
  exact this
theorem RT'.upC (k : RT' M N n t) {a1 i : Nat} {v : Int} (h1 : a1 ≠ 1 ∧ a1 ≠ 3 ∧ a1 ≠ 4) : RT' (upM M a1 i v) N n t := by
  have := k.up (a1 := a1) (i := i) (v := v) (a2 := 91) (j := 9) (w := N 91 9) h1 (by decide)
  rw [upN_id] at this
  exact this
theorem q_knobLine (k : RT' M N n t) (rd : RD M N g) : LN g n t M N (f_X7_readKnob M) (f_X12_knobLine N) := by
  obtain ⟨⟨r1, r2⟩, ⟨r3, r4, r5⟩, R3, R4, R5, R6, ⟨R7a, R7b, R7c⟩, R8, R9, R10, R11⟩ := id rd
  unfold f_X7_readKnob f_X12_knobLine
  rw [r1, gH_h r2, R6.2.1]
  by_cases q : M g 12 = 0
  rotate_left
  · rw [if_neg q, if_neg q]
    exact LN.f k.2.1 CF.rf.l NF.rf.l
  rw [if_pos q, if_pos q, bM_eq (upM N 91 0 1)]
  obtain ⟨M1, N1, e1, e2, ⟨s1, k1, _, t1⟩, f1, f1'⟩ := (k.upN (a2 := 91) (j := 0) (w := 1) (by decide)).next
  rw [e1, e2, Option.bind_some, Option.bind_some]
  have G1' : LNF 0 N N1 := LNF.tr (NF.rf.l.up (by omega)) f1'.c.l
  rcases q_num k1 (lo := 5) (hi := 30) (by decide) (by decide) with ⟨M2, N2, e3, e4, fl, c1, c2⟩ | ⟨M2, N2, e3, e4, ⟨⟨s2, t2, k2⟩, v1, v1a, v1b, _⟩, c1, c1'⟩
  · exact Or.inl ⟨M2, N2, by rw [e3]; rfl, by rw [e4]; rfl, fl, (f1.c.l).tr c1.l, G1'.tr c2.l⟩
  have g2 : M2 2 2 = (g : Int) := by rw [c1 2 2 (by omega) (by omega), f1 2 2 (by omega)]; exact r1
  rw [e3, e4, Option.bind_some, Option.bind_some]
  try dsimp +instances only
  rw [if_neg (show ¬ (1 : Int) = 0 by decide), if_neg (show ¬ (1 : Int) = 0 by decide), g2, gH_h r2, ← v1, bM_eq (upM M2 g 9 _), bM_eq (upM N2 92 3 _)]
  have F2 : LCF 0 g M (upM M2 g 9 (M2 2 3)) := (f1.c.l.tr c1.l).up (by omega)
  have F2' : LNF 0 N (upM N2 92 3 (M2 2 3)) := (G1'.tr c1'.l).up (by omega)
  have rn : RN (upM M2 g 9 (M2 2 3)) (upM N2 92 3 (M2 2 3)) g := rd.rn.cg (by rw [upM_ne 2 2 (by omega), g2, r1]) (by rw [upM_ne (g + 1) 0 (by omega), c1 (g + 1) 0 (by omega) (by omega), f1 (g + 1) 0 (by omega)]) (fun j => by rw [upM_ne (g + 2) j (by omega), c1 (g + 2) j (by omega) (by omega), f1 (g + 2) j (by omega)]) (by rw [up_na (by decide), c1' 88 17 (by omega), f1' 88 17 (by omega), up_na (by decide)]) (fun j => by rw [up_na (by decide), c1' 93 j (by omega), f1' 93 j (by omega), up_na (by decide)])
  have k2' := k2.up (a1 := g) (i := 9) (v := M2 2 3) (a2 := 92) (j := 3) (w := M2 2 3) (by omega) (by decide)
  rcases q_roomT k2' rn with ⟨M3, N3, e5, e6, fl, d1, d2⟩ | ⟨M3, N3, e5, e6, ⟨s3, t3, k3⟩, ⟨v2, v2a, v2b⟩, ⟨d1, _⟩, d1'⟩
  · exact Or.inl ⟨M3, N3, by rw [e5]; rfl, by rw [e6]; rfl, fl, F2.tr d1.l, F2'.tr d2.l⟩
  have g3 : M3 2 2 = (g : Int) := by rw [d1 2 2 (by omega) (by omega), upM_ne 2 2 (by omega)]; exact g2
  rw [e5, e6, Option.bind_some, Option.bind_some]
  try dsimp +instances only
  rw [if_neg (show ¬ (1 : Int) = 0 by decide), if_neg (show ¬ (1 : Int) = 0 by decide), g3, gH_h r2, ← v2]
  simp only [bM_eq]
  rw [upM_ne 2 2 (by omega), g3, gH_h r2]
  have sz1 : upM M2 g 9 (M2 2 3) (g + 1) 0 = M (g + 1) 0 := by rw [upM_ne (g + 1) 0 (by omega), c1 (g + 1) 0 (by omega) (by omega), f1 (g + 1) 0 (by omega)]
  rw [sz1] at v2b
  have hc : ∀ a j, ¬ (a = 2 ∧ 3 ≤ j) → ¬ (a = 3 ∧ 3 ≤ j ∧ j ≤ 6) → ¬ (a = g ∧ (j = 9 ∨ j = 10 ∨ j = 12)) → upM (upM M3 g 10 (M3 2 4)) g 12 1 a j = M a j := fun a j h1 h2 h3 => by
    rw [upM_ne a j (by omega), upM_ne a j (by omega), d1 a j (by omega) h2, upM_ne a j (by omega), c1 a j (by omega) h2, f1 a j h2]
  have hn : ∀ a j, ¬ (a = 88 ∧ 4 ≤ j ∧ j ≤ 11 ∧ j ≠ 6) → ¬ (a = 91 ∧ j = 0) → ¬ (a = 92 ∧ (j = 3 ∨ j = 4)) → upM N3 92 4 (M3 2 4) a j = N a j := fun a j h1 h2 h3 => by
    rw [upM_ne a j (by omega), d1' a j (by omega), upM_ne a j (by omega), c1' a j (by omega), f1' a j (by omega), upM_ne a j h2]
  have z9 : upM (upM M3 g 10 (M3 2 4)) g 12 1 g 9 = M2 2 3 := by rw [up_ni (by decide), up_ni (by decide), d1 g 9 (by omega) (by omega), upM_eq]
  have z10 : upM (upM M3 g 10 (M3 2 4)) g 12 1 g 10 = M3 2 4 := by rw [up_ni (by decide), upM_eq]
  have z12 : upM (upM M3 g 10 (M3 2 4)) g 12 1 g 12 = 1 := upM_eq
  have z91 : upM N3 92 4 (M3 2 4) 91 0 = 1 := by rw [up_na (by decide), d1' 91 0 (by omega), up_na (by decide), c1' 91 0 (by omega), f1' 91 0 (by omega), upM_eq]
  have z923 : upM N3 92 4 (M3 2 4) 92 3 = M2 2 3 := by rw [up_ni (by decide), d1' 92 3 (by omega), upM_eq]
  have z924 : upM N3 92 4 (M3 2 4) 92 4 = M3 2 4 := upM_eq
  have F : LCF 0 g M (upM (upM M3 g 10 (M3 2 4)) g 12 1) := ((F2.tr d1.l).up (by omega)).up (by omega)
  have F' : LNF 0 N (upM N3 92 4 (M3 2 4)) := (F2'.tr d1'.l).up (by omega)
  refine Or.inr ⟨_, _, rfl, rfl, ⟨⟨s3, by omega, ((k3.upC (by omega)).upC (by omega)).upN (by decide)⟩, ?_⟩, F, F'⟩
  have x22 : upM (upM M3 g 10 (M3 2 4)) g 12 1 2 2 = (g : Int) := by rw [hc 2 2 (by omega) (by omega) (by omega)]; exact r1
  have ha : ∀ a j, g ≤ a → a ≤ g + 22 → ¬ (a = g ∧ (j = 9 ∨ j = 10 ∨ j = 12)) → upM (upM M3 g 10 (M3 2 4)) g 12 1 a j = M a j := fun a j h1 h2 h3 => hc a j (by omega) (by omega) h3
  have hd : ∀ a j, 91 ≤ a → a ≤ 105 → ¬ ((a = 91 ∧ j = 0) ∨ (a = 92 ∧ (j = 3 ∨ j = 4))) → upM N3 92 4 (M3 2 4) a j = N a j := fun a j h1 h2 h3 => hn a j (by omega) (by omega) (by omega)
  have hd8 : ∀ j, 17 ≤ j → j ≤ 20 → j ≠ 99 → upM N3 92 4 (M3 2 4) 88 j = N 88 j := fun j h1 h2 _ => hn 88 j (by omega) (by omega) (by omega)
  generalize M3 2 4 = w2 at *
  generalize M2 2 3 = w1 at *
  generalize upM (upM M3 g 10 w2) g 12 1 = A' at ha z9 z10 z12 x22
  generalize upM N3 92 4 w2 = D' at hd hd8 z91 z923 z924
  refine ⟨⟨x22, r2⟩, ?_, ?_, ?_, ?_, ?_, ⟨?_, ?_, ?_⟩, ?_, ?_, ?_, ?_⟩
  · rw [ha (g + 1) 0 (by omega) (by omega) (by omega), hd8 17 (by decide) (by decide) (by decide)]; exact ⟨r3, r4, r5⟩
  · rw [ha (g + 6) 0 (by omega) (by omega) (by omega), hd8 18 (by decide) (by decide) (by decide)]; exact R3
  · rw [ha g 3 (by omega) (by omega) (by omega), hd8 19 (by decide) (by decide) (by decide)]; exact R4
  · rw [ha g 7 (by omega) (by omega) (by omega), hd8 20 (by decide) (by decide) (by decide)]; exact R5
  · rw [z12, z91, ha g 13 (by omega) (by omega) (by omega), hd 91 1 (by decide) (by decide) (by omega)]; exact ⟨Or.inr rfl, rfl, R6.2.2⟩
  · rw [z9, z923]; exact ⟨rfl, v1a, v1b⟩
  · rw [z10, z924, ha (g + 1) 0 (by omega) (by omega) (by omega)]; exact ⟨rfl, v2a, by omega, Or.inl v2b⟩
  · rw [ha g 11 (by omega) (by omega) (by omega), hd 92 5 (by decide) (by decide) (by omega)]; exact R7c
  · rw [ha (g + 1) 0 (by omega) (by omega) (by omega)]
    intro r hr
    rw [ha (g + 2) r (by omega) (by omega) (by omega), ha (g + 3) r (by omega) (by omega) (by omega), ha (g + 4) r (by omega) (by omega) (by omega), ha (g + 5) r (by omega) (by omega) (by omega), hd 93 _ (by decide) (by decide) (by omega), hd 94 _ (by decide) (by decide) (by omega), hd 95 _ (by decide) (by decide) (by omega), hd 96 _ (by decide) (by decide) (by omega)]
    exact R8 r hr
  · rw [ha (g + 6) 0 (by omega) (by omega) (by omega), ha (g + 1) 0 (by omega) (by omega) (by omega)]
    intro p hp
    rw [ha (g + 7) p (by omega) (by omega) (by omega), ha (g + 8) p (by omega) (by omega) (by omega), ha (g + 9) p (by omega) (by omega) (by omega), ha (g + 10) p (by omega) (by omega) (by omega), ha (g + 11) p (by omega) (by omega) (by omega), hd 97 _ (by decide) (by decide) (by omega), hd 98 _ (by decide) (by decide) (by omega), hd 99 _ (by decide) (by decide) (by omega), hd 100 _ (by decide) (by decide) (by omega), hd 101 _ (by decide) (by decide) (by omega)]
    exact R9 p hp
  · rw [ha g 3 (by omega) (by omega) (by omega)]
    intro s hs
    rw [ha (g + 19) s (by omega) (by omega) (by omega), ha (g + 20) s (by omega) (by omega) (by omega), ha (g + 21) s (by omega) (by omega) (by omega), hd 102 _ (by decide) (by decide) (by omega), hd 103 _ (by decide) (by decide) (by omega), hd 104 _ (by decide) (by decide) (by omega)]
    exact R10 s hs
  · rw [ha g 7 (by omega) (by omega) (by omega)]
    intro s hs
    rw [ha (g + 22) s (by omega) (by omega) (by omega), hd 105 _ (by decide) (by decide) (by omega)]
    exact R11 s hs
theorem q_sunLine (k : RT' M N n t) (rd : RD M N g) : LN g n t M N (f_X7_readSun M) (f_X12_sunLine N) := by
  obtain ⟨⟨r1, r2⟩, ⟨r3, r4, r5⟩, R3, R4, R5, R6, ⟨R7a, R7b, R7c⟩, R8, R9, R10, R11⟩ := id rd
  unfold f_X7_readSun f_X12_sunLine
  rw [r1, gH_h r2, bI_eq, ← R4.1]
  by_cases q : M g 3 < 4
  rotate_left
  · rw [if_neg q, if_pos (show M g 3 = 4 by omega)]
    exact LN.f k.2.1 CF.rf.l NF.rf.l
  rw [if_pos q, if_neg (show ¬ M g 3 = 4 by omega)]
  obtain ⟨m, hm⟩ := nat_of R4.2.1
  have m4 : m < 4 := by omega
  obtain ⟨M1, N1, e1, e2, ⟨s1, k1, _, t1⟩, f1, f1'⟩ := k.next
  have n19 : N1 88 19 = (m : Int) := by rw [f1' 88 19 (by omega), ← R4.1]; exact hm
  have w4 : w32 (4 + (m : Int)) = ((4 + m : Nat) : Int) := w32_i (by omega) (by omega)
  rw [e1, e2, Option.bind_some, Option.bind_some, hm, bI_eq, n19, w4]
  clear w4
  have z4 : 0 ≤ (m : Int) ∧ (m : Int) < 4 := by omega
  have z8 : 0 ≤ ((4 + m : Nat) : Int) ∧ ((4 + m : Nat) : Int) < 8 := by omega
  have g1 : M1 2 2 = (g : Int) := by rw [f1 2 2 (by omega)]; exact r1
  have rn : RN M1 N1 g := rd.rn.cg (by rw [g1, r1]) (f1 (g + 1) 0 (by omega)) (fun j => f1 (g + 2) j (by omega)) (f1' 88 17 (by omega)) (fun j => f1' 93 j (by omega))
  rcases q_roomT k1 rn with ⟨M2, N2, e3, e4, fl, c1, c2⟩ | ⟨M2, N2, e3, e4, ⟨s2, t2, k2⟩, ⟨v1, v1a, v1b⟩, ⟨c1, _⟩, c1'⟩
  · exact Or.inl ⟨M2, N2, by rw [e3]; rfl, by rw [e4]; rfl, fl, (f1.c.l).tr c1.l, (f1'.c.l).tr c2.l⟩
  have g2 : M2 2 2 = (g : Int) := by rw [c1 2 2 (by omega) (by omega)]; exact g1
  rw [e3, e4, Option.bind_some, Option.bind_some]
  try dsimp +instances only
  rw [if_neg (show ¬ (1 : Int) = 0 by decide), if_neg (show ¬ (1 : Int) = 0 by decide), g2, gH_h r2, gd_t z4, gd_t z8, ← v1, bM_eq (upM M2 (g + 19) _ _), bM_eq (upM N2 102 _ _), Int.toNat_natCast, Int.toNat_natCast, upM_ne 2 2 (by omega), g2, gH_h r2]
  have F2 : LCF 0 g M (upM M2 (g + 19) m (M2 2 4)) := (f1.c.l.tr c1.l).up (by omega)
  have F2' : LNF 0 N (upM N2 102 (4 + m) (M2 2 4)) := (f1'.c.l.tr c1'.l).up (by omega)
  have k2 := k2.up (a1 := g + 19) (i := m) (v := M2 2 4) (a2 := 102) (j := 4 + m) (w := M2 2 4) (by omega) (by omega)
  rcases q_into k2 (a1 := g + 20) (n1 := 4) (at' := m) (hi := 23) (by decide) m4 with ⟨M3, N3, e5, e6, fl, c2, c3⟩ | ⟨M3, N3, e5, e6, ⟨⟨s3, t3, k3⟩, v3, v3a, v3b⟩, c3, c3'⟩
  · exact Or.inl ⟨M3, N3, by rw [e5]; rfl, by rw [e6]; rfl, fl, F2.tr c2.l, F2'.tr c3.l⟩
  have g3 : upM M3 (g + 20) m (M3 2 3) 2 2 = (g : Int) := by rw [upM_ne 2 2 (by omega), c3 2 2 (by omega) (by omega), upM_ne 2 2 (by omega)]; exact g2
  rw [e5, e6, Option.bind_some, Option.bind_some]
  try dsimp +instances only
  rw [if_neg (show ¬ (1 : Int) = 0 by decide), if_neg (show ¬ (1 : Int) = 0 by decide), g3, gH_h r2, gd_t z8, ← v3, bM_eq (upM N3 103 _ _)]
  have F3 : LCF 0 g M (upM M3 (g + 20) m (M3 2 3)) := (F2.tr c3.l).up (by omega)
  have F3' : LNF 0 N (upM N3 103 (4 + m) (M3 2 3)) := (F2'.tr c3'.l).up (by omega)
  have k3 := k3.up (a1 := g + 20) (i := m) (v := M3 2 3) (a2 := 103) (j := 4 + m) (w := M3 2 3) (by omega) (by omega)
  rcases q_into k3 (a1 := g + 21) (n1 := 4) (at' := m) (hi := 99) (by decide) m4 with ⟨M4, N4, e7, e8, fl, c2, c4⟩ | ⟨M4, N4, e7, e8, ⟨⟨s4, t4, k4⟩, v4, v21a, v21b⟩, c4, c4'⟩
  · exact Or.inl ⟨M4, N4, by rw [e7]; rfl, by rw [e8]; rfl, fl, F3.tr c2.l, F3'.tr c4.l⟩
  have hc : ∀ a j, ¬ (a = 2 ∧ 3 ≤ j) → ¬ (a = 3 ∧ 3 ≤ j ∧ j ≤ 6) → ¬ (g + 19 ≤ a ∧ a ≤ g + 21 ∧ j = m) → upM M4 (g + 21) m (M4 2 3) a j = M a j := fun a j h1 h2 h3 => by
    rw [upM_ne a j (by omega), c4 a j (by omega) h2, upM_ne a j (by omega), c3 a j (by omega) h2, upM_ne a j (by omega), c1 a j (by omega) h2, f1 a j h2]
  have hn : ∀ a j, ¬ (a = 88 ∧ 4 ≤ j ∧ j ≤ 11 ∧ j ≠ 6) → ¬ (102 ≤ a ∧ a ≤ 104 ∧ j = 4 + m) → upM N4 104 (4 + m) (M4 2 3) a j = N a j := fun a j h1 h3 => by
    rw [upM_ne a j (by omega), c4' a j (by omega), upM_ne a j (by omega), c3' a j (by omega), upM_ne a j (by omega), c1' a j (by omega), f1' a j (by omega)]
  have g4 : upM M4 (g + 21) m (M4 2 3) 2 2 = (g : Int) := by rw [hc 2 2 (by omega) (by omega) (by omega)]; exact r1
  have m3 : upM M4 (g + 21) m (M4 2 3) g 3 = (m : Int) := by rw [hc g 3 (by omega) (by omega) (by omega)]; exact hm
  have n19' : upM N4 104 (4 + m) (M4 2 3) 88 19 = (m : Int) := by rw [hn 88 19 (by omega) (by omega), ← R4.1]; exact hm
  have wm := wi1 (k := m) (by omega)
  rw [e7, e8, Option.bind_some, Option.bind_some]
  try dsimp +instances only
  rw [if_neg (show ¬ (1 : Int) = 0 by decide), if_neg (show ¬ (1 : Int) = 0 by decide), gd_t z8, ← v4, Option.bind_some]
  try dsimp +instances only
  rw [if_neg (show ¬ (1 : Int) = 0 by decide), g4, gH_h r2, m3]
  simp only [bM_eq, gd_t (show (1 : Int) = 0 ∨ (1 : Int) = 1 from Or.inr rfl)]
  rw [n19', wm]
  clear wm
  have x19 : upM M4 (g + 21) m (M4 2 3) (g + 19) m = M2 2 4 := by rw [upM_ne (g + 19) m (by omega), c4 (g + 19) m (by omega) (by omega), upM_ne (g + 19) m (by omega), c3 (g + 19) m (by omega) (by omega), upM_eq]
  have x20 : upM M4 (g + 21) m (M4 2 3) (g + 20) m = M3 2 3 := by rw [upM_ne (g + 20) m (by omega), c4 (g + 20) m (by omega) (by omega), upM_eq]
  have x21 : upM M4 (g + 21) m (M4 2 3) (g + 21) m = M4 2 3 := upM_eq
  have y19 : upM N4 104 (4 + m) (M4 2 3) 102 (4 + m) = M2 2 4 := by rw [up_na (by decide), c4' 102 _ (by omega), up_na (by decide), c3' 102 _ (by omega), upM_eq]
  have y20 : upM N4 104 (4 + m) (M4 2 3) 103 (4 + m) = M3 2 3 := by rw [up_na (by decide), c4' 103 _ (by omega), upM_eq]
  have y21 : upM N4 104 (4 + m) (M4 2 3) 104 (4 + m) = M4 2 3 := upM_eq
  have F4 : LCF 0 g M (upM M4 (g + 21) m (M4 2 3)) := (F3.tr c4.l).up (by omega)
  have F4' : LNF 0 N (upM N4 104 (4 + m) (M4 2 3)) := (F3'.tr c4'.l).up (by omega)
  have k4 := k4.up (a1 := g + 21) (i := m) (v := M4 2 3) (a2 := 104) (j := 4 + m) (w := M4 2 3) (by omega) (by omega)
  refine Or.inr ⟨_, _, rfl, rfl, ⟨⟨s4, by omega, k4.up (by omega) (by decide)⟩, ?_⟩, F4.up (by omega), F4'.up (by omega)⟩
  generalize M4 2 3 = w4 at *
  generalize M3 2 3 = w3 at *
  generalize M2 2 4 = w2 at *
  generalize upM M4 (g + 21) m w4 = A at hc g4 x19 x20 x21
  generalize upM N4 104 (4 + m) w4 = D at hn y19 y20 y21
  have ha : ∀ a j, g ≤ a → a ≤ g + 22 → ¬ ((g + 19 ≤ a ∧ a ≤ g + 21 ∧ j = m) ∨ (a = g ∧ j = 3)) → upM A g 3 ((m : Int) + 1) a j = M a j := fun a j h1 h2 h3 => by rw [upM_ne a j (by omega), hc a j (by omega) (by omega) (by omega)]
  have hd : ∀ a j, 91 ≤ a → a ≤ 105 → ¬ (102 ≤ a ∧ a ≤ 104 ∧ j = 4 + m) → upM D 88 19 ((m : Int) + 1) a j = N a j := fun a j h1 h2 h3 => by rw [up_na (by omega), hn a j (by omega) h3]
  have hd8 : ∀ j, 17 ≤ j → j ≤ 20 → j ≠ 19 → upM D 88 19 ((m : Int) + 1) 88 j = N 88 j := fun j h1 h2 h3 => by rw [up_ni h3, hn 88 j (by omega) (by omega)]
  have sz : upM A g 3 ((m : Int) + 1) g 3 = (m : Int) + 1 := upM_eq
  have sz' : upM D 88 19 ((m : Int) + 1) 88 19 = (m : Int) + 1 := upM_eq
  have x22 : upM A g 3 ((m : Int) + 1) 2 2 = (g : Int) := by rw [upM_ne 2 2 (by omega)]; exact g4
  have ux : ∀ a j, a ≠ g → upM A g 3 ((m : Int) + 1) a j = A a j := fun a j h => up_na h
  have uy : ∀ a j, a ≠ 88 → upM D 88 19 ((m : Int) + 1) a j = D a j := fun a j h => up_na h
  rw [← ux (g + 19) m (by omega)] at x19
  rw [← ux (g + 20) m (by omega)] at x20
  rw [← ux (g + 21) m (by omega)] at x21
  rw [← uy 102 _ (by decide)] at y19
  rw [← uy 103 _ (by decide)] at y20
  rw [← uy 104 _ (by decide)] at y21
  clear ux uy
  generalize upM A g 3 ((m : Int) + 1) = A' at ha sz x22 x19 x20 x21
  generalize upM D 88 19 ((m : Int) + 1) = D' at hd hd8 sz' y19 y20 y21
  refine ⟨⟨x22, r2⟩, ?_, ?_, ?_, ?_, ?_, ⟨?_, ?_, ?_⟩, ?_, ?_, ?_, ?_⟩
  · rw [ha (g + 1) 0 (by omega) (by omega) (by omega), hd8 17 (by decide) (by decide) (by decide)]; exact ⟨r3, r4, r5⟩
  · rw [ha (g + 6) 0 (by omega) (by omega) (by omega), hd8 18 (by decide) (by decide) (by decide)]; exact R3
  · exact ⟨by rw [sz, sz'], by rw [sz]; omega, by rw [sz]; omega⟩
  · rw [ha g 7 (by omega) (by omega) (by omega), hd8 20 (by decide) (by decide) (by decide)]; exact R5
  · rw [ha g 12 (by omega) (by omega) (by omega), ha g 13 (by omega) (by omega) (by omega), hd 91 0 (by decide) (by decide) (by omega), hd 91 1 (by decide) (by decide) (by omega)]; exact R6
  · rw [ha g 9 (by omega) (by omega) (by omega), hd 92 3 (by decide) (by decide) (by omega)]; exact R7a
  · rw [ha g 10 (by omega) (by omega) (by omega), ha (g + 1) 0 (by omega) (by omega) (by omega), hd 92 4 (by decide) (by decide) (by omega)]; exact R7b
  · rw [ha g 11 (by omega) (by omega) (by omega), hd 92 5 (by decide) (by decide) (by omega)]; exact R7c
  · rw [ha (g + 1) 0 (by omega) (by omega) (by omega)]
    intro r hr
    rw [ha (g + 2) r (by omega) (by omega) (by omega), ha (g + 3) r (by omega) (by omega) (by omega), ha (g + 4) r (by omega) (by omega) (by omega), ha (g + 5) r (by omega) (by omega) (by omega), hd 93 _ (by decide) (by decide) (by omega), hd 94 _ (by decide) (by decide) (by omega), hd 95 _ (by decide) (by decide) (by omega), hd 96 _ (by decide) (by decide) (by omega)]
    exact R8 r hr
  · rw [ha (g + 6) 0 (by omega) (by omega) (by omega), ha (g + 1) 0 (by omega) (by omega) (by omega)]
    intro p hp
    rw [ha (g + 7) p (by omega) (by omega) (by omega), ha (g + 8) p (by omega) (by omega) (by omega), ha (g + 9) p (by omega) (by omega) (by omega), ha (g + 10) p (by omega) (by omega) (by omega), ha (g + 11) p (by omega) (by omega) (by omega), hd 97 _ (by decide) (by decide) (by omega), hd 98 _ (by decide) (by decide) (by omega), hd 99 _ (by decide) (by decide) (by omega), hd 100 _ (by decide) (by decide) (by omega), hd 101 _ (by decide) (by decide) (by omega)]
    exact R9 p hp
  · rw [sz]
    intro s hs
    by_cases e : s = m
    · subst e
      rw [x19, x20, x21, y19, y20, y21]
      exact ⟨⟨rfl, rfl, rfl⟩, ⟨v21a, v21b⟩⟩
    · rw [ha (g + 19) s (by omega) (by omega) (by omega), ha (g + 20) s (by omega) (by omega) (by omega), ha (g + 21) s (by omega) (by omega) (by omega), hd 102 _ (by decide) (by decide) (by omega), hd 103 _ (by decide) (by decide) (by omega), hd 104 _ (by decide) (by decide) (by omega)]
      exact R10 s (by omega)
  · rw [ha g 7 (by omega) (by omega) (by omega)]
    intro s hs
    rw [ha (g + 22) s (by omega) (by omega) (by omega), hd 105 _ (by decide) (by decide) (by omega)]
    exact R11 s hs
end LINES5
