/-- what a told room rests on -/
def RN (M N : MM) (g : Nat) : Prop := (M 2 2 = (g : Int) ∧ (g = 8 ∨ g = 31)) ∧ (M (g + 1) 0 = N 88 17 ∧ 0 ≤ M (g + 1) 0 ∧ M (g + 1) 0 ≤ 5) ∧ ∀ r : Nat, (r : Int) < M (g + 1) 0 → N 93 (5 + r) = M (g + 2) r
section LINES4
variable {M N : MM} {n t g : Nat}
theorem RD.rn (rd : RD M N g) : RN M N g := by
  obtain ⟨r1, r3, _, _, _, _, _, R8, _⟩ := rd
  exact ⟨r1, r3, fun r hr => (R8 r hr).1.1⟩
theorem RN.cg {M' N' : MM} (x : RN M N g) (h1 : M' 2 2 = M 2 2) (h2 : M' (g + 1) 0 = M (g + 1) 0) (h3 : ∀ j, M' (g + 2) j = M (g + 2) j) (h4 : N' 88 17 = N 88 17) (h5 : ∀ j, N' 93 j = N 93 j) : RN M' N' g := by
  unfold RN at *
  rw [h1, h2, h4]
  simp only [h3, h5]
  exact x
theorem q_roomT (k : RT' M N n t) (rd : RN M N g) : (∃ M' N', f_X7_readToldRoom M = some (0, M') ∧ f_X12_roomThere N = some (0, N') ∧ FL M' N' ∧ CF 1 M' M ∧ NF 1 N' N) ∨ ∃ M' N', f_X7_readToldRoom M = some (1, M') ∧ f_X12_roomThere N = some (1, N') ∧ (∃ s, t ≤ s ∧ RT' M' N' n s) ∧ (M' 2 4 = N' 88 11 ∧ 0 ≤ M' 2 4 ∧ M' 2 4 < M (g + 1) 0) ∧ (CF 0 M' M ∧ M' 2 3 = M 2 3) ∧ NF 0 N' N := by
  obtain ⟨k1, k2, k3⟩ := id k
  obtain ⟨n1, n2, n3, n4, n5⟩ := KR_n k3
  obtain ⟨⟨r1, r2⟩, ⟨r3, r4, r5⟩, hr⟩ := rd
  obtain ⟨r, f1, f2, f3⟩ := q_find (M := M) (N := N) (a1 := g + 2) (n1 := 5) (a2 := 93) (n2 := 10) (from2 := 5) (p := M 3 5) (sz := M (g + 1) 0) ⟨r4, r5⟩ (by decide) (by decide) (by decide) hr
  have f2 : f_X12_find N 93 10 5 (M (g + 1) 0) (M 3 5) = some r := f2
  unfold f_X7_readToldRoom f_X12_roomThere
  by_cases q : M 3 4 = 3
  · have ev := n5 q
    rw [if_pos q, if_pos (n2.mp q), ← ev, ← r3, r1, gH_h r2, gH_h r2, f1, f2, Option.bind_some, Option.bind_some, bM_eq (upM M 2 4 r), upM_eq]
    rcases f3 with ⟨g1, g2⟩ | ⟨j, g1, g2, g3⟩
    · left
      rw [if_pos g1, if_pos (show r < 0 by rw [g1]; decide)]
      have k2' : upM M 2 4 r 3 6 = N 88 10 := by rw [up_na (by decide)]; exact k2
      exact (OUT.fail k2' 4 (FC := fun u M' => CF u M' M) (FN := fun u N' => NF u N' N) (G := fun _ _ => False) (fun _ h => h.tr (CF.rf.up (by decide))) (fun _ h => h)).elim id (fun ⟨_, _, _, _, h, _⟩ => h.elim)
    · right
      rw [if_neg (show ¬ r = -1 by omega), if_neg (show ¬ r < 0 by omega)]
      obtain ⟨M1, N1, e1, e2, ⟨s, s1⟩, s2, s3⟩ := (k.up (a1 := 2) (i := 4) (v := r) (a2 := 91) (j := 7) (w := N 91 7) (by decide) (by decide)).next
      have eN : upM N 91 7 (N 91 7) = N := by
        funext a i
        unfold upM
        split
        · rename_i h; rw [h.1, h.2]
        · rfl
      rw [eN] at e2 s3
      rw [e1, e2, Option.bind_some, Option.bind_some, bM_eq]
      have m24 : M1 2 4 = r := by rw [s2 2 4 (by omega), upM_eq]
      refine ⟨M1, upM N1 88 11 r, rfl, rfl, ⟨s, s1.2.2, ?_⟩, ⟨by rw [m24, upM_eq], by rw [m24]; omega, by rw [m24]; omega⟩, ⟨s2.c.tr (CF.rf.up (by decide)), by rw [s2 2 3 (by omega), up_ni (by decide)]⟩, s3.c.up (by decide)⟩
      obtain ⟨y1, y2, y3⟩ := s1.1
      refine ⟨?_, by rw [up_ni (by decide)]; exact y2, by rw [up_ni (by decide), up_ni (by decide)]; exact y3⟩
      obtain ⟨⟨a, b, c⟩, ⟨d, e, f⟩, x, y⟩ := y1
      exact ⟨⟨a, by rw [up_ni (by decide)]; exact b, c⟩, ⟨d, by rw [up_ni (by decide)]; exact e, f⟩, x.cg (fun j => rfl) (fun j => up_na (by decide)), y.cg (fun j => rfl) (fun j => up_na (by decide))⟩
  · rw [if_neg q, if_neg (fun z => q (n2.mpr z))]
    exact (OUT.fail k2 1 (FC := fun u M' => CF u M' M) (FN := fun u N' => NF u N' N) (G := fun _ _ => False) (fun _ h => h) (fun _ h => h)).elim (fun h => Or.inl h) (fun ⟨_, _, _, _, h, _⟩ => h.elim)
theorem q_outLine (k : RT' M N n t) (rd : RD M N g) : LN g n t M N (f_X7_readOut M) (f_X12_outLine N) := by
  obtain ⟨⟨r1, r2⟩, ⟨r3, r4, r5⟩, R3, R4, R5, R6, ⟨R7a, R7b, R7c⟩, R8, R9, R10, R11⟩ := id rd
  unfold f_X7_readOut f_X12_outLine
  rw [r1, gH_h r2, bI_eq, ← R5.1]
  by_cases q : M g 7 < 8
  rotate_left
  · rw [if_neg q, if_pos (show M g 7 = 8 by omega)]
    exact LN.f k.2.1 CF.rf.l NF.rf.l
  rw [if_pos q, if_neg (show ¬ M g 7 = 8 by omega)]
  obtain ⟨m, hm⟩ := nat_of R5.2.1
  have m8 : m < 8 := by omega
  obtain ⟨M1, N1, e1, e2, ⟨s1, k1, _, t1⟩, f1, f1'⟩ := k.next
  have g1 : M1 2 2 = (g : Int) := by rw [f1 2 2 (by omega)]; exact r1
  rw [e1, e2, Option.bind_some, Option.bind_some, g1, gH_h r2, hm]
  rcases q_into k1 (a1 := g + 22) (n1 := 8) (at' := m) (hi := 400) (by decide) m8 with ⟨M2, N2, e3, e4, fl, c1, c2⟩ | ⟨M2, N2, e3, e4, ⟨⟨s2, t2, k2⟩, v1, v1a, v1b⟩, c1, c1'⟩
  · exact Or.inl ⟨M2, N2, by rw [e3]; rfl, by rw [e4]; rfl, fl, (f1.c.l).tr c1.l, (f1'.c.l).tr c2.l⟩
  have n20 : N2 88 20 = (m : Int) := by rw [c1' 88 20 (by omega), f1' 88 20 (by omega), ← R5.1]; exact hm
  have g2 : upM M2 (g + 22) m (M2 2 3) 2 2 = (g : Int) := by rw [upM_ne 2 2 (by omega), c1 2 2 (by omega) (by omega)]; exact g1
  have m7 : upM M2 (g + 22) m (M2 2 3) g 7 = (m : Int) := by rw [upM_ne g 7 (by omega), c1 g 7 (by omega) (by omega), f1 g 7 (by omega)]; exact hm
  have z16 : 0 ≤ ((8 + m : Nat) : Int) ∧ ((8 + m : Nat) : Int) < 16 := by omega
  have w8 : w32 (8 + (m : Int)) = ((8 + m : Nat) : Int) := w32_i (by omega) (by omega)
  have wm := wi1 (k := m) (by clear w8; omega)
  rw [e3, e4, Option.bind_some, Option.bind_some]
  try dsimp +instances only
  rw [if_neg (show ¬ (1 : Int) = 0 by decide), if_neg (show ¬ (1 : Int) = 0 by decide), g2, gH_h r2, m7, n20, w8, gd_t z16, Int.toNat_natCast, ← v1, wm]
  clear w8 wm
  simp only [bM_eq, gd_t (show (1 : Int) = 0 ∨ (1 : Int) = 1 from Or.inr rfl)]
  have n20' : upM N2 105 (8 + m) (M2 2 3) 88 20 = (m : Int) := by rw [up_na (by decide)]; exact n20
  have wm := wi1 (k := m) (by omega)
  rw [n20', wm]
  clear wm
  have hc : ∀ a j, g ≤ a → a ≤ g + 22 → ¬ (a = g + 22 ∧ j = m) → upM M2 (g + 22) m (M2 2 3) a j = M a j := fun a j h1 h2 h3 => by
    rw [upM_ne a j h3, c1 a j (by omega) (by omega), f1 a j (by omega)]
  have hn : ∀ a j, ¬ (a = 88 ∧ 4 ≤ j ∧ j ≤ 11 ∧ j ≠ 6) → ¬ (a = 105 ∧ j = 8 + m) → upM N2 105 (8 + m) (M2 2 3) a j = N a j := fun a j h1 h3 => by
    rw [upM_ne a j h3, c1' a j (by omega), f1' a j (by omega)]
  have xx : upM M2 (g + 22) m (M2 2 3) (g + 22) m = M2 2 3 := upM_eq
  have yy : upM N2 105 (8 + m) (M2 2 3) 105 (8 + m) = M2 2 3 := upM_eq
  have F : LCF 0 g M (upM M2 (g + 22) m (M2 2 3)) := (f1.c.l.tr c1.l).up (by omega)
  have F' : LNF 0 N (upM N2 105 (8 + m) (M2 2 3)) := (f1'.c.l.tr c1'.l).up (by omega)
  have k2 := k2.up (a1 := g + 22) (i := m) (v := M2 2 3) (a2 := 105) (j := 8 + m) (w := M2 2 3) (by omega) (by omega)
  refine Or.inr ⟨_, _, rfl, rfl, ⟨⟨s2, by omega, k2.up (by omega) (by decide)⟩, ?_⟩, F.up (by omega), F'.up (by omega)⟩
  generalize M2 2 3 = v at *
  generalize upM M2 (g + 22) m v = A at hc xx g2
  generalize upM N2 105 (8 + m) v = D at hn yy
  have ha : ∀ a j, g ≤ a → a ≤ g + 22 → ¬ ((a = g + 22 ∧ j = m) ∨ (a = g ∧ j = 7)) → upM A g 7 ((m : Int) + 1) a j = M a j := fun a j h1 h2 h3 => by rw [upM_ne a j (by omega), hc a j h1 h2 (by omega)]
  have hd : ∀ a j, 91 ≤ a → a ≤ 105 → ¬ (a = 105 ∧ j = 8 + m) → upM D 88 20 ((m : Int) + 1) a j = N a j := fun a j h1 h2 h3 => by rw [up_na (by omega), hn a j (by omega) h3]
  have hd8 : ∀ j, 17 ≤ j → j ≤ 20 → j ≠ 20 → upM D 88 20 ((m : Int) + 1) 88 j = N 88 j := fun j h1 h2 h3 => by rw [up_ni h3, hn 88 j (by omega) (by omega)]
  have sz : upM A g 7 ((m : Int) + 1) g 7 = (m : Int) + 1 := upM_eq
  have sz' : upM D 88 20 ((m : Int) + 1) 88 20 = (m : Int) + 1 := upM_eq
  have x22 : upM A g 7 ((m : Int) + 1) 2 2 = (g : Int) := by rw [upM_ne 2 2 (by omega)]; exact g2
  have x22' : upM A g 7 ((m : Int) + 1) (g + 22) m = v := by rw [upM_ne (g + 22) m (by omega)]; exact xx
  have y22' : upM D 88 20 ((m : Int) + 1) 105 (8 + m) = v := by rw [up_na (by decide)]; exact yy
  generalize upM A g 7 ((m : Int) + 1) = A' at ha sz x22 x22'
  generalize upM D 88 20 ((m : Int) + 1) = D' at hd hd8 sz' y22'
  refine ⟨⟨x22, r2⟩, ?_, ?_, ?_, ?_, ?_, ⟨?_, ?_, ?_⟩, ?_, ?_, ?_, ?_⟩
  · rw [ha (g + 1) 0 (by omega) (by omega) (by omega), hd8 17 (by decide) (by decide) (by decide)]; exact ⟨r3, r4, r5⟩
  · rw [ha (g + 6) 0 (by omega) (by omega) (by omega), hd8 18 (by decide) (by decide) (by decide)]; exact R3
  · rw [ha g 3 (by omega) (by omega) (by omega), hd8 19 (by decide) (by decide) (by decide)]; exact R4
  · exact ⟨by rw [sz, sz'], by rw [sz]; omega, by rw [sz]; omega⟩
  · rw [ha g 12 (by omega) (by omega) (by omega), ha g 13 (by omega) (by omega) (by omega), hd 91 0 (by decide) (by decide) (by omega), hd 91 1 (by decide) (by decide) (by omega)]; exact R6
  · rw [ha g 9 (by omega) (by omega) (by omega), hd 92 3 (by decide) (by decide) (by omega)]; exact R7a
  · rw [ha g 10 (by omega) (by omega) (by omega), ha (g + 1) 0 (by omega) (by omega) (by omega), hd 92 4 (by decide) (by decide) (by omega)]; exact R7b
  · rw [ha g 11 (by omega) (by omega) (by omega), hd 92 5 (by decide) (by decide) (by omega)]; exact R7c
  · rw [ha (g + 1) 0 (by omega) (by omega) (by omega)]
    intro r hr
    rw [ha (g + 2) r (by omega) (by omega) (by omega), ha (g + 3) r (by omega) (by omega) (by omega), ha (g + 4) r (by omega) (by omega) (by omega), ha (g + 5) r (by omega) (by omega) (by omega), hd 93 _ (by decide) (by decide) (by omega), hd 94 _ (by decide) (by decide) (by omega), hd 95 _ (by decide) (by decide) (by omega), hd 96 _ (by decide) (by decide) (by omega)]
    exact R8 r hr
  · rw [ha (g + 6) 0 (by omega) (by omega) (by omega), ha (g + 1) 0 (by omega) (by omega) (by omega)]
    intro p hp
    rw [ha (g + 7) p (by omega) (by omega) (by omega), ha (g + 8) p (by omega) (by omega) (by omega), ha (g + 9) p (by omega) (by omega) (by omega), ha (g + 10) p (by omega) (by omega) (by omega), ha (g + 11) p (by omega) (by omega) (by omega), hd 97 _ (by decide) (by decide) (by omega), hd 98 _ (by decide) (by decide) (by omega), hd 99 _ (by decide) (by decide) (by omega), hd 100 _ (by decide) (by decide) (by omega), hd 101 _ (by decide) (by decide) (by omega)]
    exact R9 p hp
  · rw [ha g 3 (by omega) (by omega) (by omega)]
    intro s hs
    rw [ha (g + 19) s (by omega) (by omega) (by omega), ha (g + 20) s (by omega) (by omega) (by omega), ha (g + 21) s (by omega) (by omega) (by omega), hd 102 _ (by decide) (by decide) (by omega), hd 103 _ (by decide) (by decide) (by omega), hd 104 _ (by decide) (by decide) (by omega)]
    exact R10 s hs
  · rw [sz]
    intro s hs
    by_cases e : s = m
    · subst e
      rw [x22', y22']
      exact ⟨rfl, v1a, v1b⟩
    · rw [ha (g + 22) s (by omega) (by omega) (by omega), hd 105 _ (by decide) (by decide) (by omega)]
      exact R11 s (by omega)
theorem q_priceLine (k : RT' M N n t) (rd : RD M N g) : LN g n t M N (f_X7_readPrice M) (f_X12_priceLine N) := by
  obtain ⟨⟨r1, r2⟩, ⟨r3, r4, r5⟩, R3, R4, R5, R6, ⟨R7a, R7b, R7c⟩, R8, R9, R10, R11⟩ := id rd
  unfold f_X7_readPrice f_X12_priceLine
  rw [r1, gH_h r2, R6.2.2.2]
  by_cases q : M g 13 = 0
  rotate_left
  · rw [if_neg q, if_neg q]
    exact LN.f k.2.1 CF.rf.l NF.rf.l
  rw [if_pos q, if_pos q, bM_eq (upM N 91 1 1)]
  have k0 : RT' M (upM N 91 1 1) n t := by
    have := k.up (a1 := 2) (i := 2) (v := M 2 2) (a2 := 91) (j := 1) (w := 1) (by decide) (by decide)
    have e : upM M 2 2 (M 2 2) = M := by
      funext a i
      unfold upM
      split
      · rename_i h; rw [h.1, h.2]
      · rfl
    rw [e] at this
    exact this
  obtain ⟨M1, N1, e1, e2, ⟨s1, k1, _, t1⟩, f1, f1'⟩ := k0.next
  rw [e1, e2, Option.bind_some, Option.bind_some]
  have G1' : LNF 0 N N1 := LNF.tr (NF.rf.l.up (by omega)) f1'.c.l
  rcases q_num k1 (lo := 0) (hi := 99) (by decide) (by decide) with ⟨M2, N2, e3, e4, fl, c1, c2⟩ | ⟨M2, N2, e3, e4, ⟨⟨s2, t2, k2⟩, v1, v1a, v1b, _⟩, c1, c1'⟩
  · exact Or.inl ⟨M2, N2, by rw [e3]; rfl, by rw [e4]; rfl, fl, (f1.c.l).tr c1.l, G1'.tr c2.l⟩
  have g2 : M2 2 2 = (g : Int) := by rw [c1 2 2 (by omega) (by omega), f1 2 2 (by omega)]; exact r1
  rw [e3, e4, Option.bind_some, Option.bind_some]
  try dsimp +instances only
  rw [if_neg (show ¬ (1 : Int) = 0 by decide), if_neg (show ¬ (1 : Int) = 0 by decide), g2, gH_h r2, ← v1]
  simp only [bM_eq]
  rw [upM_ne 2 2 (by omega), g2, gH_h r2]
  have hc : ∀ a j, ¬ (a = 2 ∧ 3 ≤ j) → ¬ (a = 3 ∧ 3 ≤ j ∧ j ≤ 6) → ¬ (a = g ∧ (j = 11 ∨ j = 13)) → upM (upM M2 g 11 (M2 2 3)) g 13 1 a j = M a j := fun a j h1 h2 h3 => by
    rw [upM_ne a j (by omega), upM_ne a j (by omega), c1 a j (by omega) h2, f1 a j h2]
  have hn : ∀ a j, ¬ (a = 88 ∧ 4 ≤ j ∧ j ≤ 11 ∧ j ≠ 6) → ¬ (a = 91 ∧ j = 1) → ¬ (a = 92 ∧ j = 5) → upM N2 92 5 (M2 2 3) a j = N a j := fun a j h1 h2 h3 => by
    rw [upM_ne a j h3, c1' a j (by omega), f1' a j (by omega), upM_ne a j h2]
  have z11 : upM (upM M2 g 11 (M2 2 3)) g 13 1 g 11 = M2 2 3 := by rw [up_ni (by decide), upM_eq]
  have z13 : upM (upM M2 g 11 (M2 2 3)) g 13 1 g 13 = 1 := upM_eq
  have z91 : upM N2 92 5 (M2 2 3) 91 1 = 1 := by rw [up_na (by decide), c1' 91 1 (by omega), f1' 91 1 (by omega), upM_eq]
  have z925 : upM N2 92 5 (M2 2 3) 92 5 = M2 2 3 := upM_eq
  have F : LCF 0 g M (upM (upM M2 g 11 (M2 2 3)) g 13 1) := ((f1.c.l.tr c1.l).up (by omega)).up (by omega)
  have F' : LNF 0 N (upM N2 92 5 (M2 2 3)) := (G1'.tr c1'.l).up (by omega)
  have k2' : RT' (upM (upM M2 g 11 (M2 2 3)) g 13 1) (upM N2 92 5 (M2 2 3)) n s2 := by
    have := (k2.up (a1 := g) (i := 11) (v := M2 2 3) (a2 := 92) (j := 5) (w := M2 2 3) (by omega) (by decide)).up (a1 := g) (i := 13) (v := 1) (a2 := 92) (j := 5) (w := M2 2 3) (by omega) (by decide)
    have e : upM (upM N2 92 5 (M2 2 3)) 92 5 (M2 2 3) = upM N2 92 5 (M2 2 3) := by
      funext a i
      unfold upM
      split <;> rfl
    rw [e] at this
    exact this
  refine Or.inr ⟨_, _, rfl, rfl, ⟨⟨s2, by omega, k2'⟩, ?_⟩, F, F'⟩
  have x22 : upM (upM M2 g 11 (M2 2 3)) g 13 1 2 2 = (g : Int) := by rw [hc 2 2 (by omega) (by omega) (by omega)]; exact r1
  have ha : ∀ a j, g ≤ a → a ≤ g + 22 → ¬ (a = g ∧ (j = 11 ∨ j = 13)) → upM (upM M2 g 11 (M2 2 3)) g 13 1 a j = M a j := fun a j h1 h2 h3 => hc a j (by omega) (by omega) h3
  have hd : ∀ a j, 91 ≤ a → a ≤ 105 → ¬ ((a = 91 ∧ j = 1) ∨ (a = 92 ∧ j = 5)) → upM N2 92 5 (M2 2 3) a j = N a j := fun a j h1 h2 h3 => hn a j (by omega) (by omega) (by omega)
  have hd8 : ∀ j, 17 ≤ j → j ≤ 20 → j ≠ 99 → upM N2 92 5 (M2 2 3) 88 j = N 88 j := fun j h1 h2 _ => hn 88 j (by omega) (by omega) (by omega)
  generalize upM (upM M2 g 11 (M2 2 3)) g 13 1 = A' at ha z11 z13 x22
  generalize upM N2 92 5 (M2 2 3) = D' at hd hd8 z91 z925
  refine ⟨⟨x22, r2⟩, ?_, ?_, ?_, ?_, ?_, ⟨?_, ?_, ?_⟩, ?_, ?_, ?_, ?_⟩
  · rw [ha (g + 1) 0 (by omega) (by omega) (by omega), hd8 17 (by decide) (by decide) (by decide)]; exact ⟨r3, r4, r5⟩
  · rw [ha (g + 6) 0 (by omega) (by omega) (by omega), hd8 18 (by decide) (by decide) (by decide)]; exact R3
  · rw [ha g 3 (by omega) (by omega) (by omega), hd8 19 (by decide) (by decide) (by decide)]; exact R4
  · rw [ha g 7 (by omega) (by omega) (by omega), hd8 20 (by decide) (by decide) (by decide)]; exact R5
  · rw [z13, z91, ha g 12 (by omega) (by omega) (by omega), hd 91 0 (by decide) (by decide) (by omega)]; exact ⟨R6.1, R6.2.1, Or.inr rfl, rfl⟩
  · rw [ha g 9 (by omega) (by omega) (by omega), hd 92 3 (by decide) (by decide) (by omega)]; exact R7a
  · rw [ha g 10 (by omega) (by omega) (by omega), ha (g + 1) 0 (by omega) (by omega) (by omega), hd 92 4 (by decide) (by decide) (by omega)]; exact R7b
  · rw [z11, z925]; exact ⟨rfl, v1a, v1b⟩
  · rw [ha (g + 1) 0 (by omega) (by omega) (by omega)]
    intro r hr
    rw [ha (g + 2) r (by omega) (by omega) (by omega), ha (g + 3) r (by omega) (by omega) (by omega), ha (g + 4) r (by omega) (by omega) (by omega), ha (g + 5) r (by omega) (by omega) (by omega), hd 93 _ (by decide) (by decide) (by omega), hd 94 _ (by decide) (by decide) (by omega), hd 95 _ (by decide) (by decide) (by omega), hd 96 _ (by decide) (by decide) (by omega)]
    exact R8 r hr
  · rw [ha (g + 6) 0 (by omega) (by omega) (by omega), ha (g + 1) 0 (by omega) (by omega) (by omega)]
    intro p hp
    rw [ha (g + 7) p (by omega) (by omega) (by omega), ha (g + 8) p (by omega) (by omega) (by omega), ha (g + 9) p (by omega) (by omega) (by omega), ha (g + 10) p (by omega) (by omega) (by omega), ha (g + 11) p (by omega) (by omega) (by omega), hd 97 _ (by decide) (by decide) (by omega), hd 98 _ (by decide) (by decide) (by omega), hd 99 _ (by decide) (by decide) (by omega), hd 100 _ (by decide) (by decide) (by omega), hd 101 _ (by decide) (by decide) (by omega)]
    exact R9 p hp
  · rw [ha g 3 (by omega) (by omega) (by omega)]
    intro s hs
    rw [ha (g + 19) s (by omega) (by omega) (by omega), ha (g + 20) s (by omega) (by omega) (by omega), ha (g + 21) s (by omega) (by omega) (by omega), hd 102 _ (by decide) (by decide) (by omega), hd 103 _ (by decide) (by decide) (by omega), hd 104 _ (by decide) (by decide) (by omega)]
    exact R10 s hs
  · rw [ha g 7 (by omega) (by omega) (by omega)]
    intro s hs
    rw [ha (g + 22) s (by omega) (by omega) (by omega), hd 105 _ (by decide) (by decide) (by omega)]
    exact R11 s hs
end LINES4
