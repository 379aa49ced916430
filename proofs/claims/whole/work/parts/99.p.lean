/-- the places that a line (no law) may change -/
def LCF (u g : Nat) (M M' : MM) : Prop := (∀ a j, ¬ (a = 2 ∧ 3 ≤ j ∧ (j ≤ 4 ∨ u = 1)) → ¬ (a = 3 ∧ 3 ≤ j ∧ j ≤ 6) → ¬ (g ≤ a ∧ a ≤ g + 11 ∧ ¬ (a = g ∧ j = 14)) → ¬ (g + 19 ≤ a ∧ a ≤ g + 22) → M' a j = M a j) ∧ (8 ≤ g → ∀ r : Nat, (0 ≤ M (g + 3) r ∧ M (g + 3) r ≤ 600) → 0 ≤ M' (g + 3) r ∧ M' (g + 3) r ≤ 600)
def LNF (u : Nat) (N N' : MM) : Prop := ∀ a j, ¬ (a = 88 ∧ ((4 ≤ j ∧ j ≤ 11 ∧ j ≠ 6 ∧ (6 ≤ j ∨ u = 1)) ∨ (17 ≤ j ∧ j ≤ 20))) → a ≠ 91 → ¬ (a = 92 ∧ 3 ≤ j) → ¬ (93 ≤ a ∧ a ≤ 101 ∧ 5 ≤ j) → ¬ (102 ≤ a ∧ a ≤ 104 ∧ 4 ≤ j) → ¬ (a = 105 ∧ 8 ≤ j) → N' a j = N a j
section LINES3
variable {M N : MM} {n t g : Nat}
theorem CF.l {u : Nat} {M' : MM} (f : CF u M' M) : LCF u g M M' := ⟨fun a j x y _ _ => f a j x y, fun h r k => by rw [f (g + 3) r (by omega) (by omega)]; exact k⟩
theorem NF.l {u : Nat} {N' : MM} (f : NF u N' N) : LNF u N N' := fun a j x _ _ _ _ _ => f a j (by omega)
theorem LCF.tr {u : Nat} {M1 M2 M3 : MM} (h1 : LCF 0 g M1 M2) (h2 : LCF u g M2 M3) : LCF u g M1 M3 := ⟨fun a j x y z w => (h2.1 a j x y z w).trans (h1.1 a j (by omega) y z w), fun h r k => h2.2 h r (h1.2 h r k)⟩
theorem LNF.tr {u' : Nat} {M1 M2 M3 : MM} (h1 : LNF 0 M1 M2) (h2 : LNF u' M2 M3) : LNF u' M1 M3 := fun a j x y z w u v => (h2 a j x y z w u v).trans (h1 a j (by omega) y z w u v)
theorem LCF.up {u : Nat} {M' : MM} (f : LCF u g M M') {a i : Nat} {v : Int} (h : ((g ≤ a ∧ a ≤ g + 11 ∧ ¬ (a = g ∧ i = 14)) ∨ (g + 19 ≤ a ∧ a ≤ g + 22)) ∧ (a ≠ g + 3 ∨ (0 ≤ v ∧ v ≤ 600))) : LCF u g M (upM M' a i v) := ⟨fun b j x y z w => by rw [upM_ne b j (by omega)]; exact f.1 b j x y z w, fun h8 r k => by
  by_cases q : g + 3 = a ∧ r = i
  · rw [q.1, q.2, upM_eq]; omega
  · rw [upM_ne (g + 3) r q]; exact f.2 h8 r k⟩
theorem LNF.up {u' : Nat} {N' : MM} (f : LNF u' N N') {a i : Nat} {v : Int} (h : (a = 88 ∧ ((7 ≤ i ∧ i ≤ 11) ∨ (17 ≤ i ∧ i ≤ 20))) ∨ a = 91 ∨ (a = 92 ∧ 3 ≤ i) ∨ (93 ≤ a ∧ a ≤ 101 ∧ 5 ≤ i) ∨ (102 ≤ a ∧ a ≤ 104 ∧ 4 ≤ i) ∨ (a = 105 ∧ 8 ≤ i)) : LNF u' N (upM N' a i v) := fun b j x y z w u s => by rw [upM_ne b j (by omega)]; exact f b j x y z w u s
/-- a line is read, or fails, on both sides -/
def LN (g n t : Nat) (M N : MM) (o1 o2 : Option (Int × MM)) : Prop := OUT o1 o2 (fun u => LCF u g M) (fun u => LNF u N) (fun M' N' => (∃ s, t ≤ s ∧ RT' M' N' n s) ∧ RD M' N' g)
theorem LN.f {M0 N0 : MM} {v : Int} (h : M 3 6 = N 88 10) (f1 : LCF 0 g M0 M) (f2 : LNF 0 N0 N) : LN g n t M0 N0 ((f_X7_fails M v).bind fun x => gd (x.1 = 0 ∨ x.1 = 1) <| some (x.1, x.2)) ((f_X12_wrong N v).bind fun x => gd (x.1 = 0 ∨ x.1 = 1) <| some (x.1, x.2)) := OUT.fail h v (fun _ h => f1.tr h.l) (fun _ h => f2.tr h.l)
theorem q_roomLine (k : RT' M N n t) (rd : RD M N g) : LN g n t M N (f_X7_readRoom M) (f_X12_roomLine N) := by
  obtain ⟨⟨r1, r2⟩, ⟨r3, r4, r5⟩, R3, R4, R5, R6, ⟨R7a, R7b, R7c⟩, R8, R9, R10, R11⟩ := id rd
  unfold f_X7_readRoom f_X12_roomLine
  rw [r1, gH_h r2, bI_eq, ← r3]
  by_cases q : M (g + 1) 0 < 5
  rotate_left
  · rw [if_neg q, if_pos (show M (g + 1) 0 = 5 by omega)]
    exact LN.f k.2.1 CF.rf.l NF.rf.l
  rw [if_pos q, if_neg (show ¬ M (g + 1) 0 = 5 by omega)]
  obtain ⟨m, hm⟩ := nat_of r4
  have m5 : m < 5 := by omega
  obtain ⟨M1, N1, e1, e2, ⟨s1, k1, _, t1⟩, f1, f1'⟩ := k.next
  have n17 : N1 88 17 = (m : Int) := by rw [f1' 88 17 (by omega), ← r3, hm]
  rw [e1, e2, Option.bind_some, Option.bind_some, n17, hm]
  rcases q_newName k1 (a1 := g + 2) (a2 := 93) (m := m) m5 (by omega) (by decide) (fun j hj => by rw [f1' 93 _ (by omega), f1 (g + 2) j (by omega)]; exact (R8 j (by omega)).1.1) with ⟨M2, N2, e3, e4, fl, c1, c2⟩ | ⟨M2, N2, v1, e3, e4, ⟨s2, t2, k2⟩, f2, f2'⟩
  · exact Or.inl ⟨M2, N2, by rw [e3]; rfl, by rw [e4]; rfl, fl, (f1.c.l).tr c1.l, (f1'.c.l).tr c2.l⟩
  have z10 : 0 ≤ ((5 + m : Nat) : Int) ∧ ((5 + m : Nat) : Int) < 10 := by omega
  have n17b : N2 88 17 = (m : Int) := by rw [f2' 88 17 (by omega), up_na (by decide)]; exact n17
  have w5 : w32 (5 + (m : Int)) = ((5 + m : Nat) : Int) := w32_i (by omega) (by omega)
  rw [e3, e4, Option.bind_some, Option.bind_some]
  dsimp only
  rw [if_neg (show ¬ (1 : Int) = 0 by decide), if_neg (show ¬ (1 : Int) = 0 by decide), n17b, w5, bI_eq]
  clear w5
  have F2 : LCF 0 g M M2 := f1.c.l.tr (LCF.tr (CF.rf.l.up (by omega)) f2.c.l)
  have F2' : LNF 0 N N2 := f1'.c.l.tr (LNF.tr (NF.rf.l.up (by omega)) f2'.c.l)
  rcases q_into k2 (a1 := g + 3) (n1 := 5) (at' := m) (hi := 400) (by decide) m5 with ⟨M3, N3, e5, e6, fl, c1, c2⟩ | ⟨M3, N3, e5, e6, ⟨⟨s3, t3, k3⟩, v3, v3a, v3b⟩, c3, c3'⟩
  · exact Or.inl ⟨M3, N3, by rw [e5]; rfl, by rw [e6]; rfl, fl, F2.tr c1.l, F2'.tr c2.l⟩
  rw [e5, e6, Option.bind_some, Option.bind_some]
  dsimp only
  rw [if_neg (show ¬ (1 : Int) = 0 by decide), if_neg (show ¬ (1 : Int) = 0 by decide), gd_t z10, bM_eq (upM N3 94 _ _), Int.toNat_natCast, ← v3]
  have F3 : LCF 0 g M (upM M3 (g + 3) m (M3 2 3)) := (F2.tr c3.l).up (by omega)
  have F3' : LNF 0 N (upM N3 94 (5 + m) (M3 2 3)) := (F2'.tr c3'.l).up (by omega)
  have k3 := k3.up (a1 := g + 3) (i := m) (v := M3 2 3) (a2 := 94) (j := 5 + m) (w := M3 2 3) (by omega) (by omega)
  rcases q_into k3 (a1 := g + 4) (n1 := 5) (at' := m) (hi := 99) (by decide) m5 with ⟨M4, N4, e7, e8, fl, c1, c2⟩ | ⟨M4, N4, e7, e8, ⟨⟨s4, t4, k4⟩, v4, v4a, v4b⟩, c4, c4'⟩
  · exact Or.inl ⟨M4, N4, by rw [e7]; rfl, by rw [e8]; rfl, fl, F3.tr c1.l, F3'.tr c2.l⟩
  rw [e7, e8, Option.bind_some, Option.bind_some]
  dsimp only
  rw [if_neg (show ¬ (1 : Int) = 0 by decide), if_neg (show ¬ (1 : Int) = 0 by decide), gd_t z10, bM_eq (upM N4 95 _ _), ← v4]
  have F4 : LCF 0 g M (upM M4 (g + 4) m (M4 2 3)) := (F3.tr c4.l).up (by omega)
  have F4' : LNF 0 N (upM N4 95 (5 + m) (M4 2 3)) := (F3'.tr c4'.l).up (by omega)
  have k4 := k4.up (a1 := g + 4) (i := m) (v := M4 2 3) (a2 := 95) (j := 5 + m) (w := M4 2 3) (by omega) (by omega)
  rcases q_into k4 (a1 := g + 5) (n1 := 5) (at' := m) (hi := 99) (by decide) m5 with ⟨M5, N5, e9, e10, fl, c1, c2⟩ | ⟨M5, N5, e9, e10, ⟨⟨s5, t5, k5⟩, v5, v5a, v5b⟩, c5, c5'⟩
  · exact Or.inl ⟨M5, N5, by rw [e9]; rfl, by rw [e10]; rfl, fl, F4.tr c1.l, F4'.tr c2.l⟩
  rw [e9, e10, Option.bind_some, Option.bind_some]
  dsimp only
  rw [if_neg (show ¬ (1 : Int) = 0 by decide), if_neg (show ¬ (1 : Int) = 0 by decide), gd_t z10, ← v5, Option.bind_some]
  dsimp only
  rw [if_neg (show ¬ (1 : Int) = 0 by decide)]
  simp only [bM_eq, gd_t (show (1 : Int) = 0 ∨ (1 : Int) = 1 from Or.inr rfl)]
  have F5 : LCF 0 g M (upM M5 (g + 5) m (M5 2 3)) := (F4.tr c5.l).up (by omega)
  have F5' : LNF 0 N (upM N5 96 (5 + m) (M5 2 3)) := (F4'.tr c5'.l).up (by omega)
  have k5 := k5.up (a1 := g + 5) (i := m) (v := M5 2 3) (a2 := 96) (j := 5 + m) (w := M5 2 3) (by omega) (by omega)
  -- the cells
  have hc : ∀ a j, g ≤ a → a ≤ g + 22 → ¬ (g + 2 ≤ a ∧ a ≤ g + 5 ∧ j = m) → upM M5 (g + 5) m (M5 2 3) a j = M a j := fun a j h1 h2 h3 => by
    rw [upM_ne a j (by omega), c5 a j (by omega) (by omega), upM_ne a j (by omega), c4 a j (by omega) (by omega), upM_ne a j (by omega), c3 a j (by omega) (by omega), f2 a j (by omega), upM_ne a j (by omega), f1 a j (by omega)]
  have hn : ∀ a j, 91 ≤ a → a ≤ 105 → ¬ (93 ≤ a ∧ a ≤ 96 ∧ j = 5 + m) → upM N5 96 (5 + m) (M5 2 3) a j = N a j := fun a j h1 h2 h3 => by
    rw [upM_ne a j (by omega), c5' a j (by omega), upM_ne a j (by omega), c4' a j (by omega), upM_ne a j (by omega), c3' a j (by omega), f2' a j (by omega), upM_ne a j (by omega), f1' a j (by omega)]
  have hn8 : ∀ j, 17 ≤ j → j ≤ 20 → upM N5 96 (5 + m) (M5 2 3) 88 j = N 88 j := fun j h1 h2 => by
    rw [up_na (by decide), c5' 88 j (by omega), up_na (by decide), c4' 88 j (by omega), up_na (by decide), c3' 88 j (by omega), f2' 88 j (by omega), up_na (by decide), f1' 88 j (by omega)]
  have x2 : upM M5 (g + 5) m (M5 2 3) (g + 2) m = v1 := by
    rw [upM_ne (g + 2) m (by omega), c5 (g + 2) m (by omega) (by omega), upM_ne (g + 2) m (by omega), c4 (g + 2) m (by omega) (by omega), upM_ne (g + 2) m (by omega), c3 (g + 2) m (by omega) (by omega), f2 (g + 2) m (by omega), upM_eq]
  have y2 : upM N5 96 (5 + m) (M5 2 3) 93 (5 + m) = v1 := by
    rw [up_na (by decide), c5' 93 _ (by omega), up_na (by decide), c4' 93 _ (by omega), up_na (by decide), c3' 93 _ (by omega), f2' 93 _ (by omega), upM_eq]
  have x3 : upM M5 (g + 5) m (M5 2 3) (g + 3) m = M3 2 3 := by
    rw [upM_ne (g + 3) m (by omega), c5 (g + 3) m (by omega) (by omega), upM_ne (g + 3) m (by omega), c4 (g + 3) m (by omega) (by omega), upM_eq]
  have y3 : upM N5 96 (5 + m) (M5 2 3) 94 (5 + m) = M3 2 3 := by
    rw [up_na (by decide), c5' 94 _ (by omega), up_na (by decide), c4' 94 _ (by omega), upM_eq]
  have x4 : upM M5 (g + 5) m (M5 2 3) (g + 4) m = M4 2 3 := by
    rw [upM_ne (g + 4) m (by omega), c5 (g + 4) m (by omega) (by omega), upM_eq]
  have y4 : upM N5 96 (5 + m) (M5 2 3) 95 (5 + m) = M4 2 3 := by
    rw [up_na (by decide), c5' 95 _ (by omega), upM_eq]
  have x5 : upM M5 (g + 5) m (M5 2 3) (g + 5) m = M5 2 3 := upM_eq
  have y5 : upM N5 96 (5 + m) (M5 2 3) 96 (5 + m) = M5 2 3 := upM_eq
  have x22 : upM M5 (g + 5) m (M5 2 3) 2 2 = (g : Int) := by
    rw [upM_ne 2 2 (by omega), c5 2 2 (by omega) (by omega), upM_ne 2 2 (by omega), c4 2 2 (by omega) (by omega), upM_ne 2 2 (by omega), c3 2 2 (by omega) (by omega), f2 2 2 (by omega), upM_ne 2 2 (by omega), f1 2 2 (by omega)]
    exact r1
  have ex : upM M5 (g + 5) m (M5 2 3) (g + 1) 0 = (m : Int) := by rw [hc (g + 1) 0 (by omega) (by omega) (by omega)]; exact hm
  have ey : upM N5 96 (5 + m) (M5 2 3) 88 17 = (m : Int) := by rw [hn8 17 (by decide) (by decide), ← r3]; exact hm
  rw [ex, ey, wi1 (by omega)]
  refine Or.inr ⟨_, _, rfl, rfl, ⟨⟨s5, by omega, k5.up (by omega) (by decide)⟩, ?_⟩, F5.up (by omega), F5'.up (by omega)⟩
  generalize upM M5 (g + 5) m (M5 2 3) = A at hc x2 x3 x4 x5 x22
  generalize upM N5 96 (5 + m) (M5 2 3) = D at hn hn8 y2 y3 y4 y5
  have ha : ∀ a j, g ≤ a → a ≤ g + 22 → ¬ (g + 1 ≤ a ∧ a ≤ g + 5) → upM A (g + 1) 0 ((m : Int) + 1) a j = M a j := fun a j h1 h2 h3 => by rw [upM_ne a j (by omega), hc a j h1 h2 (by omega)]
  have hd : ∀ a j, 91 ≤ a → a ≤ 105 → ¬ (93 ≤ a ∧ a ≤ 96) → upM D 88 17 ((m : Int) + 1) a j = N a j := fun a j h1 h2 h3 => by rw [up_na (by omega), hn a j h1 h2 (by omega)]
  have hd8 : ∀ j, 18 ≤ j → j ≤ 20 → upM D 88 17 ((m : Int) + 1) 88 j = N 88 j := fun j h1 h2 => by rw [up_ni (by omega), hn8 j (by omega) h2]
  have sz : upM A (g + 1) 0 ((m : Int) + 1) (g + 1) 0 = (m : Int) + 1 := upM_eq
  have sz' : upM D 88 17 ((m : Int) + 1) 88 17 = (m : Int) + 1 := upM_eq
  have hA2 : ∀ a r, a ≠ g + 1 → upM A (g + 1) 0 ((m : Int) + 1) a r = A a r := fun a r h => up_na h
  have hD2 : ∀ a r, a ≠ 88 → upM D 88 17 ((m : Int) + 1) a r = D a r := fun a r h => up_na h
  have a0 : ∀ j, upM A (g + 1) 0 ((m : Int) + 1) g j = M g j := fun j => ha g j (by omega) (by omega) (by omega)
  refine ⟨⟨by rw [upM_ne 2 2 (by omega)]; exact x22, r2⟩, ⟨by rw [sz, sz'], by rw [sz]; omega, by rw [sz]; omega⟩, ?_, ?_, ?_, ?_, ⟨?_, ?_, ?_⟩, ?_, ?_, ?_, ?_⟩
  · rw [ha (g + 6) 0 (by omega) (by omega) (by omega), hd8 18 (by decide) (by decide)]; exact R3
  · rw [a0, hd8 19 (by decide) (by decide)]; exact R4
  · rw [a0, hd8 20 (by decide) (by decide)]; exact R5
  · rw [a0, a0, hd 91 0 (by decide) (by decide) (by decide), hd 91 1 (by decide) (by decide) (by decide)]; exact R6
  · rw [a0, hd 92 3 (by decide) (by decide) (by decide)]; exact R7a
  · rw [a0, sz, hd 92 4 (by decide) (by decide) (by decide)]
    exact ⟨R7b.1, R7b.2.1, R7b.2.2.1, by omega⟩
  · rw [a0, hd 92 5 (by decide) (by decide) (by decide)]; exact R7c
  · rw [sz]
    intro r hr
    rw [hD2 93 _ (by decide), hD2 94 _ (by decide), hD2 95 _ (by decide), hD2 96 _ (by decide), hA2 (g + 2) r (by omega), hA2 (g + 3) r (by omega), hA2 (g + 4) r (by omega), hA2 (g + 5) r (by omega)]
    by_cases e : r = m
    · subst e
      rw [x2, x3, x4, x5, y2, y3, y4, y5]
      exact ⟨⟨rfl, rfl, rfl, rfl⟩, ⟨v3a, v3b⟩, ⟨v4a, v4b⟩, ⟨v5a, v5b⟩⟩
    · rw [hc (g + 2) r (by omega) (by omega) (by omega), hc (g + 3) r (by omega) (by omega) (by omega), hc (g + 4) r (by omega) (by omega) (by omega), hc (g + 5) r (by omega) (by omega) (by omega), hn 93 _ (by decide) (by decide) (by omega), hn 94 _ (by decide) (by decide) (by omega), hn 95 _ (by decide) (by decide) (by omega), hn 96 _ (by decide) (by decide) (by omega)]
      exact R8 r (by omega)
  · rw [ha (g + 6) 0 (by omega) (by omega) (by omega), sz]
    intro p hp
    rw [ha (g + 7) p (by omega) (by omega) (by omega), ha (g + 8) p (by omega) (by omega) (by omega), ha (g + 9) p (by omega) (by omega) (by omega), ha (g + 10) p (by omega) (by omega) (by omega), ha (g + 11) p (by omega) (by omega) (by omega), hd 97 _ (by decide) (by decide) (by decide), hd 98 _ (by decide) (by decide) (by decide), hd 99 _ (by decide) (by decide) (by decide), hd 100 _ (by decide) (by decide) (by decide), hd 101 _ (by decide) (by decide) (by decide)]
    obtain ⟨h1, h2, h3⟩ := R9 p hp
    exact ⟨h1, ⟨h2.1, by omega⟩, h3⟩
  · rw [a0]
    intro s hs
    rw [ha (g + 19) s (by omega) (by omega) (by omega), ha (g + 20) s (by omega) (by omega) (by omega), ha (g + 21) s (by omega) (by omega) (by omega), hd 102 _ (by decide) (by decide) (by decide), hd 103 _ (by decide) (by decide) (by decide), hd 104 _ (by decide) (by decide) (by decide)]
    exact R10 s hs
  · rw [a0]
    intro s hs
    rw [ha (g + 22) s (by omega) (by omega) (by omega), hd 105 _ (by decide) (by decide) (by decide)]
    exact R11 s hs
end LINES3
