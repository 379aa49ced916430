section READS
variable {M N H S B T ST : MM} {LV : LVT} {h : Nat}
theorem q_fault (x : RX M N h H S) (p1 : Int) : PR N (f_X11_fault M p1) (f_X12_fault N p1) := by
  have f0 : FQ (upM N 88 2 0) N := FQ.rf.up (by unfold QS; omega)
  unfold f_X11_fault f_X12_fault
  rw [bM_eq, up_ni (by decide), up_ni (by decide), ← x.2.1.1, ← x.2.1.2]
  by_cases q1 : p1 = 0
  · rw [if_pos q1, if_pos q1]; exact ⟨_, _, rfl, rfl, f0⟩
  · rw [if_neg q1, if_neg q1]
    by_cases q2 : p1 = 1
    · rw [if_pos q2, if_pos q2]; exact ⟨_, _, rfl, rfl, f0⟩
    · rw [if_neg q2, if_neg q2]; exact ⟨_, _, rfl, rfl, f0⟩
/-- a name looked for on both sides -/
theorem q_find {a1 n1 a2 n2 from2 : Nat} {p sz : Int} (hs : 0 ≤ sz ∧ sz ≤ 5) (h1 : 5 ≤ n1) (h2 : from2 + 5 ≤ n2) (hn2 : n2 < 1000) (he : ∀ j : Nat, (j : Int) < sz → N a2 (from2 + j) = M a1 j) : ∃ r, f_X11_placeOf M p a1 n1 sz = some r ∧ f_X12_find N a2 n2 (from2 : Int) sz p = some r ∧ ((r = -1 ∧ ∀ j : Nat, (j : Int) < sz → M a1 j ≠ p) ∨ ∃ j : Nat, (j : Int) < sz ∧ r = (j : Int) ∧ M a1 j = p) := by
  unfold f_X11_placeOf f_X12_find
  obtain ⟨y, y', e1, e2, e3, e4⟩ := lp_tw (f := (fun x1 : Int => if x1 < sz then (gd (0 ≤ x1 ∧ x1 < (n1 : Int)) <| if (M a1 (x1).toNat) = p then (some (Sum.inr x1)) else some (Sum.inl (w32 (x1 + 1)))) else some (Sum.inr (-1)))) (g := (fun x1 : Int => if x1 < sz then (gd (0 ≤ w32 ((from2 : Int) + x1) ∧ w32 ((from2 : Int) + x1) < (n2 : Int)) <| if (N a2 (w32 ((from2 : Int) + x1)).toNat) = p then (some (Sum.inr x1)) else some (Sum.inl (w32 (x1 + 1)))) else some (Sum.inr (-1)))) (fun x x' => x' = x ∧ ∃ k : Nat, x = (k : Int) ∧ (k : Int) ≤ sz ∧ ∀ j : Nat, j < k → M a1 j ≠ p) (fun x => (sz - x).toNat) (fun y y' : Int => y' = y ∧ ((y = -1 ∧ ∀ j : Nat, (j : Int) < sz → M a1 j ≠ p) ∨ ∃ j : Nat, (j : Int) < sz ∧ y = (j : Int) ∧ M a1 j = p)) (by
    rintro _ _ ⟨rfl, k, rfl, k1, k2⟩
    by_cases q : (k : Int) < sz
    · have z : 0 ≤ (k : Int) ∧ (k : Int) < (n1 : Int) := by omega
      have z2 : 0 ≤ (from2 : Int) + (k : Int) ∧ (from2 : Int) + (k : Int) < (n2 : Int) := by omega
      have w2 : w32 ((from2 : Int) + (k : Int)) = (from2 : Int) + (k : Int) := w32_i (by omega) (by omega)
      have t2 : ((from2 : Int) + (k : Int)).toNat = from2 + k := by clear w2; omega
      try dsimp +instances only
      rw [if_pos q, if_pos q, gd_t z, w2, gd_t z2, t2, Int.toNat_natCast, he k q]
      clear w2
      by_cases q2 : M a1 k = p
      · left
        rw [if_pos q2]
        exact ⟨_, _, rfl, rfl, rfl, Or.inr ⟨k, q, rfl, q2⟩⟩
      · right
        rw [if_neg q2, wi1 (by omega)]
        refine ⟨_, _, rfl, rfl, ⟨rfl, k + 1, rfl, by omega, ?_⟩, by omega⟩
        intro j hj
        by_cases e : j = k
        · rw [e]; exact q2
        · exact k2 j (by omega)
    · left
      try dsimp +instances only
      rw [if_neg q, if_neg q]
      exact ⟨_, _, rfl, rfl, rfl, Or.inl ⟨rfl, fun j hj => k2 j (by omega)⟩⟩) 0 0 ⟨rfl, 0, rfl, hs.1, fun j hj => absurd hj (by omega)⟩ (show (sz - 0).toNat < 1000000 by omega)
  subst e3
  exact ⟨y', e1, e2, e4⟩
theorem q_named (g : BA M N h H LV S) (p1 p2 : Int) : PR N (f_X11_named M p1 p2) (f_X12_named N p1 p2) := by
  obtain ⟨g0, f0⟩ := thr0 g
  obtain ⟨r1, _, r3, r4, r5, _⟩ := rooms0 g
  obtain ⟨_, r2, _, _, _, r6⟩ := rooms0 g0
  have h5 := g.2.2.1.1.1
  have h6 := g.2.2.1.1.2.1
  unfold f_X11_named f_X12_named
  rw [bM_eq]
  by_cases q1 : p1 = 0
  · obtain ⟨r, e1, e2, _⟩ := q_find (M := M) (N := upM N 88 2 0) (a1 := h + 2) (n1 := 5) (a2 := 93) (n2 := 10) (from2 := 0) (p := p2) (sz := H 1 0) h5 (by decide) (by decide) (by decide) (fun j hj => by rw [Nat.zero_add, (g0.2.1.1.2.1 j hj).1, g.1.2.2.1.at (by decide) (by decide) (by decide)])
    have e2 : f_X12_find (upM N 88 2 0) 93 10 0 (H 1 0) p2 = some r := e2
    rw [if_pos q1, if_pos q1, r3, gH_h r4, gH_h r4, r1, r2, e1, e2]
    exact ⟨_, _, rfl, rfl, f0⟩
  rw [if_neg q1, if_neg q1]
  by_cases q2 : p1 = 1
  · obtain ⟨r, e1, e2, _⟩ := q_find (M := M) (N := upM N 88 2 0) (a1 := h + 7) (n1 := 5) (a2 := 97) (n2 := 10) (from2 := 0) (p := p2) (sz := H 6 0) h6 (by decide) (by decide) (by decide) (fun j hj => by rw [Nat.zero_add, (g0.2.1.1.2.2.1 j hj).1, g.1.2.2.1.at (by decide) (by decide) (by decide)])
    have e2 : f_X12_find (upM N 88 2 0) 97 10 0 (H 6 0) p2 = some r := e2
    rw [if_pos q2, if_pos q2, r3, gH_h r4, gH_h r4, r5, r6, e1, e2]
    exact ⟨_, _, rfl, rfl, f0⟩
  rw [if_neg q2, if_neg q2]
  exact ⟨_, _, rfl, rfl, f0⟩
theorem q_out (g : BA M N h H LV S) (p1 : Int) : PR N (f_X11_out M p1) (f_X12_out N p1) := by
  obtain ⟨g0, f0⟩ := thr0 g
  obtain ⟨_, _, r3, r4, _⟩ := rooms0 g
  obtain ⟨N1, e1, e2, e3⟩ := m_plain (N := upM N 88 2 0)
  have f1 : FQ N1 (upM N 88 2 0) := fun a j hn => e3 a j (fun z => hn (by unfold QS; omega))
  have e77 : N1 88 77 = 0 := e2 77 (by decide) (by decide)
  unfold f_X11_out f_X12_out
  rw [bM_eq, e1, Option.bind_some, pu_isWithin, pu_isIn, Option.bind_some, Option.bind_some, if_b1, if_b1]
  by_cases q1 : 0 ≤ p1 ∧ p1 ≤ 9999
  rotate_left
  · rw [if_neg q1, if_neg q1]
    exact ⟨_, _, rfl, rfl, f1.tr f0⟩
  rw [if_pos q1, if_pos q1, r3, gH_h r4, c_outAt g.1.2.2.1 g.2.2.1.1 q1.1, m_outOf (f1.hm g0.2.1.1) g.2.2.1.1 q1.1 (by rw [e77]; decide), e77, Int.add_zero, cl_in (aOut_r g.2.2.1.1 p1)]
  exact ⟨_, _, rfl, rfl, f1.tr f0⟩
/-- the half of now, plain -/
theorem base_TM (g : BA M N h H LV S) : ∃ N1, f_X12_plainTried N = some N1 ∧ TM N1 S ∧ RW N1 H S 0 ∧ N1 88 77 = 0 ∧ CM N1 H S (fun _ _ => 0) 0 False ∧ FQ N1 N := by
  obtain ⟨N1, e1, e2, e3⟩ := m_plain (N := N)
  have f1 : FQ N1 N := fun a j hn => e3 a j (fun z => hn (by unfold QS; omega))
  have f2 : ∀ a j, a ≠ 88 → N1 a j = N a j := fun a j ha => e3 a j (fun z => ha z.1)
  have gg := g.q Fr3.rf f1
  obtain ⟨_, ⟨b1, b2, b3⟩, ⟨c1, c2, c3, c4, c5, c6⟩, d1, d2⟩ := gg
  obtain ⟨⟨k1, k2, k3, k4, k5, k6, k7⟩, l2, l3, l4⟩ := b3
  have x10 := c4.2.2.2.2.2.2.2.2.2.1
  have x11 := c4.2.2.2.2.2.2.2.2.2.2.1
  have tm : TM N1 S := by
    unfold TM
    rw [e2 69 (by decide) (by decide), e2 70 (by decide) (by decide), e2 71 (by decide) (by decide), e2 72 (by decide) (by decide), e2 73 (by decide) (by decide), e2 74 (by decide) (by decide), e2 75 (by decide) (by decide), d1 0 (by decide), d1 2 (by decide), d1 3 (by decide), d1 4 (by decide), d2.1 5 (by decide), d2.1 6 (by decide), d2.1 7 (by decide)]
    exact ⟨rfl, rfl, rfl, rfl, rfl, rfl, rfl, fun z => absurd rfl z⟩
  have rw0 : RW N1 H S 0 := by
    intro r hr
    obtain ⟨m1, m2⟩ := l3 r hr
    refine ⟨?_, fun k hk => ?_⟩
    · rw [Nat.mul_zero, Nat.zero_add]; exact m1
    · rw [Nat.mul_zero, Nat.zero_add]; exact m2 k hk
  refine ⟨N1, e1, tm, rw0, e2 77 (by decide) (by decide), ⟨⟨k1, k2, k3, k4, by rw [Int.add_zero]; exact k5, k6, by rw [Int.add_zero, w32_id x11.1]; exact k7⟩, ?_, rw0, ?_, fun _ => l4, fun z => z.elim, tm⟩, f1⟩
  · intro p hp
    obtain ⟨m1, m2, m3⟩ := l2 p hp
    rw [Nat.mul_zero, Nat.zero_add, Int.add_zero, w32_id (x10 p hp).2]
    exact ⟨m1, m2⟩
  · intro _ p hp
    rw [Nat.mul_zero, Nat.zero_add, Int.add_zero, w32_id (x10 p hp).1]
    exact (l2 p hp).2.2
theorem q_room (g : BA M N h H LV S) (p1 p2 : Int) : PR N (f_X11_room M p1 p2) (f_X12_room N p1 p2) := by
  obtain ⟨g0, f0⟩ := thr0 g
  obtain ⟨_, _, r3, r4, _⟩ := rooms0 g
  obtain ⟨N1, e1, tm, rw0, e77, cm, f1⟩ := base_TM g0
  have f1 := f1.tr f0
  have gg := g.q Fr3.rf f1
  have h5 := g.2.2.1.1.1
  have hso := g.2.2.1.2.2.2.1
  unfold f_X11_room f_X12_room
  rw [bM_eq, (room_b g p1).1, (room_b g0 p1).2.1, Option.bind_some, Option.bind_some, if_b1, if_b1]
  by_cases q1 : 0 ≤ p1 ∧ p1 < H 1 0
  rotate_left
  · rw [if_neg q1, if_neg q1]
    exact ⟨_, _, rfl, rfl, f0⟩
  rw [if_pos q1, if_pos q1, e1, Option.bind_some]
  obtain ⟨n, rfl⟩ := nat_of q1.1
  have z5 : 0 ≤ (n : Int) ∧ (n : Int) < 5 := by omega
  have z10 : 0 ≤ (n : Int) ∧ (n : Int) < 10 := by omega
  have z30 : 0 ≤ (n : Int) ∧ (n : Int) < 30 := by omega
  obtain ⟨m1, m2, m3, m4⟩ := gg.2.1.1.2.1 n q1.2
  rw [gd_t z30, gd_t z10, r3, gH_h r4, gH_h r4, gH_h r4, gd_t z5, gd_t z5, gd_t z10, gd_t z10, Int.toNat_natCast]
  by_cases c0 : p2 = 0
  · rw [if_pos c0, if_pos c0, (gg.2.1.2.2.2.2.1 n q1.2).1, show M 57 n = S 3 n from g.1.2.2.2.2.at (k := 3) (by decide)]
    exact ⟨_, _, rfl, rfl, f1⟩
  rw [if_neg c0, if_neg c0]
  by_cases c1 : p2 = 1
  · rw [if_pos c1, if_pos c1, m3, g.1.2.2.1.at (by decide) (by decide) (by decide)]
    exact ⟨_, _, rfl, rfl, f1⟩
  rw [if_neg c1, if_neg c1]
  by_cases c2 : p2 = 2
  · rw [if_pos c2, if_pos c2, m4, g.1.2.2.1.at (by decide) (by decide) (by decide)]
    exact ⟨_, _, rfl, rfl, f1⟩
  rw [if_neg c2, if_neg c2]
  by_cases c3 : p2 = 3
  · have et : M 54 2 = S 0 2 := g.1.2.2.2.2.at0
    have wt : w32 (Int.tmod (S 0 2) 24) = S 0 2 % 24 := by rw [tmn hso.1.1]; exact w32_i (by omega) (by omega)
    have ms := m_sun (b := 0) gg.2.1.1 g.2.2.1.1 tm cm.1.1 hso.1 (by decide) (n : Int)
    have ms : f_X12_sunIn N1 0 (n : Int) = _ := ms
    rw [if_pos c3, if_pos c3, et, wt, c_sunOn g.1.2.2.1 g.2.2.1.1, ms, if_pos (g.2.2.2.1 2 (by decide))]
    exact ⟨_, _, rfl, rfl, f1⟩
  rw [if_neg c3, if_neg c3]
  exact ⟨_, _, rfl, rfl, f1⟩
theorem q_count (g : BA M N h H LV S) (x : RX M N h H S) (p1 : Int) : PR N (f_X11_count M p1) (f_X12_count N p1) := by
  obtain ⟨g0, f0⟩ := thr0 g
  obtain ⟨r1, _, r3, r4, r5, _⟩ := rooms0 g
  obtain ⟨N1, e1, tm, rw0, e77, cm, f1⟩ := base_TM g0
  have f1 := f1.tr f0
  have gg := g.q Fr3.rf f1
  have xx := x.cg r4 FrX.rf f1.x
  obtain ⟨_, r2, _, _, _, r6⟩ := rooms0 gg
  have hso := g.2.2.1.2.2.2.1
  obtain ⟨⟨k1, k2, k3, k4, k5, k6, k7⟩, l2, l3, l4⟩ := gg.2.1.2.2
  have c0 : ∀ j, M 54 j = S 0 j := fun j => g.1.2.2.2.2.at0
  have eo := c_isOn r4 g.1.2.2.1 g.2.2.1.1 g.1.2.2.2.2 hso g.2.2.1.2.2.2.2.2
  have em := m_isOn (b := 0) gg.2.1.1 g.2.2.1.1 cm hso (by decide)
  have em : f_X12_isOn N1 0 = _ := em
  have es := c_sumX r4 g.1.2.2.1 g.2.2.1.1.2.1 g.1.2.2.2.2 g.2.2.1.2.2.2.2.2
  have et : (lp (X := Int × Int) (Y := Int × MM) (fun x19 => if x19.2 < (N1 88 13) then (gd (0 ≤ x19.2 ∧ x19.2 < (10 : Int)) <| bI (w32 (x19.1 + (N1 118 (x19.2).toNat))) fun x22 => some (Sum.inl (x22, w32 (x19.2 + 1)))) else some (Sum.inr (x19.1, N1))) FU (0, 0)) = some (aSum (S 4) (H 6 0).toNat, N1) := by
    have h6 := g.2.2.1.1.2.1
    rw [r6]
    refine lp_sum (H 6 0).toNat (aSum (S 4)) _ (by omega) ?_ ?_ 0 rfl
    · intro k hk
      have q : (k : Int) < H 6 0 := by omega
      have z : 0 ≤ (k : Int) ∧ (k : Int) < 10 := by omega
      try dsimp +instances only
      rw [if_pos q, gd_t z, bI_eq, wi1 (by omega), Int.toNat_natCast, (l2 k (by omega)).2.2]
      rfl
    · have q : ¬ (((H 6 0).toNat : Nat) : Int) < H 6 0 := by omega
      try dsimp +instances only
      rw [if_neg q]
  unfold f_X11_count f_X11_countMore f_X12_count
  rw [bM_eq, e1, Option.bind_some, et, em, es, eo, kn_C, kn_M xx.2.2.1]
  simp only [r3, gH_h r4, r1, r2, r5, r6, c0, k1, k2, k3, k4, k5, k6, k7, Option.bind_some, if_b1]
  rw [g.1.2.2.1.at (by decide) (by decide) (by decide), gg.2.1.1.1.2.2.2.2.1, ← xx.2.2.1.1.1, ← xx.2.2.2.1.1.1]
  have a1 : ∀ (c : Prop) [Decidable c] (o1 o1' : Option Int) (o2 o2' : Option (Int × MM)), PR N o1 o2 → PR N o1' o2' → PR N (if c then o1 else o1') (if c then o2 else o2') := fun c _ o1 o1' o2 o2' h1 h2 => by split; exact h1; exact h2
  have a2 : ∀ v : Int, PR N (some v) (some (v, N1)) := fun v => ⟨v, N1, rfl, rfl, f1⟩
  refine a1 _ _ _ _ _ (a2 _) ?_
  refine a1 _ _ _ _ _ (a2 _) ?_
  refine a1 _ _ _ _ _ (a2 _) ?_
  refine a1 _ _ _ _ _ (a2 _) ?_
  refine a1 _ _ _ _ _ (a2 _) ?_
  refine a1 _ _ _ _ _ (a1 _ _ _ _ _ (a2 _) (a2 _)) ?_
  refine a1 _ _ _ _ _ (a1 _ _ _ _ _ (a2 _) (a2 _)) ?_
  refine a1 _ _ _ _ _ (a1 _ _ _ _ _ (a2 _) (a2 _)) ?_
  refine a1 _ _ _ _ _ (a2 _) ?_
  rw [bid]
  refine a1 _ _ _ _ _ (a2 _) ?_
  refine a1 _ _ _ _ _ (a2 _) ?_
  refine a1 _ _ _ _ _ (a2 _) ?_
  refine a1 _ _ _ _ _ (a2 _) ?_
  refine a1 _ _ _ _ _ (a2 _) ?_
  exact a1 _ _ _ _ _ (a2 _) (a2 _)
end READS
