theorem if_b1 {X : Type} {c : Prop} [Decidable c] (x y : X) : (if b1 c = 0 then x else y) = if c then y else x := by
  by_cases q : c
  · rw [if_neg (fun z => b1_0.mp z q), if_pos q]
  · rw [if_pos (b1_0.mpr q), if_neg q]
theorem nat_of {p : Int} (h : 0 ≤ p) : ∃ n : Nat, p = (n : Int) := ⟨p.toNat, by omega⟩
theorem bS_l {Y Z X : Type} (y : Y) (f : Y → Option X) (ρ : Z → X) : bS (some (Sum.inl y)) f ρ = f y := rfl
theorem bS_r {Y Z X : Type} (z : Z) (f : Y → Option X) (ρ : Z → X) : bS (some (Sum.inr z)) f ρ = some (ρ z) := rfl
section QUES
variable {M N H S : MM} {LV : LVT} {h : Nat}
/-- run both and look -/
theorem q_tr (g : BA M N h H LV S) {n : Nat} (hn : n ≤ 200) : ∃ M1 N1 M2 N2 ST, f_X11_tryAsItGoes M = some M1 ∧ f_X12_layTried N = some N1 ∧ f_X0_run M1 70 (n : Int) = some M2 ∧ f_X12_goMany N1 (n : Int) = some N2 ∧ BA M2 N2 h H LV S ∧ TR M2 N2 h H S ST ∧ Fr3 h 70 M2 M ∧ FQ N2 N ∧ ST 1 1 = 0 := by
  obtain ⟨M1, e1, c1, f1⟩ := q_tryC g
  obtain ⟨N1, e2, c2, s2, f2⟩ := q_lay g
  have g1 := g.q f1 f2
  have ht := g.t
  have t1 : TR M1 N1 h H S (aTry S (fun k => M (70 + k))) := ⟨c1, c2 _, TA_try g, s2, (at_0 (by decide)).trans g.2.2.1.2.2.2.2.2⟩
  have e02 : aTry S (fun k => M (70 + k)) 0 2 = S 0 2 := at_0 (by decide)
  obtain ⟨M2, N2, e3, e4, t2, f3, f4⟩ := q_run g1 t1 (n := n) (by omega)
  refine ⟨M1, N1, M2, N2, _, e1, e2, e3, e4, g1.q f3 f4, t2, f3.tr f1, f4.tr f2, ?_⟩
  obtain ⟨_, _, i3, _⟩ := TA.run (LV := LV) g.2.2.1.1 (TA_try (T := fun k => M (70 + k)) g) n (by omega)
  rw [i3, at_1 (by decide)]
theorem ix5' {p : Int} (h0 : 0 ≤ p) (h1 : p < 5) : (0 ≤ p ∧ p < 5) ∧ (0 ≤ p ∧ p < 10) ∧ (0 ≤ p ∧ p < 30) ∧ (0 ≤ 5 + p ∧ 5 + p < 10) ∧ (5 + p).toNat = 5 + p.toNat ∧ w32 (5 + p) = 5 + p := by
  refine ⟨by omega, by omega, by omega, by omega, by omega, w32_i (by omega) (by omega)⟩
theorem q_ahead (g : BA M N h H LV S) (p1 p2 p3 : Int) : PQ M N h (f_X11_ahead M p1 p2 p3) (f_X12_ahead N p1 p2 p3) := by
  obtain ⟨g0, f0⟩ := thr0 g
  unfold f_X11_ahead f_X12_ahead
  rw [bM_eq, pu_isWithin, pu_isIn, Option.bind_some, Option.bind_some, if_b1, if_b1]
  by_cases q1 : 0 ≤ p1 ∧ p1 ≤ 200
  rotate_left
  · rw [if_neg q1, if_neg q1]
    exact ⟨-1, M, _, rfl, rfl, Fr3.rf, f0⟩
  rw [if_pos q1, if_pos q1, pu_isWithin, pu_isIn, Option.bind_some, Option.bind_some, if_b1, if_b1]
  by_cases q2 : 0 ≤ p2 ∧ p2 ≤ 3
  rotate_left
  · rw [if_neg q2, if_neg q2]
    exact ⟨-1, M, _, rfl, rfl, Fr3.rf, f0⟩
  rw [if_pos q2, if_pos q2]
  obtain ⟨n, rfl⟩ := nat_of q1.1
  obtain ⟨M1, N1, M2, N2, ST, e1, e2, e3, e4, gg, t, f1, f2, h11⟩ := q_tr g0 (n := n) (by omega)
  have f2 := f2.tr f0
  have h5 := g.2.2.1.1.1
  by_cases q3 : p2 = 0
  · rw [if_pos q3, if_pos q3, (room_b g p3).1, (room_b g0 p3).2.1, Option.bind_some, Option.bind_some, if_b1, if_b1]
    by_cases q4 : 0 ≤ p3 ∧ p3 < H 1 0
    · rw [if_pos q4, if_pos q4]
      rw [bS_l, bS_l]
      obtain ⟨i1, i2, i3, i4, i5, i6⟩ := ix5' q4.1 (show p3 < 5 by omega)
      obtain ⟨w1, w2, _⟩ := q_warm t (r := p3.toNat) (by omega) h5.2
      rw [e1, e2, Option.bind_some, Option.bind_some, e3, e4, Option.bind_some, Option.bind_some, if_pos q3, if_pos q3, gd_t i3, i6, gd_t i4, i5, w1, w2]
      exact ⟨_, _, _, rfl, rfl, f1, f2⟩
    · rw [if_neg q4, if_neg q4]
      exact ⟨-1, M, _, rfl, rfl, Fr3.rf, f0⟩
  · rw [if_neg q3, if_neg q3]
    rw [bS_l, bS_l]
    rw [e1, e2, Option.bind_some, Option.bind_some, e3, e4, Option.bind_some, Option.bind_some, if_neg q3, if_neg q3]
    by_cases q4 : p2 = 1
    · rw [if_pos q4, if_pos q4]
      obtain ⟨w1, _, _, w2, _⟩ := q_paid gg t
      rw [w1, w2]
      exact ⟨_, _, _, rfl, rfl, f1, f2⟩
    · rw [if_neg q4, if_neg q4]
      by_cases q5 : p2 = 2
      · rw [if_pos q5, if_pos q5]
        obtain ⟨w1, w2⟩ := q_cross gg t h11
        rw [w1, w2, Option.bind_some, Option.bind_some]
        exact ⟨_, _, _, rfl, rfl, f1, f2⟩
      · rw [if_neg q5, if_neg q5]
        obtain ⟨w1, w2⟩ := q_turns gg t
        rw [w1, w2]
        exact ⟨_, _, _, rfl, rfl, f1, f2⟩
theorem q_swings (g : BA M N h H LV S) (p1 : Int) : PQ M N h (f_X11_swings M p1) (f_X12_swings N p1) := by
  obtain ⟨g0, f0⟩ := thr0 g
  unfold f_X11_swings f_X12_swings
  rw [bM_eq, pu_isWithin, pu_isIn, Option.bind_some, Option.bind_some, if_b1, if_b1]
  by_cases q1 : 1 ≤ p1 ∧ p1 ≤ 200
  rotate_left
  · rw [if_neg q1, if_neg q1]
    exact ⟨-1, M, _, rfl, rfl, Fr3.rf, f0⟩
  obtain ⟨n, rfl⟩ := nat_of (show 0 ≤ p1 by omega)
  obtain ⟨M1, N1, M2, N2, ST, e1, e2, e3, e4, gg, t, f1, f2, h11⟩ := q_tr g0 (n := n) (by omega)
  obtain ⟨w1, w2⟩ := q_swung t
  rw [if_pos q1, if_pos q1, e1, e2, Option.bind_some, Option.bind_some, e3, e4, Option.bind_some, Option.bind_some, w1, w2]
  exact ⟨_, _, _, rfl, rfl, f1, f2.tr f0⟩
theorem q_turnsOf (g : BA M N h H LV S) (p1 p2 : Int) : PQ M N h (f_X11_turnsOf M p1 p2) (f_X12_turnsOf N p1 p2) := by
  obtain ⟨g0, f0⟩ := thr0 g
  unfold f_X11_turnsOf f_X12_turnsOf
  rw [bM_eq, (room_b g p1).2.2.1, (room_b g0 p1).2.2.2, Option.bind_some, Option.bind_some, if_b1, if_b1]
  by_cases q1 : 0 ≤ p1 ∧ p1 < H 6 0
  rotate_left
  · rw [if_neg q1, if_neg q1]
    exact ⟨-1, M, _, rfl, rfl, Fr3.rf, f0⟩
  rw [if_pos q1, if_pos q1, pu_isWithin, pu_isIn, Option.bind_some, Option.bind_some, if_b1, if_b1]
  by_cases q2 : 0 ≤ p2 ∧ p2 ≤ 200
  rotate_left
  · rw [if_neg q2, if_neg q2]
    exact ⟨-1, M, _, rfl, rfl, Fr3.rf, f0⟩
  rw [if_pos q2, if_pos q2]
  have h6 := g.2.2.1.1.2.1
  obtain ⟨i1, i2, i3, i4, i5, i6⟩ := ix5' q1.1 (show p1 < 5 by omega)
  by_cases q3 : p2 = 0
  · rw [if_pos q3, if_pos q3, gd_t i1, gd_t i2]
    have e1 : M 59 p1.toNat = S 5 p1.toNat := g.1.2.2.2.2.at (k := 5) (by decide)
    have e2 : upM N 88 2 0 119 p1.toNat = S 5 p1.toNat := (g0.2.1.2.2.2.1 p1.toNat (by clear i6; omega)).2.1
    rw [e1, e2]
    exact ⟨_, _, _, rfl, rfl, Fr3.rf, f0⟩
  · rw [if_neg q3, if_neg q3]
    obtain ⟨n, rfl⟩ := nat_of q2.1
    obtain ⟨M1, N1, M2, N2, ST, e1, e2, e3, e4, gg, t, f1, f2, h11⟩ := q_tr g0 (n := n) (by clear i6; omega)
    obtain ⟨w1, w2⟩ := q_turned gg t (p := p1.toNat) (by clear i6; omega)
    rw [e1, e2, Option.bind_some, Option.bind_some, e3, e4, Option.bind_some, Option.bind_some, gd_t i1, i6, gd_t i4, gd_t i2, i5, w1, w2]
    exact ⟨_, _, _, rfl, rfl, f1, f2.tr f0⟩
end QUES
