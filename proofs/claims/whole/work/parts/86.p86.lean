section QUES4
variable {M N H S B ST : MM} {LV : LVT} {h : Nat}
/-- the class only reads -/
def PR (N : MM) (o1 : Option Int) (o2 : Option (Int × MM)) : Prop := ∃ r N', o1 = some r ∧ o2 = some (r, N') ∧ FQ N' N
/-- what is paid, nobody turning -/
theorem q_paidBy (g : BA M N h H LV S) {d : Int} (hd : 5 ≤ d ∧ d ≤ 30) {n : Nat} (hn : n ≤ 200) : ∃ v M2 N1 N2, f_X11_paidBy M d (n : Int) = some (v, M2) ∧ f_X12_layStill N d = some N1 ∧ f_X12_goMany N1 (n : Int) = some N2 ∧ N2 124 1 = v + S 0 13 ∧ (0 ≤ v ∧ v ≤ 3000000) ∧ (0 ≤ S 0 13 ∧ S 0 13 ≤ 3000000) ∧ BA M2 N2 h H LV S ∧ Fr3 h 70 M2 M ∧ FQ N2 N := by
  obtain ⟨M1, N1, M2, N2, ST, e1, e2, e3, e4, g2, t2, f1, f2, u1⟩ := q_ar g hd hn
  obtain ⟨w1, w2, w3, w4, w5, w6⟩ := q_paid g2 t2
  refine ⟨ST 0 13, M2, N1, N2, ?_, e2, e4, w2, w5, w6, g2, f1, f2⟩
  unfold f_X11_paidBy
  rw [e1, Option.bind_some, e3, Option.bind_some, w1]
theorem q_degree (g : BA M N h H LV S) (p1 : Int) : PQ M N h (f_X11_degree M p1) (f_X12_degree N p1) := by
  obtain ⟨g0, f0⟩ := thr0 g
  unfold f_X11_degree f_X12_degree
  rw [bM_eq, pu_isWithin, pu_isIn, Option.bind_some, Option.bind_some, if_b1, if_b1]
  by_cases q1 : 1 ≤ p1 ∧ p1 ≤ 99
  rotate_left
  · rw [if_neg q1, if_neg q1]
    exact ⟨-1, M, _, rfl, rfl, Fr3.rf, f0⟩
  rw [if_pos q1, if_pos q1]
  obtain ⟨s1, _, s3⟩ := set0 g
  have s2 := (set0 g0).2.1
  rw [s1, s2]
  by_cases q2 : S 0 3 < 30
  rotate_left
  · rw [if_neg q2, if_pos (by omega)]
    exact ⟨0, M, _, rfl, rfl, Fr3.rf, f0⟩
  rw [if_pos q2, if_neg (by omega)]
  obtain ⟨n, rfl⟩ := nat_of (show 0 ≤ p1 by omega)
  have w1 : -2147483648 ≤ S 0 3 + 1 ∧ S 0 3 + 1 ≤ 2147483647 := by omega
  obtain ⟨v, M2, _, _, a1, _, _, _, a5, _, a7, a8, _⟩ := q_paidBy g0 (d := S 0 3 + 1) (by omega) (n := n) (by omega)
  obtain ⟨v', M3, N1, N2, b1, c2, c3, c4, b5, c6, c7, b8, c9⟩ := q_paidBy (g0.q a8 FQ.rf) (d := S 0 3) s3 (n := n) (by omega)
  obtain ⟨v2, M2', N3, N4, a1', d2, d3, d4, d5, d6, d7, _, d9⟩ := q_paidBy (g0.q Fr3.rf c9) (d := S 0 3 + 1) (by omega) (n := n) (by omega)
  rw [a1] at a1'
  have ev : v = v2 := by cases a1'; rfl
  have s4 := (set0 a7).1
  have s5 : N2 121 0 = S 0 3 := (set0 c7).2.1
  rw [w32_i w1.1 w1.2, a1, Option.bind_some]
  try dsimp +instances only
  rw [s4, b1, Option.bind_some, c2, Option.bind_some, c3, Option.bind_some, bI_eq, s5, w32_i w1.1 w1.2, d2, Option.bind_some, d3, Option.bind_some]
  try dsimp +instances only
  have k1 : w32 (v - v') = v - v' := w32_i (by omega) (by omega)
  have k2 : w32 (N4 124 1 - N2 124 1) = N4 124 1 - N2 124 1 := w32_i (by omega) (by omega)
  rw [k1, k2]
  have ff1 := b8.tr a8
  have ff2 := (d9.tr c9).tr f0
  by_cases q3 : N2 124 1 < N4 124 1
  · rw [if_pos (show 0 < v - v' by omega), if_pos q3]
    exact ⟨_, _, _, rfl, by rw [show N4 124 1 - N2 124 1 = v - v' by omega], ff1, ff2⟩
  · rw [if_neg (show ¬ 0 < v - v' by omega), if_neg q3]
    exact ⟨_, _, _, rfl, rfl, ff1, ff2⟩
theorem TA.tw6 (hA : TA H S B) {v : Int} (h16 : S 1 0 ≠ 0 ∧ S 1 1 ≠ 0) : TA H (upM S 1 6 v) B := by
  obtain ⟨h1, h2, h3, h4, h5⟩ := hA
  have p0 : ∀ a j, a ≠ 1 → upM S 1 6 v a j = S a j := fun a j h => up_na h
  have pi : ∀ j, j ≠ 6 → upM S 1 6 v 1 j = S 1 j := fun j h => up_ni h
  refine ⟨?_, ?_, ?_, ?_, ?_⟩
  · unfold SOK at *
    rw [pi 7 (by decide), pi 8 (by decide), pi 3 (by decide)]
    simp (disch := decide) only [p0]
    exact h1
  · unfold SP at *; simp (disch := decide) only [p0]; exact h2
  · rw [pi 9 (by decide)]; exact h3
  · rw [pi 0 (by decide), pi 1 (by decide)]; exact Or.inr h16
  · simp (disch := decide) only [p0]; exact h5
theorem plain_fq : ∃ N', f_X12_plainTried N = some N' ∧ FQ N' N ∧ ∀ a j, a ≠ 88 → N' a j = N a j := by
  obtain ⟨N', e, _, f⟩ := m_plain (N := N)
  exact ⟨N', e, fun a j hn => f a j (fun z => hn (by unfold QS; omega)), fun a j ha => f a j (fun z => ha z.1)⟩
theorem TR.halve (t : TR M N h H B ST) (h10 : ST 1 0 ≠ 0 ∧ ST 1 1 ≠ 0) (d : Int) : TR (upM M 71 6 d) (upM N 88 74 d) h H B (upM ST 1 6 d) := by
  obtain ⟨t1, t2, t3, t4, t5⟩ := t
  refine ⟨t1.up (k := 1) (by decide), CM.tw t2 (by decide) ?_ ?_, t3.tw6 h10, by rw [up_ni (by decide)]; exact t4, by rw [up_na (by decide)]; exact t5⟩
  · have g7 := t2.2.2.2.2.2.2
    unfold TM at *
    simp (disch := decide) only [up_ni, upM_eq]
    exact ⟨g7.1, g7.2.1, g7.2.2.1, g7.2.2.2.1, g7.2.2.2.2.1, trivial, g7.2.2.2.2.2.2⟩
  · intro z
    rw [up_ni (by decide)] at z
    exact z
theorem al_1 {T : MM} {d : Int} : alS S T d 1 0 ≠ 0 ∧ alS S T d 1 1 ≠ 0 := by
  unfold alS stS
  simp (disch := decide) only [up_na, up_ni, upM_eq]
  exact ⟨by decide, by decide⟩
theorem q_alone1 (g : BA M N h H LV S) {d : Int} (hd : 5 ≤ d ∧ d ≤ 30) : ∃ M' N' ST, f_X11_tryRoomsAlone M d = some M' ∧ f_X12_layStill N d = some N' ∧ TR M' N' h H S ST ∧ Fr3 h 70 M' M ∧ FQ N' N ∧ ST 0 2 = S 0 2 ∧ (ST 1 0 ≠ 0 ∧ ST 1 1 ≠ 0) := by
  obtain ⟨M', T, e1, c1, f1⟩ := q_aloneC g d
  obtain ⟨N', e2, c2, s2, f2⟩ := q_stillM g d
  have k := st_h (T := T) g (d := d)
  exact ⟨M', N', _, e1, e2, ⟨c1, (c2 T).2, (TA_st g hd).2, s2, k.2.1⟩, f1, f2, k.2.2.2.1, al_1⟩
theorem q_strip (g : BA M N h H LV S) (p1 p2 : Int) : PQ M N h (f_X11_strip M p1 p2) (f_X12_strip N p1 p2) := by
  obtain ⟨g0, f0⟩ := thr0 g
  unfold f_X11_strip f_X12_strip
  rw [bM_eq, (room_b g p1).1, (room_b g0 p1).2.1, Option.bind_some, Option.bind_some, if_b1, if_b1]
  by_cases q1 : 0 ≤ p1 ∧ p1 < H 1 0
  rotate_left
  · rw [if_neg q1, if_neg q1]
    exact ⟨-1, M, _, rfl, rfl, Fr3.rf, f0⟩
  rw [if_pos q1, if_pos q1, pu_isWithin, pu_isIn, Option.bind_some, Option.bind_some, if_b1, if_b1]
  by_cases q2 : 1 ≤ p2 ∧ p2 ≤ 99
  rotate_left
  · rw [if_neg q2, if_neg q2]
    exact ⟨-1, M, _, rfl, rfl, Fr3.rf, f0⟩
  rw [if_pos q2, if_pos q2]
  obtain ⟨n, rfl⟩ := nat_of (show 0 ≤ p2 by omega)
  obtain ⟨s1, _, s3⟩ := set0 g
  have s2 := (set0 g0).2.1
  have ht := g.t
  obtain ⟨v, M2, N1, N2, a1, a2, a3, a4, a5, a6, a7, a8, a9⟩ := q_paidBy g0 (d := S 0 3) s3 (n := n) (by omega)
  obtain ⟨s4, s5, _⟩ := set0 a7
  obtain ⟨M3, N3, ST, b1, b2, b3, b4, b5, b6, b7⟩ := q_alone1 a7 s3
  have g3 := (a7.q b4 b5).q (Fr3.rf.up (a := 71) (i := 6) (v := p1) (by decide)) (FQ.rf.up (a := 88) (j := 74) (v := p1) (by unfold QS; omega))
  have t3 := b3.halve b7 p1
  have v1 : upM ST 1 6 p1 0 2 = S 0 2 := by rw [up_na (by decide)]; exact b6
  obtain ⟨M4, N4, c1, c2, c3, c4, c5, _, _⟩ := q_runT g3 t3 (n := n) (by omega)
  obtain ⟨w1, w2, w3, w4, w5, w6⟩ := q_paid (g3.q c4 c5) c3
  obtain ⟨N5, d1, d2, d3⟩ := plain_fq (N := N4)
  rw [s1, s2, a1, Option.bind_some, a2, Option.bind_some, a3, Option.bind_some, bI_eq]
  try dsimp +instances only
  rw [s4, s5, b1, b2, Option.bind_some, Option.bind_some, bM_eq, bM_eq, c1, c2, Option.bind_some, Option.bind_some, d1, Option.bind_some, w1, d3 124 1 (by decide)]
  try dsimp +instances only
  have k1 : w32 (v - aRun H LV (upM ST 1 6 p1) n 0 13) = v - aRun H LV (upM ST 1 6 p1) n 0 13 := w32_i (by omega) (by omega)
  have k2 : w32 (N2 124 1 - N4 124 1) = N2 124 1 - N4 124 1 := w32_i (by omega) (by omega)
  rw [k1, k2]
  have ff1 : Fr3 h 70 M4 M := c4.tr ((Fr3.rf.up (by decide)).tr (b4.tr a8))
  have ff2 : FQ N5 N := d2.tr (c5.tr ((FQ.rf.up (by unfold QS; omega)).tr (b5.tr (a9.tr f0))))
  by_cases q3 : N4 124 1 < N2 124 1
  · rw [if_pos (show 0 < v - aRun H LV (upM ST 1 6 p1) n 0 13 by omega), if_pos q3]
    exact ⟨_, _, _, rfl, by rw [show N2 124 1 - N4 124 1 = v - aRun H LV (upM ST 1 6 p1) n 0 13 by omega], ff1, ff2⟩
  · rw [if_neg (show ¬ 0 < v - aRun H LV (upM ST 1 6 p1) n 0 13 by omega), if_neg q3]
    exact ⟨_, _, _, rfl, rfl, ff1, ff2⟩
theorem q_night (g : BA M N h H LV S) (p1 : Int) : PQ M N h (f_X11_night M p1) (f_X12_night N p1) := by
  obtain ⟨g0, f0⟩ := thr0 g
  unfold f_X11_night f_X12_night
  rw [bM_eq, pu_isWithin, pu_isIn, Option.bind_some, Option.bind_some, if_b1, if_b1]
  by_cases q1 : 1 ≤ p1 ∧ p1 ≤ 7
  rotate_left
  · rw [if_neg q1, if_neg q1]
    exact ⟨-2147483648, M, _, rfl, rfl, Fr3.rf, f0⟩
  rw [if_pos q1, if_pos q1]
  obtain ⟨n, hn⟩ := nat_of (show 0 ≤ 24 * p1 by omega)
  have e1 : w32 (p1 * 24) = (n : Int) := by rw [w32_i (by omega) (by omega)]; omega
  have e2 : w32 (24 * p1) = (n : Int) := by rw [w32_i (by omega) (by omega)]; omega
  obtain ⟨s1, _, s3⟩ := set0 g
  have s2 := (set0 g0).2.1
  have ht := g.t
  have hn2 : n ≤ 200 := by clear e1 e2; omega
  obtain ⟨v, M2, N1, N2, a1, a2, a3, a4, a5, a6, a7, a8, a9⟩ := q_paidBy g0 (d := S 0 3) s3 (n := n) hn2
  obtain ⟨s4, s5, _⟩ := set0 a7
  obtain ⟨M3, N3, ST, b1, b2, b3, b4, b5, b6, b7⟩ := q_alone1 a7 s3
  rw [e1, e2, s1, s2, a1, Option.bind_some, a2, Option.bind_some, a3, Option.bind_some, bI_eq]
  try dsimp +instances only
  rw [s4, s5, b1, b2, Option.bind_some, Option.bind_some]
  clear e1 e2
  refine PQ_two (fun x x' => x'.1 = x.1 ∧ (0 ≤ x.1 ∧ x.1 ≤ n) ∧ ∃ s, TR x.2 x'.2 h H S s ∧ s 0 2 = S 0 2 + x.1 ∧ Fr3 h 70 x.2 M ∧ FQ x'.2 N) (fun x => ((n : Int) - x.1).toNat) (fun y y' => ∃ s, TR y y' h H S s ∧ Fr3 h 70 y M ∧ FQ y' N) ?_ ⟨rfl, ⟨Int.le_refl _, by show (0 : Int) ≤ n; omega⟩, ST, b3, by show ST 0 2 = S 0 2 + 0; omega, b4.tr a8, b5.tr (a9.tr f0)⟩ (show ((n : Int) - 0).toNat < 1000000 by omega) ?_
  · rintro ⟨k, m⟩ ⟨k', m'⟩ ⟨j1, j2, s, ts, js, jf, jf'⟩
    dsimp only at j1 j2 ts js jf jf'
    subst j1
    try dsimp +instances only
    by_cases q : k' < n
    rotate_left
    · left
      rw [if_neg q, if_neg q]
      exact ⟨_, _, rfl, rfl, s, ts, jf, jf'⟩
    right
    have gg := g.q jf jf'
    have ht0 := g.2.2.1.2.2.2.1.1
    obtain ⟨r1, r2, _⟩ := set0 gg
    have r3 : m 70 2 = s 0 2 := ts.1.at0
    have r4 : m' 127 1 = s 0 2 := ts.2.1.1.1
    have wt : w32 (Int.tmod (s 0 2) 24) = s 0 2 % 24 := by rw [tmn (by omega)]; exact w32_i (by omega) (by omega)
    have wk : -2147483648 ≤ k' + 1 ∧ k' + 1 ≤ 2147483647 := by clear wt; omega
    rw [if_pos q, if_pos q, bI_eq, bI_eq, r3, r4, wt, r1, r2]
    have key : ∀ d : Int, 5 ≤ d ∧ d ≤ 30 → ∃ m2 m2', ((some d : Option Int).bind fun x10 => bM (upM m 70 3 x10) fun M11 => (f_X0_run M11 70 1).bind fun x12 => (some (Sum.inl (w32 (k' + 1), x12)) : Option ((Int × MM) ⊕ MM))) = some (Sum.inl (k' + 1, m2)) ∧ ((some d : Option Int).bind fun x13 => bM (upM m' 121 1 x13) fun M14 => (f_X12_goOn M14 1).bind fun x15 => (some (Sum.inl (w32 (k' + 1), x15)) : Option ((Int × MM) ⊕ MM))) = some (Sum.inl (k' + 1, m2')) ∧ ∃ s', TR m2 m2' h H S s' ∧ s' 0 2 = S 0 2 + (k' + 1) ∧ Fr3 h 70 m2 M ∧ FQ m2' N := by
      intro d hd
      have g1 := gg.q (fr70 (j := 3) (v := d)) (fq121 (v := d))
      have t1 := ts.set hd
      have v1 : upM s 0 3 d 0 2 = s 0 2 := up_ni (by decide)
      obtain ⟨m2, m2', c1, c2, c3, c4, c5, c6, _⟩ := q_oneT g1 t1 (by clear wt; omega)
      refine ⟨m2, m2', ?_, ?_, _, c3, by clear wt; omega, c4.tr (fr70.tr jf), c5.tr (fq121.tr jf')⟩
      · rw [Option.bind_some, bM_eq, c1, Option.bind_some, w32_i wk.1 wk.2]
      · rw [Option.bind_some, bM_eq, c2, Option.bind_some, w32_i wk.1 wk.2]
    have fin : ∀ d : Int, 5 ≤ d ∧ d ≤ 30 → ∃ z z', ((some d : Option Int).bind fun x10 => bM (upM m 70 3 x10) fun M11 => (f_X0_run M11 70 1).bind fun x12 => (some (Sum.inl (w32 (k' + 1), x12)) : Option ((Int × MM) ⊕ MM))) = some (Sum.inl z) ∧ ((some d : Option Int).bind fun x13 => bM (upM m' 121 1 x13) fun M14 => (f_X12_goOn M14 1).bind fun x15 => (some (Sum.inl (w32 (k' + 1), x15)) : Option ((Int × MM) ⊕ MM))) = some (Sum.inl z') ∧ (z'.1 = z.1 ∧ (0 ≤ z.1 ∧ z.1 ≤ n) ∧ ∃ s, TR z.2 z'.2 h H S s ∧ s 0 2 = S 0 2 + z.1 ∧ Fr3 h 70 z.2 M ∧ FQ z'.2 N) ∧ ((n : Int) - z.1).toNat < ((n : Int) - k').toNat := by
      intro d hd
      obtain ⟨m2, m2', c1, c2, c3⟩ := key d hd
      exact ⟨_, _, c1, c2, ⟨rfl, by show 0 ≤ k' + 1 ∧ k' + 1 ≤ (n : Int); clear wt; omega, c3⟩, by show ((n : Int) - (k' + 1)).toNat < ((n : Int) - k').toNat; clear wt; omega⟩
    by_cases q2 : s 0 2 % 24 < 22
    · rw [if_pos q2]
      by_cases q3 : 5 < s 0 2 % 24
      · rw [if_pos q3]
        exact fin _ s3
      · rw [if_neg q3]
        exact fin _ (by decide)
    · rw [if_neg q2]
      exact fin _ (by decide)
  · rintro y y' ⟨s, ts, jf, jf'⟩
    obtain ⟨w1, w2, w3, w4, w5, w6⟩ := q_paid (g.q jf jf') ts
    rw [w1]
    have e0 : s 0 13 + S 0 13 - (v + S 0 13) = s 0 13 - v := by omega
    have e : w32 (y' 124 1 - N2 124 1) = w32 (s 0 13 - v) := by rw [w2, a4, e0]
    rw [e]
    exact ⟨_, _, _, rfl, rfl, jf, jf'⟩
theorem q_learn (g : BA M N h H LV S) (p1 : Int) : PR N (f_X11_learn M p1) (f_X12_learn N p1) := by
  obtain ⟨g0, f0⟩ := thr0 g
  unfold f_X11_learn f_X12_learn
  rw [bM_eq, pu_isWithin, pu_isIn, Option.bind_some, Option.bind_some, if_b1, if_b1]
  by_cases q1 : 0 ≤ p1 ∧ p1 ≤ 23
  rotate_left
  · rw [if_neg q1, if_neg q1]
    exact ⟨-1, _, rfl, rfl, f0⟩
  have z : 0 ≤ p1 ∧ p1 < 24 := by omega
  obtain ⟨l1, l2⟩ := g0.2.1.2.2.2.2.2 p1.toNat (by omega)
  have c6 : M 60 p1.toNat = S 6 p1.toNat := g.1.2.2.2.2.at (k := 6) (by decide)
  have c7 : M 61 p1.toNat = S 7 p1.toNat := g.1.2.2.2.2.at (k := 7) (by decide)
  rw [if_pos q1, if_pos q1, gd_t z, gd_t z, bI_eq, c6, c7, l1, l2]
  by_cases q2 : S 7 p1.toNat = 0
  · rw [if_pos q2, if_pos q2]
    exact ⟨-2, _, rfl, rfl, f0⟩
  · rw [if_neg q2, if_neg q2, gd_t z, gd_t z, gd_t z, gd_t q2, gd_t q2]
    exact ⟨_, _, rfl, rfl, f0⟩
theorem two11 (g : BA M N h H LV S) (p1 p2 : Int) : f_X11_areTwo M p1 p2 = some (b1 ((0 ≤ p1 ∧ p1 < H 6 0) ∧ (0 ≤ p2 ∧ p2 < H 6 0) ∧ p1 ≠ p2)) ∧ f_X12_areTwo N p1 p2 = some (b1 ((0 ≤ p1 ∧ p1 < H 6 0) ∧ (0 ≤ p2 ∧ p2 < H 6 0) ∧ p1 ≠ p2)) := by
  obtain ⟨_, _, a1, a2⟩ := room_b g p1
  obtain ⟨_, _, b1', b2⟩ := room_b g p2
  unfold f_X11_areTwo f_X12_areTwo
  rw [a1, a2, Option.bind_some, Option.bind_some, if_b1, if_b1]
  by_cases q1 : 0 ≤ p1 ∧ p1 < H 6 0
  rotate_left
  · rw [if_neg q1, if_neg q1]; unfold b1; rw [if_neg (fun z => q1 z.1)]; exact ⟨rfl, rfl⟩
  rw [if_pos q1, if_pos q1, b1', b2, Option.bind_some, if_b1]
  by_cases q2 : 0 ≤ p2 ∧ p2 < H 6 0
  rotate_left
  · rw [if_neg q2]; unfold b1; rw [if_neg (fun z => q2 z.2.1)]; exact ⟨rfl, rfl⟩
  rw [if_pos q2]
  by_cases q3 : p1 = p2
  · rw [if_pos q3]; unfold b1; rw [if_neg (fun z => z.2.2 q3)]; exact ⟨rfl, rfl⟩
  · rw [if_neg q3]; unfold b1; rw [if_pos ⟨q1, q2, q3⟩]; exact ⟨rfl, rfl⟩
theorem wants0 (g : BA M N h H LV S) {p : Int} (hp : 0 ≤ p ∧ p < H 6 0) : M (h + 9) p.toNat = H 9 p.toNat ∧ N 99 p.toNat = H 9 p.toNat ∧ (0 ≤ H 9 p.toNat ∧ H 9 p.toNat ≤ 40) ∧ (0 ≤ p ∧ p < 5) ∧ (0 ≤ p ∧ p < 10) := by
  have h6 := g.2.2.1.1.2.1
  have hP := g.2.2.1.1.2.2.2.2.2.2.2.2.2.1 p.toNat (by omega)
  exact ⟨g.1.2.2.1.at (by decide) (by decide) (by decide), (g.2.1.1.2.2.1 p.toNat (by omega)).2.2.1, by omega, by omega, by omega⟩
theorem q_wish (g : BA M N h H LV S) {p1 p2 : Int} (h1 : 0 ≤ p1 ∧ p1 < H 6 0) (h2 : 0 ≤ p2 ∧ p2 < H 6 0) : ∃ r M' N', f_X11_crossByWishOf M p2 p1 = some (r, M') ∧ f_X12_crossWith N p1 (N 99 p2.toNat) = some (r, N') ∧ Fr3 h 70 M' M ∧ FQ N' N := by
  obtain ⟨a1, a2, a3, a4, a5⟩ := wants0 g h2
  obtain ⟨_, _, _, b4, b5⟩ := wants0 g h1
  obtain ⟨r1, r2, r3, r4, _⟩ := rooms0 g
  have hd : 5 ≤ cl (H 9 p2.toNat) 5 30 ∧ cl (H 9 p2.toNat) 5 30 ≤ 30 := cl_r (by decide)
  obtain ⟨M1, N1, M2, N2, ST, e1, e2, e3, e4, gg, t, f1, f2, h11⟩ := q_sr g hd (n := 24) (by decide)
  obtain ⟨i1, i2, i3, i4, i5, i6⟩ := ix5' b4.1 b4.2
  obtain ⟨w1, w2⟩ := q_crossP gg t h11 (p := p1.toNat) (by clear i6; omega)
  refine ⟨ST 4 p1.toNat, M2, N2, ?_, ?_, f1, f2⟩
  · unfold f_X11_crossByWishOf
    rw [r3, gH_h r4, gd_t a4, a1, lim (by decide) (by decide), Option.bind_some, e1, Option.bind_some]
    have e3 : f_X0_run M1 70 24 = some M2 := e3
    rw [e3, Option.bind_some, gd_t i1, w1]
  · unfold f_X12_crossWith
    rw [a2, pu_within, Option.bind_some, e2, Option.bind_some]
    have e4 : f_X12_goMany N1 24 = some N2 := e4
    rw [e4, Option.bind_some, i6, gd_t i4, gd_t i2, i5, w2]
theorem q_givesIn (g : BA M N h H LV S) (p1 p2 : Int) : PQ M N h (f_X11_givesIn M p1 p2) (f_X12_givesIn N p1 p2) := by
  obtain ⟨g0, f0⟩ := thr0 g
  unfold f_X11_givesIn f_X12_givesIn
  rw [bM_eq, (two11 g p1 p2).1, (two11 g0 p1 p2).2, Option.bind_some, Option.bind_some, if_b1, if_b1]
  by_cases q1 : (0 ≤ p1 ∧ p1 < H 6 0) ∧ (0 ≤ p2 ∧ p2 < H 6 0) ∧ p1 ≠ p2
  rotate_left
  · rw [if_neg q1, if_neg q1]
    exact ⟨-1, M, _, rfl, rfl, Fr3.rf, f0⟩
  rw [if_pos q1, if_pos q1]
  obtain ⟨q1, q2, q3⟩ := q1
  obtain ⟨_, _, _, _, a5⟩ := wants0 g q1
  obtain ⟨_, _, _, _, b5⟩ := wants0 g q2
  obtain ⟨r, M1, N1, c1, c2, c3, c4⟩ := q_wish g0 q1 q2
  obtain ⟨r', M2, N2, d1, d2, d3, d4⟩ := q_wish (g0.q c3 c4) q2 q1
  have f1 := d3.tr c3
  have f2 := (d4.tr c4).tr f0
  rw [c1, Option.bind_some, d1, Option.bind_some, gd_t b5, c2, Option.bind_some, gd_t a5, d2, Option.bind_some]
  try dsimp +instances only
  by_cases k1 : r = r'
  · rw [if_pos k1, if_neg (show ¬ r < r' by omega), if_pos k1]
    by_cases k2 : p1 < p2
    · rw [if_pos k2, if_neg (show ¬ p2 < p1 by omega)]
      exact ⟨_, _, _, rfl, rfl, f1, f2⟩
    · rw [if_neg k2, if_pos (show p2 < p1 by omega)]
      exact ⟨_, _, _, rfl, rfl, f1, f2⟩
  · rw [if_neg k1]
    by_cases k2 : r < r'
    · rw [if_pos k2, if_pos k2]
      exact ⟨_, _, _, rfl, rfl, f1, f2⟩
    · rw [if_neg k2, if_neg k2, if_neg k1]
      exact ⟨_, _, _, rfl, rfl, f1, f2⟩
end QUES4
