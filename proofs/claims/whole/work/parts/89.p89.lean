section CHANCE
variable {M N H S B ST : MM} {LV : LVT} {h : Nat}
theorem aStep_1 {j : Nat} (hj : j ≠ 10) : aStep H LV S 1 j = S 1 j := by
  unfold aStep
  rw [ah_1, aSeed_a (Or.inr hj)]
theorem aRun_1 {j : Nat} (hj : j ≠ 10) : ∀ n, aRun H LV S n 1 j = S 1 j
  | 0 => rfl
  | n + 1 => (aStep_1 hj).trans (aRun_1 hj n)
theorem aStep_10 (h9 : S 1 9 ≠ 0) : aStep H LV S 1 10 = aNext (S 1 10) := by
  unfold aStep aSeed
  rw [ah_1, if_neg h9, upM_eq]
theorem CM.seed {b : Nat} {fl : Prop} (hC : CM N H S B b fl) {v : Int} : CM N H (upM S 1 10 v) B b fl := by
  obtain ⟨g1, g2, g3, g4, g5, g6, g7⟩ := hC
  have pa : ∀ a j, a ≠ 1 → upM S 1 10 v a j = S a j := fun a j h => up_na h
  have p1 : ∀ j, j ≠ 10 → upM S 1 10 v 1 j = S 1 j := fun j h => up_ni h
  refine ⟨?_, ?_, ?_, ?_, ?_, ?_, ?_⟩
  · simp (disch := decide) only [pa]; exact g1
  · simp (disch := decide) only [pa]; exact g2
  · unfold RW at *; simp (disch := decide) only [pa]; exact g3
  · rw [p1 1 (by decide)]; simp (disch := decide) only [pa]; exact g4
  · simp (disch := decide) only [pa]; exact g5
  · simp (disch := decide) only [pa]; exact g6
  · unfold TM at *; simp (disch := decide) only [p1]; exact g7
theorem CM.cgN {b : Nat} {fl : Prop} (hC : CM N H S B b fl) {N' : MM} (f1 : ∀ a j, a ≠ 88 → N' a j = N a j) (f2 : ∀ j, 69 ≤ j → j ≤ 79 → j ≠ 77 → N' 88 j = N 88 j) : CM N' H S B b fl := by
  obtain ⟨g1, g2, g3, g4, g5, g6, g7⟩ := hC
  refine ⟨?_, ?_, ?_, ?_, ?_, ?_, ?_⟩
  · simp (disch := decide) only [f1]; exact g1
  · simp (disch := decide) only [f1]; exact g2
  · unfold RW at *; simp (disch := decide) only [f1]; exact g3
  · simp (disch := decide) only [f1]; exact g4
  · simp (disch := decide) only [f1]; exact g5
  · simp (disch := decide) only [f2]; exact g6
  · unfold TM at *; simp (disch := decide) only [f2]; exact g7
theorem m_number1 : ∃ N', f_X12_number1 N 101 = some (aNext (N 88 84) / 65536 % 101, N') ∧ N' 88 84 = aNext (N 88 84) ∧ ∀ a j, a ≠ 88 ∨ j ≠ 84 → N' a j = N a j := by
  have hr := aNext_r (N 88 84)
  unfold f_X12_number1
  have e : and64 (w64 ((w64 ((N 88 84) * 1103515245)) + 12345)) 2147483647 = aNext (N 88 84) := rfl
  rw [e, bM_eq, gd_t (by decide), upM_eq, tdn hr.1]
  have e2 : 0 ≤ aNext (N 88 84) / 65536 ∧ aNext (N 88 84) / 65536 ≤ 32768 := by omega
  rw [w64_i (x := aNext (N 88 84) / 65536) (by omega) (by omega), tmn e2.1]
  have e3 : 0 ≤ aNext (N 88 84) / 65536 % 101 ∧ aNext (N 88 84) / 65536 % 101 ≤ 100 := by omega
  rw [w64_i (by omega) (by omega), w32_i (by omega) (by omega)]
  exact ⟨_, rfl, upM_eq, fun a j hn => upM_ne a j (by omega)⟩
/-- a trial by chance -/
def TC (M N : MM) (h : Nat) (H ST : MM) : Prop := CC M 70 ST ∧ CM N H ST (fun _ _ => 0) 1 False ∧ (SOK H ST ∧ SP ST) ∧ (ST 1 9 ≠ 0 ∧ r32 (ST 1 10) ∧ N 88 84 = ST 1 10) ∧ ST 1 6 = -1 ∧ ST 0 1 = (h : Int)
theorem m_chstep (hH : HM N H) (hHo : HOK H) (hL : ML N LV) (hLc : LVc LV) (hLr : LVr LV) (hC : CM N H ST (fun _ _ => 0) 1 False) (hS : SOK H ST ∧ SP ST) (h9 : ST 1 9 ≠ 0) (h84 : N 88 84 = ST 1 10) (h6 : ST 1 6 = -1) (ht : ST 0 2 < 20000) : ∃ v N1 N2, f_X12_number1 N 101 = some (v, N1) ∧ f_X12_goOn (upM N1 88 77 (w32 (v - 50))) 1 = some N2 ∧ CM N2 H (aStep H LV ST) (fun _ _ => 0) 1 False ∧ N2 88 84 = aStep H LV ST 1 10 ∧ FQ N2 N := by
  obtain ⟨N1, e1, e2, f1⟩ := m_number1 (N := N)
  have hr := aNext_r (ST 1 10)
  rw [h84] at e1 e2
  have e3 : 0 ≤ aNext (ST 1 10) / 65536 % 101 ∧ aNext (ST 1 10) / 65536 % 101 ≤ 100 := by omega
  have ew : w32 (aNext (ST 1 10) / 65536 % 101 - 50) = aNext (ST 1 10) / 65536 % 101 - 50 := w32_i (by omega) (by omega)
  have fa : ∀ a j, a ≠ 88 → upM N1 88 77 (aNext (ST 1 10) / 65536 % 101 - 50) a j = N a j := fun a j ha => by rw [up_na ha, f1 a j (Or.inl ha)]
  have f8 : ∀ j, j ≠ 77 → j ≠ 84 → upM N1 88 77 (aNext (ST 1 10) / 65536 % 101 - 50) 88 j = N 88 j := fun j h1 h2 => by rw [up_ni h1, f1 88 j (Or.inr h2)]
  have fq : FQ (upM N1 88 77 (aNext (ST 1 10) / 65536 % 101 - 50)) N := fun a j hn => by
    by_cases ha : a = 88
    · subst ha
      exact f8 j (fun z => hn (by unfold QS; omega)) (fun z => hn (by unfold QS; omega))
    · exact fa a j ha
  have hC1 : CM (upM N1 88 77 (aNext (ST 1 10) / 65536 % 101 - 50)) H (aSeed ST) (fun _ _ => 0) 1 False := by
    have : aSeed ST = upM ST 1 10 (aNext (ST 1 10)) := by unfold aSeed; rw [if_neg h9]
    rw [this]
    exact CM.seed (CM.cgN hC fa (fun j h1 h2 h3 => f8 j h3 (by omega)))
  have eo : aO H ST = cl (aOut H (aSeed ST 0 2) + upM N1 88 77 (aNext (ST 1 10) / 65536 % 101 - 50) 88 77) 0 400 := by
    unfold aO
    rw [if_neg h9, upM_eq, aSeed_a (Or.inl (by decide)), show aOut H (ST 0 2) + aNext (ST 1 10) / 65536 % 101 - 50 = aOut H (ST 0 2) + (aNext (ST 1 10) / 65536 % 101 - 50) by omega]
  have hP : SP (aSeed ST) := by unfold SP; rw [aSeed_a (Or.inl (by decide)), aSeed_a (Or.inl (by decide)), aSeed_a (Or.inl (by decide))]; exact hS.2
  have h13 := hS.1.2.2.2.2.1
  have hSP := hS.2
  obtain ⟨N2, d1, d2, d3⟩ := m_goOn (b := 1) (o := aO H ST) (fq.hm hH) hHo hC1 (SOK_seed hS.1) hP (by unfold SP at hSP; rw [aSeed_a (Or.inl (by decide)), aSeed_a (Or.inl (by decide))]; show (0 : Int) ≤ 0 ∧ ST 0 13 + 0 ≤ 99 * ST 0 2; omega) (fq.ml hL) hLc hLr (by decide) (by rw [upM_eq]; omega) eo (Or.inl (by rw [aSeed_a (Or.inr (by decide))]; exact h6)) (by rw [aSeed_a (Or.inl (by decide))]; exact ht)
  refine ⟨_, N1, N2, e1, by rw [ew]; exact d1, d2, ?_, d3.fq.tr fq⟩
  rw [d3 88 84 (by unfold MS; omega), up_ni (by decide), e2, aStep_10 h9]
theorem q_chrun (g : BA M N h H LV S) (t : TC M N h H ST) {n : Nat} (hn : ST 0 2 + n ≤ 20000) (hn2 : n ≤ 99) : ∃ M' N', f_X0_run M 70 (n : Int) = some M' ∧ (lp (X := Int × MM) (Y := MM) (fun x13 =>
if x13.1 < (n : Int) then
((f_X12_number1 x13.2 101).bind fun x15 =>
bM (upM x15.2 88 77 (w32 (x15.1 - 50))) fun M16 =>
(f_X12_goOn M16 1).bind fun x17 =>
some (Sum.inl (w32 (x13.1 + 1), x17)))
else
some (Sum.inr x13.2)) FU (0, N)) = some N' ∧ TC M' N' h H (aRun H LV ST n) ∧ Fr3 h 70 M' M ∧ FQ N' N := by
  obtain ⟨⟨a1, a2, a3, a4, a5⟩, ⟨b1, b2, b3⟩, ⟨c1, c2, c3, c4, c5, c6⟩, d1, d2⟩ := g
  obtain ⟨t1, t2, t3, t4, t5, t6⟩ := t
  have hrun := fun (k : Nat) (hk : k ≤ n) => c_run (n := k) a1 (by decide) a3 c1 t1 t3.1 t3.2 t6 a4 c2 c3 (Or.inr t4.2.1) (by omega) (by omega)
  obtain ⟨M', e, ⟨q1, q2, q3, q4⟩, q5, q6, q7, q8⟩ := hrun n (Nat.le_refl _)
  obtain ⟨N', e', r1, r2, r3⟩ : ∃ N', (lp (X := Int × MM) (Y := MM) (fun x13 =>
if x13.1 < (n : Int) then
((f_X12_number1 x13.2 101).bind fun x15 =>
bM (upM x15.2 88 77 (w32 (x15.1 - 50))) fun M16 =>
(f_X12_goOn M16 1).bind fun x17 =>
some (Sum.inl (w32 (x13.1 + 1), x17)))
else
some (Sum.inr x13.2)) FU (0, N)) = some N' ∧ (CM N' H (aRun H LV ST n) (fun _ _ => 0) 1 False ∧ N' 88 84 = aRun H LV ST n 1 10 ∧ FQ N' N) := by
    refine lp_cnt n (fun k m => CM m H (aRun H LV ST k) (fun _ _ => 0) 1 False ∧ m 88 84 = aRun H LV ST k 1 10 ∧ FQ m N) _ (by omega) ?_ ?_ _ ⟨t2, t4.2.2, FQ.rf⟩
    · rintro k m hk ⟨i1, i2, i3⟩
      left
      obtain ⟨_, _, ⟨_, s2, s3, _⟩, _, s6, _, _⟩ := hrun k (by omega)
      obtain ⟨v, m1, m2, x1, x2, x3, x4, x5⟩ := m_chstep (i3.hm b1) c1 (i3.ml b2) c2 c3 i1 ⟨s2, s3⟩ (by rw [aRun_1 (by decide)]; exact t4.1) i2 (by rw [aRun_1 (by decide)]; exact t5) (by omega)
      have wk : -2147483648 ≤ (k : Int) + 1 ∧ (k : Int) + 1 ≤ 2147483647 := by omega
      have kn : (k : Int) < (n : Int) := by omega
      refine ⟨m2, ?_, x3, x4, x5.tr i3⟩
      try dsimp +instances only
      rw [if_pos kn, x1, Option.bind_some, bM_eq]
      try dsimp +instances only
      rw [x2, Option.bind_some, w32_i wk.1 wk.2]
      rfl
    · rintro m ⟨i1, i2, i3⟩
      refine ⟨m, ?_, i1, i2, i3⟩
      try dsimp +instances only
      rw [if_neg (by omega)]
  refine ⟨M', N', e, e', ⟨q1, r1, ⟨q2, q3⟩, ⟨?_, ?_, r2⟩, ?_, q5⟩, q4, r3⟩
  · rw [aRun_1 (by decide)]; exact t4.1
  · rcases q8 with q8 | q8
    · rw [aRun_1 (by decide)] at q8; exact absurd q8 t4.1
    · exact q8
  · rw [aRun_1 (by decide)]; exact t5
/-- laid anew, the seed as it goes -/
theorem cp_0 {T : MM} {j : Nat} (q : j = 1 ∨ j = 2 ∨ j = 3 ∨ j = 4 ∨ j = 5 ∨ j = 13 ∨ j = 14 ∨ j = 15 ∨ j = 16 ∨ j = 17) : cpS S T 0 j = S 0 j := by unfold cpS; rw [if_pos (by omega)]
theorem cp_1 {T : MM} {j : Nat} : cpS S T 1 j = T 1 j := by unfold cpS; rw [if_neg (by omega)]
theorem cp_5 {T : MM} {k j : Nat} (q : (k = 2 ∨ k = 4 ∨ k = 5) ∧ j < 5) : cpS S T k j = S k j := by unfold cpS; rw [if_pos (by omega)]
theorem cp_30 {T : MM} {j : Nat} (q : j < 30) : cpS S T 3 j = S 3 j := by unfold cpS; rw [if_pos (by omega)]
theorem cp_24 {T : MM} {k j : Nat} (q : (k = 6 ∨ k = 7) ∧ j < 24) : cpS S T k j = S k j := by unfold cpS; rw [if_pos (by omega)]
theorem SOK_cp {T : MM} (hSo : SOK H S) (hP : SP S) (h7 : T 1 7 = -1) : SOK H (cpS S T) ∧ SP (cpS S T) := by
  obtain ⟨x1, x2, x3, x4, x5, x6, x7, x8, h30, x10, x11, x12⟩ := hSo
  have c0 : ∀ j, (j = 1 ∨ j = 2 ∨ j = 3 ∨ j = 4 ∨ j = 5 ∨ j = 13 ∨ j = 14 ∨ j = 15 ∨ j = 16 ∨ j = 17) → cpS S T 0 j = S 0 j := fun j h => cp_0 h
  refine ⟨?_, ?_⟩
  · unfold SOK
    simp (disch := decide) only [c0]
    exact ⟨x1, x2, x3, x4, x5, x6, x7, fun j hj => by rw [cp_5 ⟨by decide, hj⟩]; exact x8 j hj, fun j hj => by rw [cp_30 hj]; exact h30 j hj, fun j hj => by rw [cp_5 ⟨by decide, hj⟩, cp_5 ⟨by decide, hj⟩]; exact x10 j hj, x11, Or.inl (by rw [cp_1]; exact h7)⟩
  · unfold SP
    simp (disch := decide) only [c0]
    exact hP
theorem q_layC (g : BA M N h H LV S) : ∃ N', f_X12_layTried N = some N' ∧ (∀ T, (∀ j, j < 5 → T 1 j = 0) → (∀ j, j = 5 ∨ j = 6 ∨ j = 7 → T 1 j = -1) → CM N' H (cpS S T) (fun _ _ => 0) 1 False) ∧ FQ N' N ∧ N' 88 84 = N 88 84 := by
  obtain ⟨N', e, c, s, f⟩ := q_lay g
  obtain ⟨⟨a1, a2, a3, a4, a5⟩, ⟨b1, b2, b3⟩, ⟨c1, c2, c3, c4, c5, c6⟩, d1, d2⟩ := g
  obtain ⟨⟨k1, k2, k3, k4, k5, k6, k7⟩, l2, l3, l4⟩ := b3
  have x8 := c4.2.2.2.2.2.2.2.1
  have x4 := c4.2.2.2.1
  have x10 := c4.2.2.2.2.2.2.2.2.2.1
  have x11 := c4.2.2.2.2.2.2.2.2.2.2.1
  have h5 := c1.1
  obtain ⟨N'', e', ⟨p1, p2, p3, p4, p5⟩, f'⟩ := m_lay (N := N) (fun p hp => by rw [(l2 p hp).1]; exact x8 p hp) (by rw [k4]; exact x4)
  rw [e] at e'
  cases e'
  refine ⟨N', e, fun T t0 t1 => ?_, f, ?_⟩
  · refine ⟨⟨?_, ?_, ?_, ?_, ?_, ?_, ?_⟩, ?_, ?_, ?_, fun z => absurd z (by decide), fun z => z.elim, ?_⟩
    · rw [p2 127 (by decide) (by decide), cp_0 (by decide)]; exact k1
    · rw [p2 121 (by decide) (by decide), cp_0 (by decide)]; exact k2
    · rw [p2 122 (by decide) (by decide), cp_0 (by decide)]; exact k3
    · rw [p2 123 (by decide) (by decide), cp_0 (by decide)]; exact k4
    · rw [p2 124 (by decide) (by decide), cp_0 (by decide), Int.add_zero]; exact k5
    · rw [p2 125 (by decide) (by decide), cp_0 (by decide)]; exact k6
    · rw [p2 126 (by decide) (by decide), cp_0 (by decide), Int.add_zero, w32_id x11.1]; exact k7
    · intro p hp
      obtain ⟨m1, m2, m3⟩ := p5 p hp
      obtain ⟨o1, o2, o3⟩ := l2 p hp
      refine ⟨?_, ?_⟩
      · show N' 120 (5 + p) = _
        rw [m3, cp_5 ⟨by decide, hp⟩]; exact o1
      · show N' 119 (5 + p) = _
        rw [m2, cp_5 ⟨by decide, hp⟩, Int.add_zero, w32_id (x10 p hp).2]; exact o2
    · intro r hr
      refine ⟨?_, fun k hk => ?_⟩
      · show N' 116 (5 + r) = _
        rw [p3 r (by omega), cp_30 (by omega)]; exact (l3 r hr).1
      · show N' 117 (30 + 6 * r + k) = _
        rw [Nat.add_assoc, p4 (6 * r + k) (by omega), cp_30 (by omega)]; exact (l3 r hr).2 k hk
    · intro _ p hp
      obtain ⟨m1, m2, m3⟩ := p5 p hp
      obtain ⟨o1, o2, o3⟩ := l2 p hp
      show N' 118 (5 + p) = _
      rw [m1, cp_5 ⟨by decide, hp⟩, Int.add_zero, w32_id (x10 p hp).1]; exact o3
    · unfold TM
      simp only [cp_1]
      rw [p1 69 (by decide) (by decide), p1 70 (by decide) (by decide), p1 71 (by decide) (by decide), p1 72 (by decide) (by decide), p1 73 (by decide) (by decide), p1 74 (by decide) (by decide), p1 75 (by decide) (by decide), t0 0 (by decide), t0 2 (by decide), t0 3 (by decide), t0 4 (by decide), t1 5 (by decide), t1 6 (by decide), t1 7 (by decide)]
      exact ⟨rfl, rfl, rfl, rfl, rfl, rfl, rfl, fun z => absurd rfl z⟩
  · exact f'.2
theorem q_chance (g : BA M N h H LV S) (p1 p2 p3 p4 : Int) (hp : r32 p1) : PQ M N h (f_X11_chance M p1 p2 p3 p4) (f_X12_chance N p1 p2 p3 p4) := by
  obtain ⟨g0, f0⟩ := thr0 g
  unfold f_X11_chance f_X12_chance
  rw [bM_eq]
  by_cases q0 : p1 < 0
  · rw [if_pos q0, if_pos q0]
    exact ⟨-1, M, _, rfl, rfl, Fr3.rf, f0⟩
  rw [if_neg q0, if_neg q0, pu_isWithin, pu_isIn, Option.bind_some, Option.bind_some, if_b1, if_b1]
  by_cases q1 : 1 ≤ p2 ∧ p2 ≤ 99
  rotate_left
  · rw [if_neg q1, if_neg q1]
    exact ⟨-1, M, _, rfl, rfl, Fr3.rf, f0⟩
  rw [if_pos q1, if_pos q1, (room_b g p3).1, (room_b g0 p3).2.1, Option.bind_some, Option.bind_some, if_b1, if_b1]
  by_cases q2 : 0 ≤ p3 ∧ p3 < H 1 0
  rotate_left
  · rw [if_neg q2, if_neg q2]
    exact ⟨-1, M, _, rfl, rfl, Fr3.rf, f0⟩
  rw [if_pos q2, if_pos q2, pu_isWithin, pu_isIn, Option.bind_some, Option.bind_some, if_b1, if_b1]
  by_cases q3 : 0 ≤ p4 ∧ p4 ≤ 600
  rotate_left
  · rw [if_neg q3, if_neg q3]
    exact ⟨-1, M, _, rfl, rfl, Fr3.rf, f0⟩
  rw [if_pos q3, if_pos q3]
  obtain ⟨n, rfl⟩ := nat_of (show 0 ≤ p2 by omega)
  have ht := g.t
  have h5 := g.2.2.1.1.1
  obtain ⟨i1, i2, i3, i4, i5, i6⟩ := ix5' q2.1 (show p3 < 5 by omega)
  have hr5 : ((p3.toNat : Nat) : Int) < H 1 0 := by clear i6; omega
  obtain ⟨M1, e1, c1, f1⟩ := q_tryC g
  rw [e1, Option.bind_some, bM_eq, bM_eq, bM_eq]
  have c2 : CC (upM (upM M1 71 9 1) 71 10 p1) 70 (upM (upM (aTry S (fun k => M (70 + k))) 1 9 1) 1 10 p1) := (c1.up (k := 1) (by decide)).up (k := 1) (by decide)
  have f2 : Fr3 h 70 (upM (upM M1 71 9 1) 71 10 p1) M := (f1.up (by decide)).up (by decide)
  have f3 : FQ (upM (upM N 88 2 0) 88 84 p1) N := f0.up (by unfold QS; omega)
  have a1 : ∀ j, j < 5 → upM (upM (aTry S (fun k => M (70 + k))) 1 9 1) 1 10 p1 1 j = 0 := fun j hj => by rw [up_ni (by omega), up_ni (by omega)]; exact at_1 (Or.inl hj)
  have a2 : ∀ j, j = 5 ∨ j = 6 ∨ j = 7 → upM (upM (aTry S (fun k => M (70 + k))) 1 9 1) 1 10 p1 1 j = -1 := fun j hj => by rw [up_ni (by omega), up_ni (by omega)]; exact at_m hj
  have a3 : upM (upM (aTry S (fun k => M (70 + k))) 1 9 1) 1 10 p1 1 9 ≠ 0 := by rw [up_ni (by decide), upM_eq]; decide
  have a4 : upM (upM (aTry S (fun k => M (70 + k))) 1 9 1) 1 10 p1 1 10 = p1 := upM_eq
  generalize upM (upM (aTry S (fun k => M (70 + k))) 1 9 1) 1 10 p1 = T0 at c2 a1 a2 a3 a4
  generalize upM (upM M1 71 9 1) 71 10 p1 = M2 at c2 f2
  have key : PQ M N h (lp (X := Int × Int × MM) (Y := Int × MM) (fun x11 =>
if x11.2.1 < 10 then
((f_X0_copy x11.2.2 70 54).bind fun x13 =>
(f_X0_run x13 70 (n : Int)).bind fun x14 =>
gd (0 ≤ p3 ∧ p3 < (30 : Int)) <|
((if (x14 73 (p3).toNat) < p4 then
(some x11.1)
else
some (w32 (x11.1 + 1))) : Option (Int)).bind fun x17 =>
some (Sum.inl (x17, w32 (x11.2.1 + 1), x14)))
else
some (Sum.inr (x11.1, x11.2.2))) FU (0, 0, M2)) (lp (X := Int × Int × MM) (Y := Int × MM) (fun x10 =>
if x10.2.1 < 10 then
((f_X12_layTried x10.2.2).bind fun x12 =>
(lp (X := Int × MM) (Y := MM) (fun x13 =>
if x13.1 < (n : Int) then
((f_X12_number1 x13.2 101).bind fun x15 =>
bM (upM x15.2 88 77 (w32 (x15.1 - 50))) fun M16 =>
(f_X12_goOn M16 1).bind fun x17 =>
some (Sum.inl (w32 (x13.1 + 1), x17)))
else
some (Sum.inr x13.2)) FU (0, x12)).bind fun x18 =>
gd (0 ≤ w32 (5 + p3) ∧ w32 (5 + p3) < (10 : Int)) <|
((if (x18 116 (w32 (5 + p3)).toNat) < p4 then
(some 0)
else
some 1) : Option (Int)).bind fun x21 =>
bI (w32 (x10.1 + x21)) fun x22 =>
some (Sum.inl (x22, w32 (x10.2.1 + 1), x18)))
else
some (Sum.inr (x10.1, x10.2.2))) FU (0, 0, upM (upM N 88 2 0) 88 84 p1)) := by
    refine PQ_lp (fun x x' => x'.1 = x.1 ∧ x'.2.1 = x.2.1 ∧ (0 ≤ x.2.1 ∧ x.2.1 ≤ 10) ∧ (0 ≤ x.1 ∧ x.1 ≤ x.2.1) ∧ Fr3 h 70 x.2.2 M ∧ FQ x'.2.2 N ∧ ∃ T, CC x.2.2 70 T ∧ (∀ j, j < 5 → T 1 j = 0) ∧ (∀ j, j = 5 ∨ j = 6 ∨ j = 7 → T 1 j = -1) ∧ T 1 9 ≠ 0 ∧ r32 (T 1 10) ∧ x'.2.2 88 84 = T 1 10) (fun x => (10 - x.2.1).toNat) ?_ ⟨rfl, rfl, (show (0 : Int) ≤ 0 ∧ (0 : Int) ≤ 10 by decide), (show (0 : Int) ≤ 0 ∧ (0 : Int) ≤ 0 by decide), f2, f3, T0, c2, a1, a2, a3, by rw [a4]; exact hp, by rw [a4]; show upM (upM N 88 2 0) 88 84 p1 88 84 = p1; exact upM_eq⟩ (show (10 - (0 : Int)).toNat < 1000000 by decide)
    rintro ⟨v, k, m⟩ ⟨v', k', m'⟩ ⟨j1, j2, j3, j4, j6, j7, T, tc, t1, t2, t3, t4, t5⟩
    dsimp only at j1 j2 j3 j4 j6 j7 tc t5
    subst j1 j2
    try dsimp +instances only
    by_cases q : k' < 10
    rotate_left
    · left
      rw [if_neg q, if_neg q]
      exact ⟨_, _, rfl, rfl, rfl, j6, j7⟩
    right
    rw [if_pos q, if_pos q]
    have gg := g.q j6 j7
    have so := gg.2.2.1.2.2.2.1
    have sp := gg.2.2.1.2.2.2.2.1
    obtain ⟨m1, e2, c3, f4⟩ := c_copy (a0 := 70) (a1 := 54) (by decide) (by decide) (by decide) gg.1.2.2.2.2 tc gg.1.1 gg.2.2.1.2.2.2.2.2 so.2.2.2.1 so.2.2.2.2.2.2.2.1
    have f4 : Fr3 h 70 m1 m := fun a x _ _ => f4 a (by clear i6; omega)
    obtain ⟨m1', e3, cm, f5, e84⟩ := q_layC gg
    have tcc : TC m1 m1' h H (cpS S T) := ⟨c3, cm T t1 t2, SOK_cp so sp (t2 7 (by decide)), ⟨by rw [cp_1]; exact t3, by rw [cp_1]; exact t4, by rw [e84, cp_1]; exact t5⟩, by rw [cp_1]; exact t2 6 (by decide), (cp_0 (by decide)).trans gg.2.2.1.2.2.2.2.2⟩
    have v1 : cpS S T 0 2 = S 0 2 := cp_0 (by decide)
    obtain ⟨m2, m2', e4, e5, tc2, f6, f7⟩ := q_chrun (gg.q f4 f5) tcc (n := n) (by clear i6; omega) (by clear i6; omega)
    have w1 : m2 73 p3.toNat = aRun H LV (cpS S T) n 3 p3.toNat := tc2.1.at (k := 3) (by decide)
    have w2 : m2' 116 (5 + p3.toNat) = aRun H LV (cpS S T) n 3 p3.toNat := (tc2.2.1.2.2.1 p3.toNat hr5).1
    have wk : -2147483648 ≤ k' + 1 ∧ k' + 1 ≤ 2147483647 := by clear i6; omega
    have wv : -2147483648 ≤ v' + 1 ∧ v' + 1 ≤ 2147483647 := by clear i6; omega
    have wv0 : -2147483648 ≤ v' + 0 ∧ v' + 0 ≤ 2147483647 := by clear i6; omega
    have hm : (10 - (k' + 1)).toNat < (10 - k').toNat := by clear i6; omega
    have hk : 0 ≤ k' + 1 ∧ k' + 1 ≤ 10 := by clear i6; omega
    have T1 : ∀ j, j ≠ 10 → aRun H LV (cpS S T) n 1 j = T 1 j := fun j hj => by rw [aRun_1 hj, cp_1]
    have fin : Fr3 h 70 m2 M ∧ FQ m2' N ∧ ∃ T, CC m2 70 T ∧ (∀ j, j < 5 → T 1 j = 0) ∧ (∀ j, j = 5 ∨ j = 6 ∨ j = 7 → T 1 j = -1) ∧ T 1 9 ≠ 0 ∧ r32 (T 1 10) ∧ m2' 88 84 = T 1 10 := ⟨f6.tr (f4.tr j6), f7.tr (f5.tr j7), _, tc2.1, fun j hj => by rw [T1 j (by clear i6; omega)]; exact t1 j hj, fun j hj => by rw [T1 j (by clear i6; omega)]; exact t2 j hj, tc2.2.2.2.1.1, tc2.2.2.2.1.2.1, tc2.2.2.2.1.2.2⟩
    rw [e2, e3, Option.bind_some, Option.bind_some, e4, e5, Option.bind_some, Option.bind_some, gd_t i3, i6, gd_t i4, i5, w1, w2, w32_i wk.1 wk.2]
    by_cases q5 : aRun H LV (cpS S T) n 3 p3.toNat < p4
    · rw [if_pos q5, if_pos q5, Option.bind_some, Option.bind_some, bI_eq, w32_i wv0.1 wv0.2, Int.add_zero]
      exact ⟨_, _, rfl, rfl, ⟨rfl, rfl, hk, by show 0 ≤ v' ∧ v' ≤ k' + 1; clear i6; omega, fin⟩, hm⟩
    · rw [if_neg q5, if_neg q5, Option.bind_some, Option.bind_some, bI_eq, w32_i wv.1 wv.2]
      exact ⟨_, _, rfl, rfl, ⟨rfl, rfl, hk, by show 0 ≤ v' + 1 ∧ v' + 1 ≤ k' + 1; clear i6; omega, fin⟩, hm⟩
  obtain ⟨r, m, m', x1, x2, x3, x4⟩ := key
  obtain ⟨N5, y1, y2, _⟩ := plain_fq (N := m')
  refine ⟨r, m, N5, x1, ?_, x3, y2.tr x4⟩
  rw [x2, Option.bind_some, y1, Option.bind_some]
end CHANCE
