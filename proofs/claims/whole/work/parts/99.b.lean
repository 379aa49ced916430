section GOES
variable {M N H S B T ST : MM} {LV : LVT} {h : Nat}
theorem RX.par2 {M' N' S' : MM} (x : RX M N h H S) (f : ∀ a, a = 0 ∨ a = 1 ∨ a = 4 ∨ a = 11 ∨ a = 34 ∨ (62 ≤ a ∧ a ≤ 69) ∨ (78 ≤ a ∧ a ≤ 82) → M' a = M a) (f8 : ∀ j, j = 1 ∨ j = 4 ∨ j = 5 ∨ j = 80 ∨ j = 81 ∨ j = 87 → N' 88 j = N 88 j) (fa : ∀ a j, a = 89 ∨ a = 90 ∨ a = 131 ∨ a = 134 ∨ a = 135 ∨ a = 136 ∨ a = 137 ∨ a = 138 → N' a j = N a j) (p : PAR M' N' H S') : RX M' N' h H S' := by
  obtain ⟨x1, x2, x3, x4, ⟨x5, x6, x7⟩, x8, x9⟩ := x
  refine ⟨?_, ?_, ?_, p, ⟨?_, ?_, ?_⟩, ?_, ?_⟩
  · unfold TPR at *; simp (disch := decide) only [f, f8, fa]; exact x1
  · simp (disch := decide) only [f, f8]; exact x2
  · unfold LGR at *; simp (disch := decide) only [f, f8, fa]; exact x3
  · simp (disch := decide) only [f, f8]; exact x5
  · simp (disch := decide) only [f]; exact x6
  · simp (disch := decide) only [f]
    intro z
    obtain ⟨J, j1, j2, j3⟩ := x7 z
    refine ⟨J, fun k hk => by rw [f (62 + k) (by omega)]; exact j1 k hk, ?_, j3⟩
    unfold IMG at *
    simp (disch := decide) only [fa]
    exact j2
  · unfold WDR at *; simp (disch := decide) only [f, fa]; exact x8
  · simp (disch := decide) only [f]; exact x9
/-- now, after hours: both sides -/
theorem al_go {X : MM} (hX : AL X) (p1 : Int) : AN (f_X11_go X p1) (fun m => f_X12_go m p1) := by
  obtain ⟨h, H, LV, S, g, x⟩ := hX
  have hh := g.1.1
  have no : AN (some (-1, X)) (fun m => some (-1, upM m 88 2 0)) := ⟨-1, X, _, rfl, rfl, h, H, LV, S, g.cg (fun a h1 _ _ _ _ => up_row (by omega)) (FQ.rf.up (by unfold QS; omega)).x, x.cg hh (fun a h1 _ _ _ _ => up_row (by omega)) (FQ.rf.up (by unfold QS; omega)).x⟩
  have ht := g.t
  have hso := g.2.2.1.2.2.2.1
  have et : X 54 2 = S 0 2 := g.1.2.2.2.2.at0
  have et' : X 127 0 = S 0 2 := g.2.1.2.2.1.1
  unfold f_X11_go f_X12_go
  rw [pu_isWithin, Option.bind_some, if_b1]
  simp only [bM_eq, pu_isIn, Option.bind_some, if_b1]
  by_cases q1 : 0 ≤ p1 ∧ p1 ≤ 99
  rotate_left
  · simp only [if_neg q1]; exact no
  simp only [if_pos q1]
  have hso1 := hso.1
  have w1 : w32 (S 0 2 + p1) = S 0 2 + p1 := w32_i (by omega) (by omega)
  rw [et, w1]
  by_cases q2 : 9900 < S 0 2 + p1
  · rw [if_pos q2]
    obtain ⟨r, M1, M2, e1, e2, e3⟩ := no
    refine ⟨r, M1, M2, e1, ?_, e3⟩
    cases e1
    show (if 9900 < w32 (upM X 88 2 0 127 0 + p1) then _ else _) = _
    rw [if_pos (show 9900 < w32 (upM X 88 2 0 127 0 + p1) by rw [up_na (by decide), et', w1]; exact q2)]
    exact e2
  rw [if_neg q2]
  have w1' : ∀ m : MM, (∀ a, 88 ≤ a → m a = X a) → ¬ 9900 < w32 (upM m 88 2 0 127 0 + p1) := fun m hm => by rw [up_na (by decide), hm 127 (by decide), et', w1]; exact q2
  clear w1
  obtain ⟨n, rfl⟩ := nat_of q1.1
  obtain ⟨⟨a1, a2, a3, a4, a5⟩, ⟨b1, b2, b3⟩, ⟨c1, c2, c3, c4, c5, c6⟩, d1, d2, d3⟩ := id g
  have hrun := fun (k : Nat) (hk : k ≤ n) => c_run (n := k) a1 (by decide) a3 c1 a5 c4 c5 c6 a4 c2 c3 (Or.inl (d1 9 (by decide))) (by omega) (by omega)
  obtain ⟨M1, e1, ⟨r1, r2, r3, r4⟩, r5, r6, r7, r8⟩ := hrun n (Nat.le_refl _)
  have hi : ∀ a, 88 ≤ a → M1 a = X a := fun a ha => r4 a (by omega) (by omega) (by omega)
  have up0 : ∀ a, a ≠ 84 → (if 0 < (n : Int) then upM M1 84 0 0 else M1) a = M1 a := fun a ha => by
    split
    · exact up_row ha
    · rfl
  have oi : ((if 0 < (n : Int) then some (upM M1 84 0 0) else some M1) : Option MM) = some (if 0 < (n : Int) then upM M1 84 0 0 else M1) := by split <;> rfl
  rw [e1, Option.bind_some, oi, Option.bind_some]
  clear oi
  -- the second system over it
  have hi2 : ∀ a, 88 ≤ a → (if 0 < (n : Int) then upM M1 84 0 0 else M1) a = X a := fun a ha => by rw [up0 a (by omega), hi a ha]
  have u84 : (if 0 < (n : Int) then upM M1 84 0 0 else M1) 84 0 = if 0 < (n : Int) then 0 else X 84 0 := by
    split
    · exact upM_eq
    · rw [r4 84 (by omega) (by omega) (by omega)]
  generalize (if 0 < (n : Int) then upM M1 84 0 0 else M1) = M2 at up0 hi2 u84
  have g1 := g.cg FrX.rf (fqx_low hi2)
  obtain ⟨g2, f2⟩ := thr0 g1
  obtain ⟨N1, e2, tm, rw0, e77, cm, f3⟩ := base_TM g2
  have f3 := f3.tr f2
  have g3 := g1.q Fr3.rf f3
  obtain ⟨N2, e3, i1, i2⟩ : ∃ N2, (lp (X := Int × MM) (Y := MM) (fun x6 =>
if x6.1 < (n : Int) then
((f_X12_goOn x6.2 0).bind fun x8 =>
some (Sum.inl (w32 (x6.1 + 1), x8)))
else
some (Sum.inr x6.2)) FU (0, N1)) = some N2 ∧ (CM N2 H (aRun H LV S n) (fun _ _ => 0) 0 False ∧ FM 0 N2 N1) := by
    refine lp_cnt n (fun k m => CM m H (aRun H LV S k) (fun _ _ => 0) 0 False ∧ FM 0 m N1) _ (by omega) ?_ ?_ _ ⟨cm, FM.rf⟩
    · rintro k m hk ⟨i1, i2⟩
      left
      obtain ⟨_, _, ⟨_, s2, s3, _⟩, _, s6, s7, _⟩ := hrun k (by omega)
      have h9 : aRun H LV S k 1 9 = 0 := by rw [s7]; exact d1 9 (by decide)
      have hor := aOut_r c1 (aRun H LV S k 0 2)
      have s3' := s3
      unfold SP at s3'
      obtain ⟨m2, y1, y2, y3⟩ := m_goOn (b := 0) (o := aOut H (aRun H LV S k 0 2)) (i2.hm g3.2.1.1) c1 i1 s2 s3 ⟨Int.le_refl _, by show aRun H LV S k 0 13 + 0 ≤ 99 * aRun H LV S k 0 2; omega⟩ (i2.ml g3.2.1.2.1) c2 c3 (by decide) (by rw [i2.sh, e77]; decide) (by rw [i2.sh, e77, Int.add_zero, cl_in hor]) (Or.inl (by rw [aRun_1 (by decide)]; exact d2 6 (by decide))) (by omega)
      have y1 : f_X12_goOn m 0 = some m2 := y1
      have kn : (k : Int) < (n : Int) := by omega
      refine ⟨m2, ?_, ?_, y3.tr i2⟩
      · try dsimp +instances only
        rw [if_pos kn, y1, Option.bind_some, wi1 (by omega)]
        rfl
      · show CM m2 H (aStep H LV (aRun H LV S k)) _ 0 False
        rw [aStep0 h9]
        exact y2
    · rintro m ⟨i1, i2⟩
      refine ⟨m, ?_, i1, i2⟩
      try dsimp +instances only
      rw [if_neg (by omega)]
  have e85 : N2 88 85 = X 84 0 := by rw [i2 88 85 (by unfold MS; omega), f3 88 85 (by unfold QS MS; omega), hi2 88 (by decide)]; exact x.2.2.2.1.1.1.symm
  have o85 : ((if 0 < (n : Int) then some 0 else some (N2 88 85)) : Option Int) = some (if 0 < (n : Int) then 0 else X 84 0) := by rw [e85, iteo]
  have e127 : N2 127 0 = S 0 2 + n := by rw [i1.1.1]; exact r6
  have eM : M2 54 2 = S 0 2 + n := by rw [up0 54 (by decide), r1.at0]; exact r6
  have lowN : ∀ a, a < 88 → N2 a = M2 a := fun a ha => funext fun j => by rw [i2 a j (by unfold MS; omega), f3 a j (by unfold QS MS; omega)]
  have lowX : ∀ a, a < 54 ∨ 61 < a → a < 88 → a ≠ 84 → a ≠ h + 17 → a ≠ h + 18 → N2 a = X a := fun a k1 k2 k3 k4 k5 => by rw [lowN a k2, up0 a k3, r4 a (by omega) k4 k5]
  have hiN : ∀ a j, 88 ≤ a → a < 139 → ¬ QS a j → ¬ MS 0 a j → N2 a j = X a j := fun a j k1 k2 k3 k4 => by rw [i2 a j k4, f3 a j k3, hi2 a k1]
  refine ⟨S 0 2 + n, M2, upM N2 88 85 (if 0 < (n : Int) then 0 else X 84 0), by rw [eM], ?_, h, H, LV, aRun H LV S n, ?_, ?_⟩
  · show (if 9900 < w32 (upM M2 88 2 0 127 0 + (n : Int)) then _ else _) = _
    rw [if_neg (w1' M2 hi2), e2, Option.bind_some, e3, Option.bind_some, o85, Option.bind_some, up_na (by decide), e127]
  · obtain ⟨⟨k1, k2, k3, k4, k5, k6, k7⟩, l2, l3, l4, l5, l6, l7⟩ := i1
    have x10 := r2.2.2.2.2.2.2.2.2.2.1
    have x11 := r2.2.2.2.2.2.2.2.2.2.2.1
    refine ⟨⟨a1, ?_, ?_, ?_, ?_⟩, ⟨?_, ?_, ⟨⟨?_, ?_, ?_, ?_, ?_, ?_, ?_⟩, ?_, ?_, ?_⟩⟩, ⟨c1, c2, c3, r2, r3, r5⟩, fun j hj => ?_, fun j hj => ?_, ?_⟩
    · rw [up_na (by decide), lowX 0 (by decide) (by decide) (by decide) (by omega) (by omega)]; exact a2
    · intro k u1 u2 u3
      rw [up_row (by omega), lowX (h + k) (by omega) (by omega) (by omega) (by omega) (by omega)]
      exact a3 k u1 u2 u3
    · intro m hm w hw hn
      exact a4 m (fun k u1 u2 => by rw [hm k u1 u2, up_row (by omega), lowX (h + k) (by omega) (by omega) (by omega) (by omega) (by omega)]) w hw hn
    · intro k hk
      rw [up_row (by omega), lowN (54 + k) (by omega), up0 (54 + k) (by omega)]
      exact r1 k hk
    · have fa : ∀ a j, 92 ≤ a → a ≤ 105 → upM N2 88 85 (if 0 < (n : Int) then 0 else X 84 0) a j = X a j := fun a j u1 u2 => by rw [up_na (by omega)]; exact hiN a j (by omega) (by omega) (by unfold QS MS; omega) (by unfold MS; omega)
      have f8 : ∀ j, 12 ≤ j → j ≤ 16 → upM N2 88 85 (if 0 < (n : Int) then 0 else X 84 0) 88 j = X 88 j := fun j u1 u2 => by rw [up_ni (by omega)]; exact hiN 88 j (by omega) (by omega) (by unfold QS MS; omega) (by unfold MS; omega)
      unfold HM at *
      simp (disch := decide) only [fa, f8]
      exact b1
    · intro n' hn w hw ok
      have e : ∀ a, 106 ≤ a → a ≤ 111 → upM N2 88 85 (if 0 < (n : Int) then 0 else X 84 0) a = X a := fun a u1 u2 => funext fun j => by rw [up_na (by omega)]; exact hiN a j (by omega) (by omega) (by unfold QS MS; omega) (by unfold MS; omega)
      have := b2 n' (fun a j x => (hn a j x).trans (congrFun (e a (by omega) (by omega)) j)) w hw ok
      rw [e 106 (by omega) (by omega)]
      exact this
    · rw [up_na (by decide)]; exact k1
    · rw [up_na (by decide)]; exact k2
    · rw [up_na (by decide)]; exact k3
    · rw [up_na (by decide)]; exact k4
    · rw [up_na (by decide), k5, Int.add_zero]
    · rw [up_na (by decide)]; exact k6
    · rw [up_na (by decide), k7, Int.add_zero, w32_id x11.1]
    · intro p hp
      obtain ⟨m1, m2⟩ := l2 p hp
      have m3 := l4 (by rw [aRun_1 (by decide)]; exact d1 1 (by decide)) p hp
      rw [Nat.mul_zero, Nat.zero_add] at m1
      rw [Nat.mul_zero, Nat.zero_add, Int.add_zero] at m2 m3
      rw [w32_id (x10 p hp).2] at m2
      rw [w32_id (x10 p hp).1] at m3
      rw [up_na (by decide), up_na (by decide), up_na (by decide)]
      exact ⟨m1, m2, m3⟩
    · intro r hr
      obtain ⟨m1, m2⟩ := l3 r hr
      rw [Nat.mul_zero, Nat.zero_add] at m1
      rw [up_na (by decide)]
      refine ⟨m1, fun k hk => ?_⟩
      have := m2 k hk
      rw [Nat.mul_zero, Nat.zero_add] at this
      rw [up_na (by decide)]
      exact this
    · intro j hj
      rw [up_na (by decide), up_na (by decide)]
      exact l5 rfl j hj
    · rw [aRun_1 (by omega)]; exact d1 j hj
    · rw [aRun_1 (by omega)]; exact d2 j hj
    · rw [r6]; omega
  · refine x.par2 (fun a ha => ?_) (fun j hj => ?_) (fun a j ha => ?_) ?_
    · rw [up_row (by omega)]; exact lowX a (by omega) (by omega) (by omega) (by omega) (by omega)
    · rw [up_ni (by omega)]; exact hiN 88 j (by omega) (by omega) (by unfold QS MS; omega) (by unfold MS; omega)
    · rw [up_na (by omega)]; exact hiN a j (by omega) (by omega) (by unfold QS MS; omega) (by unfold MS; omega)
    · have v84 : upM N2 88 85 (if 0 < (n : Int) then 0 else X 84 0) 84 0 = if 0 < (n : Int) then 0 else X 84 0 := by rw [up_na (by decide), lowN 84 (by decide)]; exact u84
      by_cases q : 0 < (n : Int)
      · rw [if_pos q] at v84 ⊢
        refine ⟨⟨by rw [v84, upM_eq], by rw [v84]; decide, by rw [v84]; decide⟩, fun k hk => ?_⟩
        rw [v84] at hk
        omega
      · have n0 : n = 0 := by omega
        subst n0
        rw [if_neg q] at v84 ⊢
        have y : PAR X X H S := x.2.2.2.1
        have cl : ∀ a, a = 85 ∨ a = 86 ∨ a = 87 → upM N2 88 85 (X 84 0) a = X a := fun a ha => by rw [up_row (by omega)]; exact lowX a (by omega) (by omega) (by omega) (by omega) (by omega)
        have n133 : ∀ j, upM N2 88 85 (X 84 0) 133 j = X 133 j := fun j => by rw [up_na (by decide)]; exact hiN 133 j (by decide) (by decide) (by unfold QS MS; omega) (by unfold MS; omega)
        show PAR _ _ H S
        unfold PAR rowU at *
        rw [v84, cl 85 (by decide), cl 86 (by decide), cl 87 (by decide), upM_eq]
        simp only [n133]
        exact ⟨⟨trivial, y.1.2⟩, y.2⟩
end GOES
