section REST1
variable {M N H S B T ST : MM} {LV : LVT} {h : Nat}
/-- the cells of the second system that now and the text rest on -/
def NB (a j : Nat) : Prop := (a = 88 ∧ 12 ≤ j ∧ j ≤ 16) ∨ (92 ≤ a ∧ a ≤ 111) ∨ (116 ≤ a ∧ a ≤ 120 ∧ a ≠ 117 ∧ j < 5) ∨ (a = 117 ∧ j < 30) ∨ (121 ≤ a ∧ a ≤ 127 ∧ j = 0) ∨ a = 128 ∨ a = 129
theorem BA.cg2 {M' N' : MM} (g : BA M N h H LV S) (f : ∀ a, 8 ≤ a → a < 62 → a ≠ h + 17 → a ≠ h + 18 → M' a = M a) (f0 : M' 0 3 = M 0 3) (f' : ∀ a j, NB a j → N' a j = N a j) : BA M' N' h H LV S := by
  obtain ⟨⟨a1, a2, a3, a4, a5⟩, ⟨b1, b2, b3⟩, c, d⟩ := g
  have h5 := c.1.1.2
  refine ⟨⟨a1, by rw [f0]; exact a2, ?_, ?_, ?_⟩, ⟨?_, ?_, ?_⟩, c, d⟩
  · intro k k1 k2 k3
    rw [f (h + k) (by omega) (by omega) (by omega) (by omega)]
    exact a3 k k1 k2 k3
  · intro m hm w hw hn
    exact a4 m (fun k x y => by rw [hm k x y, f (h + k) (by omega) (by omega) (by omega) (by omega)]) w hw hn
  · intro k hk
    rw [f (54 + k) (by omega) (by omega) (by omega) (by omega)]
    exact a5 k hk
  · have fa : ∀ a j, 92 ≤ a → a ≤ 105 → N' a j = N a j := fun a j h1 h2 => f' a j (by unfold NB; omega)
    have f8 : ∀ j, 12 ≤ j → j ≤ 16 → N' 88 j = N 88 j := fun j h1 h2 => f' 88 j (by unfold NB; omega)
    unfold HM at *
    simp (disch := decide) only [fa, f8]
    exact b1
  · intro n hn w hw ok
    have e : ∀ a, 106 ≤ a → a ≤ 111 → N' a = N a := fun a x y => funext fun j => f' a j (by unfold NB; omega)
    have := b2 n (fun a j x => (hn a j x).trans (congrFun (e a (by omega) (by omega)) j)) w hw ok
    rw [e 106 (by omega) (by omega)]
    exact this
  · have fa : ∀ a j, 116 ≤ a → a ≤ 120 → a ≠ 117 → j < 5 → N' a j = N a j := fun a j h1 h2 h3 h4 => f' a j (by unfold NB; omega)
    have f7 : ∀ j, j < 30 → N' 117 j = N 117 j := fun j h1 => f' 117 j (by unfold NB; omega)
    have fb : ∀ a, 121 ≤ a → a ≤ 127 → N' a 0 = N a 0 := fun a h1 h2 => f' a 0 (by unfold NB; omega)
    have fl : ∀ j, N' 128 j = N 128 j ∧ N' 129 j = N 129 j := fun j => ⟨f' 128 j (by unfold NB; omega), f' 129 j (by unfold NB; omega)⟩
    obtain ⟨g1, g2, g3, g4⟩ := b3
    refine ⟨?_, ?_, ?_, ?_⟩
    · simp (disch := decide) only [fb]; exact g1
    · intro p hp
      rw [fa 120 p (by decide) (by decide) (by decide) hp, fa 119 p (by decide) (by decide) (by decide) hp, fa 118 p (by decide) (by decide) (by decide) hp]
      exact g2 p hp
    · intro r hr
      rw [fa 116 r (by decide) (by decide) (by decide) (by omega)]
      refine ⟨(g3 r hr).1, fun k hk => ?_⟩
      rw [f7 _ (by omega)]
      exact (g3 r hr).2 k hk
    · intro j hj
      rw [(fl j).1, (fl j).2]
      exact g4 j hj
/-- the rest of what is in common, but for the tape, the faults and the wear -/
theorem RX.cg2 {M' N' : MM} (x : RX M N h H S) (f0 : M' 0 4 = M 0 4 ∧ M' 0 7 = M 0 7) (f : ∀ a, a = 4 ∨ a = 11 ∨ a = 34 ∨ (62 ≤ a ∧ a ≤ 69) ∨ (84 ≤ a ∧ a ≤ 87) → M' a = M a) (n8 : ∀ j, j = 85 ∨ j = 87 → N' 88 j = N 88 j) (na : ∀ a j, a = 90 ∨ (133 ≤ a ∧ a ≤ 138) → N' a j = N a j) (t : TPR M' N') (fa : M' 0 11 = N' 88 4 ∧ M' 0 12 = N' 88 5) (l : LGR M' N') : RX M' N' h H S := by
  obtain ⟨x1, x2, x3, x4, ⟨x5, x6, x7⟩, x8, x9⟩ := x
  refine ⟨t, fa, l, ?_, ⟨?_, ?_, ?_⟩, ?_, ?_⟩
  · unfold PAR rowU at *; simp (disch := decide) only [f, n8, na]; exact x4
  · rw [f0.2, n8 87 (by decide)]; exact x5
  · rw [f 63 (by decide)]; exact x6
  · rw [f0.2]
    intro z
    obtain ⟨J, j1, j2, j3⟩ := x7 z
    refine ⟨J, fun k hk => by rw [f (62 + k) (by omega)]; exact j1 k hk, ?_, j3⟩
    unfold IMG at *
    simp (disch := decide) only [na]
    exact j2
  · unfold WDR at *; simp (disch := decide) only [f, na]; exact x8
  · rw [f0.1, f 11 (by decide), f 34 (by decide)]; exact x9
theorem m_noted {n : Nat} (hn : N 88 80 = (n : Int)) (h24 : n < 24) (p1 p2 p3 : Int) : ∃ N', f_X12_noted N p1 p2 p3 = some ((n : Int), N') ∧ (N' 131 (3 * n) = p1 ∧ N' 131 (3 * n + 1) = p2 ∧ N' 131 (3 * n + 2) = p3 ∧ N' 88 80 = (n : Int) + 1) ∧ ∀ a j, ¬ (a = 131 ∧ 3 * n ≤ j) → ¬ (a = 88 ∧ j = 80) → N' a j = N a j := by
  have z3 : 0 ≤ 3 * (n : Int) ∧ 3 * (n : Int) < 72 := by omega
  have z4 : 0 ≤ 3 * (n : Int) + 1 ∧ 3 * (n : Int) + 1 < 72 := by omega
  have z5 : 0 ≤ 3 * (n : Int) + 2 ∧ 3 * (n : Int) + 2 < 72 := by omega
  have t3 : (3 * (n : Int)).toNat = 3 * n := by omega
  have t4 : (3 * (n : Int) + 1).toNat = 3 * n + 1 := by omega
  have t5 : (3 * (n : Int) + 2).toNat = 3 * n + 2 := by omega
  have en : (n : Int) + 1 - 1 = (n : Int) := by omega
  have hr : -2147483648 ≤ (n : Int) ∧ (n : Int) ≤ 2147483647 := by omega
  have w1 := wi1 (k := n) (by omega)
  have y := wi2 (k := (n : Int)) (by clear w1; omega)
  unfold f_X12_noted
  rw [hn, y.2.2.2.1, gd_t z3, t3, bM_eq, up_na (by decide), hn, y.2.2.2.1, y.2.2.2.2.1, gd_t z4, t4, bM_eq, up_na (by decide), up_na (by decide), hn, y.2.2.2.1, y.2.2.2.2.2, gd_t z5, t5, bM_eq, bM_eq, upM_eq, up_na (by decide), up_na (by decide), up_na (by decide), hn, w1, en, w32_i hr.1 hr.2]
  clear w1 y
  refine ⟨_, rfl, ⟨?_, ?_, ?_, upM_eq⟩, fun a j h1 h2 => ?_⟩
  · rw [up_na (by decide), up_ni (by omega), up_ni (by omega), upM_eq]
  · rw [up_na (by decide), up_ni (by omega), upM_eq]
  · rw [up_na (by decide), upM_eq]
  · rw [upM_ne a j h2, upM_ne a j (by omega), upM_ne a j (by omega), upM_ne a j (by omega)]
/-- a row of wear more, on both sides -/
theorem al_log {X M1 : MM} {LV : LVT} (g : BA X X h H LV S) (x : RX X X h H S) {n : Nat} (hn : X 78 0 = (n : Int)) (h24 : n < 24) {p1 p2 p3 : Int} (c0 : M1 78 0 = (n : Int) + 1) (c1 : ∀ a j, ¬ (79 ≤ a ∧ a ≤ 82 ∧ j = n) → ¬ (a = 78 ∧ j = 0) → M1 a j = X a j) (c2 : (M1 82 n = -1 ∧ (p1 = M1 79 n ∧ p2 = M1 80 n ∧ p3 = M1 81 n) ∧ (1 ≤ M1 79 n ∧ M1 79 n ≤ 60) ∧ (M1 81 n = 0 ∨ M1 81 n = 1)) ∨ ((0 ≤ M1 82 n ∧ M1 82 n < n) ∧ p1 = -1 ∧ p2 = M1 82 n)) : ∃ N', f_X12_noted (upM M1 88 2 0) p1 p2 p3 = some ((n : Int), N') ∧ AL N' := by
  have hh := g.1.1
  obtain ⟨⟨l1, l2, l3⟩, ⟨l4, l5, l6⟩, l7⟩ := x.2.2.1
  obtain ⟨N', e, ⟨q1, q2, q3, q4⟩, f⟩ := m_noted (N := upM M1 88 2 0) (n := n) (by rw [up_ni (by decide), c1 88 80 (by omega) (by omega), ← l1]; exact hn) h24 p1 p2 p3
  have fr : ∀ a j, ¬ (79 ≤ a ∧ a ≤ 82 ∧ j = n) → ¬ (a = 78 ∧ j = 0) → ¬ (a = 131 ∧ 3 * n ≤ j) → ¬ (a = 88 ∧ (j = 80 ∨ j = 2)) → N' a j = X a j := fun a j k1 k2 k3 k4 => by rw [f a j k3 (by omega), upM_ne a j (by omega), c1 a j k1 k2]
  have lo : ∀ a j, a < 88 → N' a j = M1 a j := fun a j ha => by rw [f a j (by omega) (by omega), up_na (by omega)]
  have ra : ∀ a, ¬ (78 ≤ a ∧ a ≤ 82) → a ≠ 131 → a ≠ 88 → N' a = X a := fun a k1 k2 k3 => funext fun j => fr a j (by omega) (by omega) (by omega) (by omega)
  refine ⟨N', e, h, H, LV, S, g.cg2 (fun a k0 k1 _ _ => ra a (by omega) (by omega) (by omega)) (fr 0 3 (by omega) (by omega) (by omega) (by omega)) (fun a j hn => by unfold NB at hn; exact fr a j (by omega) (by omega) (by omega) (by omega)), ?_⟩
  refine x.cg2 ⟨fr 0 4 (by omega) (by omega) (by omega) (by omega), fr 0 7 (by omega) (by omega) (by omega) (by omega)⟩ (fun a k => ra a (by omega) (by omega) (by omega)) (fun j hj => fr 88 j (by omega) (by omega) (by omega) (by omega)) (fun a j k => fr a j (by omega) (by omega) (by omega) (by omega)) ?_ ?_ ?_
  · have x1 := x.1
    have r0' : N' 0 = X 0 := ra 0 (by decide) (by decide) (by decide)
    have r1' : N' 1 = X 1 := ra 1 (by decide) (by decide) (by decide)
    have r89 : N' 89 = X 89 := ra 89 (by decide) (by decide) (by decide)
    unfold TPR at *
    rw [r0', r1', r89, fr 88 1 (by omega) (by omega) (by omega) (by omega)]
    exact x1
  · rw [fr 0 11 (by omega) (by omega) (by omega) (by omega), fr 0 12 (by omega) (by omega) (by omega) (by omega), fr 88 4 (by omega) (by omega) (by omega) (by omega), fr 88 5 (by omega) (by omega) (by omega) (by omega)]
    exact x.2.1
  · have e78 : N' 78 0 = (n : Int) + 1 := by rw [lo 78 0 (by decide)]; exact c0
    have e781 : N' 78 1 = X 78 1 := fr 78 1 (by omega) (by omega) (by omega) (by omega)
    have e81 : N' 88 81 = X 88 81 := fr 88 81 (by omega) (by omega) (by omega) (by omega)
    refine ⟨⟨by rw [e78, q4], by rw [e78]; omega, by rw [e78]; omega⟩, ⟨by rw [e781, e81]; exact l4, by rw [e781]; exact l5, by rw [e781, e78]; omega⟩, fun k hk => ?_⟩
    rw [e78] at hk
    by_cases q : k = n
    · subst q
      rw [lo 82 k (by decide), lo 79 k (by decide), lo 80 k (by decide), lo 81 k (by decide), q1, q2, q3]
      exact c2
    · rw [fr 82 k (by omega) (by omega) (by omega) (by omega), fr 79 k (by omega) (by omega) (by omega) (by omega), fr 80 k (by omega) (by omega) (by omega) (by omega), fr 81 k (by omega) (by omega) (by omega) (by omega), fr 131 (3 * k) (by omega) (by omega) (by omega) (by omega), fr 131 (3 * k + 1) (by omega) (by omega) (by omega) (by omega), fr 131 (3 * k + 2) (by omega) (by omega) (by omega) (by omega)]
      exact l7 k (by omega)
theorem al_thr {X : MM} (hX : AL X) : AL (upM X 88 2 0) := by
  obtain ⟨h, H, LV, S, g, x⟩ := hX
  exact ⟨h, H, LV, S, g.cg (fun a h1 _ _ _ _ => up_row (by omega)) (FQ.rf.up (by unfold QS; omega)).x, x.cg g.1.1 (fun a h1 _ _ _ _ => up_row (by omega)) (FQ.rf.up (by unfold QS; omega)).x⟩
theorem al_wear {X : MM} (hX : AL X) (p1 p2 p3 : Int) (hp : p3 = 0 ∨ p3 = 1) : AN (f_X11_wear X p1 p2 p3) (fun m => f_X12_wear m p1 p2 p3) := by
  have hX0 := hX
  obtain ⟨h, H, LV, S, g, x⟩ := hX
  obtain ⟨⟨l1, l2, l3⟩, _⟩ := x.2.2.1
  unfold f_X11_wear f_X12_wear
  simp only [bM_eq, pu_isWithin, pu_isSet11, pu_isIn, pu_isSet12, Option.bind_some, if_b1]
  have u80 : upM X 88 2 0 88 80 = X 78 0 := by rw [up_ni (by decide)]; exact l1.symm
  by_cases q1 : 1 ≤ p1 ∧ p1 ≤ 60
  rotate_left
  · refine ⟨-1, X, upM X 88 2 0, by rw [if_neg q1], ?_, al_thr hX0⟩
    try dsimp +instances only
    rw [if_neg q1]; split <;> rfl
  by_cases q2 : 5 ≤ p2 ∧ p2 ≤ 30
  rotate_left
  · refine ⟨-1, X, upM X 88 2 0, by rw [if_pos q1, if_neg q2], ?_, al_thr hX0⟩
    try dsimp +instances only
    rw [if_pos q1, if_neg q2]; split <;> rfl
  rw [if_pos q1, if_pos q2]
  unfold f_X4_addWear
  by_cases q3 : X 78 0 < 24
  rotate_left
  · refine ⟨-1, X, upM X 88 2 0, by rw [if_neg q3]; rfl, ?_, al_thr hX0⟩
    try dsimp +instances only
    rw [if_pos (show upM X 88 2 0 88 80 = 24 by rw [u80]; omega)]
  obtain ⟨n, hn⟩ := nat_of l2
  have zn : 0 ≤ (n : Int) ∧ (n : Int) < 24 := by omega
  have n24 : n < 24 := by omega
  have en : (n : Int) + 1 - 1 = (n : Int) := by omega
  have hr : -2147483648 ≤ (n : Int) ∧ (n : Int) ≤ 2147483647 := by omega
  have w1 := wi1 (k := n) (by omega)
  have ec : (if X 78 0 < 24 then (gd (0 ≤ X 78 0 ∧ X 78 0 < (24 : Int)) <| bM (upM X 79 (X 78 0).toNat p1) fun M3 => gd (0 ≤ M3 78 0 ∧ M3 78 0 < (24 : Int)) <| bM (upM M3 80 (M3 78 0).toNat p2) fun M5 => gd (0 ≤ M5 78 0 ∧ M5 78 0 < (24 : Int)) <| gd (p3 = 0 ∨ p3 = 1) <| bM (upM M5 81 (M5 78 0).toNat p3) fun M8 => gd (0 ≤ M8 78 0 ∧ M8 78 0 < (24 : Int)) <| bM (upM M8 82 (M8 78 0).toNat (-1)) fun M10 => bM (upM M10 78 0 (w32 ((M10 78 0) + 1))) fun M11 => some (w32 ((M11 78 0) - 1), M11)) else some ((-1), X)) = some ((n : Int), upM (upM (upM (upM (upM X 79 n p1) 80 n p2) 81 n p3) 82 n (-1)) 78 0 ((n : Int) + 1)) := by
    rw [if_pos q3]
    simp (disch := decide) only [bM_eq, up_na]
    rw [hn, gd_t zn, gd_t zn, gd_t zn, gd_t hp, gd_t zn, Int.toNat_natCast, w1, upM_eq, en, w32_i hr.1 hr.2]
  clear w1
  rw [ec, Option.bind_some]
  clear ec
  obtain ⟨N', e, al⟩ := al_log (M1 := upM (upM (upM (upM (upM X 79 n p1) 80 n p2) 81 n p3) 82 n (-1)) 78 0 ((n : Int) + 1)) g x hn n24 (p1 := p1) (p2 := p2) (p3 := p3) upM_eq (fun a j k1 k2 => by rw [upM_ne a j k2, upM_ne a j (by omega), upM_ne a j (by omega), upM_ne a j (by omega), upM_ne a j (by omega)]) (Or.inl (by simp (disch := decide) only [up_na, upM_eq]; exact ⟨trivial, ⟨trivial, trivial, trivial⟩, q1, hp⟩))
  refine ⟨(n : Int), _, N', rfl, ?_, al⟩
  have v80 : ¬ upM (upM (upM (upM (upM (upM X 79 n p1) 80 n p2) 81 n p3) 82 n (-1)) 78 0 ((n : Int) + 1)) 88 2 0 88 80 = 24 := by
    simp (disch := decide) only [up_na, up_ni]
    omega
  have ib : ((if p3 = 0 then some 0 else some 1) : Option Int) = some p3 := by rcases hp with e | e <;> rw [e] <;> rfl
  try dsimp +instances only
  rw [if_neg v80, if_pos q1, if_pos q2, ib, Option.bind_some, e]
  rfl
theorem al_strike {X : MM} (hX : AL X) (p1 : Int) : AN (f_X11_strike X p1) (fun m => f_X12_strike m p1) := by
  have hX0 := hX
  obtain ⟨h, H, LV, S, g, x⟩ := hX
  obtain ⟨⟨l1, l2, l3⟩, _⟩ := x.2.2.1
  have u80 : upM X 88 2 0 88 80 = X 78 0 := by rw [up_ni (by decide)]; exact l1.symm
  unfold f_X11_strike f_X4_addStrike f_X12_strike
  simp only [bM_eq]
  have no : ∀ o : Option (Int × MM), o = some (-1, X) → (fun m : MM => if upM m 88 2 0 88 80 = 24 then some (-1, upM m 88 2 0) else if p1 < 0 then some (-1, upM m 88 2 0) else if p1 < upM m 88 2 0 88 80 then (f_X12_noted (upM m 88 2 0) (-1) p1 0).bind fun x5 => some (x5.1, x5.2) else some (-1, upM m 88 2 0)) X = some (-1, upM X 88 2 0) → AN (o.bind fun x1 => some (x1.1, x1.2)) (fun m : MM => if upM m 88 2 0 88 80 = 24 then some (-1, upM m 88 2 0) else if p1 < 0 then some (-1, upM m 88 2 0) else if p1 < upM m 88 2 0 88 80 then (f_X12_noted (upM m 88 2 0) (-1) p1 0).bind fun x5 => some (x5.1, x5.2) else some (-1, upM m 88 2 0)) := fun o e1 e2 => ⟨-1, X, _, by rw [e1]; rfl, e2, al_thr hX0⟩
  by_cases q1 : p1 < 0
  · refine no _ (by rw [if_pos q1]) ?_
    try dsimp +instances only
    rw [if_pos q1]; split <;> rfl
  by_cases q2 : p1 < X 78 0
  rotate_left
  · refine no _ (by rw [if_neg q1, if_neg q2]) ?_
    try dsimp +instances only
    rw [if_neg q1, if_neg (show ¬ p1 < upM X 88 2 0 88 80 by rw [u80]; exact q2)]; split <;> rfl
  by_cases q3 : X 78 0 < 24
  rotate_left
  · refine no _ (by rw [if_neg q1, if_pos q2, if_neg q3]) ?_
    try dsimp +instances only
    rw [if_pos (show upM X 88 2 0 88 80 = 24 by rw [u80]; omega)]
  clear no
  obtain ⟨n, hn⟩ := nat_of l2
  have zn : 0 ≤ (n : Int) ∧ (n : Int) < 24 := by omega
  have n24 : n < 24 := by omega
  have en : (n : Int) + 1 - 1 = (n : Int) := by omega
  have hr : -2147483648 ≤ (n : Int) ∧ (n : Int) ≤ 2147483647 := by omega
  have w1 := wi1 (k := n) (by omega)
  have zp : 0 ≤ p1 ∧ p1 < (n : Int) := by clear w1; omega
  rw [if_neg q1, if_pos q2, if_pos q3, hn, gd_t zn, upM_eq, up_na (a := 82) (x := 78) (by decide), hn, Int.toNat_natCast, w1, en, w32_i hr.1 hr.2, Option.bind_some]
  clear w1
  obtain ⟨N', e, al⟩ := al_log (M1 := upM (upM X 82 n p1) 78 0 ((n : Int) + 1)) g x hn n24 (p1 := -1) (p2 := p1) (p3 := 0) upM_eq (fun a j k1 k2 => by rw [upM_ne a j k2, upM_ne a j (by omega)]) (Or.inr (by rw [up_na (by decide), upM_eq]; exact ⟨zp, rfl, rfl⟩))
  refine ⟨(n : Int), _, N', rfl, ?_, al⟩
  have v : upM (upM (upM X 82 n p1) 78 0 ((n : Int) + 1)) 88 2 0 88 80 = (n : Int) := by
    simp (disch := decide) only [up_na, up_ni]
    rw [← l1]; exact hn
  try dsimp +instances only
  rw [if_neg (show ¬ upM (upM (upM X 82 n p1) 78 0 ((n : Int) + 1)) 88 2 0 88 80 = 24 by rw [v]; omega), if_neg q1, if_pos (show p1 < upM (upM (upM X 82 n p1) 78 0 ((n : Int) + 1)) 88 2 0 88 80 by rw [v]; exact zp.2), e]
  rfl
theorem al_known {X : MM} (hX : AL X) (p1 : Int) : AN (f_X11_known X p1) (fun m => f_X12_known m p1) := by
  have hX0 := hX
  obtain ⟨h, H, LV, S, g, x⟩ := hX
  obtain ⟨⟨l1, l2, l3⟩, l4, l7⟩ := x.2.2.1
  have u80 : upM X 88 2 0 88 80 = X 78 0 := by rw [up_ni (by decide)]; exact l1.symm
  unfold f_X11_known f_X12_known
  simp only [bM_eq, pu_isWithin, pu_isIn, Option.bind_some, if_b1]
  by_cases q : -1 ≤ p1 ∧ p1 ≤ X 78 0
  rotate_left
  · refine ⟨0, X, upM X 88 2 0, by rw [if_neg q], ?_, al_thr hX0⟩
    try dsimp +instances only
    rw [if_neg (show ¬ (-1 ≤ p1 ∧ p1 ≤ upM X 88 2 0 88 80) by rw [u80]; exact q)]
  have v80 : upM (upM X 78 1 p1) 88 2 0 88 80 = X 78 0 := by rw [up_ni (by decide), up_na (by decide)]; exact l1.symm
  refine ⟨1, upM X 78 1 p1, upM (upM (upM X 78 1 p1) 88 2 0) 88 81 p1, by rw [if_pos q], ?_, h, H, LV, S, ?_, ?_⟩
  · try dsimp +instances only
    rw [if_pos (show -1 ≤ p1 ∧ p1 ≤ upM (upM X 78 1 p1) 88 2 0 88 80 by rw [v80]; exact q)]
  · have fr : ∀ a j, ¬ (a = 78 ∧ j = 1) → ¬ (a = 88 ∧ (j = 81 ∨ j = 2)) → upM (upM (upM X 78 1 p1) 88 2 0) 88 81 p1 a j = X a j := fun a j k1 k2 => by rw [upM_ne a j (by omega), upM_ne a j (by omega), upM_ne a j (by omega)]
    exact g.cg2 (fun a k0 k1 _ _ => funext fun j => fr a j (by omega) (by omega)) (fr 0 3 (by omega) (by omega)) (fun a j hn => by unfold NB at hn; exact fr a j (by omega) (by omega))
  · have fr : ∀ a j, ¬ (a = 78 ∧ j = 1) → ¬ (a = 88 ∧ (j = 81 ∨ j = 2)) → upM (upM (upM X 78 1 p1) 88 2 0) 88 81 p1 a j = X a j := fun a j k1 k2 => by rw [upM_ne a j (by omega), upM_ne a j (by omega), upM_ne a j (by omega)]
    have e1 : upM (upM (upM X 78 1 p1) 88 2 0) 88 81 p1 78 1 = p1 := by rw [up_na (by decide), up_na (by decide), upM_eq]
    have e2 : upM (upM (upM X 78 1 p1) 88 2 0) 88 81 p1 88 81 = p1 := upM_eq
    generalize upM (upM (upM X 78 1 p1) 88 2 0) 88 81 p1 = Y at fr e1 e2
    have ra : ∀ a, a ≠ 78 → a ≠ 88 → Y a = X a := fun a k1 k2 => funext fun j => fr a j (by omega) (by omega)
    refine x.cg2 ⟨fr 0 4 (by omega) (by omega), fr 0 7 (by omega) (by omega)⟩ (fun a k => ra a (by omega) (by omega)) (fun j hj => fr 88 j (by omega) (by omega)) (fun a j k => fr a j (by omega) (by omega)) ?_ ?_ ?_
    · have x1 := x.1
      unfold TPR at *
      rw [ra 0 (by decide) (by decide), ra 1 (by decide) (by decide), ra 89 (by decide) (by decide), fr 88 1 (by omega) (by omega)]
      exact x1
    · rw [fr 0 11 (by omega) (by omega), fr 0 12 (by omega) (by omega), fr 88 4 (by omega) (by omega), fr 88 5 (by omega) (by omega)]
      exact x.2.1
    · unfold LGR
      rw [fr 78 0 (by omega) (by omega), e1, e2, fr 88 80 (by omega) (by omega), ra 79 (by decide) (by decide), ra 80 (by decide) (by decide), ra 81 (by decide) (by decide), ra 82 (by decide) (by decide), ra 131 (by decide) (by decide)]
      exact ⟨⟨l1, l2, l3⟩, ⟨rfl, q.1, q.2⟩, l7⟩
end REST1
