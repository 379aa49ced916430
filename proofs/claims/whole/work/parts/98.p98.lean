section UNDO3
variable {M N H S B T ST : MM} {LV : LVT} {h : Nat}
theorem RowOK.cg {r r' : Nat → Int} (h1 : RowOK H r) (e : ∀ j, j < 8 → r' j = r j) : RowOK H r' := by
  obtain ⟨a, b, c⟩ := h1
  refine ⟨by rw [e 0 (by decide)]; exact a, by rw [e 1 (by decide)]; exact b, fun j j1 j2 => by rw [e j j2]; exact c j j1 j2⟩
theorem RX.par {M' N' S' : MM} (x : RX M N h H S) (f : ∀ a, a < 54 ∨ (61 < a ∧ a < 84) → M' a = M a) (f8 : ∀ j, j = 1 ∨ j = 4 ∨ j = 5 ∨ j = 80 ∨ j = 81 ∨ j = 87 → N' 88 j = N 88 j) (fa : ∀ a j, a = 89 ∨ a = 90 ∨ a = 131 ∨ a = 134 ∨ a = 135 ∨ a = 136 ∨ a = 137 ∨ a = 138 → N' a j = N a j) (p : PAR M' N' H S') : RX M' N' h H S' := by
  obtain ⟨x1, x2, x3, x4, ⟨x5, x6, x7⟩, x8, x9⟩ := x
  refine ⟨?_, ?_, ?_, p, ⟨?_, ?_, ?_⟩, ?_, ?_⟩
  · unfold TPR at *; simp (disch := decide) only [f, f8, fa]; exact x1
  · simp (disch := decide) only [f, f8]; exact x2
  · unfold LGR at *; simp (disch := decide) only [f, f8, fa]; exact x3
  · simp (disch := decide) only [f, f8]; exact x5
  · simp (disch := decide) only [f]; exact x6
  · simp (disch := decide) only [f]
    intro z
    obtain ⟨J, j1, j2, j3⟩ := x7 z
    refine ⟨J, fun k hk => by rw [f (62 + k) (by omega)]; exact j1 k hk, ?_, j3⟩
    unfold IMG at *
    simp (disch := decide) only [fa]
    exact j2
  · unfold WDR at *; simp (disch := decide) only [f, fa]; exact x8
  · simp (disch := decide) only [f]; exact x9
theorem q_chg (g : BA M N h H LV S) (x : RX M N h H S) {i : Nat} {v kind per : Int} (hi : i < 8) (hc : (kind = 0 ∧ i = 0) ∨ (kind = 1 ∧ i = 1) ∨ (kind = 2 ∧ i = 2) ∨ (kind = 3 ∧ (0 ≤ per ∧ per < 5) ∧ i = 3 + per.toNat)) (hr : RowOK H (snp (setS S i v))) : ∃ M1 N1, f_X5_note M kind per (snp S i) = some M1 ∧ f_X12_remember (upM N 88 2 0) = some N1 ∧ (∀ a, a < 84 ∨ 87 < a → M1 a = M a) ∧ (∀ a j, a ≠ 133 → a ≠ 88 ∨ (j ≠ 85 ∧ j ≠ 2) → N1 a j = N a j) ∧ ∀ M' N', (∀ a, a < 88 → a ≠ 54 → a ≠ 56 → M' a = M1 a) → CC M' 54 (setS S i v) → (∀ a j, 88 ≤ a → a < 139 → a ≠ 120 → a ≠ 121 → a ≠ 122 → a ≠ 123 → N' a j = N1 a j) → (N' 121 0 = snp (setS S i v) 0 ∧ N' 122 0 = snp (setS S i v) 1 ∧ N' 123 0 = snp (setS S i v) 2 ∧ ∀ p : Nat, p < 5 → N' 120 p = snp (setS S i v) (p + 3)) → BA M' N' h H LV (setS S i v) ∧ RX M' N' h H (setS S i v) := by
  have hh := g.1.1
  have hso := g.2.2.1.2.2.2.1
  have rn := row_now hso
  obtain ⟨⟨k1, k2, k3, k4, k5, k6, k7⟩, l2, l3, l4⟩ := g.2.1.2.2
  obtain ⟨⟨p1, p2, p3⟩, p4⟩ := x.2.2.2.1
  obtain ⟨M1, e1, ⟨n, n1, n2, n3, n4, n5⟩, f1⟩ := c_note (M := M) kind per (snp S i) ⟨p2, p3⟩
  have u0 : ∀ a j, ¬ (a = 88 ∧ j = 2) → upM N 88 2 0 a j = N a j := fun a j hn => upM_ne a j hn
  have u85 : upM N 88 2 0 88 85 = M 84 0 := by rw [u0 88 85 (by omega)]; exact p1.symm
  obtain ⟨N1, e2, ⟨n', m1, m2, m3, m4, m5⟩, f2⟩ := m_remember (N := upM N 88 2 0) (by rw [u85]; exact ⟨p2, p3⟩) (by rw [u0 123 0 (by omega), k4]; exact hso.2.2.2.1) (fun i hi => by rw [u0 120 i (by omega), (l2 i hi).1]; exact hso.2.2.2.2.2.2.2.1 i hi)
  rw [u85] at m3 m5
  rw [u0 121 0 (by omega), u0 122 0 (by omega), u0 123 0 (by omega), k2, k3, k4] at m4
  have en : n' = n := by omega
  subst en
  have f3 : ∀ a j, a ≠ 133 → a ≠ 88 ∨ (j ≠ 85 ∧ j ≠ 2) → N1 a j = N a j := fun a j h1 h2 => by rw [f2 a j h1 (by omega), u0 a j (by omega)]
  refine ⟨M1, N1, e1, e2, f1, f3, fun M' N' fM hM fN hN => ?_⟩
  have fM2 : ∀ a, a < 54 ∨ (61 < a ∧ a < 84) → M' a = M a := fun a ha => by rw [fM a (by omega) (by omega) (by omega), f1 a (by omega)]
  have fN2 : ∀ a j, 88 ≤ a → a < 139 → a ≠ 133 → a ≠ 120 → a ≠ 121 → a ≠ 122 → a ≠ 123 → a ≠ 88 ∨ (j ≠ 85 ∧ j ≠ 2) → N' a j = N a j := fun a j h1 h2 h3 h4 h5 h6 h7 h8 => by rw [fN a j h1 h2 h4 h5 h6 h7, f3 a j h3 h8]
  refine ⟨g.set1 hi hr hM (fun a ha => fM2 a (by omega)) (fun a j h1 h2 h3 h4 h5 h6 => fN2 a j (by omega) (by omega) (by omega) h3 h4 h5 h6 (by omega)) (fun j h1 h2 => fN2 88 j (by omega) (by omega) (by omega) (by omega) (by omega) (by omega) (by omega) (by omega)) hN, ?_⟩
  refine x.par fM2 (fun j hj => fN2 88 j (by omega) (by omega) (by omega) (by omega) (by omega) (by omega) (by omega) (by omega)) (fun a j ha => fN2 a j (by omega) (by omega) (by omega) (by omega) (by omega) (by omega) (by omega) (by omega)) ?_
  -- what may be undone
  have e84 : M' 84 0 = (n' : Int) + 1 := by rw [fM 84 (by decide) (by decide) (by decide)]; exact n2
  have n133 : ∀ j, N' 133 j = N1 133 j := fun j => fN 133 j (by decide) (by decide) (by decide) (by decide) (by decide) (by decide)
  have rn' : ∀ j, j < 8 → N1 133 (8 * n' + j) = snp S j := fun j hj => by
    have hj' : j = 0 ∨ j = 1 ∨ j = 2 ∨ ∃ p, p < 5 ∧ j = p + 3 := by
      by_cases q : j < 3
      · omega
      · exact Or.inr (Or.inr (Or.inr ⟨j - 3, by omega, by omega⟩))
    rcases hj' with rfl | rfl | rfl | ⟨p, hp, rfl⟩
    · exact m4.1
    · exact m4.2.1
    · exact m4.2.2.1
    · have a1 := m4.2.2.2 p hp
      rw [u0 120 p (by omega), (l2 p hp).1] at a1
      rw [show 8 * n' + (p + 3) = 8 * n' + 3 + p by omega, a1]
      unfold snp
      rw [if_neg (by omega), if_neg (by omega), if_neg (by omega)]
      rfl
  have old : ∀ k : Nat, k ≤ n' → ∀ j : Nat, j < 8 → rowU N' (setS S i v) ((n' : Int) + 1) k j = rowU N S (M 84 0) (if M 84 0 = 20 then k + 1 else k) j := fun k hk j hj => by
    unfold rowU
    rw [if_pos (by omega), n133]
    by_cases q : k = n'
    · subst q
      rw [rn' j hj]
      by_cases c : M 84 0 = 20
      · rw [if_pos c, if_neg (by omega)]
      · rw [if_neg c, if_neg (by omega)]
    · rw [m5 k (by omega) j hj]
      by_cases c : M 84 0 = 20
      · rw [if_pos c, if_pos (by omega), u0 133 _ (by omega)]
      · rw [if_neg c, if_pos (by omega), u0 133 _ (by omega)]
  refine ⟨⟨?_, by rw [e84]; omega, by rw [e84]; omega⟩, ?_⟩
  · rw [e84, fN 88 85 (by decide) (by decide) (by decide) (by decide) (by decide) (by decide), m2]
  · rw [e84]
    intro k hk
    have hkn : k ≤ n' := by omega
    by_cases q : k = n'
    · subst q
      have now : ∀ j, j < 8 → rowU N' (setS S i v) ((k : Int) + 1) k j = snp S j := fun j hj => by
        unfold rowU
        rw [if_pos (by omega), n133, rn' j hj]
      refine ⟨rn.cg now, i, ?_, ?_, ?_⟩
      · rw [fM 85 (by decide) (by decide) (by decide), fM 86 (by decide) (by decide) (by decide), n4.1, n4.2.1]
        exact hc
      · rw [fM 87 (by decide) (by decide) (by decide), n4.2.2, now i hi]
      · intro j hj hji
        rw [now j hj]
        unfold rowU
        rw [if_neg (by omega), snp_set j hi, if_neg hji]
    · have o1 := old k hkn
      have o2 := old (k + 1) (by omega)
      have e3 : (if M 84 0 = 20 then k + 1 + 1 else k + 1) = (if M 84 0 = 20 then k + 1 else k) + 1 := by split <;> rfl
      rw [e3] at o2
      obtain ⟨y1, i', y2, y3, y4⟩ := p4 (if M 84 0 = 20 then k + 1 else k) (by split <;> omega)
      obtain ⟨w1, w2, w3⟩ := n5 k (by omega)
      have hi' : i' < 8 := by omega
      refine ⟨y1.cg o1, i', ?_, ?_, ?_⟩
      · rw [fM 85 (by decide) (by decide) (by decide), fM 86 (by decide) (by decide) (by decide), w1, w2]
        exact y2
      · rw [fM 87 (by decide) (by decide) (by decide), w3, y3, o1 i' hi']
      · intro j hj hji
        rw [o1 j hj, o2 j hj]
        exact y4 j hj hji
theorem fqx_low {X M1 : MM} (f : ∀ a, 88 ≤ a → M1 a = X a) : FQX M1 X := fun a j ha _ _ => by rw [f a ha]
theorem al_set {X : MM} (hX : AL X) (p1 : Int) : AN (f_X11_set X p1) (fun m => f_X12_set m p1) := by
  obtain ⟨h, H, LV, S, g, x⟩ := hX
  have hh := g.1.1
  obtain ⟨s1, s2, s3⟩ := set0 g
  have no : AN (some (0, X)) (fun m => some (0, upM m 88 2 0)) := ⟨0, X, _, rfl, rfl, h, H, LV, S, g.cg (fun a h1 _ _ _ _ => up_row (by omega)) (FQ.rf.up (by unfold QS; omega)).x, x.cg hh (fun a h1 _ _ _ _ => up_row (by omega)) (FQ.rf.up (by unfold QS; omega)).x⟩
  unfold f_X11_set f_X12_set
  simp only [bM_eq, pu_isSet11, pu_isSet12, Option.bind_some, if_b1]
  by_cases q1 : 5 ≤ p1 ∧ p1 ≤ 30
  rotate_left
  · simp only [if_neg q1]; exact no
  simp only [if_pos q1]
  rw [s1]
  by_cases q2 : p1 = S 0 3
  · rw [if_pos q2]
    obtain ⟨r, M1, M2, e1, e2, e3⟩ := no
    refine ⟨r, M1, M2, e1, ?_, e3⟩
    cases e1
    show (if upM X 88 2 0 121 0 = p1 then _ else _) = _
    rw [if_pos (by rw [up_na (by decide), s2]; exact q2.symm)]
    exact e2
  rw [if_neg q2]
  have hrow : RowOK H (snp (setS S 0 p1)) := (row_now g.2.2.1.2.2.2.1).2.elim fun a b => ⟨by rw [snp_set 0 (by decide)]; exact q1, by rw [snp_set 1 (by decide)]; exact a, fun j j1 j2 => by rw [snp_set j (by decide), if_neg (by omega)]; exact b j j1 j2⟩
  obtain ⟨M1, _, e1, _, f1, _, _⟩ := q_chg g x (i := 0) (v := p1) (kind := 0) (per := 0) (by decide) (Or.inl ⟨rfl, rfl⟩) hrow
  have e1 : f_X5_note X 0 0 (S 0 3) = some M1 := e1
  have hi : ∀ a, 88 ≤ a → upM M1 54 3 p1 a = X a := fun a ha => by rw [up_row (by omega), f1 a (by omega)]
  have g1 := g.cg FrX.rf (fqx_low hi)
  have x1 := x.cg hh FrX.rf (fqx_low hi)
  obtain ⟨M1', N1, e1', e2, _, f2, fin⟩ := q_chg g1 x1 (i := 0) (v := p1) (kind := 0) (per := 0) (by decide) (Or.inl ⟨rfl, rfl⟩) hrow
  have e1' : f_X5_note X 0 0 (S 0 3) = some M1' := e1'
  rw [e1] at e1'
  cases e1'
  have low : ∀ a, a < 88 → upM N1 121 0 p1 a = upM M1 54 3 p1 a := fun a ha => by rw [up_row (by omega)]; exact funext fun j => f2 a j (by omega) (Or.inl (by omega))
  have hC : CC (upM M1 54 3 p1) 54 (upM S 0 3 p1) := CC.up0 (fun k hk => by rw [f1 (54 + k) (by omega)]; exact g.1.2.2.2.2 k hk)
  obtain ⟨⟨k1, k2, k3, k4, k5, k6, k7⟩, l2, l3, l4⟩ := g1.2.1.2.2
  have res := fin (upM N1 121 0 p1) (upM N1 121 0 p1) (fun a h1 h2 h3 => by rw [low a h1, up_row h2]) (fun k hk => by rw [low (54 + k) (by omega)]; exact hC k hk) (fun a j h1 h2 h3 h4 h5 h6 => up_na h4) ⟨by rw [upM_eq, snp_set 0 (by decide)]; rfl, by rw [up_na (by decide), snp_set 1 (by decide), f2 122 0 (by decide) (Or.inl (by decide)), k3]; rfl, by rw [up_na (by decide), snp_set 2 (by decide), f2 123 0 (by decide) (Or.inl (by decide)), k4]; rfl, fun p hp => by rw [up_na (by decide), snp_set (p + 3) (by decide), if_neg (by omega), f2 120 p (by decide) (Or.inl (by decide)), (l2 p hp).1]; unfold snp; rw [if_neg (by omega), if_neg (by omega), if_neg (by omega)]; rfl⟩
  refine ⟨1, upM M1 54 3 p1, upM N1 121 0 p1, by rw [e1, Option.bind_some], ?_, h, H, LV, _, res⟩
  have q3 : ¬ upM (upM M1 54 3 p1) 88 2 0 121 0 = p1 := by rw [up_na (by decide), hi 121 (by decide), s2]; exact fun z => q2 z.symm
  show (if upM (upM M1 54 3 p1) 88 2 0 121 0 = p1 then _ else _) = _
  rw [if_neg q3, e2, Option.bind_some]
end UNDO3
