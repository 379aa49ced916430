/-- two loops side by side -/
theorem lp_two {X Y X' Y' : Type} {f : X → Option (X ⊕ Y)} {g : X' → Option (X' ⊕ Y')} (I : X → X' → Prop) (μ : X → Nat) (Q : Y → Y' → Prop) (h : ∀ x x', I x x' → (∃ y y', f x = some (.inr y) ∧ g x' = some (.inr y') ∧ Q y y') ∨ ∃ z z', f x = some (.inl z) ∧ g x' = some (.inl z') ∧ I z z' ∧ μ z < μ x) : ∀ (n : Nat) (x : X) (x' : X'), I x x' → μ x < n → ∃ y y', lp f n x = some y ∧ lp g n x' = some y' ∧ Q y y'
  | 0, x, _, _, hn => absurd hn (Nat.not_lt_zero _)
  | n + 1, x, x', hx, hn => by
    rw [lp, lp]
    rcases h x x' hx with ⟨y, y', e, e', hy⟩ | ⟨z, z', e, e', hz, hm⟩
    · exact ⟨y, y', by rw [e]; rfl, by rw [e']; rfl, hy⟩
    · obtain ⟨y, y', e2, e2', hy⟩ := lp_two I μ Q h n z z' hz (by omega)
      exact ⟨y, y', by rw [e]; exact e2, by rw [e']; exact e2', hy⟩
theorem lp_tw {X Y X' Y' : Type} {f : X → Option (X ⊕ Y)} {g : X' → Option (X' ⊕ Y')} (I : X → X' → Prop) (μ : X → Nat) (Q : Y → Y' → Prop) (h : ∀ x x', I x x' → (∃ y y', f x = some (.inr y) ∧ g x' = some (.inr y') ∧ Q y y') ∨ ∃ z z', f x = some (.inl z) ∧ g x' = some (.inl z') ∧ I z z' ∧ μ z < μ x) (x : X) (x' : X') (hx : I x x') (hn : μ x < 1000000) : ∃ y y', lp f FU x = some y ∧ lp g FU x' = some y' ∧ Q y y' := lp_two I μ Q h FU x x' hx hn
section QUES2
variable {M N H S : MM} {LV : LVT} {h : Nat}
theorem PQ_two {X Y X' Y' : Type} {f : X → Option (X ⊕ Y)} {g : X' → Option (X' ⊕ Y')} {k : Y → Option (Int × MM)} {k' : Y' → Option (Int × MM)} {x : X} {x' : X'} (I : X → X' → Prop) (μ : X → Nat) (Q : Y → Y' → Prop) (hs : ∀ x x', I x x' → (∃ y y', f x = some (.inr y) ∧ g x' = some (.inr y') ∧ Q y y') ∨ ∃ z z', f x = some (.inl z) ∧ g x' = some (.inl z') ∧ I z z' ∧ μ z < μ x) (hx : I x x') (hn : μ x < 1000000) (hk : ∀ y y', Q y y' → PQ M N h (k y) (k' y')) : PQ M N h ((lp f FU x).bind k) ((lp g FU x').bind k') := by
  obtain ⟨y, y', e, e', q⟩ := lp_tw I μ Q hs x x' hx hn
  rw [e, e', Option.bind_some, Option.bind_some]
  exact hk y y' q
theorem PQ_lp {X X' : Type} {f : X → Option (X ⊕ (Int × MM))} {g : X' → Option (X' ⊕ (Int × MM))} {x : X} {x' : X'} (I : X → X' → Prop) (μ : X → Nat) (hs : ∀ x x', I x x' → (∃ y y', f x = some (.inr y) ∧ g x' = some (.inr y') ∧ (y'.1 = y.1 ∧ Fr3 h 70 y.2 M ∧ FQ y'.2 N)) ∨ ∃ z z', f x = some (.inl z) ∧ g x' = some (.inl z') ∧ I z z' ∧ μ z < μ x) (hx : I x x') (hn : μ x < 1000000) : PQ M N h (lp f FU x) (lp g FU x') := by
  obtain ⟨⟨r, y⟩, ⟨r', y'⟩, e, e', q1, q2, q3⟩ := lp_tw I μ (fun y y' : Int × MM => y'.1 = y.1 ∧ Fr3 h 70 y.2 M ∧ FQ y'.2 N) hs x x' hx hn
  dsimp only at q1
  subst q1
  exact ⟨_, _, _, e, e', q2, q3⟩
/-- the knob still, both run -/
theorem q_sr (g : BA M N h H LV S) {d : Int} (hd : 5 ≤ d ∧ d ≤ 30) {n : Nat} (hn : n ≤ 200) : ∃ M1 N1 M2 N2 ST, f_X11_tryTurnedBy M d = some M1 ∧ f_X12_layStill N d = some N1 ∧ f_X0_run M1 70 (n : Int) = some M2 ∧ f_X12_goMany N1 (n : Int) = some N2 ∧ BA M2 N2 h H LV S ∧ TR M2 N2 h H S ST ∧ Fr3 h 70 M2 M ∧ FQ N2 N ∧ ST 1 1 = 0 := by
  obtain ⟨M1, N1, ST, e1, e2, t1, f1, f2, u1, u2⟩ := q_still g hd
  have g1 := g.q f1 f2
  have ht := g.t
  obtain ⟨M2, N2, e3, e4, t2, f3, f4⟩ := q_run g1 t1 (n := n) (by omega)
  refine ⟨M1, N1, M2, N2, _, e1, e2, e3, e4, g1.q f3 f4, t2, f3.tr f1, f4.tr f2, ?_⟩
  obtain ⟨_, _, i3, _⟩ := TA.run (LV := LV) g.2.2.1.1 t1.2.2.1 n (by omega)
  rw [i3]
  exact u2
theorem q_ar (g : BA M N h H LV S) {d : Int} (hd : 5 ≤ d ∧ d ≤ 30) {n : Nat} (hn : n ≤ 200) : ∃ M1 N1 M2 N2 ST, f_X11_tryRoomsAlone M d = some M1 ∧ f_X12_layStill N d = some N1 ∧ f_X0_run M1 70 (n : Int) = some M2 ∧ f_X12_goMany N1 (n : Int) = some N2 ∧ BA M2 N2 h H LV S ∧ TR M2 N2 h H S ST ∧ Fr3 h 70 M2 M ∧ FQ N2 N ∧ ST 0 2 = S 0 2 + n := by
  obtain ⟨M1, N1, ST, e1, e2, t1, f1, f2, u1⟩ := q_alone g hd
  have g1 := g.q f1 f2
  have ht := g.t
  obtain ⟨M2, N2, e3, e4, t2, f3, f4⟩ := q_run g1 t1 (n := n) (by omega)
  refine ⟨M1, N1, M2, N2, _, e1, e2, e3, e4, g1.q f3 f4, t2, f3.tr f1, f4.tr f2, ?_⟩
  obtain ⟨_, i2, i3, _⟩ := TA.run (LV := LV) g.2.2.1.1 t1.2.2.1 n (by omega)
  omega
theorem q_best (g : BA M N h H LV S) (p1 p2 : Int) : PQ M N h (f_X11_best M p1 p2) (f_X12_best N p1 p2) := by
  obtain ⟨g0, f0⟩ := thr0 g
  unfold f_X11_best f_X12_best
  rw [bM_eq, pu_isWithin, pu_isIn, Option.bind_some, Option.bind_some, if_b1, if_b1]
  by_cases q1 : 1 ≤ p1 ∧ p1 ≤ 99
  rotate_left
  · rw [if_neg q1, if_neg q1]
    exact ⟨-1, M, _, rfl, rfl, Fr3.rf, f0⟩
  rw [if_pos q1, if_pos q1, pu_isWithin, pu_isIn, Option.bind_some, Option.bind_some, if_b1, if_b1]
  by_cases q2 : 0 ≤ p2 ∧ p2 ≤ 1
  rotate_left
  · rw [if_neg q2, if_neg q2]
    exact ⟨-1, M, _, rfl, rfl, Fr3.rf, f0⟩
  rw [if_pos q2, if_pos q2]
  obtain ⟨n, rfl⟩ := nat_of (show 0 ≤ p1 by omega)
  refine PQ_two (fun x x' => x'.1 = x.1 ∧ x'.2.1 = x.2.1 ∧ x'.2.2.1 = x.2.2.1 ∧ (x.1 = -1 ∨ 5 ≤ x.1) ∧ (5 ≤ x.2.2.1 ∧ x.2.2.1 ≤ 31) ∧ Fr3 h 70 x.2.2.2 M ∧ FQ x'.2.2.2 N) (fun x => (31 - x.2.2.1).toNat) (fun y y' => y'.1 = y.1 ∧ y'.2.1 = y.2.1 ∧ Fr3 h 70 y.2.2 M ∧ FQ y'.2.2 N) ?_ ⟨rfl, rfl, rfl, Or.inl rfl, (show (5 : Int) ≤ 5 ∧ (5 : Int) ≤ 31 by decide), Fr3.rf, f0⟩ (show (31 - (5 : Int)).toNat < 1000000 by decide) ?_
  · rintro ⟨b, l, d, m⟩ ⟨b', l', d', m'⟩ ⟨j1, j2, j3, j4, j5, j6, j7⟩
    dsimp only at j1 j2 j3 j4 j5 j6 j7
    subst j1 j2 j3
    dsimp only
    by_cases q : 30 < d'
    · left
      rw [if_pos q, if_pos q]
      exact ⟨_, _, rfl, rfl, rfl, rfl, j6, j7⟩
    · right
      rw [if_neg q, if_neg q]
      obtain ⟨M1, N1, M2, N2, ST, e1, e2, e3, e4, gg, t, f1, f2, h11⟩ := q_sr (g.q j6 j7) (d := d') (by omega) (n := n) (by omega)
      obtain ⟨w1, w2⟩ := q_cross gg t h11
      have hm : (31 - (d' + 1)).toNat < (31 - d').toNat := by omega
      have hd5 : 5 ≤ d' + 1 ∧ d' + 1 ≤ 31 := by omega
      have hd6 : 5 ≤ d' := by omega
      have wd : w32 (d' + 1) = d' + 1 := w32_i (by omega) (by omega)
      rw [e1, e2, Option.bind_some, Option.bind_some, e3, e4, Option.bind_some, Option.bind_some, w1, w2, Option.bind_some, Option.bind_some, Option.bind_some, wd]
      by_cases q3 : b' = -1
      · rw [if_pos q3, if_pos (show b' < 0 by rw [q3]; decide), Option.bind_some, Option.bind_some]
        exact ⟨_, _, rfl, rfl, ⟨rfl, rfl, rfl, Or.inr hd6, hd5, f1.tr j6, f2.tr j7⟩, hm⟩
      · have q4 : ¬ b' < 0 := by clear wd; omega
        rw [if_neg q3, if_neg q4]
        by_cases q5 : aSum (ST 4) (H 6 0).toNat < l'
        · rw [if_pos q5, Option.bind_some, Option.bind_some]
          exact ⟨_, _, rfl, rfl, ⟨rfl, rfl, rfl, Or.inr hd6, hd5, f1.tr j6, f2.tr j7⟩, hm⟩
        · rw [if_neg q5, Option.bind_some, Option.bind_some]
          exact ⟨_, _, rfl, rfl, ⟨rfl, rfl, rfl, j4, hd5, f1.tr j6, f2.tr j7⟩, hm⟩
  · rintro ⟨y1, y2, y3⟩ ⟨y1', y2', y3'⟩ ⟨k1, k2, k3, k4⟩
    dsimp only at k1 k2 k3 k4
    subst k1 k2
    dsimp only
    by_cases q3 : p2 = 0
    · rw [if_pos q3, if_pos q3]
      exact ⟨_, _, _, rfl, rfl, k3, k4⟩
    · rw [if_neg q3, if_neg q3]
      exact ⟨_, _, _, rfl, rfl, k3, k4⟩
theorem q_cheap (g : BA M N h H LV S) (p1 p2 : Int) : PQ M N h (f_X11_cheap M p1 p2) (f_X12_cheap N p1 p2) := by
  obtain ⟨g0, f0⟩ := thr0 g
  unfold f_X11_cheap f_X12_cheap
  rw [bM_eq, pu_isWithin, pu_isIn, Option.bind_some, Option.bind_some, if_b1, if_b1]
  by_cases q1 : 1 ≤ p1 ∧ p1 ≤ 99
  rotate_left
  · rw [if_neg q1, if_neg q1]
    exact ⟨-1, M, _, rfl, rfl, Fr3.rf, f0⟩
  rw [if_pos q1, if_pos q1, pu_isWithin, pu_isIn, Option.bind_some, Option.bind_some, if_b1, if_b1]
  by_cases q2 : 0 ≤ p2 ∧ p2 ≤ 99999
  rotate_left
  · rw [if_neg q2, if_neg q2]
    exact ⟨-1, M, _, rfl, rfl, Fr3.rf, f0⟩
  rw [if_pos q2, if_pos q2]
  obtain ⟨n, rfl⟩ := nat_of (show 0 ≤ p1 by omega)
  refine PQ_lp (fun x x' => x'.1 = x.1 ∧ (x.1 = -2 ∨ (5 ≤ x.1 ∧ x'.2.1 = x.2.1 + S 0 13)) ∧ x'.2.2.1 = x.2.2.1 ∧ (5 ≤ x.2.2.1 ∧ x.2.2.1 ≤ 31) ∧ Fr3 h 70 x.2.2.2 M ∧ FQ x'.2.2.2 N) (fun x => (31 - x.2.2.1).toNat) ?_ ⟨rfl, Or.inl rfl, rfl, (show (5 : Int) ≤ 5 ∧ (5 : Int) ≤ 31 by decide), Fr3.rf, f0⟩ (show (31 - (5 : Int)).toNat < 1000000 by decide)
  rintro ⟨b, l, d, m⟩ ⟨b', l', d', m'⟩ ⟨j1, j4, j3, j5, j6, j7⟩
  dsimp only at j1 j3 j4 j5 j6 j7
  subst j1 j3
  dsimp only
  by_cases q : 30 < d'
  · left
    rw [if_pos q, if_pos q]
    exact ⟨_, _, rfl, rfl, rfl, j6, j7⟩
  · right
    rw [if_neg q, if_neg q]
    obtain ⟨M1, N1, M2, N2, ST, e1, e2, e3, e4, gg, t, f1, f2, h11⟩ := q_sr (g.q j6 j7) (d := d') (by omega) (n := n) (by omega)
    obtain ⟨w1, w2⟩ := q_cross gg t h11
    obtain ⟨u1, u2, _, _, _, _⟩ := q_paid gg t
    have hm : (31 - (d' + 1)).toNat < (31 - d').toNat := by omega
    have hd5 : 5 ≤ d' + 1 ∧ d' + 1 ≤ 31 := by omega
    have hd6 : 5 ≤ d' := by omega
    have wd0 : -2147483648 ≤ d' + 1 ∧ d' + 1 ≤ 2147483647 := by omega
    have q4 : b' ≠ -2 → ¬ b' < 0 := fun z => by omega
    have q6 : b' ≠ -2 → (ST 0 13 + S 0 13 < l' ↔ ST 0 13 < l) := fun z => by omega
    rw [e1, e2, Option.bind_some, Option.bind_some, e3, e4, Option.bind_some, Option.bind_some, w1, w2, Option.bind_some, Option.bind_some, w32_i wd0.1 wd0.2]
    by_cases q3 : p2 < aSum (ST 4) (H 6 0).toNat
    · rw [if_pos q3, if_pos q3, Option.bind_some, if_pos rfl, Option.bind_some, Option.bind_some]
      exact ⟨_, _, rfl, rfl, ⟨rfl, j4, rfl, hd5, f1.tr j6, f2.tr j7⟩, hm⟩
    · rw [if_neg q3, if_neg q3, Option.bind_some, if_neg (by decide), bI_eq, bI_eq]
      by_cases q5 : b' = -2
      · rw [if_pos q5, if_pos (show b' < 0 by rw [q5]; decide), Option.bind_some, Option.bind_some]
        exact ⟨_, _, rfl, rfl, ⟨rfl, Or.inr ⟨hd6, by show N2 124 1 = M2 70 13 + S 0 13; rw [u1, u2]⟩, rfl, hd5, f1.tr j6, f2.tr j7⟩, hm⟩
      · rw [if_neg q5, if_neg (q4 q5)]
        by_cases q7 : ST 0 13 < l
        · rw [if_pos (show M2 70 13 < l by rw [u1]; exact q7), if_pos (show N2 124 1 < l' by rw [u2]; exact (q6 q5).mpr q7), Option.bind_some, Option.bind_some]
          exact ⟨_, _, rfl, rfl, ⟨rfl, Or.inr ⟨hd6, by show N2 124 1 = M2 70 13 + S 0 13; rw [u1, u2]⟩, rfl, hd5, f1.tr j6, f2.tr j7⟩, hm⟩
        · rw [if_neg (show ¬ M2 70 13 < l by rw [u1]; exact q7), if_neg (show ¬ N2 124 1 < l' by rw [u2]; exact fun z => q7 ((q6 q5).mp z)), Option.bind_some, Option.bind_some]
          exact ⟨_, _, rfl, rfl, ⟨rfl, j4, rfl, hd5, f1.tr j6, f2.tr j7⟩, hm⟩
end QUES2
