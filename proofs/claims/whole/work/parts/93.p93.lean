theorem or32_0 {v : Int} (h : r32 v) : or32 v 0 = v := by
  unfold or32
  rw [z32, Int32.or_zero, tIr h]
theorem or32_r {v w : Int} : r32 (or32 v w) := by
  unfold or32
  exact rI _
section LATE2
variable {M N H S B T ST : MM} {LV : LVT} {h : Nat}
theorem q_lately (g : BA M N h H LV S) (xr : RX M N h H S) (p1 : Int) : ∃ r M' N', f_X11_lately M p1 = some (r, M') ∧ f_X12_lately N p1 = some (r, N') ∧ (FrX h M' M ∧ ∀ a, 88 ≤ a → M' a = M a) ∧ FQ N' N := by
  obtain ⟨g0, f0⟩ := thr0 g
  have hh := g.1.1
  have x := xr.2.2.1
  have x0 : LGR M (upM N 88 2 0) := x.cg (fun _ _ _ => rfl) (up_row (by decide)) ⟨up_ni (by decide), up_ni (by decide)⟩
  unfold f_X11_lately f_X12_lately
  rw [bM_eq, (room_b g p1).2.2.1, (room_b g0 p1).2.2.2, Option.bind_some, Option.bind_some, if_b1, if_b1]
  by_cases q1 : 0 ≤ p1 ∧ p1 < H 6 0
  rotate_left
  · rw [if_neg q1, if_neg q1]
    exact ⟨-1, M, _, rfl, rfl, ⟨FrX.rf, fun _ _ => rfl⟩, f0⟩
  rw [if_pos q1, if_pos q1]
  generalize upM N 88 2 0 = N0 at g0 f0 x0
  have kr := kn_r x
  obtain ⟨n, hk⟩ := nat_of kr.1
  have hn : n ≤ 24 := by omega
  -- all are laid plain
  obtain ⟨A, eA, a1, a2⟩ : ∃ m, (lp (X := Int × MM) (Y := MM) (fun x2 =>
if x2.1 < (n : Int) then
(gd (0 ≤ x2.1 ∧ x2.1 < (24 : Int)) <|
bM (upM x2.2 83 (x2.1).toNat 0) fun M5 =>
some (Sum.inl (w32 (x2.1 + 1), M5)))
else
some (Sum.inr x2.2)) FU (0, M)) = some m ∧ ((∀ i : Nat, i < n → m 83 i = 0) ∧ ∀ a, a ≠ 83 → m a = M a) := by
    refine lp_cnt n (fun k m => (∀ i : Nat, i < k → m 83 i = 0) ∧ ∀ a, a ≠ 83 → m a = M a) _ (by omega) ?_ ?_ _ ⟨fun j hj => absurd hj (Nat.not_lt_zero _), fun _ _ => rfl⟩
    · rintro k m hk ⟨i1, i2⟩
      left
      have z : 0 ≤ (k : Int) ∧ (k : Int) < 24 := ⟨by omega, by omega⟩
      have z2 : (k : Int) < (n : Int) := by omega
      refine ⟨upM m 83 k 0, ?_, ?_, fun a ha => by rw [up_row ha]; exact i2 a ha⟩
      · try dsimp +instances only
        rw [if_pos z2, gd_t z, bM_eq, Int.toNat_natCast, wi1 (by omega)]
        rfl
      · intro j hj
        by_cases q : j = k
        · rw [q, upM_eq]
        · rw [up_ni q]; exact i1 j (by omega)
    · rintro m ⟨i1, i2⟩
      refine ⟨m, ?_, i1, i2⟩
      try dsimp +instances only
      rw [if_neg (by omega)]
  obtain ⟨D, eD, d1, d2⟩ : ∃ m, (lp (X := Int × MM) (Y := MM) (fun x4 =>
(f_X12_knownBy x4.2).bind fun x5 =>
if x4.1 < x5 then
(gd (0 ≤ x4.1 ∧ x4.1 < (24 : Int)) <|
bM (upM x4.2 132 (x4.1).toNat 1) fun M8 =>
some (Sum.inl (w32 (x4.1 + 1), M8)))
else
some (Sum.inr x4.2)) FU (0, N0)) = some m ∧ ((∀ i : Nat, i < n → m 132 i = 1) ∧ ∀ a, a ≠ 132 → m a = N0 a) := by
    refine lp_cnt n (fun k m => (∀ i : Nat, i < k → m 132 i = 1) ∧ ∀ a, a ≠ 132 → m a = N0 a) _ (by omega) ?_ ?_ _ ⟨fun j hj => absurd hj (Nat.not_lt_zero _), fun _ _ => rfl⟩
    · rintro k m hk' ⟨i1, i2⟩
      left
      have z : 0 ≤ (k : Int) ∧ (k : Int) < 24 := ⟨by omega, by omega⟩
      have z2 : (k : Int) < (n : Int) := by omega
      have ek : f_X12_knownBy m = some (n : Int) := by rw [kn_M (M := M) (x0.cg (fun _ _ _ => rfl) (i2 131 (by decide)) (by rw [i2 88 (by decide)]; exact ⟨rfl, rfl⟩)), hk]
      refine ⟨upM m 132 k 1, ?_, ?_, fun a ha => by rw [up_row ha]; exact i2 a ha⟩
      · try dsimp +instances only
        rw [ek, Option.bind_some, if_pos z2, gd_t z, bM_eq, Int.toNat_natCast, wi1 (by omega)]
        rfl
      · intro j hj
        by_cases q : j = k
        · rw [q, upM_eq]
        · rw [up_ni q]; exact i1 j (by omega)
    · rintro m ⟨i1, i2⟩
      have ek : f_X12_knownBy m = some (n : Int) := by rw [kn_M (M := M) (x0.cg (fun _ _ _ => rfl) (i2 131 (by decide)) (by rw [i2 88 (by decide)]; exact ⟨rfl, rfl⟩)), hk]
      refine ⟨m, ?_, i1, i2⟩
      try dsimp +instances only
      rw [ek, Option.bind_some, if_neg (by omega)]
  have ekD : f_X12_knownBy D = some (n : Int) := by rw [kn_M (M := M) (x0.cg (fun _ _ _ => rfl) (d2 131 (by decide)) (by rw [d2 88 (by decide)]; exact ⟨rfl, rfl⟩)), hk]
  have wn : w32 ((n : Int) - 1) = (n : Int) - 1 := w32_i (by omega) (by omega)
  unfold f_X4_ponder
  rw [kn_C, hk, Option.bind_some, eA, Option.bind_some, bI_eq, wn, eD, Option.bind_some, ekD, Option.bind_some, bI_eq, wn]
  clear wn eA eD ekD
  -- strikes strike
  obtain ⟨A', D', eA, eD, pon, fA, fD⟩ := lp_tw (f := (fun x8 : Int × MM => if x8.1 < 0 then (some (Sum.inr x8.2)) else gd (0 ≤ x8.1 ∧ x8.1 < (24 : Int)) <| ((if (x8.2 83 (x8.1).toNat) = 0 then (gd (0 ≤ x8.1 ∧ x8.1 < (24 : Int)) <| if (x8.2 82 (x8.1).toNat) = (-1) then (some x8.2) else gd (0 ≤ x8.1 ∧ x8.1 < (24 : Int)) <| gd (0 ≤ x8.2 82 (x8.1).toNat ∧ x8.2 82 (x8.1).toNat < (24 : Int)) <| bM (upM x8.2 83 (x8.2 82 (x8.1).toNat).toNat 1) fun M16 => some M16) else some x8.2) : Option (MM)).bind fun x17 => some (Sum.inl (w32 (x8.1 + (-1)), x17)))) (g := (fun x12 : Int × MM => if x12.1 < 0 then (some (Sum.inr x12.2)) else gd (0 ≤ x12.1 ∧ x12.1 < (24 : Int)) <| ((if (x12.2 132 (x12.1).toNat) = 0 then (some x12.2) else gd (0 ≤ w32 (3 * x12.1) ∧ w32 (3 * x12.1) < (72 : Int)) <| if (x12.2 131 (w32 (3 * x12.1)).toNat) < 0 then (gd (0 ≤ w32 ((w32 (3 * x12.1)) + 1) ∧ w32 ((w32 (3 * x12.1)) + 1) < (72 : Int)) <| gd (0 ≤ x12.2 131 (w32 ((w32 (3 * x12.1)) + 1)).toNat ∧ x12.2 131 (w32 ((w32 (3 * x12.1)) + 1)).toNat < (24 : Int)) <| bM (upM x12.2 132 (x12.2 131 (w32 ((w32 (3 * x12.1)) + 1)).toNat).toNat 0) fun M20 => some M20) else some x12.2) : Option (MM)).bind fun x21 => some (Sum.inl (w32 (x12.1 + (-1)), x21)))) (fun x x' => x'.1 = x.1 ∧ (-1 ≤ x.1 ∧ x.1 < (n : Int)) ∧ PON x.2 x'.2 n ∧ (∀ a, a ≠ 83 → x.2 a = M a) ∧ (∀ a, a ≠ 132 → x'.2 a = N0 a)) (fun x => (x.1 + 1).toNat) (fun y y' : MM => PON y y' n ∧ (∀ a, a ≠ 83 → y a = M a) ∧ (∀ a, a ≠ 132 → y' a = N0 a)) (by
    rintro ⟨k, m⟩ ⟨k', m'⟩ ⟨j1, j2, j3, j4, j5⟩
    dsimp only at j1 j2 j3 j4 j5
    subst j1
    try dsimp +instances only
    by_cases q : k' < 0
    · left
      rw [if_pos q, if_pos q]
      exact ⟨_, _, rfl, rfl, j3, j4, j5⟩
    right
    obtain ⟨i, rfl⟩ := nat_of (show 0 ≤ k' by omega)
    have hin : i < n := by omega
    have z : 0 ≤ (i : Int) ∧ (i : Int) < 24 := ⟨by omega, by omega⟩
    have z3 : 0 ≤ 3 * (i : Int) ∧ 3 * (i : Int) < 72 := by omega
    have z4 : 0 ≤ 3 * (i : Int) + 1 ∧ 3 * (i : Int) + 1 < 72 := by omega
    have t3 : (3 * (i : Int)).toNat = 3 * i := by omega
    have t4 : (3 * (i : Int) + 1).toNat = 3 * i + 1 := by omega
    have hm : ((i : Int) + (-1) + 1).toNat < ((i : Int) + 1).toNat := by omega
    have hb : -1 ≤ (i : Int) + (-1) ∧ (i : Int) + (-1) < (n : Int) := by omega
    have en := x0.2.2 i (by omega)
    obtain ⟨_, _, w3, w4, w5, _⟩ := wi2 (k := (i : Int)) ⟨by omega, by omega⟩
    rw [if_neg q, if_neg q, gd_t z, gd_t z, gd_t z, gd_t z, Int.toNat_natCast, w3, w4, gd_t z3, t3, w5, gd_t z4, t4, j4 82 (by decide), j5 131 (by decide)]
    clear w3 w4 w5
    rcases j3 i hin with ⟨p1, p2⟩ | ⟨p1, p2⟩
    · rw [if_pos p1, if_neg (show ¬ m' 132 i = 0 by rw [p2]; decide)]
      rcases en with ⟨n1, ⟨n2, n3, n4⟩, n5, n6⟩ | ⟨n1, n2, n3⟩
      · have z7 : ¬ M 79 i < 0 := fun e => absurd (Int.lt_of_lt_of_le Int.one_pos n5.1) (Int.not_lt.mpr (Int.le_of_lt e))
        rw [if_pos n1, n2, if_neg z7, Option.bind_some, Option.bind_some]
        exact ⟨_, _, rfl, rfl, ⟨rfl, hb, j3, j4, j5⟩, hm⟩
      · have z6 : 0 ≤ M 82 i ∧ M 82 i < 24 := ⟨n1.1, Int.lt_trans n1.2 z.2⟩
        have z7 : ¬ M 82 i = -1 := fun e => absurd n1.1 (by rw [e]; decide)
        rw [if_neg z7, gd_t z6, bM_eq, Option.bind_some, n2, if_pos (by decide), n3, gd_t z6, bM_eq, Option.bind_some]
        refine ⟨_, _, rfl, rfl, ⟨rfl, hb, ?_, fun a ha => (up_row ha).trans (j4 a ha), fun a ha => (up_row ha).trans (j5 a ha)⟩, hm⟩
        intro j hj
        try dsimp +instances only
        by_cases e : j = (M 82 i).toNat
        · rw [e, upM_eq, upM_eq]; exact Or.inr ⟨rfl, rfl⟩
        · rw [up_ni e, up_ni e]; exact j3 j hj
    · rw [if_neg (show ¬ m 83 i = 0 by rw [p1]; decide), if_pos p2, Option.bind_some, Option.bind_some]
      exact ⟨_, _, rfl, rfl, ⟨rfl, hb, j3, j4, j5⟩, hm⟩) ((n : Int) - 1, A) ((n : Int) - 1, D) ⟨rfl, by show -1 ≤ (n : Int) - 1 ∧ (n : Int) - 1 < n; omega, fun i hi => Or.inl ⟨a1 i hi, d1 i hi⟩, a2, d2⟩ (show ((n : Int) - 1 + 1).toNat < 1000000 by omega)
  rw [eA, eD, Option.bind_some, Option.bind_some]
  clear eA eD a1 a2 d1 d2
  have gA : FrX h A' M := fun a _ _ k _ _ => fA a k
  have gA2 : ∀ a, 88 ≤ a → A' a = M a := fun a ha => fA a (by omega)
  have gD : FQ D' N := FQ.tr (fun a j hn => by rw [fD a (fun z => hn (by unfold QS; omega))]) f0
  have gb := (g.cg gA FQX.rf).q Fr3.rf gD
  have xl : LGR A' D' := x0.cg (fun a k1 k2 => fA a (by omega)) (fD 131 (by decide)) (by rw [fD 88 (by decide)]; exact ⟨rfl, rfl⟩)
  have kA : knw A' = (n : Int) := by unfold knw; rw [fA 78 (by decide)]; exact hk
  obtain ⟨p, rfl⟩ := nat_of q1.1
  obtain ⟨y, y', e1, e2, r1, r2, r3⟩ := lp_tw (f := (fun x4 : Int × Int × MM => if 5 < x4.2.1 then (some (Sum.inr (x4.1, x4.2.2))) else (f_X11_isWornBy x4.2.2 (p : Int) x4.2.1).bind fun x6 => ((if x6.1 = 0 then (some x4.1) else bI (or32 x4.1 (shl32 1 x4.2.1)) fun x8 => some x8) : Option (Int)).bind fun x9 => some (Sum.inl (x9, w32 (x4.2.1 + 1), x6.2)))) (g := (fun x23 : Int × Int × MM => if x23.2.1 < 6 then ((f_X12_fits x23.2.2 (p : Int) x23.2.1).bind fun x25 => ((if x25.1 = 0 then (some 0) else some (shl32 1 x23.2.1)) : Option (Int)).bind fun x27 => bI (or32 x23.1 x27) fun x28 => some (Sum.inl (x28, w32 (x23.2.1 + 1), x25.2))) else some (Sum.inr (x23.1, x23.2.2)))) (fun x x' => x'.1 = x.1 ∧ r32 x.1 ∧ x'.2.1 = x.2.1 ∧ (0 ≤ x.2.1 ∧ x.2.1 ≤ 6) ∧ Fr3 h 70 x.2.2 A' ∧ FQ x'.2.2 D' ∧ x'.2.2 132 = D' 132) (fun x => (6 - x.2.1).toNat) (fun y y' : Int × MM => y'.1 = y.1 ∧ Fr3 h 70 y.2 A' ∧ FQ y'.2 D') (by
    rintro ⟨v, k, m⟩ ⟨v', k', m'⟩ ⟨j1, jr, j2, j3, j4, j5, j6⟩
    dsimp only at j1 jr j2 j3 j4 j5 j6
    subst j1 j2
    try dsimp +instances only
    by_cases q : 5 < k'
    · left
      rw [if_pos q, if_neg (by omega)]
      exact ⟨_, _, rfl, rfl, rfl, j4, j5⟩
    right
    have xm : LGR m m' := xl.cg (fun a k1 k2 => j4 a (by omega) (by omega) (by omega)) (funext fun j => j5 131 j (by unfold QS MS; omega)) ⟨j5 88 80 (by unfold QS MS; omega), j5 88 81 (by unfold QS MS; omega)⟩
    have km : knw m = (n : Int) := by unfold knw; rw [j4 78 (by omega) (by omega) (by omega)]; exact kA
    have pm : PON m m' n := by unfold PON; rw [j4 83 (by omega) (by omega) (by omega), j6]; exact pon
    obtain ⟨r, m2, m2', b1, b2, b3, b4, b5, b6⟩ := q_fits (gb.q j4 j5) xm hn km pm (p := p) q1.2 (l := k') (by omega)
    have hm : (6 - (k' + 1)).toNat < (6 - k').toNat := by omega
    have hk' : 0 ≤ k' + 1 ∧ k' + 1 ≤ 6 := by omega
    have wk : -2147483648 ≤ k' + 1 ∧ k' + 1 ≤ 2147483647 := by omega
    rw [if_neg q, if_pos (by omega), b1, b2, Option.bind_some, Option.bind_some, w32_i wk.1 wk.2]
    try dsimp +instances only
    by_cases qr : r = 0
    · rw [if_pos qr, if_pos qr, Option.bind_some, Option.bind_some, bI_eq, or32_0 jr]
      exact ⟨_, _, rfl, rfl, ⟨rfl, jr, rfl, hk', b4.tr j4, b5.tr j5, b6.trans j6⟩, hm⟩
    · rw [if_neg qr, if_neg qr, bI_eq, Option.bind_some, Option.bind_some, bI_eq]
      exact ⟨_, _, rfl, rfl, ⟨rfl, or32_r, rfl, hk', b4.tr j4, b5.tr j5, b6.trans j6⟩, hm⟩) (0, 0, A') (0, 0, D') ⟨rfl, r0, rfl, (show (0 : Int) ≤ 0 ∧ (0 : Int) ≤ 6 by decide), Fr3.rf, FQ.rf, rfl⟩ (show (6 - (0 : Int)).toNat < 1000000 by decide)
  obtain ⟨N5, z1, z2, _⟩ := plain_fq (N := y'.2)
  refine ⟨y.1, y.2, N5, e1, ?_, ⟨FrX.tr r2.x gA, fun a ha => by rw [r2 a (by omega) (by omega) (by omega)]; exact gA2 a ha⟩, z2.tr (r3.tr gD)⟩
  rw [e2, Option.bind_some, z1, Option.bind_some, ← r1]
end LATE2
