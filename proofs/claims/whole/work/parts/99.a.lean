section UNDO4
variable {M N H S B T ST : MM} {LV : LVT} {h : Nat}
theorem al_hang {X : MM} (hX : AL X) (p1 : Int) : AN (f_X11_hang X p1) (fun m => f_X12_hang m p1) := by
  obtain ⟨h, H, LV, S, g, x⟩ := hX
  have hh := g.1.1
  have s1 : X 54 4 = S 0 4 := g.1.2.2.2.2.at0
  have s2 : X 122 0 = S 0 4 := g.2.1.2.2.1.2.2.1
  have no : AN (some (0, X)) (fun m => some (0, upM m 88 2 0)) := ⟨0, X, _, rfl, rfl, h, H, LV, S, g.cg (fun a h1 _ _ _ _ => up_row (by omega)) (FQ.rf.up (by unfold QS; omega)).x, x.cg hh (fun a h1 _ _ _ _ => up_row (by omega)) (FQ.rf.up (by unfold QS; omega)).x⟩
  unfold f_X11_hang f_X12_hang
  obtain ⟨rb1, _⟩ := room_b g p1
  have rb2 : ∀ m : MM, (∀ a, 88 ≤ a → m a = X a) → f_X12_isRoom (upM m 88 2 0) p1 = some (b1 (0 ≤ p1 ∧ p1 < H 1 0)) := fun m hm => by rw [pu_isRoom12, up_ni (by decide), hm 88 (by decide), g.2.1.1.1.1]
  rw [rb1, Option.bind_some, if_b1]
  by_cases q1 : 0 ≤ p1 ∧ p1 < H 1 0
  rotate_left
  · rw [if_neg q1]
    obtain ⟨r, M1, M2, e1, e2, e3⟩ := no
    refine ⟨r, M1, M2, e1, ?_, e3⟩
    cases e1
    simp only [bM_eq]
    rw [rb2 X (fun _ _ => rfl), Option.bind_some, if_b1, if_neg q1]
    exact e2
  rw [if_pos q1, s1]
  have h5 := g.2.2.1.1.1
  by_cases q2 : p1 = S 0 4
  · rw [if_pos q2]
    obtain ⟨r, M1, M2, e1, e2, e3⟩ := no
    refine ⟨r, M1, M2, e1, ?_, e3⟩
    cases e1
    simp only [bM_eq]
    rw [rb2 X (fun _ _ => rfl), Option.bind_some, if_b1, if_pos q1]
    show (if upM X 88 2 0 122 0 = p1 then _ else _) = _
    rw [if_pos (by rw [up_na (by decide), s2]; exact q2.symm)]
    exact e2
  rw [if_neg q2]
  have hrow : RowOK H (snp (setS S 1 p1)) := (row_now g.2.2.1.2.2.2.1).elim fun a b => ⟨by rw [snp_set 0 (by decide)]; exact a, by rw [snp_set 1 (by decide), if_pos rfl]; omega, fun j j1 j2 => by rw [snp_set j (by decide), if_neg (by omega)]; exact b.2 j j1 j2⟩
  obtain ⟨M1, _, e1, _, f1, _, _⟩ := q_chg g x (i := 1) (v := p1) (kind := 1) (per := 0) (by decide) (Or.inr (Or.inl ⟨rfl, rfl⟩)) hrow
  have e1 : f_X5_note X 1 0 (S 0 4) = some M1 := e1
  have hi : ∀ a, 88 ≤ a → upM M1 54 4 p1 a = X a := fun a ha => by rw [up_row (by omega), f1 a (by omega)]
  have g1 := g.cg FrX.rf (fqx_low hi)
  have x1 := x.cg hh FrX.rf (fqx_low hi)
  obtain ⟨M1', N1, e1', e2, _, f2, fin⟩ := q_chg g1 x1 (i := 1) (v := p1) (kind := 1) (per := 0) (by decide) (Or.inr (Or.inl ⟨rfl, rfl⟩)) hrow
  have e1' : f_X5_note X 1 0 (S 0 4) = some M1' := e1'
  rw [e1] at e1'
  cases e1'
  have low : ∀ a, a < 88 → upM N1 122 0 p1 a = upM M1 54 4 p1 a := fun a ha => by rw [up_row (by omega)]; exact funext fun j => f2 a j (by omega) (Or.inl (by omega))
  have hC : CC (upM M1 54 4 p1) 54 (upM S 0 4 p1) := CC.up0 (fun k hk => by rw [f1 (54 + k) (by omega)]; exact g.1.2.2.2.2 k hk)
  obtain ⟨⟨k1, k2, k3, k4, k5, k6, k7⟩, l2, l3, l4⟩ := g1.2.1.2.2
  have res := fin (upM N1 122 0 p1) (upM N1 122 0 p1) (fun a h1 h2 h3 => by rw [low a h1, up_row h2]) (fun k hk => by rw [low (54 + k) (by omega)]; exact hC k hk) (fun a j h1 h2 h3 h4 h5 h6 => up_na h5) ⟨by rw [up_na (by decide), snp_set 0 (by decide), f2 121 0 (by decide) (Or.inl (by decide)), k2]; rfl, by rw [upM_eq, snp_set 1 (by decide)]; rfl, by rw [up_na (by decide), snp_set 2 (by decide), f2 123 0 (by decide) (Or.inl (by decide)), k4]; rfl, fun p hp => by rw [up_na (by decide), snp_set (p + 3) (by decide), if_neg (by omega), f2 120 p (by decide) (Or.inl (by decide)), (l2 p hp).1]; unfold snp; rw [if_neg (by omega), if_neg (by omega), if_neg (by omega)]; rfl⟩
  have q3 : ¬ upM (upM M1 54 4 p1) 88 2 0 122 0 = p1 := by rw [up_na (by decide), hi 122 (by decide), s2]; exact fun z => q2 z.symm
  refine ⟨1, upM M1 54 4 p1, upM N1 122 0 p1, by rw [e1, Option.bind_some, bM_eq], ?_, h, H, LV, _, res⟩
  simp only [bM_eq]
  rw [rb2 _ hi, Option.bind_some, if_b1, if_pos q1, if_neg q3, e2, Option.bind_some]
theorem al_candle {X : MM} (hX : AL X) (p1 : Int) (hp : p1 = 0 ∨ p1 = 1) : AN (f_X11_candle X p1) (fun m => f_X12_candle m p1) := by
  obtain ⟨h, H, LV, S, g, x⟩ := hX
  have hh := g.1.1
  have s1 : X 54 5 = S 0 5 := g.1.2.2.2.2.at0
  have s2 : X 123 0 = S 0 5 := g.2.1.2.2.1.2.2.2.1
  have no : AN (some (0, X)) (fun m => some (0, upM m 88 2 0)) := ⟨0, X, _, rfl, rfl, h, H, LV, S, g.cg (fun a h1 _ _ _ _ => up_row (by omega)) (FQ.rf.up (by unfold QS; omega)).x, x.cg hh (fun a h1 _ _ _ _ => up_row (by omega)) (FQ.rf.up (by unfold QS; omega)).x⟩
  unfold f_X11_candle f_X12_candle
  have hb : S 0 5 = 0 ∨ S 0 5 = 1 := g.2.2.1.2.2.2.1.2.2.2.1
  have ib : ((if S 0 5 = 0 then some 0 else some 1) : Option Int) = some (S 0 5) := by rcases hb with e | e <;> rw [e] <;> rfl
  rw [s1]
  by_cases q2 : p1 = S 0 5
  · rw [if_pos q2]
    obtain ⟨r, M1, M2, e1, e2, e3⟩ := no
    refine ⟨r, M1, M2, e1, ?_, e3⟩
    cases e1
    simp only [bM_eq]
    show (if upM X 88 2 0 123 0 = p1 then _ else _) = _
    rw [if_pos (by rw [up_na (by decide), s2]; exact q2.symm)]
    exact e2
  rw [if_neg q2]
  have hrow : RowOK H (snp (setS S 2 p1)) := (row_now g.2.2.1.2.2.2.1).elim fun a b => ⟨by rw [snp_set 0 (by decide)]; exact a, by rw [snp_set 1 (by decide)]; exact b.1, fun j j1 j2 => by rw [snp_set j (by decide)]; split; exact hp; exact b.2 j j1 j2⟩
  obtain ⟨M1, _, e1, _, f1, _, _⟩ := q_chg g x (i := 2) (v := p1) (kind := 2) (per := 0) (by decide) (Or.inr (Or.inr (Or.inl ⟨rfl, rfl⟩))) hrow
  have e1 : f_X5_note X 2 0 (S 0 5) = some M1 := e1
  have hi : ∀ a, 88 ≤ a → upM M1 54 5 p1 a = X a := fun a ha => by rw [up_row (by omega), f1 a (by omega)]
  have g1 := g.cg FrX.rf (fqx_low hi)
  have x1 := x.cg hh FrX.rf (fqx_low hi)
  obtain ⟨M1', N1, e1', e2, _, f2, fin⟩ := q_chg g1 x1 (i := 2) (v := p1) (kind := 2) (per := 0) (by decide) (Or.inr (Or.inr (Or.inl ⟨rfl, rfl⟩))) hrow
  have e1' : f_X5_note X 2 0 (S 0 5) = some M1' := e1'
  rw [e1] at e1'
  cases e1'
  have low : ∀ a, a < 88 → upM N1 123 0 p1 a = upM M1 54 5 p1 a := fun a ha => by rw [up_row (by omega)]; exact funext fun j => f2 a j (by omega) (Or.inl (by omega))
  have hC : CC (upM M1 54 5 p1) 54 (upM S 0 5 p1) := CC.up0 (fun k hk => by rw [f1 (54 + k) (by omega)]; exact g.1.2.2.2.2 k hk)
  obtain ⟨⟨k1, k2, k3, k4, k5, k6, k7⟩, l2, l3, l4⟩ := g1.2.1.2.2
  have res := fin (upM N1 123 0 p1) (upM N1 123 0 p1) (fun a h1 h2 h3 => by rw [low a h1, up_row h2]) (fun k hk => by rw [low (54 + k) (by omega)]; exact hC k hk) (fun a j h1 h2 h3 h4 h5 h6 => up_na h6) ⟨by rw [up_na (by decide), snp_set 0 (by decide), f2 121 0 (by decide) (Or.inl (by decide)), k2]; rfl, by rw [up_na (by decide), snp_set 1 (by decide), f2 122 0 (by decide) (Or.inl (by decide)), k3]; rfl, by rw [upM_eq, snp_set 2 (by decide)]; rfl, fun p hp => by rw [up_na (by decide), snp_set (p + 3) (by decide), if_neg (by omega), f2 120 p (by decide) (Or.inl (by decide)), (l2 p hp).1]; unfold snp; rw [if_neg (by omega), if_neg (by omega), if_neg (by omega)]; rfl⟩
  have q3 : ¬ upM (upM M1 54 5 p1) 88 2 0 123 0 = p1 := by rw [up_na (by decide), hi 123 (by decide), s2]; exact fun z => q2 z.symm
  refine ⟨1, upM M1 54 5 p1, upM N1 123 0 p1, by rw [ib, Option.bind_some, e1, Option.bind_some, gd_t hp, bM_eq], ?_, h, H, LV, _, res⟩
  simp only [bM_eq]
  rw [if_neg q3, e2, Option.bind_some, gd_t hp]
theorem setS_3 {p : Nat} {v : Int} : setS S (3 + p) v = upM S 2 p v := by
  unfold setS
  rw [if_neg (by omega), if_neg (by omega), if_neg (by omega), Nat.add_sub_cancel_left]
theorem snp_3 {p : Nat} : snp S (3 + p) = S 2 p := by
  unfold snp
  rw [if_neg (by omega), if_neg (by omega), if_neg (by omega), Nat.add_sub_cancel_left]
theorem al_jumper {X : MM} (hX : AL X) (p1 p2 : Int) (hp : p2 = 0 ∨ p2 = 1) : AN (f_X11_jumper X p1 p2) (fun m => f_X12_jumper m p1 p2) := by
  obtain ⟨h, H, LV, S, g, x⟩ := hX
  have hh := g.1.1
  have no : AN (some (0, X)) (fun m => some (0, upM m 88 2 0)) := ⟨0, X, _, rfl, rfl, h, H, LV, S, g.cg (fun a h1 _ _ _ _ => up_row (by omega)) (FQ.rf.up (by unfold QS; omega)).x, x.cg hh (fun a h1 _ _ _ _ => up_row (by omega)) (FQ.rf.up (by unfold QS; omega)).x⟩
  unfold f_X11_jumper f_X12_jumper
  obtain ⟨_, _, rb1, _⟩ := room_b g p1
  have rb2 : ∀ m : MM, (∀ a, 88 ≤ a → m a = X a) → f_X12_isPerson (upM m 88 2 0) p1 = some (b1 (0 ≤ p1 ∧ p1 < H 6 0)) := fun m hm => by rw [pu_isPerson12, up_ni (by decide), hm 88 (by decide), g.2.1.1.1.2.1]
  rw [rb1, Option.bind_some, if_b1]
  by_cases q1 : 0 ≤ p1 ∧ p1 < H 6 0
  rotate_left
  · rw [if_neg q1]
    obtain ⟨r, M1, M2, e1, e2, e3⟩ := no
    refine ⟨r, M1, M2, e1, ?_, e3⟩
    cases e1
    simp only [bM_eq]
    rw [rb2 X (fun _ _ => rfl), Option.bind_some, if_b1, if_neg q1]
    exact e2
  have h6 := g.2.2.1.1.2.1
  obtain ⟨p, rfl⟩ := nat_of q1.1
  have p5 : p < 5 := by omega
  have z5 : 0 ≤ (p : Int) ∧ (p : Int) < 5 := by omega
  have z10 : 0 ≤ (p : Int) ∧ (p : Int) < 10 := by omega
  have s1 : X 56 p = S 2 p := g.1.2.2.2.2.at (k := 2) (by decide)
  have s2 : X 120 p = S 2 p := (g.2.1.2.2.2.1 p p5).1
  have hb : S 2 p = 0 ∨ S 2 p = 1 := g.2.2.1.2.2.2.1.2.2.2.2.2.2.2.1 p p5
  have ib : ((if S 2 p = 0 then some 0 else some 1) : Option Int) = some (S 2 p) := by rcases hb with e | e <;> rw [e] <;> rfl
  rw [if_pos q1, gd_t z5, gd_t z5, Int.toNat_natCast, s1]
  by_cases q2 : p2 = S 2 p
  · rw [if_pos q2]
    obtain ⟨r, M1, M2, e1, e2, e3⟩ := no
    refine ⟨r, M1, M2, e1, ?_, e3⟩
    cases e1
    simp only [bM_eq]
    rw [rb2 X (fun _ _ => rfl), Option.bind_some, if_b1, if_pos q1, gd_t z10]
    rw [if_pos (show upM X 88 2 0 120 p = p2 by rw [up_na (by decide), s2]; exact q2.symm)]
    exact e2
  rw [if_neg q2]
  have hrow : RowOK H (snp (setS S (3 + p) p2)) := (row_now g.2.2.1.2.2.2.1).elim fun a b => ⟨by rw [snp_set 0 (by omega), if_neg (by omega)]; exact a, by rw [snp_set 1 (by omega), if_neg (by omega)]; exact b.1, fun j j1 j2 => by rw [snp_set j (by omega)]; split; exact hp; exact b.2 j j1 j2⟩
  have hc : ((3 : Int) = 0 ∧ 3 + p = 0) ∨ ((3 : Int) = 1 ∧ 3 + p = 1) ∨ ((3 : Int) = 2 ∧ 3 + p = 2) ∨ ((3 : Int) = 3 ∧ (0 ≤ (p : Int) ∧ (p : Int) < 5) ∧ 3 + p = 3 + (p : Int).toNat) := Or.inr (Or.inr (Or.inr ⟨rfl, z5, by rw [Int.toNat_natCast]⟩))
  obtain ⟨M1, _, e1, _, f1, _, _⟩ := q_chg g x (i := 3 + p) (v := p2) (kind := 3) (per := (p : Int)) (by omega) hc hrow
  rw [snp_3] at e1
  have hi : ∀ a, 88 ≤ a → upM M1 56 p p2 a = X a := fun a ha => by rw [up_row (by omega), f1 a (by omega)]
  have g1 := g.cg FrX.rf (fqx_low hi)
  have x1 := x.cg hh FrX.rf (fqx_low hi)
  obtain ⟨M1', N1, e1', e2, _, f2, fin⟩ := q_chg g1 x1 (i := 3 + p) (v := p2) (kind := 3) (per := (p : Int)) (by omega) hc hrow
  rw [snp_3, e1] at e1'
  cases e1'
  have low : ∀ a, a < 88 → upM N1 120 p p2 a = upM M1 56 p p2 a := fun a ha => by rw [up_row (by omega)]; exact funext fun j => f2 a j (by omega) (Or.inl (by omega))
  have hC : CC (upM M1 56 p p2) 54 (setS S (3 + p) p2) := by
    rw [setS_3]
    exact CC.up (c := 54) (k := 2) (fun k hk => by rw [f1 (54 + k) (by omega)]; exact g.1.2.2.2.2 k hk) (by decide)
  obtain ⟨⟨k1, k2, k3, k4, k5, k6, k7⟩, l2, l3, l4⟩ := g1.2.1.2.2
  have res := fin (upM N1 120 p p2) (upM N1 120 p p2) (fun a h1 h2 h3 => by rw [low a h1, up_row h3]) (fun k hk => by rw [low (54 + k) (by omega)]; exact hC k hk) (fun a j h1 h2 h3 h4 h5 h6 => up_na h3) ⟨by rw [up_na (by decide), snp_set 0 (by omega), if_neg (by omega), f2 121 0 (by decide) (Or.inl (by decide)), k2]; rfl, by rw [up_na (by decide), snp_set 1 (by omega), if_neg (by omega), f2 122 0 (by decide) (Or.inl (by decide)), k3]; rfl, by rw [up_na (by decide), snp_set 2 (by omega), if_neg (by omega), f2 123 0 (by decide) (Or.inl (by decide)), k4]; rfl, fun j hj => by
    rw [snp_set (j + 3) (by omega)]
    by_cases e : j = p
    · rw [e, upM_eq, if_pos (by omega)]
    · rw [up_ni e, if_neg (by omega), f2 120 j (by decide) (Or.inl (by decide)), (l2 j hj).1, Nat.add_comm j 3, snp_3]⟩
  have q3 : ¬ upM (upM M1 56 p p2) 88 2 0 120 p = p2 := by rw [up_na (by decide), hi 120 (by decide), s2]; exact fun z => q2 z.symm
  refine ⟨1, upM M1 56 p p2, upM N1 120 p p2, by rw [ib, Option.bind_some, e1, Option.bind_some, gd_t z5, gd_t hp, bM_eq], ?_, h, H, LV, _, res⟩
  simp only [bM_eq]
  rw [rb2 _ hi, Option.bind_some, if_b1, if_pos q1, gd_t z10, if_neg q3, e2, Option.bind_some, gd_t z10, gd_t hp]
theorem al_undo {X : MM} (hX : AL X) : AN (f_X11_undo X) (fun m => f_X12_undo m) := by
  obtain ⟨h, H, LV, S, g, x⟩ := hX
  have hh := g.1.1
  obtain ⟨⟨p1, p2, p3⟩, p4⟩ := x.2.2.2.1
  have hso := g.2.2.1.2.2.2.1
  unfold f_X11_undo f_X12_undo
  by_cases q0 : X 84 0 = 0
  · rw [if_pos q0]
    refine ⟨-1, X, upM X 88 2 0, rfl, ?_, h, H, LV, S, g.cg (fun a h1 _ _ _ _ => up_row (by omega)) (FQ.rf.up (by unfold QS; omega)).x, x.cg hh (fun a h1 _ _ _ _ => up_row (by omega)) (FQ.rf.up (by unfold QS; omega)).x⟩
    simp only [bM_eq]
    rw [if_pos (show upM X 88 2 0 88 85 = 0 by rw [up_ni (by decide), ← p1]; exact q0)]
  rw [if_neg q0]
  obtain ⟨n, hn⟩ := nat_of (show 0 ≤ X 84 0 - 1 by omega)
  have n20 : n < 20 := by omega
  have zn : 0 ≤ (n : Int) ∧ (n : Int) < 20 := by omega
  have wn : w32 (X 84 0 - 1) = (n : Int) := by rw [← hn]; exact w32_i (by omega) (by omega)
  obtain ⟨y1, i, y2, y3, y4⟩ := p4 n (by clear wn; omega)
  have hi8 : i < 8 := by clear wn; omega
  have ru : ∀ j, rowU X S (X 84 0) n j = X 133 (8 * n + j) := fun j => by unfold rowU; rw [if_pos (by clear wn; omega)]
  have ru1 : ∀ j, rowU X S (X 84 0) (n + 1) j = snp S j := fun j => by unfold rowU; rw [if_neg (by clear wn; omega)]
  rw [ru i] at y3
  have y4 : ∀ j : Nat, j < 8 → j ≠ i → X 133 (8 * n + j) = snp S j := fun j h1 h2 => by rw [← ru j, ← ru1 j]; exact y4 j h1 h2
  have row : ∀ j, j < 8 → snp (setS S i (X 87 n)) j = X 133 (8 * n + j) := fun j hj => by
    rw [snp_set j hi8]
    by_cases e : j = i
    · rw [if_pos e, e]; exact y3
    · rw [if_neg e]; exact (y4 j hj e).symm
  have hrow : RowOK H (snp (setS S i (X 87 n))) := y1.cg (fun j hj => by rw [row j hj, ru j])
  -- the class
  obtain ⟨M1, e1, c1, f1⟩ : ∃ M1, f_X5_takeBack X 54 = some M1 ∧ CC M1 54 (setS S i (X 87 n)) ∧ ((∀ a, a ≠ 54 → a ≠ 56 → a ≠ 84 → M1 a = X a) ∧ M1 84 0 = (n : Int)) := by
    unfold f_X5_takeBack
    rw [bM_eq, wn, upM_eq, gd_t zn, up_na (by decide), up_na (by decide), up_na (by decide), Int.toNat_natCast, bI_eq, gd_t zn]
    have C0 : CC (upM X 84 0 (n : Int)) 54 S := fun k hk => by rw [up_row (by clear wn; omega)]; exact g.1.2.2.2.2 k hk
    rcases y2 with ⟨a, rfl⟩ | ⟨a, rfl⟩ | ⟨a, rfl⟩ | ⟨a, b, rfl⟩
    · rw [if_pos a]
      exact ⟨_, rfl, C0.up0, fun b h1 h2 h3 => by rw [up_row h1, up_row h3], by rw [up_na (by decide), upM_eq]⟩
    · rw [if_neg (by rw [a]; decide), if_pos a]
      exact ⟨_, rfl, C0.up0, fun b h1 h2 h3 => by rw [up_row h1, up_row h3], by rw [up_na (by decide), upM_eq]⟩
    · have b01 : X 87 n = 0 ∨ X 87 n = 1 := by rw [y3, ← ru 2]; exact y1.2.2 2 (by decide) (by decide)
      have ib : ((if X 87 n = 1 then some 1 else some 0) : Option Int) = some (X 87 n) := by rcases b01 with e | e <;> rw [e] <;> rfl
      rw [if_neg (by rw [a]; decide), if_neg (by rw [a]; decide), if_pos a, ib, Option.bind_some, gd_t b01, bM_eq]
      exact ⟨_, rfl, C0.up0, fun b h1 h2 h3 => by rw [up_row h1, up_row h3], by rw [up_na (by decide), upM_eq]⟩
    · have b01 : X 87 n = 0 ∨ X 87 n = 1 := by rw [y3, ← ru _]; exact y1.2.2 _ (by clear wn; omega) hi8
      have ib : ((if X 87 n = 1 then some 1 else some 0) : Option Int) = some (X 87 n) := by rcases b01 with e | e <;> rw [e] <;> rfl
      rw [if_neg (by rw [a]; decide), if_neg (by rw [a]; decide), if_neg (by rw [a]; decide), ib, Option.bind_some, gd_t b, gd_t b01, bM_eq, gd_t zn]
      rw [setS_3]
      exact ⟨_, rfl, C0.up (k := 2) (by decide), fun b h1 h2 h3 => by rw [up_row h2, up_row h3], by rw [up_na (by decide), upM_eq]⟩
  -- the second system, over what the class left
  have hi : ∀ a, 88 ≤ a → M1 a = X a := fun a ha => f1.1 a (by clear wn; omega) (by clear wn; omega) (by clear wn; omega)
  have w8 : w32 (8 * (n : Int)) = ((8 * n : Nat) : Int) := by rw [w32_i (by clear wn; omega) (by clear wn; omega)]; clear wn; omega
  obtain ⟨N1, e2, ⟨t1, t2, t3, t4⟩, f2⟩ := m_take (N := upM (upM M1 88 2 0) 88 85 (n : Int)) (a1 := 133) (n1 := 160) (p := 8 * n) (Or.inl rfl) (by clear wn w8; omega) (by decide) (fun j j1 j2 => by
    rw [up_na (by decide), up_na (by decide), hi 133 (by decide), ← row j j2]
    exact hrow.2.2 j j1 j2)
  have v133 : ∀ j, upM (upM M1 88 2 0) 88 85 (n : Int) 133 j = X 133 j := fun j => by rw [up_na (by decide), up_na (by decide), hi 133 (by decide)]
  rw [v133] at t1 t2 t3
  have low : ∀ a, a < 88 → N1 a = M1 a := fun a ha => funext fun j => by rw [f2 a j (by clear wn w8; omega), up_na (by clear wn w8; omega), up_na (by clear wn w8; omega)]
  have high : ∀ a j, 88 ≤ a → a ≠ 88 ∨ (j ≠ 2 ∧ j ≠ 85) → a ≠ 120 → a ≠ 121 → a ≠ 122 → a ≠ 123 → N1 a j = X a j := fun a j h1 h2 h3 h4 h5 h6 => by rw [f2 a j (by clear wn w8; omega), upM_ne a j (by clear wn w8; omega), upM_ne a j (by clear wn w8; omega), hi a h1]
  have e85 : N1 88 85 = (n : Int) := by rw [f2 88 85 (by clear wn w8; omega), upM_eq]
  refine ⟨(n : Int), M1, N1, by rw [e1, Option.bind_some, f1.2], ?_, h, H, LV, setS S i (X 87 n), ?_, ?_⟩
  · simp only [bM_eq]
    have q1 : ¬ upM M1 88 2 0 88 85 = 0 := by rw [up_ni (by decide), hi 88 (by decide), ← p1]; exact q0
    have w1 : w32 (upM M1 88 2 0 88 85 - 1) = (n : Int) := by rw [up_ni (by decide), hi 88 (by decide), ← p1]; exact wn
    rw [if_neg q1, w1, upM_eq, w8, e2, Option.bind_some, e85]
  · clear wn w8
    refine g.set1 hi8 hrow (fun k hk => by rw [low (54 + k) (by omega)]; exact c1 k hk) (fun a ha => by rw [low a (by omega), f1.1 a (by omega) (by omega) (by omega)]) (fun a j h1 h2 h3 h4 h5 h6 => high a j (by omega) (Or.inl (by omega)) h3 h4 h5 h6) (fun j h1 h2 => high 88 j (by omega) (by omega) (by omega) (by omega) (by omega) (by omega)) ⟨by rw [t1, row 0 (by decide)]; rfl, by rw [t2, row 1 (by decide)], by rw [t3, row 2 (by decide)], fun p hp => ?_⟩
    have := t4 p hp
    rw [v133] at this
    rw [this, row (p + 3) (by omega), show 8 * n + 3 + p = 8 * n + (p + 3) by omega]
  · clear wn w8
    refine x.par (fun a ha => by rw [low a (by omega), f1.1 a (by omega) (by omega) (by omega)]) (fun j hj => high 88 j (by omega) (by omega) (by omega) (by omega) (by omega) (by omega)) (fun a j ha => high a j (by omega) (by omega) (by omega) (by omega) (by omega) (by omega)) ?_
    have e84 : N1 84 0 = (n : Int) := by rw [low 84 (by decide)]; exact f1.2
    have cl : ∀ a, a = 85 ∨ a = 86 ∨ a = 87 → N1 a = X a := fun a ha => by rw [low a (by omega), f1.1 a (by omega) (by omega) (by omega)]
    have n133 : ∀ j, N1 133 j = X 133 j := fun j => high 133 j (by decide) (Or.inl (by decide)) (by decide) (by decide) (by decide) (by decide)
    have old : ∀ k : Nat, k ≤ n → ∀ j : Nat, j < 8 → rowU N1 (setS S i (X 87 n)) (n : Int) k j = rowU X S (X 84 0) k j := fun k hk j hj => by
      by_cases q : k = n
      · subst q
        rw [ru j]
        unfold rowU
        rw [if_neg (by omega)]
        exact row j hj
      · unfold rowU
        rw [if_pos (by omega), if_pos (by omega), n133]
    refine ⟨⟨by rw [e84, e85], by rw [e84]; omega, by rw [e84]; omega⟩, ?_⟩
    rw [e84, cl 85 (by decide), cl 86 (by decide), cl 87 (by decide)]
    intro k hk
    obtain ⟨a1, i', a2, a3, a4⟩ := p4 k (by omega)
    have hi' : i' < 8 := by omega
    refine ⟨a1.cg (old k (by omega)), i', a2, by rw [old k (by omega) i' hi']; exact a3, fun j hj hji => ?_⟩
    rw [old k (by omega) j hj, old (k + 1) (by omega) j hj]
    exact a4 j hj hji
end UNDO4
