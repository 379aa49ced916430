/-- two loops side by side, the second one may go on alone -/
theorem lp_twR {X Y X' Y' : Type} {f : X → Option (X ⊕ Y)} {g : X' → Option (X' ⊕ Y')} (I : X → X' → Prop) (μ : X → Nat) (Q : Y → Y' → Prop) (h : ∀ x x', I x x' → (∃ y, f x = some (.inr y) ∧ ∀ m : Nat, 100 ≤ m → ∃ y', lp g m x' = some y' ∧ Q y y') ∨ ∃ z z', f x = some (.inl z) ∧ g x' = some (.inl z') ∧ I z z' ∧ μ z < μ x) : ∀ (n : Nat) (x : X) (x' : X'), I x x' → μ x + 100 < n → ∃ y y', lp f n x = some y ∧ lp g n x' = some y' ∧ Q y y'
  | 0, x, _, _, hn => absurd hn (Nat.not_lt_zero _)
  | n + 1, x, x', hx, hn => by
    rcases h x x' hx with ⟨y, e, hy⟩ | ⟨z, z', e, e', hz, hm⟩
    · obtain ⟨y', e', q⟩ := hy (n + 1) (by omega)
      exact ⟨y, y', by rw [lp, e]; rfl, e', q⟩
    · obtain ⟨y, y', e2, e2', hy⟩ := lp_twR I μ Q h n z z' hz (by omega)
      exact ⟨y, y', by rw [lp, e]; exact e2, by rw [lp, e']; exact e2', hy⟩
theorem lp_tR {X Y X' Y' : Type} {f : X → Option (X ⊕ Y)} {g : X' → Option (X' ⊕ Y')} (I : X → X' → Prop) (μ : X → Nat) (Q : Y → Y' → Prop) (h : ∀ x x', I x x' → (∃ y, f x = some (.inr y) ∧ ∀ m : Nat, 100 ≤ m → ∃ y', lp g m x' = some y' ∧ Q y y') ∨ ∃ z z', f x = some (.inl z) ∧ g x' = some (.inl z') ∧ I z z' ∧ μ z < μ x) (x : X) (x' : X') (hx : I x x') (hn : μ x + 100 < 1000000) : ∃ y y', lp f FU x = some y ∧ lp g FU x' = some y' ∧ Q y y' := lp_twR I μ Q h FU x x' hx hn
theorem lp_end {X Y : Type} {g : X → Option (X ⊕ Y)} {x : X} {y : Y} (e : g x = some (.inr y)) : ∀ m : Nat, 100 ≤ m → lp g m x = some y
  | 0, h => absurd h (by omega)
  | m + 1, _ => by rw [lp, e]; rfl
theorem lp_go {X Y : Type} {g : X → Option (X ⊕ Y)} {x z : X} {y : Y} (e : g x = some (.inl z)) (e2 : g z = some (.inr y)) : ∀ m : Nat, 100 ≤ m → lp g m x = some y
  | 0, h => absurd h (by omega)
  | 1, h => absurd h (by omega)
  | m + 2, _ => by rw [lp, e]; show lp g (m + 1) z = _; rw [lp, e2]; rfl
section QUES3
variable {M N H S B ST : MM} {LV : LVT} {h : Nat}
theorem TR.set (t : TR M N h H B ST) {d : Int} (hd : 5 ≤ d ∧ d ≤ 30) : TR (upM M 70 3 d) (upM N 121 1 d) h H B (upM ST 0 3 d) := by
  obtain ⟨t1, t2, t3, t4, t5⟩ := t
  exact ⟨t1.up0, t2.set d, t3.set hd, by rw [up_na (by decide)]; exact t4, by rw [up_ni (by decide)]; exact t5⟩
theorem TR.hang (t : TR M N h H B ST) {d : Int} (hd : 0 ≤ d ∧ d < 5 ∧ (d < H 1 0 ∨ d = 0)) : TR (upM M 70 4 d) (upM N 122 1 d) h H B (upM ST 0 4 d) := by
  obtain ⟨t1, t2, t3, t4, t5⟩ := t
  exact ⟨t1.up0, t2.hang d, t3.hang hd, by rw [up_na (by decide)]; exact t4, by rw [up_ni (by decide)]; exact t5⟩
theorem fr70 {j : Nat} {v : Int} : Fr3 h 70 (upM M 70 j v) M := Fr3.rf.up (by decide)
theorem fq121 {v : Int} : FQ (upM N 121 1 v) N := FQ.rf.up (by unfold QS MS; omega)
theorem fq122 {v : Int} : FQ (upM N 122 1 v) N := FQ.rf.up (by unfold QS MS; omega)
theorem q_oneT (g : BA M N h H LV S) {ST : MM} (t : TR M N h H B ST) (hn : ST 0 2 + 1 ≤ 20000) : ∃ M' N', f_X0_run M 70 1 = some M' ∧ f_X12_goOn N 1 = some N' ∧ TR M' N' h H B (aStep H LV ST) ∧ Fr3 h 70 M' M ∧ FQ N' N ∧ aStep H LV ST 0 2 = ST 0 2 + 1 ∧ ∀ j, aStep H LV ST 1 j = ST 1 j := by
  obtain ⟨M', N', e1, e2, t', f1, f2⟩ := q_one g t hn
  obtain ⟨_, j2, j3, _⟩ := TA.step (LV := LV) g.2.2.1.1 t.2.2.1 (by omega)
  exact ⟨M', N', e1, e2, t', f1, f2, j2, j3⟩
/-- how soon -/
theorem q_till (g : BA M N h H LV S) {p1 p3 : Int} (p2 : Int) (h1 : 0 ≤ p1 ∧ p1 < H 1 0) (h3 : 5 ≤ p3 ∧ p3 ≤ 30) : ∃ r M' N', f_X11_hoursTillWarm M p1 p2 p3 = some (r, M') ∧ f_X12_soonBy N p1 p2 p3 = some (r, N') ∧ Fr3 h 70 M' M ∧ FQ N' N ∧ (r = -2 ∨ 0 ≤ r) := by
  obtain ⟨M1, N1, ST, e1, e2, t1, f1, f2, u1⟩ := q_alone g h3
  have ht := g.t
  have h5 := g.2.2.1.1.1
  obtain ⟨i1, i2, i3, i4, i5, i6⟩ := ix5' h1.1 (show p1 < 5 by omega)
  unfold f_X11_hoursTillWarm f_X12_soonBy
  rw [e1, e2, Option.bind_some, Option.bind_some]
  have hr5 : ((p1.toNat : Nat) : Int) < H 1 0 := by clear i6; omega
  have hkey := lp_tR (f := (fun x2 : Int × MM => if x2.1 < 200 then (gd (0 ≤ p1 ∧ p1 < (30 : Int)) <| if (x2.2 73 (p1).toNat) < p2 then ((f_X0_run x2.2 70 1).bind fun x6 => some (Sum.inl (w32 (x2.1 + 1), x6))) else some (Sum.inr (Sum.inr (x2.1, x2.2)))) else some (Sum.inr (Sum.inl x2.2)))) (g := (fun x2 : Int × MM => if 200 < x2.1 then (some (Sum.inr ((-2), x2.2))) else gd (0 ≤ w32 (5 + p1) ∧ w32 (5 + p1) < (10 : Int)) <| if (x2.2 116 (w32 (5 + p1)).toNat) < p2 then ((f_X12_goOn x2.2 1).bind fun x6 => some (Sum.inl (w32 (x2.1 + 1), x6))) else some (Sum.inr (x2.1, x2.2)))) (fun x x' => x'.1 = x.1 ∧ (0 ≤ x.1 ∧ x.1 ≤ 200) ∧ ∃ s, TR x.2 x'.2 h H S s ∧ s 0 2 = S 0 2 + x.1 ∧ Fr3 h 70 x.2 M ∧ FQ x'.2 N) (fun x => (200 - x.1).toNat) (fun (y : MM ⊕ (Int × MM)) (y' : Int × MM) => ∃ r m, bS (some y) (fun x7 => gd (0 ≤ p1 ∧ p1 < (30 : Int)) <| if (x7 73 (p1).toNat) < p2 then (some ((-2), x7)) else some (200, x7)) (fun r => r) = some (r, m) ∧ y'.1 = r ∧ Fr3 h 70 m M ∧ FQ y'.2 N ∧ (r = -2 ∨ 0 ≤ r)) ?_ (0, M1) (0, N1) ⟨rfl, (show (0 : Int) ≤ 0 ∧ (0 : Int) ≤ 200 by decide), ST, t1, by show ST 0 2 = S 0 2 + 0; omega, f1, f2⟩ (show (200 - (0 : Int)).toNat + 100 < 1000000 by decide)
  · obtain ⟨y, y', k1, k2, k3⟩ := hkey
    obtain ⟨r, m, q1, q2, q3, q4, q5⟩ := k3
    refine ⟨r, m, y'.2, ?_, ?_, q3, q4, q5⟩
    · rw [k1]; exact q1
    · rw [k2, ← q2]
  · rintro ⟨k, m⟩ ⟨k', m'⟩ ⟨j1, j2, s, ts, js, jf, jf'⟩
    dsimp only at j1 j2 ts js jf jf'
    subst j1
    have gg := g.q jf jf'
    obtain ⟨w1, w2, _⟩ := q_warm ts hr5 h5.2
    have wk : -2147483648 ≤ k' + 1 ∧ k' + 1 ≤ 2147483647 := by clear i6; omega
    obtain ⟨m2, m2', e3, e4, ts2, f3, f4, js2, _⟩ := q_oneT gg ts (by clear i6; omega)
    dsimp +instances only
    by_cases q : k' < 200
    · rw [if_pos q, gd_t i3, w1]
      have q' : ¬ 200 < k' := by clear i6; omega
      by_cases q2 : s 3 p1.toNat < p2
      · right
        rw [if_pos q2, if_neg q', i6, gd_t i4, i5, w2, if_pos q2, e3, e4, Option.bind_some, Option.bind_some, w32_i wk.1 wk.2]
        exact ⟨_, _, rfl, rfl, ⟨rfl, by show 0 ≤ k' + 1 ∧ k' + 1 ≤ 200; clear i6; omega, _, ts2, by show _ = S 0 2 + (k' + 1); clear i6; omega, f3.tr jf, f4.tr jf'⟩, by show (200 - (k' + 1)).toNat < (200 - k').toNat; clear i6; omega⟩
      · left
        rw [if_neg q2]
        refine ⟨_, rfl, fun n hn => ⟨_, lp_end (y := (k', m')) ?_ n hn, k', m, rfl, rfl, jf, jf', Or.inr j2.1⟩⟩
        dsimp +instances only
        rw [if_neg q', i6, gd_t i4, i5, w2, if_neg q2]
    · left
      have q0 : k' = 200 := by clear i6; omega
      rw [if_neg q]
      by_cases q2 : s 3 p1.toNat < p2
      · refine ⟨_, rfl, fun n hn => ⟨_, lp_go (z := (k' + 1, m2')) (y := (-2, m2')) ?_ ?_ n hn, -2, m, ?_, rfl, jf, f4.tr jf', Or.inl rfl⟩⟩
        · dsimp +instances only
          rw [if_neg (by clear i6; omega), i6, gd_t i4, i5, w2, if_pos q2, e4, Option.bind_some, w32_i wk.1 wk.2]
        · dsimp +instances only
          rw [if_pos (by clear i6; omega)]
        · rw [bS_l, gd_t i3, w1, if_pos q2]
      · refine ⟨_, rfl, fun n hn => ⟨_, lp_end (y := (k', m')) ?_ n hn, 200, m, ?_, q0, jf, jf', Or.inr (by decide)⟩⟩
        · dsimp +instances only
          rw [if_neg (by clear i6; omega), i6, gd_t i4, i5, w2, if_neg q2]
        · rw [bS_l, gd_t i3, w1, if_neg q2]
theorem canBe (g : BA M N h H LV S) (p1 p2 : Int) : f_X11_canBeWarm M p1 p2 = some (b1 ((0 ≤ p1 ∧ p1 < H 1 0) ∧ (0 ≤ p2 ∧ p2 ≤ 600))) := by
  unfold f_X11_canBeWarm
  rw [(room_b g p1).1, Option.bind_some, if_b1]
  by_cases q1 : 0 ≤ p1 ∧ p1 < H 1 0
  · rw [if_pos q1, pu_isWithin, Option.bind_some, if_b1]
    by_cases q2 : 0 ≤ p2 ∧ p2 ≤ 600
    · rw [if_pos q2]; unfold b1; rw [if_pos ⟨q1, q2⟩]
    · rw [if_neg q2]; unfold b1; rw [if_neg (fun z => q2 z.2)]
  · rw [if_neg q1]; unfold b1; rw [if_neg (fun z => q1 z.1)]
theorem q_soon (g : BA M N h H LV S) (p1 p2 p3 : Int) : PQ M N h (f_X11_soon M p1 p2 p3) (f_X12_soon N p1 p2 p3) := by
  obtain ⟨g0, f0⟩ := thr0 g
  unfold f_X11_soon f_X12_soon
  rw [bM_eq, canBe g, (room_b g0 p1).2.1, Option.bind_some, Option.bind_some, if_b1, if_b1]
  by_cases q1 : 0 ≤ p1 ∧ p1 < H 1 0
  rotate_left
  · rw [if_neg (fun z => q1 z.1), if_neg q1]
    exact ⟨-1, M, _, rfl, rfl, Fr3.rf, f0⟩
  rw [if_pos q1, pu_isIn, Option.bind_some, if_b1]
  by_cases q2 : 0 ≤ p2 ∧ p2 ≤ 600
  rotate_left
  · rw [if_neg (fun z => q2 z.2), if_neg q2]
    exact ⟨-1, M, _, rfl, rfl, Fr3.rf, f0⟩
  rw [if_pos ⟨q1, q2⟩, if_pos q2, pu_isSet11, pu_isSet12, Option.bind_some, Option.bind_some, if_b1, if_b1]
  by_cases q3 : 5 ≤ p3 ∧ p3 ≤ 30
  rotate_left
  · rw [if_neg q3, if_neg q3]
    exact ⟨-1, M, _, rfl, rfl, Fr3.rf, f0⟩
  obtain ⟨r, M', N', e1, e2, f1, f2, _⟩ := q_till g0 p2 q1 q3
  rw [if_pos q3, if_pos q3, e1, e2]
  exact ⟨_, _, _, rfl, rfl, f1, f2.tr f0⟩
theorem q_quicker (g : BA M N h H LV S) (p1 p2 p3 p4 : Int) : PQ M N h (f_X11_quicker M p1 p2 p3 p4) (f_X12_quicker N p1 p2 p3 p4) := by
  obtain ⟨g0, f0⟩ := thr0 g
  unfold f_X11_quicker f_X12_quicker
  rw [bM_eq, canBe g, (room_b g0 p1).2.1, Option.bind_some, Option.bind_some, if_b1, if_b1]
  by_cases q1 : 0 ≤ p1 ∧ p1 < H 1 0
  rotate_left
  · rw [if_neg (fun z => q1 z.1), if_neg q1]
    exact ⟨-1, M, _, rfl, rfl, Fr3.rf, f0⟩
  rw [if_pos q1, pu_isIn, Option.bind_some, if_b1]
  by_cases q2 : 0 ≤ p2 ∧ p2 ≤ 600
  rotate_left
  · rw [if_neg (fun z => q2 z.2), if_neg q2]
    exact ⟨-1, M, _, rfl, rfl, Fr3.rf, f0⟩
  rw [if_pos ⟨q1, q2⟩, if_pos q2, pu_isSet11, pu_isSet12, Option.bind_some, Option.bind_some, if_b1, if_b1]
  by_cases q3 : 5 ≤ p3 ∧ p3 ≤ 30
  rotate_left
  · rw [if_neg q3, if_neg q3]
    exact ⟨-1, M, _, rfl, rfl, Fr3.rf, f0⟩
  rw [if_pos q3, if_pos q3, pu_isSet11, pu_isSet12, Option.bind_some, Option.bind_some, if_b1, if_b1]
  by_cases q4 : 5 ≤ p4 ∧ p4 ≤ 30
  rotate_left
  · rw [if_neg q4, if_neg q4]
    exact ⟨-1, M, _, rfl, rfl, Fr3.rf, f0⟩
  obtain ⟨r, M', N', e1, e2, f1, f2, v1⟩ := q_till g0 p2 q1 q3
  obtain ⟨r2, M2, N2, e3, e4, f3, f4, v2⟩ := q_till (g0.q f1 f2) p2 q1 q4
  have f13 := f3.tr f1
  have f24 := (f4.tr f2).tr f0
  rw [if_pos q4, if_pos q4, e1, e2, Option.bind_some, Option.bind_some, e3, e4, Option.bind_some, Option.bind_some]
  dsimp +instances only
  by_cases c1 : r2 = -2
  · rw [if_pos c1, if_pos (show r2 < 0 by omega)]
    exact ⟨_, _, _, rfl, rfl, f13, f24⟩
  · rw [if_neg c1, if_neg (show ¬ r2 < 0 by omega)]
    by_cases c2 : r = -2
    · rw [if_pos c2, if_pos (show r < 0 by omega)]
      exact ⟨_, _, _, rfl, rfl, f13, f24⟩
    · rw [if_neg c2, if_neg (show ¬ r < 0 by omega)]
      by_cases c3 : r2 < r
      · rw [if_pos c3, if_pos c3]
        exact ⟨_, _, _, rfl, rfl, f13, f24⟩
      · rw [if_neg c3, if_neg c3]
        exact ⟨_, _, _, rfl, rfl, f13, f24⟩
/-- run on from a trial -/
theorem q_runT (g : BA M N h H LV S) {ST : MM} (t : TR M N h H B ST) {n : Nat} (hn : ST 0 2 + n ≤ 20000) : ∃ M' N', f_X0_run M 70 (n : Int) = some M' ∧ f_X12_goMany N (n : Int) = some N' ∧ TR M' N' h H B (aRun H LV ST n) ∧ Fr3 h 70 M' M ∧ FQ N' N ∧ aRun H LV ST n 0 2 = ST 0 2 + n ∧ ∀ j, aRun H LV ST n 1 j = ST 1 j := by
  obtain ⟨M', N', e1, e2, t', f1, f2⟩ := q_run g t hn
  obtain ⟨_, i2, i3, _⟩ := TA.run (LV := LV) g.2.2.1.1 t.2.2.1 n hn
  exact ⟨M', N', e1, e2, t', f1, f2, i2, i3⟩
theorem set0 (g : BA M N h H LV S) : M 54 3 = S 0 3 ∧ N 121 0 = S 0 3 ∧ 5 ≤ S 0 3 ∧ S 0 3 ≤ 30 := ⟨g.1.2.2.2.2.at0, g.2.1.2.2.1.2.1, g.2.2.1.2.2.2.1.2.1⟩
theorem rooms0 (g : BA M N h H LV S) : M (h + 1) 0 = H 1 0 ∧ N 88 12 = H 1 0 ∧ M 0 3 = (h : Int) ∧ (h = 8 ∨ h = 31) ∧ M (h + 6) 0 = H 6 0 ∧ N 88 13 = H 6 0 := ⟨g.1.2.2.1.at (by decide) (by decide) (by decide), g.2.1.1.1.1, g.1.2.1, g.1.1, g.1.2.2.1.at (by decide) (by decide) (by decide), g.2.1.1.1.2.1⟩
theorem q_hears (g : BA M N h H LV S) (p1 : Int) : PQ M N h (f_X11_hears M p1) (f_X12_hears N p1) := by
  obtain ⟨g0, f0⟩ := thr0 g
  unfold f_X11_hears f_X12_hears
  rw [bM_eq, pu_isWithin, pu_isIn, Option.bind_some, Option.bind_some, if_b1, if_b1]
  by_cases q1 : 1 ≤ p1 ∧ p1 ≤ 99
  rotate_left
  · rw [if_neg q1, if_neg q1]
    exact ⟨-1, M, _, rfl, rfl, Fr3.rf, f0⟩
  rw [if_pos q1, if_pos q1]
  have h5 := g.2.2.1.1.1
  obtain ⟨n, rfl⟩ := nat_of (show 0 ≤ p1 by omega)
  have hl : PQ M N h (lp (X := Int × Int × Int × MM) (Y := Int × MM) (fun x3 =>
gH (x3.2.2.2 0 3) fun b4 =>
if x3.2.2.1 < (x3.2.2.2 (b4 + 1) 0) then
((f_X11_tryTurnedBy x3.2.2.2 (x3.2.2.2 54 3)).bind fun x6 =>
bM (upM x6 70 4 x3.2.2.1) fun M7 =>
(f_X0_run M7 70 (n : Int)).bind fun x8 =>
(f_X0_crossOfAll x8 70).bind fun x9 =>
((if x3.1 = (-1) then
(some (x3.2.2.1, x9))
else
if x9 < x3.2.1 then
(some (x3.2.2.1, x9))
else
some (x3.1, x3.2.1)) : Option (Int × Int)).bind fun x12 =>
some (Sum.inl (x12.1, x12.2, w32 (x3.2.2.1 + 1), x8)))
else
some (Sum.inr (x3.1, x3.2.2.2))) FU ((-1), 0, 0, M)) (lp (X := Int × Int × Int × MM) (Y := Int × MM) (fun x5 =>
if x5.2.2.1 < (x5.2.2.2 88 12) then
((f_X12_layStill x5.2.2.2 (x5.2.2.2 121 0)).bind fun x7 =>
bM (upM x7 122 1 x5.2.2.1) fun M8 =>
(f_X12_goMany M8 (n : Int)).bind fun x9 =>
((if x5.1 < 0 then
((f_X12_crossMore x9).bind fun x11 =>
some (x5.2.2.1, x11))
else
(f_X12_crossMore x9).bind fun x12 =>
if x12 < x5.2.1 then
((f_X12_crossMore x9).bind fun x14 =>
some (x5.2.2.1, x14))
else
some (x5.1, x5.2.1)) : Option (Int × Int)).bind fun x15 =>
some (Sum.inl (x15.1, x15.2, w32 (x5.2.2.1 + 1), x9)))
else
some (Sum.inr (x5.1, x5.2.2.2))) FU ((-1), 0, 0, upM N 88 2 0)) := by
    refine PQ_lp (fun x x' => x'.1 = x.1 ∧ x'.2.1 = x.2.1 ∧ x'.2.2.1 = x.2.2.1 ∧ (x.1 = -1 ∨ 0 ≤ x.1) ∧ (0 ≤ x.2.2.1 ∧ x.2.2.1 ≤ H 1 0) ∧ Fr3 h 70 x.2.2.2 M ∧ FQ x'.2.2.2 N) (fun x => (H 1 0 - x.2.2.1).toNat) ?_ ⟨rfl, rfl, rfl, Or.inl rfl, ⟨(by decide : (0 : Int) ≤ 0), h5.1⟩, Fr3.rf, f0⟩ (show (H 1 0 - 0).toNat < 1000000 by omega)
    rintro ⟨b, l, d, m⟩ ⟨b', l', d', m'⟩ ⟨j1, j2, j3, j4, j5, j6, j7⟩
    dsimp only at j1 j2 j3 j4 j5 j6 j7
    subst j1 j2 j3
    have gg := g.q j6 j7
    obtain ⟨r1, r2, r3, r4, _⟩ := rooms0 gg
    obtain ⟨s1, s2, s3⟩ := set0 gg
    dsimp +instances only
    rw [r3, gH_h r4, r1, r2, s1, s2]
    by_cases q : d' < H 1 0
    rotate_left
    · left
      rw [if_neg q, if_neg q]
      exact ⟨_, _, rfl, rfl, rfl, j6, j7⟩
    right
    rw [if_pos q, if_pos q]
    obtain ⟨M1, N1, ST, e1, e2, t1, f1, f2, u1, u2⟩ := q_still gg s3
    have g1 := (gg.q f1 f2).q (fr70 (j := 4) (v := d')) (fq122 (v := d'))
    have t1 := t1.hang (d := d') (by omega)
    have ht := g.t
    have v1 : upM ST 0 4 d' 0 2 = S 0 2 := by rw [up_ni (by decide)]; exact u1
    obtain ⟨M2, N2, e3, e4, t2, f3, f4, v2, v3⟩ := q_runT g1 t1 (n := n) (by omega)
    obtain ⟨w1, w2⟩ := q_cross (g1.q f3 f4) t2 (by rw [v3, up_na (by decide)]; exact u2)
    have hm : (H 1 0 - (d' + 1)).toNat < (H 1 0 - d').toNat := by omega
    have wd : -2147483648 ≤ d' + 1 ∧ d' + 1 ≤ 2147483647 := by omega
    have hd5 : 0 ≤ d' + 1 ∧ d' + 1 ≤ H 1 0 := by omega
    have ff1 : Fr3 h 70 M2 M := f3.tr (fr70.tr (f1.tr j6))
    have ff2 : FQ N2 N := f4.tr (fq122.tr (f2.tr j7))
    rw [e1, e2, Option.bind_some, Option.bind_some, bM_eq, bM_eq, e3, e4, Option.bind_some, Option.bind_some, w1, w2, Option.bind_some, Option.bind_some, Option.bind_some, w32_i wd.1 wd.2]
    by_cases q3 : b' = -1
    · rw [if_pos q3, if_pos (show b' < 0 by rw [q3]; decide), Option.bind_some, Option.bind_some]
      exact ⟨_, _, rfl, rfl, ⟨rfl, rfl, rfl, Or.inr j5.1, hd5, ff1, ff2⟩, hm⟩
    · have q4 : ¬ b' < 0 := by omega
      rw [if_neg q3, if_neg q4]
      by_cases q5 : aSum (aRun H LV (upM ST 0 4 d') n 4) (H 6 0).toNat < l'
      · rw [if_pos q5, Option.bind_some, Option.bind_some]
        exact ⟨_, _, rfl, rfl, ⟨rfl, rfl, rfl, Or.inr j5.1, hd5, ff1, ff2⟩, hm⟩
      · rw [if_neg q5, Option.bind_some, Option.bind_some]
        exact ⟨_, _, rfl, rfl, ⟨rfl, rfl, rfl, j4, hd5, ff1, ff2⟩, hm⟩
  by_cases q2 : H 1 0 = 0
  · obtain ⟨r1, r2, r3, r4, _⟩ := rooms0 g
    have q2' : upM N 88 2 0 88 12 = 0 := by rw [(rooms0 g0).2.1]; exact q2
    rw [if_pos q2']
    refine ⟨-1, M, _, ?_, rfl, Fr3.rf, f0⟩
    have : ∀ k : Nat, lp (X := Int × Int × Int × MM) (Y := Int × MM) (fun x3 =>
gH (x3.2.2.2 0 3) fun b4 =>
if x3.2.2.1 < (x3.2.2.2 (b4 + 1) 0) then
((f_X11_tryTurnedBy x3.2.2.2 (x3.2.2.2 54 3)).bind fun x6 =>
bM (upM x6 70 4 x3.2.2.1) fun M7 =>
(f_X0_run M7 70 (n : Int)).bind fun x8 =>
(f_X0_crossOfAll x8 70).bind fun x9 =>
((if x3.1 = (-1) then
(some (x3.2.2.1, x9))
else
if x9 < x3.2.1 then
(some (x3.2.2.1, x9))
else
some (x3.1, x3.2.1)) : Option (Int × Int)).bind fun x12 =>
some (Sum.inl (x12.1, x12.2, w32 (x3.2.2.1 + 1), x8)))
else
some (Sum.inr (x3.1, x3.2.2.2))) (k + 1) ((-1), 0, 0, M) = some (-1, M) := fun k => by
      rw [lp]
      dsimp +instances only
      rw [r3, gH_h r4, r1, if_neg (by omega)]
      rfl
    exact this 999999
  · have q2' : ¬ upM N 88 2 0 88 12 = 0 := by rw [(rooms0 g0).2.1]; exact q2
    rw [if_neg q2']
    exact hl
theorem q_onAgain (g : BA M N h H LV S) (p1 p2 p3 : Int) : PQ M N h (f_X11_onAgain M p1 p2 p3) (f_X12_onAgain N p1 p2 p3) := by
  obtain ⟨g0, f0⟩ := thr0 g
  unfold f_X11_onAgain f_X12_onAgain
  rw [bM_eq, canBe g, (room_b g0 p1).2.1, Option.bind_some, Option.bind_some, if_b1, if_b1]
  by_cases q1 : 0 ≤ p1 ∧ p1 < H 1 0
  rotate_left
  · rw [if_neg (fun z => q1 z.1), if_neg q1]
    exact ⟨-1, M, _, rfl, rfl, Fr3.rf, f0⟩
  rw [if_pos q1, pu_isIn, Option.bind_some, if_b1]
  by_cases q2 : 0 ≤ p2 ∧ p2 ≤ 600
  rotate_left
  · rw [if_neg (fun z => q2 z.2), if_neg q2]
    exact ⟨-1, M, _, rfl, rfl, Fr3.rf, f0⟩
  rw [if_pos ⟨q1, q2⟩, if_pos q2, pu_isWithin, pu_isIn, Option.bind_some, Option.bind_some, if_b1, if_b1]
  by_cases q3 : 0 ≤ p3 ∧ p3 ≤ 99
  rotate_left
  · rw [if_neg q3, if_neg q3]
    exact ⟨-1, M, _, rfl, rfl, Fr3.rf, f0⟩
  rw [if_pos q3, if_pos q3]
  have h5 := g.2.2.1.1.1
  obtain ⟨i1, i2, i3, i4, i5, i6⟩ := ix5' q1.1 (show p1 < 5 by omega)
  have hr5 : ((p1.toNat : Nat) : Int) < H 1 0 := by clear i6; omega
  refine PQ_lp (fun x x' => x'.1 = x.1 ∧ (-1 ≤ x.1 ∧ x.1 ≤ p3) ∧ Fr3 h 70 x.2 M ∧ FQ x'.2 N) (fun x => (x.1 + 1).toNat) ?_ ⟨rfl, ⟨by show -1 ≤ p3; omega, Int.le_refl _⟩, Fr3.rf, f0⟩ (show (p3 + 1).toNat < 1000000 by omega)
  rintro ⟨k, m⟩ ⟨k', m'⟩ ⟨j1, j5, j6, j7⟩
  dsimp only at j1 j5 j6 j7
  subst j1
  dsimp +instances only
  by_cases q : k' < 0
  · left
    rw [if_pos q, if_pos q]
    exact ⟨_, _, rfl, rfl, rfl, j6, j7⟩
  rw [if_neg q, if_neg q]
  have gg := g.q j6 j7
  have ht := g.t
  obtain ⟨n, rfl⟩ := nat_of (show 0 ≤ k' by omega)
  obtain ⟨n2, hn2⟩ := nat_of (show 0 ≤ p3 - n by clear i6; omega)
  have wp : -2147483648 ≤ p3 - (n : Int) ∧ p3 - (n : Int) ≤ 2147483647 := by clear i6; omega
  have wk : -2147483648 ≤ (n : Int) + (-1) ∧ (n : Int) + (-1) ≤ 2147483647 := by clear i6; omega
  obtain ⟨M1, N1, M2, N2, ST, e1, e2, e3, e4, g2, t2, f1, f2, u1⟩ := q_ar gg (d := 5) (by decide) (n := n) (by clear i6; omega)
  have g3 := g2.q (fr70 (j := 3) (v := 30)) (fq121 (v := 30))
  have t3 := t2.set (d := 30) (by decide)
  have u2 : upM ST 0 3 30 0 2 = S 0 2 + n := by rw [up_ni (by decide)]; exact u1
  obtain ⟨M4, N4, e5, e6, t4, f3, f4, _, _⟩ := q_runT g3 t3 (n := n2) (by clear i6; omega)
  obtain ⟨w1, w2, _⟩ := q_warm t4 hr5 h5.2
  have ff1 : Fr3 h 70 M4 M := f3.tr (fr70.tr (f1.tr j6))
  have ff2 : FQ N4 N := f4.tr (fq121.tr (f2.tr j7))
  rw [e1, e2, Option.bind_some, Option.bind_some, e3, e4, Option.bind_some, Option.bind_some, bM_eq, bM_eq, w32_i wp.1 wp.2, hn2, e5, e6, Option.bind_some, Option.bind_some, gd_t i3, i6, gd_t i4, i5, w1, w2, w32_i wk.1 wk.2]
  by_cases q4 : aRun H LV (upM ST 0 3 30) n2 3 p1.toNat < p2
  · right
    rw [if_pos q4, if_pos q4]
    exact ⟨_, _, rfl, rfl, ⟨rfl, by show -1 ≤ (n : Int) + (-1) ∧ (n : Int) + (-1) ≤ p3; clear i6; omega, ff1, ff2⟩, by show ((n : Int) + (-1) + 1).toNat < ((n : Int) + 1).toNat; clear i6; omega⟩
  · left
    rw [if_neg q4, if_neg q4]
    exact ⟨_, _, rfl, rfl, rfl, ff1, ff2⟩
end QUES3
