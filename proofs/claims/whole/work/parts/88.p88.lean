def mxI (X : Nat → Int) : Nat → Int
  | 0 => 0
  | n + 1 => if mxI X n < X n then X n else mxI X n
def mnI (X : Nat → Int) : Nat → Int
  | 0 => 600
  | n + 1 => if X n < mnI X n then X n else mnI X n
theorem mm_r {X : Nat → Int} (hX : ∀ r, r < 5 → 0 ≤ X r ∧ X r ≤ 600) : ∀ n, n ≤ 5 → (0 ≤ mxI X n ∧ mxI X n ≤ 600) ∧ (0 ≤ mnI X n ∧ mnI X n ≤ 600)
  | 0, _ => by unfold mxI mnI; omega
  | n + 1, hn => by
    have := mm_r hX n (by omega)
    have := hX n (by omega)
    unfold mxI mnI
    refine ⟨?_, ?_⟩ <;> split <;> omega
def aSp (H ST : MM) : Int := if H 1 0 = 0 then 0 else mxI (ST 3) (H 1 0).toNat - mnI (ST 3) (H 1 0).toNat
section QUES6
variable {M N H S B ST : MM} {LV : LVT} {h : Nat}
theorem c_spread (hh : h = 8 ∨ h = 31) (hH : HC M h H) (h5 : 0 ≤ H 1 0 ∧ H 1 0 ≤ 5) {c : Nat} (hC : CC M c ST) (hz : ST 0 1 = (h : Int)) (hX : ∀ r : Nat, r < 5 → 0 ≤ ST 3 r ∧ ST 3 r ≤ 600) : f_X0_spreadNow M c = some (aSp H ST) := by
  have e1 : M (h + 1) 0 = H 1 0 := hH.at (by decide) (by decide) (by decide)
  have ew : ∀ j, M (c + 3) j = ST 3 j := fun j => hC.at (by decide)
  have hmm := mm_r hX
  unfold f_X0_spreadNow aSp
  rw [hC.at0, hz, gH_h hh, e1]
  by_cases q : H 1 0 = 0
  · rw [if_pos q, if_pos q]
  rw [if_neg q, if_neg q, bI_eq, bI_eq]
  have h0 := hX 0 (by decide)
  have i1 : mxI (ST 3) 1 = ST 3 0 := by unfold mxI; unfold mxI; split <;> omega
  have i2 : mnI (ST 3) 1 = ST 3 0 := by unfold mnI; unfold mnI; split <;> omega
  have hkey := lp_FU (step := (fun x5 : Int × Int × Int => gH (M c 1) fun b6 => if x5.2.2 < (M (b6 + 1) 0) then (gd (0 ≤ x5.2.2 ∧ x5.2.2 < (30 : Int)) <| bI (if x5.1 < M (c + 3) (x5.2.2).toNat then M (c + 3) (x5.2.2).toNat else x5.1) fun x9 => gd (0 ≤ x5.2.2 ∧ x5.2.2 < (30 : Int)) <| bI (if M (c + 3) (x5.2.2).toNat < x5.2.1 then M (c + 3) (x5.2.2).toNat else x5.2.1) fun x11 => some (Sum.inl (x9, x11, w32 (x5.2.2 + 1)))) else some (Sum.inr (x5.1, x5.2.1)))) (fun x => ∃ k : Nat, 1 ≤ k ∧ k ≤ (H 1 0).toNat ∧ x = (mxI (ST 3) k, mnI (ST 3) k, (k : Int))) (fun x => 6 - x.2.2.toNat) (fun y : Int × Int => y = (mxI (ST 3) (H 1 0).toNat, mnI (ST 3) (H 1 0).toNat)) ?_ (ST 3 0, ST 3 0, 1) ⟨1, by decide, by omega, by rw [i1, i2]; rfl⟩ (show 6 - (1 : Int).toNat < 1000000 by decide)
  · obtain ⟨y, e, hy⟩ := hkey
    subst hy
    rw [hC.at0, hz] at e
    rw [ew 0, e, Option.bind_some]
    have := hmm (H 1 0).toNat (by omega)
    try dsimp +instances only
    rw [w32_i (by omega) (by omega)]
  · rintro _ ⟨k, k1, k2, rfl⟩
    try dsimp +instances only
    rw [hC.at0, hz, gH_h hh, e1]
    by_cases q2 : (k : Int) < H 1 0
    · right
      have z : 0 ≤ (k : Int) ∧ (k : Int) < 30 := by omega
      have wk : w32 ((k : Int) + 1) = (k : Int) + 1 := w32_i (by omega) (by omega)
      have hm : 6 - ((k : Int) + 1).toNat < 6 - (k : Int).toNat := by clear wk; omega
      have hk2 : k + 1 ≤ (H 1 0).toNat := by clear wk; omega
      rw [if_pos q2, gd_t z, bI_eq, gd_t z, bI_eq, Int.toNat_natCast, ew, wk]
      exact ⟨_, rfl, ⟨k + 1, by omega, hk2, rfl⟩, hm⟩
    · left
      have : k = (H 1 0).toNat := by omega
      rw [if_neg q2]
      exact ⟨_, rfl, by rw [this]⟩
theorem m_spread (hH : HM N H) (h5 : 0 ≤ H 1 0 ∧ H 1 0 ≤ 5) {b : Nat} (hb : b < 2) (hR : ∀ r : Nat, (r : Int) < H 1 0 → N 116 (5 * b + r) = ST 3 r) (hX : ∀ r : Nat, r < 5 → 0 ≤ ST 3 r ∧ ST 3 r ≤ 600) : f_X12_spreadIn N (b : Int) = some (aSp H ST) := by
  have e1 : N 88 12 = H 1 0 := hH.1.1
  have hmm := mm_r hX
  unfold f_X12_spreadIn aSp
  rw [e1]
  have hkey := lp_FU (step := (fun x1 : Int × Int × Int => if x1.2.2 < (H 1 0) then (gd (0 ≤ w32 ((w32 (5 * (b : Int))) + x1.2.2) ∧ w32 ((w32 (5 * (b : Int))) + x1.2.2) < (10 : Int)) <| ((if x1.1 < (N 116 (w32 ((w32 (5 * (b : Int))) + x1.2.2)).toNat) then (gd (0 ≤ w32 ((w32 (5 * (b : Int))) + x1.2.2) ∧ w32 ((w32 (5 * (b : Int))) + x1.2.2) < (10 : Int)) <| some (N 116 (w32 ((w32 (5 * (b : Int))) + x1.2.2)).toNat)) else some x1.1) : Option (Int)).bind fun x6 => gd (0 ≤ w32 ((w32 (5 * (b : Int))) + x1.2.2) ∧ w32 ((w32 (5 * (b : Int))) + x1.2.2) < (10 : Int)) <| ((if (N 116 (w32 ((w32 (5 * (b : Int))) + x1.2.2)).toNat) < x1.2.1 then (gd (0 ≤ w32 ((w32 (5 * (b : Int))) + x1.2.2) ∧ w32 ((w32 (5 * (b : Int))) + x1.2.2) < (10 : Int)) <| some (N 116 (w32 ((w32 (5 * (b : Int))) + x1.2.2)).toNat)) else some x1.2.1) : Option (Int)).bind fun x10 => some (Sum.inl (x6, x10, w32 (x1.2.2 + 1)))) else some (Sum.inr (x1.1, x1.2.1)))) (fun x => ∃ k : Nat, k ≤ (H 1 0).toNat ∧ x = (mxI (ST 3) k, mnI (ST 3) k, (k : Int))) (fun x => 6 - x.2.2.toNat) (fun y : Int × Int => y = (mxI (ST 3) (H 1 0).toNat, mnI (ST 3) (H 1 0).toNat)) ?_ (0, 600, 0) ⟨0, by omega, rfl⟩ (show 6 - (0 : Int).toNat < 1000000 by decide)
  · obtain ⟨y, e, hy⟩ := hkey
    subst hy
    rw [e, Option.bind_some]
    have := hmm (H 1 0).toNat (by omega)
    try dsimp +instances only
    by_cases q : H 1 0 = 0
    · rw [if_pos q, if_pos q]
    · rw [if_neg q, if_neg q, w32_i (by omega) (by omega)]
  · rintro _ ⟨k, k2, rfl⟩
    try dsimp +instances only
    by_cases q2 : (k : Int) < H 1 0
    · right
      obtain ⟨x1, y1, y2, w1, w2, w3, y6, _⟩ := ix5 (k := k) hb (by omega)
      have hm : 6 - ((k : Int) + 1).toNat < 6 - (k : Int).toNat := by clear y1 y2 y6; omega
      have hk2 : k + 1 ≤ (H 1 0).toNat := by clear y1 y2 y6; omega
      rw [if_pos q2, y1, y2, gd_t w1, x1, hR k q2, y6]
      refine ⟨(mxI (ST 3) (k + 1), mnI (ST 3) (k + 1), ((k + 1 : Nat) : Int)), ?_, ⟨k + 1, hk2, rfl⟩, hm⟩
      have em : mxI (ST 3) (k + 1) = (if mxI (ST 3) k < ST 3 k then ST 3 k else mxI (ST 3) k) := rfl
      have en : mnI (ST 3) (k + 1) = (if ST 3 k < mnI (ST 3) k then ST 3 k else mnI (ST 3) k) := rfl
      rw [em, en]
      by_cases c1 : mxI (ST 3) k < ST 3 k
      · rw [if_pos c1, if_pos c1, gd_t w1, Option.bind_some, gd_t w1]
        by_cases c2 : ST 3 k < mnI (ST 3) k
        · rw [if_pos c2, if_pos c2, Option.bind_some]; rfl
        · rw [if_neg c2, if_neg c2, Option.bind_some]; rfl
      · rw [if_neg c1, if_neg c1, Option.bind_some, gd_t w1]
        by_cases c2 : ST 3 k < mnI (ST 3) k
        · rw [if_pos c2, if_pos c2, gd_t w1, Option.bind_some]; rfl
        · rw [if_neg c2, if_neg c2, Option.bind_some]; rfl
    · left
      have : k = (H 1 0).toNat := by omega
      rw [if_neg q2]
      exact ⟨_, rfl, by rw [this]⟩
theorem q_spread (g : BA M N h H LV S) : PR N (f_X11_spread M) (f_X12_spread N) := by
  obtain ⟨g0, f0⟩ := thr0 g
  have h5 := g.2.2.1.1.1
  have h30 := g.2.2.1.2.2.2.1.2.2.2.2.2.2.2.2.1
  have e1 := c_spread g.1.1 g.1.2.2.1 h5 g.1.2.2.2.2 g.2.2.1.2.2.2.2.2 (fun r hr => h30 r (by omega))
  have e2 := m_spread (b := 0) g0.2.1.1 h5 (by decide) (fun r hr => by rw [Nat.mul_zero, Nat.zero_add]; exact (g0.2.1.2.2.2.2.1 r hr).1) (fun r hr => h30 r (by omega))
  have e2 : f_X12_spreadIn (upM N 88 2 0) 0 = some (aSp H S) := e2
  unfold f_X11_spread f_X12_spread
  rw [bM_eq, e1, e2]
  exact ⟨_, _, rfl, rfl, f0⟩
theorem q_spr (g : BA M N h H LV S) (t : TR M N h H B ST) : f_X0_spreadNow M 70 = some (aSp H ST) ∧ f_X12_spreadIn N 1 = some (aSp H ST) := by
  have h5 := g.2.2.1.1.1
  have h30 := t.2.2.1.1.2.2.2.2.2.2.2.2.1
  exact ⟨c_spread g.1.1 g.1.2.2.1 h5 t.1 t.2.2.2.2 (fun r hr => h30 r (by omega)), m_spread (b := 1) g.2.1.1 h5 (by decide) (fun r hr => (t.2.1.2.2.1 r hr).1) (fun r hr => h30 r (by omega))⟩
theorem q_apart (g : BA M N h H LV S) (p1 p2 : Int) : PQ M N h (f_X11_apart M p1 p2) (f_X12_apart N p1 p2) := by
  obtain ⟨g0, f0⟩ := thr0 g
  unfold f_X11_apart f_X12_apart
  rw [bM_eq, pu_isWithin, pu_isIn, Option.bind_some, Option.bind_some, if_b1, if_b1]
  by_cases q1 : 0 ≤ p1 ∧ p1 ≤ 200
  rotate_left
  · rw [if_neg q1, if_neg q1]
    exact ⟨-1, M, _, rfl, rfl, Fr3.rf, f0⟩
  rw [if_pos q1, if_pos q1, pu_isWithin, pu_isIn, Option.bind_some, Option.bind_some, if_b1, if_b1]
  by_cases q2 : 0 ≤ p2 ∧ p2 ≤ 1
  rotate_left
  · rw [if_neg q2, if_neg q2]
    exact ⟨-1, M, _, rfl, rfl, Fr3.rf, f0⟩
  rw [if_pos q2, if_pos q2]
  have ht := g.t
  obtain ⟨M1, N1, ST, e1, e2, t1, f1, f2, u1⟩ := q_try g0
  have f2 := f2.tr f0
  obtain ⟨s1, s2⟩ := q_spr (g.q f1 f2) t1
  rw [e1, e2, Option.bind_some, Option.bind_some, s1, s2, Option.bind_some, Option.bind_some]
  refine PQ_two (fun x x' => x'.2.1 = x.1 ∧ x'.1 = x.2.1 ∧ x'.2.2.1 = x.2.2.1 ∧ (1 ≤ x.2.2.1 ∧ x.2.2.1 ≤ p1 + 1) ∧ ∃ s, TR x.2.2.2 x'.2.2.2 h H S s ∧ s 0 2 = S 0 2 + (x.2.2.1 - 1) ∧ Fr3 h 70 x.2.2.2 M ∧ FQ x'.2.2.2 N) (fun x => (p1 + 1 - x.2.2.1).toNat) (fun y y' => y'.2.1 = y.1 ∧ y'.1 = y.2.1 ∧ Fr3 h 70 y.2.2 M ∧ FQ y'.2.2 N) ?_ ⟨rfl, rfl, rfl, by show (1 : Int) ≤ 1 ∧ 1 ≤ p1 + 1; omega, ST, t1, by show ST 0 2 = S 0 2 + (1 - 1); omega, f1, f2⟩ (show (p1 + 1 - 1).toNat < 1000000 by omega) ?_
  · rintro ⟨a, b, k, m⟩ ⟨b', a', k', m'⟩ ⟨j1, j2, j3, j4, s, ts, js, jf, jf'⟩
    dsimp only at j1 j2 j3 j4 ts js jf jf'
    subst j1 j2 j3
    try dsimp +instances only
    by_cases q : p1 < k'
    · left
      rw [if_pos q, if_pos q]
      exact ⟨_, _, rfl, rfl, rfl, rfl, jf, jf'⟩
    right
    have gg := g.q jf jf'
    obtain ⟨m2, m2', c1, c2, c3, c4, c5, c6, _⟩ := q_oneT gg ts (by omega)
    obtain ⟨s3, s4⟩ := q_spr (gg.q c4 c5) c3
    have wk : -2147483648 ≤ k' + 1 ∧ k' + 1 ≤ 2147483647 := by omega
    have hm : (p1 + 1 - (k' + 1)).toNat < (p1 + 1 - k').toNat := by omega
    have hk : 1 ≤ k' + 1 ∧ k' + 1 ≤ p1 + 1 := by omega
    have hs : aStep H LV s 0 2 = S 0 2 + (k' + 1 - 1) := by omega
    rw [if_neg q, if_neg q, c1, c2, Option.bind_some, Option.bind_some, s3, s4, Option.bind_some, Option.bind_some, Option.bind_some, w32_i wk.1 wk.2]
    by_cases q3 : a' < aSp H (aStep H LV s)
    · rw [if_pos q3, if_pos q3, Option.bind_some, Option.bind_some]
      exact ⟨_, _, rfl, rfl, ⟨rfl, rfl, rfl, hk, _, c3, hs, c4.tr jf, c5.tr jf'⟩, hm⟩
    · rw [if_neg q3, if_neg q3, Option.bind_some, Option.bind_some]
      exact ⟨_, _, rfl, rfl, ⟨rfl, rfl, rfl, hk, _, c3, hs, c4.tr jf, c5.tr jf'⟩, hm⟩
  · rintro ⟨y1, y2, y3⟩ ⟨y1', y2', y3'⟩ ⟨k1, k2, k3, k4⟩
    dsimp only at k1 k2 k3 k4
    subst k1 k2
    try dsimp +instances only
    by_cases q3 : p2 = 0
    · rw [if_pos q3, if_pos q3]
      exact ⟨_, _, _, rfl, rfl, k3, k4⟩
    · rw [if_neg q3, if_neg q3]
      exact ⟨_, _, _, rfl, rfl, k3, k4⟩
theorem q_crossest (g : BA M N h H LV S) : PR N (f_X11_crossest M) (f_X12_crossest N) := by
  obtain ⟨g0, f0⟩ := thr0 g
  obtain ⟨r1, r2, r3, r4, r5, r6⟩ := rooms0 g
  have r7 := (rooms0 g0).2.2.2.2.2
  have h6 := g.2.2.1.1.2.1
  have ec : ∀ j, M 58 j = S 4 j := fun j => g.1.2.2.2.2.at (k := 4) (by decide)
  have em : ∀ p : Nat, p < 5 → upM N 88 2 0 118 p = S 4 p := fun p hp => (g0.2.1.2.2.2.1 p hp).2.2
  unfold f_X11_crossest f_X12_crossest
  rw [bM_eq]
  have hkey := lp_tw (f := (fun x1 : Int × Int => gH (M 0 3) fun b2 => if x1.2 < (M (b2 + 6) 0) then (((if x1.1 = (-1) then (some x1.2) else gd (0 ≤ x1.2 ∧ x1.2 < (5 : Int)) <| gd (0 ≤ x1.1 ∧ x1.1 < (5 : Int)) <| if (M 58 (x1.1).toNat) < (M 58 (x1.2).toNat) then (some x1.2) else some x1.1) : Option (Int)).bind fun x8 => some (Sum.inl (x8, w32 (x1.2 + 1)))) else some (Sum.inr x1.1))) (g := (fun x2 : Int × Int => if x2.2 < (upM N 88 2 0 88 13) then (((if x2.1 < 0 then (some x2.2) else gd (0 ≤ x2.2 ∧ x2.2 < (10 : Int)) <| gd (0 ≤ x2.1 ∧ x2.1 < (10 : Int)) <| if (upM N 88 2 0 118 (x2.1).toNat) < (upM N 88 2 0 118 (x2.2).toNat) then (some x2.2) else some x2.1) : Option (Int)).bind fun x8 => some (Sum.inl (x8, w32 (x2.2 + 1)))) else some (Sum.inr (x2.1, upM N 88 2 0)))) (fun x x' => x' = x ∧ (x.1 = -1 ∨ (0 ≤ x.1 ∧ x.1 < 5)) ∧ 0 ≤ x.2) (fun x => (H 6 0 - x.2).toNat) (fun (y : Int) (y' : Int × MM) => y'.1 = y ∧ y'.2 = upM N 88 2 0) ?_ (-1, 0) (-1, 0) ⟨rfl, Or.inl rfl, (show (0 : Int) ≤ 0 by decide)⟩ (show (H 6 0 - 0).toNat < 1000000 by omega)
  · obtain ⟨y, y', e1, e2, q1, q2⟩ := hkey
    refine ⟨y, y'.2, e1, ?_, by rw [q2]; exact f0⟩
    rw [e2, ← q1]
  · rintro ⟨b, p⟩ _ ⟨rfl, j1, j2⟩
    dsimp only at j1 j2
    try dsimp +instances only
    rw [r3, gH_h r4, r5, r7]
    by_cases q : p < H 6 0
    rotate_left
    · left
      rw [if_neg q, if_neg q]
      exact ⟨_, _, rfl, rfl, rfl, rfl⟩
    right
    have wk : -2147483648 ≤ p + 1 ∧ p + 1 ≤ 2147483647 := by omega
    have hm : (H 6 0 - (p + 1)).toNat < (H 6 0 - p).toNat := by omega
    rw [if_pos q, if_pos q, w32_i wk.1 wk.2]
    by_cases q1 : b = -1
    · rw [if_pos q1, if_pos (show b < 0 by omega), Option.bind_some, Option.bind_some]
      exact ⟨_, _, rfl, rfl, ⟨rfl, Or.inr (by show 0 ≤ p ∧ p < 5; omega), by show 0 ≤ p + 1; omega⟩, hm⟩
    · rw [if_neg q1, if_neg (show ¬ b < 0 by omega), gd_t (show 0 ≤ p ∧ p < 5 by omega), gd_t (show 0 ≤ b ∧ b < 5 by omega), gd_t (show 0 ≤ p ∧ p < 10 by omega), gd_t (show 0 ≤ b ∧ b < 10 by omega), ec, ec, em b.toNat (by omega), em p.toNat (by omega)]
      by_cases q2 : S 4 b.toNat < S 4 p.toNat
      · rw [if_pos q2, Option.bind_some]
        exact ⟨_, _, rfl, rfl, ⟨rfl, Or.inr (by show 0 ≤ p ∧ p < 5; omega), by show 0 ≤ p + 1; omega⟩, hm⟩
      · rw [if_neg q2, Option.bind_some]
        exact ⟨_, _, rfl, rfl, ⟨rfl, j1, by show 0 ≤ p + 1; omega⟩, hm⟩
theorem q_feels (g : BA M N h H LV S) (p1 p2 : Int) : PQ M N h (f_X11_feels M p1 p2) (f_X12_feels N p1 p2) := by
  obtain ⟨g0, f0⟩ := thr0 g
  unfold f_X11_feels f_X12_feels
  rw [bM_eq, (room_b g p1).2.2.1, (room_b g0 p1).2.2.2, Option.bind_some, Option.bind_some, if_b1, if_b1]
  by_cases q1 : 0 ≤ p1 ∧ p1 < H 6 0
  rotate_left
  · rw [if_neg q1, if_neg q1]
    exact ⟨-1, M, _, rfl, rfl, Fr3.rf, f0⟩
  rw [if_pos q1, if_pos q1, pu_isWithin, pu_isIn, Option.bind_some, Option.bind_some, if_b1, if_b1]
  by_cases q2 : 1 ≤ p2 ∧ p2 ≤ 99
  rotate_left
  · rw [if_neg q2, if_neg q2]
    exact ⟨-1, M, _, rfl, rfl, Fr3.rf, f0⟩
  rw [if_pos q2, if_pos q2]
  obtain ⟨r1, r2, r3, r4, _⟩ := rooms0 g
  obtain ⟨a1, a2, a3, a4, a5⟩ := wants0 g q1
  obtain ⟨n, rfl⟩ := nat_of q1.1
  rw [Int.toNat_natCast] at a1 a2 a3
  have ht := g.t
  have ww : w32 (10 * H 9 n) = 10 * H 9 n := w32_i (by omega) (by omega)
  obtain ⟨M1, N1, ST, e1, e2, t1, f1, f2, u1⟩ := q_try g0
  have f2 := f2.tr f0
  rw [r3, gH_h r4, gd_t a4, bI_eq, Int.toNat_natCast, a1, ww, e1, e2, Option.bind_some, Option.bind_some]
  have hkey := lp_tR (f := (fun x9 : Int × MM => if x9.1 < p2 then ((f_X0_feltBy x9.2 70 (n : Int)).bind fun x11 => if x11 < 10 * H 9 n then ((f_X0_run x9.2 70 1).bind fun x13 => some (Sum.inl (w32 (x9.1 + 1), x13))) else some (Sum.inr (Sum.inr (x9.1, x9.2)))) else some (Sum.inr (Sum.inl x9.2)))) (g := (fun x7 : Int × MM => if p2 < x7.1 then (some (Sum.inr ((-2), x7.2))) else (f_X12_feltBy x7.2 1 (n : Int)).bind fun x9 => gd (0 ≤ (n : Int) ∧ (n : Int) < (10 : Int)) <| if x9 < (w32 (10 * (x7.2 99 n))) then ((f_X12_goOn x7.2 1).bind fun x12 => some (Sum.inl (w32 (x7.1 + 1), x12))) else some (Sum.inr (x7.1, x7.2)))) (fun x x' => x'.1 = x.1 ∧ (0 ≤ x.1 ∧ x.1 ≤ p2) ∧ ∃ s, TR x.2 x'.2 h H S s ∧ s 0 2 = S 0 2 + x.1 ∧ Fr3 h 70 x.2 M ∧ FQ x'.2 N) (fun x => (p2 - x.1).toNat) (fun (y : MM ⊕ (Int × MM)) (y' : Int × MM) => ∃ r m, bS (some y) (fun x14 => (f_X0_feltBy x14 70 (n : Int)).bind fun x15 => if x15 < 10 * H 9 n then (some ((-2), x14)) else some (p2, x14)) (fun r => r) = some (r, m) ∧ y'.1 = r ∧ Fr3 h 70 m M ∧ FQ y'.2 N) ?_ (0, M1) (0, N1) ⟨rfl, by show (0 : Int) ≤ 0 ∧ 0 ≤ p2; clear ww; omega, ST, t1, by show ST 0 2 = S 0 2 + 0; clear ww; omega, f1, f2⟩ (show (p2 - 0).toNat + 100 < 1000000 by clear ww; omega)
  · obtain ⟨y, y', k1, k2, k3⟩ := hkey
    obtain ⟨r, m, c1, c2, c3, c4⟩ := k3
    refine ⟨r, m, y'.2, ?_, ?_, c3, c4⟩
    · rw [k1]; exact c1
    · rw [k2, ← c2]
  · rintro ⟨k, m⟩ ⟨k', m'⟩ ⟨j1, j2, s, ts, js, jf, jf'⟩
    dsimp only at j1 j2 ts js jf jf'
    subst j1
    have gg := g.q jf jf'
    obtain ⟨w1, w2⟩ := q_felt gg ts (p := n) (by clear ww; omega)
    have e99 : m' 99 n = H 9 n := by
      have := (wants0 gg q1).2.1
      rw [Int.toNat_natCast] at this
      exact this
    have wk : -2147483648 ≤ k' + 1 ∧ k' + 1 ≤ 2147483647 := by clear ww; omega
    obtain ⟨m2, m2', e3, e4, ts2, f3, f4, js2, _⟩ := q_oneT gg ts (by clear ww; omega)
    try dsimp +instances only
    by_cases q : k' < p2
    · have q' : ¬ p2 < k' := by clear ww; omega
      rw [if_pos q, w1, Option.bind_some]
      by_cases q2 : aFelt H s n < 10 * H 9 n
      · right
        rw [if_pos q2, if_neg q', w2, Option.bind_some, gd_t a5, e99, ww, if_pos q2, e3, e4, Option.bind_some, Option.bind_some, w32_i wk.1 wk.2]
        exact ⟨_, _, rfl, rfl, ⟨rfl, by show 0 ≤ k' + 1 ∧ k' + 1 ≤ p2; clear ww; omega, _, ts2, by show _ = S 0 2 + (k' + 1); clear ww; omega, f3.tr jf, f4.tr jf'⟩, by show (p2 - (k' + 1)).toNat < (p2 - k').toNat; clear ww; omega⟩
      · left
        rw [if_neg q2]
        refine ⟨_, rfl, fun n1 hn => ⟨_, lp_end (y := (k', m')) ?_ n1 hn, k', m, rfl, rfl, jf, jf'⟩⟩
        try dsimp +instances only
        rw [if_neg q', w2, Option.bind_some, gd_t a5, e99, ww, if_neg q2]
    · left
      have q0 : k' = p2 := by clear ww; omega
      rw [if_neg q]
      by_cases q2 : aFelt H s n < 10 * H 9 n
      · refine ⟨_, rfl, fun n1 hn => ⟨_, lp_go (z := (k' + 1, m2')) (y := (-2, m2')) ?_ ?_ n1 hn, -2, m, ?_, rfl, jf, f4.tr jf'⟩⟩
        · try dsimp +instances only
          rw [if_neg (by clear ww; omega), w2, Option.bind_some, gd_t a5, e99, ww, if_pos q2, e4, Option.bind_some, w32_i wk.1 wk.2]
        · try dsimp +instances only
          rw [if_pos (by clear ww; omega)]
        · rw [bS_l, w1, Option.bind_some, if_pos q2]
      · refine ⟨_, rfl, fun n1 hn => ⟨_, lp_end (y := (k', m')) ?_ n1 hn, p2, m, ?_, q0, jf, jf'⟩⟩
        · try dsimp +instances only
          rw [if_neg (by clear ww; omega), w2, Option.bind_some, gd_t a5, e99, ww, if_neg q2]
        · rw [bS_l, w1, Option.bind_some, if_neg q2]
/-- twists laid on both sides -/
theorem CM.twist {b : Nat} {fl : Prop} (hC : CM N H S B b fl) {N' S' : MM} (f1 : ∀ a j, a ≠ 88 → N' a j = N a j) (f2 : ∀ j, 77 ≤ j → N' 88 j = N 88 j) (f3 : ∀ a j, a ≠ 1 → S' a j = S a j) (f4 : S' 1 1 = S 1 1) (hT : TM N' S') : CM N' H S' B b fl := by
  obtain ⟨g1, g2, g3, g4, g5, g6, g7⟩ := hC
  refine ⟨?_, ?_, ?_, ?_, ?_, ?_, hT⟩
  · simp (disch := decide) only [f1, f3]; exact g1
  · simp (disch := decide) only [f1, f3]; exact g2
  · unfold RW at *; simp (disch := decide) only [f1, f3]; exact g3
  · rw [f4]; simp (disch := decide) only [f1, f3]; exact g4
  · simp (disch := decide) only [f1, f3]; exact g5
  · rw [f2 78 (by decide), f2 79 (by decide)]; simp (disch := decide) only [f3]; exact g6
theorem bS_if {Y Z X : Type} {c : Prop} [Decidable c] {o1 o2 : Option (Y ⊕ Z)} {f : Y → Option X} {ρ : Z → X} : bS (if c then o1 else o2) f ρ = if c then bS o1 f ρ else bS o2 f ρ := by split <;> rfl
theorem ite01 {c : Prop} [Decidable c] : ((if c then some 1 else some 0) : Option Int) = some (b1 c) := by
  unfold b1
  split <;> rfl
theorem iteo {c : Prop} [Decidable c] {x y : Int} : ((if c then some x else some y) : Option Int) = some (if c then x else y) := by split <;> rfl
theorem q_triedC (g : BA M N h H LV S) {p1 p2 : Int} {n : Nat} (hn : n ≤ 99) (hp : p1 = 2 → 0 ≤ p2) : ∃ M1 M2 N1 N2 ST, f_X11_tryAsItGoes M = some M1 ∧ f_X12_layTried N = some N1 ∧ f_X0_run (upM (upM (upM (upM (upM M1 71 0 (b1 (p1 = 0))) 71 2 (b1 (p1 = 1))) 71 5 (if p1 = 2 then p2 else -1)) 71 3 (b1 (p1 = 3))) 71 4 (b1 (p1 = 4))) 70 (n : Int) = some M2 ∧ f_X12_goMany (upM (upM (upM (upM (upM N1 88 69 (b1 (p1 = 0))) 88 70 (b1 (p1 = 1))) 88 73 (if p1 = 2 then p2 else -1)) 88 71 (b1 (p1 = 3))) 88 72 (b1 (p1 = 4))) (n : Int) = some N2 ∧ BA M2 N2 h H LV S ∧ TR M2 N2 h H S ST ∧ Fr3 h 70 M2 M ∧ FQ N2 N ∧ ST 1 1 = 0 := by
  obtain ⟨M1, e1, c1, f1⟩ := q_tryC g
  obtain ⟨N1, e2, c2, s2, f2⟩ := q_lay g
  have g1 := g.q f1 f2
  have ht := g.t
  have ta := TA_try (T := fun k => M (70 + k)) g
  have a1 : ∀ j, j < 5 ∨ j = 9 → aTry S (fun k => M (70 + k)) 1 j = 0 := fun j hj => at_1 hj
  have a2 : ∀ j, j = 5 ∨ j = 6 ∨ j = 7 → aTry S (fun k => M (70 + k)) 1 j = -1 := fun j hj => at_m hj
  have e02 : aTry S (fun k => M (70 + k)) 0 2 = S 0 2 := at_0 (by decide)
  have e01 : aTry S (fun k => M (70 + k)) 0 1 = (h : Int) := (at_0 (by decide)).trans g.2.2.1.2.2.2.2.2
  have c2 := c2 (fun k => M (70 + k))
  generalize aTry S (fun k => M (70 + k)) = S0 at c1 c2 ta a1 a2 e02 e01
  have fr : Fr3 h 70 (upM (upM (upM (upM (upM M1 71 0 (b1 (p1 = 0))) 71 2 (b1 (p1 = 1))) 71 5 (if p1 = 2 then p2 else -1)) 71 3 (b1 (p1 = 3))) 71 4 (b1 (p1 = 4))) M1 := ((((Fr3.rf.up (by decide)).up (by decide)).up (by decide)).up (by decide)).up (by decide)
  have fq : FQ (upM (upM (upM (upM (upM N1 88 69 (b1 (p1 = 0))) 88 70 (b1 (p1 = 1))) 88 73 (if p1 = 2 then p2 else -1)) 88 71 (b1 (p1 = 3))) 88 72 (b1 (p1 = 4))) N1 := ((((FQ.rf.up (by unfold QS; omega)).up (by unfold QS; omega)).up (by unfold QS; omega)).up (by unfold QS; omega)).up (by unfold QS; omega)
  have cc : CC (upM (upM (upM (upM (upM M1 71 0 (b1 (p1 = 0))) 71 2 (b1 (p1 = 1))) 71 5 (if p1 = 2 then p2 else -1)) 71 3 (b1 (p1 = 3))) 71 4 (b1 (p1 = 4))) 70 (upM (upM (upM (upM (upM S0 1 0 (b1 (p1 = 0))) 1 2 (b1 (p1 = 1))) 1 5 (if p1 = 2 then p2 else -1)) 1 3 (b1 (p1 = 3))) 1 4 (b1 (p1 = 4))) := ((((c1.up (k := 1) (by decide)).up (k := 1) (by decide)).up (k := 1) (by decide)).up (k := 1) (by decide)).up (k := 1) (by decide)
  have S1 : ∀ a j, a ≠ 1 → upM (upM (upM (upM (upM S0 1 0 (b1 (p1 = 0))) 1 2 (b1 (p1 = 1))) 1 5 (if p1 = 2 then p2 else -1)) 1 3 (b1 (p1 = 3))) 1 4 (b1 (p1 = 4)) a j = S0 a j := fun a j ha => by simp only [up_na ha]
  have S2 : ∀ j, j = 1 ∨ 6 ≤ j → upM (upM (upM (upM (upM S0 1 0 (b1 (p1 = 0))) 1 2 (b1 (p1 = 1))) 1 5 (if p1 = 2 then p2 else -1)) 1 3 (b1 (p1 = 3))) 1 4 (b1 (p1 = 4)) 1 j = S0 1 j := fun j hj => by
    rw [up_ni (by omega), up_ni (by omega), up_ni (by omega), up_ni (by omega), up_ni (by omega)]
  have cm : CM (upM (upM (upM (upM (upM N1 88 69 (b1 (p1 = 0))) 88 70 (b1 (p1 = 1))) 88 73 (if p1 = 2 then p2 else -1)) 88 71 (b1 (p1 = 3))) 88 72 (b1 (p1 = 4))) H (upM (upM (upM (upM (upM S0 1 0 (b1 (p1 = 0))) 1 2 (b1 (p1 = 1))) 1 5 (if p1 = 2 then p2 else -1)) 1 3 (b1 (p1 = 3))) 1 4 (b1 (p1 = 4))) S 1 True := by
    refine CM.twist c2 (fun a j ha => by simp only [up_na ha]) (fun j hj => by rw [up_ni (by omega), up_ni (by omega), up_ni (by omega), up_ni (by omega), up_ni (by omega)]) S1 (S2 1 (by decide)) ?_
    have g7 := c2.2.2.2.2.2.2
    unfold TM at *
    simp (disch := decide) only [up_ni, upM_eq]
    exact ⟨trivial, trivial, trivial, trivial, trivial, g7.2.2.2.2.2⟩
  have ta2 : TA H (upM (upM (upM (upM (upM S0 1 0 (b1 (p1 = 0))) 1 2 (b1 (p1 = 1))) 1 5 (if p1 = 2 then p2 else -1)) 1 3 (b1 (p1 = 3))) 1 4 (b1 (p1 = 4))) S := by
    obtain ⟨h1, h2, h3, h4, h5⟩ := ta
    refine ⟨?_, ?_, ?_, Or.inl ?_, ?_⟩
    · unfold SOK at *
      simp (disch := decide) only [S1]
      obtain ⟨x1, x2, x3, x4, x5, x6, x7, x8, h30, x10, x11, x12⟩ := h1
      exact ⟨x1, x2, x3, x4, x5, x6, x7, x8, h30, x10, x11, Or.inl (by rw [S2 7 (by decide), a2 7 (by decide)])⟩
    · unfold SP at *; simp (disch := decide) only [S1]; exact h2
    · rw [S2 9 (by decide)]; exact h3
    · rw [S2 6 (by decide), a2 6 (by decide)]
    · simp (disch := decide) only [S1]; exact h5
  have v1 : upM (upM (upM (upM (upM S0 1 0 (b1 (p1 = 0))) 1 2 (b1 (p1 = 1))) 1 5 (if p1 = 2 then p2 else -1)) 1 3 (b1 (p1 = 3))) 1 4 (b1 (p1 = 4)) 0 2 = S 0 2 := by rw [S1 _ _ (by decide)]; exact e02
  have v2 : upM (upM (upM (upM (upM S0 1 0 (b1 (p1 = 0))) 1 2 (b1 (p1 = 1))) 1 5 (if p1 = 2 then p2 else -1)) 1 3 (b1 (p1 = 3))) 1 4 (b1 (p1 = 4)) 0 1 = (h : Int) := by rw [S1 _ _ (by decide)]; exact e01
  have v3 : upM (upM (upM (upM (upM S0 1 0 (b1 (p1 = 0))) 1 2 (b1 (p1 = 1))) 1 5 (if p1 = 2 then p2 else -1)) 1 3 (b1 (p1 = 3))) 1 4 (b1 (p1 = 4)) 1 1 = 0 := by rw [S2 1 (by decide), a1 1 (by decide)]
  have v4 : upM (upM (upM (upM (upM N1 88 69 (b1 (p1 = 0))) 88 70 (b1 (p1 = 1))) 88 73 (if p1 = 2 then p2 else -1)) 88 71 (b1 (p1 = 3))) 88 72 (b1 (p1 = 4)) 88 77 = 0 := by simp (disch := decide) only [up_ni]; exact s2
  have gg := g1.q fr fq
  generalize upM (upM (upM (upM (upM S0 1 0 (b1 (p1 = 0))) 1 2 (b1 (p1 = 1))) 1 5 (if p1 = 2 then p2 else -1)) 1 3 (b1 (p1 = 3))) 1 4 (b1 (p1 = 4)) = S3 at cc cm ta2 v1 v2 v3
  obtain ⟨M2, N2, d1, d2, d3, d4, d5, d6, d7⟩ := q_runT gg ⟨cc, cm, ta2, v4, v2⟩ (n := n) (by omega)
  exact ⟨M1, M2, N1, N2, _, e1, e2, d1, d2, gg.q d4 d5, d3, d4.tr (fr.tr f1), d5.tr (fq.tr f2), by rw [d7]; exact v3⟩
theorem q_tried (g : BA M N h H LV S) (p1 p2 p3 : Int) : PQ M N h (f_X11_tried M p1 p2 p3) (f_X12_tried N p1 p2 p3) := by
  obtain ⟨g0, f0⟩ := thr0 g
  unfold f_X11_tried f_X12_tried
  rw [bM_eq, pu_isWithin, pu_isIn, Option.bind_some, Option.bind_some, if_b1, if_b1]
  by_cases q1 : 0 ≤ p1 ∧ p1 ≤ 4
  rotate_left
  · rw [if_neg q1, if_neg q1]
    exact ⟨-1, M, _, rfl, rfl, Fr3.rf, f0⟩
  rw [if_pos q1, if_pos q1, pu_isWithin, pu_isIn, Option.bind_some, Option.bind_some, if_b1, if_b1]
  by_cases q2 : 0 ≤ p3 ∧ p3 ≤ 99
  rotate_left
  · rw [if_neg q2, if_neg q2]
    exact ⟨-1, M, _, rfl, rfl, Fr3.rf, f0⟩
  rw [if_pos q2, if_pos q2, (room_b g p2).2.2.1, (room_b g0 p2).2.2.2, Option.bind_some, Option.bind_some, if_b1, if_b1]
  obtain ⟨n, rfl⟩ := nat_of q2.1
  have hW := iteo (c := p1 = 2) (x := p2) (y := -1)
  rw [hW]
  generalize hv : (if p1 = 2 then p2 else (-1 : Int)) = v
  have fin : (p1 = 2 → 0 ≤ p2) → PQ M N h ((f_X11_tryAsItGoes M).bind fun x10 => ((if p1 = 0 then (some 1) else some 0) : Option (Int)).bind fun x12 => gd (x12 = 0 ∨ x12 = 1) <| bM (upM x10 71 0 x12) fun M14 => ((if p1 = 1 then (some 1) else some 0) : Option (Int)).bind fun x16 => gd (x16 = 0 ∨ x16 = 1) <| bM (upM M14 71 2 x16) fun M18 => ((some v) : Option (Int)).bind fun x20 => bM (upM M18 71 5 x20) fun M21 => ((if p1 = 3 then (some 1) else some 0) : Option (Int)).bind fun x23 => gd (x23 = 0 ∨ x23 = 1) <| bM (upM M21 71 3 x23) fun M25 => ((if p1 = 4 then (some 1) else some 0) : Option (Int)).bind fun x27 => gd (x27 = 0 ∨ x27 = 1) <| bM (upM M25 71 4 x27) fun M29 => (f_X0_run M29 70 (n : Int)).bind fun x30 => (f_X0_crossOfAll x30 70).bind fun x31 => some (x31, x30)) ((f_X12_layTried (upM N 88 2 0)).bind fun x11 => ((if p1 = 0 then (some 1) else some 0) : Option (Int)).bind fun x13 => gd (x13 = 0 ∨ x13 = 1) <| bM (upM x11 88 69 x13) fun M15 => ((if p1 = 1 then (some 1) else some 0) : Option (Int)).bind fun x17 => gd (x17 = 0 ∨ x17 = 1) <| bM (upM M15 88 70 x17) fun M19 => ((some v) : Option (Int)).bind fun x21 => bM (upM M19 88 73 x21) fun M22 => ((if p1 = 3 then (some 1) else some 0) : Option (Int)).bind fun x24 => gd (x24 = 0 ∨ x24 = 1) <| bM (upM M22 88 71 x24) fun M26 => ((if p1 = 4 then (some 1) else some 0) : Option (Int)).bind fun x28 => gd (x28 = 0 ∨ x28 = 1) <| bM (upM M26 88 72 x28) fun M30 => (f_X12_goMany M30 (n : Int)).bind fun x31 => (f_X12_plainTried x31).bind fun x32 => (f_X12_crossMore x32).bind fun x33 => some (x33, x32)) := by
    intro hp
    subst hv
    obtain ⟨M1, M2, N1, N2, ST, e1, e2, e3, e4, gg, t, f1, f2, h11⟩ := q_triedC g0 (p1 := p1) (n := n) (by omega) hp
    obtain ⟨w1, w2⟩ := q_cross gg t h11
    obtain ⟨N5, d1, d2, d3⟩ := plain_fq (N := N2)
    have w3 : f_X12_crossMore N5 = some (aSum (ST 4) (H 6 0).toNat) := by
      refine m_sumX (d2.hm gg.2.1.1) gg.2.2.1.1.2.1 (ST 4) fun p hp => ?_
      rw [d3 118 _ (by decide), d3 118 _ (by decide)]
      exact (q_crossP gg t h11 hp).2
    rw [e1, e2]
    simp only [Option.bind_some, ite01, bM_eq, gd_t (b1_z _)]
    rw [e3, e4, Option.bind_some, Option.bind_some, w1, Option.bind_some, d1, Option.bind_some, w3, Option.bind_some]
    exact ⟨_, _, _, rfl, rfl, f1, d2.tr (f2.tr f0)⟩
  rw [bS_if, bS_if]
  by_cases q3 : p1 = 2
  · rw [if_pos q3, if_pos q3]
    by_cases q4 : 0 ≤ p2 ∧ p2 < H 6 0
    · rw [if_pos q4, if_pos q4, bS_l, bS_l]
      exact fin (fun _ => q4.1)
    · rw [if_neg q4, if_neg q4]
      exact ⟨-1, M, _, rfl, rfl, Fr3.rf, f0⟩
  · rw [if_neg q3, if_neg q3]
    by_cases q4 : p2 = 0
    · rw [if_pos q4, if_pos q4, bS_l, bS_l]
      exact fin (fun z => absurd z q3)
    · rw [if_neg q4, if_neg q4]
      exact ⟨-1, M, _, rfl, rfl, Fr3.rf, f0⟩
end QUES6
