theorem w32_sub {x y : Int} (hx : r32 x) : w32 (w32 (x + y) - y) = x := by
  unfold r32 at hx
  unfold w32
  omega
section LEAF
variable {M N H S B ST : MM} {LV : LVT} {h : Nat}
def aSum (X : Nat → Int) : Nat → Int
  | 0 => 0
  | n + 1 => w32 (aSum X n + X n)
theorem c_sumX (hh : h = 8 ∨ h = 31) (hH : HC M h H) (h6 : 0 ≤ H 6 0 ∧ H 6 0 ≤ 5) {c : Nat} (hC : CC M c ST) (hz : ST 0 1 = (h : Int)) : f_X0_crossOfAll M c = some (aSum (ST 4) (H 6 0).toNat) := by
  unfold f_X0_crossOfAll
  refine lp_sum (H 6 0).toNat (aSum (ST 4)) _ (by omega) ?_ ?_ 0 rfl
  · intro k hk
    have q : (k : Int) < M (h + 6) 0 := by rw [hH.at (by decide) (by decide) (by decide)]; omega
    have z : 0 ≤ (k : Int) ∧ (k : Int) < 5 := by omega
    have w : -2147483648 ≤ (k : Int) + 1 ∧ (k : Int) + 1 ≤ 2147483647 := by omega
    dsimp only
    rw [hC.at0, hz, gH_h hh, if_pos q, gd_t z, bI_eq, w32_i w.1 w.2, Int.toNat_natCast, hC.at (by decide)]
    rfl
  · have q : ¬ (((H 6 0).toNat : Nat) : Int) < M (h + 6) 0 := by rw [hH.at (by decide) (by decide) (by decide)]; omega
    dsimp only
    rw [hC.at0, hz, gH_h hh, if_neg q]
theorem m_sumX (hH : HM N H) (h6 : 0 ≤ H 6 0 ∧ H 6 0 ≤ 5) (X : Nat → Int) (hX : ∀ p : Nat, p < 5 → w32 (N 118 (5 + p) - N 118 p) = X p) : f_X12_crossMore N = some (aSum X (H 6 0).toNat) := by
  unfold f_X12_crossMore
  refine lp_sum (H 6 0).toNat (aSum X) _ (by omega) ?_ ?_ 0 rfl
  · intro k hk
    have q : (k : Int) < N 88 13 := by rw [hH.1.2.1]; omega
    have z : 0 ≤ (k : Int) ∧ (k : Int) < 10 := by omega
    have z2 : 0 ≤ 5 + (k : Int) ∧ 5 + (k : Int) < 10 := by omega
    have x : (5 + (k : Int)).toNat = 5 + k := by omega
    have w : -2147483648 ≤ (k : Int) + 1 ∧ (k : Int) + 1 ≤ 2147483647 := by omega
    have w2 : -2147483648 ≤ 5 + (k : Int) ∧ 5 + (k : Int) ≤ 2147483647 := by omega
    have e := hX k (by omega)
    dsimp only
    rw [if_pos q, w32_i w2.1 w2.2, gd_t z2, gd_t z, bI_eq, w32_i w.1 w.2, Int.toNat_natCast, x, e]
    rfl
  · have q : ¬ (((H 6 0).toNat : Nat) : Int) < N 88 13 := by rw [hH.1.2.1]; omega
    dsimp only
    rw [if_neg q]
theorem q_cross (g : BA M N h H LV S) (t : TR M N h H S ST) (h1 : ST 1 1 = 0) : f_X0_crossOfAll M 70 = some (aSum (ST 4) (H 6 0).toNat) ∧ f_X12_crossMore N = some (aSum (ST 4) (H 6 0).toNat) := by
  obtain ⟨⟨a1, a2, a3, a4, a5⟩, ⟨b1, b2, b3⟩, ⟨c1, c2, c3, c4, c5, c6⟩, d1, d2⟩ := g
  obtain ⟨t1, t2, t3, t4, t5⟩ := t
  refine ⟨c_sumX a1 a3 c1.2.1 t1 t5, m_sumX b1 c1.2.1 (ST 4) fun p hp => ?_⟩
  have e1 : N 118 (5 + p) = w32 (ST 4 p + S 4 p) := t2.2.2.2.1 h1 p hp
  have e2 : N 118 p = S 4 p := (b3.2.1 p hp).2.2
  rw [e1, e2]
  exact w32_sub (t3.1.2.2.2.2.2.2.2.2.2.1 p hp).1
theorem q_paid (g : BA M N h H LV S) (t : TR M N h H S ST) : M 70 13 = ST 0 13 ∧ N 124 1 = ST 0 13 + S 0 13 ∧ N 124 0 = S 0 13 ∧ w32 (N 124 1 - N 124 0) = ST 0 13 ∧ (0 ≤ ST 0 13 ∧ ST 0 13 ≤ 3000000) ∧ (0 ≤ S 0 13 ∧ S 0 13 ≤ 3000000) := by
  obtain ⟨⟨a1, a2, a3, a4, a5⟩, ⟨b1, b2, b3⟩, ⟨c1, c2, c3, c4, c5, c6⟩, d1, d2⟩ := g
  obtain ⟨t1, t2, t3, t4, t5⟩ := t
  have e1 : N 124 1 = ST 0 13 + S 0 13 := t2.1.2.2.2.2.1
  have e2 : N 124 0 = S 0 13 := b3.1.2.2.2.2.1
  have k1 := t3.1.2.2.2.2.1
  have k2 := t3.1.1
  have k3 := c4.2.2.2.2.1
  have k4 := c4.1
  refine ⟨t1.at0, e1, e2, ?_, by omega, by omega⟩
  rw [e1, e2, w32_i (by omega) (by omega)]
  omega
theorem q_turns (g : BA M N h H LV S) (t : TR M N h H S ST) : M 70 15 = ST 0 15 ∧ w32 (N 126 1 - N 126 0) = ST 0 15 := by
  obtain ⟨⟨a1, a2, a3, a4, a5⟩, ⟨b1, b2, b3⟩, ⟨c1, c2, c3, c4, c5, c6⟩, d1, d2⟩ := g
  obtain ⟨t1, t2, t3, t4, t5⟩ := t
  have e1 : N 126 1 = w32 (ST 0 15 + S 0 15) := t2.1.2.2.2.2.2.2
  have e2 : N 126 0 = S 0 15 := b3.1.2.2.2.2.2.2
  refine ⟨t1.at0, ?_⟩
  rw [e1, e2]
  exact w32_sub t3.1.2.2.2.2.2.2.2.2.2.2.1.1
theorem q_turned (g : BA M N h H LV S) (t : TR M N h H S ST) {p : Nat} (hp : p < 5) : M 75 p = ST 5 p ∧ w32 (N 119 (5 + p) - N 119 p) = ST 5 p := by
  obtain ⟨⟨a1, a2, a3, a4, a5⟩, ⟨b1, b2, b3⟩, ⟨c1, c2, c3, c4, c5, c6⟩, d1, d2⟩ := g
  obtain ⟨t1, t2, t3, t4, t5⟩ := t
  have e1 : N 119 (5 + p) = w32 (ST 5 p + S 5 p) := (t2.2.1 p hp).2
  have e2 : N 119 p = S 5 p := (b3.2.1 p hp).2.1
  refine ⟨t1.at (k := 5) (by decide), ?_⟩
  rw [e1, e2]
  exact w32_sub (t3.1.2.2.2.2.2.2.2.2.2.1 p hp).2
theorem q_crossP (g : BA M N h H LV S) (t : TR M N h H S ST) (h1 : ST 1 1 = 0) {p : Nat} (hp : p < 5) : M 74 p = ST 4 p ∧ w32 (N 118 (5 + p) - N 118 p) = ST 4 p := by
  obtain ⟨⟨a1, a2, a3, a4, a5⟩, ⟨b1, b2, b3⟩, ⟨c1, c2, c3, c4, c5, c6⟩, d1, d2⟩ := g
  obtain ⟨t1, t2, t3, t4, t5⟩ := t
  have e1 : N 118 (5 + p) = w32 (ST 4 p + S 4 p) := t2.2.2.2.1 h1 p hp
  have e2 : N 118 p = S 4 p := (b3.2.1 p hp).2.2
  refine ⟨t1.at (k := 4) (by decide), ?_⟩
  rw [e1, e2]
  exact w32_sub (t3.1.2.2.2.2.2.2.2.2.2.1 p hp).1
theorem q_warm (t : TR M N h H B ST) {r : Nat} (hr : (r : Int) < H 1 0) (h5 : H 1 0 ≤ 5) : M 73 r = ST 3 r ∧ N 116 (5 + r) = ST 3 r ∧ 0 ≤ ST 3 r ∧ ST 3 r ≤ 600 := by
  obtain ⟨t1, t2, t3, t4, t5⟩ := t
  have e1 : N 116 (5 + r) = ST 3 r := (t2.2.2.1 r hr).1
  exact ⟨t1.at (k := 3) (by decide), e1, t3.1.2.2.2.2.2.2.2.2.1 r (by omega)⟩
theorem q_swung (t : TR M N h H B ST) : M 70 16 = ST 0 16 ∧ N 88 79 = ST 0 16 := by
  obtain ⟨t1, t2, t3, t4, t5⟩ := t
  exact ⟨t1.at0, (t2.2.2.2.2.2.1 trivial).2⟩
theorem q_set (t : TR M N h H B ST) : M 70 3 = ST 0 3 ∧ N 121 1 = ST 0 3 := by
  obtain ⟨t1, t2, t3, t4, t5⟩ := t
  exact ⟨t1.at0, t2.1.2.1⟩
theorem q_felt (g : BA M N h H LV S) (t : TR M N h H B ST) {p : Nat} (hp : (p : Int) < H 6 0) : f_X0_feltBy M 70 (p : Int) = some (aFelt H ST p) ∧ f_X12_feltBy N 1 (p : Int) = some (aFelt H ST p) := by
  obtain ⟨⟨a1, a2, a3, a4, a5⟩, ⟨b1, b2, b3⟩, ⟨c1, c2, c3, c4, c5, c6⟩, d1, d2⟩ := g
  obtain ⟨t1, t2, t3, t4, t5⟩ := t
  exact ⟨c_felt a1 a3 c1 t1 t3.1 t5 hp, m_felt (b := 1) b1 c1 t2.2.2.2.2.2.2 t2.2.2.1 (fun p hp => (t2.2.1 p hp).1) t3.1 (by decide) hp⟩
end LEAF
