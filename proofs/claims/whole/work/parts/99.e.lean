theorem and32_255 {x : Int} (h : r32 x) : and32 x 255 = x % 256 := by
  unfold and32
  have h0 := tIr h
  have h1 : (Int32.ofInt x &&& Int32.ofInt 255).toBitVec.toNat = (Int32.ofInt x).toBitVec.toNat % 256 := by
    rw [Int32.toBitVec_and, BitVec.toNat_and]
    have : (Int32.ofInt 255).toBitVec.toNat = 255 := by decide
    rw [this]
    exact Nat.and_two_pow_sub_one_eq_mod _ 8
  have h2 : (Int32.ofInt x &&& Int32.ofInt 255).toInt = ((Int32.ofInt x &&& Int32.ofInt 255).toBitVec.toNat : Int) := by
    show (Int32.ofInt x &&& Int32.ofInt 255).toBitVec.toInt = _
    rw [BitVec.toInt_eq_toNat_of_lt (by omega)]
  have h3 : (Int32.ofInt x).toInt = if 2 * (Int32.ofInt x).toBitVec.toNat < 2 ^ 32 then ((Int32.ofInt x).toBitVec.toNat : Int) else ((Int32.ofInt x).toBitVec.toNat : Int) - ((2 ^ 32 : Nat) : Int) := BitVec.toInt_eq_toNat_cond _
  rw [h0] at h3
  rw [h2, h1]
  generalize (Int32.ofInt x).toBitVec.toNat = t at h3
  split at h3 <;> omega
theorem shr32_r {x y : Int} : r32 (shr32 x y) := by unfold shr32; exact rI _
theorem w8_b {x : Int} : -128 ≤ w8 (w8 x) ∧ w8 (w8 x) ≤ 127 ∧ w8 (w8 x) % 256 = x % 256 := by
  unfold w8
  omega
section FEED
variable {M N H S B T ST : MM} {LV : LVT} {h : Nat}
theorem c_tapeN {t : Nat} (ht : t + 4 ≤ 700) (h0 : M 0 1 = (t : Int)) (p : Int) : ∃ M', f_X11_tapeNumber M p = some M' ∧ (M' 0 1 = ((t + 4 : Nat) : Int) ∧ (∀ i : Nat, i < 4 → M' 1 (t + i) = w8 (w8 (shr32 p (24 - 8 * (i : Int)))))) ∧ ∀ a j, ¬ (a = 0 ∧ j = 1) → ¬ (a = 1 ∧ t ≤ j ∧ j < t + 4) → M' a j = M a j := by
  unfold f_X11_tapeNumber
  have := lp_FU (step := (fun x1 : Int × MM => if x1.1 < 0 then (some (Sum.inr x1.2)) else gd (0 ≤ x1.2 0 1 ∧ x1.2 0 1 < (700 : Int)) <| bM (upM x1.2 1 (x1.2 0 1).toNat (w8 (w8 (shr32 p x1.1)))) fun M4 => bM (upM M4 0 1 (w32 ((M4 0 1) + 1))) fun M5 => some (Sum.inl (w32 (x1.1 + (-8)), M5)))) (fun x => ∃ k : Nat, k ≤ 4 ∧ x.1 = 24 - 8 * (k : Int) ∧ x.2 0 1 = ((t + k : Nat) : Int) ∧ (∀ i : Nat, i < k → x.2 1 (t + i) = w8 (w8 (shr32 p (24 - 8 * (i : Int))))) ∧ ∀ a j, ¬ (a = 0 ∧ j = 1) → ¬ (a = 1 ∧ t ≤ j ∧ j < t + 4) → x.2 a j = M a j) (fun x => (x.1 + 8).toNat) (fun M' : MM => (M' 0 1 = ((t + 4 : Nat) : Int) ∧ (∀ i : Nat, i < 4 → M' 1 (t + i) = w8 (w8 (shr32 p (24 - 8 * (i : Int)))))) ∧ ∀ a j, ¬ (a = 0 ∧ j = 1) → ¬ (a = 1 ∧ t ≤ j ∧ j < t + 4) → M' a j = M a j) ?_ (24, M) ⟨0, by decide, rfl, h0, fun i hi => absurd hi (by omega), fun _ _ _ _ => rfl⟩ (show ((24 : Int) + 8).toNat < 1000000 by decide)
  · exact this
  rintro ⟨_, m⟩ ⟨k, k1, k2, k3, k4, k5⟩
  dsimp only at k2 k3 k4 k5
  subst k2
  by_cases q : k = 4
  · left
    subst q
    exact ⟨m, rfl, ⟨k3, k4⟩, k5⟩
  · right
    have q0 : ¬ 24 - 8 * (k : Int) < 0 := by omega
    have z : 0 ≤ ((t + k : Nat) : Int) ∧ ((t + k : Nat) : Int) < 700 := by omega
    have e8 : 24 - 8 * (k : Int) + (-8) = 24 - 8 * ((k + 1 : Nat) : Int) := by omega
    have r8 : -2147483648 ≤ 24 - 8 * (k : Int) + (-8) ∧ 24 - 8 * (k : Int) + (-8) ≤ 2147483647 := by omega
    have hm : (24 - 8 * ((k + 1 : Nat) : Int) + 8).toNat < (24 - 8 * (k : Int) + 8).toNat := by omega
    have ek : ((t + k : Nat) : Int) + 1 = ((t + (k + 1) : Nat) : Int) := by omega
    have k4' : k + 1 ≤ 4 := by omega
    have d1 : ¬ ((1 : Nat) = 0 ∧ t + k = 1) := by omega
    try dsimp +instances only
    rw [if_neg q0, k3, gd_t z, bM_eq, bM_eq, up_na (by decide), k3, Int.toNat_natCast, wi1 (by omega), ek, w32_i r8.1 r8.2, e8]
    refine ⟨_, rfl, ⟨k + 1, k4', rfl, by dsimp only; exact upM_eq, ?_, ?_⟩, hm⟩
    · intro i hi
      dsimp only
      rw [up_na (by decide)]
      by_cases e : i = k
      · rw [e, upM_eq]
      · rw [up_ni (by omega)]; exact k4 i (by omega)
    · intro a j h1 h2
      dsimp only
      rw [upM_ne a j h1, upM_ne a j (fun z => h2 ⟨z.1, by omega, by omega⟩)]
      exact k5 a j h1 h2
def wrd (p1 p2 p3 p4 p5 : Int) (k : Nat) : Int := if k < 4 then p1 else if k < 8 then p2 else if k < 12 then p3 else if k < 16 then p4 else p5
def byt (p1 p2 p3 p4 p5 : Int) (k : Nat) : Int := shr32 (wrd p1 p2 p3 p4 p5 k) (24 - 8 * ((k % 4 : Nat) : Int))
theorem c_feed {t : Nat} (ht : t + 20 ≤ 700) (h0 : M 0 1 = (t : Int)) (p1 p2 p3 p4 p5 : Int) : ∃ M', f_X11_feed M p1 p2 p3 p4 p5 = some (((t + 20 : Nat) : Int), M') ∧ (M' 0 1 = ((t + 20 : Nat) : Int) ∧ (∀ k : Nat, k < 20 → M' 1 (t + k) = w8 (w8 (byt p1 p2 p3 p4 p5 k)))) ∧ ∀ a j, ¬ (a = 0 ∧ j = 1) → ¬ (a = 1 ∧ t ≤ j ∧ j < t + 20) → M' a j = M a j := by
  obtain ⟨m1, e1, ⟨a1, b1⟩, f1⟩ := c_tapeN (t := t) (by omega) h0 p1
  obtain ⟨m2, e2, ⟨a2, b2⟩, f2⟩ := c_tapeN (t := t + 4) (by omega) a1 p2
  obtain ⟨m3, e3, ⟨a3, b3⟩, f3⟩ := c_tapeN (t := t + 4 + 4) (by omega) a2 p3
  obtain ⟨m4, e4, ⟨a4, b4⟩, f4⟩ := c_tapeN (t := t + 4 + 4 + 4) (by omega) a3 p4
  obtain ⟨m5, e5, ⟨a5, b5⟩, f5⟩ := c_tapeN (t := t + 4 + 4 + 4 + 4) (by omega) a4 p5
  have q : ¬ 700 < (t : Int) + 20 := by omega
  have r : -2147483648 ≤ (t : Int) + 20 ∧ (t : Int) + 20 ≤ 2147483647 := by omega
  refine ⟨m5, ?_, ⟨a5, fun k hk => ?_⟩, fun a j h1 h2 => ?_⟩
  · unfold f_X11_feed
    rw [h0, w32_i r.1 r.2, if_neg q, e1, Option.bind_some, e2, Option.bind_some, e3, Option.bind_some, e4, Option.bind_some, e5, Option.bind_some, a5]
  · unfold byt wrd
    by_cases k4 : k < 4
    · rw [if_pos k4, f5 1 _ (by omega) (by omega), f4 1 _ (by omega) (by omega), f3 1 _ (by omega) (by omega), f2 1 _ (by omega) (by omega), b1 k k4, Nat.mod_eq_of_lt k4]
    rw [if_neg k4]
    by_cases k8 : k < 8
    · have := b2 (k - 4) (by omega)
      rw [show t + 4 + (k - 4) = t + k by omega] at this
      rw [if_pos k8, f5 1 _ (by omega) (by omega), f4 1 _ (by omega) (by omega), f3 1 _ (by omega) (by omega), this, show k % 4 = k - 4 by omega]
    rw [if_neg k8]
    by_cases k12 : k < 12
    · have := b3 (k - 8) (by omega)
      rw [show t + 4 + 4 + (k - 8) = t + k by omega] at this
      rw [if_pos k12, f5 1 _ (by omega) (by omega), f4 1 _ (by omega) (by omega), this, show k % 4 = k - 8 by omega]
    rw [if_neg k12]
    by_cases k16 : k < 16
    · have := b4 (k - 12) (by omega)
      rw [show t + 4 + 4 + 4 + (k - 12) = t + k by omega] at this
      rw [if_pos k16, f5 1 _ (by omega) (by omega), this, show k % 4 = k - 12 by omega]
    rw [if_neg k16]
    have := b5 (k - 16) (by omega)
    rw [show t + 4 + 4 + 4 + 4 + (k - 16) = t + k by omega] at this
    rw [this, show k % 4 = k - 16 by omega]
  · rw [f5 a j h1 (by omega), f4 a j h1 (by omega), f3 a j h1 (by omega), f2 a j h1 (by omega), f1 a j h1 (by omega)]
theorem w_sh {k : Nat} (hk : k < 20) : w32 (24 - (w32 (8 * (w32 (Int.tmod (k : Int) 4))))) = 24 - 8 * ((k % 4 : Nat) : Int) := by
  have e1 : Int.tmod (k : Int) 4 = ((k % 4 : Nat) : Int) := by rw [tmn (by omega)]; omega
  rw [e1, w32_i (x := ((k % 4 : Nat) : Int)) (by omega) (by omega), w32_i (x := 8 * ((k % 4 : Nat) : Int)) (by omega) (by omega), w32_i (by omega) (by omega)]
theorem m_feed {t : Nat} (ht : t + 20 ≤ 700) (h0 : N 88 1 = (t : Int)) (p1 p2 p3 p4 p5 : Int) : ∃ N', f_X12_feed N p1 p2 p3 p4 p5 = some (((t + 20 : Nat) : Int), N') ∧ (N' 88 1 = ((t + 20 : Nat) : Int) ∧ (∀ k : Nat, k < 20 → N' 89 (t + k) = byt p1 p2 p3 p4 p5 k % 256)) ∧ ∀ a j, ¬ (a = 88 ∧ (j = 1 ∨ j = 2)) → ¬ (a = 89 ∧ t ≤ j ∧ j < t + 20) → N' a j = N a j := by
  have q : ¬ 700 < (t : Int) + 20 := by omega
  have r : -2147483648 ≤ (t : Int) + 20 ∧ (t : Int) + 20 ≤ 2147483647 := by omega
  have u1 : upM N 88 2 0 88 1 = (t : Int) := by rw [up_ni (by decide)]; exact h0
  have et : (t : Int) + 20 = ((t + 20 : Nat) : Int) := by omega
  unfold f_X12_feed
  rw [bM_eq, u1, w32_i r.1 r.2, if_neg q]
  obtain ⟨m, e, i1, i2⟩ : ∃ m, (lp (X := Int × MM) (Y := MM) (fun x3 =>
if x3.1 < 20 then
(((if x3.1 < 4 then
(some p1)
else
if x3.1 < 8 then
(some p2)
else
if x3.1 < 12 then
(some p3)
else
if x3.1 < 16 then
(some p4)
else
some p5) : Option (Int)).bind fun x9 =>
gd (0 ≤ w32 ((x3.2 88 1) + x3.1) ∧ w32 ((x3.2 88 1) + x3.1) < (700 : Int)) <|
bM (upM x3.2 89 (w32 ((x3.2 88 1) + x3.1)).toNat (and32 (shr32 x9 (w32 (24 - (w32 (8 * (w32 (Int.tmod x3.1 4))))))) 255)) fun M11 =>
some (Sum.inl (w32 (x3.1 + 1), M11)))
else
some (Sum.inr x3.2)) FU (0, upM N 88 2 0)) = some m ∧ ((∀ k : Nat, k < 20 → m 89 (t + k) = byt p1 p2 p3 p4 p5 k % 256) ∧ ∀ a j, ¬ (a = 89 ∧ t ≤ j ∧ j < t + 20) → m a j = upM N 88 2 0 a j) := by
    refine lp_cnt 20 (fun k m => (∀ i : Nat, i < k → m 89 (t + i) = byt p1 p2 p3 p4 p5 i % 256) ∧ ∀ a j, ¬ (a = 89 ∧ t ≤ j ∧ j < t + 20) → m a j = upM N 88 2 0 a j) _ (by decide) ?_ ?_ _ ⟨fun j hj => absurd hj (Nat.not_lt_zero _), fun _ _ _ => rfl⟩
    · rintro k m hk ⟨i1, i2⟩
      left
      have z : (k : Int) < 20 := by omega
      have e1 : m 88 1 = (t : Int) := by rw [i2 88 1 (by omega)]; exact u1
      have z1 : 0 ≤ (t : Int) + (k : Int) ∧ (t : Int) + (k : Int) < 700 := by omega
      have z2 : -2147483648 ≤ (t : Int) + (k : Int) ∧ (t : Int) + (k : Int) ≤ 2147483647 := by omega
      have z3 : ((t : Int) + (k : Int)).toNat = t + k := by omega
      have ew : ((if (k : Int) < 4 then (some p1) else if (k : Int) < 8 then (some p2) else if (k : Int) < 12 then (some p3) else if (k : Int) < 16 then (some p4) else some p5) : Option Int) = some (wrd p1 p2 p3 p4 p5 k) := by
        unfold wrd
        by_cases k4 : k < 4
        · rw [if_pos (show (k : Int) < 4 by omega), if_pos k4]
        rw [if_neg (show ¬ (k : Int) < 4 by omega), if_neg k4]
        by_cases k8 : k < 8
        · rw [if_pos (show (k : Int) < 8 by omega), if_pos k8]
        rw [if_neg (show ¬ (k : Int) < 8 by omega), if_neg k8]
        by_cases k12 : k < 12
        · rw [if_pos (show (k : Int) < 12 by omega), if_pos k12]
        rw [if_neg (show ¬ (k : Int) < 12 by omega), if_neg k12]
        by_cases k16 : k < 16
        · rw [if_pos (show (k : Int) < 16 by omega), if_pos k16]
        rw [if_neg (show ¬ (k : Int) < 16 by omega), if_neg k16]
      refine ⟨upM m 89 (t + k) (byt p1 p2 p3 p4 p5 k % 256), ?_, ?_, ?_⟩
      · try dsimp +instances only
        rw [if_pos z, ew, Option.bind_some, e1, w32_i z2.1 z2.2, gd_t z1, bM_eq, z3, w_sh hk, and32_255 shr32_r, wi1 (by omega)]
        rfl
      · intro i hi
        by_cases e : i = k
        · rw [e, upM_eq]
        · rw [up_ni (by omega)]; exact i1 i (by omega)
      · intro a j hn
        rw [upM_ne a j (fun z => hn ⟨z.1, by omega, by omega⟩)]
        exact i2 a j hn
    · rintro m ⟨i1, i2⟩
      exact ⟨m, rfl, i1, i2⟩
  have e88 : m 88 1 = (t : Int) := by rw [i2 88 1 (by omega)]; exact u1
  rw [e, Option.bind_some, bM_eq, e88, w32_i r.1 r.2, upM_eq, et]
  refine ⟨_, rfl, ⟨upM_eq, fun k hk => by rw [up_na (by decide)]; exact i1 k hk⟩, fun a j h1 h2 => ?_⟩
  rw [upM_ne a j (by omega), i2 a j h2, upM_ne a j (by omega)]
theorem al_feed {X : MM} (hX : AL X) (p1 p2 p3 p4 p5 : Int) : AN (f_X11_feed X p1 p2 p3 p4 p5) (fun m => f_X12_feed m p1 p2 p3 p4 p5) := by
  have hX0 := hX
  obtain ⟨h, H, LV, S, g, x⟩ := hX
  have hh := g.1.1
  obtain ⟨⟨t1, t2, t3⟩, t4⟩ := x.1
  obtain ⟨t, ht⟩ := nat_of t2
  by_cases q : 700 < (t : Int) + 20
  · have r : -2147483648 ≤ (t : Int) + 20 ∧ (t : Int) + 20 ≤ 2147483647 := by omega
    refine ⟨-1, X, upM X 88 2 0, ?_, ?_, al_thr hX0⟩
    · unfold f_X11_feed
      rw [ht, w32_i r.1 r.2, if_pos q]
    · have u1 : upM X 88 2 0 88 1 = (t : Int) := by rw [up_ni (by decide), ← t1]; exact ht
      show f_X12_feed X p1 p2 p3 p4 p5 = _
      unfold f_X12_feed
      rw [bM_eq, u1, w32_i r.1 r.2, if_pos q]
  obtain ⟨M1, e1, ⟨a1, a2⟩, f1⟩ := c_feed (t := t) (by omega) ht p1 p2 p3 p4 p5
  have hi : ∀ a j, 88 ≤ a → M1 a j = X a j := fun a j ha => f1 a j (by omega) (by omega)
  obtain ⟨N1, e2, ⟨b1, b2⟩, f2⟩ := m_feed (N := M1) (t := t) (by omega) (by rw [hi 88 1 (by decide), ← t1]; exact ht) p1 p2 p3 p4 p5
  have lo : ∀ a j, a < 88 → N1 a j = M1 a j := fun a j ha => f2 a j (by omega) (by omega)
  have fr : ∀ a j, ¬ (a = 88 ∧ (j = 1 ∨ j = 2)) → ¬ (a = 89) → ¬ (a = 0 ∧ j = 1) → a ≠ 1 → N1 a j = X a j := fun a j k1 k2 k3 k4 => by rw [f2 a j k1 (by omega), f1 a j k3 (by omega)]
  have ra : ∀ a, a ≠ 88 → a ≠ 89 → a ≠ 0 → a ≠ 1 → N1 a = X a := fun a k1 k2 k3 k4 => funext fun j => fr a j (by omega) (by omega) (by omega) (by omega)
  refine ⟨((t + 20 : Nat) : Int), M1, N1, e1, e2, h, H, LV, S, g.cg2 (fun a k0 k1 k2 k3 => ra a (by omega) (by omega) (by omega) (by omega)) (fr 0 3 (by omega) (by omega) (by omega) (by omega)) (fun a j hn => by unfold NB at hn; exact fr a j (by omega) (by omega) (by omega) (by omega)), ?_⟩
  refine x.cg2 ⟨fr 0 4 (by omega) (by omega) (by omega) (by omega), fr 0 7 (by omega) (by omega) (by omega) (by omega)⟩ (fun a k => ra a (by omega) (by omega) (by omega) (by omega)) (fun j hj => fr 88 j (by omega) (by omega) (by omega) (by omega)) (fun a j k => fr a j (by omega) (by omega) (by omega) (by omega)) ⟨⟨by rw [lo 0 1 (by decide), a1, b1], by rw [lo 0 1 (by decide), a1]; omega, by rw [lo 0 1 (by decide), a1]; omega⟩, fun j hj => ?_⟩ ?_ ?_
  · by_cases k : t ≤ j ∧ j < t + 20
    · have e : j = t + (j - t) := by omega
      have w := w8_b (x := byt p1 p2 p3 p4 p5 (j - t))
      rw [lo 1 j (by decide), e, a2 (j - t) (by omega), b2 (j - t) (by omega)]
      exact ⟨w.1, w.2.1, w.2.2.symm⟩
    · rw [lo 1 j (by decide), f1 1 j (by omega) (by omega), f2 89 j (by omega) (by omega), hi 89 j (by decide)]
      exact t4 j hj
  · rw [fr 0 11 (by omega) (by omega) (by omega) (by omega), fr 0 12 (by omega) (by omega) (by omega) (by omega), fr 88 4 (by omega) (by omega) (by omega) (by omega), fr 88 5 (by omega) (by omega) (by omega) (by omega)]
    exact x.2.1
  · have x3 := x.2.2.1
    unfold LGR at *
    rw [ra 78 (by decide) (by decide) (by decide) (by decide), ra 79 (by decide) (by decide) (by decide) (by decide), ra 80 (by decide) (by decide) (by decide) (by decide), ra 81 (by decide) (by decide) (by decide) (by decide), ra 82 (by decide) (by decide) (by decide) (by decide), ra 131 (by decide) (by decide) (by decide) (by decide), fr 88 80 (by omega) (by omega) (by omega) (by omega), fr 88 81 (by omega) (by omega) (by omega) (by omega)]
    exact x3
end FEED
