section TOKEN
variable {M N H S B T ST : MM} {n t : Nat}
theorem KR_w {j k : Nat} {v : Int} (hj : j < 20) (hk : k < 20) (e : j = wsw k) : KR (300 + (j : Int)) v 1 (k : Int) := by
  refine Or.inr (Or.inr (Or.inr (Or.inr (Or.inr (Or.inr ⟨rfl, by omega, by omega, ?_⟩)))))
  unfold wsw at e
  by_cases q1 : k = 10
  · rw [if_pos q1] at e
    right; left
    exact ⟨by omega, by omega⟩
  · rw [if_neg q1] at e
    by_cases q2 : k = 11
    · rw [if_pos q2] at e
      left
      exact ⟨by omega, by omega⟩
    · rw [if_neg q2] at e
      right; right
      exact ⟨by omega, by omega, by omega⟩
/-- words -/
theorem q_word (k : TK M N n t) (ht : t < n) (hd : 97 ≤ M 1 t ∧ M 1 t ≤ 122) (h10 : N 88 10 = (t : Int)) : ∃ M1 N1, f_X9_readWord M = some M1 ∧ ((lp (X := MM) (Y := MM) (fun x28 =>
(f_X12_isSmall x28 (x28 88 7)).bind fun x29 =>
if x29 = 0 then
(some (Sum.inr x28))
else
bM (upM x28 88 7 (w32 ((x28 88 7) + 1))) fun M31 =>
some (Sum.inl M31)) FU N).bind fun x32 =>
(f_X12_wordAt x32 (x32 88 10) (x32 88 7)).bind fun x33 =>
bM (upM x32 88 9 x33) fun M34 =>
((if (M34 88 9) < 0 then
(if 6 < (w32 ((M34 88 7) - (M34 88 10))) then
(some 6)
else
some 2)
else
some 1) : Option (Int)).bind fun x37 =>
bM (upM M34 88 8 x37) fun M38 =>
if (M38 88 8) = 2 then
((f_X12_packed M38 (M38 88 10) (M38 88 7)).bind fun x40 =>
bM (upM M38 88 9 x40) fun M41 =>
some M41)
else
some M38) = some N1 ∧ ∃ s : Nat, t < s ∧ TK M1 N1 n s ∧ FT M1 M ∧ FTN N1 N ∧ (M1 3 6 = M 3 6 ∧ N1 88 10 = N 88 10) ∧ KR (M1 3 4) (M1 3 5) (N1 88 8) (N1 88 9) := by
  obtain ⟨L, A, D, e1, e2, L1, s2, s3, s4, ⟨s5, s5b⟩, s6, s7⟩ := q_letters k ht hd
  obtain ⟨⟨a1, a2, a3⟩, ⟨b1', b2, b3⟩, c, wd⟩ := id s2
  have hb : t + L ≤ 700 := by omega
  have d10 : D 88 10 = (t : Int) := by rw [s5b 10 (by decide)]; exact h10
  have D89 : ∀ j, D 89 j = N 89 j := fun j => s4 89 j (by omega)
  have by0 : ∀ j, j < 700 → -128 ≤ M 1 j ∧ M 1 j ≤ 127 ∧ N 89 j = M 1 j % 256 := k.2.2.1
  have hs : ∀ i, i < L → 97 ≤ D 89 (t + i) ∧ D 89 (t + i) ≤ 122 := fun i hi => by
    rw [D89]
    have h1 := s6 i hi
    have h2 := by0 (t + i) (by omega)
    omega
  have el : ∀ i, i < L → lts M t i = (D 89 (t + i) - 96).toNat := fun i hi => by
    rw [D89]
    have h1 := s6 i hi
    have h2 := by0 (t + i) (by omega)
    unfold lts
    omega
  obtain ⟨r, e3, hr⟩ := m_wordAt (N := D) (t := t) (L := L) (wt_6 wd) hb
  have r6 : -2147483648 ≤ ((t + L : Nat) : Int) - (t : Int) ∧ ((t + L : Nat) : Int) - (t : Int) ≤ 2147483647 := by omega
  have eL : ((t + L : Nat) : Int) - (t : Int) = (L : Int) := by omega
  have u7 : ∀ v : Int, upM D 88 9 v 88 7 = ((t + L : Nat) : Int) := fun v => by rw [up_ni (by decide)]; exact b2
  have u10 : ∀ v : Int, upM D 88 9 v 88 10 = (t : Int) := fun v => by rw [up_ni (by decide)]; exact d10
  have fD : ∀ v w : Int, FTN (upM (upM D 88 9 v) 88 8 w) N := fun v w => (s4.up (by decide)).up (by decide)
  unfold f_X9_readWord
  rw [bM_eq, e1, Option.bind_some, e2, Option.bind_some, d10, b2, e3, Option.bind_some, bM_eq (upM D 88 9 r), upM_eq, u7, u10, w32_i r6.1 r6.2, eL]
  dsimp only
  by_cases q : 6 < (L : Int)
  · have nm : ∀ k, k < 20 → ¬ Mt D t L k := fun k hk z => by
      have := (wt_1 k hk).2.2.1
      have := z.1
      omega
    have hr : r = -1 := by
      rcases hr with h | ⟨k, h1, _, h3⟩
      · exact h.1
      · exact absurd h3 (nm k h1)
    rw [if_pos q, hr, if_pos (show (-1 : Int) < 0 by decide), if_pos q, Option.bind_some, bM_eq, bM_eq, upM_eq, if_neg (by decide)]
    refine ⟨_, _, rfl, rfl, t + L, by omega, s2.cg (FT.rf.up (by decide)) ((FTN.rf.up (by decide)).up (by decide)) (by rw [up_ni (by decide)]; exact b1') (by rw [up_ni (by decide), up_ni (by decide)]; exact b2) b3, s3.up (by decide), fD _ _, ⟨by rw [up_ni (by decide)]; exact s5, by rw [up_ni (by decide), up_ni (by decide)]; exact d10.trans h10.symm⟩, ?_⟩
    rw [upM_eq, upM_eq]
    exact KR_b
  · have L6 : L ≤ 6 := by omega
    have ev := s7 L6
    have hp := pkN_r (B := lts M t) L (fun j hj => by have := s6 j hj; unfold lts; omega)
    have hcut : pkN (cutB (fun i => (D 89 (t + i) - 96).toNat) L) 6 = pkN (lts M t) L * 2 ^ (5 * (6 - L)) := by
      rw [pkN_cut L6]
      congr 1
      exact pkN_cg L (fun j hj => (el j hj).symm)
    have hV : pkN (lts M t) L * 2 ^ (5 * (6 - L)) < 2147483648 := by
      rw [← hcut]
      refine Nat.lt_of_lt_of_le (pkN_r 6 (fun j hj => ?_)) (by decide)
      unfold cutB
      by_cases q : j < L
      · rw [if_pos q]; dsimp only; have := hs j q; omega
      · rw [if_neg q]; decide
    have w6 : w32 (5 * (w32 (6 - (L : Int)))) = ((5 * (6 - L) : Nat) : Int) := by
      have e : 5 * (6 - (L : Int)) = ((5 * (6 - L) : Nat) : Int) := by omega
      rw [w32_i (x := 6 - (L : Int)) (by omega) (by omega), w32_i (by omega) (by omega), e]
    have esh := shl_nat (x := pkN (lts M t) L) (s := 5 * (6 - L)) (by clear w6; omega) hV
    have mq := fun {k : Nat} (hk : k < 20) => q_match (N := D) (t := t) L6 hs hk
    rw [hcut] at mq
    rw [if_neg q, if_neg q, bM_eq, bM_eq, ev, w6, esh]
    clear esh w6
    generalize pkN (lts M t) L * 2 ^ (5 * (6 - L)) = V at hcut hV mq
    obtain ⟨A2, e4, hl, f4⟩ := c_lookup (M := upM (upM A 3 5 (V : Int)) 3 4 3) (V := (V : Int)) (fun j hj => by rw [up_na (by decide), up_na (by decide)]; exact wd.1 j hj) (by rw [up_ni (by decide), upM_eq]) upM_eq
    have F : FT A2 A := fun a j hn => by rw [f4 a j (by omega), upM_ne a j (by omega), upM_ne a j (by omega)]
    have A33 : A2 3 3 = ((t + L : Nat) : Int) := by rw [f4 3 3 (by omega), up_ni (by decide), up_ni (by decide)]; exact b1'
    have A36 : A2 3 6 = M 3 6 := by rw [f4 3 6 (by omega), up_ni (by decide), up_ni (by decide)]; exact s5
    have A35 : A2 3 5 = (V : Int) := by rw [f4 3 5 (by omega), up_ni (by decide), upM_eq]
    rcases hr with ⟨r1, r2⟩ | ⟨k', r1, r2, r3⟩
    · -- a free word
      rw [r1, if_pos (show (-1 : Int) < 0 by decide), Option.bind_some, bM_eq, upM_eq, if_pos rfl]
      have up1 : ∀ j, upM (upM D 88 9 (-1)) 88 8 2 89 j = D 89 j := fun j => by rw [up_na (by decide), up_na (by decide)]
      have pk := m_packed (N := upM (upM D 88 9 (-1)) 88 8 2) (t := t) L6 hb (fun i hi => by rw [up1]; exact hs i hi)
      simp only [up1] at pk
      rw [hcut] at pk
      have v7 : upM (upM D 88 9 (-1)) 88 8 2 88 7 = ((t + L : Nat) : Int) := by rw [up_ni (by decide), up_ni (by decide)]; exact b2
      have v10 : upM (upM D 88 9 (-1)) 88 8 2 88 10 = (t : Int) := by rw [up_ni (by decide), up_ni (by decide)]; exact d10
      rw [v7, v10, pk, Option.bind_some, bM_eq]
      have k3 : A2 3 4 = 3 := by
        rcases hl with h | ⟨j, h1, h2, _⟩
        · exact h.1
        · obtain ⟨g1, g2⟩ := wt_5 j h1
          exact absurd ((mq g1).mpr (by rw [g2]; exact h2)) (r2 _ g1)
      refine ⟨_, _, e4, rfl, t + L, by omega, s2.cg F (((FTN.rf.up (by decide)).up (by decide)).up (by decide)) A33 (by rw [up_ni (by decide)]; exact v7) b3, F.tr s3, (fD _ _).up (by decide), ⟨A36, by rw [up_ni (by decide), v10]; exact h10.symm⟩, ?_⟩
      rw [k3, A35, up_ni (by decide), upM_eq, upM_eq]
      exact Or.inr (Or.inr (Or.inl ⟨rfl, rfl, rfl⟩))
    · -- a word of the language
      have nn : ¬ (k' : Int) < 0 := by omega
      rw [r2, if_neg nn, Option.bind_some, bM_eq, upM_eq, if_neg (by decide)]
      have hv := (mq r1).mp r3
      have g1 := (wt_5 k' r1).1
      have kj : ∃ j : Nat, j < 20 ∧ j = wsw k' ∧ A2 3 4 = 300 + (j : Int) := by
        rcases hl with h | ⟨j, h1, h2, h3⟩
        · exact absurd hv (h.2 _ g1)
        · exact ⟨j, h1, wt_4 j h1 _ g1 (h2.trans hv.symm), h3⟩
      obtain ⟨j, j1, j2, j3⟩ := kj
      refine ⟨_, _, e4, rfl, t + L, by omega, s2.cg F ((FTN.rf.up (by decide)).up (by decide)) A33 (by rw [up_ni (by decide), up_ni (by decide)]; exact b2) b3, F.tr s3, fD _ _, ⟨A36, by rw [up_ni (by decide), up_ni (by decide), d10]; exact h10.symm⟩, ?_⟩
      rw [j3, upM_eq, up_ni (by decide), upM_eq]
      exact KR_w j1 r1 j2
/-- the next token, on both sides -/
theorem q_tok (k : TK M N n t) : ∃ M1 N1, f_X9_advance M = some M1 ∧ f_X12_token N = some N1 ∧ ∃ s : Nat, TK M1 N1 n s ∧ FT M1 M ∧ FTN N1 N ∧ M1 3 6 = N1 88 10 ∧ KR (M1 3 4) (M1 3 5) (N1 88 8) (N1 88 9) ∧ (t < s ∨ M1 3 4 = 1) ∧ t ≤ s := by
  obtain ⟨A, D, e1, e2, s, s1, s2, s3, s4, s5⟩ := q_skip k
  obtain ⟨⟨a1, a2, a3⟩, ⟨b1', b2, b3⟩, c, wd⟩ := id s2
  unfold f_X9_advance f_X12_token
  rw [e1, e2, Option.bind_some, Option.bind_some, b1', b2, bM_eq (upM A 3 6 (s : Int)), bM_eq (upM D 88 10 (s : Int))]
  have k1 : TK (upM A 3 6 (s : Int)) (upM D 88 10 (s : Int)) n s := s2.cg (FT.rf.up (by decide)) (FTN.rf.up (by decide)) (by rw [up_ni (by decide)]; exact b1') (by rw [up_ni (by decide)]; exact b2) b3
  have f1 : FT (upM A 3 6 (s : Int)) M := s3.up (by decide)
  have f2 : FTN (upM D 88 10 (s : Int)) N := s4.up (by decide)
  have p6 : upM A 3 6 (s : Int) 3 6 = (s : Int) := upM_eq
  have p10 : upM D 88 10 (s : Int) 88 10 = (s : Int) := upM_eq
  have x1 : ∀ j, upM A 3 6 (s : Int) 1 j = A 1 j := fun j => up_na (by decide)
  generalize upM A 3 6 (s : Int) = A1 at k1 f1 p6 x1
  generalize upM D 88 10 (s : Int) = D1 at k1 f2 p10
  obtain ⟨⟨c1, c2, c3⟩, ⟨d1, d2, d3⟩, cc, _⟩ := id k1
  rw [c1, c2, d1, d2]
  rcases s5 with q | ⟨q, q2, q3⟩
  · have q1 : ¬ (s : Int) < (n : Int) := by omega
    rw [if_neg q1, if_pos (show (s : Int) = (n : Int) by omega), bM_eq, bM_eq]
    refine ⟨_, _, rfl, rfl, s, k1.cg (FT.rf.up (by decide)) (FTN.rf.up (by decide)) (by rw [up_ni (by decide)]; exact d1) (by rw [up_ni (by decide)]; exact d2) b3, f1.up (by decide), f2.up (by decide), by rw [up_ni (by decide), up_ni (by decide), p6, p10], ?_, Or.inr upM_eq, s1⟩
    rw [upM_eq, upM_eq]
    exact Or.inl ⟨rfl, rfl⟩
  have q1 : (s : Int) < (n : Int) := by omega
  have z : 0 ≤ (s : Int) ∧ (s : Int) < 700 := by omega
  have cb := cc s (by omega)
  rw [if_pos q1, if_neg (show ¬ (s : Int) = (n : Int) by omega), gd_t z, bI_eq, Int.toNat_natCast, m_small k1 (s := s) (by omega), Option.bind_some, if_b1]
  by_cases w : 97 ≤ A1 1 s ∧ A1 1 s ≤ 122
  · obtain ⟨M1, N1, g1, g2, u, u1, u2, u3, u4, ⟨u5, u6⟩, u7⟩ := q_word k1 q w p10
    rw [if_neg (show ¬ A1 1 s < 97 by omega), if_neg (show ¬ 122 < A1 1 s by omega), g1, Option.bind_some, bS_r, if_pos ⟨q, w⟩, g2]
    exact ⟨_, _, rfl, rfl, u, u2, u3.tr f1, u4.tr f2, by rw [u5, u6, p6, p10], u7, Or.inl (by omega), by omega⟩
  rw [if_neg (show ¬ (s < n ∧ 97 ≤ A1 1 s ∧ A1 1 s ≤ 122) from fun z => w z.2), m_digit k1 (s := s) (by omega), Option.bind_some, if_b1]
  have hw : ((if A1 1 s < 97 then some (Sum.inl ()) else if 122 < A1 1 s then some (Sum.inl ()) else (f_X9_readWord A1).bind fun x16 => some (Sum.inr x16)) : Option (Unit ⊕ MM)) = some (Sum.inl ()) := by
    by_cases h1 : A1 1 s < 97
    · rw [if_pos h1]
    · rw [if_neg h1, if_pos (show 122 < A1 1 s by omega)]
  rw [hw, bS_l]
  clear hw
  by_cases d : 48 ≤ A1 1 s ∧ A1 1 s ≤ 57
  · obtain ⟨M1, N1, g1, g2, u, u1, u2, u3, u4, ⟨u5, u6⟩, u7⟩ := q_number k1 q d
    rw [if_neg (show ¬ A1 1 s < 48 by omega), if_neg (show ¬ 57 < A1 1 s by omega), g1, Option.bind_some, bS_r, if_pos ⟨q, d⟩, bM_eq, bM_eq, g2]
    exact ⟨_, _, rfl, rfl, u, u2, u3.tr f1, u4.tr f2, by rw [u5, u6, p6, p10], u7, Or.inl (by omega), by omega⟩
  obtain ⟨M1, N1, g1, g2, u, u1, u2, u3, u4, ⟨u5, u6⟩, u7⟩ := q_sign k1 q
  have hw : ((if A1 1 s < 48 then some (Sum.inl ()) else if 57 < A1 1 s then some (Sum.inl ()) else (f_X9_readNumber A1).bind fun x20 => some (Sum.inr x20)) : Option (Unit ⊕ MM)) = some (Sum.inl ()) := by
    by_cases h1 : A1 1 s < 48
    · rw [if_pos h1]
    · rw [if_neg h1, if_pos (show 57 < A1 1 s by omega)]
  rw [hw, bS_l, g1, Option.bind_some, if_neg (show ¬ (s < n ∧ 48 ≤ A1 1 s ∧ A1 1 s ≤ 57) from fun z => d z.2), g2, Option.bind_some]
  exact ⟨_, _, rfl, rfl, u, u2, u3.tr f1, u4.tr f2, by rw [u5, u6, p6, p10], u7, Or.inl (by omega), by omega⟩
end TOKEN
