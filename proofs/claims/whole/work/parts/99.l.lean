section WORD3
variable {M N H S B T ST : MM} {n t : Nat}
theorem w_val {v b : Int} (hv : 0 ≤ v ∧ v < 33554432) (hb : 97 ≤ b ∧ b ≤ 122) : w32 ((w32 ((w32 ((w32 (v * 32)) + b)) - 97)) + 1) = v * 32 + (b - 96) := by
  rw [w32_i (x := v * 32) (by omega) (by omega), w32_i (x := v * 32 + b) (by omega) (by omega), w32_i (x := v * 32 + b - 97) (by omega) (by omega), w32_i (by omega) (by omega)]
  omega
/-- letters are read on both sides -/
theorem q_letters (k : TK M N n t) (ht : t < n) (hd : 97 ≤ M 1 t ∧ M 1 t ≤ 122) : ∃ (L : Nat) (M1 N1 : MM), (lp (X := Int × MM) (Y := Int × MM) (fun x2 =>
if (x2.2 3 3) < (x2.2 3 2) then
(gd (0 ≤ x2.2 3 3 ∧ x2.2 3 3 < (700 : Int)) <|
if (x2.2 1 (x2.2 3 3).toNat) < 97 then
(some (Sum.inr (x2.1, x2.2)))
else
gd (0 ≤ x2.2 3 3 ∧ x2.2 3 3 < (700 : Int)) <|
if 122 < (x2.2 1 (x2.2 3 3).toNat) then
(some (Sum.inr (x2.1, x2.2)))
else
((if x2.1 < 6 then
(gd (0 ≤ x2.2 3 3 ∧ x2.2 3 3 < (700 : Int)) <|
bM (upM x2.2 3 5 (w32 ((w32 ((w32 ((w32 ((x2.2 3 5) * 32)) + (x2.2 1 (x2.2 3 3).toNat))) - 97)) + 1))) fun M10 =>
some M10)
else
some x2.2) : Option (MM)).bind fun x11 =>
bM (upM x11 3 3 (w32 ((x11 3 3) + 1))) fun M12 =>
some (Sum.inl (w32 (x2.1 + 1), M12)))
else
some (Sum.inr (x2.1, x2.2))) FU (0, upM M 3 5 0)) = some ((L : Int), M1) ∧ (lp (X := MM) (Y := MM) (fun x28 =>
(f_X12_isSmall x28 (x28 88 7)).bind fun x29 =>
if x29 = 0 then
(some (Sum.inr x28))
else
bM (upM x28 88 7 (w32 ((x28 88 7) + 1))) fun M31 =>
some (Sum.inl M31)) FU N) = some N1 ∧ 1 ≤ L ∧ TK M1 N1 n (t + L) ∧ FT M1 M ∧ FTN N1 N ∧ (M1 3 6 = M 3 6 ∧ ∀ j, j ≠ 7 → N1 88 j = N 88 j) ∧ (∀ i, i < L → 97 ≤ M 1 (t + i) ∧ M 1 (t + i) ≤ 122) ∧ (L ≤ 6 → M1 3 5 = (pkN (lts M t) L : Int)) := by
  obtain ⟨⟨a1, a2, a3⟩, ⟨b1', b2, b3⟩, c, _⟩ := id k
  obtain ⟨⟨yl, ym⟩, y', e1, e2, L, rfl, s1, s2, s3, s4, s5, s6, s7⟩ := lp_tw (f := (fun x2 : Int × MM => if (x2.2 3 3) < (x2.2 3 2) then (gd (0 ≤ x2.2 3 3 ∧ x2.2 3 3 < (700 : Int)) <| if (x2.2 1 (x2.2 3 3).toNat) < 97 then (some (Sum.inr (x2.1, x2.2))) else gd (0 ≤ x2.2 3 3 ∧ x2.2 3 3 < (700 : Int)) <| if 122 < (x2.2 1 (x2.2 3 3).toNat) then (some (Sum.inr (x2.1, x2.2))) else ((if x2.1 < 6 then (gd (0 ≤ x2.2 3 3 ∧ x2.2 3 3 < (700 : Int)) <| bM (upM x2.2 3 5 (w32 ((w32 ((w32 ((w32 ((x2.2 3 5) * 32)) + (x2.2 1 (x2.2 3 3).toNat))) - 97)) + 1))) fun M10 => some M10) else some x2.2) : Option (MM)).bind fun x11 => bM (upM x11 3 3 (w32 ((x11 3 3) + 1))) fun M12 => some (Sum.inl (w32 (x2.1 + 1), M12))) else some (Sum.inr (x2.1, x2.2)))) (g := (fun x28 : MM => (f_X12_isSmall x28 (x28 88 7)).bind fun x29 => if x29 = 0 then (some (Sum.inr x28)) else bM (upM x28 88 7 (w32 ((x28 88 7) + 1))) fun M31 => some (Sum.inl M31))) (fun x x' => ∃ L : Nat, x.1 = (L : Int) ∧ TK x.2 x' n (t + L) ∧ FT x.2 M ∧ FTN x' N ∧ (x.2 3 6 = M 3 6 ∧ ∀ j, j ≠ 7 → x' 88 j = N 88 j) ∧ (∀ i, i < L → 97 ≤ M 1 (t + i) ∧ M 1 (t + i) ≤ 122) ∧ (L ≤ 6 → x.2 3 5 = (pkN (lts M t) L : Int))) (fun x => (n - x.2 3 3).toNat) (fun (y : Int × MM) (y' : MM) => ∃ L : Nat, y.1 = (L : Int) ∧ 1 ≤ L ∧ TK y.2 y' n (t + L) ∧ FT y.2 M ∧ FTN y' N ∧ (y.2 3 6 = M 3 6 ∧ ∀ j, j ≠ 7 → y' 88 j = N 88 j) ∧ (∀ i, i < L → 97 ≤ M 1 (t + i) ∧ M 1 (t + i) ≤ 122) ∧ (L ≤ 6 → y.2 3 5 = (pkN (lts M t) L : Int))) (by
    rintro ⟨_, x⟩ x' ⟨L, e, s2, s3, s4, s5, s6, s7⟩
    dsimp only at e s2 s3 s5 s7
    subst e
    obtain ⟨⟨a1, a2, a3⟩, ⟨b1', b2, b3⟩, c, _⟩ := id s2
    have sm := m_small s2 (s := t + L) (by omega)
    have xt : ∀ j, x 1 j = M 1 j := fun j => s3 1 j (by omega)
    try dsimp +instances only
    rw [b2, sm, Option.bind_some, if_b1, bM_eq]
    by_cases q : t + L < n ∧ 97 ≤ x 1 (t + L) ∧ x 1 (t + L) ≤ 122
    · right
      have q1 : ((t + L : Nat) : Int) < (n : Int) := by omega
      have z : 0 ≤ ((t + L : Nat) : Int) ∧ ((t + L : Nat) : Int) < 700 := by omega
      have sn : t + L + 1 ≤ n := q.1
      have sn7 : t + L ≤ 700 := by omega
      have L7 : L < 1000 := by omega
      have hm : ((n : Int) - ((t + L + 1 : Nat) : Int)).toNat < ((n : Int) - ((t + L : Nat) : Int)).toNat := by omega
      have s6' : ∀ i, i < L + 1 → 97 ≤ M 1 (t + i) ∧ M 1 (t + i) ≤ 122 := fun i hi => by
        by_cases e : i = L
        · rw [e, ← xt]; exact q.2
        · exact s6 i (by omega)
      rw [a1, b1', if_pos q1, gd_t z, gd_t z, gd_t z, Int.toNat_natCast, if_neg (show ¬ x 1 (t + L) < 97 by omega), if_neg (show ¬ 122 < x 1 (t + L) by omega), if_pos q, wi7 sn7, wi1 L7, bM_eq]
      by_cases q6 : (L : Int) < 6
      · have L6 : L < 6 := by omega
        have hp := pkN_r (B := lts M t) L (fun j hj => by have := s6 j hj; unfold lts; omega)
        have hp2 : pkN (lts M t) L < 33554432 := Nat.lt_of_lt_of_le hp (by
          have : L = 0 ∨ L = 1 ∨ L = 2 ∨ L = 3 ∨ L = 4 ∨ L = 5 := by omega
          rcases this with rfl | rfl | rfl | rfl | rfl | rfl <;> decide)
        have ev := s7 (by omega)
        have el : ((lts M t L : Nat) : Int) = x 1 (t + L) - 96 := by rw [xt]; have := s6' L (by omega); unfold lts; omega
        have env : (pkN (lts M t) L : Int) * 32 + (x 1 (t + L) - 96) = (pkN (lts M t) (L + 1) : Int) := by rw [pkN_s, ← el]; omega
        rw [if_pos q6, ev, w_val (by omega) q.2, env, Option.bind_some, bM_eq, up_ni (by decide), b1', wi7 sn7]
        refine ⟨_, _, rfl, rfl, ⟨L + 1, rfl, s2.cg ((FT.rf.up (by decide)).up (by decide)) (FTN.rf.up (by decide)) (by dsimp only; exact upM_eq) upM_eq sn, (s3.up (by decide)).up (by decide), s4.up (by decide), ⟨?_, fun j hj => ?_⟩, s6', fun _ => ?_⟩, ?_⟩
        · dsimp only
          rw [up_ni (by decide), up_ni (by decide)]; exact s5.1
        · rw [up_ni hj]; exact s5.2 j hj
        · dsimp only
          rw [up_ni (by decide), upM_eq]
        · dsimp only
          rw [upM_eq]; exact hm
      · rw [if_neg q6, Option.bind_some, bM_eq, b1', wi7 sn7]
        refine ⟨_, _, rfl, rfl, ⟨L + 1, rfl, s2.cg (FT.rf.up (by decide)) (FTN.rf.up (by decide)) (by dsimp only; exact upM_eq) upM_eq sn, s3.up (by decide), s4.up (by decide), ⟨?_, fun j hj => ?_⟩, s6', fun z => absurd z (by omega)⟩, ?_⟩
        · dsimp only
          rw [up_ni (by decide)]; exact s5.1
        · rw [up_ni hj]; exact s5.2 j hj
        · dsimp only
          rw [upM_eq]; exact hm
    · left
      have L1 : 1 ≤ L := by
        by_cases e : L = 0
        · subst e; exact absurd ⟨ht, by rw [xt]; exact hd⟩ q
        · omega
      rw [a1, b1', if_neg q]
      refine ⟨((L : Int), x), x', ?_, rfl, L, rfl, L1, s2, s3, s4, s5, s6, s7⟩
      by_cases q2 : t + L < n
      · rw [if_pos (show ((t + L : Nat) : Int) < (n : Int) by omega), gd_t (show 0 ≤ ((t + L : Nat) : Int) ∧ ((t + L : Nat) : Int) < 700 by omega), gd_t (show 0 ≤ ((t + L : Nat) : Int) ∧ ((t + L : Nat) : Int) < 700 by omega), Int.toNat_natCast]
        by_cases q3 : x 1 (t + L) < 97
        · rw [if_pos q3]
        · rw [if_neg q3, if_pos (show 122 < x 1 (t + L) by omega)]
      · rw [if_neg (show ¬ ((t + L : Nat) : Int) < (n : Int) by omega)]) (0, upM M 3 5 0) N ⟨0, rfl, k.cg (FT.rf.up (by decide)) FTN.rf (by dsimp only; rw [up_ni (by decide)]; exact b1') b2 b3, FT.rf.up (by decide), FTN.rf, ⟨by dsimp only; rw [up_ni (by decide)], fun _ _ => rfl⟩, fun i hi => absurd hi (by omega), fun _ => by dsimp only; rw [upM_eq]; rfl⟩ (show ((n : Int) - upM M 3 5 0 3 3).toNat < 1000000 by
        rw [up_ni (by decide)]
        omega)
  exact ⟨L, ym, y', e1, e2, s1, s2, s3, s4, s5, s6, s7⟩
end WORD3
