section WORD2
variable {M N H S B T ST : MM} {n t : Nat}
/-- the letters from t on -/
def lts (M : MM) (t : Nat) : Nat → Nat := fun i => (M 1 (t + i) - 96).toNat
theorem m_packed {L : Nat} (hL : L ≤ 6) (hb : t + L ≤ 700) (hs : ∀ i, i < L → 97 ≤ N 89 (t + i) ∧ N 89 (t + i) ≤ 122) : f_X12_packed N (t : Int) ((t + L : Nat) : Int) = some (pkN (cutB (fun i => (N 89 (t + i) - 96).toNat) L) 6 : Int) := by
  have w6 : w32 ((t : Int) + 6) = ((t + 6 : Nat) : Int) := w32_i (by omega) (by omega)
  unfold f_X12_packed
  rw [w6]
  clear w6
  have hB : ∀ i, cutB (fun i => (N 89 (t + i) - 96).toNat) L i < 32 := fun i => by
    unfold cutB
    by_cases q : i < L
    · rw [if_pos q]; dsimp only; have := hs i q; omega
    · rw [if_neg q]; decide
  obtain ⟨y, e, rfl⟩ := lp_FU (step := (fun x1 : Int × Int => if x1.2 < ((t + 6 : Nat) : Int) then (((if x1.2 < ((t + L : Nat) : Int) then (gd (0 ≤ x1.2 ∧ x1.2 < (700 : Int)) <| some (w32 ((N 89 (x1.2).toNat) - 96))) else some 0) : Option (Int)).bind fun x5 => bI (or32 (shl32 x1.1 5) x5) fun x6 => some (Sum.inl (x6, w32 (x1.2 + 1)))) else some (Sum.inr x1.1))) (fun x => ∃ i : Nat, i ≤ 6 ∧ x.2 = ((t + i : Nat) : Int) ∧ x.1 = (pkN (cutB (fun i => (N 89 (t + i) - 96).toNat) L) i : Int)) (fun x => t + 7 - x.2.toNat) (fun y : Int => y = (pkN (cutB (fun i => (N 89 (t + i) - 96).toNat) L) 6 : Int)) (by
    rintro ⟨_, _⟩ ⟨i, hi, e1, e2⟩
    dsimp only at e1 e2
    subst e1 e2
    try dsimp +instances only
    by_cases q : i < 6
    · right
      have hp := pkN_r (B := cutB (fun i => (N 89 (t + i) - 96).toNat) L) i (fun j _ => hB j)
      have hp2 : pkN (cutB (fun i => (N 89 (t + i) - 96).toNat) L) i < 33554432 := Nat.lt_of_lt_of_le hp (by
        have : i = 0 ∨ i = 1 ∨ i = 2 ∨ i = 3 ∨ i = 4 ∨ i = 5 := by omega
        rcases this with rfl | rfl | rfl | rfl | rfl | rfl <;> decide)
      have hb' := hB i
      have hm : t + 7 - (((t + i : Nat) : Int) + 1).toNat < t + 7 - ((t + i : Nat) : Int).toNat := by omega
      have ti : t + i < 1000 := by omega
      have sh : shl32 (pkN (cutB (fun i => (N 89 (t + i) - 96).toNat) L) i : Int) 5 = ((pkN (cutB (fun i => (N 89 (t + i) - 96).toNat) L) i * 32 : Nat) : Int) := shl_nat (s := 5) (by decide) (by show _ * 32 < _; omega)
      have orr := or_nat (x := pkN (cutB (fun i => (N 89 (t + i) - 96).toNat) L) i) hb' (by omega)
      have ob : ((if ((t + i : Nat) : Int) < ((t + L : Nat) : Int) then (gd (0 ≤ ((t + i : Nat) : Int) ∧ ((t + i : Nat) : Int) < (700 : Int)) <| some (w32 ((N 89 (((t + i : Nat) : Int)).toNat) - 96))) else some 0) : Option Int) = some (cutB (fun i => (N 89 (t + i) - 96).toNat) L i : Int) := by
        clear sh orr
        unfold cutB
        by_cases q2 : i < L
        · have := hs i q2
          have e : ((N 89 (t + i) - 96).toNat : Int) = N 89 (t + i) - 96 := by omega
          rw [if_pos (show ((t + i : Nat) : Int) < ((t + L : Nat) : Int) by omega), gd_t (by omega), if_pos q2, Int.toNat_natCast, e, w32_i (by omega) (by omega)]
        · rw [if_neg (show ¬ ((t + i : Nat) : Int) < ((t + L : Nat) : Int) by omega), if_neg q2]; rfl
      rw [if_pos (show ((t + i : Nat) : Int) < ((t + 6 : Nat) : Int) by clear sh orr ob; omega), ob, Option.bind_some, bI_eq, sh, orr, wi1 ti]
      clear sh orr ob
      exact ⟨_, rfl, ⟨i + 1, q, rfl, rfl⟩, hm⟩
    · left
      have e : i = 6 := by omega
      subst e
      rw [if_neg (by omega)]
      exact ⟨_, rfl, rfl⟩) (0, (t : Int)) ⟨0, by decide, rfl, rfl⟩ (show t + 7 - (t : Int).toNat < 1000000 by omega)
  exact e
/-- the class looks its words up -/
theorem c_lookup {V : Int} (hw : ∀ j : Nat, j < 20 → M 4 j = WC j) (hv : M 3 5 = V) (hk : M 3 4 = 3) : ∃ M', (lp (X := Int × MM) (Y := MM) (fun x18 =>
if x18.1 < 20 then
(gd (0 ≤ x18.1 ∧ x18.1 < (20 : Int)) <|
((if (x18.2 4 (x18.1).toNat) = (x18.2 3 5) then
(bM (upM x18.2 3 4 (w32 (300 + x18.1))) fun M22 =>
some M22)
else
some x18.2) : Option (MM)).bind fun x23 =>
some (Sum.inl (w32 (x18.1 + 1), x23)))
else
some (Sum.inr x18.2)) FU (0, M)) = some M' ∧ (((M' 3 4 = 3 ∧ ∀ j, j < 20 → WC j ≠ V) ∨ ∃ j : Nat, j < 20 ∧ WC j = V ∧ M' 3 4 = 300 + (j : Int)) ∧ ∀ a j, ¬ (a = 3 ∧ j = 4) → M' a j = M a j) := by
  refine lp_cnt 20 (fun i m => ((m 3 4 = 3 ∧ ∀ j, j < i → WC j ≠ V) ∨ ∃ j : Nat, j < i ∧ WC j = V ∧ m 3 4 = 300 + (j : Int)) ∧ ∀ a j, ¬ (a = 3 ∧ j = 4) → m a j = M a j) _ (by decide) ?_ ?_ _ ⟨Or.inl ⟨hk, fun j hj => absurd hj (by omega)⟩, fun _ _ _ => rfl⟩
  · rintro i m hi ⟨i1, i2⟩
    left
    have z : 0 ≤ (i : Int) ∧ (i : Int) < 20 := by omega
    have r : -2147483648 ≤ 300 + (i : Int) ∧ 300 + (i : Int) ≤ 2147483647 := by omega
    have e4 : m 4 i = WC i := by rw [i2 4 i (by omega)]; exact hw i hi
    have e5 : m 3 5 = V := by rw [i2 3 5 (by omega)]; exact hv
    try dsimp +instances only
    rw [if_pos z.2, gd_t z, Int.toNat_natCast, e4, e5, w32_i r.1 r.2, wi1 (by omega)]
    by_cases q : WC i = V
    · rw [if_pos q]
      refine ⟨_, rfl, Or.inr ⟨i, by omega, q, upM_eq⟩, fun a j hn => by rw [upM_ne a j hn]; exact i2 a j hn⟩
    · rw [if_neg q]
      refine ⟨_, rfl, ?_, i2⟩
      rcases i1 with ⟨k1, k2⟩ | ⟨j, k1, k2⟩
      · left
        refine ⟨k1, fun j hj => ?_⟩
        by_cases e : j = i
        · rw [e]; exact q
        · exact k2 j (by omega)
      · exact Or.inr ⟨j, by omega, k2⟩
  · rintro m ⟨i1, i2⟩
    exact ⟨m, rfl, i1, i2⟩
theorem q_match {L : Nat} (hL : L ≤ 6) (hs : ∀ i, i < L → 97 ≤ N 89 (t + i) ∧ N 89 (t + i) ≤ 122) {k : Nat} (hk : k < 20) : Mt N t L k ↔ WC (wsw k) = (pkN (cutB (fun i => (N 89 (t + i) - 96).toNat) L) 6 : Int) := by
  obtain ⟨w1, w2, w3, w4⟩ := wt_1 k hk
  rw [← wt_3 k hk]
  constructor
  · rintro ⟨m1, m2⟩
    subst m1
    congr 1
    refine pkN_cg 6 (fun j hj => ?_)
    unfold cutB
    by_cases q : j < wln k
    · rw [if_pos q, if_pos q]
      dsimp only
      rw [m2 j q]
      have := wt_2 k hk j (by omega) q
      omega
    · rw [if_neg q, if_neg q]
  · intro e
    have e : pkN (cutB (fun i => wtb (wst k + i) - 96) (wln k)) 6 = pkN (cutB (fun i => (N 89 (t + i) - 96).toNat) L) 6 := by omega
    have dig := pkN_inj 6 (fun j hj => ⟨by
      unfold cutB
      by_cases q : j < wln k
      · rw [if_pos q]; dsimp only; have := wt_2 k hk j hj q; omega
      · rw [if_neg q]; decide, by
      unfold cutB
      by_cases q : j < L
      · rw [if_pos q]; dsimp only; have := hs j q; omega
      · rw [if_neg q]; decide⟩) e
    have hLk : L = wln k := by
      by_cases q1 : L < wln k
      · have d := dig L (by omega)
        unfold cutB at d
        rw [if_pos q1, if_neg (by omega)] at d
        dsimp only at d
        have := wt_2 k hk L (by omega) q1
        omega
      · by_cases q2 : wln k < L
        · have d := dig (wln k) (by omega)
          unfold cutB at d
          rw [if_neg (by omega), if_pos q2] at d
          dsimp only at d
          have := hs (wln k) q2
          omega
        · omega
    refine ⟨hLk, fun i hi => ?_⟩
    have d := dig i (by omega)
    unfold cutB at d
    rw [if_pos hi, if_pos (by omega)] at d
    dsimp only at d
    have h1 := wt_2 k hk i (by omega) hi
    have h2 := hs i (by omega)
    omega
end WORD2
