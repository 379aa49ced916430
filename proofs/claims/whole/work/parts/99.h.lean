/-- a token on both sides -/
def KR (k v k' w : Int) : Prop := (k = 1 ∧ k' = 0) ∨ (k = 2 ∧ k' = 3 ∧ ((v = w ∧ 0 ≤ v ∧ v ≤ 99999) ∨ (99999 < v ∧ v ≤ 1000000 ∧ 99999 < w ∧ w ≤ 1000000))) ∨ (k = 3 ∧ k' = 2 ∧ v = w) ∨ (k = 0 ∧ (k' = 6 ∨ (k' = 4 ∧ w = 37))) ∨ ((k = 59 ∨ k = 40 ∨ k = 41 ∨ k = 43 ∨ k = 45 ∨ k = 42 ∨ k = 47) ∧ k' = 4 ∧ w = k) ∨ (k' = 5 ∧ ((k = 60 ∧ w = 0) ∨ (k = 256 ∧ w = 1) ∨ (k = 61 ∧ w = 2) ∨ (k = 257 ∧ w = 3) ∨ (k = 258 ∧ w = 4) ∨ (k = 62 ∧ w = 5))) ∨ (k' = 1 ∧ 300 ≤ k ∧ k < 320 ∧ ((k = 310 ∧ w = 11) ∨ (k = 311 ∧ w = 10) ∨ (k ≠ 310 ∧ k ≠ 311 ∧ w = k - 300)))
def BYR (M N : MM) : Prop := ∀ j : Nat, j < 700 → -128 ≤ M 1 j ∧ M 1 j ≤ 127 ∧ N 89 j = M 1 j % 256
def TK (M N : MM) (n t : Nat) : Prop := (M 3 2 = (n : Int) ∧ N 88 6 = (n : Int) ∧ n ≤ 700) ∧ (M 3 3 = (t : Int) ∧ N 88 7 = (t : Int) ∧ t ≤ n) ∧ BYR M N ∧ WDR M N
def FT (M' M : MM) : Prop := ∀ a j, ¬ (a = 3 ∧ 3 ≤ j ∧ j ≤ 6) → M' a j = M a j
def FTN (N' N : MM) : Prop := ∀ a j, ¬ (a = 88 ∧ 7 ≤ j ∧ j ≤ 10) → N' a j = N a j
section TOK
variable {M N H S B T ST : MM} {n t : Nat}
theorem FT.rf : FT M M := fun _ _ _ => rfl
theorem FTN.rf : FTN N N := fun _ _ _ => rfl
theorem FT.tr {M1 M2 M3 : MM} (h1 : FT M1 M2) (h2 : FT M2 M3) : FT M1 M3 := fun a j x => (h1 a j x).trans (h2 a j x)
theorem FTN.tr {M1 M2 M3 : MM} (h1 : FTN M1 M2) (h2 : FTN M2 M3) : FTN M1 M3 := fun a j x => (h1 a j x).trans (h2 a j x)
theorem FT.up {M' : MM} (f : FT M' M) {j : Nat} {v : Int} (h : 3 ≤ j ∧ j ≤ 6) : FT (upM M' 3 j v) M := fun a i hn => by rw [upM_ne a i (by omega)]; exact f a i hn
theorem FTN.up {N' : MM} (f : FTN N' N) {j : Nat} {v : Int} (h : 7 ≤ j ∧ j ≤ 10) : FTN (upM N' 88 j v) N := fun a i hn => by rw [upM_ne a i (by omega)]; exact f a i hn
theorem BYR.cg {M' N' : MM} (b : BYR M N) (h1 : ∀ j, M' 1 j = M 1 j) (h2 : ∀ j, N' 89 j = N 89 j) : BYR M' N' := fun j hj => by rw [h1, h2]; exact b j hj
theorem WDR.cg {M' N' : MM} (b : WDR M N) (h1 : ∀ j, M' 4 j = M 4 j) (h2 : ∀ j, N' 90 j = N 90 j) : WDR M' N' := ⟨fun j hj => by rw [h1]; exact b.1 j hj, fun j hj => by rw [h2]; exact b.2 j hj⟩
theorem TK.cg {M' N' : MM} {t' : Nat} (k : TK M N n t) (f : FT M' M) (f' : FTN N' N) (h1 : M' 3 3 = (t' : Int)) (h2 : N' 88 7 = (t' : Int)) (ht : t' ≤ n) : TK M' N' n t' := by
  obtain ⟨⟨a1, a2, a3⟩, _, c, d⟩ := k
  exact ⟨⟨by rw [f 3 2 (by omega)]; exact a1, by rw [f' 88 6 (by omega)]; exact a2, a3⟩, ⟨h1, h2, ht⟩, c.cg (fun j => f 1 j (by omega)) (fun j => f' 89 j (by omega)), d.cg (fun j => f 4 j (by omega)) (fun j => f' 90 j (by omega))⟩
theorem wi7 {k : Nat} (h : k ≤ 700) : w32 ((k : Int) + 1) = ((k + 1 : Nat) : Int) := by rw [wi1 (by omega)]; rfl
/-- blanks are passed over -/
theorem q_skip (k : TK M N n t) : ∃ M1 N1, (lp (X := MM) (Y := MM) (fun x1 =>
if (x1 3 3) < (x1 3 2) then
(gd (0 ≤ x1 3 3 ∧ x1 3 3 < (700 : Int)) <|
if (x1 1 (x1 3 3).toNat) = 32 then
(bM (upM x1 3 3 (w32 ((x1 3 3) + 1))) fun M5 =>
some (Sum.inl M5))
else
gd (0 ≤ x1 3 3 ∧ x1 3 3 < (700 : Int)) <|
if (x1 1 (x1 3 3).toNat) = 10 then
(bM (upM x1 3 3 (w32 ((x1 3 3) + 1))) fun M8 =>
some (Sum.inl M8))
else
some (Sum.inr x1))
else
some (Sum.inr x1)) FU M) = some M1 ∧ (lp (X := MM) (Y := MM) (fun x1 =>
if (x1 88 7) < (x1 88 6) then
(gd (0 ≤ x1 88 7 ∧ x1 88 7 < (700 : Int)) <|
if (x1 89 (x1 88 7).toNat) = 10 then
(bM (upM x1 88 7 (w32 ((x1 88 7) + 1))) fun M5 =>
some (Sum.inl M5))
else
gd (0 ≤ x1 88 7 ∧ x1 88 7 < (700 : Int)) <|
if (x1 89 (x1 88 7).toNat) = 32 then
(bM (upM x1 88 7 (w32 ((x1 88 7) + 1))) fun M8 =>
some (Sum.inl M8))
else
some (Sum.inr x1))
else
some (Sum.inr x1)) FU N) = some N1 ∧ ∃ s : Nat, t ≤ s ∧ TK M1 N1 n s ∧ FT M1 M ∧ FTN N1 N ∧ (s = n ∨ (s < n ∧ M1 1 s ≠ 32 ∧ M1 1 s ≠ 10)) := by
  obtain ⟨y, y', e1, e2, s, s1, s2, s3, s4, s5⟩ := lp_tw (f := (fun x1 : MM => if (x1 3 3) < (x1 3 2) then (gd (0 ≤ x1 3 3 ∧ x1 3 3 < (700 : Int)) <| if (x1 1 (x1 3 3).toNat) = 32 then (bM (upM x1 3 3 (w32 ((x1 3 3) + 1))) fun M5 => some (Sum.inl M5)) else gd (0 ≤ x1 3 3 ∧ x1 3 3 < (700 : Int)) <| if (x1 1 (x1 3 3).toNat) = 10 then (bM (upM x1 3 3 (w32 ((x1 3 3) + 1))) fun M8 => some (Sum.inl M8)) else some (Sum.inr x1)) else some (Sum.inr x1))) (g := (fun x1 : MM => if (x1 88 7) < (x1 88 6) then (gd (0 ≤ x1 88 7 ∧ x1 88 7 < (700 : Int)) <| if (x1 89 (x1 88 7).toNat) = 10 then (bM (upM x1 88 7 (w32 ((x1 88 7) + 1))) fun M5 => some (Sum.inl M5)) else gd (0 ≤ x1 88 7 ∧ x1 88 7 < (700 : Int)) <| if (x1 89 (x1 88 7).toNat) = 32 then (bM (upM x1 88 7 (w32 ((x1 88 7) + 1))) fun M8 => some (Sum.inl M8)) else some (Sum.inr x1)) else some (Sum.inr x1))) (fun x x' => ∃ s : Nat, t ≤ s ∧ TK x x' n s ∧ FT x M ∧ FTN x' N) (fun x => (n - x 3 3).toNat) (fun y y' : MM => ∃ s : Nat, t ≤ s ∧ TK y y' n s ∧ FT y M ∧ FTN y' N ∧ (s = n ∨ (s < n ∧ y 1 s ≠ 32 ∧ y 1 s ≠ 10))) (by
    rintro x x' ⟨s, s1, s2, s3, s4⟩
    obtain ⟨⟨a1, a2, a3⟩, ⟨b1, b2, b3⟩, c, _⟩ := id s2
    by_cases q : s < n
    · have q1 : (s : Int) < (n : Int) := by omega
      have z : 0 ≤ (s : Int) ∧ (s : Int) < 700 := by omega
      have sn : s + 1 ≤ n := q
      have s7 : s ≤ 700 := by omega
      have cb := c s (by omega)
      have hm : ((n : Int) - ((s + 1 : Nat) : Int)).toNat < ((n : Int) - (s : Int)).toNat := by omega
      have nx : ∀ v : Int, v = ((s + 1 : Nat) : Int) → ∃ z z', (some (Sum.inl (upM x 3 3 v)) : Option (MM ⊕ MM)) = some (Sum.inl z) ∧ (some (Sum.inl (upM x' 88 7 v)) : Option (MM ⊕ MM)) = some (Sum.inl z') ∧ (∃ s : Nat, t ≤ s ∧ TK z z' n s ∧ FT z M ∧ FTN z' N) ∧ ((n : Int) - z 3 3).toNat < ((n : Int) - (s : Int)).toNat := fun v hv => by
        subst hv
        refine ⟨_, _, rfl, rfl, ⟨s + 1, by omega, s2.cg (FT.rf.up (by decide)) (FTN.rf.up (by decide)) upM_eq upM_eq sn, s3.up (by decide), s4.up (by decide)⟩, ?_⟩
        rw [upM_eq]; exact hm
      try dsimp +instances only
      rw [a1, a2, b1, b2, if_pos q1, if_pos q1, gd_t z, gd_t z, gd_t z, gd_t z, Int.toNat_natCast, wi7 s7, bM_eq, bM_eq]
      by_cases c1 : x 1 s = 32
      · right
        rw [if_pos c1, if_neg (show ¬ x' 89 s = 10 by omega), if_pos (show x' 89 s = 32 by omega)]
        exact nx _ rfl
      · rw [if_neg c1]
        by_cases c2 : x 1 s = 10
        · right
          rw [if_pos c2, if_pos (show x' 89 s = 10 by omega)]
          exact nx _ rfl
        · left
          rw [if_neg c2, if_neg (show ¬ x' 89 s = 10 by omega), if_neg (show ¬ x' 89 s = 32 by omega)]
          exact ⟨_, _, rfl, rfl, s, s1, s2, s3, s4, Or.inr ⟨q, c1, c2⟩⟩
    · left
      have q1 : ¬ (s : Int) < (n : Int) := by omega
      try dsimp +instances only
      rw [a1, a2, b1, b2, if_neg q1, if_neg q1]
      exact ⟨_, _, rfl, rfl, s, s1, s2, s3, s4, Or.inl (by omega)⟩) M N ⟨t, Nat.le_refl _, k, FT.rf, FTN.rf⟩ (show ((n : Int) - M 3 3).toNat < 1000000 by
        obtain ⟨⟨a1, a2, a3⟩, ⟨b1, b2, b3⟩, _⟩ := k
        omega)
  exact ⟨y, y', e1, e2, s, s1, s2, s3, s4, s5⟩
theorem m_small (k : TK M N n t) {s : Nat} (hs : s ≤ 700) : f_X12_isSmall N (s : Int) = some (b1 (s < n ∧ 97 ≤ M 1 s ∧ M 1 s ≤ 122)) := by
  obtain ⟨⟨a1, a2, a3⟩, _, c, _⟩ := k
  unfold f_X12_isSmall b1
  rw [a2]
  by_cases q : s < n
  · have cb := c s (by omega)
    rw [if_pos (show (s : Int) < (n : Int) by omega), gd_t (show 0 ≤ (s : Int) ∧ (s : Int) < 700 by omega), gd_t (show 0 ≤ (s : Int) ∧ (s : Int) < 700 by omega), Int.toNat_natCast]
    by_cases c1 : N 89 s < 97
    · rw [if_pos c1, if_neg (by omega)]
    · rw [if_neg c1]
      by_cases c2 : 122 < N 89 s
      · rw [if_pos c2, if_neg (by omega)]
      · rw [if_neg c2, if_pos (by omega)]
  · rw [if_neg (show ¬ (s : Int) < (n : Int) by omega), if_neg (fun z => q z.1)]
theorem m_digit (k : TK M N n t) {s : Nat} (hs : s ≤ 700) : f_X12_isDigit N (s : Int) = some (b1 (s < n ∧ 48 ≤ M 1 s ∧ M 1 s ≤ 57)) := by
  obtain ⟨⟨a1, a2, a3⟩, _, c, _⟩ := k
  unfold f_X12_isDigit b1
  rw [a2]
  by_cases q : s < n
  · have cb := c s (by omega)
    rw [if_pos (show (s : Int) < (n : Int) by omega), gd_t (show 0 ≤ (s : Int) ∧ (s : Int) < 700 by omega), gd_t (show 0 ≤ (s : Int) ∧ (s : Int) < 700 by omega), Int.toNat_natCast]
    by_cases c1 : N 89 s < 48
    · rw [if_pos c1, if_neg (by omega)]
    · rw [if_neg c1]
      by_cases c2 : 57 < N 89 s
      · rw [if_pos c2, if_neg (by omega)]
      · rw [if_neg c2, if_pos (by omega)]
  · rw [if_neg (show ¬ (s : Int) < (n : Int) by omega), if_neg (fun z => q z.1)]
def NVR (v w : Int) : Prop := (v = w ∧ 0 ≤ v ∧ v ≤ 99999) ∨ (99999 < v ∧ v ≤ 1000000 ∧ 99999 < w ∧ w ≤ 1000000)
theorem nv_step {v w b : Int} (h : NVR v w) (hb : 48 ≤ b ∧ b ≤ 57) : NVR (if w32 ((w32 ((w32 (v * 10)) + b)) - 48) < 1000000 then w32 ((w32 ((w32 (v * 10)) + b)) - 48) else 1000000) (if 99999 < w then w else w32 ((w32 ((w32 (10 * w)) + b)) - 48)) := by
  unfold NVR at *
  have e1 : w32 ((w32 ((w32 (v * 10)) + b)) - 48) = v * 10 + b - 48 := by
    rw [w32_i (x := v * 10) (by omega) (by omega), w32_i (x := v * 10 + b) (by omega) (by omega), w32_i (by omega) (by omega)]
  have e2 : w32 ((w32 ((w32 (10 * w)) + b)) - 48) = 10 * w + b - 48 := by
    clear e1
    rw [w32_i (x := 10 * w) (by omega) (by omega), w32_i (x := 10 * w + b) (by omega) (by omega), w32_i (by omega) (by omega)]
  rw [e1, e2]
  clear e1 e2
  split <;> split <;> omega
/-- numbers -/
theorem q_number (k : TK M N n t) (ht : t < n) (hd : 48 ≤ M 1 t ∧ M 1 t ≤ 57) : ∃ M1 N1, f_X9_readNumber M = some M1 ∧ (lp (X := MM) (Y := MM) (fun x20 =>
(f_X12_isDigit x20 (x20 88 7)).bind fun x21 =>
if x21 = 0 then
(some (Sum.inr x20))
else
((if 99999 < (x20 88 9) then
(some (x20 88 9))
else
gd (0 ≤ x20 88 7 ∧ x20 88 7 < (700 : Int)) <|
some (w32 ((w32 ((w32 (10 * (x20 88 9))) + (x20 89 (x20 88 7).toNat))) - 48))) : Option (Int)).bind fun x25 =>
bM (upM x20 88 9 x25) fun M26 =>
bM (upM M26 88 7 (w32 ((M26 88 7) + 1))) fun M27 =>
some (Sum.inl M27)) FU (upM (upM N 88 8 3) 88 9 0)) = some N1 ∧ ∃ s : Nat, t < s ∧ TK M1 N1 n s ∧ FT M1 M ∧ FTN N1 N ∧ (M1 3 6 = M 3 6 ∧ N1 88 10 = N 88 10) ∧ KR (M1 3 4) (M1 3 5) (N1 88 8) (N1 88 9) := by
  unfold f_X9_readNumber
  rw [bM_eq, bM_eq]
  obtain ⟨⟨a1, a2, a3⟩, ⟨b1, b2, b3⟩, c, _⟩ := id k
  obtain ⟨y, y', e1, e2, s, s1, s2, s3, s4, s5, s6⟩ := lp_tw (f := (fun x3 : MM => if (x3 3 3) < (x3 3 2) then (gd (0 ≤ x3 3 3 ∧ x3 3 3 < (700 : Int)) <| if (x3 1 (x3 3 3).toNat) < 48 then (some (Sum.inr x3)) else gd (0 ≤ x3 3 3 ∧ x3 3 3 < (700 : Int)) <| if 57 < (x3 1 (x3 3 3).toNat) then (some (Sum.inr x3)) else gd (0 ≤ x3 3 3 ∧ x3 3 3 < (700 : Int)) <| bM (upM x3 3 5 (if w32 ((w32 ((w32 ((x3 3 5) * 10)) + (x3 1 (x3 3 3).toNat))) - 48) < 1000000 then w32 ((w32 ((w32 ((x3 3 5) * 10)) + (x3 1 (x3 3 3).toNat))) - 48) else 1000000)) fun M10 => bM (upM M10 3 3 (w32 ((M10 3 3) + 1))) fun M11 => some (Sum.inl M11)) else some (Sum.inr x3))) (g := (fun x20 : MM => (f_X12_isDigit x20 (x20 88 7)).bind fun x21 => if x21 = 0 then (some (Sum.inr x20)) else ((if 99999 < (x20 88 9) then (some (x20 88 9)) else gd (0 ≤ x20 88 7 ∧ x20 88 7 < (700 : Int)) <| some (w32 ((w32 ((w32 (10 * (x20 88 9))) + (x20 89 (x20 88 7).toNat))) - 48))) : Option (Int)).bind fun x25 => bM (upM x20 88 9 x25) fun M26 => bM (upM M26 88 7 (w32 ((M26 88 7) + 1))) fun M27 => some (Sum.inl M27))) (fun x x' => ∃ s : Nat, t ≤ s ∧ TK x x' n s ∧ FT x M ∧ FTN x' N ∧ (x 3 6 = M 3 6 ∧ x' 88 10 = N 88 10) ∧ (x 3 4 = 2 ∧ x' 88 8 = 3 ∧ NVR (x 3 5) (x' 88 9))) (fun x => (n - x 3 3).toNat) (fun y y' : MM => ∃ s : Nat, t < s ∧ TK y y' n s ∧ FT y M ∧ FTN y' N ∧ (y 3 6 = M 3 6 ∧ y' 88 10 = N 88 10) ∧ (y 3 4 = 2 ∧ y' 88 8 = 3 ∧ NVR (y 3 5) (y' 88 9))) (by
    rintro x x' ⟨s, s1, s2, s3, s4, s5, s6⟩
    obtain ⟨⟨a1, a2, a3⟩, ⟨b1, b2, b3⟩, c, _⟩ := id s2
    have dg := m_digit s2 (s := s) (by omega)
    have xt : ∀ j, x 1 j = M 1 j := fun j => s3 1 j (by omega)
    try dsimp +instances only
    rw [b2, dg, Option.bind_some, if_b1]
    by_cases q : s < n ∧ 48 ≤ x 1 s ∧ x 1 s ≤ 57
    · right
      have q1 : (s : Int) < (n : Int) := by omega
      have z : 0 ≤ (s : Int) ∧ (s : Int) < 700 := by omega
      have sn : s + 1 ≤ n := q.1
      have s7 : s ≤ 700 := by omega
      have cb := c s (by omega)
      have eb : x' 89 s = x 1 s := by omega
      have hm : ((n : Int) - ((s + 1 : Nat) : Int)).toNat < ((n : Int) - (s : Int)).toNat := by omega
      have nv := nv_step s6.2.2 q.2
      have ow : ((if 99999 < x' 88 9 then some (x' 88 9) else some (w32 ((w32 ((w32 (10 * (x' 88 9))) + (x 1 s))) - 48))) : Option Int) = some (if 99999 < x' 88 9 then x' 88 9 else w32 ((w32 ((w32 (10 * (x' 88 9))) + (x 1 s))) - 48)) := iteo
      rw [a1, b1, if_pos q1, gd_t z, gd_t z, gd_t z, gd_t z, Int.toNat_natCast, if_neg (show ¬ x 1 s < 48 by omega), if_neg (show ¬ 57 < x 1 s by omega), if_pos q, eb, ow, Option.bind_some, bM_eq, bM_eq, bM_eq, bM_eq, up_ni (by decide), up_ni (by decide), b1, b2, wi7 s7]
      generalize (if w32 ((w32 ((w32 ((x 3 5) * 10)) + (x 1 s))) - 48) < 1000000 then w32 ((w32 ((w32 ((x 3 5) * 10)) + (x 1 s))) - 48) else 1000000) = v1 at nv
      generalize (if 99999 < x' 88 9 then x' 88 9 else w32 ((w32 ((w32 (10 * (x' 88 9))) + (x 1 s))) - 48)) = v2 at nv
      refine ⟨_, _, rfl, rfl, ⟨s + 1, by omega, s2.cg ((FT.rf.up (by decide)).up (by decide)) ((FTN.rf.up (by decide)).up (by decide)) upM_eq upM_eq sn, (s3.up (by decide)).up (by decide), (s4.up (by decide)).up (by decide), ?_, ?_, ?_, ?_⟩, ?_⟩
      · rw [up_ni (by decide), up_ni (by decide), up_ni (by decide), up_ni (by decide)]; exact s5
      · rw [up_ni (by decide), up_ni (by decide)]; exact s6.1
      · rw [up_ni (by decide), up_ni (by decide)]; exact s6.2.1
      · rw [up_ni (by decide), upM_eq, up_ni (by decide), upM_eq]; exact nv
      · rw [upM_eq]; exact hm
    · left
      have st : t < s := by
        by_cases e : s = t
        · subst e; exact absurd ⟨ht, by rw [xt]; exact hd⟩ q
        · omega
      rw [a1, b1, if_neg q]
      refine ⟨x, x', ?_, rfl, s, st, s2, s3, s4, s5, s6⟩
      by_cases q2 : s < n
      · rw [if_pos (show (s : Int) < (n : Int) by omega), gd_t (show 0 ≤ (s : Int) ∧ (s : Int) < 700 by omega), gd_t (show 0 ≤ (s : Int) ∧ (s : Int) < 700 by omega), Int.toNat_natCast]
        by_cases q3 : x 1 s < 48
        · rw [if_pos q3]
        · rw [if_neg q3, if_pos (show 57 < x 1 s by omega)]
      · rw [if_neg (show ¬ (s : Int) < (n : Int) by omega)]) (upM (upM M 3 4 2) 3 5 0) (upM (upM N 88 8 3) 88 9 0) ⟨t, Nat.le_refl _, k.cg ((FT.rf.up (by decide)).up (by decide)) ((FTN.rf.up (by decide)).up (by decide)) (by rw [up_ni (by decide), up_ni (by decide)]; exact b1) (by rw [up_ni (by decide), up_ni (by decide)]; exact b2) b3, (FT.rf.up (by decide)).up (by decide), (FTN.rf.up (by decide)).up (by decide), ⟨by rw [up_ni (by decide), up_ni (by decide)], by rw [up_ni (by decide), up_ni (by decide)]⟩, by rw [up_ni (by decide), upM_eq], by rw [up_ni (by decide), upM_eq], by rw [upM_eq, upM_eq]; unfold NVR; omega⟩ (show ((n : Int) - upM (upM M 3 4 2) 3 5 0 3 3).toNat < 1000000 by
        rw [up_ni (by decide), up_ni (by decide)]
        omega)
  exact ⟨y, y', e1, e2, s, s1, s2, s3, s4, s5, Or.inr (Or.inl ⟨s6.1, s6.2.1, s6.2.2⟩)⟩
end TOK
