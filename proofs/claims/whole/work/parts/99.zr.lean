section TBEG
variable {M N : MM} {n g : Nat}
theorem c_lclear (M : MM) (a0 : Nat) : ∃ M', f_X3_clear M a0 = some M' ∧ (M' a0 6 = 0 ∧ M' a0 7 = 0 ∧ ∀ j : Nat, j < 3 → M' (a0 + 3) j = 0 ∧ M' (a0 + 4) j = 0) ∧ ∀ a j, ¬ (a = a0 ∧ (j = 6 ∨ j = 7)) → a ≠ a0 + 3 → a ≠ a0 + 4 → M' a j = M a j := by
  unfold f_X3_clear
  rw [bM_eq, bM_eq]
  refine lp_cnt 3 (fun k m => (∀ j : Nat, j < k → m (a0 + 3) j = 0 ∧ m (a0 + 4) j = 0) ∧ ∀ a j, a ≠ a0 + 3 → a ≠ a0 + 4 → m a j = upM (upM M a0 6 0) a0 7 0 a j) _ (by decide) ?_ ?_ _ ⟨fun j hj => absurd hj (Nat.not_lt_zero _), fun _ _ _ _ => rfl⟩
  · rintro k m hk ⟨i1, i2⟩
    left
    have z : 0 ≤ (k : Int) ∧ (k : Int) < 3 := by omega
    refine ⟨upM (upM m (a0 + 3) k 0) (a0 + 4) k 0, ?_, ?_, ?_⟩
    · try dsimp +instances only
      rw [if_pos z.2, gd_t z, bM_eq, gd_t z, bM_eq, Int.toNat_natCast, wi1 (by omega)]
      rfl
    · intro j hj
      by_cases q : j = k
      · rw [q]; exact ⟨by rw [up_na (by omega), upM_eq], upM_eq⟩
      · exact ⟨by rw [up_na (by omega), up_ni q]; exact (i1 j (by omega)).1, by rw [up_ni q, up_na (by omega)]; exact (i1 j (by omega)).2⟩
    · intro a j h1 h2
      rw [up_na h2, up_na h1]
      exact i2 a j h1 h2
  · rintro m ⟨i1, i2⟩
    refine ⟨m, rfl, ⟨?_, ?_, i1⟩, fun a j h1 h2 h3 => ?_⟩
    · rw [i2 a0 6 (by omega) (by omega), up_ni (by decide), upM_eq]
    · rw [i2 a0 7 (by omega) (by omega), upM_eq]
    · rw [i2 a j h2 h3, upM_ne a j (by omega), upM_ne a j (by omega)]
theorem c_hclear (M : MM) (g : Nat) : ∃ M', f_X2_clear M g = some M' ∧ ((M' (g + 1) 0 = 0 ∧ M' (g + 6) 0 = 0) ∧ (M' g 3 = 0 ∧ M' g 7 = 0 ∧ M' g 9 = 20 ∧ M' g 10 = 0 ∧ M' g 11 = 3 ∧ M' g 12 = 0 ∧ M' g 13 = 0 ∧ M' g 14 = 0) ∧ (M' (g + 12) 6 = 0 ∧ M' (g + 12) 7 = 0 ∧ ∀ j : Nat, j < 3 → M' (g + 15) j = 0 ∧ M' (g + 16) j = 0)) ∧ ∀ a j, ¬ (g ≤ a ∧ a ≤ g + 22 ∧ a ≠ g + 3) → M' a j = M a j := by
  unfold f_X2_clear
  rw [bM_eq, bM_eq]
  obtain ⟨x, e, ⟨c1, c2, c3⟩, f⟩ := c_lclear (upM (upM M (g + 1) 0 0) (g + 6) 0 0) (g + 12)
  rw [e, Option.bind_some, bM_eq, bM_eq, bM_eq, bM_eq, bM_eq, bM_eq, bM_eq, bM_eq]
  refine ⟨_, rfl, ?_⟩
  have ha : ∀ a j, a ≠ g → upM (upM (upM (upM (upM (upM (upM (upM x g 3 0) g 7 0) g 9 20) g 10 0) g 11 3) g 12 0) g 13 0) g 14 0 a j = x a j := fun a j h => by rw [up_na h, up_na h, up_na h, up_na h, up_na h, up_na h, up_na h, up_na h]
  refine ⟨⟨⟨?_, ?_⟩, ⟨?_, ?_, ?_, ?_, ?_, ?_, ?_, ?_⟩, ?_, ?_, fun j hj => ⟨?_, ?_⟩⟩, fun a j hn => ?_⟩
  · rw [ha _ _ (by omega), f _ _ (by omega) (by omega) (by omega), up_na (by omega), upM_eq]
  · rw [ha _ _ (by omega), f _ _ (by omega) (by omega) (by omega), upM_eq]
  · rw [up_ni (by decide), up_ni (by decide), up_ni (by decide), up_ni (by decide), up_ni (by decide), up_ni (by decide), up_ni (by decide), upM_eq]
  · rw [up_ni (by decide), up_ni (by decide), up_ni (by decide), up_ni (by decide), up_ni (by decide), up_ni (by decide), upM_eq]
  · rw [up_ni (by decide), up_ni (by decide), up_ni (by decide), up_ni (by decide), up_ni (by decide), upM_eq]
  · rw [up_ni (by decide), up_ni (by decide), up_ni (by decide), up_ni (by decide), upM_eq]
  · rw [up_ni (by decide), up_ni (by decide), up_ni (by decide), upM_eq]
  · rw [up_ni (by decide), up_ni (by decide), upM_eq]
  · rw [up_ni (by decide), upM_eq]
  · rw [upM_eq]
  · rw [ha _ _ (by omega)]; exact c1
  · rw [ha _ _ (by omega)]; exact c2
  · rw [ha _ _ (by omega)]; exact (c3 j hj).1
  · rw [ha _ _ (by omega)]; exact (c3 j hj).2
  · rw [ha _ _ (by omega), f _ _ (by omega) (by omega) (by omega), up_na (by omega), up_na (by omega)]
def pl2 : Int × MM → Option ((Int × MM) ⊕ MM) := fun x7 =>
if x7.1 < 2 then
(gd (0 ≤ x7.1 ∧ x7.1 < (2 : Int)) <|
bM (upM x7.2 91 (x7.1).toNat 0) fun M10 =>
some (Sum.inl (w32 (x7.1 + 1), M10)))
else
some (Sum.inr x7.2)
def pl6 : Int × MM → Option ((Int × MM) ⊕ MM) := fun x15 =>
if x15.1 < 6 then
(gd (0 ≤ x15.1 ∧ x15.1 < (6 : Int)) <|
bM (upM x15.2 106 (x15.1).toNat 0) fun M18 =>
some (Sum.inl (w32 (x15.1 + 1), M18)))
else
some (Sum.inr x15.2)
theorem plain_eq (N : MM) : f_X12_plain N = (lp pl2 FU (0, upM (upM (upM (upM (upM (upM N 88 17 0) 88 18 0) 88 19 0) 88 20 0) 88 21 0) 88 48 0)).bind fun x11 => lp pl6 FU (3, upM (upM (upM x11 92 3 20) 92 4 0) 92 5 3) := rfl
theorem pl2_r (A : MM) : lp pl2 FU (0, A) = some (upM (upM A 91 0 0) 91 1 0) := (lp_s 999999 (z := (1, upM A 91 0 0)) rfl).trans ((lp_s 999998 (z := (2, upM (upM A 91 0 0) 91 1 0)) rfl).trans (lp_e 999997 rfl))
theorem pl6_r (A : MM) : lp pl6 FU (3, A) = some (upM (upM (upM A 106 3 0) 106 4 0) 106 5 0) := (lp_s 999999 (z := (4, upM A 106 3 0)) rfl).trans ((lp_s 999998 (z := (5, upM (upM A 106 3 0) 106 4 0)) rfl).trans ((lp_s 999997 (z := (6, upM (upM (upM A 106 3 0) 106 4 0) 106 5 0)) rfl).trans (lp_e 999996 rfl)))
theorem m_plainT (N : MM) : ∃ N', f_X12_plain N = some N' ∧ (((N' 88 17 = 0 ∧ N' 88 18 = 0 ∧ N' 88 19 = 0) ∧ N' 88 20 = 0 ∧ N' 88 21 = 0 ∧ N' 88 48 = 0) ∧ (N' 91 0 = 0 ∧ N' 91 1 = 0) ∧ (N' 92 3 = 20 ∧ N' 92 4 = 0 ∧ N' 92 5 = 3) ∧ ∀ l : Nat, l < 3 → N' 106 (3 + l) = 0) ∧ ∀ a j, ¬ (a = 88 ∧ ((17 ≤ j ∧ j ≤ 21) ∨ j = 48)) → a ≠ 91 → ¬ (a = 92 ∧ 3 ≤ j) → ¬ (a = 106 ∧ 3 ≤ j) → N' a j = N a j := by
  rw [plain_eq]
  generalize hA : upM (upM (upM (upM (upM (upM N 88 17 0) 88 18 0) 88 19 0) 88 20 0) 88 21 0) 88 48 0 = A
  have A0 : (A 88 17 = 0 ∧ A 88 18 = 0 ∧ A 88 19 = 0) ∧ A 88 20 = 0 ∧ A 88 21 = 0 ∧ A 88 48 = 0 := by
    rw [← hA]
    exact ⟨⟨rfl, rfl, rfl⟩, rfl, rfl, rfl⟩
  have Aa : ∀ a j, ¬ (a = 88 ∧ ((17 ≤ j ∧ j ≤ 21) ∨ j = 48)) → A a j = N a j := fun a j h => by
    rw [← hA, upM_ne a j (by omega), upM_ne a j (by omega), upM_ne a j (by omega), upM_ne a j (by omega), upM_ne a j (by omega), upM_ne a j (by omega)]
  clear hA
  rw [pl2_r, Option.bind_some, pl6_r]
  refine ⟨_, rfl, ?_⟩
  refine ⟨⟨?_, ⟨rfl, rfl⟩, ⟨rfl, rfl, rfl⟩, fun l hl => ?_⟩, fun a j h1 h2 h3 h4 => ?_⟩
  · exact A0
  · have : l = 0 ∨ l = 1 ∨ l = 2 := by omega
    rcases this with rfl | rfl | rfl <;> rfl
  · show upM (upM (upM (upM (upM (upM (upM (upM A 91 0 0) 91 1 0) 92 3 20) 92 4 0) 92 5 3) 106 3 0) 106 4 0) 106 5 0 a j = N a j
    rw [upM_ne a j (by omega), upM_ne a j (by omega), upM_ne a j (by omega), upM_ne a j (by omega), upM_ne a j (by omega), upM_ne a j (by omega), upM_ne a j (by omega), upM_ne a j (by omega)]
    exact Aa a j h1
/-- a text begins, on both sides -/
theorem t_begin (hg : g = 8 ∨ g = 31) (hn : n ≤ 700) (b : BYR M N) (wd : WDR M N) (n6 : N 88 6 = (n : Int)) (n7 : N 88 7 = 0) (n4 : N 88 4 = 0) (n5 : N 88 5 = -1) : ∃ M' x9 N', f_X7_begin M (n : Int) g = some M' ∧ f_X12_plain N = some x9 ∧ f_X12_token x9 = some N' ∧ ((∃ s, RT' M' N' n s ∧ (0 < s ∨ M' 3 4 = 1)) ∧ RD M' N' g ∧ LW M' N' g ∧ M' g 14 = 0 ∧ FL M' N') ∧ (∀ a j, a ≠ 2 → a ≠ 3 → ¬ (g ≤ a ∧ a ≤ g + 22 ∧ a ≠ g + 3) → M' a j = M a j) ∧ ∀ a j, ¬ (a = 88 ∧ ((7 ≤ j ∧ j ≤ 10) ∨ (17 ≤ j ∧ j ≤ 21) ∨ j = 48)) → a ≠ 91 → ¬ (a = 92 ∧ 3 ≤ j) → ¬ (a = 106 ∧ 3 ≤ j) → N' a j = N a j := by
  obtain ⟨N1, e1, ⟨⟨⟨p1, p2, p3⟩, p4, p5, p6⟩, ⟨p7, p8⟩, ⟨p9, p10, p11⟩, p12⟩, fn⟩ := m_plainT N
  obtain ⟨M1, e2, ⟨⟨c1, c2⟩, ⟨c3, c4, c5, c6, c7, c8, c9, c10⟩, ⟨c11, c12, c13⟩⟩, fm⟩ := c_hclear (upM M 2 2 (g : Int)) g
  have eb : f_X7_begin M (n : Int) g = f_X9_advance (upM (upM (upM (upM M1 2 5 0) 2 6 (-1)) 3 2 (n : Int)) 3 3 0) := by
    unfold f_X7_begin f_X9_begin
    rw [bM_eq, upM_eq, gH_h hg, e2, Option.bind_some, bM_eq, bM_eq, if_neg (show ¬ 700 < (n : Int) by omega), bM_eq, bM_eq]
    cases f_X9_advance (upM (upM (upM (upM M1 2 5 0) 2 6 (-1)) 3 2 (n : Int)) 3 3 0) <;> rfl
  have ha : ∀ a j, a ≠ 2 → a ≠ 3 → upM (upM (upM (upM M1 2 5 0) 2 6 (-1)) 3 2 (n : Int)) 3 3 0 a j = M1 a j := fun a j h1 h2 => by rw [up_na h2, up_na h2, up_na h1, up_na h1]
  have m22 : upM (upM (upM (upM M1 2 5 0) 2 6 (-1)) 3 2 (n : Int)) 3 3 0 2 2 = (g : Int) := by rw [up_na (by decide), up_na (by decide), up_ni (by decide), up_ni (by decide), fm 2 2 (by omega), upM_eq]
  have m25 : upM (upM (upM (upM M1 2 5 0) 2 6 (-1)) 3 2 (n : Int)) 3 3 0 2 5 = 0 := rfl
  have m26 : upM (upM (upM (upM M1 2 5 0) 2 6 (-1)) 3 2 (n : Int)) 3 3 0 2 6 = -1 := rfl
  have m32 : upM (upM (upM (upM M1 2 5 0) 2 6 (-1)) 3 2 (n : Int)) 3 3 0 3 2 = (n : Int) := rfl
  have m33 : upM (upM (upM (upM M1 2 5 0) 2 6 (-1)) 3 2 (n : Int)) 3 3 0 3 3 = ((0 : Nat) : Int) := rfl
  generalize upM (upM (upM (upM M1 2 5 0) 2 6 (-1)) 3 2 (n : Int)) 3 3 0 = M2 at eb ha m22 m25 m26 m32 m33
  have h14 : ∀ a j, a = 1 ∨ a = 4 → M2 a j = M a j := fun a j h => by rw [ha a j (by omega) (by omega), fm a j (by omega), up_na (by omega)]
  have k : TK M2 N1 n 0 := ⟨⟨m32, by rw [fn 88 6 (by omega) (by omega) (by omega) (by omega)]; exact n6, hn⟩, ⟨m33, by rw [fn 88 7 (by omega) (by omega) (by omega) (by omega)]; exact n7, Nat.zero_le _⟩, b.cg (fun j => h14 1 j (by omega)) (fun j => fn 89 j (by omega) (by omega) (by omega) (by omega)), wd.cg (fun j => h14 4 j (by omega)) (fun j => fn 90 j (by omega) (by omega) (by omega) (by omega))⟩
  obtain ⟨M3, N3, e3, e4, s, s1, s2, s3, s4, s5, s6, s7⟩ := q_tok k
  have rd : RD M2 N1 g := by
    have hg1 : ∀ k j, g ≤ k → M2 k j = M1 k j := fun k j hk => ha k j (by omega) (by omega)
    unfold RD
    rw [m22, hg1 (g + 1) 0 (by omega), hg1 (g + 6) 0 (by omega), hg1 g 3 (by omega), hg1 g 7 (by omega), hg1 g 9 (by omega), hg1 g 10 (by omega), hg1 g 11 (by omega), hg1 g 12 (by omega), hg1 g 13 (by omega), c1, c2, c3, c4, c5, c6, c7, c8, c9, p1, p2, p3, p4, p7, p8, p9, p10, p11]
    exact ⟨⟨rfl, hg⟩, by decide, by decide, by decide, by decide, by decide, by decide, fun r hr => absurd hr (by omega), fun r hr => absurd hr (by omega), fun r hr => absurd hr (by omega), fun r hr => absurd hr (by omega)⟩
  have lw : LW M2 N1 g := by
    have hg1 : ∀ k j, g ≤ k → M2 k j = M1 k j := fun k j hk => ha k j (by omega) (by omega)
    refine ⟨[], [], [], [], ⟨⟨?_, ?_, by decide⟩, ⟨trivial, trivial, rfl⟩, ⟨p5, p6⟩, trivial, ⟨trivial, rfl⟩, trivial, rfl⟩, fun l hl => Or.inl ⟨p12 l hl, ?_⟩⟩
    · rw [hg1 _ _ (by omega)]; exact c11
    · rw [hg1 _ _ (by omega)]; exact c12
    · rw [hg1 _ _ (by omega), hg1 _ _ (by omega), (c13 l hl).1, (c13 l hl).2]; decide
  refine ⟨M3, N1, N3, eb.trans e3, e1, e4, ⟨⟨s, ⟨s1, s4, s5⟩, s6⟩, rd.ft s2 s3, lw.ft hg s2 s3, ?_, ?_, ?_⟩, fun a j h1 h2 h3 => ?_, fun a j h1 h2 h3 h4 => ?_⟩
  · rw [s2 g 14 (by omega), ha g 14 (by omega) (by omega)]; exact c10
  · rw [s2 2 5 (by omega), m25, s3 88 4 (by omega), fn 88 4 (by omega) (by omega) (by omega) (by omega), n4]
  · rw [s2 2 6 (by omega), m26, s3 88 5 (by omega), fn 88 5 (by omega) (by omega) (by omega) (by omega), n5]
  · rw [s2 a j (by omega), ha a j h1 h2, fm a j h3, up_na h1]
  · rw [s3 a j (by omega), fn a j (by omega) h2 h3 h4]
end TBEG
