section TKEEP
variable {M N M' N' H S : MM} {LV : LVT} {h g : Nat}
/-- the cells of the second system that the text told rests on: not those that are read into -/
def NB2 (a j : Nat) : Prop := (a = 88 ∧ 12 ≤ j ∧ j ≤ 16) ∨ (a = 92 ∧ j < 3) ∨ (93 ≤ a ∧ a ≤ 101 ∧ j < 5) ∨ (102 ≤ a ∧ a ≤ 104 ∧ j < 4) ∨ (a = 105 ∧ j < 8) ∨ (106 ≤ a ∧ a ≤ 108 ∧ j < 3) ∨ (109 ≤ a ∧ a ≤ 111 ∧ j < 64) ∨ (116 ≤ a ∧ a ≤ 129)
theorem BA.cg3 (g : BA M N h H LV S) (f : ∀ a, (h ≤ a ∧ a ≤ h + 22) ∨ (54 ≤ a ∧ a < 62) → M' a = M a) (f0 : M' 0 3 = M 0 3) (f' : ∀ a j, NB2 a j → N' a j = N a j) : BA M' N' h H LV S := by
  obtain ⟨⟨a1, a2, a3, a4, a5⟩, ⟨b1, b2, b3⟩, c, d⟩ := g
  have h5 := c.1.1.2
  have h6 := c.1.2.1.2
  have h7 := c.1.2.2.1.2
  have h8 := c.1.2.2.2.1.2
  refine ⟨⟨a1, by rw [f0]; exact a2, ?_, ?_, ?_⟩, ⟨?_, ?_, ?_⟩, c, d⟩
  · intro k k1 k2 k3
    rw [f (h + k) (by omega)]
    exact a3 k k1 k2 k3
  · intro m hm w hw hn
    exact a4 m (fun k x y => by rw [hm k x y, f (h + k) (by omega)]) w hw hn
  · intro k hk
    rw [f (54 + k) (by omega)]
    exact a5 k hk
  · obtain ⟨q1, q2, q3, q4, q5⟩ := b1
    refine ⟨?_, fun r hr => ?_, fun p hp => ?_, fun s hs => ?_, fun s hs => ?_⟩
    · rw [f' 88 12 (by unfold NB2; omega), f' 88 13 (by unfold NB2; omega), f' 88 14 (by unfold NB2; omega), f' 88 15 (by unfold NB2; omega), f' 88 16 (by unfold NB2; omega), f' 92 0 (by unfold NB2; omega), f' 92 1 (by unfold NB2; omega), f' 92 2 (by unfold NB2; omega)]
      exact q1
    · rw [f' 93 r (by unfold NB2; omega), f' 94 r (by unfold NB2; omega), f' 95 r (by unfold NB2; omega), f' 96 r (by unfold NB2; omega)]
      exact q2 r hr
    · rw [f' 97 p (by unfold NB2; omega), f' 98 p (by unfold NB2; omega), f' 99 p (by unfold NB2; omega), f' 100 p (by unfold NB2; omega), f' 101 p (by unfold NB2; omega)]
      exact q3 p hp
    · rw [f' 102 s (by unfold NB2; omega), f' 103 s (by unfold NB2; omega), f' 104 s (by unfold NB2; omega)]
      exact q4 s hs
    · rw [f' 105 s (by unfold NB2; omega)]
      exact q5 s hs
  · intro n hn w hw ok
    have := b2 n (fun a j x => (hn a j x).trans (f' a j (by unfold NB2; omega))) w hw ok
    rw [f' 106 w (by unfold NB2; omega)]
    exact this
  · have fa : ∀ a j, 116 ≤ a → a ≤ 129 → N' a j = N a j := fun a j h1 h2 => f' a j (by unfold NB2; omega)
    unfold CM0 at *
    simp (disch := decide) only [fa]
    exact b3
theorem RX.cg3 (x : RX M N h H S) (f0 : M' 0 4 = M 0 4 ∧ M' 0 7 = M 0 7) (f : ∀ a, a = 4 ∨ (62 ≤ a ∧ a ≤ 69) ∨ (78 ≤ a ∧ a ≤ 87) → M' a = M a) (n8 : ∀ j, j = 80 ∨ j = 81 ∨ j = 85 ∨ j = 87 → N' 88 j = N 88 j) (na : ∀ a j, a = 90 ∨ (131 ≤ a ∧ a ≤ 138) → N' a j = N a j) (t : TPR M' N') (fa : M' 0 11 = N' 88 4 ∧ M' 0 12 = N' 88 5) (sp : ∀ r : Nat, r < 5 → (0 ≤ M' 11 r ∧ M' 11 r ≤ 600) ∧ (0 ≤ M' 34 r ∧ M' 34 r ≤ 600)) : RX M' N' h H S := by
  obtain ⟨x1, x2, x3, x4, ⟨x5, x6, x7⟩, x8, x9⟩ := x
  refine ⟨t, fa, x3.cg (fun a h1 h2 => f a (by omega)) (funext fun j => na 131 j (by omega)) ⟨n8 80 (by omega), n8 81 (by omega)⟩, ?_, ⟨?_, ?_, ?_⟩, ?_, ?_, sp⟩
  · unfold PAR rowU at *; simp (disch := decide) only [f, n8, na]; exact x4
  · rw [f0.2, n8 87 (by decide)]; exact x5
  · rw [f 63 (by decide)]; exact x6
  · rw [f0.2]
    intro z
    obtain ⟨J, j1, j2, j3⟩ := x7 z
    refine ⟨J, fun k hk => by rw [f (62 + k) (by omega)]; exact j1 k hk, ?_, j3⟩
    unfold IMG at *
    simp (disch := decide) only [na]
    exact j2
  · unfold WDR at *; simp (disch := decide) only [f, na]; exact x8
  · rw [f0.1]; exact x9.1
/-- a text kept, on both sides -/
theorem t_keep (hh : h = 8 ∨ h = 31) (hg : g = 8 ∨ g = 31) (hgh : h + g = 39) (m03 : M 0 3 = (h : Int)) (m04 : M 0 4 = (g : Int)) (hC : CC M 54 S) (s1 : ∀ j, j < 5 ∨ j = 9 → S 1 j = 0) (s2 : ∀ j, j = 5 ∨ j = 6 ∨ j = 7 → S 1 j = -1) (rd : RD M N g) (lw : LW M N g) (tp : TPR M N) (fa : M 0 11 = N 88 4 ∧ M 0 12 = N 88 5) (wd : WDR M N) (m63 : M 63 7 = -1) (sp : ∀ r : Nat, r < 5 → (0 ≤ M 11 r ∧ M 11 r ≤ 600) ∧ (0 ≤ M 34 r ∧ M 34 r ≤ 600)) : ∃ M' N' H' LV' S', f_X11_takeSpare M = some M' ∧ f_X12_keepText N = some N' ∧ BA M' N' g H' LV' S' ∧ RX M' N' g H' S' ∧ M' 0 3 = (g : Int) ∧ M' g = M g ∧ (∀ a, 88 ≤ a → M' a = M a) ∧ ∀ a, a < 88 → N' a = N a := by
  obtain ⟨M1, e1, ⟨k1, k2, k3, ⟨k4, k5⟩, k6⟩, cc, fr, fr0⟩ := c_take hh hg m03 m04 hC
  have b106 : ∀ l, l < 3 → N 106 (3 + l) = 0 ∨ N 106 (3 + l) = 1 := fun l hl => by
    obtain ⟨Ko, Vo, Ao, Bo, _, lt⟩ := lw
    rcases lt l hl with u | u
    · exact Or.inl u.1
    · exact Or.inr u.1
  obtain ⟨N1, e2, ⟨⟨n1, n2, n3, n4, n5⟩, cp, ⟨b1, b2, ⟨b3, b4, b5, b6, b7, b8, b9⟩, b10, b11, b12, b13, b14⟩⟩, fn⟩ := m_keepT b106
  obtain ⟨D0, l0⟩ := lw.lp (l := 0) (by decide)
  obtain ⟨D1, l1⟩ := lw.lp (l := 1) (by decide)
  obtain ⟨D2, l2⟩ := lw.lp (l := 2) (by decide)
  have LPs : ∀ w, w < 3 → LPD M N g w (if w = 0 then D0 else if w = 1 then D1 else D2) := fun w hw => by
    have : w = 0 ∨ w = 1 ∨ w = 2 := by omega
    rcases this with rfl | rfl | rfl
    · exact l0
    · exact l1
    · exact l2
  have LPo : ∀ w : Nat, (if w = 0 then D0 else if w = 1 then D1 else D2) = none ∨ ∃ (st : Nat) (K V A B : List Int), (if w = 0 then D0 else if w = 1 then D1 else D2) = some (K, V) ∧ OKK st K V A B := fun w => by
    by_cases q : w = 0
    · rw [if_pos q]; exact l0.ok
    · rw [if_neg q]
      by_cases r : w = 1
      · rw [if_pos r]; exact l1.ok
      · rw [if_neg r]; exact l2.ok
  obtain ⟨⟨R1, _⟩, ⟨R2, R2a, R2b⟩, ⟨R3, R3a, R3b⟩, ⟨R4, R4a, R4b⟩, ⟨R5, R5a, R5b⟩, R6, ⟨⟨R7, R7a, R7b⟩, ⟨R8, R8a, R8b, R8c⟩, ⟨R9, R9a, R9b⟩⟩, R10, R11, R12, R13⟩ := id rd
  have mg : ∀ k, k < 23 → M1 (g + k) = M (g + k) := fun k hk => fr (g + k) (by omega) (by omega) (by omega) (by omega)
  have l7 : M (g + 12) 7 = N 88 21 := by
    obtain ⟨Ko, Vo, Ao, Bo, wb, _⟩ := lw
    rw [wb.1.2.1, wb.2.2.1.1]
  have r3 : ∀ r : Nat, r < 5 → 0 ≤ M (g + 3) r ∧ M (g + 3) r ≤ 600 := fun r hr => by
    have q := sp r hr
    rcases hg with e | e
    · subst e; exact q.1
    · subst e; exact q.2
  have hok : HOK (fun k => M (g + k)) := ⟨⟨R2a, R2b⟩, ⟨R3a, R3b⟩, ⟨R4a, R4b⟩, ⟨R5a, R5b⟩, ⟨R7a, R7b⟩, ⟨R8a, R8b, R8c⟩, ⟨R9a, R9b⟩, r3, fun r hr => ⟨(R10 r hr).2.2.1.1, (R10 r hr).2.2.1.2, (R10 r hr).2.2.2.1, (R10 r hr).2.2.2.2⟩, fun p hp => by
    obtain ⟨_, ⟨u1, u2⟩, ⟨u3, u4⟩, ⟨u5, u6⟩, u7, u8⟩ := R11 p hp
    exact ⟨u1, u2, u3, u4, u5, u6, u7, u8⟩, fun s hs => (R12 s hs).2, fun s hs => (R13 s hs).2⟩
  have q0 : ∀ j, (j = 2 ∨ j = 5 ∨ j = 13 ∨ j = 14 ∨ j = 15 ∨ j = 16 ∨ j = 17) → bgS (fun k => M (g + k)) S g 0 j = 0 := fun j hj => by unfold bgS; rw [if_pos rfl, if_neg (by omega), if_neg (by omega), if_neg (by omega), if_pos hj]
  have q1 : bgS (fun k => M (g + k)) S g 0 1 = (g : Int) := rfl
  have q3 : bgS (fun k => M (g + k)) S g 0 3 = M g 9 := rfl
  have q4 : bgS (fun k => M (g + k)) S g 0 4 = M g 10 := rfl
  have q5 : ∀ k j, (k = 2 ∨ k = 4 ∨ k = 5) ∧ j < 5 → bgS (fun k => M (g + k)) S g k j = 0 := fun k j hk => by unfold bgS; rw [if_neg (by omega), if_pos hk]
  have qw : ∀ j, j < 30 → bgS (fun k => M (g + k)) S g 3 j = M (g + 3) (j % 5) := fun j hj => by unfold bgS; rw [if_neg (by decide), if_neg (by omega), if_pos ⟨rfl, hj⟩]
  have q6 : ∀ k j, (k = 6 ∨ k = 7) ∧ j < 24 → bgS (fun k => M (g + k)) S g k j = 0 := fun k j hk => by unfold bgS; rw [if_neg (by omega), if_neg (by omega), if_neg (by omega), if_pos hk]
  have qt : ∀ j, bgS (fun k => M (g + k)) S g 1 j = S 1 j := fun j => by unfold bgS; rw [if_neg (by decide), if_neg (by omega), if_neg (by omega), if_neg (by omega)]
  generalize bgS (fun k => M (g + k)) S g = G at cc q0 q1 q3 q4 q5 qw q6 qt
  have so : SOK (fun k => M (g + k)) G ∧ SP G := by
    unfold SOK SP
    rw [q0 2 (by decide), q0 5 (by decide), q0 13 (by decide), q0 14 (by decide), q0 15 (by decide), q0 16 (by decide), q0 17 (by decide), q3, q4, qt 7, s2 7 (by decide)]
    refine ⟨⟨by decide, ⟨R7a, R7b⟩, ⟨R8a, R8b, R8c⟩, by decide, by decide, by decide, by decide, ?_, ?_, ?_, ⟨r0, r0⟩, Or.inl rfl⟩, by decide, by decide⟩
    · intro j hj; rw [q5 2 j ⟨by decide, hj⟩]; exact Or.inl rfl
    · intro j hj; rw [qw j hj]; exact r3 _ (by omega)
    · intro j hj; rw [q5 4 j ⟨by decide, hj⟩, q5 5 j ⟨by decide, hj⟩]; exact ⟨r0, r0⟩
  refine ⟨M1, N1, fun k => M (g + k), fun w nm => lvo (if w = 0 then D0 else if w = 1 then D1 else D2) nm, G, e1, e2, ⟨⟨hg, k1, fun k hk _ _ => mg k hk, ?_, cc⟩, ⟨?_, ?_, ?_⟩, ⟨hok, fun w a b hab => lvo_c _ hab, fun w a v hv => lvo_r (LPo w) hv, so.1, so.2, q1⟩, fun j hj => (qt j).trans (s1 j hj), fun j hj => (qt j).trans (s2 j hj), by rw [q0 2 (by decide)]; decide⟩, ⟨?_, ?_, ?_, ?_, ⟨?_, ?_, ?_⟩, ?_, ?_⟩, k1, ?_, ?_, ?_⟩
  · intro m hm w hw nm
    exact (LPs w hw).cl hw (fun k x y => (hm k x y).trans (mg k (by omega))) nm
  · refine ⟨⟨?_, ?_, ?_, ?_, ?_, ?_, ?_, ?_⟩, fun r hr => ?_, fun p hp => ?_, fun s hs => ?_, fun s hs => ?_⟩
    · rw [n1]; exact R2.symm
    · rw [n2]; exact R3.symm
    · rw [n3]; exact R4.symm
    · rw [n4]; exact R5.symm
    · rw [n5]; exact l7.symm
    · rw [cp 92 0 (by decide) (by decide) (by decide)]; exact R7
    · rw [cp 92 1 (by decide) (by decide) (by decide)]; exact R8
    · rw [cp 92 2 (by decide) (by decide) (by decide)]; exact R9
    · have hr' : (r : Int) < M (g + 1) 0 := hr
      have r5 : r < 5 := by omega
      rw [cp 93 r (by decide) (by decide) r5, cp 94 r (by decide) (by decide) r5, cp 95 r (by decide) (by decide) r5, cp 96 r (by decide) (by decide) r5]
      exact (R10 r hr).1
    · have hr' : (p : Int) < M (g + 6) 0 := hp
      have r5 : p < 5 := by omega
      rw [cp 97 p (by decide) (by decide) r5, cp 98 p (by decide) (by decide) r5, cp 99 p (by decide) (by decide) r5, cp 100 p (by decide) (by decide) r5, cp 101 p (by decide) (by decide) r5]
      exact (R11 p hp).1
    · have hr' : (s : Int) < M g 3 := hs
      have r5 : s < 4 := by omega
      rw [cp 102 s (by decide) (by decide) r5, cp 103 s (by decide) (by decide) r5, cp 104 s (by decide) (by decide) r5]
      exact (R12 s hs).1
    · have hr' : (s : Int) < M g 7 := hs
      have r5 : s < 8 := by omega
      rw [cp 105 s (by decide) (by decide) r5]
      exact (R13 s hs).1
  · intro n hn w hw nm
    refine (LPs w hw).ml hw (fun a j ha hj => ?_) (fun a j ha hj => ?_) hn nm
    · have e : kk a = 3 := by unfold kk; rw [if_pos (Or.inr ha)]
      rw [cp a j (by omega) (by omega) (by rw [e]; exact hj), e]
    · have e : kk a = 64 := by unfold kk; rw [if_neg (by omega), if_neg (by omega), if_neg (by omega), if_neg (by omega)]
      rw [cp a j (by omega) (by omega) (by rw [e]; exact hj), e]
  · refine ⟨⟨?_, ?_, ?_, ?_, ?_, ?_, ?_⟩, fun p hp => ?_, fun r hr => ?_, fun j hj => ?_⟩
    · rw [b9, q0 2 (by decide)]
    · rw [b3, q3]; exact R7
    · rw [b4, q4]; exact R8
    · rw [b5, q0 5 (by decide)]
    · rw [b6, q0 13 (by decide)]
    · rw [b7, q0 14 (by decide)]
    · rw [b8, q0 15 (by decide)]
    · obtain ⟨u1, u2, u3⟩ := b2 p hp
      rw [u1, u2, u3, q5 2 p ⟨by decide, hp⟩, q5 5 p ⟨by decide, hp⟩, q5 4 p ⟨by decide, hp⟩]
      exact ⟨rfl, rfl, rfl⟩
    · have hr' : (r : Int) < M (g + 1) 0 := hr
      have r5 : r < 5 := by omega
      have e94 := (R10 r hr).1.2.1
      refine ⟨?_, fun k hk => ?_⟩
      · rw [(b1 r r5).1, qw r (by omega), e94]
        congr 1
        omega
      · rw [(b1 r r5).2 k hk, qw _ (by omega), e94]
        congr 1
        omega
    · rw [(b10 j hj).1, (b10 j hj).2, q6 6 j ⟨by decide, hj⟩, q6 7 j ⟨by decide, hj⟩]
      exact ⟨rfl, rfl⟩
  · obtain ⟨⟨t1, t2, t3⟩, t4⟩ := tp
    rw [show TPR M1 N1 ↔ TPR M1 N1 from Iff.rfl]
    refine ⟨⟨?_, ?_, ?_⟩, fun j hj => ?_⟩
    · rw [fr0 1 (by decide) (by decide) (by decide), fn 88 1 (by decide) (by decide)]; exact t1
    · rw [fr0 1 (by decide) (by decide) (by decide)]; exact t2
    · rw [fr0 1 (by decide) (by decide) (by decide)]; exact t3
    · rw [fr 1 (by decide) (by decide) (by decide) (by decide), fn 89 j (by decide) (by omega)]; exact t4 j hj
  · rw [fr0 11 (by decide) (by decide) (by decide), fr0 12 (by decide) (by decide) (by decide), fn 88 4 (by decide) (by decide), fn 88 5 (by decide) (by decide)]
    exact fa
  · refine ⟨⟨?_, ?_, ?_⟩, ⟨?_, ?_, ?_⟩, fun k hk => absurd hk (by rw [k4]; omega)⟩
    · rw [k4, b11]
    · rw [k4]; decide
    · rw [k4]; decide
    · rw [k5, b12]
    · rw [k5]; decide
    · rw [k5, k4]; decide
  · refine ⟨⟨?_, ?_, ?_⟩, fun k hk => absurd hk (by rw [k6]; omega)⟩
    · rw [k6, b13]
    · rw [k6]; decide
    · rw [k6]; decide
  · rw [k3, b14]; decide
  · rw [fr 63 (by decide) (by decide) (by decide) (by decide)]; exact m63
  · rw [k3]; intro z; exact absurd z (by decide)
  · unfold WDR at wd ⊢
    refine ⟨fun j hj => ?_, fun j hj => ?_⟩
    · rw [fr 4 (by decide) (by decide) (by decide) (by decide)]; exact wd.1 j hj
    · rw [fn 90 j (by decide) (by omega)]; exact wd.2 j hj
  · refine ⟨by rw [k2]; omega, fun r hr => ?_⟩
    rw [fr 11 (by decide) (by decide) (by decide) (by decide), fr 34 (by decide) (by decide) (by decide) (by decide)]
    exact sp r hr
  · exact mg 0 (by decide)
  · intro a ha
    exact fr a (by omega) (by omega) (by omega) (by omega)
  · intro a ha
    exact funext fun j => fn a j (by omega) (by omega)
end TKEEP
