section PAIR
variable {M N H S B T : MM} {LV : LVT} {h : Nat} {fl : Prop}
theorem aStep0 (h9 : S 1 9 = 0) : aStep H LV S = aHour H LV (aOut H (S 0 2)) S := by
  unfold aStep aO aSeed
  rw [if_pos h9, if_pos h9]
/-- what stays true along the hours of a trial -/
def TA (H S B : MM) : Prop := SOK H S ∧ SP S ∧ S 1 9 = 0 ∧ (S 1 6 = -1 ∨ (S 1 0 ≠ 0 ∧ S 1 1 ≠ 0)) ∧ (0 ≤ B 0 13 ∧ S 0 13 + B 0 13 ≤ 99 * S 0 2)
theorem TA.step (hHo : HOK H) (hA : TA H S B) (ht : S 0 2 < 20000) : TA H (aStep H LV S) B ∧ aStep H LV S 0 2 = S 0 2 + 1 ∧ (∀ j, aStep H LV S 1 j = S 1 j) ∧ aStep H LV S 0 1 = S 0 1 := by
  obtain ⟨h1, h2, h3, h4, h5⟩ := hA
  rw [aStep0 h3]
  have g := SOK_h (LV := LV) (o := aOut H (S 0 2)) hHo h1 h2 ht
  have g1 : ∀ j, aHour H LV (aOut H (S 0 2)) S 1 j = S 1 j := fun j => ah_1
  have g2 := ah_t (H := H) (LV := LV) (o := aOut H (S 0 2)) (S := S)
  refine ⟨⟨g.1, g.2, by rw [g1]; exact h3, by rw [g1, g1, g1]; exact h4, h5.1, ?_⟩, g2, g1, ah_0 (by decide)⟩
  rw [g2, ah_13]
  have hpr := hHo.2.2.2.2.2.2.1
  have := ite_r (c := aOn H (upM S 0 6 (aOut H (S 0 2)))) hpr ⟨by decide, by decide⟩
  generalize (if aOn H (upM S 0 6 (aOut H (S 0 2))) then H 0 11 else 0) = u at *
  omega
theorem TA.run (hHo : HOK H) (hA : TA H S B) : ∀ n : Nat, S 0 2 + n ≤ 20000 → TA H (aRun H LV S n) B ∧ aRun H LV S n 0 2 = S 0 2 + n ∧ (∀ j, aRun H LV S n 1 j = S 1 j) ∧ aRun H LV S n 0 1 = S 0 1
  | 0, _ => ⟨hA, by show S 0 2 = S 0 2 + (0 : Int); omega, fun _ => rfl, rfl⟩
  | n + 1, hn => by
    obtain ⟨i1, i2, i3, i4⟩ := TA.run hHo hA n (by omega)
    obtain ⟨j1, j2, j3, j4⟩ := TA.step (LV := LV) hHo i1 (by omega)
    refine ⟨j1, ?_, fun j => (j3 j).trans (i3 j), j4.trans i4⟩
    show aStep H LV (aRun H LV S n) 0 2 = _
    omega
theorem m_step (hH : HM N H) (hHo : HOK H) (hL : ML N LV) (hLc : LVc LV) (hLr : LVr LV) (hC : CM N H S B 1 fl) (hA : TA H S B) (hs : N 88 77 = 0) (ht : S 0 2 < 20000) : ∃ N', f_X12_goOn N 1 = some N' ∧ CM N' H (aStep H LV S) B 1 fl ∧ FM 1 N' N := by
  obtain ⟨h1, h2, h3, h4, h5⟩ := hA
  rw [aStep0 h3]
  have hor := aOut_r hHo (S 0 2)
  exact m_goOn (b := 1) hH hHo hC h1 h2 h5 hL hLc hLr (by decide) (by rw [hs]; decide) (by rw [hs, Int.add_zero, cl_in hor]) h4 ht
theorem m_many (hH : HM N H) (hHo : HOK H) (hL : ML N LV) (hLc : LVc LV) (hLr : LVr LV) (hC : CM N H S B 1 fl) (hA : TA H S B) (hs : N 88 77 = 0) {n : Nat} (hn : S 0 2 + n ≤ 20000) (hn2 : n < 999999) : ∃ N', f_X12_goMany N (n : Int) = some N' ∧ (CM N' H (aRun H LV S n) B 1 fl ∧ FM 1 N' N) := by
  unfold f_X12_goMany
  refine lp_cnt n (fun k m => CM m H (aRun H LV S k) B 1 fl ∧ FM 1 m N) _ hn2 ?_ ?_ _ ⟨hC, FM.rf⟩
  · rintro k m hk ⟨c, f⟩
    left
    obtain ⟨i1, i2, i3, i4⟩ := TA.run (LV := LV) hHo hA k (by omega)
    obtain ⟨m', e, c', f'⟩ := m_step (f.hm hH) hHo (f.ml hL) hLc hLr c i1 (by rw [f.sh]; exact hs) (by omega)
    have q : (k : Int) < (n : Int) := by omega
    have w1 : -2147483648 ≤ (k : Int) + 1 ∧ (k : Int) + 1 ≤ 2147483647 := by omega
    refine ⟨m', ?_, c', f'.tr f⟩
    dsimp only
    rw [if_pos q, e, Option.bind_some, w32_i w1.1 w1.2]
    rfl
  · rintro m ⟨c, f⟩
    refine ⟨m, ?_, c, f⟩
    have q : ¬ (n : Int) < (n : Int) := by omega
    dsimp only
    rw [if_neg q]
/-- the two systems at rest: one house, one course -/
def BA (M N : MM) (h : Nat) (H : MM) (LV : LVT) (S : MM) : Prop := ((h = 8 ∨ h = 31) ∧ M 0 3 = (h : Int) ∧ HC M h H ∧ CL M h LV ∧ CC M 54 S) ∧ (HM N H ∧ ML N LV ∧ CM0 N H S) ∧ (HOK H ∧ LVc LV ∧ LVr LV ∧ SOK H S ∧ SP S ∧ S 0 1 = (h : Int)) ∧ (∀ j, j < 5 ∨ j = 9 → S 1 j = 0) ∧ (∀ j, j = 5 ∨ j = 6 ∨ j = 7 → S 1 j = -1) ∧ S 0 2 ≤ 9900
theorem BA.t (g : BA M N h H LV S) : S 0 2 ≤ 9900 := g.2.2.2.2.2
theorem BA.q {M' N' : MM} (g : BA M N h H LV S) (f : Fr3 h 70 M' M) (f' : FQ N' N) : BA M' N' h H LV S := by
  obtain ⟨⟨a1, a2, a3, a4, a5⟩, ⟨b1, b2, b3⟩, c, d⟩ := g
  refine ⟨⟨a1, ?_, f.HC (by omega) a3, f.CL (by omega) a4, ?_⟩, ⟨f'.hm b1, f'.ml b2, f'.cm c.1.1.2 b3⟩, c, d⟩
  · rw [f 0 (by omega) (by omega) (by omega)]; exact a2
  · intro k hk
    rw [f _ (by omega) (by omega) (by omega)]
    exact a5 k hk
/-- and a trial on both sides -/
def TR (M N : MM) (h : Nat) (H B ST : MM) : Prop := CC M 70 ST ∧ CM N H ST B 1 True ∧ TA H ST B ∧ N 88 77 = 0 ∧ ST 0 1 = (h : Int)
theorem CC.self (c : Nat) : CC M c (fun k => M (c + k)) := fun _ _ => rfl
theorem q_lay (g : BA M N h H LV S) : ∃ N', f_X12_layTried N = some N' ∧ (∀ T, CM N' H (aTry S T) S 1 True) ∧ N' 88 77 = 0 ∧ FQ N' N := by
  obtain ⟨⟨a1, a2, a3, a4, a5⟩, ⟨b1, b2, b3⟩, ⟨c1, c2, c3, c4, c5, c6⟩, d1, d2⟩ := g
  obtain ⟨⟨k1, k2, k3, k4, k5, k6, k7⟩, l2, l3, l4⟩ := b3
  have x8 := c4.2.2.2.2.2.2.2.1
  have x4 := c4.2.2.2.1
  have x10 := c4.2.2.2.2.2.2.2.2.2.1
  have x11 := c4.2.2.2.2.2.2.2.2.2.2.1
  have h5 := c1.1
  obtain ⟨N', e, ⟨p1, p2, p3, p4, p5⟩, f, _⟩ := m_lay (N := N) (fun p hp => by rw [(l2 p hp).1]; exact x8 p hp) (by rw [k4]; exact x4)
  refine ⟨N', e, fun T => ?_, by rw [p1 77 (by decide) (by decide)]; rfl, f⟩
  refine ⟨⟨?_, ?_, ?_, ?_, ?_, ?_, ?_⟩, ?_, ?_, ?_, fun z => absurd z (by decide), ?_, ?_⟩
  · rw [p2 127 (by decide) (by decide), at_0 (by decide)]; exact k1
  · rw [p2 121 (by decide) (by decide), at_0 (by decide)]; exact k2
  · rw [p2 122 (by decide) (by decide), at_0 (by decide)]; exact k3
  · rw [p2 123 (by decide) (by decide), at_0 (by decide)]; exact k4
  · rw [p2 124 (by decide) (by decide), at_z (by decide), Int.zero_add]; exact k5
  · rw [p2 125 (by decide) (by decide), at_0 (by decide)]; exact k6
  · rw [p2 126 (by decide) (by decide), at_z (by decide), Int.zero_add, w32_id x11.1]; exact k7
  · intro p hp
    obtain ⟨m1, m2, m3⟩ := p5 p hp
    obtain ⟨o1, o2, o3⟩ := l2 p hp
    refine ⟨?_, ?_⟩
    · show N' 120 (5 + p) = _
      rw [m3, at_2 hp]; exact o1
    · show N' 119 (5 + p) = _
      rw [m2, at_5 hp, Int.zero_add, w32_id (x10 p hp).2]; exact o2
  · intro r hr
    refine ⟨?_, fun k hk => ?_⟩
    · show N' 116 (5 + r) = _
      rw [p3 r (by omega), at_3 (by omega)]; exact (l3 r hr).1
    · show N' 117 (30 + 6 * r + k) = _
      rw [Nat.add_assoc, p4 (6 * r + k) (by omega), at_3 (by omega)]; exact (l3 r hr).2 k hk
  · intro _ p hp
    obtain ⟨m1, m2, m3⟩ := p5 p hp
    obtain ⟨o1, o2, o3⟩ := l2 p hp
    show N' 118 (5 + p) = _
    rw [m1, at_4 hp, Int.zero_add, w32_id (x10 p hp).1]; exact o3
  · intro _
    rw [p1 78 (by decide) (by decide), p1 79 (by decide) (by decide), at_z (by decide), at_z (by decide)]
    exact ⟨rfl, rfl⟩
  · unfold TM
    rw [p1 69 (by decide) (by decide), p1 70 (by decide) (by decide), p1 71 (by decide) (by decide), p1 72 (by decide) (by decide), p1 73 (by decide) (by decide), p1 74 (by decide) (by decide), p1 75 (by decide) (by decide), at_1 (by decide), at_1 (by decide), at_1 (by decide), at_1 (by decide), at_m (by decide), at_m (by decide), at_m (by decide)]
    exact ⟨rfl, rfl, rfl, rfl, rfl, rfl, rfl, fun z => absurd rfl z⟩
theorem q_tryC (g : BA M N h H LV S) : ∃ M', f_X11_tryAsItGoes M = some M' ∧ CC M' 70 (aTry S (fun k => M (70 + k))) ∧ Fr3 h 70 M' M := by
  obtain ⟨⟨a1, a2, a3, a4, a5⟩, ⟨b1, b2, b3⟩, ⟨c1, c2, c3, c4, c5, c6⟩, d1, d2⟩ := g
  obtain ⟨M', e, c, f⟩ := c_try a5 (CC.self 70) a1 c6 c4.2.2.2.1 c4.2.2.2.2.2.2.2.1
  exact ⟨M', e, c, fun a x _ _ => f a (by omega)⟩
theorem TA_try (g : BA M N h H LV S) : TA H (aTry S T) S := by
  obtain ⟨_, _, ⟨c1, c2, c3, c4, c5, c6⟩, d1, d2⟩ := g
  obtain ⟨s1, s2⟩ := SOK_at (T := T) c4 c5
  refine ⟨s1, s2, at_1 (by decide), Or.inl (at_m (by decide)), c4.2.2.2.2.1.1, ?_⟩
  rw [at_z (by decide), Int.zero_add, at_0 (by decide)]
  exact c5.1
/-- both begin a trial -/
theorem q_try (g : BA M N h H LV S) : ∃ M' N' ST, f_X11_tryAsItGoes M = some M' ∧ f_X12_layTried N = some N' ∧ TR M' N' h H S ST ∧ Fr3 h 70 M' M ∧ FQ N' N ∧ ST 0 2 = S 0 2 := by
  obtain ⟨M', e1, c1, f1⟩ := q_tryC g
  obtain ⟨N', e2, c2, s2, f2⟩ := q_lay g
  exact ⟨M', N', _, e1, e2, ⟨c1, c2 _, TA_try g, s2, (at_0 (by decide)).trans g.2.2.1.2.2.2.2.2⟩, f1, f2, at_0 (by decide)⟩
/-- both go on -/
theorem q_run (g : BA M N h H LV S) {ST : MM} (t : TR M N h H B ST) {n : Nat} (hn : ST 0 2 + n ≤ 20000) : ∃ M' N', f_X0_run M 70 (n : Int) = some M' ∧ f_X12_goMany N (n : Int) = some N' ∧ TR M' N' h H B (aRun H LV ST n) ∧ Fr3 h 70 M' M ∧ FQ N' N := by
  obtain ⟨⟨a1, a2, a3, a4, a5⟩, ⟨b1, b2, b3⟩, ⟨c1, c2, c3, c4, c5, c6⟩, d1, d2⟩ := g
  obtain ⟨t1, t2, t3, t4, t5⟩ := t
  have h02 := t3.1.1
  obtain ⟨M', e, ⟨q1, q2, q3, q4⟩, q5, q6⟩ := c_run a1 (by decide) a3 c1 t1 t3.1 t3.2.1 t5 a4 c2 c3 (Or.inl t3.2.2.1) hn (by omega)
  obtain ⟨N', e', r1, r2⟩ := m_many b1 c1 b2 c2 c3 t2 t3 t4 hn (by omega)
  obtain ⟨i1, i2, i3, i4⟩ := TA.run (LV := LV) c1 t3 n hn
  exact ⟨M', N', e, e', ⟨q1, r1, i1, by rw [r2.sh]; exact t4, q5⟩, q4, r2.fq⟩
theorem q_one (g : BA M N h H LV S) {ST : MM} (t : TR M N h H B ST) (hn : ST 0 2 + 1 ≤ 20000) : ∃ M' N', f_X0_run M 70 1 = some M' ∧ f_X12_goOn N 1 = some N' ∧ TR M' N' h H B (aStep H LV ST) ∧ Fr3 h 70 M' M ∧ FQ N' N := by
  obtain ⟨⟨a1, a2, a3, a4, a5⟩, ⟨b1, b2, b3⟩, ⟨c1, c2, c3, c4, c5, c6⟩, d1, d2⟩ := g
  obtain ⟨t1, t2, t3, t4, t5⟩ := t
  obtain ⟨M', e, ⟨q1, q2, q3, q4⟩, q5, q6⟩ := c_run a1 (by decide) a3 c1 t1 t3.1 t3.2.1 t5 a4 c2 c3 (Or.inl t3.2.2.1) (n := 1) hn (by decide)
  obtain ⟨N', e', r1, r2⟩ := m_step b1 c1 b2 c2 c3 t2 t3 t4 (by omega)
  obtain ⟨j1, j2, j3, j4⟩ := TA.step (LV := LV) c1 t3 (by omega)
  exact ⟨M', N', e, e', ⟨q1, r1, j1, by rw [r2.sh]; exact t4, q5⟩, q4, r2.fq⟩
end PAIR
