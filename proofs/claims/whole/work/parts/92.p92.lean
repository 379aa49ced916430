section LATE
variable {M N H S B T ST : MM} {LV : LVT} {h : Nat}
def knw (M : MM) : Int := if M 78 1 = -1 then M 78 0 else M 78 1
theorem kn_C : f_X4_knownBy M = some (knw M) := by unfold f_X4_knownBy knw; split <;> rfl
theorem kn_M (x : LGR M N) : f_X12_knownBy N = some (knw M) := by
  obtain ⟨⟨a1, a2, a3⟩, ⟨b1, b2, b3⟩, _⟩ := x
  unfold f_X12_knownBy knw
  rw [← a1, ← b1]
  by_cases q : M 78 1 = -1
  · rw [if_pos q, if_pos (by omega)]
  · rw [if_neg q, if_neg (by omega)]
theorem kn_r (x : LGR M N) : 0 ≤ knw M ∧ knw M ≤ M 78 0 ∧ knw M ≤ 24 := by
  obtain ⟨⟨a1, a2, a3⟩, ⟨b1, b2, b3⟩, _⟩ := x
  unfold knw
  split <;> omega
/-- who is struck, on both sides -/
def PON (M N : MM) (n : Nat) : Prop := ∀ i : Nat, i < n → (M 83 i = 0 ∧ N 132 i = 1) ∨ (M 83 i = 1 ∧ N 132 i = 0)
def AGP (M : MM) (n : Nat) (hr st : Int) : Prop := ∀ i : Nat, i < n → M 79 i = hr → M 82 i = -1 → M 83 i = 0 → (if st < M 80 i then (0 : Int) else 1) = M 81 i
theorem wi2 {k : Int} (h : 0 ≤ k ∧ k < 1000) : w32 (k + 1) = k + 1 ∧ w32 (k - 1) = k - 1 ∧ w32 (k + (-1)) = k + (-1) ∧ w32 (3 * k) = 3 * k ∧ w32 (3 * k + 1) = 3 * k + 1 ∧ w32 (3 * k + 2) = 3 * k + 2 := by
  refine ⟨?_, ?_, ?_, ?_, ?_, ?_⟩ <;> exact w32_i (by omega) (by omega)
theorem c_kw {i : Nat} (hi : i < 24) : f_X4_isKnownWear M (i : Int) = some (b1 (M 82 i = -1 ∧ M 83 i = 0)) := by
  have z : 0 ≤ (i : Int) ∧ (i : Int) < 24 := ⟨by omega, by omega⟩
  unfold f_X4_isKnownWear b1
  rw [gd_t z, gd_t z, Int.toNat_natCast]
  by_cases q1 : M 82 i = -1
  · rw [if_pos q1]
    by_cases q2 : M 83 i = 0
    · rw [if_pos q2, if_pos ⟨q1, q2⟩]
    · rw [if_neg q2, if_neg (fun z => q2 z.2)]
  · rw [if_neg q1, if_neg (fun z => q1 z.1)]
theorem c_agrees {n : Nat} (hn : n ≤ 24) (hk : knw M = (n : Int)) (hr st : Int) : ∃ r, f_X4_agrees M hr st = some r ∧ ((r = 1 ∧ AGP M n hr st) ∨ (r = 0 ∧ ¬ AGP M n hr st)) := by
  unfold f_X4_agrees
  rw [kn_C, hk, Option.bind_some]
  refine lp_FU (fun x => ∃ k : Nat, k ≤ n ∧ x = (k : Int) ∧ AGP M k hr st) (fun x => 30 - x.toNat) _ ?_ 0 ⟨0, by omega, rfl, fun i hi => absurd hi (by omega)⟩ (show 30 - (0 : Int).toNat < 1000000 by decide)
  rintro _ ⟨k, k1, rfl, ka⟩
  by_cases q : k < n
  · have z : 0 ≤ (k : Int) ∧ (k : Int) < 24 := ⟨by omega, by omega⟩
    have qi : (k : Int) < (n : Int) := by omega
    have hm : 30 - ((k : Int) + 1).toNat < 30 - (k : Int).toNat := by omega
    have nxt : ((M 79 k = hr → M 82 k = -1 → M 83 k = 0 → (if st < M 80 k then (0 : Int) else 1) = M 81 k)) → AGP M (k + 1) hr st := fun hh i hi => by
      by_cases e : i = k
      · rw [e]; exact hh
      · exact ka i (by omega)
    have k1n : k + 1 ≤ n := q
    try dsimp +instances only
    rw [if_pos qi, gd_t z, Int.toNat_natCast, c_kw (by omega), Option.bind_some, gd_t z, wi1 (by omega), if_b1]
    by_cases c1 : M 79 k = hr
    · rw [if_pos c1]
      by_cases c2 : M 82 k = -1 ∧ M 83 k = 0
      · rw [if_pos c2, iteo, Option.bind_some, gd_t z]
        by_cases c3 : (if st < M 80 k then (0 : Int) else 1) = M 81 k
        · right
          rw [if_pos c3, bS_l]
          exact ⟨_, rfl, ⟨k + 1, k1n, rfl, nxt (fun _ _ _ => c3)⟩, hm⟩
        · left
          rw [if_neg c3, bS_r]
          exact ⟨_, rfl, Or.inr ⟨rfl, fun z => c3 (z k q c1 c2.1 c2.2)⟩⟩
      · right
        rw [if_neg c2, bS_l]
        exact ⟨_, rfl, ⟨k + 1, k1n, rfl, nxt (fun _ a b => absurd ⟨a, b⟩ c2)⟩, hm⟩
    · right
      rw [if_neg c1, bS_l]
      exact ⟨_, rfl, ⟨k + 1, k1n, rfl, nxt (fun a => absurd a c1)⟩, hm⟩
  · left
    have qi : ¬ (k : Int) < (n : Int) := by omega
    have e : k = n := by omega
    subst e
    try dsimp +instances only
    rw [if_neg qi]
    exact ⟨_, rfl, Or.inl ⟨rfl, ka⟩⟩
theorem m_isSo {n : Nat} (hn : n ≤ 24) (x : LGR M N) (hk : knw M = (n : Int)) (hp : PON M N n) {hr st : Int} (h1 : 1 ≤ hr) (hs : N 121 1 = st) : ∃ r, f_X12_isSo N hr = some r ∧ ((r = 1 ∧ AGP M n hr st) ∨ (r = 0 ∧ ¬ AGP M n hr st)) := by
  have kr := kn_r x
  have ek := kn_M x
  unfold f_X12_isSo
  rw [ek, hk]
  refine lp_FU (fun x => ∃ k : Nat, k ≤ n ∧ x = (k : Int) ∧ AGP M k hr st) (fun x => 30 - x.toNat) _ ?_ 0 ⟨0, by omega, rfl, fun i hi => absurd hi (by omega)⟩ (show 30 - (0 : Int).toNat < 1000000 by decide)
  rintro _ ⟨k, k1, rfl, ka⟩
  try dsimp +instances only
  rw [Option.bind_some]
  by_cases q : k < n
  · have z : 0 ≤ (k : Int) ∧ (k : Int) < 24 := ⟨by omega, by omega⟩
    have qi : (k : Int) < (n : Int) := by omega
    have hm : 30 - ((k : Int) + 1).toNat < 30 - (k : Int).toNat := by omega
    have nxt : ((M 79 k = hr → M 82 k = -1 → M 83 k = 0 → (if st < M 80 k then (0 : Int) else 1) = M 81 k)) → AGP M (k + 1) hr st := fun hh i hi => by
      by_cases e : i = k
      · rw [e]; exact hh
      · exact ka i (by omega)
    have k1n : k + 1 ≤ n := q
    obtain ⟨w1, _, _, w4, w5, w6⟩ := wi2 (k := (k : Int)) ⟨by omega, by omega⟩
    have z3 : 0 ≤ 3 * (k : Int) ∧ 3 * (k : Int) < 72 := by clear w1 w4 w5 w6; omega
    have z4 : 0 ≤ 3 * (k : Int) + 1 ∧ 3 * (k : Int) + 1 < 72 := by clear w1 w4 w5 w6; omega
    have z5 : 0 ≤ 3 * (k : Int) + 2 ∧ 3 * (k : Int) + 2 < 72 := by clear w1 w4 w5 w6; omega
    have t3 : (3 * (k : Int)).toNat = 3 * k := by clear w1 w4 w5 w6; omega
    have t4 : (3 * (k : Int) + 1).toNat = 3 * k + 1 := by clear w1 w4 w5 w6; omega
    have t5 : (3 * (k : Int) + 2).toNat = 3 * k + 2 := by clear w1 w4 w5 w6; omega
    rw [if_pos qi, gd_t z, Int.toNat_natCast, w4, gd_t z3, t3, w5, gd_t z4, t4, w6, t5, w1, hs]
    clear w1 w4 w5 w6
    have en := x.2.2 k (by omega)
    have ep := hp k q
    rcases ep with ⟨p1, p2⟩ | ⟨p1, p2⟩
    · rw [if_neg (show ¬ N 132 k = 0 by rw [p2]; decide)]
      rcases en with ⟨n1, ⟨n2, n3, n4⟩, n5, n6⟩ | ⟨n1, n2, n3⟩
      · rw [n2, n3, n4]
        by_cases c1 : M 79 k = hr
        · rw [if_pos c1, iteo, Option.bind_some, gd_t z5, iteo, Option.bind_some]
          have e81 : (if M 81 k = 1 then (1 : Int) else 0) = M 81 k := by split <;> omega
          rw [e81]
          by_cases c3 : (if st < M 80 k then (0 : Int) else 1) = M 81 k
          · right
            rw [if_pos c3, bS_l]
            exact ⟨_, rfl, ⟨k + 1, k1n, rfl, nxt (fun _ _ _ => c3)⟩, hm⟩
          · left
            rw [if_neg c3, bS_r]
            exact ⟨_, rfl, Or.inr ⟨rfl, fun z => c3 (z k q c1 n1 p1)⟩⟩
        · right
          rw [if_neg c1, bS_l]
          exact ⟨_, rfl, ⟨k + 1, k1n, rfl, nxt (fun a => absurd a c1)⟩, hm⟩
      · right
        rw [n2, if_neg (show ¬ (-1 : Int) = hr by omega), bS_l]
        exact ⟨_, rfl, ⟨k + 1, k1n, rfl, nxt (fun _ a => absurd a (by omega))⟩, hm⟩
    · right
      rw [if_pos p2, bS_l]
      exact ⟨_, rfl, ⟨k + 1, k1n, rfl, nxt (fun _ _ a => absurd a (by omega))⟩, hm⟩
  · left
    have qi : ¬ (k : Int) < (n : Int) := by omega
    have e : k = n := by omega
    subst e
    rw [if_neg qi]
    exact ⟨_, rfl, Or.inl ⟨rfl, ka⟩⟩
theorem c_longest {n : Nat} (hn : n ≤ 24) (x : LGR M N) (hk : knw M = (n : Int)) : ∃ L, f_X4_longestKnown M = some L ∧ ((0 ≤ L ∧ L ≤ 60) ∧ ∀ i : Nat, i < n → M 82 i = -1 → M 83 i = 0 → M 79 i ≤ L) := by
  have kr := kn_r x
  unfold f_X4_longestKnown
  rw [kn_C, hk, Option.bind_some]
  refine lp_FU (fun x => ∃ k : Nat, k ≤ n ∧ x.2 = (k : Int) ∧ (0 ≤ x.1 ∧ x.1 ≤ 60) ∧ ∀ i : Nat, i < k → M 82 i = -1 → M 83 i = 0 → M 79 i ≤ x.1) (fun x => 30 - x.2.toNat) _ ?_ (0, 0) ⟨0, by omega, rfl, by decide, fun i hi => absurd hi (by omega)⟩ (show 30 - (0 : Int).toNat < 1000000 by decide)
  rintro ⟨l, _⟩ ⟨k, k1, k2, k3, k4⟩
  dsimp only at k2 k3 k4
  subst k2
  try dsimp +instances only
  by_cases q : k < n
  · right
    have z : 0 ≤ (k : Int) ∧ (k : Int) < 24 := ⟨by omega, by omega⟩
    have qi : (k : Int) < (n : Int) := by omega
    have hm : 30 - ((k : Int) + 1).toNat < 30 - (k : Int).toNat := by omega
    rw [if_pos qi, c_kw (by omega), Option.bind_some, if_b1, gd_t z, bI_eq, Int.toNat_natCast, wi1 (by omega)]
    have en := x.2.2 k (by omega)
    by_cases c : M 82 k = -1 ∧ M 83 k = 0
    · rw [if_pos c, Option.bind_some]
      have e79 : 1 ≤ M 79 k ∧ M 79 k ≤ 60 := by
        rcases en with ⟨_, _, n5, _⟩ | ⟨n1, _, _⟩
        · exact n5
        · omega
      refine ⟨_, rfl, ⟨k + 1, q, rfl, ?_, ?_⟩, hm⟩
      · dsimp only; split <;> omega
      · intro i hi a b
        try dsimp +instances only
        by_cases e : i = k
        · subst e; split <;> omega
        · have := k4 i (by omega) a b
          split <;> omega
    · rw [if_neg c, Option.bind_some]
      refine ⟨_, rfl, ⟨k + 1, q, rfl, k3, ?_⟩, hm⟩
      intro i hi a b
      by_cases e : i = k
      · subst e; exact absurd ⟨a, b⟩ c
      · exact k4 i (by omega) a b
  · left
    have qi : ¬ (k : Int) < (n : Int) := by omega
    have e : k = n := by omega
    subst e
    rw [if_neg qi]
    exact ⟨_, rfl, k3, k4⟩
/-- one who may be so late, on both sides -/
theorem bg_TR (g : BA M N h H LV S) {p : Nat} (hp : (p : Int) < H 6 0) {l : Int} (hl : 0 ≤ l ∧ l ≤ 5) : ∃ M5 N4 s x2 x3 y1 y2, f_X0_begin M 70 h = some x2 ∧ f_X10_clear x2 71 = some x3 ∧ upM (upM x3 71 7 (p : Int)) 71 8 l = M5 ∧ f_X12_atFirst N 1 = some y1 ∧ f_X12_plainTried y1 = some y2 ∧ upM (upM y2 88 75 (p : Int)) 88 76 l = N4 ∧ TR M5 N4 h H (fun _ _ => 0) s ∧ s 0 2 = 0 ∧ Fr3 h 70 M5 M ∧ FQ N4 N ∧ N4 132 = N 132 := by
  obtain ⟨⟨a1, a2, a3, a4, a5⟩, ⟨b1, b2, b3⟩, ⟨c1, c2, c3, c4, c5, c6⟩, d1, d2⟩ := g
  have hHo := c1
  obtain ⟨x2, e1, cc1, f1⟩ := c_begin (c := 70) a1 (by decide) a3 (CC.self 70)
  obtain ⟨x3, e2, cc2, f2⟩ := c_clear cc1
  have e2 : f_X10_clear x2 71 = some x3 := e2
  obtain ⟨y1, e3, ⟨p1, p2, p3⟩, f3⟩ := m_first (N := N) (b := 1) (by decide)
  have e3 : f_X12_atFirst N 1 = some y1 := e3
  obtain ⟨y2, e4, p4, f4⟩ := m_plain (N := y1)
  obtain ⟨h5, h6, _, _, h9, h10, _, hW, _⟩ := hHo
  have cc3 := (cc2.up (k := 1) (i := 7) (v := (p : Int)) (by decide)).up (k := 1) (i := 8) (v := l) (by decide)
  have s0 : ∀ j, upM (upM (twS (bgS H (fun k => M (70 + k)) h)) 1 7 (p : Int)) 1 8 l 0 j = bgS H (fun k => M (70 + k)) h 0 j := fun j => by rw [up_na (by decide), up_na (by decide)]; unfold twS; rw [if_neg (by omega), if_neg (by omega)]
  have sk : ∀ k j, k ≠ 1 → upM (upM (twS (bgS H (fun k => M (70 + k)) h)) 1 7 (p : Int)) 1 8 l k j = bgS H (fun k => M (70 + k)) h k j := fun k j hk => by rw [up_na hk, up_na hk]; unfold twS; rw [if_neg (by omega), if_neg (by omega)]
  have z1 : ∀ j, j < 5 ∨ j = 9 → upM (upM (twS (bgS H (fun k => M (70 + k)) h)) 1 7 (p : Int)) 1 8 l 1 j = 0 := fun j hj => by rw [up_ni (by omega), up_ni (by omega)]; unfold twS; rw [if_pos ⟨rfl, hj⟩]
  have z2 : ∀ j, j = 5 ∨ j = 6 → upM (upM (twS (bgS H (fun k => M (70 + k)) h)) 1 7 (p : Int)) 1 8 l 1 j = -1 := fun j hj => by rw [up_ni (by omega), up_ni (by omega)]; unfold twS; rw [if_neg (by omega), if_pos (by omega)]
  have z7 : upM (upM (twS (bgS H (fun k => M (70 + k)) h)) 1 7 (p : Int)) 1 8 l 1 7 = (p : Int) := by rw [up_ni (by decide), upM_eq]
  have z8 : upM (upM (twS (bgS H (fun k => M (70 + k)) h)) 1 7 (p : Int)) 1 8 l 1 8 = l := upM_eq
  have q0 : ∀ j, (j = 2 ∨ j = 5 ∨ j = 13 ∨ j = 14 ∨ j = 15 ∨ j = 16 ∨ j = 17) → bgS H (fun k => M (70 + k)) h 0 j = 0 := fun j hj => by unfold bgS; rw [if_pos rfl, if_neg (by omega), if_neg (by omega), if_neg (by omega), if_pos hj]
  have q1 : bgS H (fun k => M (70 + k)) h 0 1 = (h : Int) := rfl
  have q3 : bgS H (fun k => M (70 + k)) h 0 3 = H 0 9 := rfl
  have q4 : bgS H (fun k => M (70 + k)) h 0 4 = H 0 10 := rfl
  have q5 : ∀ k j, (k = 2 ∨ k = 4 ∨ k = 5) ∧ j < 5 → bgS H (fun k => M (70 + k)) h k j = 0 := fun k j hk => by unfold bgS; rw [if_neg (by omega), if_pos hk]
  have qw : ∀ j, j < 30 → bgS H (fun k => M (70 + k)) h 3 j = H 3 (j % 5) := fun j hj => by unfold bgS; rw [if_neg (by decide), if_neg (by omega), if_pos ⟨rfl, hj⟩]
  generalize upM (upM (twS (bgS H (fun k => M (70 + k)) h)) 1 7 (p : Int)) 1 8 l = s at cc3 s0 sk z1 z2 z7 z8
  generalize bgS H (fun k => M (70 + k)) h = G at s0 sk q0 q1 q3 q4 q5 qw
  have so : SOK H s ∧ SP s := by
    unfold SOK SP
    simp only [s0]
    rw [q0 2 (by decide), q0 5 (by decide), q0 13 (by decide), q0 14 (by decide), q0 15 (by decide), q0 16 (by decide), q0 17 (by decide), q3, q4, z7, z8, z1 3 (by decide)]
    refine ⟨⟨by decide, h9, h10, by decide, by decide, by decide, by decide, ?_, ?_, ?_, ⟨r0, r0⟩, Or.inr ⟨hl.1, hl.2, rfl⟩⟩, by decide, by decide⟩
    · intro j hj; rw [sk 2 j (by decide), q5 2 j ⟨by decide, hj⟩]; exact Or.inl rfl
    · intro j hj; rw [sk 3 j (by decide), qw j hj]; exact hW _ (by omega)
    · intro j hj; rw [sk 4 j (by decide), sk 5 j (by decide), q5 4 j ⟨by decide, hj⟩, q5 5 j ⟨by decide, hj⟩]; exact ⟨r0, r0⟩
  have f5 : ∀ a j, a ≠ 88 → upM (upM y2 88 75 (p : Int)) 88 76 l a j = y1 a j := fun a j ha => by rw [up_na ha, up_na ha, f4 a j (fun z => ha z.1)]
  have w0 : w32 0 = 0 := w32_id r0
  refine ⟨_, _, s, x2, x3, y1, y2, e1, e2, rfl, e3, e4, rfl, ⟨cc3, ?_, ⟨so.1, so.2, z1 9 (by decide), Or.inl (z2 6 (by decide)), Int.le_refl _, ?_⟩, ?_, ?_⟩, ?_, ?_, ?_, ?_⟩
  · refine ⟨⟨?_, ?_, ?_, ?_, ?_, ?_, ?_⟩, ?_, ?_, ?_, fun z => absurd z (by decide), ?_, ?_⟩
    · rw [f5 _ _ (by decide), s0, q0 2 (by decide)]; exact p3.2.2.2.2.2.2
    · rw [f5 _ _ (by decide), s0, q3, p3.1]; exact b1.1.2.2.2.2.2.1
    · rw [f5 _ _ (by decide), s0, q4, p3.2.1]; exact b1.1.2.2.2.2.2.2.1
    · rw [f5 _ _ (by decide), s0, q0 5 (by decide)]; exact p3.2.2.1
    · rw [f5 _ _ (by decide), s0, q0 13 (by decide)]; exact p3.2.2.2.1
    · rw [f5 _ _ (by decide), s0, q0 14 (by decide)]; exact p3.2.2.2.2.1
    · rw [f5 _ _ (by decide), s0, q0 15 (by decide)]; exact p3.2.2.2.2.2.1.trans w0.symm
    · intro j hj
      obtain ⟨k1, k2, k3⟩ := p2 j hj
      rw [f5 _ _ (by decide), f5 _ _ (by decide), sk 2 j (by decide), sk 5 j (by decide), q5 2 j ⟨by decide, hj⟩, q5 5 j ⟨by decide, hj⟩]
      exact ⟨k3, k2.trans w0.symm⟩
    · intro r hr
      have r5 : r < 5 := by omega
      have e94 := (b1.2.1 r hr).2.1
      refine ⟨?_, fun k hk => ?_⟩
      · rw [f5 _ _ (by decide), sk 3 r (by decide), qw r (by omega), (p1 r r5).1, e94]
        congr 1
        omega
      · rw [f5 _ _ (by decide), sk 3 _ (by decide), qw _ (by omega), (p1 r r5).2 k hk, e94]
        congr 1
        omega
    · intro _ j hj
      rw [f5 _ _ (by decide), sk 4 j (by decide), q5 4 j ⟨by decide, hj⟩]
      exact (p2 j hj).1.trans w0.symm
    · intro _
      rw [up_ni (by decide), up_ni (by decide), up_ni (by decide), up_ni (by decide), p4 78 (by decide) (by decide), p4 79 (by decide) (by decide), s0, s0, q0 16 (by decide), q0 17 (by decide)]
      exact ⟨rfl, rfl⟩
    · unfold TM
      simp (disch := decide) only [up_ni, upM_eq]
      rw [p4 69 (by decide) (by decide), p4 70 (by decide) (by decide), p4 71 (by decide) (by decide), p4 72 (by decide) (by decide), p4 73 (by decide) (by decide), p4 74 (by decide) (by decide), z1 0 (by decide), z1 2 (by decide), z1 3 (by decide), z1 4 (by decide), z2 5 (by decide), z2 6 (by decide), z7, z8]
      exact ⟨rfl, rfl, rfl, rfl, rfl, rfl, rfl, fun _ => rfl⟩
  · rw [s0, s0, q0 13 (by decide), q0 2 (by decide)]; decide
  · rw [up_ni (by decide), up_ni (by decide), p4 77 (by decide) (by decide)]; rfl
  · rw [s0]; exact q1
  · rw [s0, q0 2 (by decide)]
  · intro a k1 k2 k3
    rw [up_row (by omega), up_row (by omega), f2 a (by omega), f1 a (by omega)]
  · intro a j hn
    unfold QS at hn
    rw [upM_ne a j (by omega), upM_ne a j (by omega), f4 a j (by omega)]
    exact f3 a j (fun z => hn (Or.inl (by unfold MS; omega)))
  · funext j
    rw [f5 132 j (by decide)]
    exact f3 132 j (by omega)
theorem q_oneF (g : BA M N h H LV S) {ST : MM} (t : TR M N h H B ST) (hn : ST 0 2 + 1 ≤ 20000) : ∃ M' N', f_X0_run M 70 1 = some M' ∧ f_X12_goOn N 1 = some N' ∧ TR M' N' h H B (aStep H LV ST) ∧ Fr3 h 70 M' M ∧ FM 1 N' N ∧ aStep H LV ST 0 2 = ST 0 2 + 1 := by
  obtain ⟨M', N', e1, e2, t', f1, f2, j2, _⟩ := q_oneT g t hn
  obtain ⟨N'', e3, _, f3⟩ := m_step g.2.1.1 g.2.2.1.1 g.2.1.2.1 g.2.2.1.2.1 g.2.2.1.2.2.1 t.2.1 t.2.2.1 t.2.2.2.1 (by omega)
  rw [e2] at e3
  cases e3
  exact ⟨M', N', e1, e2, t', f1, f3, j2⟩
theorem LGR.cg {M' N' : MM} (x : LGR M N) (h1 : ∀ a, 78 ≤ a → a ≤ 82 → M' a = M a) (h2 : N' 131 = N 131) (h3 : N' 88 80 = N 88 80 ∧ N' 88 81 = N 88 81) : LGR M' N' := by
  unfold LGR at *
  simp (disch := decide) only [h1, h2, h3.1, h3.2]
  exact x
theorem q_fits (g : BA M N h H LV S) (x : LGR M N) {n : Nat} (hn : n ≤ 24) (hk : knw M = (n : Int)) (hpo : PON M N n) {p : Nat} (hp : (p : Int) < H 6 0) {l : Int} (hl : 0 ≤ l ∧ l ≤ 5) : ∃ r M' N', f_X11_isWornBy M (p : Int) l = some (r, M') ∧ f_X12_fits N (p : Int) l = some (r, N') ∧ (r = 0 ∨ r = 1) ∧ Fr3 h 70 M' M ∧ FQ N' N ∧ N' 132 = N 132 := by
  obtain ⟨M5, N4, s, x2, x3, y1, y2, e1, e2, e3, e4, e5, e6, t0, s0, f0, f1, f2⟩ := bg_TR g hp hl
  have hh := g.1.1
  have lg : ∀ m m' : MM, Fr3 h 70 m M → FQ m' N → LGR m m' := fun m m' a b => x.cg (fun k k1 k2 => a k (by omega) (by omega) (by omega)) (funext fun j => b 131 j (by unfold QS MS; omega)) ⟨b 88 80 (by unfold QS MS; omega), b 88 81 (by unfold QS MS; omega)⟩
  have kw : ∀ m : MM, Fr3 h 70 m M → knw m = (n : Int) := fun m a => by
    unfold knw
    rw [a 78 (by omega) (by omega) (by omega)]
    exact hk
  have po : ∀ m m' : MM, Fr3 h 70 m M → m' 132 = N 132 → PON m m' n := fun m m' a b => by
    unfold PON
    rw [a 83 (by omega) (by omega) (by omega), b]
    exact hpo
  have ag : ∀ (m : MM) (hr st : Int), Fr3 h 70 m M → (AGP m n hr st ↔ AGP M n hr st) := fun m hr st a => by
    unfold AGP
    rw [a 79 (by omega) (by omega) (by omega), a 80 (by omega) (by omega) (by omega), a 81 (by omega) (by omega) (by omega), a 82 (by omega) (by omega) (by omega), a 83 (by omega) (by omega) (by omega)]
  obtain ⟨L, eL, hL, hLm⟩ := c_longest hn (lg M5 N f0 FQ.rf) (kw M5 f0)
  have hLm : ∀ i : Nat, i < n → M 82 i = -1 → M 83 i = 0 → M 79 i ≤ L := fun i hi => by
    have := hLm i hi
    rw [f0 79 (by omega) (by omega) (by omega), f0 82 (by omega) (by omega) (by omega), f0 83 (by omega) (by omega) (by omega)] at this
    exact this
  have vac : ∀ hr st : Int, L < hr → AGP M n hr st := fun hr st hlt i hi a b c => absurd (hLm i hi b c) (by omega)
  unfold f_X11_isWornBy f_X12_fits
  rw [g.1.2.1, gH_h hh, e1, Option.bind_some, e2, Option.bind_some, bM_eq, bM_eq, e3, eL, Option.bind_some, e4, Option.bind_some, e5, Option.bind_some, bM_eq, bM_eq, e6]
  clear e1 e2 e3 e4 e5 e6 eL
  have hkey := lp_tR (f := (fun x7 : Int × MM => if L < x7.1 then (some (Sum.inr (1, x7.2))) else (f_X0_run x7.2 70 1).bind fun x9 => (f_X4_agrees x9 x7.1 (x9 70 3)).bind fun x10 => if x10 = 0 then (some (Sum.inr (0, x9))) else some (Sum.inl (w32 (x7.1 + 1), x9)))) (g := (fun x5 : Int × MM => if 60 < x5.1 then (some (Sum.inr (1, x5.2))) else (f_X12_goOn x5.2 1).bind fun x7 => (f_X12_isSo x7 x5.1).bind fun x8 => if x8 = 0 then (some (Sum.inr (0, x7))) else some (Sum.inl (w32 (x5.1 + 1), x7)))) (fun x x' => x'.1 = x.1 ∧ (1 ≤ x.1 ∧ x.1 ≤ L + 1) ∧ ∃ s, TR x.2 x'.2 h H (fun _ _ => 0) s ∧ s 0 2 = x.1 - 1 ∧ Fr3 h 70 x.2 M ∧ FQ x'.2 N ∧ x'.2 132 = N 132) (fun x => (61 - x.1).toNat) (fun (y y' : Int × MM) => y'.1 = y.1 ∧ (y.1 = 0 ∨ y.1 = 1) ∧ Fr3 h 70 y.2 M ∧ FQ y'.2 N ∧ y'.2 132 = N 132) ?_ (1, M5) (1, N4) ⟨rfl, by show (1 : Int) ≤ 1 ∧ 1 ≤ L + 1; omega, s, t0, s0, f0, f1, f2⟩ (show (61 - (1 : Int)).toNat + 100 < 1000000 by decide)
  · obtain ⟨y, y', k1, k2, k3, k4, k5, k6, k7⟩ := hkey
    exact ⟨y.1, y.2, y'.2, k1, by rw [k2, ← k3], k4, k5, k6, k7⟩
  rintro ⟨k, m⟩ ⟨k', m'⟩ ⟨j1, j2, s, ts, js, jf, jf', j132⟩
  dsimp only at j1 j2 ts js jf jf' j132
  subst j1
  have gg := g.q jf jf'
  try dsimp +instances only
  by_cases q : L < k'
  · left
    rw [if_pos q]
    refine ⟨_, rfl, fun fuel hf => ?_⟩
    -- the second system goes on alone to 60
    have hkey := lp_ok (step := (fun x5 : Int × MM => if 60 < x5.1 then (some (Sum.inr (1, x5.2))) else (f_X12_goOn x5.2 1).bind fun x7 => (f_X12_isSo x7 x5.1).bind fun x8 => if x8 = 0 then (some (Sum.inr (0, x7))) else some (Sum.inl (w32 (x5.1 + 1), x7)))) (fun x => (L < x.1 ∧ x.1 ≤ 61) ∧ ∃ s, CM x.2 H s (fun _ _ => 0) 1 True ∧ TA H s (fun _ _ => 0) ∧ x.2 88 77 = 0 ∧ s 0 2 = x.1 - 1 ∧ FQ x.2 N ∧ x.2 132 = N 132) (fun x => (61 - x.1).toNat) (fun y' : Int × MM => y'.1 = 1 ∧ FQ y'.2 N ∧ y'.2 132 = N 132) ?_ fuel (k', m') ⟨by show L < k' ∧ k' ≤ 61; omega, s, ts.2.1, ts.2.2.1, ts.2.2.2.1, js, jf', j132⟩ (show (61 - k').toNat < fuel by omega)
    · obtain ⟨y', e, r1, r2, r3⟩ := hkey
      exact ⟨y', e, r1, Or.inr rfl, jf, r2, r3⟩
    rintro ⟨t, w⟩ ⟨u1, s', u2, u3, u4, u5, u6, u7⟩
    dsimp only at u1 u2 u4 u5 u6 u7
    try dsimp +instances only
    by_cases q60 : 60 < t
    · left
      rw [if_pos q60]
      exact ⟨_, rfl, rfl, u6, u7⟩
    · right
      obtain ⟨w2, v1, v2, v3⟩ := m_step (u6.hm g.2.1.1) g.2.2.1.1 (u6.ml g.2.1.2.1) g.2.2.1.2.1 g.2.2.1.2.2.1 u2 u3 u4 (by omega)
      obtain ⟨v4, v5, _, _⟩ := TA.step (LV := LV) g.2.2.1.1 u3 (by omega)
      have v6 : w2 132 = N 132 := by rw [← u7]; exact funext fun j => v3 132 j (by unfold MS; omega)
      have v7 : FQ w2 N := v3.fq.tr u6
      obtain ⟨r, v8, v9⟩ := m_isSo hn (lg M w2 Fr3.rf v7) hk (po M w2 Fr3.rf v6) (hr := t) (by omega) rfl
      have vr : r = 1 := by
        rcases v9 with v9 | v9
        · exact v9.1
        · exact absurd (vac t (w2 121 1) u1.1) v9.2
      have wt : -2147483648 ≤ t + 1 ∧ t + 1 ≤ 2147483647 := by omega
      rw [if_neg q60, v1, Option.bind_some, v8, Option.bind_some, vr, if_neg (by decide), w32_i wt.1 wt.2]
      exact ⟨_, rfl, ⟨by show L < t + 1 ∧ t + 1 ≤ 61; omega, _, v2, v4, by show w2 88 77 = 0; rw [v3.sh]; exact u4, by show _ = t + 1 - 1; omega, v7, v6⟩, by show (61 - (t + 1)).toNat < (61 - t).toNat; omega⟩
  · obtain ⟨m2, m2', c1, c2, c3, c4, c5, c6⟩ := q_oneF gg ts (by omega)
    have q60 : ¬ 60 < k' := by omega
    have d1 : Fr3 h 70 m2 M := c4.tr jf
    have d2 : FQ m2' N := c5.fq.tr jf'
    have d3 : m2' 132 = N 132 := by rw [← j132]; exact funext fun j => c5 132 j (by unfold MS; omega)
    obtain ⟨w1, w2⟩ := q_set c3
    obtain ⟨r, e1, e2⟩ := c_agrees (M := m2) hn (kw m2 d1) k' (m2 70 3)
    obtain ⟨r', e3, e4⟩ := m_isSo hn (lg M m2' Fr3.rf d2) hk (po M m2' Fr3.rf d3) (hr := k') (by omega) (rfl : m2' 121 1 = m2' 121 1)
    rw [ag m2 k' (m2 70 3) d1, w1] at e2
    rw [w2] at e4
    have er : r' = r := by
      rcases e2 with ⟨a1, a2⟩ | ⟨a1, a2⟩ <;> rcases e4 with ⟨b1, b2⟩ | ⟨b1, b2⟩
      · rw [a1, b1]
      · exact absurd a2 b2
      · exact absurd b2 a2
      · rw [a1, b1]
    subst er
    have wk : -2147483648 ≤ k' + 1 ∧ k' + 1 ≤ 2147483647 := by omega
    rw [if_neg q, c1, Option.bind_some, e1, Option.bind_some]
    by_cases qr : r' = 0
    · left
      rw [if_pos qr]
      refine ⟨_, rfl, fun fuel hf => ⟨_, lp_end (y := (0, m2')) ?_ fuel hf, rfl, Or.inl rfl, d1, d2, d3⟩⟩
      try dsimp +instances only
      rw [if_neg q60, c2, Option.bind_some, e3, Option.bind_some, if_pos qr]
    · right
      rw [if_neg qr, if_neg q60, c2, Option.bind_some, e3, Option.bind_some, if_neg qr, w32_i wk.1 wk.2]
      exact ⟨_, _, rfl, rfl, ⟨rfl, by show 1 ≤ k' + 1 ∧ k' + 1 ≤ L + 1; omega, _, c3, by show _ = k' + 1 - 1; omega, d1, d2, d3⟩, by show (61 - (k' + 1)).toNat < (61 - k').toNat; omega⟩
end LATE
