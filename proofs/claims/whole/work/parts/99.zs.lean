/-- half of a row that is kept -/
def kk (a : Nat) : Nat := if a = 92 ∨ (106 ≤ a ∧ a ≤ 108) then 3 else if a ≤ 101 then 5 else if a ≤ 104 then 4 else if a = 105 then 8 else 64
/-- rows of which the read half is copied -/
def CPY (N N' : MM) (hi : Nat) : Prop := ∀ a j, N' a j = if 92 ≤ a ∧ a < hi ∧ j < kk a then N a (kk a + j) else N a j
section KEEPT
variable {N N1 : MM} {hi : Nat}
theorem CPY.step {N2 : MM} (c : CPY N N1 hi) (h92 : 92 ≤ hi) (h1 : ∀ j, j < kk hi → N2 hi j = N1 hi (kk hi + j)) (h2 : ∀ a j, ¬ (a = hi ∧ j < kk hi) → N2 a j = N1 a j) : CPY N N2 (hi + 1) := fun a j => by
  by_cases q : a = hi ∧ j < kk hi
  · obtain ⟨rfl, q2⟩ := q
    rw [h1 j q2, c, if_neg (by omega), if_pos ⟨h92, by omega, q2⟩]
  · rw [h2 a j q, c]
    by_cases r : 92 ≤ a ∧ a < hi ∧ j < kk a
    · rw [if_pos r, if_pos ⟨r.1, by omega, r.2.2⟩]
    · rw [if_neg r, if_neg (fun z => r ⟨z.1, by
        by_cases e : a = hi
        · subst e; exact absurd ⟨rfl, z.2.2⟩ q
        · omega, z.2.2⟩)]
theorem m_copies (N : MM) {a1 n1 k : Nat} (hk : 2 * k ≤ n1) (h64 : k ≤ 64) : ∃ N', f_X12_copies N a1 n1 (k : Int) = some N' ∧ (∀ j, j < k → N' a1 j = N a1 (k + j)) ∧ ∀ a j, ¬ (a = a1 ∧ j < k) → N' a j = N a j := by
  unfold f_X12_copies
  refine lp_cnt k (fun i m => (∀ j, j < i → m a1 j = N a1 (k + j)) ∧ ∀ a j, ¬ (a = a1 ∧ j < i) → m a j = N a j) _ (by omega) ?_ ?_ _ ⟨fun j hj => absurd hj (Nat.not_lt_zero _), fun _ _ _ => rfl⟩
  · rintro i m hi ⟨i1, i2⟩
    left
    have zi : 0 ≤ (i : Int) ∧ (i : Int) < (n1 : Int) := by omega
    have zk : 0 ≤ ((k + i : Nat) : Int) ∧ ((k + i : Nat) : Int) < (n1 : Int) := by omega
    have w : w32 ((k : Int) + (i : Int)) = ((k + i : Nat) : Int) := by rw [w32_i (by omega) (by omega)]; omega
    have lt : (i : Int) < (k : Int) := by omega
    refine ⟨upM m a1 i (N a1 (k + i)), ?_, ?_, ?_⟩
    · try dsimp +instances only
      rw [if_pos lt, w, gd_t zk, gd_t zi, bM_eq, Int.toNat_natCast, Int.toNat_natCast, i2 a1 (k + i) (by clear w; omega), wi1 (by clear w; omega)]
      rfl
    · intro j hj
      by_cases q : j = i
      · rw [q, upM_eq]
      · rw [up_ni q]; exact i1 j (by clear w; omega)
    · intro a j hn
      rw [upM_ne a j (by clear w; omega)]
      exact i2 a j (by clear w; omega)
  · rintro m ⟨i1, i2⟩
    refine ⟨m, ?_, i1, i2⟩
    try dsimp +instances only
    rw [if_neg (by omega)]
theorem m_cp (c : CPY N N1 hi) (h92 : 92 ≤ hi) {n1 k : Nat} (hk : kk hi = k) (h2 : 2 * k ≤ n1) (h64 : k ≤ 64) : ∃ N2, f_X12_copies N1 hi n1 (k : Int) = some N2 ∧ CPY N N2 (hi + 1) := by
  obtain ⟨N2, e, f1, f2⟩ := m_copies N1 (a1 := hi) h2 h64
  exact ⟨N2, e, c.step h92 (by rw [hk]; exact f1) (by rw [hk]; exact f2)⟩
def k106 : Int × MM → Option ((Int × MM) ⊕ MM) := fun x20 =>
if x20.1 < 3 then
(gd (0 ≤ w32 (3 + x20.1) ∧ w32 (3 + x20.1) < (6 : Int)) <|
gd (0 ≤ x20.1 ∧ x20.1 < (6 : Int)) <|
gd ((x20.2 106 (w32 (3 + x20.1)).toNat) = 0 ∨ (x20.2 106 (w32 (3 + x20.1)).toNat) = 1) <|
bM (upM x20.2 106 (x20.1).toNat (x20.2 106 (w32 (3 + x20.1)).toNat)) fun M25 =>
some (Sum.inl (w32 (x20.1 + 1), M25)))
else
some (Sum.inr x20.2)
theorem m_106 (c : CPY N N1 106) (hb : ∀ l, l < 3 → N 106 (3 + l) = 0 ∨ N 106 (3 + l) = 1) : ∃ N2, lp k106 FU (0, N1) = some N2 ∧ CPY N N2 107 := by
  have key : ∃ N2, lp k106 FU (0, N1) = some N2 ∧ ((∀ j, j < 3 → N2 106 j = N1 106 (3 + j)) ∧ ∀ a j, ¬ (a = 106 ∧ j < 3) → N2 a j = N1 a j) := by
    refine lp_cnt 3 (fun i m => (∀ j, j < i → m 106 j = N1 106 (3 + j)) ∧ ∀ a j, ¬ (a = 106 ∧ j < i) → m a j = N1 a j) _ (by decide) ?_ ?_ _ ⟨fun j hj => absurd hj (Nat.not_lt_zero _), fun _ _ _ => rfl⟩
    · rintro i m hi ⟨i1, i2⟩
      left
      have z6 : 0 ≤ (i : Int) ∧ (i : Int) < 6 := by omega
      have z3 : 0 ≤ ((3 + i : Nat) : Int) ∧ ((3 + i : Nat) : Int) < 6 := by omega
      have w : w32 (3 + (i : Int)) = ((3 + i : Nat) : Int) := by rw [w32_i (by omega) (by omega)]; omega
      have lt : (i : Int) < 3 := by omega
      have e : m 106 (3 + i) = N 106 (3 + i) := by rw [i2 106 (3 + i) (by clear w; omega), c, if_neg (by clear w; omega)]
      have e1 : m 106 (3 + i) = N1 106 (3 + i) := i2 106 (3 + i) (by clear w; omega)
      refine ⟨upM m 106 i (N1 106 (3 + i)), ?_, ?_, ?_⟩
      · unfold k106
        try dsimp +instances only
        rw [if_pos lt, w, gd_t z3, gd_t z6, Int.toNat_natCast, gd_t (by rw [e]; exact hb i hi), bM_eq, Int.toNat_natCast, e1, wi1 (by clear w; omega)]
        rfl
      · intro j hj
        by_cases q : j = i
        · rw [q, upM_eq]
        · rw [up_ni q]; exact i1 j (by clear w; omega)
      · intro a j hn
        rw [upM_ne a j (by clear w; omega)]
        exact i2 a j (by clear w; omega)
    · rintro m ⟨i1, i2⟩
      exact ⟨m, rfl, i1, i2⟩
  obtain ⟨N2, e, f1, f2⟩ := key
  exact ⟨N2, e, c.step (hi := 106) (by decide) f1 f2⟩
def cpAll (N : MM) (G : MM → Option MM) : Option MM := (f_X12_copies N 92 6 3).bind fun y92 => (f_X12_copies y92 93 10 5).bind fun y93 => (f_X12_copies y93 94 10 5).bind fun y94 => (f_X12_copies y94 95 10 5).bind fun y95 => (f_X12_copies y95 96 10 5).bind fun y96 => (f_X12_copies y96 97 10 5).bind fun y97 => (f_X12_copies y97 98 10 5).bind fun y98 => (f_X12_copies y98 99 10 5).bind fun y99 => (f_X12_copies y99 100 10 5).bind fun y100 => (f_X12_copies y100 101 10 5).bind fun y101 => (f_X12_copies y101 102 8 4).bind fun y102 => (f_X12_copies y102 103 8 4).bind fun y103 => (f_X12_copies y103 104 8 4).bind fun y104 => (f_X12_copies y104 105 16 8).bind fun y105 => (lp k106 FU (0, y105)).bind fun y106 => (f_X12_copies y106 107 6 3).bind fun y107 => (f_X12_copies y107 108 6 3).bind fun y108 => (f_X12_copies y108 109 128 64).bind fun y109 => (f_X12_copies y109 110 128 64).bind fun y110 => (f_X12_copies y110 111 128 64).bind fun y111 => G y111
theorem m_copied (N : MM) (hb : ∀ l, l < 3 → N 106 (3 + l) = 0 ∨ N 106 (3 + l) = 1) {G : MM → Option MM} : ∃ N', cpAll N G = G N' ∧ CPY N N' 112 := by
  unfold cpAll
  have c92 : CPY N N 92 := fun a j => by rw [if_neg (by omega)]
  obtain ⟨y92, e92, c93⟩ := m_cp c92 (hi := 92) (n1 := 6) (k := 3) (by decide) rfl (by decide) (by decide)
  obtain ⟨y93, e93, c94⟩ := m_cp c93 (hi := 93) (n1 := 10) (k := 5) (by decide) rfl (by decide) (by decide)
  obtain ⟨y94, e94, c95⟩ := m_cp c94 (hi := 94) (n1 := 10) (k := 5) (by decide) rfl (by decide) (by decide)
  obtain ⟨y95, e95, c96⟩ := m_cp c95 (hi := 95) (n1 := 10) (k := 5) (by decide) rfl (by decide) (by decide)
  obtain ⟨y96, e96, c97⟩ := m_cp c96 (hi := 96) (n1 := 10) (k := 5) (by decide) rfl (by decide) (by decide)
  obtain ⟨y97, e97, c98⟩ := m_cp c97 (hi := 97) (n1 := 10) (k := 5) (by decide) rfl (by decide) (by decide)
  obtain ⟨y98, e98, c99⟩ := m_cp c98 (hi := 98) (n1 := 10) (k := 5) (by decide) rfl (by decide) (by decide)
  obtain ⟨y99, e99, c100⟩ := m_cp c99 (hi := 99) (n1 := 10) (k := 5) (by decide) rfl (by decide) (by decide)
  obtain ⟨y100, e100, c101⟩ := m_cp c100 (hi := 100) (n1 := 10) (k := 5) (by decide) rfl (by decide) (by decide)
  obtain ⟨y101, e101, c102⟩ := m_cp c101 (hi := 101) (n1 := 10) (k := 5) (by decide) rfl (by decide) (by decide)
  obtain ⟨y102, e102, c103⟩ := m_cp c102 (hi := 102) (n1 := 8) (k := 4) (by decide) rfl (by decide) (by decide)
  obtain ⟨y103, e103, c104⟩ := m_cp c103 (hi := 103) (n1 := 8) (k := 4) (by decide) rfl (by decide) (by decide)
  obtain ⟨y104, e104, c105⟩ := m_cp c104 (hi := 104) (n1 := 8) (k := 4) (by decide) rfl (by decide) (by decide)
  obtain ⟨y105, e105, c106⟩ := m_cp c105 (hi := 105) (n1 := 16) (k := 8) (by decide) rfl (by decide) (by decide)
  obtain ⟨y106, e106, c107⟩ := m_106 c106 hb
  obtain ⟨y107, e107, c108⟩ := m_cp c107 (hi := 107) (n1 := 6) (k := 3) (by decide) rfl (by decide) (by decide)
  obtain ⟨y108, e108, c109⟩ := m_cp c108 (hi := 108) (n1 := 6) (k := 3) (by decide) rfl (by decide) (by decide)
  obtain ⟨y109, e109, c110⟩ := m_cp c109 (hi := 109) (n1 := 128) (k := 64) (by decide) rfl (by decide) (by decide)
  obtain ⟨y110, e110, c111⟩ := m_cp c110 (hi := 110) (n1 := 128) (k := 64) (by decide) rfl (by decide) (by decide)
  obtain ⟨y111, e111, c112⟩ := m_cp c111 (hi := 111) (n1 := 128) (k := 64) (by decide) rfl (by decide) (by decide)
  have e92 : f_X12_copies N 92 6 3 = some y92 := e92
  have e93 : f_X12_copies y92 93 10 5 = some y93 := e93
  have e94 : f_X12_copies y93 94 10 5 = some y94 := e94
  have e95 : f_X12_copies y94 95 10 5 = some y95 := e95
  have e96 : f_X12_copies y95 96 10 5 = some y96 := e96
  have e97 : f_X12_copies y96 97 10 5 = some y97 := e97
  have e98 : f_X12_copies y97 98 10 5 = some y98 := e98
  have e99 : f_X12_copies y98 99 10 5 = some y99 := e99
  have e100 : f_X12_copies y99 100 10 5 = some y100 := e100
  have e101 : f_X12_copies y100 101 10 5 = some y101 := e101
  have e102 : f_X12_copies y101 102 8 4 = some y102 := e102
  have e103 : f_X12_copies y102 103 8 4 = some y103 := e103
  have e104 : f_X12_copies y103 104 8 4 = some y104 := e104
  have e105 : f_X12_copies y104 105 16 8 = some y105 := e105
  have e107 : f_X12_copies y106 107 6 3 = some y107 := e107
  have e108 : f_X12_copies y107 108 6 3 = some y108 := e108
  have e109 : f_X12_copies y108 109 128 64 = some y109 := e109
  have e110 : f_X12_copies y109 110 128 64 = some y110 := e110
  have e111 : f_X12_copies y110 111 128 64 = some y111 := e111
  refine ⟨y111, ?_, c112⟩
  rw [e92, Option.bind_some, e93, Option.bind_some, e94, Option.bind_some, e95, Option.bind_some, e96, Option.bind_some, e97, Option.bind_some, e98, Option.bind_some, e99, Option.bind_some, e100, Option.bind_some, e101, Option.bind_some, e102, Option.bind_some, e103, Option.bind_some, e104, Option.bind_some, e105, Option.bind_some, e106, Option.bind_some, e107, Option.bind_some, e108, Option.bind_some, e109, Option.bind_some, e110, Option.bind_some, e111, Option.bind_some]
def k1 (M : MM) : MM := upM M 88 12 (M 88 17)
def k2 (M : MM) : MM := upM (k1 M) 88 13 (k1 M 88 18)
def k3 (M : MM) : MM := upM (k2 M) 88 14 (k2 M 88 19)
def k4 (M : MM) : MM := upM (k3 M) 88 15 (k3 M 88 20)
def k5 (M : MM) : MM := upM (k4 M) 88 16 (k4 M 88 21)
theorem k5_a (N : MM) {a j : Nat} (h : ¬ (a = 88 ∧ 12 ≤ j ∧ j ≤ 16)) : k5 N a j = N a j := by
  unfold k5 k4 k3 k2 k1
  rw [upM_ne a j (by omega), upM_ne a j (by omega), upM_ne a j (by omega), upM_ne a j (by omega), upM_ne a j (by omega)]
theorem keep_eq (N : MM) : f_X12_keepText N = cpAll (k5 N) (fun y => (f_X12_begin y).bind fun x => some x) := by
  unfold f_X12_keepText cpAll k106 k5 k4 k3 k2 k1
  rw [bM_eq, bM_eq, bM_eq, bM_eq, bM_eq]
end KEEPT
