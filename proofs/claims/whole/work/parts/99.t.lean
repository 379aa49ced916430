/-- ranks of signs that wait, as the class numbers kinds -/
def rk (x : Int) : Int := if x = 42 then 6 else if x = 43 then 5 else if x = 45 then 5 else if x = 47 then 6 else if x = 60 then 4 else if x = 61 then 4 else if x = 62 then 4 else if x = 256 then 4 else if x = 257 then 4 else if x = 258 then 4 else if x = 310 then 1 else if x = 311 then 2 else if x = 312 then 3 else 0
/-- the second system's number of a sign that waits -/
def cd (x : Int) : Int := if x = 42 then 13 else if x = 43 then 11 else if x = 45 then 12 else if x = 47 then 14 else if x = 60 then 5 else if x = 256 then 6 else if x = 61 then 7 else if x = 257 then 8 else if x = 258 then 9 else if x = 62 then 10 else if x = 310 then 4 else if x = 311 then 3 else if x = 312 then 2 else 0
def JK (x : Int) : Prop := x = 40 ∨ x = 42 ∨ x = 43 ∨ x = 45 ∨ x = 47 ∨ x = 60 ∨ x = 61 ∨ x = 62 ∨ x = 256 ∨ x = 257 ∨ x = 258 ∨ x = 310 ∨ x = 311 ∨ x = 312
theorem s_if {c : Prop} [Decidable c] {a b : Int} {o : Option Int} (h : o = some b) : (if c then some a else o) = some (if c then a else b) := by
  split
  · rfl
  · exact h
theorem c_rank (M : MM) (p : Int) : f_X1_rankOf M p = some (rk p) := s_if (s_if (s_if (s_if (s_if (s_if (s_if (s_if (s_if (s_if (s_if (s_if (s_if rfl))))))))))))
theorem m_rank (N : MM) {x : Int} (h : JK x) : f_X12_rank N (cd x) = some (rk x) := by
  rcases h with h | h | h | h | h | h | h | h | h | h | h | h | h | h <;> subst h <;> rfl
theorem rk_40 : rk 40 = 0 := rfl
theorem rk_pos {x : Int} (h : JK x) : (x = 40 ∧ rk x = 0) ∨ (x ≠ 40 ∧ 1 ≤ rk x ∧ rk x ≤ 6) := by
  rcases h with h | h | h | h | h | h | h | h | h | h | h | h | h | h <;> subst h <;> decide
theorem cd_not {x : Int} (h : JK x) : cd x = 2 ↔ x = 312 := by
  rcases h with h | h | h | h | h | h | h | h | h | h | h | h | h | h <;> subst h <;> decide
/-- a stack in a row, newest first -/
def STK (row : Nat → Int) : List Int → Prop
  | [] => True
  | x :: L => row L.length = x ∧ STK row L
theorem STK.cg {row row' : Nat → Int} : ∀ {L : List Int}, STK row L → (∀ j, j < L.length → row' j = row j) → STK row' L
  | [], _, _ => trivial
  | x :: L, ⟨h1, h2⟩, h => ⟨by rw [h _ (Nat.lt_succ_self _)]; exact h1, STK.cg h2 (fun j hj => h j (Nat.lt_succ_of_lt hj))⟩
theorem wp1 {k : Nat} (h : k < 1000) : w32 (((k + 1 : Nat) : Int) - 1) = (k : Int) := by rw [w32_i (by omega) (by omega)]; omega
theorem c_write {M : MM} {a0 n : Nat} (h : M a0 6 = (n : Int)) (hn : n < 64) (p1 p2 : Int) : f_X3_write M a0 p1 p2 = some (upM (upM (upM M (a0 + 1) n p1) (a0 + 2) n p2) a0 6 ((n + 1 : Nat) : Int)) := by
  have z : 0 ≤ (n : Int) ∧ (n : Int) < 64 := by omega
  unfold f_X3_write
  rw [bM_eq, bM_eq, bM_eq, up_na (by omega), up_na (by omega), up_na (by omega), h, if_pos z.2, gd_t z, gd_t z, Int.toNat_natCast, wi7 (by omega)]
/-- the class's side of a formula: signs that wait, kinds and numbers written -/
def CFS (M : MM) (g : Nat) (W K V : List Int) : Prop := M 5 3 = (W.length : Int) ∧ STK (M 6) W ∧ M (g + 12) 6 = (K.length : Int) ∧ STK (M (g + 13)) K ∧ STK (M (g + 14)) V ∧ V.length = K.length
/-- signs that are no brackets -/
def nz : List Int → Nat
  | [] => 0
  | x :: L => (if x = 40 then 0 else 1) + nz L
def AJ : List Int → Prop
  | [] => True
  | x :: L => JK x ∧ AJ L
def wr (p : Int) : List Int → List Int
  | [] => []
  | x :: L => if rk x < p then x :: L else wr p L
def kr (p : Int) : List Int → List Int → List Int
  | [], K => K
  | x :: L, K => if rk x < p then K else kr p L (x :: K)
def vr (p : Int) : List Int → List Int → List Int
  | [], V => V
  | x :: L, V => if rk x < p then V else vr p L (0 :: V)
/-- what release may change -/
def FRL (g : Nat) (M' M : MM) : Prop := ∀ a j, ¬ (a = 5 ∧ j = 3) → ¬ (a = g + 12 ∧ j = 6) → a ≠ g + 13 → a ≠ g + 14 → M' a j = M a j
def rst (a1 : Nat) (p2 : Int) : MM → Option (MM ⊕ MM) := fun x1 =>
if 0 < (x1 5 3) then
(gd (0 ≤ w32 ((x1 5 3) - 1) ∧ w32 ((x1 5 3) - 1) < (72 : Int)) <|
(f_X1_rankOf x1 (x1 6 (w32 ((x1 5 3) - 1)).toNat)).bind fun x4 =>
if x4 < p2 then
(some (Sum.inr x1))
else
bM (upM x1 5 3 (w32 ((x1 5 3) - 1))) fun M6 =>
gd (0 ≤ M6 5 3 ∧ M6 5 3 < (72 : Int)) <|
(f_X3_write M6 a1 (M6 6 (M6 5 3).toNat) 0).bind fun x8 =>
some (Sum.inl x8))
else
some (Sum.inr x1)
theorem c_rel {g : Nat} (hg : g = 8 ∨ g = 31) {p : Int} (hp : 1 ≤ p) : ∀ (W K V : List Int) (M : MM) (m : Nat), CFS M g W K V → AJ W → W.length < m → W.length ≤ 72 → nz W + K.length ≤ 64 → ∃ M', lp (rst (g + 12) p) m M = some M' ∧ CFS M' g (wr p W) (kr p W K) (vr p W V) ∧ FRL g M' M
  | W, K, V, M, 0, _, _, h, _, _ => absurd h (Nat.not_lt_zero _)
  | [], K, V, M, m + 1, c, _, _, _, _ => by
    have e : rst (g + 12) p M = some (Sum.inr M) := by
      unfold rst
      rw [c.1, if_neg (by simp)]
    exact ⟨M, lp_e m e, c, fun _ _ _ _ _ _ => rfl⟩
  | x :: L, K, V, M, m + 1, c, aj, hm, h7, hk => by
    obtain ⟨c1, ⟨c2, c3⟩, c4, c5, c6, c7⟩ := c
    obtain ⟨j1, j2⟩ := aj
    rw [List.length_cons] at c1 hm h7
    have z : 0 ≤ (L.length : Int) ∧ (L.length : Int) < 72 := by omega
    have w1 : w32 (M 5 3 - 1) = (L.length : Int) := by rw [c1]; exact wp1 (by omega)
    have p0 : 0 < M 5 3 := by rw [c1]; omega
    by_cases q : rk x < p
    · have e : rst (g + 12) p M = some (Sum.inr M) := by
        unfold rst
        rw [if_pos p0, w1, gd_t z, Int.toNat_natCast, c2, c_rank, Option.bind_some, if_pos q]
      refine ⟨M, lp_e m e, ?_, fun _ _ _ _ _ _ => rfl⟩
      have u1 : wr p (x :: L) = x :: L := if_pos q
      have u2 : kr p (x :: L) K = K := if_pos q
      have u3 : vr p (x :: L) V = V := if_pos q
      rw [u1, u2, u3]
      exact ⟨by rw [List.length_cons]; exact c1, ⟨c2, c3⟩, c4, c5, c6, c7⟩
    · have x4 : x ≠ 40 := fun z => q (by rw [z, rk_40]; omega)
      have nz1 : nz (x :: L) = 1 + nz L := by show (if x = 40 then 0 else 1) + nz L = _; rw [if_neg x4]
      rw [nz1] at hk
      have k6 : K.length < 64 := by omega
      have c4' : (upM M 5 3 (L.length : Int)) (g + 12) 6 = (K.length : Int) := by rw [up_na (by omega)]; exact c4
      have e : rst (g + 12) p M = some (Sum.inl (upM (upM (upM (upM M 5 3 (L.length : Int)) (g + 13) K.length x) (g + 14) K.length 0) (g + 12) 6 ((K.length + 1 : Nat) : Int))) := by
        unfold rst
        rw [if_pos p0, w1, gd_t z, Int.toNat_natCast, c2, c_rank, Option.bind_some, if_neg q, bM_eq, upM_eq, gd_t z, Int.toNat_natCast, up_na (by decide), c2, c_write c4' k6, Option.bind_some]
      obtain ⟨M', r1, r2, r3⟩ := c_rel hg hp L (x :: K) (0 :: V) (upM (upM (upM (upM M 5 3 (L.length : Int)) (g + 13) K.length x) (g + 14) K.length 0) (g + 12) 6 ((K.length + 1 : Nat) : Int)) m
        ⟨by rw [up_na (by omega), up_na (by omega), up_na (by omega), upM_eq], c3.cg (fun j _ => by rw [up_na (by omega), up_na (by omega), up_na (by omega), up_na (by omega)]), by rw [upM_eq, List.length_cons], ⟨by rw [up_na (by omega), up_na (by omega), upM_eq], c5.cg (fun j hj => by rw [up_na (by omega), up_na (by omega), up_ni (by omega), up_na (by omega)])⟩, ⟨by rw [up_na (by omega), c7, upM_eq], c6.cg (fun j hj => by rw [up_na (by omega), up_ni (by omega), up_na (by omega), up_na (by omega)])⟩, by rw [List.length_cons, List.length_cons, c7]⟩ j2 (by omega) (by omega) (by rw [List.length_cons]; omega)
      refine ⟨M', by rw [lp_s m e]; exact r1, ?_, fun a j h1 h2 h3 h4 => ?_⟩
      · have u1 : wr p (x :: L) = wr p L := if_neg q
        have u2 : kr p (x :: L) K = kr p L (x :: K) := if_neg q
        have u3 : vr p (x :: L) V = vr p L (0 :: V) := if_neg q
        rw [u1, u2, u3]
        exact r2
      · rw [r3 a j h1 h2 h3 h4, upM_ne a j h2, up_na h4, up_na h3, upM_ne a j h1]
theorem c_release {g : Nat} (hg : g = 8 ∨ g = 31) {p : Int} (hp : 1 ≤ p) {W K V : List Int} {M : MM} (c : CFS M g W K V) (j : AJ W) (h7 : W.length ≤ 72) (hk : nz W + K.length ≤ 64) : ∃ M', f_X1_release M (g + 12) p = some M' ∧ CFS M' g (wr p W) (kr p W K) (vr p W V) ∧ FRL g M' M :=
  c_rel hg hp W K V M FU c j (by unfold FU; omega) h7 hk
