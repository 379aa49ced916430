/-- what both do with a sign that joins -/
def jnC (M : MM) (a1 : Nat) (x1 : Int) : Option (Int × MM) :=
(f_X1_rankOf M x1).bind fun x8 =>
if x8 = 0 then
(some (1, M))
else
if x8 = 3 then
(some (1, M))
else
bS ((if x8 = 4 then
(gd (0 ≤ M 5 4 ∧ M 5 4 < (9 : Int)) <|
if (M 7 (M 5 4).toNat) = 0 then
(some (Sum.inl ()))
else
some (Sum.inr (1, M)))
else
some (Sum.inl ())) : Option ((Unit) ⊕ (Int × MM))) (fun x14 =>
if (M a1 7) < 64 then
(bM (upM M a1 7 (w32 ((M a1 7) + 1))) fun M16 =>
(f_X1_release M16 a1 x8).bind fun x17 =>
(f_X1_await x17 x1).bind fun x18 =>
((if 4 < x8 then
(some x18)
else
((if x8 = 4 then
(some 1)
else
some 0) : Option (Int)).bind fun x21 =>
gd (0 ≤ x18 5 4 ∧ x18 5 4 < (9 : Int)) <|
gd (x21 = 0 ∨ x21 = 1) <|
bM (upM x18 7 (x18 5 4).toNat x21) fun M24 =>
some M24) : Option (MM)).bind fun x25 =>
bM (upM x25 5 5 1) fun M26 =>
((if x8 < 4 then
(some 1)
else
some 0) : Option (Int)).bind fun x28 =>
gd (x28 = 0 ∨ x28 = 1) <|
bM (upM M26 5 6 x28) fun M30 =>
some (0, M30))
else
some (2, M)) (fun r => r)
def jnE (N : MM) (x22 : Int) (x30 : MM) : Option (Int × MM) :=
(f_X12_isCounted x30).bind fun x40 =>
if x40.1 = 0 then
(some (0, x40.2))
else
(f_X12_waitsFor x40.2 x22).bind fun x42 =>
bM (upM x42 88 49 1) fun M43 =>
(f_X12_rank M43 x22).bind fun x44 =>
((if x44 < 3 then
(some 1)
else
some 0) : Option (Int)).bind fun x46 =>
gd (x46 = 0 ∨ x46 = 1) <|
bM (upM M43 88 50 x46) fun M48 =>
(f_X12_token M48).bind fun x49 =>
some (1, x49)
def jnN (M : MM) (x22 : Int) : Option (Int × MM) :=
if x22 = 0 then
((f_X12_wrong M 1).bind fun x24 =>
gd (x24.1 = 0 ∨ x24.1 = 1) <|
some (x24.1, x24.2))
else
(f_X12_rank M x22).bind fun x26 =>
((if x26 = 4 then
(some 5)
else
(f_X12_rank M x22).bind fun x28 =>
some x28) : Option (Int)).bind fun x29 =>
(f_X12_bind M x29).bind fun x30 =>
(f_X12_rank x30 x22).bind fun x31 =>
bS ((if x31 = 4 then
(if 0 < (x30 88 45) then
(gd (0 ≤ w32 ((x30 88 45) - 1) ∧ w32 ((x30 88 45) - 1) < (96 : Int)) <|
(f_X12_rank x30 (x30 112 (w32 ((x30 88 45) - 1)).toNat)).bind fun x35 =>
if x35 = 4 then
((f_X12_wrong x30 1).bind fun x37 =>
gd (x37.1 = 0 ∨ x37.1 = 1) <|
some (Sum.inr (x37.1, x37.2)))
else
some (Sum.inl ()))
else
some (Sum.inl ()))
else
some (Sum.inl ())) : Option ((Unit) ⊕ (Int × MM))) (fun x39 => jnE M x22 x30) (fun r => r)
section FORM
variable {M N : MM} {n t g : Nat} {W K V A B Ko Vo Ao Bo : List Int}
theorem j_c (d1 : M 5 4 = (nb W : Int)) (hn : ¬ (M 3 4 = 41 ∧ 0 < nb W)) : f_X1_readJoint M (g + 12) = jnC M (g + 12) (M 3 4) := by
  unfold f_X1_readJoint
  rw [bI_eq]
  by_cases q : M 3 4 = 41
  · rw [if_pos q, d1, if_neg (by omega), bS_l]; unfold jnC; rw [d1]
  · rw [if_neg q, bS_l]; rfl
theorem j_n (k : RT' M N n t) (d2 : N 88 47 = (nb W : Int)) (hn : ¬ (M 3 4 = 41 ∧ 0 < nb W)) : f_X12_signs N = jnN N (if 1 ≤ rk (M 3 4) ∧ rk (M 3 4) ≠ 3 then cd (M 3 4) else 0) := by
  have hc := m_code k
  rw [m_isKey k (Or.inr (Or.inr ⟨rfl, rfl⟩)), Option.bind_some] at hc
  unfold f_X12_signs
  rw [m_isSign k (by decide), Option.bind_some, if_b1]
  by_cases q : M 3 4 = 41
  · rw [if_pos q, d2, if_neg (by omega), bS_l, m_isKey k (Or.inr (Or.inr ⟨rfl, rfl⟩)), Option.bind_some, hc, Option.bind_some]; rfl
  · rw [if_neg q, bS_l, m_isKey k (Or.inr (Or.inr ⟨rfl, rfl⟩)), Option.bind_some, hc, Option.bind_some]; rfl
theorem cd_jb {x : Int} (h : JB x) : cd x ≠ 0 := by
  obtain ⟨h, h1, h2⟩ := h
  rcases h with h | h | h | h | h | h | h | h | h | h | h | h | h | h
  · exact absurd h h1
  all_goals (subst h; decide)
/-- the second system looks whether a compare waits already -/
theorem m_look {P G A B : List Int} {m : Nat} {p : Int} {N1 : MM} (c : NFS N1 W P m G A B) (j : AJ W) (hl : W.length ≤ 72) {F : Unit → Option (Int × MM)} : bS ((if p = 4 then
(if 0 < (N1 88 45) then
(gd (0 ≤ w32 ((N1 88 45) - 1) ∧ w32 ((N1 88 45) - 1) < (96 : Int)) <|
(f_X12_rank N1 (N1 112 (w32 ((N1 88 45) - 1)).toNat)).bind fun x35 =>
if x35 = 4 then
((f_X12_wrong N1 1).bind fun x37 =>
gd (x37.1 = 0 ∨ x37.1 = 1) <|
some (Sum.inr (x37.1, x37.2)))
else
some (Sum.inl ()))
else
some (Sum.inl ()))
else
some (Sum.inl ())) : Option ((Unit) ⊕ (Int × MM))) F (fun r => r) = if p = 4 ∧ tp W = 4 then (f_X12_wrong N1 1).bind fun x37 => gd (x37.1 = 0 ∨ x37.1 = 1) <| some (x37.1, x37.2) else F () := by
  by_cases q : p = 4
  · rw [if_pos q]
    match W, c, j, hl with
    | [], c, j, hl =>
      rw [c.1.1, if_neg (by simp), bS_l, if_neg (fun z => absurd z.2 (by show (0 : Int) ≠ 4; decide))]
    | y :: L, c, j, hl =>
      obtain ⟨⟨a1, a2, a3⟩, _⟩ := c
      rw [List.length_cons] at a1 hl
      rw [List.length_map] at a2
      have z : 0 ≤ (L.length : Int) ∧ (L.length : Int) < 96 := by omega
      have w1 : w32 (N1 88 45 - 1) = (L.length : Int) := by rw [a1]; exact wp1 (by omega)
      have p0 : 0 < N1 88 45 := by rw [a1]; omega
      rw [if_pos p0, w1, gd_t z, Int.toNat_natCast, a2, m_rank N1 j.1, Option.bind_some]
      by_cases r : rk y = 4
      · rw [if_pos r, if_pos ⟨q, r⟩]
        obtain ⟨N', r1, _⟩ := m_wrong N1 1
        rw [r1, Option.bind_some, Option.bind_some, gd_t (Or.inl rfl), gd_t (Or.inl rfl), bS_r]
      · rw [if_neg r, bS_l, if_neg (fun z => r z.2)]
  · rw [if_neg q, bS_l, if_neg (fun z => q z.1)]
end FORM
