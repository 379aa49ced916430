/-- what a law may come to -/
abbrev bd (x : Int) : Prop := -1000000000000 ≤ x ∧ x ≤ 1000000000000
/-- two values joined; none: no value -/
def jn (x a b : Int) : Option Int := if x = 42 then (if bd (a * b) then some (a * b) else none) else if x = 43 then (if bd (a + b) then some (a + b) else none) else if x = 45 then (if bd (a - b) then some (a - b) else none) else if x = 47 then (if b = 0 then none else some (a.tdiv b)) else if x = 60 then some (b1 (a < b)) else if x = 61 then some (b1 (a = b)) else if x = 62 then some (b1 (b < a)) else if x = 256 then some (b1 (a ≤ b)) else if x = 257 then some (b1 (a ≠ b)) else if x = 258 then some (b1 (b ≤ a)) else if x = 310 then some (b1 (a ≠ 0 ∨ b ≠ 0)) else some (b1 (a ≠ 0 ∧ b ≠ 0))
theorem bd_b1 (c : Prop) [Decidable c] : bd (b1 c) := by
  rcases b1_z c with h | h <;> rw [h] <;> decide
theorem bd_w {x : Int} (h : -9000000000000000000 ≤ x ∧ x ≤ 9000000000000000000) : w64 x = x := w64_id ⟨by omega, by omega⟩
theorem bd_div {a b : Int} (h : bd a) : bd (a.tdiv b) := by
  have h1 : (a.tdiv b).natAbs ≤ a.natAbs := by rw [Int.natAbs_tdiv]; exact Nat.div_le_self _ _
  unfold bd at *
  omega
theorem mulq {a b A : Int} (hA : (0 < a ∧ A = a) ∨ (a < 0 ∧ A = -a)) : (b ≤ 1000000000000 / A ∧ -b ≤ 1000000000000 / A) ↔ bd (a * b) := by
  have pA : 0 < A := by omega
  rw [Int.le_ediv_iff_mul_le pA, Int.le_ediv_iff_mul_le pA]
  rcases hA with ⟨h, e⟩ | ⟨h, e⟩
  · subst e
    rw [Int.neg_mul, Int.mul_comm b A]
    generalize A * b = y
    unfold bd
    omega
  · subst e
    rw [Int.neg_mul_neg, Int.mul_neg, Int.mul_comm b a]
    generalize a * b = y
    unfold bd
    omega
theorem divq {A : Int} (hA : 0 < A) : w64 (Int.tdiv 1000000000000 A) = 1000000000000 / A ∧ 0 ≤ 1000000000000 / A ∧ 1000000000000 / A ≤ 1000000000000 := by
  have h1 : 0 ≤ 1000000000000 / A := Int.ediv_nonneg (by decide) (by omega)
  have h2 : 1000000000000 / A ≤ 1000000000000 := Int.ediv_le_self _ (by decide)
  refine ⟨?_, h1, h2⟩
  rw [tdn (by decide)]
  exact bd_w (by omega)
theorem cb_p {c d : Prop} [Decidable c] [Decidable d] (h : c ↔ d) : (if c then some (1 : Int) else some 0) = some (b1 d) := by
  unfold b1
  by_cases q : c
  · rw [if_pos q, if_pos (h.mp q)]
  · rw [if_neg q, if_neg (fun z => q (h.mpr z))]
theorem cb_n {c d : Prop} [Decidable c] [Decidable d] (h : c ↔ ¬ d) : (if c then some (0 : Int) else some 1) = some (b1 d) := by
  unfold b1
  by_cases q : c
  · rw [if_pos q, if_neg (h.mp q)]
  · rw [if_neg q, if_pos (Decidable.not_not.mp (fun z => q (h.mpr z)))]
theorem c_or (a b : Int) : (if cmpI a 0 = 0 then (if cmpI b 0 = 0 then some (0 : Int) else some 1) else some 1) = some (b1 (a ≠ 0 ∨ b ≠ 0)) := by
  by_cases q : a = 0
  · rw [if_pos ((cmpI_eq a 0).mpr q)]
    exact cb_n (by rw [cmpI_eq]; omega)
  · rw [if_neg (fun z => q ((cmpI_eq a 0).mp z))]
    unfold b1
    rw [if_pos (Or.inl q)]
theorem c_and (a b : Int) : (if cmpI a 0 = 0 then some (0 : Int) else if cmpI b 0 = 0 then some 0 else some 1) = some (b1 (a ≠ 0 ∧ b ≠ 0)) := by
  by_cases q : a = 0
  · rw [if_pos ((cmpI_eq a 0).mpr q)]
    unfold b1
    rw [if_neg (fun z => z.1 q)]
  · rw [if_neg (fun z => q ((cmpI_eq a 0).mp z))]
    exact cb_n (by rw [cmpI_eq]; omega)
theorem jn_bd {x a b r : Int} (ha : bd a) (h : jn x a b = some r) : bd r := by
  have bo : ∀ {c : Prop} [Decidable c], some (b1 c) = some r → bd r := fun z => by
    have z := Option.some.inj z
    rw [← z]
    exact bd_b1 _
  have ci : ∀ {y : Int}, (if bd y then some y else none) = some r → bd r := fun {y} z => by
    by_cases q : bd y
    · rw [if_pos q] at z; have z := Option.some.inj z; rw [← z]; exact q
    · rw [if_neg q] at z; exact absurd z (by simp)
  unfold jn at h
  by_cases q1 : x = 42
  · rw [if_pos q1] at h; exact ci h
  rw [if_neg q1] at h
  by_cases q2 : x = 43
  · rw [if_pos q2] at h; exact ci h
  rw [if_neg q2] at h
  by_cases q3 : x = 45
  · rw [if_pos q3] at h; exact ci h
  rw [if_neg q3] at h
  by_cases q4 : x = 47
  · rw [if_pos q4] at h
    by_cases q : b = 0
    · rw [if_pos q] at h; exact absurd h (by simp)
    · rw [if_neg q] at h; have z := Option.some.inj h; rw [← z]; exact bd_div ha
  rw [if_neg q4] at h
  by_cases q5 : x = 60
  · rw [if_pos q5] at h; exact bo h
  rw [if_neg q5] at h
  by_cases q6 : x = 61
  · rw [if_pos q6] at h; exact bo h
  rw [if_neg q6] at h
  by_cases q7 : x = 62
  · rw [if_pos q7] at h; exact bo h
  rw [if_neg q7] at h
  by_cases q8 : x = 256
  · rw [if_pos q8] at h; exact bo h
  rw [if_neg q8] at h
  by_cases q9 : x = 257
  · rw [if_pos q9] at h; exact bo h
  rw [if_neg q9] at h
  by_cases q10 : x = 258
  · rw [if_pos q10] at h; exact bo h
  rw [if_neg q10] at h
  by_cases q11 : x = 310
  · rw [if_pos q11] at h; exact bo h
  rw [if_neg q11] at h
  exact bo h
section JND
variable {M N : MM}
/-- the class joins two values -/
theorem c_joined (M : MM) {x a b : Int} (h : JB x) (ha : bd a) (hb : bd b) : ∃ r, f_X3_joined M x a b = some r ∧ ((jn x a b = some r ∧ bd r) ∨ (jn x a b = none ∧ ¬ bd r)) := by
  have bo : ∀ {o : Option Int} {c : Prop} [Decidable c], o = some (b1 c) → jn x a b = some (b1 c) → f_X3_joined M x a b = o → ∃ r, f_X3_joined M x a b = some r ∧ ((jn x a b = some r ∧ bd r) ∨ (jn x a b = none ∧ ¬ bd r)) := fun {o c _} e1 e2 e3 => ⟨b1 c, e3.trans e1, Or.inl ⟨e2, bd_b1 c⟩⟩
  have ci : ∀ {y : Int}, (-9000000000000000000 ≤ y ∧ y ≤ 9000000000000000000) → f_X3_joined M x a b = some (w64 y) → jn x a b = (if bd y then some y else none) → ∃ r, f_X3_joined M x a b = some r ∧ ((jn x a b = some r ∧ bd r) ∨ (jn x a b = none ∧ ¬ bd r)) := fun {y} b1 e1 e2 => by
    rw [bd_w b1] at e1
    refine ⟨y, e1, ?_⟩
    by_cases q : bd y
    · exact Or.inl ⟨by rw [e2, if_pos q], q⟩
    · exact Or.inr ⟨by rw [e2, if_neg q], q⟩
  have ng : ¬ bd (-9223372036854775808) := by decide
  obtain ⟨jk, n40, n312⟩ := h
  rcases jk with h | h | h | h | h | h | h | h | h | h | h | h | h | h
  · exact absurd h n40
  · subst h
    have e2 : jn 42 a b = if bd (a * b) then some (a * b) else none := rfl
    by_cases a0 : a = 0
    · subst a0
      refine ⟨0, ?_, Or.inl ⟨by rw [e2, Int.zero_mul]; rfl, by decide⟩⟩
      unfold f_X3_joined
      rw [if_pos (show (42 : Int) = 42 from rfl), if_pos ((cmpI_eq 0 0).mpr rfl), Option.bind_some, if_neg (show ¬ 0 < cmpI b 1000000000000 by rw [cmpI_gt]; omega), bd_w (x := -1000000000000) (by omega), if_neg (show ¬ cmpI b (-1000000000000) < 0 by rw [cmpI_lt]; omega), Int.zero_mul]
      rfl
    · obtain ⟨A, hA, eA⟩ : ∃ A, ((0 < a ∧ A = a) ∨ (a < 0 ∧ A = -a)) ∧ ((if (cmpI a 0) < 0 then (some (w64 (-a))) else some a) : Option Int) = some A := by
        by_cases q : a < 0
        · exact ⟨-a, Or.inr ⟨q, rfl⟩, by rw [if_pos ((cmpI_lt a 0).mpr q), bd_w (by omega)]⟩
        · exact ⟨a, Or.inl ⟨by omega, rfl⟩, by rw [if_neg (fun z => q ((cmpI_lt a 0).mp z))]⟩
      have pA : 0 < A := by omega
      obtain ⟨d1, d2, d3⟩ := divq pA
      have mq := mulq (b := b) hA
      have e1 : f_X3_joined M 42 a b = (if 0 < cmpI b (1000000000000 / A) then some (-9223372036854775808) else if cmpI b (w64 (-(1000000000000 / A))) < 0 then some (-9223372036854775808) else some (w64 (a * b))) := by
        show (((if (cmpI a 0) = 0 then (some 1000000000000) else ((if (cmpI a 0) < 0 then (some (w64 (-a))) else some a) : Option Int).bind fun x4 => gd (x4 ≠ 0) <| some (w64 (Int.tdiv 1000000000000 x4))) : Option Int).bind _) = _
        rw [if_neg (fun z => a0 ((cmpI_eq a 0).mp z)), eA, Option.bind_some, gd_t (show A ≠ 0 by omega), d1, Option.bind_some]
      clear d1
      generalize 1000000000000 / A = Q at *
      rw [bd_w (x := -Q) (by omega)] at e1
      by_cases q : bd (a * b)
      · have mq' := mq.mpr q
        refine ⟨a * b, ?_, Or.inl ⟨by rw [e2, if_pos q], q⟩⟩
        rw [e1, if_neg (show ¬ 0 < cmpI b Q by rw [cmpI_gt]; omega), if_neg (show ¬ cmpI b (-Q) < 0 by rw [cmpI_lt]; omega), bd_w ⟨by have := q.1; omega, by have := q.2; omega⟩]
      · refine ⟨-9223372036854775808, ?_, Or.inr ⟨by rw [e2, if_neg q], ng⟩⟩
        rw [e1]
        by_cases q1 : Q < b
        · rw [if_pos ((cmpI_gt b Q).mpr q1)]
        · rw [if_neg (fun z => q1 ((cmpI_gt b Q).mp z)), if_pos ((cmpI_lt b (-Q)).mpr (by
            have : ¬ (b ≤ Q ∧ -b ≤ Q) := fun z => q (mq.mp z)
            omega))]
  · subst h; exact ci (y := a + b) (by omega) rfl rfl
  · subst h; exact ci (y := a - b) (by omega) rfl rfl
  · subst h
    have e1 : f_X3_joined M 47 a b = if (cmpI b 0) = 0 then (some (-9223372036854775808)) else gd (b ≠ 0) <| some (w64 (Int.tdiv a b)) := rfl
    have e2 : jn 47 a b = if b = 0 then none else some (a.tdiv b) := rfl
    by_cases q : b = 0
    · exact ⟨-9223372036854775808, by rw [e1, if_pos ((cmpI_eq b 0).mpr q)], Or.inr ⟨by rw [e2, if_pos q], ng⟩⟩
    · have z := bd_div (b := b) ha
      exact ⟨a.tdiv b, by rw [e1, if_neg (fun z => q ((cmpI_eq b 0).mp z)), gd_t q, bd_w ⟨by have := z.1; omega, by have := z.2; omega⟩], Or.inl ⟨by rw [e2, if_neg q], z⟩⟩
  · subst h; exact bo (c := a < b) (cb_p (cmpI_lt a b)) rfl rfl
  · subst h; exact bo (c := a = b) (cb_p (cmpI_eq a b)) rfl rfl
  · subst h; exact bo (c := b < a) (cb_p (cmpI_gt a b)) rfl rfl
  · subst h; exact bo (c := a ≤ b) (cb_n (by rw [cmpI_gt]; omega)) rfl rfl
  · subst h; exact bo (c := a ≠ b) (cb_n (by rw [cmpI_eq]; omega)) rfl rfl
  · subst h; exact bo (c := b ≤ a) (cb_n (by rw [cmpI_lt]; omega)) rfl rfl
  · subst h; exact bo (c := a ≠ 0 ∨ b ≠ 0) (c_or a b) rfl rfl
  · subst h; exact bo (c := a ≠ 0 ∧ b ≠ 0) (c_and a b) rfl rfl
  · exact absurd h n312
/-- the second system's knot, by its number -/
def VO (M : MM) (k x10 x16 : Int) : Option (Int × MM) :=
if k = 3 then
(if (cmpI x10 0) = 0 then
(some (0, M))
else
if (cmpI x16 0) = 0 then
(some (0, M))
else
some (1, M))
else
if k = 4 then
(if (cmpI x10 0) = 0 then
(if (cmpI x16 0) = 0 then
(some (0, M))
else
some (1, M))
else
some (1, M))
else
if k = 11 then
((f_X12_bounded M (w64 (x10 + x16))).bind fun x49 =>
some (x49.1, x49.2))
else
if k = 12 then
((f_X12_bounded M (w64 (x10 - x16))).bind fun x51 =>
some (x51.1, x51.2))
else
if k = 13 then
((f_X12_times M x10 x16).bind fun x53 =>
some (x53.1, x53.2))
else
if k = 14 then
(((if (M 88 53) = 0 then
(if (cmpI x16 0) = 0 then
(some 1)
else
some 0)
else
some 1) : Option (Int)).bind fun x57 =>
gd (x57 = 0 ∨ x57 = 1) <|
bM (upM M 88 53 x57) fun M59 =>
if (M59 88 53) = 0 then
(gd (x16 ≠ 0) <|
some (w64 (Int.tdiv x10 x16), M59))
else
some (0, M59))
else
(f_X12_compares M k x10 x16).bind fun x63 =>
if x63 = 0 then
(some (0, M))
else
some (1, M)
theorem vo_eq {p i j : Nat} {k : Int} (hp : p < 64) (h9 : N 109 p = k) (hk : k = 3 ∨ k = 4 ∨ k = 5 ∨ k = 6 ∨ k = 7 ∨ k = 8 ∨ k = 9 ∨ k = 10 ∨ k = 11 ∨ k = 12 ∨ k = 13 ∨ k = 14) (h0 : N 110 p = (i : Int)) (hi : i < 64) (h1 : N 111 p = (j : Int)) (hj : j < 64) : f_X12_valueOf N (p : Int) = VO N k (N 115 i) (N 115 j) := by
  have z : 0 ≤ (p : Int) ∧ (p : Int) < 128 := by omega
  have zi : 0 ≤ (i : Int) ∧ (i : Int) < 64 := by omega
  have zj : 0 ≤ (j : Int) ∧ (j : Int) < 64 := by omega
  unfold f_X12_valueOf
  rw [gd_t z, Int.toNat_natCast, h9, if_neg (show ¬ k = 0 by omega), gd_t z, if_neg (show ¬ k = 1 by omega), gd_t z, h0, gd_t zi, Int.toNat_natCast, bI_eq, gd_t z, if_neg (show ¬ k = 2 by omega), gd_t z, h1, gd_t zj, Int.toNat_natCast, bI_eq, gd_t z]
  simp only [gd_t z]
  rcases hk with h | h | h | h | h | h | h | h | h | h | h | h <;> subst h <;> rfl
end JND
