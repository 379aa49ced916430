section FORM
variable {M N : MM} {n t g : Nat}
theorem k_sgn {k v k' w c : Int} (h : KR k v k' w) (hc : c = 59 ∨ c = 40 ∨ c = 41 ∨ c = 43 ∨ c = 45 ∨ c = 42 ∨ c = 47) : (k' = 4 ∧ w = c) ↔ k = c := by
  unfold KR at h
  rcases h with ⟨h1, h2⟩ | ⟨h1, h2, h3⟩ | ⟨h1, h2, h3⟩ | ⟨h1, h2⟩ | ⟨h1, h2, h3⟩ | ⟨h1, h2⟩ | ⟨h1, h2, h3, h4⟩
  · omega
  · clear h3; omega
  · omega
  · omega
  · clear h1; omega
  · rcases h2 with h2 | h2 | h2 | h2 | h2 | h2 <;> omega
  · clear h4; omega
theorem k_key {k v k' w : Int} (h : KR k v k' w) : (k' = 1 ↔ 300 ≤ k) ∧ (k' = 1 → (k = 310 ∧ w = 11) ∨ (k = 311 ∧ w = 10) ∨ (k ≠ 310 ∧ k ≠ 311 ∧ w = k - 300)) ∧ k < 320 := by
  unfold KR at h
  rcases h with ⟨h1, h2⟩ | ⟨h1, h2, h3⟩ | ⟨h1, h2, h3⟩ | ⟨h1, h2⟩ | ⟨h1, h2, h3⟩ | ⟨h1, h2⟩ | ⟨h1, h2, h3, h4⟩
  · exact ⟨by omega, fun z => absurd z (by omega), by omega⟩
  · clear h3; exact ⟨by omega, fun z => absurd z (by omega), by omega⟩
  · exact ⟨by omega, fun z => absurd z (by omega), by omega⟩
  · exact ⟨by omega, fun z => absurd z (by omega), by omega⟩
  · rcases h1 with h1 | h1 | h1 | h1 | h1 | h1 | h1 <;> exact ⟨by omega, fun z => absurd z (by omega), by omega⟩
  · rcases h2 with h2 | h2 | h2 | h2 | h2 | h2 <;> exact ⟨by omega, fun z => absurd z (by omega), by omega⟩
  · exact ⟨⟨fun _ => h2, fun _ => h1⟩, fun _ => h4, h3⟩
theorem k_cmp {k v k' w : Int} (h : KR k v k' w) : (k' = 5 ↔ k = 60 ∨ k = 61 ∨ k = 62 ∨ k = 256 ∨ k = 257 ∨ k = 258) ∧ (k' = 5 → w32 (5 + w) = cd k) := by
  unfold KR at h
  rcases h with ⟨h1, h2⟩ | ⟨h1, h2, h3⟩ | ⟨h1, h2, h3⟩ | ⟨h1, h2⟩ | ⟨h1, h2, h3⟩ | ⟨h1, h2⟩ | ⟨h1, h2, h3, h4⟩
  · exact ⟨by omega, fun z => absurd z (by omega)⟩
  · clear h3; exact ⟨by omega, fun z => absurd z (by omega)⟩
  · exact ⟨by omega, fun z => absurd z (by omega)⟩
  · exact ⟨by omega, fun z => absurd z (by omega)⟩
  · rcases h1 with h1 | h1 | h1 | h1 | h1 | h1 | h1 <;> exact ⟨by omega, fun z => absurd z (by omega)⟩
  · rcases h2 with ⟨h2, h3⟩ | ⟨h2, h3⟩ | ⟨h2, h3⟩ | ⟨h2, h3⟩ | ⟨h2, h3⟩ | ⟨h2, h3⟩ <;> subst h2 <;> subst h3 <;> exact ⟨by omega, fun _ => by decide⟩
  · clear h4; exact ⟨by omega, fun z => absurd z (by omega)⟩
theorem b1_if {c d : Prop} [Decidable c] [Decidable d] {e : Prop} [Decidable e] (h : (c ∧ d) ↔ e) : (if c then (if d then some (1 : Int) else some 0) else some 0) = some (b1 e) := by
  by_cases q : e
  · rw [if_pos (h.mpr q).1, if_pos (h.mpr q).2]; unfold b1; rw [if_pos q]
  · unfold b1
    rw [if_neg q]
    by_cases c1 : c
    · rw [if_pos c1, if_neg (fun z => q (h.mp ⟨c1, z⟩))]
    · rw [if_neg c1]
theorem m_isSign (k : RT' M N n t) {c : Int} (hc : c = 59 ∨ c = 40 ∨ c = 41 ∨ c = 43 ∨ c = 45 ∨ c = 42 ∨ c = 47) : f_X12_isSign N c = some (b1 (M 3 4 = c)) := b1_if (k_sgn k.2.2 hc)
theorem m_isKey (k : RT' M N n t) {c k0 : Int} (hc : (c = 12 ∧ k0 = 312) ∨ (c = 11 ∧ k0 = 310) ∨ (c = 10 ∧ k0 = 311)) : f_X12_isKey N c = some (b1 (M 3 4 = k0)) := b1_if (by
  obtain ⟨a, b, _⟩ := k_key k.2.2
  constructor
  · rintro ⟨x, y⟩
    have := b x
    omega
  · intro x
    have y := a.mpr (by omega)
    have := b y
    exact ⟨y, by omega⟩)
theorem m_nameMet (k : RT' M N n t) : f_X12_nameMet N = some (if 313 ≤ M 3 4 then M 3 4 - 313 else -1) := by
  obtain ⟨a, b, c⟩ := k_key k.2.2
  unfold f_X12_nameMet
  by_cases x : N 88 8 = 1
  · rw [if_pos x]
    have y := b x
    have z := a.mp x
    by_cases q : 313 ≤ M 3 4
    · have e : N 88 9 = M 3 4 - 300 := by omega
      rw [e, if_neg (by omega), if_pos q, w32_i (by omega) (by omega)]
      congr 1
      omega
    · rw [if_pos (by omega), if_neg q]
  · rw [if_neg x, if_neg (fun z => x (a.mpr (by omega)))]
theorem c_isName (M : MM) (p : Int) : f_X9_isName M p = some (b1 (313 ≤ p ∧ p < 320)) := by
  unfold f_X9_isName b1
  by_cases q : p < 313
  · rw [if_pos q, if_neg (by omega)]
  · rw [if_neg q]
    by_cases r : p < 320
    · rw [if_pos r, if_pos ⟨by omega, r⟩]
    · rw [if_neg r, if_neg (fun z => r z.2)]
theorem m_wrong (N : MM) (v : Int) : ∃ N', f_X12_wrong N v = some (0, N') ∧ N' 88 4 = v ∧ N' 88 5 = N 88 10 ∧ ∀ a j, ¬ (a = 88 ∧ (j = 4 ∨ j = 5)) → N' a j = N a j := by
  unfold f_X12_wrong
  rw [bM_eq, bM_eq, up_ni (by decide)]
  exact ⟨_, rfl, by rw [up_ni (by decide), upM_eq], upM_eq, fun a j x => by rw [upM_ne a j (by omega), upM_ne a j (by omega)]⟩
/-- the sign that joins, as the second system numbers it -/
def JB (x : Int) : Prop := JK x ∧ x ≠ 40 ∧ x ≠ 312
theorem rk_jb {x : Int} : (1 ≤ rk x ∧ rk x ≠ 3) ↔ JB x := by
  constructor
  · intro h
    have jk : JK x := by
      unfold rk at h
      unfold JK
      by_cases a1 : x = 42
      · omega
      · by_cases a2 : x = 43
        · omega
        · by_cases a3 : x = 45
          · omega
          · by_cases a4 : x = 47
            · omega
            · by_cases a5 : x = 60
              · omega
              · by_cases a6 : x = 61
                · omega
                · by_cases a7 : x = 62
                  · omega
                  · by_cases a8 : x = 256
                    · omega
                    · by_cases a9 : x = 257
                      · omega
                      · by_cases b1 : x = 258
                        · omega
                        · by_cases b2 : x = 310
                          · omega
                          · by_cases b3 : x = 311
                            · omega
                            · by_cases b4 : x = 312
                              · omega
                              · rw [if_neg a1, if_neg a2, if_neg a3, if_neg a4, if_neg a5, if_neg a6, if_neg a7, if_neg a8, if_neg a9, if_neg b1, if_neg b2, if_neg b3, if_neg b4] at h
                                exact absurd h.1 (by omega)
    refine ⟨jk, fun z => ?_, fun z => ?_⟩
    · subst z; exact absurd h.1 (by decide)
    · subst z; exact h.2 rfl
  · rintro ⟨h, h1, h2⟩
    rcases h with h | h | h | h | h | h | h | h | h | h | h | h | h | h
    · exact absurd h h1
    all_goals first | exact absurd h h2 | (subst h; decide)
theorem m_code (k : RT' M N n t) : ((f_X12_isKey N 10).bind fun x9 =>
((if x9 = 0 then
((f_X12_isKey N 11).bind fun x11 =>
if x11 = 0 then
(if (N 88 8) = 5 then
(some (w32 (5 + (N 88 9))))
else
(f_X12_isSign N 43).bind fun x14 =>
if x14 = 0 then
((f_X12_isSign N 45).bind fun x16 =>
if x16 = 0 then
((f_X12_isSign N 42).bind fun x18 =>
if x18 = 0 then
((f_X12_isSign N 47).bind fun x20 =>
if x20 = 0 then
(some 0)
else
some 14)
else
some 13)
else
some 12)
else
some 11)
else
some 4)
else
some 3) : Option (Int))) = some (if 1 ≤ rk (M 3 4) ∧ rk (M 3 4) ≠ 3 then cd (M 3 4) else 0) := by
  rw [m_isKey k (Or.inr (Or.inr ⟨rfl, rfl⟩)), m_isKey k (Or.inr (Or.inl ⟨rfl, rfl⟩)), m_isSign k (by decide), m_isSign k (by decide), m_isSign k (by decide), m_isSign k (by decide)]
  rw [Option.bind_some, Option.bind_some, Option.bind_some, Option.bind_some, Option.bind_some, Option.bind_some, if_b1, if_b1, if_b1, if_b1, if_b1, if_b1]
  obtain ⟨p1, p2⟩ := k_cmp k.2.2
  by_cases a1 : M 3 4 = 311
  · rw [if_pos a1, a1]; rfl
  · rw [if_neg a1]
    by_cases a2 : M 3 4 = 310
    · rw [if_pos a2, a2]; rfl
    · rw [if_neg a2]
      by_cases a3 : N 88 8 = 5
      · rw [if_pos a3, p2 a3]
        rcases p1.mp a3 with h | h | h | h | h | h <;> rw [h] <;> rfl
      · rw [if_neg a3]
        by_cases a4 : M 3 4 = 43
        · rw [if_pos a4, a4]; rfl
        · rw [if_neg a4]
          by_cases a5 : M 3 4 = 45
          · rw [if_pos a5, a5]; rfl
          · rw [if_neg a5]
            by_cases a6 : M 3 4 = 42
            · rw [if_pos a6, a6]; rfl
            · rw [if_neg a6]
              by_cases a7 : M 3 4 = 47
              · rw [if_pos a7, a7]; rfl
              · rw [if_neg a7, if_neg (fun z => ?_)]
                obtain ⟨z1, z2, z3⟩ := rk_jb.mp z
                have a8 : ¬ (M 3 4 = 60 ∨ M 3 4 = 61 ∨ M 3 4 = 62 ∨ M 3 4 = 256 ∨ M 3 4 = 257 ∨ M 3 4 = 258) := fun y => a3 (p1.mpr y)
                unfold JK at z1
                omega
end FORM
