section JND2
variable {M N : MM}
theorem m_bounded {y : Int} (hf : N 88 53 = 0 ∨ N 88 53 = 1) : ∃ v N', f_X12_bounded N y = some (v, N') ∧ (∀ a j, ¬ (a = 88 ∧ j = 53) → N' a j = N a j) ∧ bd v ∧ ((N 88 53 = 0 ∧ bd y ∧ v = y ∧ N' 88 53 = 0) ∨ (¬ (N 88 53 = 0 ∧ bd y) ∧ N' 88 53 = 1)) := by
  unfold f_X12_bounded
  by_cases q : N 88 53 = 0 ∧ bd y
  · rw [if_pos q.1, if_neg (show ¬ 0 < cmpI y 1000000000000 by rw [cmpI_gt]; have := q.2.2; omega), if_neg (show ¬ cmpI y (-1000000000000) < 0 by rw [cmpI_lt]; have := q.2.1; omega), Option.bind_some, gd_t (Or.inl rfl), bM_eq, upM_eq, if_pos rfl]
    exact ⟨y, _, rfl, fun a j h => upM_ne a j h, q.2, Or.inl ⟨q.1, q.2, rfl, upM_eq⟩⟩
  · have e : ((if (N 88 53) = 0 then (if 0 < (cmpI y 1000000000000) then (some 1) else if (cmpI y (-1000000000000)) < 0 then (some 1) else some 0) else some 1) : Option Int) = some 1 := by
      by_cases q0 : N 88 53 = 0
      · rw [if_pos q0]
        by_cases q1 : 1000000000000 < y
        · rw [if_pos ((cmpI_gt _ _).mpr q1)]
        · rw [if_neg (fun z => q1 ((cmpI_gt _ _).mp z)), if_pos ((cmpI_lt _ _).mpr (by
            have : ¬ bd y := fun z => q ⟨q0, z⟩
            unfold bd at this
            omega))]
      · rw [if_neg q0]
    rw [e, Option.bind_some, gd_t (Or.inr rfl), bM_eq, upM_eq, if_neg (show ¬ (1 : Int) = 0 by decide)]
    exact ⟨0, _, rfl, fun a j h => upM_ne a j h, by decide, Or.inr ⟨q, upM_eq⟩⟩
theorem m_times {a b : Int} (ha : bd a) (hb : bd b) (hf : N 88 53 = 0 ∨ N 88 53 = 1) : ∃ v N', f_X12_times N a b = some (v, N') ∧ (∀ c j, ¬ (c = 88 ∧ j = 53) → N' c j = N c j) ∧ bd v ∧ ((N 88 53 = 0 ∧ bd (a * b) ∧ v = a * b ∧ N' 88 53 = 0) ∨ (¬ (N 88 53 = 0 ∧ bd (a * b)) ∧ N' 88 53 = 1)) := by
  obtain ⟨x9, e9, h9⟩ : ∃ x9 : Int, ((if (cmpI a 0) = 0 then (some 0) else if (cmpI b 0) = 0 then (some 0) else ((if (cmpI b 0) < 0 then (some (w64 (-b))) else some b) : Option (Int)).bind fun x4 => ((if (cmpI a 0) < 0 then (some (w64 (-a))) else some a) : Option (Int)).bind fun x6 => gd (x6 ≠ 0) <| if 0 < (cmpI x4 (w64 (Int.tdiv 1000000000000 x6))) then (some 1) else some 0) : Option (Int)) = some x9 ∧ ((x9 = 0 ∧ bd (a * b)) ∨ (x9 = 1 ∧ ¬ bd (a * b))) := by
    by_cases a0 : a = 0
    · exact ⟨0, by rw [if_pos ((cmpI_eq a 0).mpr a0)], Or.inl ⟨rfl, by rw [a0, Int.zero_mul]; decide⟩⟩
    by_cases b0 : b = 0
    · exact ⟨0, by rw [if_neg (fun z => a0 ((cmpI_eq a 0).mp z)), if_pos ((cmpI_eq b 0).mpr b0)], Or.inl ⟨rfl, by rw [b0, Int.mul_zero]; decide⟩⟩
    obtain ⟨A, hA, eA⟩ : ∃ A, ((0 < a ∧ A = a) ∨ (a < 0 ∧ A = -a)) ∧ ((if (cmpI a 0) < 0 then (some (w64 (-a))) else some a) : Option Int) = some A := by
      by_cases q : a < 0
      · exact ⟨-a, Or.inr ⟨q, rfl⟩, by rw [if_pos ((cmpI_lt a 0).mpr q), bd_w (by omega)]⟩
      · exact ⟨a, Or.inl ⟨by omega, rfl⟩, by rw [if_neg (fun z => q ((cmpI_lt a 0).mp z))]⟩
    obtain ⟨B, hB, eB⟩ : ∃ B, ((0 < b ∧ B = b) ∨ (b < 0 ∧ B = -b)) ∧ ((if (cmpI b 0) < 0 then (some (w64 (-b))) else some b) : Option Int) = some B := by
      by_cases q : b < 0
      · exact ⟨-b, Or.inr ⟨q, rfl⟩, by rw [if_pos ((cmpI_lt b 0).mpr q), bd_w (by omega)]⟩
      · exact ⟨b, Or.inl ⟨by omega, rfl⟩, by rw [if_neg (fun z => q ((cmpI_lt b 0).mp z))]⟩
    have pA : 0 < A := by omega
    obtain ⟨d1, d2, d3⟩ := divq pA
    have mq := mulq (b := b) hA
    rw [if_neg (fun z => a0 ((cmpI_eq a 0).mp z)), if_neg (fun z => b0 ((cmpI_eq b 0).mp z)), eB, Option.bind_some, eA, Option.bind_some, gd_t (show A ≠ 0 by omega), d1]
    clear d1
    generalize 1000000000000 / A = Q at *
    by_cases q : bd (a * b)
    · have m' := mq.mpr q
      exact ⟨0, by rw [if_neg (show ¬ 0 < cmpI B Q by rw [cmpI_gt]; omega)], Or.inl ⟨rfl, q⟩⟩
    · have m' : ¬ (b ≤ Q ∧ -b ≤ Q) := fun z => q (mq.mp z)
      exact ⟨1, by rw [if_pos (show 0 < cmpI B Q by rw [cmpI_gt]; omega)], Or.inr ⟨rfl, q⟩⟩
  unfold f_X12_times
  rw [e9, Option.bind_some]
  by_cases q : N 88 53 = 0 ∧ bd (a * b)
  · have x0 : x9 = 0 := by
      rcases h9 with h | h
      · exact h.1
      · exact absurd q.2 h.2
    rw [if_pos q.1, if_pos x0, Option.bind_some, gd_t (Or.inl rfl), bM_eq, upM_eq, if_pos rfl, bd_w ⟨by have := q.2.1; omega, by have := q.2.2; omega⟩]
    exact ⟨a * b, _, rfl, fun c j h => upM_ne c j h, q.2, Or.inl ⟨q.1, q.2, rfl, upM_eq⟩⟩
  · have e : ((if (N 88 53) = 0 then (if x9 = 0 then (some 0) else some 1) else some 1) : Option Int) = some 1 := by
      by_cases q0 : N 88 53 = 0
      · rw [if_pos q0, if_neg (fun z => by
          rcases h9 with h | h
          · exact q ⟨q0, h.2⟩
          · have := h.1; omega)]
      · rw [if_neg q0]
    rw [e, Option.bind_some, gd_t (Or.inr rfl), bM_eq, upM_eq, if_neg (show ¬ (1 : Int) = 0 by decide)]
    exact ⟨0, _, rfl, fun c j h => upM_ne c j h, by decide, Or.inr ⟨q, upM_eq⟩⟩
/-- what a knot's value is to the second system -/
def KV (N : MM) (jo : Option Int) (o : Option (Int × MM)) : Prop := ∃ v N', o = some (v, N') ∧ (∀ a j, ¬ (a = 88 ∧ j = 53) → N' a j = N a j) ∧ bd v ∧ ((N 88 53 = 0 ∧ jo = some v ∧ N' 88 53 = 0) ∨ (¬ (N 88 53 = 0 ∧ jo ≠ none) ∧ N' 88 53 = 1))
theorem KV.b {jo : Option Int} {o : Option (Int × MM)} {c : Prop} [Decidable c] (hf : N 88 53 = 0 ∨ N 88 53 = 1) (h1 : jo = some (b1 c)) (h2 : o = some (b1 c, N)) : KV N jo o := by
  refine ⟨b1 c, N, h2, fun _ _ _ => rfl, bd_b1 c, ?_⟩
  rcases hf with h | h
  · exact Or.inl ⟨h, h1, h⟩
  · exact Or.inr ⟨fun z => by have := z.1; omega, h⟩
theorem KV.c {jo : Option Int} {o : Option (Int × MM)} {y : Int} (h1 : jo = if bd y then some y else none) (h2 : ∃ v N', o = some (v, N') ∧ (∀ a j, ¬ (a = 88 ∧ j = 53) → N' a j = N a j) ∧ bd v ∧ ((N 88 53 = 0 ∧ bd y ∧ v = y ∧ N' 88 53 = 0) ∨ (¬ (N 88 53 = 0 ∧ bd y) ∧ N' 88 53 = 1))) : KV N jo (o.bind fun x => some (x.1, x.2)) := by
  obtain ⟨v, N', e1, e2, e3, e4⟩ := h2
  refine ⟨v, N', by rw [e1]; rfl, e2, e3, ?_⟩
  rcases e4 with ⟨h, h', h'', h'''⟩ | ⟨h, h'⟩
  · exact Or.inl ⟨h, by rw [h1, if_pos h', h''], h'''⟩
  · refine Or.inr ⟨fun z => h ⟨z.1, Decidable.byContradiction fun w => z.2 (by rw [h1, if_neg w])⟩, h'⟩
theorem c01 {c d : Prop} [Decidable c] [Decidable d] {o : Option Int} (h : o = some (b1 d)) : (o.bind fun x63 => if x63 = 0 then (some ((0 : Int), N)) else some (1, N)) = some (b1 d, N) := by
  rw [h, Option.bind_some]
  rcases b1_z d with q | q <;> rw [q] <;> rfl
/-- a knot that joins two, to the second system -/
theorem m_knot {x a b : Int} (h : JB x) (ha : bd a) (hb : bd b) (hf : N 88 53 = 0 ∨ N 88 53 = 1) : KV N (jn x a b) (VO N (cd x) a b) := by
  obtain ⟨jk, n40, n312⟩ := h
  rcases jk with h | h | h | h | h | h | h | h | h | h | h | h | h | h
  · exact absurd h n40
  · subst h; exact KV.c (y := a * b) rfl (m_times ha hb hf)
  · subst h
    have w : w64 (a + b) = a + b := bd_w (by omega)
    have e : VO N (cd 43) a b = (f_X12_bounded N (w64 (a + b))).bind fun x => some (x.1, x.2) := rfl
    rw [e, w]
    exact KV.c (y := a + b) rfl (m_bounded hf)
  · subst h
    have w : w64 (a - b) = a - b := bd_w (by omega)
    have e : VO N (cd 45) a b = (f_X12_bounded N (w64 (a - b))).bind fun x => some (x.1, x.2) := rfl
    rw [e, w]
    exact KV.c (y := a - b) rfl (m_bounded hf)
  · subst h
    have e : VO N (cd 47) a b = (((if (N 88 53) = 0 then (if (cmpI b 0) = 0 then (some 1) else some 0) else some 1) : Option (Int)).bind fun x57 => gd (x57 = 0 ∨ x57 = 1) <| bM (upM N 88 53 x57) fun M59 => if (M59 88 53) = 0 then (gd (b ≠ 0) <| some (w64 (Int.tdiv a b), M59)) else some (0, M59)) := rfl
    have ej : jn 47 a b = if b = 0 then none else some (a.tdiv b) := rfl
    rw [e, ej]
    by_cases q : N 88 53 = 0 ∧ b ≠ 0
    · have z := bd_div (b := b) ha
      rw [if_pos q.1, if_neg (fun w => q.2 ((cmpI_eq b 0).mp w)), Option.bind_some, gd_t (Or.inl rfl), bM_eq, upM_eq, if_pos rfl, gd_t q.2, bd_w ⟨by have := z.1; omega, by have := z.2; omega⟩, if_neg q.2]
      exact ⟨a.tdiv b, _, rfl, fun c j h => upM_ne c j h, z, Or.inl ⟨q.1, rfl, upM_eq⟩⟩
    · have e1 : ((if (N 88 53) = 0 then (if (cmpI b 0) = 0 then (some 1) else some 0) else some 1) : Option Int) = some 1 := by
        by_cases q0 : N 88 53 = 0
        · rw [if_pos q0, if_pos ((cmpI_eq b 0).mpr (Decidable.byContradiction fun w => q ⟨q0, w⟩))]
        · rw [if_neg q0]
      rw [e1, Option.bind_some, gd_t (Or.inr rfl), bM_eq, upM_eq, if_neg (show ¬ (1 : Int) = 0 by decide)]
      refine ⟨0, _, rfl, fun c j h => upM_ne c j h, by decide, Or.inr ⟨fun w => w.2 ?_, upM_eq⟩⟩
      rw [if_pos (Decidable.byContradiction fun u => q ⟨w.1, u⟩)]
  · subst h; exact KV.b (c := a < b) hf rfl (c01 (c := True) (cb_p (cmpI_lt a b)))
  · subst h; exact KV.b (c := a = b) hf rfl (c01 (c := True) (cb_p (cmpI_eq a b)))
  · subst h; exact KV.b (c := b < a) hf rfl (c01 (c := True) (cb_p (cmpI_gt a b)))
  · subst h; exact KV.b (c := a ≤ b) hf rfl (c01 (c := True) (cb_n (by rw [cmpI_gt]; omega)))
  · subst h; exact KV.b (c := a ≠ b) hf rfl (c01 (c := True) (cb_n (by rw [cmpI_eq]; omega)))
  · subst h; exact KV.b (c := b ≤ a) hf rfl (c01 (c := True) (cb_n (by rw [cmpI_lt]; omega)))
  · subst h
    refine KV.b (c := a ≠ 0 ∨ b ≠ 0) hf rfl ?_
    have := c_or a b
    show (if cmpI a 0 = 0 then (if cmpI b 0 = 0 then some ((0 : Int), N) else some (1, N)) else some (1, N)) = _
    by_cases q1 : cmpI a 0 = 0
    · rw [if_pos q1] at this ⊢
      by_cases q2 : cmpI b 0 = 0
      · rw [if_pos q2] at this ⊢; rw [← Option.some.inj this]
      · rw [if_neg q2] at this ⊢; rw [← Option.some.inj this]
    · rw [if_neg q1] at this ⊢; rw [← Option.some.inj this]
  · subst h
    refine KV.b (c := a ≠ 0 ∧ b ≠ 0) hf rfl ?_
    have := c_and a b
    show (if cmpI a 0 = 0 then some ((0 : Int), N) else if cmpI b 0 = 0 then some (0, N) else some (1, N)) = _
    by_cases q1 : cmpI a 0 = 0
    · rw [if_pos q1] at this ⊢; rw [← Option.some.inj this]
    · rw [if_neg q1] at this ⊢
      by_cases q2 : cmpI b 0 = 0
      · rw [if_pos q2] at this ⊢; rw [← Option.some.inj this]
      · rw [if_neg q2] at this ⊢; rw [← Option.some.inj this]
  · exact absurd h n312
end JND2
