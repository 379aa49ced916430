section VRUN
variable {M N : MM} {g w st : Nat}
theorem plc_le {st : Nat} : ∀ {K V A B : List Int}, OKK st K V A B → (plc st K).length ≤ K.length
  | [], _, _, _, _ => Nat.le_refl 0
  | x :: K, V, A, B, h => by
    obtain ⟨v, V', a, A', b, B', rfl, rfl, rfl, h1, h2⟩ := OKK_cons h
    have i := plc_le h1
    have k := KN_of h2
    rw [plc_len k, List.length_cons]
    have n : LF x ∨ (x = 312 ∧ 1 ≤ (plc st K).length ∨ x ≠ 312 ∧ 2 ≤ (plc st K).length) := by
      rcases k with h | h | h | h
      · exact Or.inl (Or.inl h.1)
      · exact Or.inl (Or.inr h)
      · exact Or.inr (Or.inl h)
      · exact Or.inr (Or.inr ⟨h.1.2.2, h.2⟩)
    by_cases q : LF x
    · rw [if_pos q]; omega
    · rw [if_neg q]
      by_cases r : x = 312
      · rw [if_pos r]; omega
      · rw [if_neg r]; omega
/-- the class's run over the knots of a law -/
theorem v_run {e : Nat} (hw : w < 3) (he : M (g + 16) w = (e : Int)) (h64 : e ≤ 64) (nm : NmOK (M (g + 18))) : ∀ {K V A B : List Int} (m : Nat), OKK st K V A B → STK (fun i => M (g + 13) (st + i)) K → STK (fun i => M (g + 14) (st + i)) V → st + K.length ≤ e → (∃ s M', rv (M (g + 18)) K V = some s ∧ lp (cs3 (g + 12) (w : Int)) (m + K.length) (0, (st : Int), M) = lp (cs3 (g + 12) (w : Int)) m ((s.length : Int), ((st + K.length : Nat) : Int), M') ∧ STK (M' (g + 17)) s ∧ ∀ a, a ≠ g + 17 → M' a = M a) ∨ (rv (M (g + 18)) K V = none ∧ ∃ M', lp (cs3 (g + 12) (w : Int)) (m + K.length) (0, (st : Int), M) = some (Sum.inr (ERR, M')) ∧ ∀ a, a ≠ g + 17 → M' a = M a)
  | [], V, A, B, m, _, _, _, _ => Or.inl ⟨[], M, by cases V <;> rfl, rfl, trivial, fun _ _ => rfl⟩
  | x :: K, V, A, B, m, hk, s1, s2, hl => by
    obtain ⟨v, V', a, A', b, B', rfl, rfl, rfl, h1, h2⟩ := OKK_cons hk
    obtain ⟨s1a, s1b⟩ := s1
    obtain ⟨s2a, s2b⟩ := s2
    have vl := (OKK_len h1).1
    rw [vl] at s2a
    rw [List.length_cons] at hl
    have fu : m + (x :: K).length = m + 1 + K.length := by rw [List.length_cons]; omega
    rw [fu]
    rcases v_run hw he h64 nm (m + 1) h1 s1b s2b (by omega) with ⟨s0, M1, i1, i2, i3, i4⟩ | ⟨i1, M1, i2, i3⟩
    · obtain ⟨b0, l0⟩ := rv_ok h1 i1
      have pl := plc_le h1
      have r13 : M1 (g + 12 + 1) (st + K.length) = x := by
        have : M1 (g + 13) = M (g + 13) := i4 _ (by omega)
        show M1 (g + 13) (st + K.length) = x
        rw [this]; exact s1a
      have r14 : M1 (g + 14) (st + K.length) = v := by rw [i4 _ (by omega)]; exact s2a
      have r16 : M1 (g + 12 + 4) w = (e : Int) := by
        show M1 (g + 16) w = _
        rw [i4 _ (by omega)]; exact he
      have r18 : M1 (g + 18) = M (g + 18) := i4 _ (by omega)
      have zw : 0 ≤ (w : Int) ∧ (w : Int) < 3 := by omega
      have zi : 0 ≤ ((st + K.length : Nat) : Int) ∧ ((st + K.length : Nat) : Int) < 64 := by omega
      have lt : ((st + K.length : Nat) : Int) < (e : Int) := by omega
      have ec : cs3 (g + 12) (w : Int) ((s0.length : Int), ((st + K.length : Nat) : Int), M1) = bS (knt (g + 12) (s0.length : Int) ((st + K.length : Nat) : Int) M1 x) (fun x40 => some (Sum.inl (x40.1, ((st + (K.length + 1) : Nat) : Int), x40.2))) (fun r => (Sum.inr (Sum.inr r))) := by
        show gd (0 ≤ (w : Int) ∧ (w : Int) < (3 : Int)) (if ((st + K.length : Nat) : Int) < (M1 (g + 12 + 4) ((w : Int)).toNat) then (gd (0 ≤ ((st + K.length : Nat) : Int) ∧ ((st + K.length : Nat) : Int) < (64 : Int)) <| bI (M1 (g + 12 + 1) (((st + K.length : Nat) : Int)).toNat) fun x7 => bS (knt (g + 12) (s0.length : Int) ((st + K.length : Nat) : Int) M1 x7) (fun x40 => some (Sum.inl (x40.1, w32 (((st + K.length : Nat) : Int) + 1), x40.2))) (fun r => (Sum.inr (Sum.inr r)))) else some (Sum.inr (Sum.inl ((s0.length : Int), M1)))) = _
        rw [gd_t zw, Int.toNat_natCast, r16, if_pos lt, gd_t zi, Int.toNat_natCast, r13, bI_eq, wi7 (by omega)]
        rfl
      have k := KN_of h2
      rcases c_knot (g := g) (i := st + K.length) (by omega) r14 i3 (by omega) b0 (by rw [r18]; exact nm) (by rw [l0]; exact k) with ⟨s, M2, j1, j2, j3, j4⟩ | ⟨j1, j2⟩
      · left
        rw [r18] at j1
        refine ⟨s, M2, ?_, ?_, j3, fun a ha => (j4 a ha).trans (i4 a ha)⟩
        · show (rv (M (g + 18)) K V').bind (stk1 (M (g + 18)) x v) = some s
          rw [i1, Option.bind_some]; exact j1
        · rw [j2, bS_l] at ec
          rw [i2, lp_s m ec, List.length_cons]
      · right
        rw [r18] at j1
        refine ⟨?_, M1, ?_, i4⟩
        · show (rv (M (g + 18)) K V').bind (stk1 (M (g + 18)) x v) = none
          rw [i1, Option.bind_some]; exact j1
        · rw [j2, bS_r] at ec
          rw [i2, lp_e m ec]
    · right
      refine ⟨?_, M1, i2, i3⟩
      show (rv (M (g + 18)) K V').bind (stk1 (M (g + 18)) x v) = none
      rw [i1]; rfl
theorem val_eq (a0 : Nat) (p1 : Int) : f_X3_value M a0 p1 = gd (0 ≤ p1 ∧ p1 < (3 : Int)) (bI (M (a0 + 3) (p1).toNat) fun x2 => bS (lp (cs3 a0 p1) FU (0, x2, M)) (fun x41 => if 0 < x41.1 then (some (x41.2 (a0 + 5) 0, x41.2)) else some ((-9223372036854775808), x41.2)) (fun r => r)) := rfl
/-- a law's value: the class's -/
theorem c_law {K V A B : List Int} (hw : w < 3) (h0 : M (g + 15) w = (st : Int)) (he : M (g + 16) w = ((st + K.length : Nat) : Int)) (h64 : st + K.length ≤ 64) (nm : NmOK (M (g + 18))) (hk : OKK st K V A B) (hp : (plc st K).length = 1) (s1 : STK (fun i => M (g + 13) (st + i)) K) (s2 : STK (fun i => M (g + 14) (st + i)) V) : ∃ M', f_X3_value M (g + 12) (w : Int) = some ((((rv (M (g + 18)) K V).map (fun s => s.headD 0)).getD ERR), M') ∧ ∀ a, a ≠ g + 17 → M' a = M a := by
  have zw : 0 ≤ (w : Int) ∧ (w : Int) < 3 := by omega
  have h0 : M (g + 12 + 3) w = (st : Int) := h0
  have fu : FU = (FU - 1 - K.length) + 1 + K.length := by unfold FU; omega
  rw [val_eq, gd_t zw, Int.toNat_natCast, h0, bI_eq, fu]
  rcases v_run (g := g) hw he h64 nm (FU - 1 - K.length + 1) hk s1 s2 (Nat.le_refl _) with ⟨s, M1, i1, i2, i3, i4⟩ | ⟨i1, M1, i2, i3⟩
  · obtain ⟨b0, l0⟩ := rv_ok hk i1
    obtain ⟨v, rfl⟩ : ∃ v, s = [v] := by
      rw [hp] at l0
      match s, l0 with
      | [v], _ => exact ⟨v, rfl⟩
    have r16 : M1 (g + 12 + 4) w = ((st + K.length : Nat) : Int) := by
      show M1 (g + 16) w = _
      rw [i4 _ (by omega)]; exact he
    have ee : cs3 (g + 12) (w : Int) ((([v] : List Int).length : Int), ((st + K.length : Nat) : Int), M1) = some (Sum.inr (Sum.inl (1, M1))) := by
      show gd (0 ≤ (w : Int) ∧ (w : Int) < (3 : Int)) (if ((st + K.length : Nat) : Int) < (M1 (g + 12 + 4) ((w : Int)).toNat) then _ else some (Sum.inr (Sum.inl (1, M1)))) = _
      rw [gd_t zw, Int.toNat_natCast, r16, if_neg (by omega)]
    rw [i2, lp_e _ ee, bS_l, if_pos (show 0 < ((1 : Int), M1).1 from Int.one_pos), i1]
    refine ⟨M1, ?_, i4⟩
    have : M1 (g + 12 + 5) 0 = v := i3.1
    show some (M1 (g + 12 + 5) 0, M1) = _
    rw [this]; rfl
  · rw [i2, bS_r, i1]
    exact ⟨M1, rfl, i3⟩
end VRUN
