/-- one cell of what may be undone, changed now -/
def setS (S : MM) (i : Nat) (v : Int) : MM := if i = 0 then upM S 0 3 v else if i = 1 then upM S 0 4 v else if i = 2 then upM S 0 5 v else upM S 2 (i - 3) v
section UNDO
variable {M N H S B T ST : MM} {LV : LVT} {h : Nat}
theorem snp_set {i : Nat} {v : Int} (j : Nat) (hi : i < 8) : snp (setS S i v) j = if j = i then v else snp S j := by
  unfold setS snp
  by_cases i0 : i = 0
  · subst i0
    rw [if_pos rfl]
    by_cases j0 : j = 0
    · rw [if_pos j0, if_pos j0, upM_eq]
    · rw [if_neg j0, if_neg j0, if_neg j0, up_ni (by decide), up_ni (by decide), up_na (by decide)]
  rw [if_neg i0]
  by_cases i1 : i = 1
  · subst i1
    rw [if_pos rfl]
    by_cases j1 : j = 1
    · subst j1
      rw [if_neg (by decide), if_pos rfl, if_pos rfl, upM_eq]
    · rw [if_neg j1, if_neg j1, if_neg j1, up_ni (by decide), up_ni (by decide), up_na (by decide)]
  rw [if_neg i1]
  by_cases i2 : i = 2
  · subst i2
    rw [if_pos rfl]
    by_cases j2 : j = 2
    · subst j2
      rw [if_neg (by decide), if_neg (by decide), if_pos rfl, if_pos rfl, upM_eq]
    · rw [if_neg j2, if_neg j2, if_neg j2, up_ni (by decide), up_ni (by decide), up_na (by decide)]
  rw [if_neg i2, up_na (by decide), up_na (by decide), up_na (by decide)]
  by_cases e : j = i
  · subst e
    rw [if_neg i0, if_neg i1, if_neg i2, upM_eq, if_pos rfl]
  · rw [if_neg e]
    by_cases j0 : j = 0
    · rw [if_pos j0, if_pos j0]
    rw [if_neg j0, if_neg j0]
    by_cases j1 : j = 1
    · rw [if_pos j1, if_pos j1]
    rw [if_neg j1, if_neg j1]
    by_cases j2 : j = 2
    · rw [if_pos j2, if_pos j2]
    rw [if_neg j2, if_neg j2, up_ni (by omega)]
theorem set_o {i : Nat} {v : Int} {a j : Nat} (h1 : a ≠ 0 ∨ (j ≠ 3 ∧ j ≠ 4 ∧ j ≠ 5)) (h2 : a ≠ 2) : setS S i v a j = S a j := by
  unfold setS
  split
  · exact upM_ne a j (by omega)
  split
  · exact upM_ne a j (by omega)
  split
  · exact upM_ne a j (by omega)
  · exact up_na h2
theorem row_now (hSo : SOK H S) : RowOK H (snp S) := by
  obtain ⟨_, x2, x3, x4, _, _, _, x8, _⟩ := hSo
  refine ⟨x2, x3, fun j h1 h2 => ?_⟩
  unfold snp
  rw [if_neg (by omega), if_neg (by omega)]
  by_cases q : j = 2
  · rw [if_pos q]; exact x4
  · rw [if_neg q]; exact x8 _ (by omega)
theorem row_back {i : Nat} {v : Int} (hi : i < 8) (hSo : SOK H S) (hr : RowOK H (snp (setS S i v))) : SOK H (setS S i v) := by
  obtain ⟨y1, y2, y3⟩ := hr
  obtain ⟨x1, x2, x3, x4, x5, x6, x7, x8, h30, x10, x11, x12⟩ := hSo
  have sa : ∀ a j, a ≠ 0 → a ≠ 2 → setS S i v a j = S a j := fun a j h1 h2 => set_o (Or.inl h1) h2
  have s0 : ∀ j, (j ≠ 3 ∧ j ≠ 4 ∧ j ≠ 5) → setS S i v 0 j = S 0 j := fun j h1 => set_o (Or.inr h1) (by decide)
  unfold SOK
  simp (disch := decide) only [sa, s0]
  refine ⟨x1, y1, y2, ?_, x5, x6, x7, ?_, h30, x10, x11, x12⟩
  · exact y3 2 (by decide) (by decide)
  · intro j hj
    have := y3 (j + 3) (by omega) (by omega)
    unfold snp at this
    rw [if_neg (by omega), if_neg (by omega), if_neg (by omega)] at this
    exact this
/-- what is now, changed in one cell on both sides -/
theorem BA.set1 {i : Nat} {v : Int} {M' N' : MM} (g : BA M N h H LV S) (hi : i < 8) (hr : RowOK H (snp (setS S i v))) (hM : CC M' 54 (setS S i v)) (fM : ∀ a, a < 54 → M' a = M a) (fN : ∀ a j, 92 ≤ a → a ≤ 129 → a ≠ 120 → a ≠ 121 → a ≠ 122 → a ≠ 123 → N' a j = N a j) (fN8 : ∀ j, 12 ≤ j → j ≤ 16 → N' 88 j = N 88 j) (hN : N' 121 0 = snp (setS S i v) 0 ∧ N' 122 0 = snp (setS S i v) 1 ∧ N' 123 0 = snp (setS S i v) 2 ∧ ∀ p : Nat, p < 5 → N' 120 p = snp (setS S i v) (p + 3)) : BA M' N' h H LV (setS S i v) := by
  obtain ⟨⟨a1, a2, a3, a4, a5⟩, ⟨b1, b2, b3⟩, ⟨c1, c2, c3, c4, c5, c6⟩, d1, d2, d3⟩ := g
  have sa : ∀ a j, a ≠ 0 → a ≠ 2 → setS S i v a j = S a j := fun a j h1 h2 => set_o (Or.inl h1) h2
  have s0 : ∀ j, (j ≠ 3 ∧ j ≠ 4 ∧ j ≠ 5) → setS S i v 0 j = S 0 j := fun j h1 => set_o (Or.inr h1) (by decide)
  refine ⟨⟨a1, ?_, ?_, ?_, hM⟩, ⟨?_, ?_, ?_⟩, ⟨c1, c2, c3, row_back hi c4 hr, ?_, ?_⟩, ?_, ?_, ?_⟩
  · rw [fM 0 (by decide)]; exact a2
  · intro k k1 k2 k3
    rw [fM (h + k) (by omega)]
    exact a3 k k1 k2 k3
  · intro m hm w hw hn
    exact a4 m (fun k x y => by rw [hm k x y, fM (h + k) (by omega)]) w hw hn
  · unfold HM at *
    simp (disch := decide) only [fN, fN8]
    exact b1
  · intro n hn w hw ok
    have e : ∀ a, 106 ≤ a → a ≤ 111 → N' a = N a := fun a x y => funext fun j => fN a j (by omega) (by omega) (by omega) (by omega) (by omega) (by omega)
    have := b2 n (fun a j x => (hn a j x).trans (congrFun (e a (by omega) (by omega)) j)) w hw ok
    rw [e 106 (by omega) (by omega)]
    exact this
  · obtain ⟨⟨k1, k2, k3, k4, k5, k6, k7⟩, l2, l3, l4⟩ := b3
    refine ⟨⟨?_, ?_, ?_, ?_, ?_, ?_, ?_⟩, ?_, ?_, ?_⟩
    · rw [fN 127 0 (by decide) (by decide) (by decide) (by decide) (by decide) (by decide), s0 2 (by decide)]; exact k1
    · rw [hN.1]; rfl
    · rw [hN.2.1]; rfl
    · rw [hN.2.2.1]; rfl
    · rw [fN 124 0 (by decide) (by decide) (by decide) (by decide) (by decide) (by decide), s0 13 (by decide)]; exact k5
    · rw [fN 125 0 (by decide) (by decide) (by decide) (by decide) (by decide) (by decide), s0 14 (by decide)]; exact k6
    · rw [fN 126 0 (by decide) (by decide) (by decide) (by decide) (by decide) (by decide), s0 15 (by decide)]; exact k7
    · intro p hp
      obtain ⟨m1, m2, m3⟩ := l2 p hp
      rw [hN.2.2.2 p hp, fN 119 p (by decide) (by decide) (by decide) (by decide) (by decide) (by decide), fN 118 p (by decide) (by decide) (by decide) (by decide) (by decide) (by decide), sa 5 p (by decide) (by decide), sa 4 p (by decide) (by decide)]
      refine ⟨?_, m2, m3⟩
      unfold snp
      rw [if_neg (by omega), if_neg (by omega), if_neg (by omega)]
      rfl
    · simp (disch := decide) only [fN, sa]; exact l3
    · simp (disch := decide) only [fN, sa]; exact l4
  · unfold SP at *
    rw [s0 13 (by decide), s0 2 (by decide), s0 14 (by decide)]
    exact c5
  · rw [s0 1 (by decide)]; exact c6
  · intro j hj; rw [sa 1 j (by decide) (by decide)]; exact d1 j hj
  · intro j hj; rw [sa 1 j (by decide) (by decide)]; exact d2 j hj
  · rw [s0 2 (by decide)]; exact d3
/-- the class notes -/
theorem c_note (p1 p2 p3 : Int) (hr : 0 ≤ M 84 0 ∧ M 84 0 ≤ 20) : ∃ M', f_X5_note M p1 p2 p3 = some M' ∧ (∃ n : Nat, n < 20 ∧ M' 84 0 = (n : Int) + 1 ∧ (M 84 0 = (n : Int) ∨ (n = 19 ∧ M 84 0 = 20)) ∧ (M' 85 n = p1 ∧ M' 86 n = p2 ∧ M' 87 n = p3) ∧ ∀ k : Nat, k < n → M' 85 k = M 85 (if M 84 0 = 20 then k + 1 else k) ∧ M' 86 k = M 86 (if M 84 0 = 20 then k + 1 else k) ∧ M' 87 k = M 87 (if M 84 0 = 20 then k + 1 else k)) ∧ ∀ a, a < 84 ∨ 87 < a → M' a = M a := by
  unfold f_X5_note
  by_cases q : M 84 0 < 20
  · obtain ⟨n, hn⟩ := nat_of hr.1
    have hn20 : n < 20 := by omega
    have z : 0 ≤ (n : Int) ∧ (n : Int) < 20 := by omega
    rw [if_pos q, Option.bind_some]
    rw [bM_eq, bM_eq, bM_eq, bM_eq]
    simp (disch := decide) only [up_na]
    rw [hn, gd_t z, gd_t z, gd_t z, Int.toNat_natCast, wi1 (by omega)]
    refine ⟨_, rfl, ⟨n, hn20, upM_eq, Or.inl rfl, ?_, ?_⟩, fun a ha => ?_⟩
    · simp (disch := decide) only [up_na, upM_eq]
      exact ⟨trivial, trivial, trivial⟩
    · intro k hk
      rw [if_neg (by omega)]
      have e : k ≠ n := by omega
      simp (disch := first | decide | exact e) only [up_na, up_ni]
      exact ⟨trivial, trivial, trivial⟩
    · rw [up_row (by omega), up_row (by omega), up_row (by omega), up_row (by omega)]
  · have e20 : M 84 0 = 20 := by omega
    rw [if_neg q, bM_eq]
    have u : upM M 84 0 19 84 0 = 19 := upM_eq
    have v1 : cpM (upM M 84 0 19) 85 85 1 0 (19 : Int).toNat 84 0 = 19 := by rw [cp_na (by decide)]; exact u
    have v2 : cpM (cpM (upM M 84 0 19) 85 85 1 0 (19 : Int).toNat) 86 86 1 0 (19 : Int).toNat 84 0 = 19 := by rw [cp_na (by decide)]; exact v1
    rw [u, gd_t (by decide), bM_eq, v1, gd_t (by decide), bM_eq, v2, gd_t (by decide), bM_eq, Option.bind_some]
    have v3 : cpM (cpM (cpM (upM M 84 0 19) 85 85 1 0 (19 : Int).toNat) 86 86 1 0 (19 : Int).toNat) 87 87 1 0 (19 : Int).toNat 84 0 = 19 := by rw [cp_na (by decide)]; exact v2
    have w85 : ∀ k, cpM (cpM (cpM (upM M 84 0 19) 85 85 1 0 (19 : Int).toNat) 86 86 1 0 (19 : Int).toNat) 87 87 1 0 (19 : Int).toNat 85 k = if k < 19 then M 85 (k + 1) else M 85 k := fun k => by
      rw [cp_na (by decide), cp_na (by decide)]
      unfold cpM
      rw [up_na (by decide), up_na (by decide)]
      by_cases c : k < 19
      · rw [if_pos ⟨rfl, Nat.zero_le _, by show k < 0 + 19; omega⟩, if_pos c, Nat.sub_zero, Nat.add_comm]
      · rw [if_neg (fun z => c (by have := z.2.2; change k < 0 + 19 at this; omega)), if_neg c]
    have w86 : ∀ k, cpM (cpM (cpM (upM M 84 0 19) 85 85 1 0 (19 : Int).toNat) 86 86 1 0 (19 : Int).toNat) 87 87 1 0 (19 : Int).toNat 86 k = if k < 19 then M 86 (k + 1) else M 86 k := fun k => by
      rw [cp_na (by decide)]
      have e : ∀ j, cpM (upM M 84 0 19) 85 85 1 0 (19 : Int).toNat 86 j = M 86 j := fun j => by rw [cp_na (by decide), up_na (by decide)]
      generalize cpM (upM M 84 0 19) 85 85 1 0 (19 : Int).toNat = A at e
      unfold cpM
      rw [e, e]
      by_cases c : k < 19
      · rw [if_pos ⟨rfl, Nat.zero_le _, by show k < 0 + 19; omega⟩, if_pos c, Nat.sub_zero, Nat.add_comm]
      · rw [if_neg (fun z => c (by have := z.2.2; change k < 0 + 19 at this; omega)), if_neg c]
    have w87 : ∀ k, cpM (cpM (cpM (upM M 84 0 19) 85 85 1 0 (19 : Int).toNat) 86 86 1 0 (19 : Int).toNat) 87 87 1 0 (19 : Int).toNat 87 k = if k < 19 then M 87 (k + 1) else M 87 k := fun k => by
      have e : ∀ j, cpM (cpM (upM M 84 0 19) 85 85 1 0 (19 : Int).toNat) 86 86 1 0 (19 : Int).toNat 87 j = M 87 j := fun j => by rw [cp_na (by decide), cp_na (by decide), up_na (by decide)]
      generalize cpM (cpM (upM M 84 0 19) 85 85 1 0 (19 : Int).toNat) 86 86 1 0 (19 : Int).toNat = A at e
      unfold cpM
      rw [e, e]
      by_cases c : k < 19
      · rw [if_pos ⟨rfl, Nat.zero_le _, by show k < 0 + 19; omega⟩, if_pos c, Nat.sub_zero, Nat.add_comm]
      · rw [if_neg (fun z => c (by have := z.2.2; change k < 0 + 19 at this; omega)), if_neg c]
    have wa : ∀ a, a < 84 ∨ 87 < a → cpM (cpM (cpM (upM M 84 0 19) 85 85 1 0 (19 : Int).toNat) 86 86 1 0 (19 : Int).toNat) 87 87 1 0 (19 : Int).toNat a = M a := fun a ha => by rw [cp_row (by omega), cp_row (by omega), cp_row (by omega), up_row (by omega)]
    generalize cpM (cpM (cpM (upM M 84 0 19) 85 85 1 0 (19 : Int).toNat) 86 86 1 0 (19 : Int).toNat) 87 87 1 0 (19 : Int).toNat = A at v3 w85 w86 w87 wa
    rw [bM_eq, bM_eq, bM_eq, bM_eq]
    simp (disch := decide) only [up_na]
    rw [v3, gd_t (by decide), gd_t (by decide), gd_t (by decide)]
    refine ⟨_, rfl, ⟨19, by decide, upM_eq, Or.inr ⟨rfl, e20⟩, ?_, ?_⟩, fun a ha => ?_⟩
    · have t : (19 : Int).toNat = 19 := rfl
      rw [t]
      simp (disch := decide) only [up_na, upM_eq]
      exact ⟨trivial, trivial, trivial⟩
    · intro k hk
      have e : k ≠ (19 : Int).toNat := by show k ≠ 19; omega
      rw [if_pos e20]
      simp (disch := first | decide | exact e) only [up_na, up_ni, w85, w86, w87, if_pos hk]
      exact ⟨trivial, trivial, trivial⟩
    · rw [up_row (by omega), up_row (by omega), up_row (by omega), up_row (by omega)]
      exact wa a ha
end UNDO
