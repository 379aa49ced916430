/-- the second system: the house, the laws, the course of half b -/
def HM (N H : MM) : Prop := (N 88 12 = H 1 0 ∧ N 88 13 = H 6 0 ∧ N 88 14 = H 0 3 ∧ N 88 15 = H 0 7 ∧ N 88 16 = H 12 7 ∧ N 92 0 = H 0 9 ∧ N 92 1 = H 0 10 ∧ N 92 2 = H 0 11) ∧ (∀ r : Nat, (r : Int) < H 1 0 → N 93 r = H 2 r ∧ N 94 r = H 3 r ∧ N 95 r = H 4 r ∧ N 96 r = H 5 r) ∧ (∀ p : Nat, (p : Int) < H 6 0 → N 97 p = H 7 p ∧ N 98 p = H 8 p ∧ N 99 p = H 9 p ∧ N 100 p = H 10 p ∧ N 101 p = H 11 p) ∧ (∀ s : Nat, (s : Int) < H 0 3 → N 102 s = H 19 s ∧ N 103 s = H 20 s ∧ N 104 s = H 21 s) ∧ (∀ s : Nat, (s : Int) < H 0 7 → N 105 s = H 22 s)
def ML (N : MM) (LV : LVT) : Prop := ∀ n : MM, (∀ a j, (106 ≤ a ∧ a ≤ 108 ∧ j < 3) ∨ (109 ≤ a ∧ a ≤ 111 ∧ j < 64) → n a j = N a j) → ∀ w : Nat, w < 3 → NmOK (n 114) → (N 106 w = 0 → ∀ x, LV w x = none) ∧ (N 106 w ≠ 0 → ∃ v n', f_X12_lawOf n (w : Int) = some (v, n') ∧ (∀ a j, a ≠ 115 → a ≠ 88 ∨ j ≠ 53 → n' a j = n a j) ∧ ((LV w (n 114) = none ∧ n' 88 53 ≠ 0) ∨ (LV w (n 114) = some v ∧ n' 88 53 = 0)))
def TM (N S : MM) : Prop := N 88 69 = S 1 0 ∧ N 88 70 = S 1 2 ∧ N 88 71 = S 1 3 ∧ N 88 72 = S 1 4 ∧ N 88 73 = S 1 5 ∧ N 88 74 = S 1 6 ∧ N 88 75 = S 1 7 ∧ (S 1 7 ≠ -1 → N 88 76 = S 1 8)
/-- rooms of half b -/
def RW (N H S : MM) (b : Nat) : Prop := ∀ r : Nat, (r : Int) < H 1 0 → N 116 (5 * b + r) = S 3 r ∧ ∀ k : Nat, k < 6 → N 117 (30 * b + 6 * r + k) = S 3 (5 * k + r)
def CM (N H S B : MM) (b : Nat) (fl : Prop) : Prop := (N 127 b = S 0 2 ∧ N 121 b = S 0 3 ∧ N 122 b = S 0 4 ∧ N 123 b = S 0 5 ∧ N 124 b = S 0 13 + B 0 13 ∧ N 125 b = S 0 14 ∧ N 126 b = w32 (S 0 15 + B 0 15)) ∧ (∀ p : Nat, p < 5 → N 120 (5 * b + p) = S 2 p ∧ N 119 (5 * b + p) = w32 (S 5 p + B 5 p)) ∧ RW N H S b ∧ (S 1 1 = 0 → ∀ p : Nat, p < 5 → N 118 (5 * b + p) = w32 (S 4 p + B 4 p)) ∧ (b = 0 → ∀ j : Nat, j < 24 → N 128 j = S 6 j ∧ N 129 j = S 7 j) ∧ (fl → N 88 78 = S 0 17 ∧ N 88 79 = S 0 16) ∧ TM N S
/-- what laying names and asking a law changes -/
def FN (N' N : MM) : Prop := ∀ a j, a ≠ 114 → a ≠ 115 → a ≠ 88 ∨ j ≠ 53 → N' a j = N a j
section MOD
variable {N H S B : MM} {LV : LVT} {b : Nat} {fl : Prop}
theorem FN.rf : FN N N := fun _ _ _ _ _ => rfl
theorem FN.tr {N1 N2 N3 : MM} (h1 : FN N1 N2) (h2 : FN N2 N3) : FN N1 N3 := fun a j x y z => (h1 a j x y z).trans (h2 a j x y z)
theorem FN.hm {N' : MM} (f : FN N' N) (h : HM N H) : HM N' H := by
  unfold HM at *
  simp (disch := omega) only [f _ _]
  exact h
theorem FN.tm {N' : MM} (f : FN N' N) (h : TM N S) : TM N' S := by
  unfold TM at *
  simp (disch := omega) only [f _ _]
  exact h
theorem FN.rw {N' : MM} (f : FN N' N) (h : RW N H S b) : RW N' H S b := by
  unfold RW at *
  simp (disch := omega) only [f _ _]
  exact h
theorem FN.cm {N' : MM} (f : FN N' N) (h : CM N H S B b fl) : CM N' H S B b fl := by
  obtain ⟨h1, h2, h3, h4, h5, h6, h7⟩ := h
  refine ⟨?_, ?_, f.rw h3, ?_, ?_, ?_, f.tm h7⟩
  · simp (disch := omega) only [f _ _]; exact h1
  · simp (disch := omega) only [f _ _]; exact h2
  · simp (disch := omega) only [f _ _]; exact h4
  · simp (disch := omega) only [f _ _]; exact h5
  · simp (disch := omega) only [f _ _]; exact h6
theorem FN.ml {N' : MM} (f : FN N' N) (h : ML N LV) : ML N' LV := by
  intro n hn w hw ok
  have e : ∀ a, 106 ≤ a → a ≤ 111 → N' a = N a := fun a x y => funext fun j => f a j (by omega) (by omega) (by omega)
  have := h n (fun a j x => (hn a j x).trans (congrFun (e a (by omega) (by omega)) j)) w hw ok
  rw [e 106 (by omega) (by omega)]
  exact this
theorem m_outOf (hH : HM N H) (hHo : HOK H) {t : Int} (ht : 0 ≤ t) (hs : -50 ≤ N 88 77 ∧ N 88 77 ≤ 50) : f_X12_outOf N t = some (cl (aOut H t + N 88 77) 0 400) := by
  have hor := aOut_r hHo t
  obtain ⟨⟨_, _, _, e15, _⟩, _, _, _, hO⟩ := hH
  have h7 := hHo.2.2.2.1
  unfold f_X12_outOf
  simp only [e15]
  unfold aOut at *
  by_cases q : H 0 7 = 0
  · rw [if_pos q, Option.bind_some, if_neg (by omega), w32_i (by omega) (by omega), pu_within, Option.bind_some]
  · rw [if_pos (show 0 < H 0 7 by omega)] at hor ⊢
    have h1 := Int.emod_nonneg t q
    have h2 := Int.emod_lt_of_pos t (show 0 < H 0 7 by omega)
    rw [if_neg q]
    have e := hO (t % H 0 7).toNat (by omega)
    simp (disch := omega) only [tmn, gd_t, w32_i (x := t % H 0 7), e, Option.bind_some]
    rw [w32_i (by omega) (by omega), pu_within, Option.bind_some]
theorem m_leak (hH : HM N H) (hHo : HOK H) (hT : TM N S) {r : Nat} (hr : (r : Int) < H 1 0) : f_X12_leakOf N (r : Int) = some (aLeak H S r) := by
  have hR := hHo.2.2.2.2.2.2.2.2.1 r hr
  have h5 := hHo.1
  have e := (hH.2.1 r hr).2.2.1
  unfold f_X12_leakOf aLeak
  simp (disch := omega) only [hT.2.2.2.2.2.1, gd_t, Int.toNat_natCast, e, tdn, w32_i]
  split <;> rfl
theorem m_felt (hH : HM N H) (hHo : HOK H) (hT : TM N S) (hR : RW N H S b) (hJ : ∀ p : Nat, p < 5 → N 120 (5 * b + p) = S 2 p) (hSo : SOK H S) (hb : b < 2) {p : Nat} (hp : (p : Int) < H 6 0) : f_X12_feltBy N (b : Int) (p : Int) = some (aFelt H S p) := by
  have hlr := aLate_r hHo hSo hp
  have hP := hHo.2.2.2.2.2.2.2.2.2.1 p hp
  have h6 := hHo.2.1
  have h5 := hHo.1
  obtain ⟨_, e98, _, e100, _⟩ := hH.2.2.1 p hp
  obtain ⟨_, _, t71, _, _, _, t75, t76⟩ := hT
  have eR := (hR (H 8 p).toNat (by omega)).2 (aLate H S p).toNat (by omega)
  have h30 := hSo.2.2.2.2.2.2.2.2.1 (5 * (aLate H S p).toNat + (H 8 p).toNat) (by omega)
  have hfl := hSo.2.2.2.2.2.2.2.2.2.2.2
  have ej := hJ p (by omega)
  have el : ((if (N 88 71) = 0 then (if (p : Int) = (N 88 75) then (some (N 88 76)) else gd (0 ≤ (p : Int) ∧ (p : Int) < (10 : Int)) <| some (N 100 (p : Int).toNat)) else some 0) : Option Int) = some (aLate H S p) := by
    unfold aLate
    simp (disch := omega) only [t71, t75, gd_t, Int.toNat_natCast, e100]
    by_cases q1 : (p : Int) = S 1 7
    · have q2 : S 1 3 = 0 := by omega
      simp only [q1, q2, ↓reduceIte, t76 (show S 1 7 ≠ -1 by omega)]
    · by_cases q2 : S 1 3 = 0 <;> simp only [q1, q2, ↓reduceIte]
  unfold f_X12_feltBy aFelt
  rw [el, Option.bind_some]
  have ei : (30 * (b : Int) + 6 * H 8 p + aLate H S p).toNat = 30 * b + 6 * (H 8 p).toNat + (aLate H S p).toNat := by omega
  have ei2 : (5 * (b : Int) + (p : Int)).toNat = 5 * b + p := by omega
  have ei3 : (aLate H S p * 5 + H 8 p).toNat = 5 * (aLate H S p).toNat + (H 8 p).toNat := by omega
  simp (disch := omega) only [Int.toNat_natCast, e98, w32_i, gd_t, ei, ei2, ei3, eR, ej]
  split
  · rw [Option.bind_some, w32_i (by omega) (by omega)]
  · rw [Option.bind_some, w32_i (by omega) (by omega)]
theorem m_isOn (hH : HM N H) (hHo : HOK H) (hC : CM N H S B b fl) (hSo : SOK H S) (hb : b < 2) : f_X12_isOn N (b : Int) = some (b1 (aOn H S)) := by
  obtain ⟨⟨c1, c2, c3, c4, _⟩, _, hR, _⟩ := hC
  have h5 := hHo.1
  have hhr := hSo.2.2.1
  have hst := hSo.2.1
  have h30 := hSo.2.2.2.2.2.2.2.2.1 (S 0 4).toNat (by omega)
  unfold f_X12_isOn aOn b1
  simp only [hH.1.1]
  by_cases q : H 1 0 = 0
  · rw [if_pos q, if_neg (fun z => by omega)]
  · rw [if_neg q]
    have eR := (hR (S 0 4).toNat (by omega)).1
    have ei : (5 * (b : Int) + S 0 4).toNat = 5 * b + (S 0 4).toNat := by omega
    simp (disch := omega) only [Int.toNat_natCast, gd_t, c3, w32_i, ei, eR, c4, c2]
    have q' : 0 < H 1 0 := by omega
    simp only [q', true_and]
    split
    · rw [Option.bind_some, w32_i (by omega) (by omega)]
      split <;> rfl
    · rw [Option.bind_some, w32_i (by omega) (by omega)]
      split <;> rfl
theorem m_sun (hH : HM N H) (hHo : HOK H) (hT : TM N S) (ht : N 127 b = S 0 2) (h0 : 0 ≤ S 0 2 ∧ S 0 2 ≤ 20000) (hb : b < 2) (r : Int) : f_X12_sunIn N (b : Int) r = some (if S 1 2 = 0 then aSun H r (S 0 2 % 24) (H 0 3).toNat else 0) := by
  have hbr := aSun_r hHo r (S 0 2 % 24)
  obtain ⟨_, _, h3, _, _, _, _, _, _, _, hS, _⟩ := hHo
  obtain ⟨⟨_, _, e14, _⟩, _, _, hs, _⟩ := hH
  unfold f_X12_sunIn
  by_cases q : S 1 2 = 0
  · rw [if_pos q]
    refine lp_sum (H 0 3).toNat (aSun H r (S 0 2 % 24)) _ (by omega) ?_ ?_ 0 rfl
    · intro k hk
      have b1 := hbr k (by omega)
      have b2 := hS k (by omega)
      obtain ⟨s1, s2, s3⟩ := hs k (by omega)
      have e : aSun H r (S 0 2 % 24) (k + 1) = aSun H r (S 0 2 % 24) k + (if H 19 k = r ∧ H 20 k = S 0 2 % 24 then H 21 k else 0) := rfl
      dsimp only
      rw [if_pos (by rw [e14]; omega), if_pos (by rw [hT.2.1]; exact q), e]
      simp (disch := omega) only [gd_t, Int.toNat_natCast, s1, s2, s3, ht, tmn, w32_i, bI_eq]
      by_cases a : H 19 k = r
      · by_cases b : H 20 k = S 0 2 % 24
        · rw [if_pos a, if_pos b, if_pos ⟨a, b⟩]
          simp (disch := omega) only [Option.bind_some, w32_i]
          rfl
        · rw [if_pos a, if_neg b, if_neg (fun z => b z.2)]
          simp (disch := omega) only [Option.bind_some, w32_i, Int.add_zero]
          rfl
      · rw [if_neg a, if_neg (fun z => a z.1)]
        simp (disch := omega) only [Option.bind_some, w32_i, Int.add_zero]
        rfl
    · dsimp only
      rw [if_neg (by rw [e14]; omega)]
  · rw [if_neg q]
    have : ∀ f : Nat, lp (fun x1 : Int × Int => if x1.2 < (N 88 14) then (if (N 88 70) = 0 then (gd (0 ≤ x1.2 ∧ x1.2 < (8 : Int)) <| ((if (N 102 (x1.2).toNat) = r then (gd (0 ≤ x1.2 ∧ x1.2 < (8 : Int)) <| gd (0 ≤ (b : Int) ∧ (b : Int) < (2 : Int)) <| if (N 103 (x1.2).toNat) = (w32 (Int.tmod (N 127 (b : Int).toNat) 24)) then (gd (0 ≤ x1.2 ∧ x1.2 < (8 : Int)) <| some (N 104 (x1.2).toNat)) else some 0) else some 0) : Option (Int)).bind fun x10 => bI (w32 (x1.1 + x10)) fun x11 => (some (Sum.inl (x11, w32 (x1.2 + 1))) : Option ((Int × Int) ⊕ Int))) else some (Sum.inr x1.1)) else some (Sum.inr x1.1)) (f + 1) (0, 0) = some 0 := by
      intro f
      rw [lp]
      dsimp only
      rw [hT.2.1, if_neg q]
      split <;> rfl
    exact this 999999
end MOD
