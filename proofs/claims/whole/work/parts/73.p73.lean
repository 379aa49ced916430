section MOD4
variable {N H S B : MM} {LV : LVT} {b : Nat} {fl : Prop} {o : Int}
theorem CM.s6 (h : CM N H S B b fl) : CM N H (upM S 0 6 o) B b fl := by
  unfold CM RW TM at *
  simp (disch := decide) only [up_na, up_ni]
  exact h
/-- the rows of what was, an hour further -/
theorem m_shift (hb : b < 2) {r : Nat} (hr : r < 5) (m : MM) : ∃ m', lp (X := Int × MM) (Y := MM) (fun x30 =>
    if 0 < x30.1 then
    (gd (0 ≤ w32 ((w32 ((w32 ((w32 (30 * (b : Int))) + (w32 (6 * (r : Int))))) + x30.1)) - 1) ∧ w32 ((w32 ((w32 ((w32 (30 * (b : Int))) + (w32 (6 * (r : Int))))) + x30.1)) - 1) < (60 : Int)) <|
    gd (0 ≤ w32 ((w32 ((w32 (30 * (b : Int))) + (w32 (6 * (r : Int))))) + x30.1) ∧ w32 ((w32 ((w32 (30 * (b : Int))) + (w32 (6 * (r : Int))))) + x30.1) < (60 : Int)) <|
    bM (upM x30.2 117 (w32 ((w32 ((w32 (30 * (b : Int))) + (w32 (6 * (r : Int))))) + x30.1)).toNat (x30.2 117 (w32 ((w32 ((w32 ((w32 (30 * (b : Int))) + (w32 (6 * (r : Int))))) + x30.1)) - 1)).toNat)) fun M34 =>
    some (Sum.inl (w32 (x30.1 + (-1)), M34)))
    else
    some (Sum.inr x30.2)) FU (5, m) = some m' ∧ ((∀ t : Nat, t < 5 → m' 117 (30 * b + 6 * r + (t + 1)) = m 117 (30 * b + 6 * r + t)) ∧ ∀ a j, ¬ (a = 117 ∧ 30 * b + 6 * r < j ∧ j < 30 * b + 6 * r + 6) → m' a j = m a j) := by
  refine lp_FU (I := fun x => ∃ i : Nat, i ≤ 5 ∧ x.1 = (i : Int) ∧ (∀ t : Nat, i ≤ t → t < 5 → x.2 117 (30 * b + 6 * r + (t + 1)) = m 117 (30 * b + 6 * r + t)) ∧ ∀ a j, ¬ (a = 117 ∧ 30 * b + 6 * r + i < j ∧ j < 30 * b + 6 * r + 6) → x.2 a j = m a j) (μ := fun x => x.1.toNat) (Q := fun m' : MM => (∀ t : Nat, t < 5 → m' 117 (30 * b + 6 * r + (t + 1)) = m 117 (30 * b + 6 * r + t)) ∧ ∀ a j, ¬ (a = 117 ∧ 30 * b + 6 * r < j ∧ j < 30 * b + 6 * r + 6) → m' a j = m a j) ?_ (5, m) ⟨5, Nat.le_refl _, rfl, fun t h1 h2 => absurd h2 (by omega), fun _ _ _ => rfl⟩ (by show (5 : Int).toNat < 1000000; decide)
  rintro ⟨i, s⟩ ⟨k, hk, hi, h1, h2⟩
  dsimp only at hi h1 h2
  subst hi
  by_cases q : 0 < k
  · right
    have e1 : (30 * (b : Int) + 6 * (r : Int) + (k : Int) - 1).toNat = 30 * b + 6 * r + (k - 1) := by omega
    have e2 : (30 * (b : Int) + 6 * (r : Int) + (k : Int)).toNat = 30 * b + 6 * r + k := by omega
    refine ⟨((k : Int) + (-1), upM s 117 (30 * b + 6 * r + k) (s 117 (30 * b + 6 * r + (k - 1)))), ?_, ⟨k - 1, by omega, by show (k : Int) + (-1) = _; omega, ?_, ?_⟩, ?_⟩
    · dsimp only
      rw [if_pos (by omega)]
      simp (disch := omega) only [w32_i, gd_t, bM_eq, e1, e2]
    · intro t t1 t2
      dsimp only
      by_cases e : t + 1 = k
      · rw [e, upM_eq, h2 _ _ (by omega)]
        congr 1
        omega
      · rw [up_ni (by omega)]
        exact h1 t (by omega) t2
    · intro a j hn
      dsimp only
      rw [upM_ne a j (by omega)]
      exact h2 a j (by omega)
    · show ((k : Int) + (-1)).toNat < (k : Int).toNat
      omega
  · left
    have : k = 0 := by omega
    subst this
    refine ⟨s, ?_, fun t ht => h1 t (by omega) ht, fun a j hn => h2 a j (by omega)⟩
    dsimp only
    rw [if_neg (by omega)]
/-- the losses -/
theorem m_losses (hH : HM N H) (hHo : HOK H) (hC : CM N H S B b fl) (hSo : SOK H S) (hL : ML N LV) (hLc : LVc LV) (hLr : LVr LV) (hb : b < 2) (hs : -50 ≤ N 88 77 ∧ N 88 77 ≤ 50) (ho : o = cl (aOut H (S 0 2) + N 88 77) 0 400) : ∃ N', (lp (X := Int × MM) (Y := MM) (fun x12 =>
    if x12.1 < (x12.2 88 12) then
    ((f_X12_loses x12.2 (b : Int) x12.1).bind fun x14 =>
    gd (0 ≤ x12.1 ∧ x12.1 < (5 : Int)) <|
    bM (upM x14.2 130 (x12.1).toNat x14.1) fun M16 =>
    some (Sum.inl (w32 (x12.1 + 1), M16)))
    else
    some (Sum.inr x12.2)) FU (0, N)) = some N' ∧ ((∀ r : Nat, (r : Int) < H 1 0 → N' 130 r = if S 1 4 = 0 then aLoss H LV S o r else 0) ∧ ∀ a j, a ≠ 114 → a ≠ 115 → a ≠ 130 → a ≠ 88 ∨ j ≠ 53 → N' a j = N a j) := by
  have h5 := hHo.1
  refine lp_cnt (H 1 0).toNat (fun k m => (∀ r : Nat, r < k → m 130 r = if S 1 4 = 0 then aLoss H LV S o r else 0) ∧ ∀ a j, a ≠ 114 → a ≠ 115 → a ≠ 130 → a ≠ 88 ∨ j ≠ 53 → m a j = N a j) _ (by omega) ?_ ?_ _ ⟨fun r hr => absurd hr (by omega), fun _ _ _ _ _ _ => rfl⟩
  · rintro k m hk ⟨i1, i2⟩
    left
    have fm : FM b m N := fun a j hn => i2 a j (fun z => hn (by unfold MS; omega)) (fun z => hn (by unfold MS; omega)) (fun z => hn (by unfold MS; omega)) (by unfold MS at hn; omega)
    have hCm : CM m H S B b fl := by
      obtain ⟨g1, g2, g3, g4, g5, g6, g7⟩ := hC
      refine ⟨?_, ?_, ?_, ?_, ?_, ?_, fm.tm g7⟩
      · simp (disch := omega) only [i2 _ _]; exact g1
      · simp (disch := omega) only [i2 _ _]; exact g2
      · unfold RW; simp (disch := omega) only [i2 _ _]; exact g3
      · simp (disch := omega) only [i2 _ _]; exact g4
      · simp (disch := omega) only [i2 _ _]; exact g5
      · simp (disch := omega) only [i2 _ _]; exact g6
    obtain ⟨m1, e1, f1⟩ := m_loses (fm.hm hH) hHo hCm hSo (fm.ml hL) hLc hLr hb (by rw [fm.sh]; exact hs) (by rw [fm.sh, ← ho]) (r := k) (by omega)
    refine ⟨upM m1 130 k (if S 1 4 = 0 then aLoss H LV S o k else 0), ?_, ?_, ?_⟩
    · dsimp only
      have q0 : (k : Int) < m 88 12 := by rw [i2 _ _ (by decide) (by decide) (by decide) (by decide), hH.1.1]; omega
      rw [if_pos q0, e1, Option.bind_some, gd_t (by omega), bM_eq, w32_i (by omega) (by omega), Int.toNat_natCast]
      rfl
    · intro r hr
      by_cases e : r = k
      · rw [e, upM_eq]
      · rw [up_ni e, f1 _ _ (by decide) (by decide) (Or.inl (by decide))]
        exact i1 r (by omega)
    · intro a j n1 n2 n3 n4
      rw [up_na n3, f1 a j n1 n2 n4]
      exact i2 a j n1 n2 n3 n4
  · rintro m ⟨i1, i2⟩
    refine ⟨m, ?_, fun r hr => i1 r (by omega), i2⟩
    dsimp only
    have q0 : ¬ (((H 1 0).toNat : Nat) : Int) < m 88 12 := by rw [i2 _ _ (by decide) (by decide) (by decide) (by decide), hH.1.1]; omega
    rw [if_neg q0]
end MOD4
