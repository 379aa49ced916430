section MOD6
variable {N H S B : MM} {LV : LVT} {b : Nat} {fl : Prop} {o : Int}
theorem m_turns (hH : HM N H) (hHo : HOK H) (hC : CM N H S B b fl) (hSo : SOK H S) (hL : ML N LV) (hLc : LVc LV) (hLr : LVr LV) (hb : b < 2) (hs : -50 ≤ N 88 77 ∧ N 88 77 ≤ 50) (ho : o = cl (aOut H (S 0 2) + N 88 77) 0 400) (h16 : S 1 0 = 0 → S 1 6 = -1) : ∃ N', (lp (X := Int × MM) (Y := MM) (fun x40 =>
    if x40.1 < (x40.2 88 13) then
    (if (x40.2 88 69) = 0 then
    (((if x40.1 = (x40.2 88 73) then
    (some x40.2)
    else
    gd (0 ≤ x40.1 ∧ x40.1 < (10 : Int)) <|
    gd (0 ≤ (b : Int) ∧ (b : Int) < (2 : Int)) <|
    if (x40.2 101 (x40.1).toNat) = (w32 (Int.tmod (x40.2 127 (b : Int).toNat) 24)) then
    ((f_X12_turnOf x40.2 (b : Int) x40.1).bind fun x47 =>
    gd (0 ≤ (b : Int) ∧ (b : Int) < (2 : Int)) <|
    (f_X12_within x47.2 (w32 ((x47.2 121 (b : Int).toNat) + x47.1)) 5 30).bind fun x49 =>
    gd (0 ≤ (b : Int) ∧ (b : Int) < (2 : Int)) <|
    if x49 = (x47.2 121 (b : Int).toNat) then
    (some x47.2)
    else
    (f_X12_turned x47.2 (b : Int) x40.1 x49).bind fun x52 =>
    some x52)
    else
    some x40.2) : Option (MM)).bind fun x53 =>
    some (Sum.inl (w32 (x40.1 + 1), x53)))
    else
    some (Sum.inr x40.2))
    else
    some (Sum.inr x40.2)) FU (0, N)) = some N' ∧ (CM N' H (if S 1 0 = 0 then aTurns H LV o S (H 6 0).toNat else S) B b fl ∧ FM b N' N) := by
  have h6 := hHo.2.1
  have zb : 0 ≤ (b : Int) ∧ (b : Int) < 2 := ⟨by omega, by omega⟩
  refine lp_cnt (H 6 0).toNat (fun k m => CM m H (if S 1 0 = 0 then aTurns H LV o S k else S) B b fl ∧ FM b m N) _ (by omega) ?_ ?_ _ ⟨by rw [show aTurns H LV o S 0 = S from rfl, ite_self]; exact hC, FM.rf⟩
  · rintro k m hk ⟨hCm, fm⟩
    have hHm := fm.hm hH
    have hLm := fm.ml hL
    have e13 : m 88 13 = H 6 0 := hHm.1.2.1
    have q0 : (k : Int) < m 88 13 := by rw [e13]; omega
    by_cases qn : S 1 0 = 0
    · left
      rw [if_pos qn] at hCm
      rw [if_pos qn]
      have h16 := h16 qn
      have hSm := SOK_Ts (H := H) (LV := LV) (o := o) hSo k
      have z02 : aTurns H LV o S k 0 2 = S 0 2 := aTs_a (by decide) (by decide) (by decide) (by decide) k
      have z1 : ∀ j, aTurns H LV o S k 1 j = S 1 j := fun j => aTs_a (by decide) (by decide) (by decide) (Or.inl (by decide)) k
      have hT : aTurns H LV o S (k + 1) = aTurn1 H LV o k (aTurns H LV o S k) := rfl
      rw [hT]
      have h16 : aTurns H LV o S k 1 6 = -1 := by rw [z1]; exact h16
      have h10 : aTurns H LV o S k 1 0 = 0 := by rw [z1]; exact qn
      rw [← z02] at ho
      generalize aTurns H LV o S k = s at hCm hSm z02 z1 h16 h10 ho
      have hP := hHo.2.2.2.2.2.2.2.2.2.1 k (by omega)
      have hk6 : (k : Int) < H 6 0 := by omega
      have hk5 : k < 5 := by omega
      have e101 : m 101 k = H 11 k := (hHm.2.2.1 k hk6).2.2.2.2
      have ht := hSm.1
      have hst := hSm.2.1
      have c127 : m 127 b = s 0 2 := hCm.1.1
      have t69 : m 88 69 = 0 := by rw [hCm.2.2.2.2.2.2.1, h10]
      have t73 : m 88 73 = s 1 5 := hCm.2.2.2.2.2.2.2.2.2.2.1
      obtain ⟨m1, e1, f1⟩ := m_turnOf hHm hHo hCm hSm hLm hLc hLr hb (by rw [fm.sh]; exact hs) (ho.trans (by rw [fm.sh])) h16 (p := k) hk6
      have hC1 := f1.cm hCm
      have c121 : m1 121 (b : Int).toNat = s 0 3 := by rw [Int.toNat_natCast]; exact hC1.1.2.1
      have hcr := cl_r (a := aBy H LV s o k) (b := -9) (c := 9) (by decide)
      have t1 : -2147483648 ≤ s 0 2 % 24 ∧ s 0 2 % 24 ≤ 2147483647 := by omega
      have t2 : -2147483648 ≤ s 0 3 + cl (aBy H LV s o k) (-9) 9 ∧ s 0 3 + cl (aBy H LV s o k) (-9) 9 ≤ 2147483647 := by omega
      have tt : w32 (Int.tmod (m 127 (b : Int).toNat) 24) = s 0 2 % 24 := by rw [Int.toNat_natCast, c127, tmn ht.1, w32_i t1.1 t1.2]
      have ews : w32 (m1 121 (b : Int).toNat + cl (aBy H LV s o k) (-9) 9) = s 0 3 + cl (aBy H LV s o k) (-9) 9 := by rw [c121, w32_i t2.1 t2.2]
      obtain ⟨x1, y1, y2, w1, w2, w3, y6, _⟩ := ix5 (k := k) hb hk5
      unfold aTurn1
      dsimp only
      rw [if_pos q0, if_pos t69]
      by_cases q1 : (k : Int) = s 1 5
      · rw [if_pos (show (k : Int) = m 88 73 by rw [t73]; exact q1), if_pos q1]
        exact ⟨m, by rw [Option.bind_some, y6]; rfl, hCm, fm⟩
      rw [if_neg (show ¬ (k : Int) = m 88 73 by rw [t73]; exact q1), if_neg q1, gd_t w2, gd_t zb]
      by_cases q2 : H 11 k = s 0 2 % 24
      · rw [if_pos (show m 101 (k : Int).toNat = w32 (Int.tmod (m 127 (b : Int).toNat) 24) by rw [tt, Int.toNat_natCast, e101]; exact q2), if_pos q2, e1, Option.bind_some, gd_t zb]
        dsimp only
        rw [ews, pu_within, Option.bind_some, gd_t zb]
        have eto : cl (s 0 3 + cl (aBy H LV s o k) (-9) 9) 5 30 = aTo H LV s o k := rfl
        rw [eto]
        by_cases q3 : aTo H LV s o k = s 0 3
        · rw [if_pos (show aTo H LV s o k = m1 121 (b : Int).toNat by rw [c121]; exact q3), if_pos q3]
          exact ⟨m1, by rw [Option.bind_some, y6]; rfl, hC1, f1.fm.tr fm⟩
        · rw [if_neg (show ¬ aTo H LV s o k = m1 121 (b : Int).toNat by rw [c121]; exact q3), if_neg q3]
          obtain ⟨m2, e2, c2, f2⟩ := m_turned hC1 hSm hb (p := k) hk5 (to := aTo H LV s o k)
          rw [e2]
          exact ⟨m2, by rw [Option.bind_some, Option.bind_some, y6]; rfl, c2, f2.tr (f1.fm.tr fm)⟩
      · rw [if_neg (show ¬ m 101 (k : Int).toNat = w32 (Int.tmod (m 127 (b : Int).toNat) 24) by rw [tt, Int.toNat_natCast, e101]; exact q2), if_neg q2]
        exact ⟨m, by rw [Option.bind_some, y6]; rfl, hCm, fm⟩
    · right
      rw [if_neg qn] at hCm ⊢
      refine ⟨m, ?_, hCm, fm⟩
      have t69 : ¬ m 88 69 = 0 := by rw [hCm.2.2.2.2.2.2.1]; exact qn
      dsimp only
      rw [if_pos q0, if_neg t69]
  · rintro m ⟨hCm, fm⟩
    refine ⟨m, ?_, hCm, fm⟩
    have q0 : ¬ (((H 6 0).toNat : Nat) : Int) < m 88 13 := by rw [(fm.hm hH).1.2.1]; omega
    dsimp only
    rw [if_neg q0]
theorem m_cross (hH : HM N H) (hHo : HOK H) (hC : CM N H S B b fl) (hSo : SOK H S) (hL : ML N LV) (hLc : LVc LV) (hLr : LVr LV) (hb : b < 2) (hs : -50 ≤ N 88 77 ∧ N 88 77 ≤ 50) (ho : o = cl (aOut H (S 0 2) + N 88 77) 0 400) (h16 : S 1 1 = 0 → S 1 6 = -1) : ∃ N', (lp (X := Int × MM) (Y := MM) (fun x55 =>
    if x55.1 < (x55.2 88 13) then
    (((if x55.1 = (x55.2 88 73) then
    (some x55.2)
    else
    (f_X12_crossOf x55.2 (b : Int) x55.1).bind fun x58 =>
    gd (0 ≤ w32 ((w32 (5 * (b : Int))) + x55.1) ∧ w32 ((w32 (5 * (b : Int))) + x55.1) < (10 : Int)) <|
    gd (0 ≤ w32 ((w32 (5 * (b : Int))) + x55.1) ∧ w32 ((w32 (5 * (b : Int))) + x55.1) < (10 : Int)) <|
    bM (upM x58.2 118 (w32 ((w32 (5 * (b : Int))) + x55.1)).toNat (w32 ((x58.2 118 (w32 ((w32 (5 * (b : Int))) + x55.1)).toNat) + x58.1))) fun M61 =>
    some M61) : Option (MM)).bind fun x62 =>
    some (Sum.inl (w32 (x55.1 + 1), x62)))
    else
    some (Sum.inr x55.2)) FU (0, N)) = some N' ∧ (CM N' H (if S 1 1 = 0 then aCross H LV S o (H 6 0).toNat else S) B b fl ∧ FM b N' N) := by
  have h6 := hHo.2.1
  have zb : 0 ≤ (b : Int) ∧ (b : Int) < 2 := ⟨by omega, by omega⟩
  refine lp_cnt (H 6 0).toNat (fun k m => CM m H (if S 1 1 = 0 then aCross H LV S o k else S) B b fl ∧ FM b m N) _ (by omega) ?_ ?_ _ ⟨?_, FM.rf⟩
  · rintro k m hk ⟨hCm, fm⟩
    left
    have hHm := fm.hm hH
    have hLm := fm.ml hL
    have e13 : m 88 13 = H 6 0 := hHm.1.2.1
    have q0 : (k : Int) < m 88 13 := by rw [e13]; omega
    have hk6 : (k : Int) < H 6 0 := by omega
    have hk5 : k < 5 := by omega
    have hkk : k < k + 1 := by omega
    have hms : MS b 118 (5 * b + k) := by unfold MS; omega
    have hpk : ∀ p : Nat, p ≠ k → (p < k + 1 ↔ p < k) := fun p hp => by omega
    obtain ⟨x1, y1, y2, w1, w2, w3, y6, _⟩ := ix5 (k := k) hb hk5
    have hnx : ∀ a j, a ≠ 4 → (if S 1 1 = 0 then aCross H LV S o k else S) a j = S a j := fun a j h => by split; exact ac_a h; rfl
    have hnx1 : ∀ a j, a ≠ 4 → (if S 1 1 = 0 then aCross H LV S o (k + 1) else S) a j = S a j := fun a j h => by split; exact ac_a h; rfl
    have hSm : SOK H (if S 1 1 = 0 then aCross H LV S o k else S) := by split; exact SOK_ac hSo k; exact hSo
    have t73 : m 88 73 = S 1 5 := by rw [hCm.2.2.2.2.2.2.2.2.2.2.1, hnx 1 5 (by decide)]
    obtain ⟨v, m1, e1, f1, hv⟩ := m_crossOf hHm hHo hCm hSm hLm hLc hLr hb (by rw [fm.sh]; exact hs) (ho.trans (by rw [fm.sh, hnx 0 2 (by decide)])) (p := k) hk6
    have hC1 := f1.cm hCm
    have same : ∀ m' : MM, CM m' H (if S 1 1 = 0 then aCross H LV S o k else S) B b fl → ∀ u : MM, (∀ a j, ¬ (a = 118 ∧ j = 5 * b + k) → u a j = m' a j) → (S 1 1 = 0 → u 118 (5 * b + k) = w32 (aCross H LV S o (k + 1) 4 k + B 4 k)) → CM u H (if S 1 1 = 0 then aCross H LV S o (k + 1) else S) B b fl := by
      intro m' hC' u hu hu2
      obtain ⟨g1, g2, g3, g4, g5, g6, g7⟩ := hC'
      have hu0 : ∀ a j, a ≠ 118 → u a j = m' a j := fun a j h => hu a j (fun z => h z.1)
      refine ⟨?_, ?_, ?_, ?_, ?_, ?_, ?_⟩
      · simp (disch := decide) only [hnx1, hu0]; simp (disch := decide) only [hnx] at g1; exact g1
      · simp (disch := decide) only [hnx1, hu0]; simp (disch := decide) only [hnx] at g2; exact g2
      · unfold RW at *; simp (disch := decide) only [hnx1, hu0]; simp (disch := decide) only [hnx] at g3; exact g3
      · simp (disch := decide) only [hnx1]
        simp (disch := decide) only [hnx] at g4
        intro z p hp
        rw [if_pos z]
        by_cases e : p = k
        · rw [e]; exact hu2 z
        · have ec : aCross H LV S o k 4 p = aCross H LV S o (k + 1) 4 p := by
            unfold aCross
            by_cases q : p < k ∧ (p : Int) ≠ S 1 5
            · rw [if_pos ⟨rfl, q⟩, if_pos ⟨rfl, (hpk p e).mpr q.1, q.2⟩]
            · rw [if_neg (fun z => q z.2), if_neg (fun z => q ⟨(hpk p e).mp z.2.1, z.2.2⟩)]
          rw [hu 118 _ (fun w => e (Nat.add_left_cancel w.2)), g4 z p hp, if_pos z, ec]
      · simp (disch := decide) only [hnx1, hu0]; simp (disch := decide) only [hnx] at g5; exact g5
      · simp (disch := decide) only [hnx1, hu0]; simp (disch := decide) only [hnx] at g6; exact g6
      · unfold TM at *; simp (disch := decide) only [hnx1, hu0]; simp (disch := decide) only [hnx] at g7; exact g7
    dsimp only
    rw [if_pos q0]
    by_cases q1 : (k : Int) = S 1 5
    · rw [if_pos (show (k : Int) = m 88 73 by rw [t73]; exact q1)]
      refine ⟨m, by rw [Option.bind_some, y6]; rfl, same m hCm m (fun _ _ _ => rfl) ?_, fm⟩
      intro z
      have := hCm.2.2.2.1 (by rw [hnx 1 1 (by decide)]; exact z) k hk5
      have ec : aCross H LV S o (k + 1) 4 k = S 4 k := by
        unfold aCross
        rw [if_neg (fun z => z.2.2 q1)]
      rw [this, if_pos z, ac_n (Nat.le_refl _), ec]
    · rw [if_neg (show ¬ (k : Int) = m 88 73 by rw [t73]; exact q1), e1, Option.bind_some, y1, y2, gd_t w1, gd_t w1, bM_eq, x1, Option.bind_some, y6]
      refine ⟨_, rfl, same m1 hC1 _ (fun a j h => upM_ne a j h) ?_, (f1.fm.tr fm).up ?_⟩
      · intro z
        have h4 := hC1.2.2.2.1 (by rw [hnx 1 1 (by decide)]; exact z) k hk5
        rw [if_pos z, ac_n (Nat.le_refl _)] at h4
        have hv := hv (by rw [hnx 1 6 (by decide)]; exact h16 z)
        rw [if_pos z, ac_cr] at hv
        rw [upM_eq]
        dsimp only
        have ec : aCross H LV S o (k + 1) 4 k = w32 (S 4 k + aCr H LV S o k) := by
          unfold aCross
          rw [if_pos ⟨rfl, hkk, q1⟩]
        rw [h4, hv, ec]
        exact w32_aa _ _ _
      · exact hms
  · rintro m ⟨hCm, fm⟩
    refine ⟨m, ?_, hCm, fm⟩
    have q0 : ¬ (((H 6 0).toNat : Nat) : Int) < m 88 13 := by rw [(fm.hm hH).1.2.1]; omega
    dsimp only
    rw [if_neg q0]
  · have : aCross H LV S o 0 = S := by
      funext a j
      unfold aCross
      rw [if_neg (fun z => by have := z.2.1; omega)]
    rw [this, ite_self]
    exact hC
end MOD6
