theorem and64_r (x : Int) : 0 ≤ and64 x 2147483647 ∧ and64 x 2147483647 ≤ 2147483647 := by
  unfold and64
  have h1 : (Int64.ofInt x &&& Int64.ofInt 2147483647).toBitVec.toNat ≤ 2147483647 := by
    rw [Int64.toBitVec_and, BitVec.toNat_and]
    have : (Int64.ofInt 2147483647).toBitVec.toNat = 2147483647 := by decide
    rw [this]
    exact Nat.and_le_right
  have h2 : (Int64.ofInt x &&& Int64.ofInt 2147483647).toInt = ((Int64.ofInt x &&& Int64.ofInt 2147483647).toBitVec.toNat : Int) := by
    show (Int64.ofInt x &&& Int64.ofInt 2147483647).toBitVec.toInt = _
    rw [BitVec.toInt_eq_toNat_of_lt (by omega)]
  omega
theorem aNext_r (x : Int) : 0 ≤ aNext x ∧ aNext x ≤ 2147483647 := and64_r _
section CLS5
variable {M H S : MM} {LV : LVT} {h c : Nat} {o : Int}
theorem aO_r (hHo : HOK H) : 0 ≤ aO H S ∧ aO H S ≤ 400 := by
  unfold aO
  split
  · exact aOut_r hHo _
  · exact cl_r (by omega)
theorem aSeed_a {a j : Nat} (q : a ≠ 1 ∨ j ≠ 10) : aSeed S a j = S a j := by
  unfold aSeed
  split
  · rfl
  · by_cases e : a = 1
    · subst e; rw [up_ni (by omega)]
    · rw [up_na e]
theorem SOK_seed (hSo : SOK H S) : SOK H (aSeed S) := by
  unfold SOK at *
  simp (disch := omega) only [aSeed_a]
  exact hSo
theorem c_outOf (hHo : HOK H) (hC : CC M c S) (hs : S 1 9 = 0 ∨ r32 (S 1 10)) : ∃ M', f_X10_outOf M (c + 1) (aOut H (S 0 2)) = some (aO H S, M') ∧ CC M' c (aSeed S) ∧ ∀ a, a ≠ c + 1 → M' a = M a := by
  have hor := aOut_r hHo (S 0 2)
  have hnr := aNext_r (S 1 10)
  unfold f_X10_outOf aO aSeed
  simp only [hC.at (k := 1) (show 1 < 8 by omega)]
  by_cases q : S 1 9 = 0
  · simp only [if_pos q]
    exact ⟨M, rfl, hC, fun _ _ => rfl⟩
  · simp only [if_neg q]
    have e : and64 (w64 ((w64 ((S 1 10) * 1103515245)) + 12345)) 2147483647 = aNext (S 1 10) := rfl
    rw [e]
    simp (disch := omega) only [bM_eq, upM_eq, tdn, tmn, w64_i, lim, Option.bind_some]
    exact ⟨_, rfl, hC.up (k := 1) (by omega), fun a ha => up_row ha⟩
theorem aOn_cg {S' : MM} (h3 : S' 0 3 = S 0 3) (h4 : S' 0 4 = S 0 4) (h5 : S' 0 5 = S 0 5) (hw : S' 3 = S 3) : aOn H S' = aOn H S := by
  unfold aOn
  rw [h3, h4, h5, hw]
theorem aHour_def (S : MM) (o : Int) : aHour H LV o S = upM (if S 1 1 = 0 then aCross H LV (if S 1 0 = 0 then aTurns H LV o (aRooms H LV (aPay H (upM S 0 6 o) (aOn H (upM S 0 6 o))) o (aOn H (upM S 0 6 o)) (H 1 0).toNat) (H 6 0).toNat else aRooms H LV (aPay H (upM S 0 6 o) (aOn H (upM S 0 6 o))) o (aOn H (upM S 0 6 o)) (H 1 0).toNat) o (H 6 0).toNat else (if S 1 0 = 0 then aTurns H LV o (aRooms H LV (aPay H (upM S 0 6 o) (aOn H (upM S 0 6 o))) o (aOn H (upM S 0 6 o)) (H 1 0).toNat) (H 6 0).toNat else aRooms H LV (aPay H (upM S 0 6 o) (aOn H (upM S 0 6 o))) o (aOn H (upM S 0 6 o)) (H 1 0).toNat)) 0 2 (S 0 2 + 1) := rfl
theorem ap_a {on : Prop} [Decidable on] {a j : Nat} (q : a ≠ 0 ∨ (j ≠ 13 ∧ j ≠ 14)) : aPay H S on a j = S a j := by
  unfold aPay
  split
  · by_cases e : a = 0
    · subst e; rw [up_ni (by omega), up_ni (by omega)]
    · rw [up_na e, up_na e]
  · rfl
theorem ap_13 {on : Prop} [Decidable on] : aPay H S on 0 13 = S 0 13 + (if on then H 0 11 else 0) := by
  unfold aPay
  split
  · rw [up_ni (by omega), upM_eq]
  · omega
theorem ap_14 {on : Prop} [Decidable on] : aPay H S on 0 14 = S 0 14 + (if on then 1 else 0) := by
  unfold aPay
  split
  · rw [upM_eq]
  · omega
theorem SOK_6 (hSo : SOK H S) : SOK H (upM S 0 6 o) := by
  unfold SOK at *
  simp (disch := omega) only [up_na, up_ni]
  exact hSo
theorem SOK_pay (hHo : HOK H) (hSo : SOK H S) (hP : SP S) {on : Prop} [Decidable on] : SOK H (aPay H S on) := by
  unfold SOK at *
  simp (disch := omega) only [ap_a]
  obtain ⟨x1, x2, x3, x4, x5, x6, x7, x8, h30, x10, x11, x12⟩ := hSo
  unfold SP at hP
  have hp := hHo.2.2.2.2.2.2.1
  rw [ap_13, ap_14]
  refine ⟨x1, x2, x3, x4, ?_, ?_, x7, x8, h30, x10, x11, x12⟩
  · split <;> omega
  · split <;> omega
/-- the cells of an hour that stay, or are plain -/
theorem ah_1 {j : Nat} : aHour H LV o S 1 j = S 1 j := by
  rw [aHour_def, up_na (by omega)]
  split <;> split <;> simp (disch := omega) only [ac_a, aTs_a, ar_a, ap_a, up_na]
theorem ah_2 {j : Nat} : aHour H LV o S 2 j = S 2 j := by
  rw [aHour_def, up_na (by omega)]
  split <;> split <;> simp (disch := omega) only [ac_a, aTs_a, ar_a, ap_a, up_na]
theorem ah_0 {j : Nat} (q : j ≠ 2 ∧ j ≠ 3 ∧ j ≠ 6 ∧ j ≠ 13 ∧ j ≠ 14 ∧ j ≠ 15 ∧ j ≠ 16 ∧ j ≠ 17) : aHour H LV o S 0 j = S 0 j := by
  rw [aHour_def, up_ni (by omega)]
  split <;> split <;> simp (disch := omega) only [ac_a, aTs_a, ar_a, ap_a, up_ni]
theorem ah_t : aHour H LV o S 0 2 = S 0 2 + 1 := by rw [aHour_def, upM_eq]
theorem ah_13 : aHour H LV o S 0 13 = S 0 13 + (if aOn H (upM S 0 6 o) then H 0 11 else 0) := by
  rw [aHour_def, up_ni (by omega)]
  split <;> split <;> simp (disch := omega) only [ac_a, aTs_a, ar_a, ap_13, up_ni]
theorem ah_14 : aHour H LV o S 0 14 = S 0 14 + (if aOn H (upM S 0 6 o) then 1 else 0) := by
  rw [aHour_def, up_ni (by omega)]
  split <;> split <;> simp (disch := omega) only [ac_a, aTs_a, ar_a, ap_14, up_ni]
theorem SOK_h (hHo : HOK H) (hSo : SOK H S) (hP : SP S) (ht : S 0 2 < 20000) : SOK H (aHour H LV o S) ∧ SP (aHour H LV o S) := by
  have h1 : SOK H (if S 1 1 = 0 then aCross H LV (if S 1 0 = 0 then aTurns H LV o (aRooms H LV (aPay H (upM S 0 6 o) (aOn H (upM S 0 6 o))) o (aOn H (upM S 0 6 o)) (H 1 0).toNat) (H 6 0).toNat else aRooms H LV (aPay H (upM S 0 6 o) (aOn H (upM S 0 6 o))) o (aOn H (upM S 0 6 o)) (H 1 0).toNat) o (H 6 0).toNat else (if S 1 0 = 0 then aTurns H LV o (aRooms H LV (aPay H (upM S 0 6 o) (aOn H (upM S 0 6 o))) o (aOn H (upM S 0 6 o)) (H 1 0).toNat) (H 6 0).toNat else aRooms H LV (aPay H (upM S 0 6 o) (aOn H (upM S 0 6 o))) o (aOn H (upM S 0 6 o)) (H 1 0).toNat)) := by
    have a1 := SOK_ar (LV := LV) (o := o) (on := aOn H (upM S 0 6 o)) (SOK_pay hHo (SOK_6 (o := o) hSo) (by unfold SP at *; simp (disch := omega) only [up_ni]; exact hP) (on := aOn H (upM S 0 6 o))) (H 1 0).toNat
    have a2 := SOK_Ts (LV := LV) (o := o) a1 (H 6 0).toNat
    split <;> split
    · exact SOK_ac a2 _
    · exact SOK_ac a1 _
    · exact a2
    · exact a1
  have h2 := ah_13 (H := H) (LV := LV) (o := o) (S := S)
  have h3 := ah_14 (H := H) (LV := LV) (o := o) (S := S)
  have h4 := ah_t (H := H) (LV := LV) (o := o) (S := S)
  have h0 := aHour_def (H := H) (LV := LV) S o
  have hp := hHo.2.2.2.2.2.2.1
  have hp1 : 0 ≤ (if aOn H (upM S 0 6 o) then H 0 11 else 0) ∧ (if aOn H (upM S 0 6 o) then H 0 11 else 0) ≤ 99 := by split <;> omega
  have hp2 : 0 ≤ (if aOn H (upM S 0 6 o) then (1 : Int) else 0) ∧ (if aOn H (upM S 0 6 o) then (1 : Int) else 0) ≤ 1 := by split <;> omega
  unfold SP at *
  have hSP : (aHour H LV o S) 0 13 ≤ 99 * (aHour H LV o S) 0 2 ∧ (aHour H LV o S) 0 14 ≤ (aHour H LV o S) 0 2 := by omega
  refine ⟨?_, hSP⟩
  rw [h0] at hSP h2 h3 h4 ⊢
  unfold SOK at h1 ⊢
  obtain ⟨x1, x2, x3, x4, x5, x6, x7, x8, h30, x10, x11, x12⟩ := h1
  obtain ⟨y1, _, _, _, y5, y6, _⟩ := hSo
  refine ⟨by omega, ?_, ?_, ?_, by omega, by omega, ?_, ?_, ?_, ?_, ?_, ?_⟩ <;> simp (disch := omega) only [up_na, up_ni]
  · exact x2
  · exact x3
  · exact x4
  · exact x7
  · exact x8
  · exact h30
  · exact x10
  · exact x11
  · exact x12
end CLS5
