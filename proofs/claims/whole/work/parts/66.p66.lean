section CLS3
variable {M H S : MM} {LV : LVT} {h c : Nat} {o : Int}
theorem c_plaw (hh : h = 8 ∨ h = 31) (hc : c = 54 ∨ c = 62 ∨ c = 70) (hH : HC M h H) (hHo : HOK H) (hC : CC M c S) (hSo : SOK H S) (hz : S 0 1 = (h : Int)) (hL : CL M h LV) (hLc : LVc LV) (he : S 0 6 = o) (ho : 0 ≤ o ∧ o ≤ 400) {w : Nat} (hw : w < 3) {p : Nat} (hp : (p : Int) < H 6 0) {felt : Int} (hf : 0 ≤ felt ∧ felt ≤ 620) : ∃ M', f_X0_personLaw M c (w : Int) (p : Int) felt = some ((LV w (aNm S o (H 8 p).toNat felt (10 * H 9 p) (H 4 (H 8 p).toNat))).getD ERR, M') ∧ Fr2 h M' M := by
  have h5 := hHo.1
  have h6 := hHo.2.1
  have hP := hHo.2.2.2.2.2.2.2.2.2.1 p hp
  have hR := hHo.2.2.2.2.2.2.2.2.1 (H 8 p).toNat (by omega)
  obtain ⟨M1, e1, n1, f1⟩ := c_name hh hc hC hSo hz (r := (H 8 p).toNat) (by omega) (H 4 (H 8 p).toNat)
  rw [show (((H 8 p).toNat : Nat) : Int) = H 8 p by omega] at e1
  rw [he] at n1
  have z1 : M1 c 1 = (h : Int) := by rw [f1 c (by omega), hC.at0, hz]
  have w1 : M1 (h + 9) p = H 9 p := by rw [f1 _ (by omega), hH.at (by omega) (by omega) (by omega)]
  have ok := aNm_ok hHo hSo (r := (H 8 p).toNat) (by omega) ho hf (wish := 10 * H 9 p) (by omega) (leak := H 4 (H 8 p).toNat) (by omega)
  have n2 : ∀ j, j < 7 → upM (upM M1 (h + 18) 2 felt) (h + 18) 3 (10 * H 9 p) (h + 18) j = aNm S o (H 8 p).toNat felt (10 * H 9 p) (H 4 (H 8 p).toNat) j := by
    intro j hj
    have : j = 0 ∨ j = 1 ∨ j = 2 ∨ j = 3 ∨ j = 4 ∨ j = 5 ∨ j = 6 := by omega
    rcases this with rfl | rfl | rfl | rfl | rfl | rfl | rfl <;> simp (disch := omega) only [up_ni, upM_eq, n1, aNm] <;> rfl
  obtain ⟨M2, e2, f2⟩ := hL (upM (upM M1 (h + 18) 2 felt) (h + 18) 3 (10 * H 9 p)) (fun k a b => by rw [up_row (by omega), up_row (by omega), f1 _ (by omega)]) w hw (fun j hj => by rw [n2 j hj]; exact ok j hj)
  refine ⟨M2, ?_, fun a a1 a2 => by rw [f2 a a1, up_row a2, up_row a2, f1 a a2]⟩
  unfold f_X0_personLaw
  simp (disch := omega) only [hC.at0, hz, gH_h, gd_t, Int.toNat_natCast, bI_eq, bM_eq, hH.at (k := 8), hH.at (k := 4), e1, Option.bind_some, z1, up_na, w1, w32_i, e2]
  rw [hLc w _ _ n2]
theorem tm_r {x : Int} : 0 ≤ x % 24 ∧ x % 24 < 24 := by omega
theorem c_turnTo (hc : c = 54 ∨ c = 62 ∨ c = 70) (hC : CC M c S) (hSo : SOK H S) {p : Nat} (hp : p < 5) {to : Int} : ∃ M', f_X0_turnTo M c to (p : Int) = some M' ∧ CC M' c (if to = S 0 3 then S else aTurned S p to) ∧ Fr3 h c M' M := by
  have ht := hSo.1
  have hlw := hSo.2.2.2.2.2.2.1
  have h24 := tm_r (x := S 0 2)
  unfold f_X0_turnTo
  simp only [hC.at0]
  by_cases q : to = S 0 3
  · rw [if_pos q, if_pos q]
    exact ⟨M, rfl, hC, Fr3.rf⟩
  · rw [if_neg q, if_neg q]
    have key : ∀ way : Int, way = (if S 0 3 < to then 1 else -1) → ∃ M', (((if way = (w32 (-(S 0 17))) then (bM (upM M c 16 (w32 ((S 0 16) + 1))) fun M5 => some M5) else some M) : Option MM).bind fun x6 => bM (upM x6 c 17 way) fun M7 => bM (upM M7 c 3 to) fun M8 => bM (upM M8 c 15 (w32 ((M8 c 15) + 1))) fun M9 => gd (0 ≤ (p : Int) ∧ (p : Int) < (5 : Int)) <| gd (0 ≤ (p : Int) ∧ (p : Int) < (5 : Int)) <| bM (upM M9 (c + 5) (p : Int).toNat (w32 ((M9 (c + 5) (p : Int).toNat) + 1))) fun M12 => gd (0 ≤ w32 (Int.tmod (M12 c 2) 24) ∧ w32 (Int.tmod (M12 c 2) 24) < (24 : Int)) <| gd (0 ≤ w32 (Int.tmod (M12 c 2) 24) ∧ w32 (Int.tmod (M12 c 2) 24) < (24 : Int)) <| bM (upM M12 (c + 6) (w32 (Int.tmod (M12 c 2) 24)).toNat (w32 ((M12 (c + 6) (w32 (Int.tmod (M12 c 2) 24)).toNat) + to))) fun M15 => gd (0 ≤ w32 (Int.tmod (M15 c 2) 24) ∧ w32 (Int.tmod (M15 c 2) 24) < (24 : Int)) <| gd (0 ≤ w32 (Int.tmod (M15 c 2) 24) ∧ w32 (Int.tmod (M15 c 2) 24) < (24 : Int)) <| bM (upM M15 (c + 7) (w32 (Int.tmod (M15 c 2) 24)).toNat (w32 ((M15 (c + 7) (w32 (Int.tmod (M15 c 2) 24)).toNat) + 1))) fun M18 => some M18) = some M' ∧ CC M' c (aTurned S p to) ∧ Fr3 h c M' M := by
      intro way hway
      have k1 : ∃ M6, ((if way = (w32 (-(S 0 17))) then (bM (upM M c 16 (w32 ((S 0 16) + 1))) fun M5 => some M5) else some M) : Option MM) = some M6 ∧ CC M6 c (aSw S way) ∧ Fr3 h c M6 M ∧ (M6 c 2 = S 0 2 ∧ M6 c 15 = S 0 15) := by
        rw [w32_i (by omega) (by omega)]
        unfold aSw
        split
        · exact ⟨_, rfl, hC.up0, Fr3.rf.up (by omega), by rw [up_ni (by omega), hC.at0], by rw [up_ni (by omega), hC.at0]⟩
        · exact ⟨_, rfl, hC, Fr3.rf, hC.at0, hC.at0⟩
      obtain ⟨M6, e6, c6, f6, t6, u6⟩ := k1
      have s5 : ∀ j, M6 (c + 5) j = S 5 j := fun j => by rw [c6.at (by omega)]; unfold aSw; split; rw [up_na (by omega)]; rfl
      have s6 : ∀ j, M6 (c + 6) j = S 6 j := fun j => by rw [c6.at (by omega)]; unfold aSw; split; rw [up_na (by omega)]; rfl
      have s7 : ∀ j, M6 (c + 7) j = S 7 j := fun j => by rw [c6.at (by omega)]; unfold aSw; split; rw [up_na (by omega)]; rfl
      rw [e6, Option.bind_some]
      simp (disch := omega) only [bM_eq, up_na, up_ni, t6, u6, gd_t, Int.toNat_natCast, tmn, w32_i (x := S 0 2 % 24), s5, s6, s7]
      refine ⟨_, rfl, ?_, (((((f6.up (by omega)).up (by omega)).up (by omega)).up (by omega)).up (by omega)).up (by omega)⟩
      unfold aTurned
      rw [hway]
      rw [hway] at c6
      exact ((((c6.up0.up0.up0).up (k := 5) (by omega)).up (k := 6) (by omega)).up (k := 7) (by omega))
    by_cases q2 : S 0 3 < to
    · rw [if_pos q2, Option.bind_some]
      exact key 1 (by rw [if_pos q2])
    · rw [if_neg q2, Option.bind_some]
      exact key (-1) (by rw [if_neg q2])
end CLS3
