/-- a loop that counts -/
theorem lp_cnt {S Y : Type} {step : Int × S → Option ((Int × S) ⊕ Y)} (n : Nat) (I : Nat → S → Prop) (Q : Y → Prop) (hn : n < 999999) (h1 : ∀ k s, k < n → I k s → (∃ s', step ((k : Int), s) = some (.inl (((k + 1 : Nat) : Int), s')) ∧ I (k + 1) s') ∨ (∃ y, step ((k : Int), s) = some (.inr y) ∧ Q y)) (h2 : ∀ s, I n s → ∃ y, step ((n : Int), s) = some (.inr y) ∧ Q y) (s0 : S) (h0 : I 0 s0) : ∃ y, lp step FU (0, s0) = some y ∧ Q y := by
  refine lp_FU (I := fun x => ∃ k : Nat, k ≤ n ∧ x.1 = (k : Int) ∧ I k x.2) (μ := fun x => n + 1 - x.1.toNat) (Q := Q) ?_ (0, s0) ⟨0, Nat.zero_le _, rfl, h0⟩ (by show n + 1 - (0 : Int).toNat < _; omega)
  rintro ⟨i, s⟩ ⟨k, hk, hi, hI⟩
  dsimp only at hi hI
  subst hi
  by_cases hkn : k < n
  · rcases h1 k s hkn hI with ⟨s', e, hI'⟩ | ⟨y, e, hq⟩
    · refine Or.inr ⟨_, e, ⟨k + 1, by omega, rfl, hI'⟩, ?_⟩
      show n + 1 - ((k + 1 : Nat) : Int).toNat < n + 1 - (k : Int).toNat
      omega
    · exact Or.inl ⟨y, e, hq⟩
  · have : k = n := by omega
    subst this
    exact Or.inl (h2 s hI)
/-- the same, the counter behind a sum -/
theorem lp_sum {Y : Type} {step : Int × Int → Option ((Int × Int) ⊕ Y)} (n : Nat) (F : Nat → Int) (y : Y) (hn : n < 999999) (h1 : ∀ k, k < n → step (F k, (k : Int)) = some (.inl (F (k + 1), ((k + 1 : Nat) : Int)))) (h2 : step (F n, (n : Int)) = some (.inr y)) (s0 : Int) (h0 : F 0 = s0) : lp step FU (s0, 0) = some y := by
  have := lp_FU (step := step) (I := fun x => ∃ k : Nat, k ≤ n ∧ x = (F k, (k : Int))) (μ := fun x => n + 1 - x.2.toNat) (Q := fun z => z = y) ?_ (s0, 0) ⟨0, Nat.zero_le _, by rw [h0]; rfl⟩ (by show n + 1 - (0 : Int).toNat < _; omega)
  · obtain ⟨z, e, rfl⟩ := this
    exact e
  rintro _ ⟨k, hk, rfl⟩
  by_cases hkn : k < n
  · refine Or.inr ⟨_, h1 k hkn, ⟨k + 1, by omega, rfl⟩, ?_⟩
    show n + 1 - ((k + 1 : Nat) : Int).toNat < n + 1 - (k : Int).toNat
    omega
  · have : k = n := by omega
    subst this
    exact Or.inl ⟨y, h2, rfl⟩
section CLS
variable {M H S : MM} {LV : LVT} {h c : Nat}
theorem HC.at (hH : HC M h H) {k j : Nat} (h1 : k < 23) (h2 : k ≠ 17) (h3 : k ≠ 18) : M (h + k) j = H k j := by rw [hH k h1 h2 h3]
theorem CC.at (hC : CC M c S) {k j : Nat} (h1 : k < 8) : M (c + k) j = S k j := by rw [hC k h1]
theorem HC.at0 (hH : HC M h H) {j : Nat} : M h j = H 0 j := hH.at (k := 0) (by omega) (by omega) (by omega)
theorem CC.at0 (hC : CC M c S) {j : Nat} : M c j = S 0 j := hC.at (k := 0) (by omega)
theorem c_late (hC : CC M c S) (p : Nat) : f_X10_lateOf M (c + 1) (p : Int) (H 10 p) = some (aLate H S p) := by
  unfold f_X10_lateOf aLate
  simp only [hC.at (k := 1) (by omega)]
  split
  · rfl
  · split <;> rfl
theorem aLate_r (hHo : HOK H) (hSo : SOK H S) {p : Nat} (hp : (p : Int) < H 6 0) : 0 ≤ aLate H S p ∧ aLate H S p ≤ 5 := by
  obtain ⟨_, _, _, _, _, _, _, _, _, hP, _, _⟩ := hHo
  obtain ⟨_, _, _, _, _, _, _, _, _, _, _, hL⟩ := hSo
  have := hP p hp
  unfold aLate
  split
  · omega
  · split <;> omega
theorem aFelt_r (hHo : HOK H) (hSo : SOK H S) {p : Nat} (hp : (p : Int) < H 6 0) : 0 ≤ aFelt H S p ∧ aFelt H S p ≤ 620 := by
  have h1 := aLate_r hHo hSo hp
  obtain ⟨_, _, _, _, _, _, _, _, _, hP, _, _⟩ := hHo
  obtain ⟨_, _, _, _, _, _, _, _, h30, _, _, _⟩ := hSo
  have h2 := hP p hp
  have h3 := h30 (aLate H S p * 5 + H 8 p).toNat (by omega)
  unfold aFelt
  split <;> omega
theorem c_felt (hh : h = 8 ∨ h = 31) (hH : HC M h H) (hHo : HOK H) (hC : CC M c S) (hSo : SOK H S) (hz : S 0 1 = (h : Int)) {p : Nat} (hp : (p : Int) < H 6 0) : f_X0_feltBy M c (p : Int) = some (aFelt H S p) := by
  have h1 := aLate_r hHo hSo hp
  obtain ⟨_, h6, _, _, _, _, _, _, _, hP, _, _⟩ := hHo
  obtain ⟨_, _, _, _, _, _, _, _, h30, _, _, _⟩ := hSo
  have h2 := hP p hp
  have h3 := h30 (aLate H S p * 5 + H 8 p).toNat (by omega)
  unfold f_X0_feltBy aFelt
  simp (disch := omega) only [hC.at0, hz, gH_h, gd_t, Int.toNat_natCast, hH.at (k := 10), hH.at (k := 8), c_late hC, Option.bind_some, w32_i, hC.at (k := 2), hC.at (k := 3)]
  split
  · simp (disch := omega) only [Option.bind_some, w32_i]
  · simp (disch := omega) only [Option.bind_some, w32_i]
theorem c_isOn (hh : h = 8 ∨ h = 31) (hH : HC M h H) (hHo : HOK H) (hC : CC M c S) (hSo : SOK H S) (hz : S 0 1 = (h : Int)) : f_X0_isOn M c = some (b1 (aOn H S)) := by
  obtain ⟨_, h6, _, _, _, _, _, _, _, hP, _, _⟩ := hHo
  obtain ⟨_, hs, hr, _, _, _, _, _, h30, _, _, _⟩ := hSo
  have h3 := h30 (S 0 4).toNat (by omega)
  unfold f_X0_isOn aOn b1
  simp (disch := omega) only [hC.at0, hz, gH_h, gd_t, Int.toNat_natCast, hH.at (k := 1), Option.bind_some, w32_i, hC.at (k := 2), hC.at (k := 3)]
  split
  · split
    · rename_i a b
      simp (disch := omega) only [Option.bind_some, w32_i, a, true_and]
      split <;> rfl
    · rename_i a b
      simp (disch := omega) only [Option.bind_some, w32_i, a, true_and]
      split <;> rfl
  · rename_i a
    simp only [a, false_and, if_false]
theorem aOut_r (hHo : HOK H) (t : Int) : 0 ≤ aOut H t ∧ aOut H t ≤ 400 := by
  obtain ⟨_, _, _, h7, _, _, _, _, _, _, _, hO⟩ := hHo
  unfold aOut
  split
  · rename_i a
    have h1 := Int.emod_nonneg t (b := H 0 7) (by omega)
    have h2 := Int.emod_lt_of_pos t a
    have := hO (t % H 0 7).toNat (by omega)
    omega
  · omega
theorem c_outAt (hH : HC M h H) (hHo : HOK H) {t : Int} (ht : 0 ≤ t) : f_X2_outAt M h t = some (aOut H t) := by
  obtain ⟨_, _, _, h7, _, _, _, _, _, _, _, hO⟩ := hHo
  unfold f_X2_outAt aOut
  simp only [hH.at0]
  split
  · rename_i a
    have h1 := Int.emod_nonneg t (b := H 0 7) (by omega)
    have h2 := Int.emod_lt_of_pos t a
    rw [if_neg (by omega)]
    simp (disch := omega) only [tmn, gd_t, w32_i, hH.at (k := 22)]
  · rfl
theorem aSun_r (hHo : HOK H) (r t : Int) : ∀ n : Nat, (n : Int) ≤ H 0 3 → 0 ≤ aSun H r t n ∧ aSun H r t n ≤ 99 * n
  | 0, _ => by unfold aSun; omega
  | n + 1, hn => by
    have ih := aSun_r hHo r t n (by omega)
    obtain ⟨_, _, _, _, _, _, _, _, _, _, hS, _⟩ := hHo
    have := hS n (by omega)
    unfold aSun
    split <;> omega
theorem c_sunOn (hH : HC M h H) (hHo : HOK H) (r t : Int) : f_X2_sunOn M h r t = some (aSun H r t (H 0 3).toNat) := by
  have hb := aSun_r hHo r t
  obtain ⟨_, _, h3, h7, _, _, _, _, _, _, hS, _⟩ := hHo
  unfold f_X2_sunOn
  refine lp_sum (H 0 3).toNat (aSun H r t) _ (by omega) ?_ ?_ 0 rfl
  · intro k hk
    have b1 := hb k (by omega)
    have b2 := hS k (by omega)
    have e : aSun H r t (k + 1) = aSun H r t k + (if H 19 k = r ∧ H 20 k = t then H 21 k else 0) := rfl
    dsimp only
    rw [if_pos (by rw [hH.at0]; omega), e]
    simp (disch := omega) only [gd_t, Int.toNat_natCast, hH.at (k := 19), hH.at (k := 20), hH.at (k := 21), w32_i, bI_eq]
    by_cases a : H 19 k = r
    · by_cases b : H 20 k = t
      · rw [if_pos a, if_pos b, if_pos ⟨a, b⟩]
        simp (disch := omega) only [Option.bind_some, w32_i]
        rfl
      · rw [if_pos a, if_neg b, if_neg (fun z => b z.2)]
        simp (disch := omega) only [Option.bind_some, w32_i, Int.add_zero]
        rfl
    · rw [if_neg a, if_neg (fun z => a z.1)]
      simp (disch := omega) only [Option.bind_some, w32_i, Int.add_zero]
      rfl
  · dsimp only
    rw [if_neg (by rw [hH.at0]; omega)]
theorem aLeak_r (hHo : HOK H) {r : Nat} (hr : (r : Int) < H 1 0) : 0 ≤ aLeak H S r ∧ aLeak H S r ≤ 99 := by
  obtain ⟨_, _, _, _, _, _, _, _, hR, _, _, _⟩ := hHo
  have := hR r hr
  unfold aLeak
  split <;> omega
theorem c_leak (hHo : HOK H) (hC : CC M c S) {r : Nat} (hr : (r : Int) < H 1 0) : f_X10_leakOf M (c + 1) (r : Int) (H 4 r) = some (aLeak H S r) := by
  obtain ⟨_, _, _, _, _, _, _, _, hR, _, _, _⟩ := hHo
  have := hR r hr
  unfold f_X10_leakOf aLeak
  simp only [hC.at (k := 1) (by omega)]
  split
  · simp (disch := omega) only [tdn, w32_i]
  · rfl
/-- names laid, a law asked: nothing else changes but rows 17 and 18 of the house -/
def Fr2 (h : Nat) (M' M : MM) : Prop := ∀ a, a ≠ h + 17 → a ≠ h + 18 → M' a = M a
theorem Fr2.rf : Fr2 h M M := fun _ _ _ => rfl
theorem Fr2.tr {M1 M2 M3 : MM} (h1 : Fr2 h M1 M2) (h2 : Fr2 h M2 M3) : Fr2 h M1 M3 := fun a x y => (h1 a x y).trans (h2 a x y)
theorem Fr2.HC {M' : MM} (f : Fr2 h M' M) (hH : HC M h H) : HC M' h H := fun k h1 h2 h3 => by rw [f _ (by omega) (by omega)]; exact hH k h1 h2 h3
theorem Fr2.CC {M' : MM} (f : Fr2 h M' M) (hc : c + 7 < h ∨ h + 18 < c) (hC : CC M c S) : CC M' c S := fun k h1 => by rw [f _ (by omega) (by omega)]; exact hC k h1
theorem Fr2.CL {M' : MM} (f : Fr2 h M' M) (hL : CL M h LV) : CL M' h LV := fun m hm w hw hn => hL m (fun k a b => by rw [hm k a b, f _ (by omega) (by omega)]) w hw hn
theorem c_name (hh : h = 8 ∨ h = 31) (hc : c = 54 ∨ c = 62 ∨ c = 70) (hC : CC M c S) (hSo : SOK H S) (hz : S 0 1 = (h : Int)) {r : Nat} (hr : (r : Int) < 5) (leak : Int) : ∃ M', f_X0_nameRoom M c (r : Int) leak = some M' ∧ (∀ j, j < 7 → M' (h + 18) j = aNm S (S 0 6) r 0 0 leak j) ∧ ∀ a, a ≠ h + 18 → M' a = M a := by
  obtain ⟨ht, hs, hr, _, _, _, _, _, h30, _, _, _⟩ := hSo
  unfold f_X0_nameRoom
  simp (disch := omega) only [hC.at0, hz, gH_h, gd_t, Int.toNat_natCast, bM_eq, up_na, w32_i, hC.at (k := 3), tmn]
  refine ⟨_, rfl, ?_, ?_⟩
  · intro j hj
    have : j = 0 ∨ j = 1 ∨ j = 2 ∨ j = 3 ∨ j = 4 ∨ j = 5 ∨ j = 6 := by omega
    unfold aNm
    rcases this with rfl | rfl | rfl | rfl | rfl | rfl | rfl <;> simp [up_ni, upM_eq]
  · intro a ha
    simp only [up_row ha]
theorem aNm_ok (hHo : HOK H) (hSo : SOK H S) {o felt wish leak : Int} {r : Nat} (hr : (r : Int) < 5) (ho : 0 ≤ o ∧ o ≤ 400) (hf : 0 ≤ felt ∧ felt ≤ 620) (hw : 0 ≤ wish ∧ wish ≤ 400) (hl : 0 ≤ leak ∧ leak ≤ 99) : NmOK (aNm S o r felt wish leak) := by
  obtain ⟨ht, hs, _, _, _, _, _, _, h30, _, _, _⟩ := hSo
  have := h30 r (by omega)
  intro j hj
  unfold aNm
  repeat' split
  all_goals omega
theorem c_rlaw (hh : h = 8 ∨ h = 31) (hc : c = 54 ∨ c = 62 ∨ c = 70) (hHo : HOK H) (hC : CC M c S) (hSo : SOK H S) (hz : S 0 1 = (h : Int)) (hL : CL M h LV) (hLc : LVc LV) (ho : 0 ≤ S 0 6 ∧ S 0 6 ≤ 400) {r : Nat} (hr : (r : Int) < 5) {leak : Int} (hl : 0 ≤ leak ∧ leak ≤ 99) : ∃ M', f_X0_roomLaw M c (r : Int) leak = some ((LV 0 (aNm S (S 0 6) r 0 0 leak)).getD ERR, M') ∧ Fr2 h M' M := by
  obtain ⟨M1, e1, n1, f1⟩ := c_name hh hc hC hSo hz hr leak
  have ok := aNm_ok hHo hSo hr ho (felt := 0) (wish := 0) (by omega) (by omega) hl
  obtain ⟨M2, e2, f2⟩ := hL M1 (fun k _ _ => f1 _ (by omega)) 0 (by omega) (fun j hj => by rw [n1 j hj]; exact ok j hj)
  refine ⟨M2, ?_, fun a a1 a2 => (f2 a a1).trans (f1 a a2)⟩
  unfold f_X0_roomLaw
  have z1 : M1 c 1 = (h : Int) := by rw [f1 c (by omega), hC.at0, hz]
  have e3 : f_X3_value M1 (h + 12) 0 = some ((LV 0 (M1 (h + 18))).getD ERR, M2) := e2
  rw [e1, Option.bind_some, z1, gH_h hh, e3, Option.bind_some, hLc 0 _ _ n1]
theorem getD_ERR (hLr : LVr LV) {w : Nat} {a : Nat → Int} : (cmpI ((LV w a).getD ERR) (-9223372036854775808) = 0) ↔ LV w a = none := by
  rw [cmpI_eq]
  cases e : LV w a with
  | none => simp [ERR]
  | some v =>
    have := hLr w a v e
    constructor
    · intro z
      change v = _ at z
      omega
    · intro z
      cases z
theorem lim {a b d : Int} (hb : -1000 ≤ b ∧ b ≤ 1000) (hd : -1000 ≤ d ∧ d ≤ 1000) : f_X11_limited M a b d = some (cl a b d) := pu_limited M (by unfold r32; omega) (by unfold r32; omega)
theorem td100 {x y : Int} (hx : -600 ≤ x ∧ x ≤ 600) (hy : 0 ≤ y ∧ y ≤ 99) : -59400 ≤ x * y ∧ x * y ≤ 59400 ∧ -60000 ≤ (x * y).tdiv 100 ∧ (x * y).tdiv 100 ≤ 60000 := by
  have h1 : -59400 ≤ x * y := by
    have : -600 * y ≤ x * y := Int.mul_le_mul_of_nonneg_right hx.1 hy.1
    omega
  have h2 : x * y ≤ 59400 := by
    have : x * y ≤ 600 * y := Int.mul_le_mul_of_nonneg_right hx.2 hy.1
    omega
  have h3 : ((x * y).tdiv 100).natAbs ≤ (x * y).natAbs := by rw [Int.natAbs_tdiv]; exact Nat.div_le_self _ _
  omega
theorem c_loss (hh : h = 8 ∨ h = 31) (hc : c = 54 ∨ c = 62 ∨ c = 70) (hH : HC M h H) (hHo : HOK H) (hC : CC M c S) (hSo : SOK H S) (hz : S 0 1 = (h : Int)) (hL : CL M h LV) (hLc : LVc LV) (hLr : LVr LV) (ho : 0 ≤ S 0 6 ∧ S 0 6 ≤ 400) {r : Nat} (hr : (r : Int) < H 1 0) : ∃ M', f_X0_lossOf M c (r : Int) = some (aLoss H LV S (S 0 6) r, M') ∧ Fr2 h M' M := by
  have hl := aLeak_r (S := S) hHo hr
  have hlk := c_leak hHo hC hr
  have h5 := hHo.1
  have hw := hSo.2.2.2.2.2.2.2.2.1 r (by omega)
  obtain ⟨M1, e1, f1⟩ := c_rlaw hh hc hHo hC hSo hz hL hLc ho (r := r) (by omega) hl
  have hC1 := f1.CC (by omega) hC
  refine ⟨M1, ?_, f1⟩
  have ht := td100 (x := S 3 r - S 0 6) (y := aLeak H S r) (by omega) hl
  unfold f_X0_lossOf aLoss
  simp (disch := omega) only [hC.at0, hz, gH_h, gd_t, Int.toNat_natCast, hH.at (k := 4), hlk, e1, Option.bind_some, getD_ERR hLr, hC1.at (k := 3), hC1.at0, w32_i, bI_eq]
  cases e : LV 0 (aNm S (S 0 6) r 0 0 (aLeak H S r)) with
  | none =>
    rw [if_pos rfl, Option.bind_some, lim (by omega) (by omega)]
    rfl
  | some v =>
    rw [if_neg (by simp), Option.bind_some, lim (by omega) (by omega)]
    rfl
end CLS
