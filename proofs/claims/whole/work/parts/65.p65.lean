section CLS2
variable {M H S : MM} {LV : LVT} {h c : Nat}
/-- what an hour of the course at c may change -/
def Fr3 (h c : Nat) (M' M : MM) : Prop := ∀ a, a < c ∨ c + 7 < a → a ≠ h + 17 → a ≠ h + 18 → M' a = M a
theorem Fr3.rf : Fr3 h c M M := fun _ _ _ _ => rfl
theorem Fr3.tr {M1 M2 M3 : MM} (h1 : Fr3 h c M1 M2) (h2 : Fr3 h c M2 M3) : Fr3 h c M1 M3 := fun a x y z => (h1 a x y z).trans (h2 a x y z)
theorem Fr2.to3 {M' : MM} (f : Fr2 h M' M) : Fr3 h c M' M := fun a _ y z => f a y z
theorem Fr3.up {M' : MM} {a i : Nat} {v : Int} (f : Fr3 h c M' M) (ha : c ≤ a ∧ a ≤ c + 7) : Fr3 h c (upM M' a i v) M := fun x y z w => by rw [up_row (by omega)]; exact f x y z w
theorem Fr3.HC {M' : MM} (f : Fr3 h c M' M) (hc : c + 7 < h ∨ h + 22 < c) (hH : HC M h H) : HC M' h H := fun k h1 h2 h3 => by rw [f _ (by omega) (by omega) (by omega)]; exact hH k h1 h2 h3
theorem Fr3.CL {M' : MM} (f : Fr3 h c M' M) (hc : c + 7 < h ∨ h + 22 < c) (hL : CL M h LV) : CL M' h LV := fun m hm w hw hn => hL m (fun k a b => by rw [hm k a b, f _ (by omega) (by omega) (by omega)]) w hw hn
theorem CC.up (hC : CC M c S) {k i : Nat} {v : Int} (hk : k < 8) : CC (upM M (c + k) i v) c (upM S k i v) := fun x hx => by
  funext j
  unfold upM
  rw [hC x hx]
  by_cases e : x = k ∧ j = i
  · rw [if_pos ⟨by omega, e.2⟩, if_pos e]
  · rw [if_neg (fun z => e ⟨by omega, z.2⟩), if_neg e]
theorem CC.up0 (hC : CC M c S) {i : Nat} {v : Int} : CC (upM M c i v) c (upM S 0 i v) := hC.up (k := 0) (by omega)
theorem CC.cg {S' : MM} (hC : CC M c S) (e : ∀ k, k < 8 → S k = S' k) : CC M c S' := fun k hk => by rw [hC k hk, e k hk]
section
variable {o : Int} {on : Prop}
theorem ar_a [Decidable on] {k a j : Nat} (h : a ≠ 3) : aRooms H LV S o on k a j = S a j := if_neg h
theorem ar_3 [Decidable on] {k j : Nat} : aRooms H LV S o on k 3 j = aWarm H LV S o on k j := if_pos rfl
theorem ar_n [Decidable on] {k r : Nat} (h1 : k ≤ r) (h2 : r < 5) : aRooms H LV S o on k 3 r = S 3 r := by rw [ar_3]; unfold aWarm; rw [if_pos h2, if_neg (by omega)]
theorem ar_loss [Decidable on] {k r : Nat} (h1 : k ≤ r) (h2 : r < 5) {o' : Int} : aLoss H LV (aRooms H LV S o on k) o' r = aLoss H LV S o' r := by
  unfold aLoss aLeak aNm
  simp only [ar_n h1 h2, ar_a (show (0 : Nat) ≠ 3 by omega), ar_a (show (1 : Nat) ≠ 3 by omega)]
theorem SOK_ar [Decidable on] (hSo : SOK H S) (k : Nat) : SOK H (aRooms H LV S o on k) := by
  unfold SOK at *
  simp only [ar_a (show (0 : Nat) ≠ 3 by omega), ar_a (show (1 : Nat) ≠ 3 by omega), ar_a (show (2 : Nat) ≠ 3 by omega), ar_a (show (4 : Nat) ≠ 3 by omega), ar_a (show (5 : Nat) ≠ 3 by omega)]
  obtain ⟨x1, x2, x3, x4, x5, x6, x7, x8, h30, x10, x11, x12⟩ := hSo
  refine ⟨x1, x2, x3, x4, x5, x6, x7, x8, ?_, x10, x11, x12⟩
  intro j hj
  rw [ar_3]
  unfold aWarm
  split
  · split
    · exact cl_r (by omega)
    · exact h30 j hj
  · exact h30 _ (by omega)
theorem c_rooms [Decidable on] (hh : h = 8 ∨ h = 31) (hc : c = 54 ∨ c = 62 ∨ c = 70) (hH : HC M h H) (hHo : HOK H) (hC : CC M c S) (hSo : SOK H S) (hz : S 0 1 = (h : Int)) (hL : CL M h LV) (hLc : LVc LV) (hLr : LVr LV) (he : S 0 6 = o) (ho : 0 ≤ o ∧ o ≤ 400) : ∃ M', f_X0_changeRooms M c (b1 on) = some M' ∧ CC M' c (aRooms H LV S o on (H 1 0).toNat) ∧ Fr3 h c M' M := by
  have h5 := hHo.1
  unfold f_X0_changeRooms
  rw [bM_eq]
  refine lp_cnt (H 1 0).toNat (fun k m => CC m c (aRooms H LV S o on k) ∧ Fr3 h c m M) _ (by omega) ?_ ?_ _ ?_
  · rintro k m hk ⟨hCm, fm⟩
    left
    have hHm := fm.HC (by omega) hH
    have hLm := fm.CL (by omega) hL
    have hSm := SOK_ar (H := H) (LV := LV) (o := o) (on := on) hSo k
    have hR := hHo.2.2.2.2.2.2.2.2.1 k (by omega)
    have hns := hHo.2.2.1
    have hsr := aSun_r hHo (k : Int) (S 0 2 % 24) (H 0 3).toNat (by omega)
    have hw := hSo.2.2.2.2.2.2.2.2.1 k (by omega)
    have ht := hSo.1
    have a0 : ∀ {j}, aRooms H LV S o on k 0 j = S 0 j := fun {j} => ar_a (by omega)
    have a1 : ∀ {j}, aRooms H LV S o on k 1 j = S 1 j := fun {j} => ar_a (by omega)
    obtain ⟨m1, e1, f1⟩ := c_loss hh hc hHm hHo hCm hSm (by rw [a0]; exact hz) hLm hLc hLr (by rw [a0]; omega) (r := k) (by omega)
    rw [a0, he, ar_loss (by omega) (by omega)] at e1
    have hlr : -400 ≤ aLoss H LV S o k ∧ aLoss H LV S o k ≤ 400 := cl_r (by omega)
    dsimp only
    simp (disch := omega) only [hCm.at0, a0, hz, gH_h, hHm.at (k := 1), hHm.at (k := 5), gd_t, Int.toNat_natCast, hCm.at (k := 1), a1, w32_i, tmn, c_sunOn hHm hHo, e1, Option.bind_some, bI_eq, b1_0]
    rw [if_pos (by omega)]
    have key : ∀ (g1 : Int) (m' : MM), Fr2 h m' m → -1000 ≤ g1 ∧ g1 ≤ 1000 → g1 = aGain H LV S o on k → ∃ s' : MM, ((f_X11_limited m' (w32 (m' (c + 3) k + g1)) 0 600).bind fun x19 => bM (upM m' (c + 3) k x19) fun M21 => (some (Sum.inl ((k : Int) + 1, M21)) : Option ((Int × MM) ⊕ MM))) = some (Sum.inl (((k + 1 : Nat) : Int), s')) ∧ CC s' c (aRooms H LV S o on (k + 1)) ∧ Fr3 h c s' M := by
      intro g1 m' f' hg eg
      have hC' := f'.CC (by omega) hCm
      refine ⟨upM m' (c + 3) k (cl (S 3 k + g1) 0 600), ?_, ?_, (f'.to3.tr fm).up (by omega)⟩
      · rw [hC'.at (k := 3) (by omega), ar_n (by omega) (by omega), w32_i (by omega) (by omega), lim (by omega) (by omega)]
        rfl
      · refine (hC'.up (k := 3) (by omega)).cg ?_
        intro x hx
        funext j
        by_cases e : x = 3
        · subst e
          by_cases ej : j = k
          · subst ej
            rw [upM_eq, ar_3]
            unfold aWarm
            rw [if_pos (by omega), if_pos (by omega), eg]
          · rw [up_ni ej, ar_3, ar_3]
            unfold aWarm
            by_cases j5 : j < 5
            · rw [if_pos j5, if_pos j5]
              by_cases jk : j < k
              · rw [if_pos jk, if_pos (by omega)]
              · rw [if_neg jk, if_neg (by omega)]
            · rw [if_neg j5, if_neg j5]
        · rw [up_na e, ar_a e, ar_a e]
    unfold aGain at key
    by_cases q3 : S 1 4 = 0
    · by_cases q1 : on <;> by_cases q2 : S 1 2 = 0 <;> simp (disch := omega) only [q1, q2, q3, if_true, if_false, not_true, not_false_iff, Option.bind_some, w32_i] at key ⊢ <;> with_reducible refine key _ m1 f1 ?_ ?_ <;> omega
    · by_cases q1 : on <;> by_cases q2 : S 1 2 = 0 <;> simp (disch := omega) only [q1, q2, q3, if_true, if_false, not_true, not_false_iff, Option.bind_some, w32_i] at key ⊢ <;> with_reducible refine key _ m Fr2.rf ?_ ?_ <;> omega
  · rintro m ⟨hCm, fm⟩
    have hHm := fm.HC (by omega) hH
    have a0 : ∀ {j}, aRooms H LV S o on (H 1 0).toNat 0 j = S 0 j := fun {j} => ar_a (by omega)
    refine ⟨m, ?_, hCm, fm⟩
    dsimp only
    simp (disch := omega) only [hCm.at0, a0, hz, gH_h, hHm.at (k := 1)]
    rw [if_neg (by omega)]
  · refine ⟨?_, ?_⟩
    · intro x hx
      funext j
      unfold cpM
      by_cases e : x = 3
      · subst e
        rw [ar_3]
        unfold aWarm
        by_cases j5 : j < 5
        · rw [if_neg (by omega), if_pos j5, if_neg (by omega), hC.at (by omega)]
        · rw [if_neg j5]
          by_cases j3 : j < 30
          · rw [if_pos (by omega), if_pos j3, hC.at (by omega), Nat.zero_add]
          · rw [if_neg (by omega), if_neg j3, hC.at (by omega)]
      · rw [if_neg (by omega), ar_a e, hC.at hx]
    · intro a h1 h2 h3
      funext j
      unfold cpM
      rw [if_neg (by omega)]
end
end CLS2
