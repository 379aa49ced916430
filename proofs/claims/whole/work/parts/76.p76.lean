section MOD7
variable {N H S B : MM} {LV : LVT} {b : Nat} {fl : Prop} {o : Int} {on : Prop}
theorem CM.fr {N' : MM} (hC : CM N H S B b fl) (f : ∀ a j, a ≠ 114 → a ≠ 115 → a ≠ 130 → a ≠ 88 ∨ j ≠ 53 → N' a j = N a j) : CM N' H S B b fl := by
  obtain ⟨g1, g2, g3, g4, g5, g6, g7⟩ := hC
  have fa : ∀ a j, a ≠ 114 → a ≠ 115 → a ≠ 130 → a ≠ 88 → N' a j = N a j := fun a j h1 h2 h3 h4 => f a j h1 h2 h3 (Or.inl h4)
  have f8 : ∀ j, j ≠ 53 → N' 88 j = N 88 j := fun j h => f 88 j (by decide) (by decide) (by decide) (Or.inr h)
  refine ⟨?_, ?_, ?_, ?_, ?_, ?_, ?_⟩
  · simp (disch := decide) only [fa]; exact g1
  · simp (disch := decide) only [fa]; exact g2
  · unfold RW at *; simp (disch := decide) only [fa]; exact g3
  · simp (disch := decide) only [fa]; exact g4
  · simp (disch := decide) only [fa]; exact g5
  · simp (disch := decide) only [f8]; exact g6
  · unfold TM at *; simp (disch := decide) only [f8]; exact g7
theorem CM.pay [Decidable on] (hC : CM N H S B b fl) {N' : MM} (f : ∀ a j, ¬ (a = 124 ∧ j = b) → ¬ (a = 125 ∧ j = b) → N' a j = N a j) (f1 : N' 124 b = N 124 b + (if on then H 0 11 else 0)) (f2 : N' 125 b = N 125 b + (if on then 1 else 0)) : CM N' H (aPay H S on) B b fl := by
  obtain ⟨⟨c1, c2, c3, c4, c5, c6, c7⟩, g2, g3, g4, g5, g6, g7⟩ := hC
  have fa : ∀ a j, a ≠ 124 → a ≠ 125 → N' a j = N a j := fun a j h1 h2 => f a j (fun z => h1 z.1) (fun z => h2 z.1)
  have p0 : ∀ j, j ≠ 13 → j ≠ 14 → aPay H S on 0 j = S 0 j := fun j h1 h2 => ap_a (Or.inr ⟨h1, h2⟩)
  have pa : ∀ a j, a ≠ 0 → aPay H S on a j = S a j := fun a j h => ap_a (Or.inl h)
  refine ⟨⟨?_, ?_, ?_, ?_, ?_, ?_, ?_⟩, ?_, ?_, ?_, ?_, ?_, ?_⟩
  · rw [fa _ _ (by decide) (by decide), p0 _ (by decide) (by decide)]; exact c1
  · rw [fa _ _ (by decide) (by decide), p0 _ (by decide) (by decide)]; exact c2
  · rw [fa _ _ (by decide) (by decide), p0 _ (by decide) (by decide)]; exact c3
  · rw [fa _ _ (by decide) (by decide), p0 _ (by decide) (by decide)]; exact c4
  · rw [f1, ap_13, c5, Int.add_right_comm]
  · rw [f2, ap_14, c6]
  · rw [fa _ _ (by decide) (by decide), p0 _ (by decide) (by decide)]; exact c7
  · simp (disch := decide) only [fa, pa]; exact g2
  · unfold RW at *; simp (disch := decide) only [fa, pa]; exact g3
  · simp (disch := decide) only [fa, pa]; exact g4
  · simp (disch := decide) only [fa, pa]; exact g5
  · simp (disch := decide) only [fa, p0]; exact g6
  · unfold TM at *; simp (disch := decide) only [fa, pa]; exact g7
theorem CM.rooms [Decidable on] {k : Nat} (hC : CM N H S B b fl) {N' : MM} (f : ∀ a j, ¬ (a = 116 ∧ 5 * b ≤ j ∧ j < 5 * b + 5) → ¬ (a = 117 ∧ 30 * b ≤ j ∧ j < 30 * b + 30) → N' a j = N a j) (hR : RW N' H (aRooms H LV S o on k) b) : CM N' H (aRooms H LV S o on k) B b fl := by
  obtain ⟨g1, g2, g3, g4, g5, g6, g7⟩ := hC
  have fa : ∀ a j, a ≠ 116 → a ≠ 117 → N' a j = N a j := fun a j h1 h2 => f a j (fun z => h1 z.1) (fun z => h2 z.1)
  have pa : ∀ a j, a ≠ 3 → aRooms H LV S o on k a j = S a j := fun a j h => ar_a h
  refine ⟨?_, ?_, hR, ?_, ?_, ?_, ?_⟩
  · simp (disch := decide) only [fa, pa]; exact g1
  · simp (disch := decide) only [fa, pa]; exact g2
  · simp (disch := decide) only [fa, pa]; exact g4
  · simp (disch := decide) only [fa, pa]; exact g5
  · simp (disch := decide) only [fa, pa]; exact g6
  · unfold TM at *; simp (disch := decide) only [fa, pa]; exact g7
theorem CM.hour (hC : CM N H S B b fl) {N' : MM} {t : Int} (f : ∀ a j, ¬ (a = 127 ∧ j = b) → N' a j = N a j) (f1 : N' 127 b = t) : CM N' H (upM S 0 2 t) B b fl := by
  obtain ⟨⟨c1, c2, c3, c4, c5, c6, c7⟩, g2, g3, g4, g5, g6, g7⟩ := hC
  have fa : ∀ a j, a ≠ 127 → N' a j = N a j := fun a j h1 => f a j (fun z => h1 z.1)
  have p0 : ∀ j, j ≠ 2 → upM S 0 2 t 0 j = S 0 j := fun j h1 => up_ni h1
  have pa : ∀ a j, a ≠ 0 → upM S 0 2 t a j = S a j := fun a j h => up_na h
  refine ⟨⟨?_, ?_, ?_, ?_, ?_, ?_, ?_⟩, ?_, ?_, ?_, ?_, ?_, ?_⟩
  · rw [f1, upM_eq]
  · rw [fa _ _ (by decide), p0 _ (by decide)]; exact c2
  · rw [fa _ _ (by decide), p0 _ (by decide)]; exact c3
  · rw [fa _ _ (by decide), p0 _ (by decide)]; exact c4
  · rw [fa _ _ (by decide), p0 _ (by decide)]; exact c5
  · rw [fa _ _ (by decide), p0 _ (by decide)]; exact c6
  · rw [fa _ _ (by decide), p0 _ (by decide)]; exact c7
  · simp (disch := decide) only [fa, pa]; exact g2
  · unfold RW at *; simp (disch := decide) only [fa, pa]; exact g3
  · simp (disch := decide) only [fa, pa]; exact g4
  · simp (disch := decide) only [fa, pa]; exact g5
  · simp (disch := decide) only [fa, p0]; exact g6
  · unfold TM at *; simp (disch := decide) only [fa, pa]; exact g7
/-- an hour of the second system -/
theorem m_goOn (hH : HM N H) (hHo : HOK H) (hC : CM N H S B b fl) (hSo : SOK H S) (hP : SP S) (hB : 0 ≤ B 0 13 ∧ S 0 13 + B 0 13 ≤ 99 * S 0 2) (hL : ML N LV) (hLc : LVc LV) (hLr : LVr LV) (hb : b < 2) (hs : -50 ≤ N 88 77 ∧ N 88 77 ≤ 50) (ho : o = cl (aOut H (S 0 2) + N 88 77) 0 400) (h16 : S 1 6 = -1 ∨ (S 1 0 ≠ 0 ∧ S 1 1 ≠ 0)) (ht : S 0 2 < 20000) : ∃ N', f_X12_goOn N (b : Int) = some N' ∧ CM N' H (aHour H LV o S) B b fl ∧ FM b N' N := by
  rw [aHour_def]
  have zb : 0 ≤ (b : Int) ∧ (b : Int) < 2 := ⟨by omega, by omega⟩
  have hC0 := hC.s6 (o := o)
  have hS0 := SOK_6 (o := o) hSo
  have hP0 : SP (upM S 0 6 o) := by unfold SP at *; simp (disch := decide) only [up_ni]; exact hP
  have hon := m_isOn hH hHo hC0 hS0 hb
  have hpr := hHo.2.2.2.2.2.2.1
  have e92 : N 92 2 = H 0 11 := hH.1.2.2.2.2.2.2.2
  have b1' : -2147483648 ≤ N 124 b + (if aOn H (upM S 0 6 o) then H 0 11 else 0) ∧ N 124 b + (if aOn H (upM S 0 6 o) then H 0 11 else 0) ≤ 2147483647 := by
    have e : N 124 b = S 0 13 + B 0 13 := hC.1.2.2.2.2.1
    have h13 := hSo.2.2.2.2.1
    have := ite_r (c := aOn H (upM S 0 6 o)) hpr ⟨by decide, by decide⟩
    rw [e]
    generalize (if aOn H (upM S 0 6 o) then H 0 11 else 0) = u at *
    omega
  have b2' : -2147483648 ≤ N 125 b + (if aOn H (upM S 0 6 o) then 1 else 0) ∧ N 125 b + (if aOn H (upM S 0 6 o) then 1 else 0) ≤ 2147483647 := by
    have e : N 125 b = S 0 14 := hC.1.2.2.2.2.2.1
    have h14 := hSo.2.2.2.2.2.1
    have := ite_r (c := aOn H (upM S 0 6 o)) (x := 1) (lo := 0) (hi := 1) ⟨by decide, by decide⟩ ⟨by decide, by decide⟩
    rw [e]
    generalize (if aOn H (upM S 0 6 o) then (1 : Int) else 0) = u at *
    omega
  have n124 : ∀ j, upM N 124 b (N 124 b + if aOn H (upM S 0 6 o) then H 0 11 else 0) 125 j = N 125 j := fun j => up_na (by decide)
  have fr2 : ∀ a j, ¬ (a = 124 ∧ j = b) → ¬ (a = 125 ∧ j = b) → upM (upM N 124 b (N 124 b + if aOn H (upM S 0 6 o) then H 0 11 else 0)) 125 b (N 125 b + if aOn H (upM S 0 6 o) then 1 else 0) a j = N a j := fun a j h1 h2 => by rw [upM_ne a j h2, upM_ne a j h1]
  have hC2 := hC0.pay (on := aOn H (upM S 0 6 o)) fr2 (by rw [up_na (by decide), upM_eq]) (by rw [upM_eq])
  have f2 : FM b (upM (upM N 124 b (N 124 b + if aOn H (upM S 0 6 o) then H 0 11 else 0)) 125 b (N 125 b + if aOn H (upM S 0 6 o) then 1 else 0)) N := (FM.rf.up (by unfold MS; omega)).up (by unfold MS; omega)
  have hS2 := SOK_pay hHo hS0 hP0 (on := aOn H (upM S 0 6 o))
  have t2 : aPay H (upM S 0 6 o) (aOn H (upM S 0 6 o)) 0 2 = S 0 2 := by rw [ap_a (Or.inr ⟨by decide, by decide⟩), up_ni (by decide)]
  have u2 : ∀ j, aPay H (upM S 0 6 o) (aOn H (upM S 0 6 o)) 1 j = S 1 j := fun j => by rw [ap_a (Or.inl (by decide)), up_na (by decide)]
  generalize hN2 : upM (upM N 124 b (N 124 b + if aOn H (upM S 0 6 o) then H 0 11 else 0)) 125 b (N 125 b + if aOn H (upM S 0 6 o) then 1 else 0) = N2 at hC2 f2
  generalize aPay H (upM S 0 6 o) (aOn H (upM S 0 6 o)) = S2 at hC2 hS2 t2 u2
  obtain ⟨N3, e3, l3, g3⟩ := m_losses (f2.hm hH) hHo hC2 hS2 (f2.ml hL) hLc hLr hb (by rw [f2.sh]; exact hs) (ho.trans (by rw [f2.sh, t2]))
  have hC3 := hC2.fr g3
  have f3 : FM b N3 N := FM.tr (fun a j hn => g3 a j (fun z => hn (Or.inl z)) (fun z => hn (Or.inr (Or.inl z))) (fun z => hn (Or.inr (Or.inr (Or.inl z)))) (Decidable.or_iff_not_not_and_not.mpr (fun z => hn (Or.inr (Or.inr (Or.inr (Or.inl ⟨Decidable.not_not.mp z.1, Or.inl (Decidable.not_not.mp z.2)⟩))))))) f2
  obtain ⟨N4, e4, r4, g4⟩ := m_rooms (on := aOn H (upM S 0 6 o)) (f3.hm hH) hHo hC3 hS2 hb l3
  have hC4 := hC3.rooms g4 r4
  have f4 : FM b N4 N := FM.tr (fun a j hn => g4 a j (fun z => hn (by unfold MS; omega)) (fun z => hn (by unfold MS; omega))) f3
  have hS4 := SOK_ar (LV := LV) (o := o) (on := aOn H (upM S 0 6 o)) hS2 (H 1 0).toNat
  have t4 : aRooms H LV S2 o (aOn H (upM S 0 6 o)) (H 1 0).toNat 0 2 = S 0 2 := by rw [ar_a (by decide), t2]
  have u4 : ∀ j, aRooms H LV S2 o (aOn H (upM S 0 6 o)) (H 1 0).toNat 1 j = S 1 j := fun j => by rw [ar_a (by decide), u2]
  generalize aRooms H LV S2 o (aOn H (upM S 0 6 o)) (H 1 0).toNat = S4 at hC4 hS4 t4 u4
  obtain ⟨N5, e5, c5, f5⟩ := m_turns (f4.hm hH) hHo hC4 hS4 (f4.ml hL) hLc hLr hb (by rw [f4.sh]; exact hs) (ho.trans (by rw [f4.sh, t4])) (fun z => by rw [u4] at z ⊢; rcases h16 with h | h; exact h; exact absurd z h.1)
  rw [u4] at c5
  have f5 := f5.tr f4
  have hS5 : SOK H (if S 1 0 = 0 then aTurns H LV o S4 (H 6 0).toNat else S4) := by split; exact SOK_Ts hS4 _; exact hS4
  have t5 : (if S 1 0 = 0 then aTurns H LV o S4 (H 6 0).toNat else S4) 0 2 = S 0 2 := by split; rw [aTs_a (by decide) (by decide) (by decide) (by decide), t4]; exact t4
  have u5 : ∀ j, (if S 1 0 = 0 then aTurns H LV o S4 (H 6 0).toNat else S4) 1 j = S 1 j := fun j => by split; rw [aTs_a (by decide) (by decide) (by decide) (Or.inl (by decide)), u4]; exact u4 j
  generalize (if S 1 0 = 0 then aTurns H LV o S4 (H 6 0).toNat else S4) = S5 at c5 hS5 t5 u5
  obtain ⟨N6, e6, c6, f6⟩ := m_cross (f5.hm hH) hHo c5 hS5 (f5.ml hL) hLc hLr hb (by rw [f5.sh]; exact hs) (ho.trans (by rw [f5.sh, t5])) (fun z => by rw [u5] at z ⊢; rcases h16 with h | h; exact h; exact absurd z h.2)
  rw [u5] at c6
  have f6 := f6.tr f5
  have t6 : (if S 1 1 = 0 then aCross H LV S5 o (H 6 0).toNat else S5) 0 2 = S 0 2 := by split; rw [ac_a (by decide), t5]; exact t5
  generalize (if S 1 1 = 0 then aCross H LV S5 o (H 6 0).toNat else S5) = S6 at c6 t6
  have e127 : N6 127 b = S 0 2 := c6.1.1.trans t6
  have h02 := hSo.1
  have b3 : -2147483648 ≤ S 0 2 + 1 ∧ S 0 2 + 1 ≤ 2147483647 := by omega
  have ms7 : MS b 127 b := by unfold MS; omega
  refine ⟨upM N6 127 b (S 0 2 + 1), ?_, c6.hour (fun a j h => upM_ne a j h) upM_eq, f6.up ms7⟩
  have x4 : ((if b1 (aOn H (upM S 0 6 o)) = 0 then (some 0) else some (N 92 2)) : Option Int) = some (if aOn H (upM S 0 6 o) then H 0 11 else 0) := by
    by_cases q : aOn H (upM S 0 6 o)
    · rw [if_neg (fun z => b1_0.mp z q), if_pos q, e92]
    · rw [if_pos (b1_0.mpr q), if_neg q]
  have x9 : ((if b1 (aOn H (upM S 0 6 o)) = 0 then (some 0) else some 1) : Option Int) = some (if aOn H (upM S 0 6 o) then 1 else 0) := by
    by_cases q : aOn H (upM S 0 6 o)
    · rw [if_neg (fun z => b1_0.mp z q), if_pos q]
    · rw [if_pos (b1_0.mpr q), if_neg q]
  rw [Int.toNat_natCast] at e5
  unfold f_X12_goOn
  rw [hon, Option.bind_some, gd_t zb, x4, Option.bind_some, gd_t zb, bM_eq, gd_t zb, x9, Option.bind_some, gd_t zb, bM_eq, Int.toNat_natCast, w32_i b1'.1 b1'.2, n124, w32_i b2'.1 b2'.2, hN2, e3, Option.bind_some, e4, Option.bind_some, e5, Option.bind_some, e6, Option.bind_some, gd_t zb, gd_t zb, bM_eq, e127, w32_i b3.1 b3.2]
end MOD7
