theorem ite_r {c : Prop} [Decidable c] {x lo hi : Int} (h : lo ≤ x ∧ x ≤ hi) (h0 : lo ≤ 0 ∧ 0 ≤ hi) : lo ≤ (if c then x else 0) ∧ (if c then x else 0) ≤ hi := by split; exact h; exact h0
theorem ix5 {b k : Nat} (hb : b < 2) (hk : k < 5) : (5 * (b : Int) + (k : Int)).toNat = 5 * b + k ∧ w32 (5 * (b : Int)) = 5 * (b : Int) ∧ w32 (5 * (b : Int) + (k : Int)) = 5 * (b : Int) + (k : Int) ∧ (0 ≤ 5 * (b : Int) + (k : Int) ∧ 5 * (b : Int) + (k : Int) < 10) ∧ (0 ≤ (k : Int) ∧ (k : Int) < 10) ∧ (0 ≤ (k : Int) ∧ (k : Int) < 5) ∧ w32 ((k : Int) + 1) = (k : Int) + 1 ∧ (0 ≤ (b : Int) ∧ (b : Int) < 2) := by
  refine ⟨by omega, w32_i (by omega) (by omega), w32_i (by omega) (by omega), by omega, by omega, by omega, w32_i (by omega) (by omega), by omega⟩
theorem ix30 {b k : Nat} (hb : b < 2) (hk : k < 5) : (30 * (b : Int) + 6 * (k : Int)).toNat = 30 * b + 6 * k ∧ w32 (30 * (b : Int)) = 30 * (b : Int) ∧ w32 (30 * (b : Int) + w32 (6 * (k : Int))) = 30 * (b : Int) + 6 * (k : Int) ∧ (0 ≤ 30 * (b : Int) + 6 * (k : Int) ∧ 30 * (b : Int) + 6 * (k : Int) < 60) := by
  refine ⟨by omega, w32_i (by omega) (by omega), ?_, by omega⟩
  rw [w32_i (x := 6 * (k : Int)) (by omega) (by omega), w32_i (by omega) (by omega)]
theorem sum_w {w u1 u2 u3 : Int} (hw : 0 ≤ w ∧ w ≤ 600) (g1 : 0 ≤ u1 ∧ u1 ≤ 99) (g2 : 0 ≤ u2 ∧ u2 ≤ 400) (g3 : -400 ≤ u3 ∧ u3 ≤ 400) : w32 (w32 (w32 (w + u1) + u2) - u3) = w + (u1 + u2 - u3) := by
  rw [w32_i (x := w + u1) (by omega) (by omega), w32_i (x := w + u1 + u2) (by omega) (by omega), w32_i (by omega) (by omega)]
  omega
section MOD5
variable {N H S B : MM} {LV : LVT} {b : Nat} {fl : Prop} {o : Int} {on : Prop}
theorem m_rooms [Decidable on] (hH : HM N H) (hHo : HOK H) (hC : CM N H S B b fl) (hSo : SOK H S) (hb : b < 2) (hl : ∀ r : Nat, (r : Int) < H 1 0 → N 130 r = if S 1 4 = 0 then aLoss H LV S o r else 0) : ∃ N', (lp (X := Int × MM) (Y := MM) (fun x18 =>
    if x18.1 < (x18.2 88 12) then
    (gd (0 ≤ w32 ((w32 (5 * (b : Int))) + x18.1) ∧ w32 ((w32 (5 * (b : Int))) + x18.1) < (10 : Int)) <|
    ((if b1 on = 0 then
    (some 0)
    else
    gd (0 ≤ x18.1 ∧ x18.1 < (10 : Int)) <|
    some (x18.2 96 (x18.1).toNat)) : Option (Int)).bind fun x23 =>
    (f_X12_sunIn x18.2 (b : Int) x18.1).bind fun x24 =>
    gd (0 ≤ x18.1 ∧ x18.1 < (5 : Int)) <|
    bI (w32 ((w32 ((w32 ((x18.2 116 (w32 ((w32 (5 * (b : Int))) + x18.1)).toNat) + x23)) + x24)) - (x18.2 130 (x18.1).toNat))) fun x26 =>
    (f_X12_within x18.2 x26 0 600).bind fun x27 =>
    gd (0 ≤ w32 ((w32 (5 * (b : Int))) + x18.1) ∧ w32 ((w32 (5 * (b : Int))) + x18.1) < (10 : Int)) <|
    bM (upM x18.2 116 (w32 ((w32 (5 * (b : Int))) + x18.1)).toNat x27) fun M29 =>
    (lp (X := Int × MM) (Y := MM) (fun x30 =>
    if 0 < x30.1 then
    (gd (0 ≤ w32 ((w32 ((w32 ((w32 (30 * (b : Int))) + (w32 (6 * x18.1)))) + x30.1)) - 1) ∧ w32 ((w32 ((w32 ((w32 (30 * (b : Int))) + (w32 (6 * x18.1)))) + x30.1)) - 1) < (60 : Int)) <|
    gd (0 ≤ w32 ((w32 ((w32 (30 * (b : Int))) + (w32 (6 * x18.1)))) + x30.1) ∧ w32 ((w32 ((w32 (30 * (b : Int))) + (w32 (6 * x18.1)))) + x30.1) < (60 : Int)) <|
    bM (upM x30.2 117 (w32 ((w32 ((w32 (30 * (b : Int))) + (w32 (6 * x18.1)))) + x30.1)).toNat (x30.2 117 (w32 ((w32 ((w32 ((w32 (30 * (b : Int))) + (w32 (6 * x18.1)))) + x30.1)) - 1)).toNat)) fun M34 =>
    some (Sum.inl (w32 (x30.1 + (-1)), M34)))
    else
    some (Sum.inr x30.2)) FU (5, M29)).bind fun x35 =>
    gd (0 ≤ w32 ((w32 (5 * (b : Int))) + x18.1) ∧ w32 ((w32 (5 * (b : Int))) + x18.1) < (10 : Int)) <|
    gd (0 ≤ w32 ((w32 (30 * (b : Int))) + (w32 (6 * x18.1))) ∧ w32 ((w32 (30 * (b : Int))) + (w32 (6 * x18.1))) < (60 : Int)) <|
    bM (upM x35 117 (w32 ((w32 (30 * (b : Int))) + (w32 (6 * x18.1)))).toNat (x35 116 (w32 ((w32 (5 * (b : Int))) + x18.1)).toNat)) fun M38 =>
    some (Sum.inl (w32 (x18.1 + 1), M38)))
    else
    some (Sum.inr x18.2)) FU (0, N)) = some N' ∧ (RW N' H (aRooms H LV S o on (H 1 0).toNat) b ∧ ∀ a j, ¬ (a = 116 ∧ 5 * b ≤ j ∧ j < 5 * b + 5) → ¬ (a = 117 ∧ 30 * b ≤ j ∧ j < 30 * b + 30) → N' a j = N a j) := by
  have h5 := hHo.1
  have hns := hHo.2.2.1
  have hW : ∀ r : Nat, r < 5 → 0 ≤ S 3 r ∧ S 3 r ≤ 600 := fun r hr => hSo.2.2.2.2.2.2.2.2.1 r (by omega)
  obtain ⟨⟨c1, _⟩, _, hR, _, _, _, hT⟩ := hC
  have h0 := hSo.1
  clear hSo
  refine lp_cnt (H 1 0).toNat (fun k m => (∀ r : Nat, (r : Int) < H 1 0 → m 116 (5 * b + r) = (if r < k then cl (S 3 r + aGain H LV S o on r) 0 600 else S 3 r)) ∧ (∀ r : Nat, (r : Int) < H 1 0 → ∀ i : Nat, i < 6 → m 117 (30 * b + 6 * r + i) = if r < k then (if i = 0 then cl (S 3 r + aGain H LV S o on r) 0 600 else S 3 (5 * (i - 1) + r)) else S 3 (5 * i + r)) ∧ ∀ a j, ¬ (a = 116 ∧ 5 * b ≤ j ∧ j < 5 * b + 5) → ¬ (a = 117 ∧ 30 * b ≤ j ∧ j < 30 * b + 30) → m a j = N a j) _ (by omega) ?_ ?_ _ ⟨fun r hr => by rw [if_neg (by omega)]; exact (hR r hr).1, fun r hr i hi => by rw [if_neg (by omega)]; exact (hR r hr).2 i hi, fun _ _ _ _ => rfl⟩
  · rintro k m hk ⟨i1, i2, i3⟩
    left
    have k5 : k < 5 := by omega
    have hkr : (k : Int) < H 1 0 := by omega
    have fm : FM b m N := fun a j hn => i3 a j (fun z => hn (by unfold MS; omega)) (fun z => hn (by unfold MS; omega))
    have hHm := fm.hm hH
    have hTm := fm.tm hT
    have c1m : m 127 b = S 0 2 := by rw [i3 127 b (fun z => absurd z.1 (by decide)) (fun z => absurd z.1 (by decide))]; exact c1
    have esun := m_sun hHm hHo hTm c1m h0 hb (k : Int)
    have hR4 := hHo.2.2.2.2.2.2.2.2.1 k hkr
    have hsr : 0 ≤ aSun H (k : Int) (S 0 2 % 24) (H 0 3).toNat ∧ aSun H (k : Int) (S 0 2 % 24) (H 0 3).toNat ≤ 400 := by
      have := aSun_r hHo (k : Int) (S 0 2 % 24) (H 0 3).toNat (by omega)
      omega
    have e96 : m 96 k = H 5 k := (hHm.2.1 k hkr).2.2.2
    have e116 : m 116 (5 * b + k) = S 3 k := by rw [i1 k hkr, if_neg (by omega)]
    have e130 : m 130 k = if S 1 4 = 0 then aLoss H LV S o k else 0 := by rw [i3 130 k (fun z => absurd z.1 (by decide)) (fun z => absurd z.1 (by decide))]; exact hl k hkr
    have hlr : -400 ≤ aLoss H LV S o k ∧ aLoss H LV S o k ≤ 400 := by unfold aLoss; exact cl_r (by omega)
    have e1212 : m 88 12 = H 1 0 := hHm.1.1
    have hwk := hW k k5
    have q0 : (k : Int) < m 88 12 := by rw [e1212]; exact hkr
    obtain ⟨x1, y1, y2, z1, z3, z4, y6, _⟩ := ix5 hb k5
    obtain ⟨x2, y3, y5, z2⟩ := ix30 hb k5
    obtain ⟨m2, e2, s1, s2⟩ := m_shift hb k5 (upM m 116 (5 * b + k) (cl (S 3 k + aGain H LV S o on k) 0 600))
    have e1 : ((if b1 on = 0 then (some 0) else gd (0 ≤ (k : Int) ∧ (k : Int) < (10 : Int)) <| some (m 96 ((k : Int)).toNat)) : Option Int) = some (if on then H 5 k else 0) := by
      by_cases q : on
      · rw [if_neg (fun z => b1_0.mp z q), gd_t z3, Int.toNat_natCast, e96, if_pos q]
      · rw [if_pos (b1_0.mpr q), if_neg q]
    have g1 : 0 ≤ (if on then H 5 k else 0) ∧ (if on then H 5 k else 0) ≤ 99 := ite_r ⟨hR4.2.2.1, hR4.2.2.2⟩ ⟨by decide, by decide⟩
    have g2 : 0 ≤ (if S 1 2 = 0 then aSun H (k : Int) (S 0 2 % 24) (H 0 3).toNat else 0) ∧ (if S 1 2 = 0 then aSun H (k : Int) (S 0 2 % 24) (H 0 3).toNat else 0) ≤ 400 := ite_r hsr ⟨by decide, by decide⟩
    have g3 : -400 ≤ (if S 1 4 = 0 then aLoss H LV S o k else 0) ∧ (if S 1 4 = 0 then aLoss H LV S o k else 0) ≤ 400 := ite_r hlr ⟨by decide, by decide⟩
    have w116 : m2 116 (5 * b + k) = cl (S 3 k + aGain H LV S o on k) 0 600 := by rw [s2 116 _ (fun z => absurd z.1 (by decide)), upM_eq]
    refine ⟨upM m2 117 (30 * b + 6 * k) (cl (S 3 k + aGain H LV S o on k) 0 600), ?_, ?_, ?_, ?_⟩
    · dsimp only
      rw [if_pos q0, e1, Option.bind_some, esun, Option.bind_some, y1, y2, gd_t z1, gd_t z4, bI_eq, x1, Int.toNat_natCast, e116, e130]
      have eg2 : w32 (w32 (w32 (S 3 k + if on then H 5 k else 0) + if S 1 2 = 0 then aSun H (k : Int) (S 0 2 % 24) (H 0 3).toNat else 0) - if S 1 4 = 0 then aLoss H LV S o k else 0) = S 3 k + aGain H LV S o on k := sum_w hwk g1 g2 g3
      rw [eg2, pu_within, Option.bind_some, gd_t z1, bM_eq, e2, Option.bind_some, gd_t z1, y3, y5, gd_t z2, bM_eq, x2, w116, y6]
      rfl
    · intro r hr
      clear g1 g2 g3 e1 esun hsr hlr e130 hR4 hwk e116 e96 y1 y2 y3 y5 y6 z1 z2 z3 z4 q0 e1212 c1m x1 x2 h0 hns e2 fm hHm hTm c1
      rw [up_na (by decide)]
      by_cases e : r = k
      · rw [e, w116, if_pos (show k < k + 1 by omega)]
      · rw [s2 116 _ (fun z => absurd z.1 (by decide)), up_ni (by omega), i1 r hr]
        by_cases q : r < k
        · rw [if_pos q, if_pos (show r < k + 1 by omega)]
        · rw [if_neg q, if_neg (show ¬ r < k + 1 by omega)]
    · intro r hr i hi
      clear g1 g2 g3 e1 esun hsr hlr e130 hR4 hwk e116 e96 y1 y2 y3 y5 y6 z1 z2 z3 z4 q0 e1212 c1m x1 x2 h0 hns e2 fm hHm hTm c1
      by_cases e : r = k
      · subst e
        rw [if_pos (show r < r + 1 by omega)]
        by_cases ei : i = 0
        · rw [if_pos ei, ei, Nat.add_zero, upM_eq]
        · rw [if_neg ei, up_ni (by omega)]
          have := s1 (i - 1) (by omega)
          rw [show i - 1 + 1 = i by omega] at this
          rw [this, up_na (by decide), i2 r hr (i - 1) (by omega), if_neg (by omega)]
      · rw [up_ni (by omega), s2 117 _ (by omega), up_na (by decide), i2 r hr i hi]
        by_cases q : r < k
        · rw [if_pos q, if_pos (show r < k + 1 by omega)]
        · rw [if_neg q, if_neg (show ¬ r < k + 1 by omega)]
    · intro a j n1 n2
      clear g1 g2 g3 e1 esun hsr hlr e130 hR4 hwk e116 e96 y1 y2 y3 y5 y6 z1 z2 z3 z4 q0 e1212 c1m x1 x2 h0 hns e2 fm hHm hTm c1
      have d1 : ¬ (a = 117 ∧ j = 30 * b + 6 * k) := fun z => n2 ⟨z.1, by omega, by omega⟩
      have d2 : ¬ (a = 117 ∧ 30 * b + 6 * k < j ∧ j < 30 * b + 6 * k + 6) := fun z => n2 ⟨z.1, by omega, by omega⟩
      have d3 : ¬ (a = 116 ∧ j = 5 * b + k) := fun z => n1 ⟨z.1, by omega, by omega⟩
      rw [upM_ne a j d1, s2 a j d2, upM_ne a j d3]
      exact i3 a j n1 n2
  · rintro m ⟨i1, i2, i3⟩
    refine ⟨m, ?_, ?_, i3⟩
    · dsimp only
      have q0 : ¬ (((H 1 0).toNat : Nat) : Int) < m 88 12 := by rw [i3 88 12 (fun z => absurd z.1 (by decide)) (fun z => absurd z.1 (by decide)), hH.1.1]; omega
      rw [if_neg q0]
    · intro r hr
      refine ⟨?_, fun k hk => ?_⟩
      · rw [i1 r hr, if_pos (by omega), ar_3]
        unfold aWarm
        rw [if_pos (by omega), if_pos (by omega)]
      · rw [i2 r hr k hk, if_pos (by omega), ar_3]
        unfold aWarm
        by_cases ek : k = 0
        · subst ek
          rw [if_pos rfl, if_pos (by omega), if_pos (by omega), Nat.mul_zero, Nat.zero_add]
        · rw [if_neg ek, if_neg (by omega), if_pos (by omega)]
          congr 1
          omega
end MOD5
