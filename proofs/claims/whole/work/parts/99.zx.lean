/-- a turn of the law's loop that goes on -/
def OKS (q : Int) (o : Option ((Int × MM) ⊕ (Int × MM))) : Prop := ∃ M', o = some (Sum.inl (q, M')) ∧ AL M'
section LOOP
variable {q : Int} {L : Nat} {xs : Nat → Int32} {x1 : Int × MM}
theorem OKS_if {c : Prop} [Decidable c] {A B : Option ((Int × MM) ⊕ (Int × MM))} (h1 : c → OKS q A) (h2 : ¬ c → OKS q B) : OKS q (if c then A else B) := by
  by_cases h : c
  · rw [if_pos h]; exact h1 h
  · rw [if_neg h]; exact h2 h
theorem OKS_gd {c : Prop} [Decidable c] {A : Option ((Int × MM) ⊕ (Int × MM))} (h : c) (h1 : OKS q A) : OKS q (gd c A) := by
  rw [gd_t h]; exact h1
theorem OKS_b {Y : Type} {o : Option Y} {y : Y} {k : Y → Option ((Int × MM) ⊕ (Int × MM))} (e : o = some y) (h : OKS q (k y)) : OKS q (o.bind k) := by
  rw [e, Option.bind_some]; exact h
theorem b01 (v : Int) : ∃ p : Int, ((if v = 0 then (some 0) else some 1) : Option Int) = some p ∧ (p = 0 ∨ p = 1) := by
  by_cases h : v = 0
  · exact ⟨0, by rw [if_pos h], Or.inl rfl⟩
  · exact ⟨1, by rw [if_neg h], Or.inr rfl⟩
theorem ls_0 (al : AL x1.2) (z1 : 0 ≤ w32 (x1.1 + 1) ∧ w32 (x1.1 + 1) < (L : Int)) (z2 : 0 ≤ w32 (x1.1 + 2) ∧ w32 (x1.1 + 2) < (L : Int)) (z3 : 0 ≤ w32 (x1.1 + 3) ∧ w32 (x1.1 + 3) < (L : Int)) (z4 : 0 ≤ w32 (x1.1 + 4) ∧ w32 (x1.1 + 4) < (L : Int)) (z5 : 0 ≤ w32 (x1.1 + 5) ∧ w32 (x1.1 + 5) < (L : Int)) : OKS (w32 (x1.1 + 6)) (gd (0 ≤ w32 (x1.1 + 1) ∧ w32 (x1.1 + 1) < (L : Int)) <|
gd (0 ≤ w32 (x1.1 + 2) ∧ w32 (x1.1 + 2) < (L : Int)) <|
gd (0 ≤ w32 (x1.1 + 3) ∧ w32 (x1.1 + 3) < (L : Int)) <|
gd (0 ≤ w32 (x1.1 + 4) ∧ w32 (x1.1 + 4) < (L : Int)) <|
gd (0 ≤ w32 (x1.1 + 5) ∧ w32 (x1.1 + 5) < (L : Int)) <|
(f_X11_feed x1.2 ((xs (w32 (x1.1 + 1)).toNat).toInt) ((xs (w32 (x1.1 + 2)).toNat).toInt) ((xs (w32 (x1.1 + 3)).toNat).toInt) ((xs (w32 (x1.1 + 4)).toNat).toInt) ((xs (w32 (x1.1 + 5)).toNat).toInt)).bind fun x10 =>
gd (0 ≤ w32 (x1.1 + 1) ∧ w32 (x1.1 + 1) < (L : Int)) <|
gd (0 ≤ w32 (x1.1 + 2) ∧ w32 (x1.1 + 2) < (L : Int)) <|
gd (0 ≤ w32 (x1.1 + 3) ∧ w32 (x1.1 + 3) < (L : Int)) <|
gd (0 ≤ w32 (x1.1 + 4) ∧ w32 (x1.1 + 4) < (L : Int)) <|
gd (0 ≤ w32 (x1.1 + 5) ∧ w32 (x1.1 + 5) < (L : Int)) <|
(f_X12_feed x10.2 ((xs (w32 (x1.1 + 1)).toNat).toInt) ((xs (w32 (x1.1 + 2)).toNat).toInt) ((xs (w32 (x1.1 + 3)).toNat).toInt) ((xs (w32 (x1.1 + 4)).toNat).toInt) ((xs (w32 (x1.1 + 5)).toNat).toInt)).bind fun x16 =>
if x10.1 = x16.1 then
(some (Sum.inl (w32 (x1.1 + 6), x16.2)))
else
some (Sum.inr (0, x16.2))) := by
  obtain ⟨r, M1, M2, e1, e2, a2⟩ := al_feed al ((xs (w32 (x1.1 + 1)).toNat).toInt) ((xs (w32 (x1.1 + 2)).toNat).toInt) ((xs (w32 (x1.1 + 3)).toNat).toInt) ((xs (w32 (x1.1 + 4)).toNat).toInt) ((xs (w32 (x1.1 + 5)).toNat).toInt)
  refine OKS_gd z1 <| OKS_gd z2 <| OKS_gd z3 <| OKS_gd z4 <| OKS_gd z5 <| OKS_b e1 <| OKS_gd z1 <| OKS_gd z2 <| OKS_gd z3 <| OKS_gd z4 <| OKS_gd z5 <| OKS_b e2 ?_
  exact OKS_if (fun _ => ⟨_, rfl, a2⟩) (fun h => absurd rfl h)
theorem ls_1 (al : AL x1.2) (z1 : 0 ≤ w32 (x1.1 + 1) ∧ w32 (x1.1 + 1) < (L : Int)) (z2 : 0 ≤ w32 (x1.1 + 2) ∧ w32 (x1.1 + 2) < (L : Int)) (z3 : 0 ≤ w32 (x1.1 + 3) ∧ w32 (x1.1 + 3) < (L : Int)) (z4 : 0 ≤ w32 (x1.1 + 4) ∧ w32 (x1.1 + 4) < (L : Int)) (z5 : 0 ≤ w32 (x1.1 + 5) ∧ w32 (x1.1 + 5) < (L : Int)) : OKS (w32 (x1.1 + 6)) (gd (0 ≤ w32 (x1.1 + 1) ∧ w32 (x1.1 + 1) < (L : Int)) <|
(f_X11_text x1.2 ((xs (w32 (x1.1 + 1)).toNat).toInt)).bind fun x20 =>
gd (0 ≤ w32 (x1.1 + 1) ∧ w32 (x1.1 + 1) < (L : Int)) <|
(f_X12_text x20.2 ((xs (w32 (x1.1 + 1)).toNat).toInt)).bind fun x22 =>
if x20.1 = x22.1 then
(some (Sum.inl (w32 (x1.1 + 6), x22.2)))
else
some (Sum.inr (0, x22.2))) := by
  obtain ⟨r, M1, M2, e1, e2, a2⟩ := al_text al ((xs (w32 (x1.1 + 1)).toNat).toInt)
  refine OKS_gd z1 <| OKS_b e1 <| OKS_gd z1 <| OKS_b e2 ?_
  exact OKS_if (fun _ => ⟨_, rfl, a2⟩) (fun h => absurd rfl h)
theorem ls_2 (al : AL x1.2) (z1 : 0 ≤ w32 (x1.1 + 1) ∧ w32 (x1.1 + 1) < (L : Int)) (z2 : 0 ≤ w32 (x1.1 + 2) ∧ w32 (x1.1 + 2) < (L : Int)) (z3 : 0 ≤ w32 (x1.1 + 3) ∧ w32 (x1.1 + 3) < (L : Int)) (z4 : 0 ≤ w32 (x1.1 + 4) ∧ w32 (x1.1 + 4) < (L : Int)) (z5 : 0 ≤ w32 (x1.1 + 5) ∧ w32 (x1.1 + 5) < (L : Int)) : OKS (w32 (x1.1 + 6)) (gd (0 ≤ w32 (x1.1 + 1) ∧ w32 (x1.1 + 1) < (L : Int)) <|
(f_X11_fault x1.2 ((xs (w32 (x1.1 + 1)).toNat).toInt)).bind fun x26 =>
gd (0 ≤ w32 (x1.1 + 1) ∧ w32 (x1.1 + 1) < (L : Int)) <|
(f_X12_fault x1.2 ((xs (w32 (x1.1 + 1)).toNat).toInt)).bind fun x28 =>
if x26 = x28.1 then
(some (Sum.inl (w32 (x1.1 + 6), x28.2)))
else
some (Sum.inr (0, x28.2))) := by
  obtain ⟨r, M2, e1, e2, a2⟩ := lift_PR al (o1 := f_X11_fault x1.2 ((xs (w32 (x1.1 + 1)).toNat).toInt)) (o2 := fun m => f_X12_fault m ((xs (w32 (x1.1 + 1)).toNat).toInt)) (fun h H LV S g x => q_fault x ((xs (w32 (x1.1 + 1)).toNat).toInt))
  refine OKS_gd z1 <| OKS_b e1 <| OKS_gd z1 <| OKS_b e2 ?_
  exact OKS_if (fun _ => ⟨_, rfl, a2⟩) (fun h => absurd rfl h)
theorem ls_3 (al : AL x1.2) (z1 : 0 ≤ w32 (x1.1 + 1) ∧ w32 (x1.1 + 1) < (L : Int)) (z2 : 0 ≤ w32 (x1.1 + 2) ∧ w32 (x1.1 + 2) < (L : Int)) (z3 : 0 ≤ w32 (x1.1 + 3) ∧ w32 (x1.1 + 3) < (L : Int)) (z4 : 0 ≤ w32 (x1.1 + 4) ∧ w32 (x1.1 + 4) < (L : Int)) (z5 : 0 ≤ w32 (x1.1 + 5) ∧ w32 (x1.1 + 5) < (L : Int)) : OKS (w32 (x1.1 + 6)) (gd (0 ≤ w32 (x1.1 + 1) ∧ w32 (x1.1 + 1) < (L : Int)) <|
gd (0 ≤ w32 (x1.1 + 2) ∧ w32 (x1.1 + 2) < (L : Int)) <|
(f_X11_named x1.2 ((xs (w32 (x1.1 + 1)).toNat).toInt) ((xs (w32 (x1.1 + 2)).toNat).toInt)).bind fun x33 =>
gd (0 ≤ w32 (x1.1 + 1) ∧ w32 (x1.1 + 1) < (L : Int)) <|
gd (0 ≤ w32 (x1.1 + 2) ∧ w32 (x1.1 + 2) < (L : Int)) <|
(f_X12_named x1.2 ((xs (w32 (x1.1 + 1)).toNat).toInt) ((xs (w32 (x1.1 + 2)).toNat).toInt)).bind fun x36 =>
if x33 = x36.1 then
(some (Sum.inl (w32 (x1.1 + 6), x36.2)))
else
some (Sum.inr (0, x36.2))) := by
  obtain ⟨r, M2, e1, e2, a2⟩ := lift_PR al (o1 := f_X11_named x1.2 ((xs (w32 (x1.1 + 1)).toNat).toInt) ((xs (w32 (x1.1 + 2)).toNat).toInt)) (o2 := fun m => f_X12_named m ((xs (w32 (x1.1 + 1)).toNat).toInt) ((xs (w32 (x1.1 + 2)).toNat).toInt)) (fun h H LV S g x => q_named g ((xs (w32 (x1.1 + 1)).toNat).toInt) ((xs (w32 (x1.1 + 2)).toNat).toInt))
  refine OKS_gd z1 <| OKS_gd z2 <| OKS_b e1 <| OKS_gd z1 <| OKS_gd z2 <| OKS_b e2 ?_
  exact OKS_if (fun _ => ⟨_, rfl, a2⟩) (fun h => absurd rfl h)
theorem ls_4 (al : AL x1.2) (z1 : 0 ≤ w32 (x1.1 + 1) ∧ w32 (x1.1 + 1) < (L : Int)) (z2 : 0 ≤ w32 (x1.1 + 2) ∧ w32 (x1.1 + 2) < (L : Int)) (z3 : 0 ≤ w32 (x1.1 + 3) ∧ w32 (x1.1 + 3) < (L : Int)) (z4 : 0 ≤ w32 (x1.1 + 4) ∧ w32 (x1.1 + 4) < (L : Int)) (z5 : 0 ≤ w32 (x1.1 + 5) ∧ w32 (x1.1 + 5) < (L : Int)) : OKS (w32 (x1.1 + 6)) (gd (0 ≤ w32 (x1.1 + 1) ∧ w32 (x1.1 + 1) < (L : Int)) <|
gd (0 ≤ w32 (x1.1 + 2) ∧ w32 (x1.1 + 2) < (L : Int)) <|
(f_Lperson x1.2 ((xs (w32 (x1.1 + 1)).toNat).toInt) ((xs (w32 (x1.1 + 2)).toNat).toInt)).bind fun x41 =>
gd (0 ≤ w32 (x1.1 + 1) ∧ w32 (x1.1 + 1) < (L : Int)) <|
gd (0 ≤ w32 (x1.1 + 2) ∧ w32 (x1.1 + 2) < (L : Int)) <|
(f_X12_person x41.2 ((xs (w32 (x1.1 + 1)).toNat).toInt) ((xs (w32 (x1.1 + 2)).toNat).toInt)).bind fun x44 =>
(f_X12_thrown x44.2).bind fun x45 =>
if x45 = x41.1 then
(if x41.1 = 0 then
(if (cmpI (x44.2 139 0) x44.1) = 0 then
(some (Sum.inl (w32 (x1.1 + 6), x44.2)))
else
some (Sum.inr (0, x44.2)))
else
some (Sum.inl (w32 (x1.1 + 6), x44.2)))
else
some (Sum.inr (0, x44.2))) := by
  obtain ⟨k, M1, b, M2, e1, e2, e3, e4, a2⟩ := al_person al ((xs (w32 (x1.1 + 1)).toNat).toInt) ((xs (w32 (x1.1 + 2)).toNat).toInt)
  refine OKS_gd z1 <| OKS_gd z2 <| OKS_b e1 <| OKS_gd z1 <| OKS_gd z2 <| OKS_b e2 <| OKS_b e3 ?_
  refine OKS_if (fun _ => OKS_if (fun h => OKS_if (fun _ => ⟨_, rfl, a2⟩) (fun w => absurd (e4 h) w)) (fun _ => ⟨_, rfl, a2⟩)) (fun h => absurd rfl h)
theorem ls_5 (al : AL x1.2) (z1 : 0 ≤ w32 (x1.1 + 1) ∧ w32 (x1.1 + 1) < (L : Int)) (z2 : 0 ≤ w32 (x1.1 + 2) ∧ w32 (x1.1 + 2) < (L : Int)) (z3 : 0 ≤ w32 (x1.1 + 3) ∧ w32 (x1.1 + 3) < (L : Int)) (z4 : 0 ≤ w32 (x1.1 + 4) ∧ w32 (x1.1 + 4) < (L : Int)) (z5 : 0 ≤ w32 (x1.1 + 5) ∧ w32 (x1.1 + 5) < (L : Int)) : OKS (w32 (x1.1 + 6)) (gd (0 ≤ w32 (x1.1 + 1) ∧ w32 (x1.1 + 1) < (L : Int)) <|
gd (0 ≤ w32 (x1.1 + 2) ∧ w32 (x1.1 + 2) < (L : Int)) <|
(f_X11_room x1.2 ((xs (w32 (x1.1 + 1)).toNat).toInt) ((xs (w32 (x1.1 + 2)).toNat).toInt)).bind fun x52 =>
gd (0 ≤ w32 (x1.1 + 1) ∧ w32 (x1.1 + 1) < (L : Int)) <|
gd (0 ≤ w32 (x1.1 + 2) ∧ w32 (x1.1 + 2) < (L : Int)) <|
(f_X12_room x1.2 ((xs (w32 (x1.1 + 1)).toNat).toInt) ((xs (w32 (x1.1 + 2)).toNat).toInt)).bind fun x55 =>
if x52 = x55.1 then
(some (Sum.inl (w32 (x1.1 + 6), x55.2)))
else
some (Sum.inr (0, x55.2))) := by
  obtain ⟨r, M2, e1, e2, a2⟩ := lift_PR al (o1 := f_X11_room x1.2 ((xs (w32 (x1.1 + 1)).toNat).toInt) ((xs (w32 (x1.1 + 2)).toNat).toInt)) (o2 := fun m => f_X12_room m ((xs (w32 (x1.1 + 1)).toNat).toInt) ((xs (w32 (x1.1 + 2)).toNat).toInt)) (fun h H LV S g x => q_room g ((xs (w32 (x1.1 + 1)).toNat).toInt) ((xs (w32 (x1.1 + 2)).toNat).toInt))
  refine OKS_gd z1 <| OKS_gd z2 <| OKS_b e1 <| OKS_gd z1 <| OKS_gd z2 <| OKS_b e2 ?_
  exact OKS_if (fun _ => ⟨_, rfl, a2⟩) (fun h => absurd rfl h)
theorem ls_6 (al : AL x1.2) (z1 : 0 ≤ w32 (x1.1 + 1) ∧ w32 (x1.1 + 1) < (L : Int)) (z2 : 0 ≤ w32 (x1.1 + 2) ∧ w32 (x1.1 + 2) < (L : Int)) (z3 : 0 ≤ w32 (x1.1 + 3) ∧ w32 (x1.1 + 3) < (L : Int)) (z4 : 0 ≤ w32 (x1.1 + 4) ∧ w32 (x1.1 + 4) < (L : Int)) (z5 : 0 ≤ w32 (x1.1 + 5) ∧ w32 (x1.1 + 5) < (L : Int)) : OKS (w32 (x1.1 + 6)) (gd (0 ≤ w32 (x1.1 + 1) ∧ w32 (x1.1 + 1) < (L : Int)) <|
(f_X11_out x1.2 ((xs (w32 (x1.1 + 1)).toNat).toInt)).bind fun x59 =>
gd (0 ≤ w32 (x1.1 + 1) ∧ w32 (x1.1 + 1) < (L : Int)) <|
(f_X12_out x1.2 ((xs (w32 (x1.1 + 1)).toNat).toInt)).bind fun x61 =>
if x59 = x61.1 then
(some (Sum.inl (w32 (x1.1 + 6), x61.2)))
else
some (Sum.inr (0, x61.2))) := by
  obtain ⟨r, M2, e1, e2, a2⟩ := lift_PR al (o1 := f_X11_out x1.2 ((xs (w32 (x1.1 + 1)).toNat).toInt)) (o2 := fun m => f_X12_out m ((xs (w32 (x1.1 + 1)).toNat).toInt)) (fun h H LV S g x => q_out g ((xs (w32 (x1.1 + 1)).toNat).toInt))
  refine OKS_gd z1 <| OKS_b e1 <| OKS_gd z1 <| OKS_b e2 ?_
  exact OKS_if (fun _ => ⟨_, rfl, a2⟩) (fun h => absurd rfl h)
theorem ls_7 (al : AL x1.2) (z1 : 0 ≤ w32 (x1.1 + 1) ∧ w32 (x1.1 + 1) < (L : Int)) (z2 : 0 ≤ w32 (x1.1 + 2) ∧ w32 (x1.1 + 2) < (L : Int)) (z3 : 0 ≤ w32 (x1.1 + 3) ∧ w32 (x1.1 + 3) < (L : Int)) (z4 : 0 ≤ w32 (x1.1 + 4) ∧ w32 (x1.1 + 4) < (L : Int)) (z5 : 0 ≤ w32 (x1.1 + 5) ∧ w32 (x1.1 + 5) < (L : Int)) : OKS (w32 (x1.1 + 6)) (gd (0 ≤ w32 (x1.1 + 1) ∧ w32 (x1.1 + 1) < (L : Int)) <|
gd (0 ≤ w32 (x1.1 + 2) ∧ w32 (x1.1 + 2) < (L : Int)) <|
(f_X11_law x1.2 ((xs (w32 (x1.1 + 1)).toNat).toInt) ((xs (w32 (x1.1 + 2)).toNat).toInt)).bind fun x66 =>
gd (0 ≤ w32 (x1.1 + 1) ∧ w32 (x1.1 + 1) < (L : Int)) <|
gd (0 ≤ w32 (x1.1 + 2) ∧ w32 (x1.1 + 2) < (L : Int)) <|
(f_X12_law x66.2 ((xs (w32 (x1.1 + 1)).toNat).toInt) ((xs (w32 (x1.1 + 2)).toNat).toInt)).bind fun x69 =>
if (cmpI x66.1 x69.1) = 0 then
(some (Sum.inl (w32 (x1.1 + 6), x69.2)))
else
some (Sum.inr (0, x69.2))) := by
  obtain ⟨r, M1, M2, e1, e2, a2⟩ := al_law al ((xs (w32 (x1.1 + 1)).toNat).toInt) ((xs (w32 (x1.1 + 2)).toNat).toInt)
  refine OKS_gd z1 <| OKS_gd z2 <| OKS_b e1 <| OKS_gd z1 <| OKS_gd z2 <| OKS_b e2 ?_
  exact OKS_if (fun _ => ⟨_, rfl, a2⟩) (fun h => absurd ((cmpI_eq r r).mpr rfl) h)
theorem ls_8 (al : AL x1.2) (z1 : 0 ≤ w32 (x1.1 + 1) ∧ w32 (x1.1 + 1) < (L : Int)) (z2 : 0 ≤ w32 (x1.1 + 2) ∧ w32 (x1.1 + 2) < (L : Int)) (z3 : 0 ≤ w32 (x1.1 + 3) ∧ w32 (x1.1 + 3) < (L : Int)) (z4 : 0 ≤ w32 (x1.1 + 4) ∧ w32 (x1.1 + 4) < (L : Int)) (z5 : 0 ≤ w32 (x1.1 + 5) ∧ w32 (x1.1 + 5) < (L : Int)) : OKS (w32 (x1.1 + 6)) (gd (0 ≤ w32 (x1.1 + 1) ∧ w32 (x1.1 + 1) < (L : Int)) <|
(f_X11_set x1.2 ((xs (w32 (x1.1 + 1)).toNat).toInt)).bind fun x73 =>
gd (0 ≤ w32 (x1.1 + 1) ∧ w32 (x1.1 + 1) < (L : Int)) <|
(f_X12_set x73.2 ((xs (w32 (x1.1 + 1)).toNat).toInt)).bind fun x75 =>
if x73.1 = x75.1 then
(some (Sum.inl (w32 (x1.1 + 6), x75.2)))
else
some (Sum.inr (0, x75.2))) := by
  obtain ⟨r, M1, M2, e1, e2, a2⟩ := al_set al ((xs (w32 (x1.1 + 1)).toNat).toInt)
  refine OKS_gd z1 <| OKS_b e1 <| OKS_gd z1 <| OKS_b e2 ?_
  exact OKS_if (fun _ => ⟨_, rfl, a2⟩) (fun h => absurd rfl h)
theorem ls_9 (al : AL x1.2) (z1 : 0 ≤ w32 (x1.1 + 1) ∧ w32 (x1.1 + 1) < (L : Int)) (z2 : 0 ≤ w32 (x1.1 + 2) ∧ w32 (x1.1 + 2) < (L : Int)) (z3 : 0 ≤ w32 (x1.1 + 3) ∧ w32 (x1.1 + 3) < (L : Int)) (z4 : 0 ≤ w32 (x1.1 + 4) ∧ w32 (x1.1 + 4) < (L : Int)) (z5 : 0 ≤ w32 (x1.1 + 5) ∧ w32 (x1.1 + 5) < (L : Int)) : OKS (w32 (x1.1 + 6)) (gd (0 ≤ w32 (x1.1 + 1) ∧ w32 (x1.1 + 1) < (L : Int)) <|
(f_X11_hang x1.2 ((xs (w32 (x1.1 + 1)).toNat).toInt)).bind fun x79 =>
gd (0 ≤ w32 (x1.1 + 1) ∧ w32 (x1.1 + 1) < (L : Int)) <|
(f_X12_hang x79.2 ((xs (w32 (x1.1 + 1)).toNat).toInt)).bind fun x81 =>
if x79.1 = x81.1 then
(some (Sum.inl (w32 (x1.1 + 6), x81.2)))
else
some (Sum.inr (0, x81.2))) := by
  obtain ⟨r, M1, M2, e1, e2, a2⟩ := al_hang al ((xs (w32 (x1.1 + 1)).toNat).toInt)
  refine OKS_gd z1 <| OKS_b e1 <| OKS_gd z1 <| OKS_b e2 ?_
  exact OKS_if (fun _ => ⟨_, rfl, a2⟩) (fun h => absurd rfl h)
theorem ls_10 (al : AL x1.2) (z1 : 0 ≤ w32 (x1.1 + 1) ∧ w32 (x1.1 + 1) < (L : Int)) (z2 : 0 ≤ w32 (x1.1 + 2) ∧ w32 (x1.1 + 2) < (L : Int)) (z3 : 0 ≤ w32 (x1.1 + 3) ∧ w32 (x1.1 + 3) < (L : Int)) (z4 : 0 ≤ w32 (x1.1 + 4) ∧ w32 (x1.1 + 4) < (L : Int)) (z5 : 0 ≤ w32 (x1.1 + 5) ∧ w32 (x1.1 + 5) < (L : Int)) : OKS (w32 (x1.1 + 6)) (gd (0 ≤ w32 (x1.1 + 1) ∧ w32 (x1.1 + 1) < (L : Int)) <|
((if ((xs (w32 (x1.1 + 1)).toNat).toInt) = 0 then
(some 0)
else
some 1) : Option (Int)).bind fun x86 =>
(f_X11_candle x1.2 x86).bind fun x87 =>
gd (0 ≤ w32 (x1.1 + 1) ∧ w32 (x1.1 + 1) < (L : Int)) <|
((if ((xs (w32 (x1.1 + 1)).toNat).toInt) = 0 then
(some 0)
else
some 1) : Option (Int)).bind fun x90 =>
(f_X12_candle x87.2 x90).bind fun x91 =>
if x87.1 = x91.1 then
(some (Sum.inl (w32 (x1.1 + 6), x91.2)))
else
some (Sum.inr (0, x91.2))) := by
  obtain ⟨p, ep, hp⟩ := b01 ((xs (w32 (x1.1 + 1)).toNat).toInt)
  obtain ⟨r, M1, M2, e1, e2, a2⟩ := al_candle al  p hp
  refine OKS_gd z1 <| OKS_b ep <| OKS_b e1 <| OKS_gd z1 <| OKS_b ep <| OKS_b e2 ?_
  exact OKS_if (fun _ => ⟨_, rfl, a2⟩) (fun h => absurd rfl h)
theorem ls_11 (al : AL x1.2) (z1 : 0 ≤ w32 (x1.1 + 1) ∧ w32 (x1.1 + 1) < (L : Int)) (z2 : 0 ≤ w32 (x1.1 + 2) ∧ w32 (x1.1 + 2) < (L : Int)) (z3 : 0 ≤ w32 (x1.1 + 3) ∧ w32 (x1.1 + 3) < (L : Int)) (z4 : 0 ≤ w32 (x1.1 + 4) ∧ w32 (x1.1 + 4) < (L : Int)) (z5 : 0 ≤ w32 (x1.1 + 5) ∧ w32 (x1.1 + 5) < (L : Int)) : OKS (w32 (x1.1 + 6)) (gd (0 ≤ w32 (x1.1 + 1) ∧ w32 (x1.1 + 1) < (L : Int)) <|
gd (0 ≤ w32 (x1.1 + 2) ∧ w32 (x1.1 + 2) < (L : Int)) <|
((if ((xs (w32 (x1.1 + 2)).toNat).toInt) = 0 then
(some 0)
else
some 1) : Option (Int)).bind fun x97 =>
(f_X11_jumper x1.2 ((xs (w32 (x1.1 + 1)).toNat).toInt) x97).bind fun x98 =>
gd (0 ≤ w32 (x1.1 + 1) ∧ w32 (x1.1 + 1) < (L : Int)) <|
gd (0 ≤ w32 (x1.1 + 2) ∧ w32 (x1.1 + 2) < (L : Int)) <|
((if ((xs (w32 (x1.1 + 2)).toNat).toInt) = 0 then
(some 0)
else
some 1) : Option (Int)).bind fun x102 =>
(f_X12_jumper x98.2 ((xs (w32 (x1.1 + 1)).toNat).toInt) x102).bind fun x103 =>
if x98.1 = x103.1 then
(some (Sum.inl (w32 (x1.1 + 6), x103.2)))
else
some (Sum.inr (0, x103.2))) := by
  obtain ⟨p, ep, hp⟩ := b01 ((xs (w32 (x1.1 + 2)).toNat).toInt)
  obtain ⟨r, M1, M2, e1, e2, a2⟩ := al_jumper al ((xs (w32 (x1.1 + 1)).toNat).toInt) p hp
  refine OKS_gd z1 <| OKS_gd z2 <| OKS_b ep <| OKS_b e1 <| OKS_gd z1 <| OKS_gd z2 <| OKS_b ep <| OKS_b e2 ?_
  exact OKS_if (fun _ => ⟨_, rfl, a2⟩) (fun h => absurd rfl h)
theorem ls_12 (al : AL x1.2) (z1 : 0 ≤ w32 (x1.1 + 1) ∧ w32 (x1.1 + 1) < (L : Int)) (z2 : 0 ≤ w32 (x1.1 + 2) ∧ w32 (x1.1 + 2) < (L : Int)) (z3 : 0 ≤ w32 (x1.1 + 3) ∧ w32 (x1.1 + 3) < (L : Int)) (z4 : 0 ≤ w32 (x1.1 + 4) ∧ w32 (x1.1 + 4) < (L : Int)) (z5 : 0 ≤ w32 (x1.1 + 5) ∧ w32 (x1.1 + 5) < (L : Int)) : OKS (w32 (x1.1 + 6)) (gd (0 ≤ w32 (x1.1 + 1) ∧ w32 (x1.1 + 1) < (L : Int)) <|
(f_X11_go x1.2 ((xs (w32 (x1.1 + 1)).toNat).toInt)).bind fun x107 =>
gd (0 ≤ w32 (x1.1 + 1) ∧ w32 (x1.1 + 1) < (L : Int)) <|
(f_X12_go x107.2 ((xs (w32 (x1.1 + 1)).toNat).toInt)).bind fun x109 =>
if x107.1 = x109.1 then
(some (Sum.inl (w32 (x1.1 + 6), x109.2)))
else
some (Sum.inr (0, x109.2))) := by
  obtain ⟨r, M1, M2, e1, e2, a2⟩ := al_go al ((xs (w32 (x1.1 + 1)).toNat).toInt)
  refine OKS_gd z1 <| OKS_b e1 <| OKS_gd z1 <| OKS_b e2 ?_
  exact OKS_if (fun _ => ⟨_, rfl, a2⟩) (fun h => absurd rfl h)
theorem ls_13 (al : AL x1.2) (z1 : 0 ≤ w32 (x1.1 + 1) ∧ w32 (x1.1 + 1) < (L : Int)) (z2 : 0 ≤ w32 (x1.1 + 2) ∧ w32 (x1.1 + 2) < (L : Int)) (z3 : 0 ≤ w32 (x1.1 + 3) ∧ w32 (x1.1 + 3) < (L : Int)) (z4 : 0 ≤ w32 (x1.1 + 4) ∧ w32 (x1.1 + 4) < (L : Int)) (z5 : 0 ≤ w32 (x1.1 + 5) ∧ w32 (x1.1 + 5) < (L : Int)) : OKS (w32 (x1.1 + 6)) (gd (0 ≤ w32 (x1.1 + 1) ∧ w32 (x1.1 + 1) < (L : Int)) <|
gd (0 ≤ w32 (x1.1 + 2) ∧ w32 (x1.1 + 2) < (L : Int)) <|
gd (0 ≤ w32 (x1.1 + 3) ∧ w32 (x1.1 + 3) < (L : Int)) <|
(f_X11_ahead x1.2 ((xs (w32 (x1.1 + 1)).toNat).toInt) ((xs (w32 (x1.1 + 2)).toNat).toInt) ((xs (w32 (x1.1 + 3)).toNat).toInt)).bind fun x115 =>
gd (0 ≤ w32 (x1.1 + 1) ∧ w32 (x1.1 + 1) < (L : Int)) <|
gd (0 ≤ w32 (x1.1 + 2) ∧ w32 (x1.1 + 2) < (L : Int)) <|
gd (0 ≤ w32 (x1.1 + 3) ∧ w32 (x1.1 + 3) < (L : Int)) <|
(f_X12_ahead x115.2 ((xs (w32 (x1.1 + 1)).toNat).toInt) ((xs (w32 (x1.1 + 2)).toNat).toInt) ((xs (w32 (x1.1 + 3)).toNat).toInt)).bind fun x119 =>
if x115.1 = x119.1 then
(some (Sum.inl (w32 (x1.1 + 6), x119.2)))
else
some (Sum.inr (0, x119.2))) := by
  obtain ⟨r, M1, M2, e1, e2, a2⟩ := lift_PQ al (o1 := f_X11_ahead x1.2 ((xs (w32 (x1.1 + 1)).toNat).toInt) ((xs (w32 (x1.1 + 2)).toNat).toInt) ((xs (w32 (x1.1 + 3)).toNat).toInt)) (o2 := fun m => f_X12_ahead m ((xs (w32 (x1.1 + 1)).toNat).toInt) ((xs (w32 (x1.1 + 2)).toNat).toInt) ((xs (w32 (x1.1 + 3)).toNat).toInt)) (fun h H LV S N g => q_ahead g ((xs (w32 (x1.1 + 1)).toNat).toInt) ((xs (w32 (x1.1 + 2)).toNat).toInt) ((xs (w32 (x1.1 + 3)).toNat).toInt))
  refine OKS_gd z1 <| OKS_gd z2 <| OKS_gd z3 <| OKS_b e1 <| OKS_gd z1 <| OKS_gd z2 <| OKS_gd z3 <| OKS_b e2 ?_
  exact OKS_if (fun _ => ⟨_, rfl, a2⟩) (fun h => absurd rfl h)
theorem ls_14 (al : AL x1.2) (z1 : 0 ≤ w32 (x1.1 + 1) ∧ w32 (x1.1 + 1) < (L : Int)) (z2 : 0 ≤ w32 (x1.1 + 2) ∧ w32 (x1.1 + 2) < (L : Int)) (z3 : 0 ≤ w32 (x1.1 + 3) ∧ w32 (x1.1 + 3) < (L : Int)) (z4 : 0 ≤ w32 (x1.1 + 4) ∧ w32 (x1.1 + 4) < (L : Int)) (z5 : 0 ≤ w32 (x1.1 + 5) ∧ w32 (x1.1 + 5) < (L : Int)) : OKS (w32 (x1.1 + 6)) (gd (0 ≤ w32 (x1.1 + 1) ∧ w32 (x1.1 + 1) < (L : Int)) <|
gd (0 ≤ w32 (x1.1 + 2) ∧ w32 (x1.1 + 2) < (L : Int)) <|
gd (0 ≤ w32 (x1.1 + 3) ∧ w32 (x1.1 + 3) < (L : Int)) <|
(f_X11_soon x1.2 ((xs (w32 (x1.1 + 1)).toNat).toInt) ((xs (w32 (x1.1 + 2)).toNat).toInt) ((xs (w32 (x1.1 + 3)).toNat).toInt)).bind fun x125 =>
gd (0 ≤ w32 (x1.1 + 1) ∧ w32 (x1.1 + 1) < (L : Int)) <|
gd (0 ≤ w32 (x1.1 + 2) ∧ w32 (x1.1 + 2) < (L : Int)) <|
gd (0 ≤ w32 (x1.1 + 3) ∧ w32 (x1.1 + 3) < (L : Int)) <|
(f_X12_soon x125.2 ((xs (w32 (x1.1 + 1)).toNat).toInt) ((xs (w32 (x1.1 + 2)).toNat).toInt) ((xs (w32 (x1.1 + 3)).toNat).toInt)).bind fun x129 =>
if x125.1 = x129.1 then
(some (Sum.inl (w32 (x1.1 + 6), x129.2)))
else
some (Sum.inr (0, x129.2))) := by
  obtain ⟨r, M1, M2, e1, e2, a2⟩ := lift_PQ al (o1 := f_X11_soon x1.2 ((xs (w32 (x1.1 + 1)).toNat).toInt) ((xs (w32 (x1.1 + 2)).toNat).toInt) ((xs (w32 (x1.1 + 3)).toNat).toInt)) (o2 := fun m => f_X12_soon m ((xs (w32 (x1.1 + 1)).toNat).toInt) ((xs (w32 (x1.1 + 2)).toNat).toInt) ((xs (w32 (x1.1 + 3)).toNat).toInt)) (fun h H LV S N g => q_soon g ((xs (w32 (x1.1 + 1)).toNat).toInt) ((xs (w32 (x1.1 + 2)).toNat).toInt) ((xs (w32 (x1.1 + 3)).toNat).toInt))
  refine OKS_gd z1 <| OKS_gd z2 <| OKS_gd z3 <| OKS_b e1 <| OKS_gd z1 <| OKS_gd z2 <| OKS_gd z3 <| OKS_b e2 ?_
  exact OKS_if (fun _ => ⟨_, rfl, a2⟩) (fun h => absurd rfl h)
theorem ls_15 (al : AL x1.2) (z1 : 0 ≤ w32 (x1.1 + 1) ∧ w32 (x1.1 + 1) < (L : Int)) (z2 : 0 ≤ w32 (x1.1 + 2) ∧ w32 (x1.1 + 2) < (L : Int)) (z3 : 0 ≤ w32 (x1.1 + 3) ∧ w32 (x1.1 + 3) < (L : Int)) (z4 : 0 ≤ w32 (x1.1 + 4) ∧ w32 (x1.1 + 4) < (L : Int)) (z5 : 0 ≤ w32 (x1.1 + 5) ∧ w32 (x1.1 + 5) < (L : Int)) : OKS (w32 (x1.1 + 6)) (gd (0 ≤ w32 (x1.1 + 1) ∧ w32 (x1.1 + 1) < (L : Int)) <|
gd (0 ≤ w32 (x1.1 + 2) ∧ w32 (x1.1 + 2) < (L : Int)) <|
gd (0 ≤ w32 (x1.1 + 3) ∧ w32 (x1.1 + 3) < (L : Int)) <|
gd (0 ≤ w32 (x1.1 + 4) ∧ w32 (x1.1 + 4) < (L : Int)) <|
(f_X11_quicker x1.2 ((xs (w32 (x1.1 + 1)).toNat).toInt) ((xs (w32 (x1.1 + 2)).toNat).toInt) ((xs (w32 (x1.1 + 3)).toNat).toInt) ((xs (w32 (x1.1 + 4)).toNat).toInt)).bind fun x136 =>
gd (0 ≤ w32 (x1.1 + 1) ∧ w32 (x1.1 + 1) < (L : Int)) <|
gd (0 ≤ w32 (x1.1 + 2) ∧ w32 (x1.1 + 2) < (L : Int)) <|
gd (0 ≤ w32 (x1.1 + 3) ∧ w32 (x1.1 + 3) < (L : Int)) <|
gd (0 ≤ w32 (x1.1 + 4) ∧ w32 (x1.1 + 4) < (L : Int)) <|
(f_X12_quicker x136.2 ((xs (w32 (x1.1 + 1)).toNat).toInt) ((xs (w32 (x1.1 + 2)).toNat).toInt) ((xs (w32 (x1.1 + 3)).toNat).toInt) ((xs (w32 (x1.1 + 4)).toNat).toInt)).bind fun x141 =>
if x136.1 = x141.1 then
(some (Sum.inl (w32 (x1.1 + 6), x141.2)))
else
some (Sum.inr (0, x141.2))) := by
  obtain ⟨r, M1, M2, e1, e2, a2⟩ := lift_PQ al (o1 := f_X11_quicker x1.2 ((xs (w32 (x1.1 + 1)).toNat).toInt) ((xs (w32 (x1.1 + 2)).toNat).toInt) ((xs (w32 (x1.1 + 3)).toNat).toInt) ((xs (w32 (x1.1 + 4)).toNat).toInt)) (o2 := fun m => f_X12_quicker m ((xs (w32 (x1.1 + 1)).toNat).toInt) ((xs (w32 (x1.1 + 2)).toNat).toInt) ((xs (w32 (x1.1 + 3)).toNat).toInt) ((xs (w32 (x1.1 + 4)).toNat).toInt)) (fun h H LV S N g => q_quicker g ((xs (w32 (x1.1 + 1)).toNat).toInt) ((xs (w32 (x1.1 + 2)).toNat).toInt) ((xs (w32 (x1.1 + 3)).toNat).toInt) ((xs (w32 (x1.1 + 4)).toNat).toInt))
  refine OKS_gd z1 <| OKS_gd z2 <| OKS_gd z3 <| OKS_gd z4 <| OKS_b e1 <| OKS_gd z1 <| OKS_gd z2 <| OKS_gd z3 <| OKS_gd z4 <| OKS_b e2 ?_
  exact OKS_if (fun _ => ⟨_, rfl, a2⟩) (fun h => absurd rfl h)
theorem ls_16 (al : AL x1.2) (z1 : 0 ≤ w32 (x1.1 + 1) ∧ w32 (x1.1 + 1) < (L : Int)) (z2 : 0 ≤ w32 (x1.1 + 2) ∧ w32 (x1.1 + 2) < (L : Int)) (z3 : 0 ≤ w32 (x1.1 + 3) ∧ w32 (x1.1 + 3) < (L : Int)) (z4 : 0 ≤ w32 (x1.1 + 4) ∧ w32 (x1.1 + 4) < (L : Int)) (z5 : 0 ≤ w32 (x1.1 + 5) ∧ w32 (x1.1 + 5) < (L : Int)) : OKS (w32 (x1.1 + 6)) (gd (0 ≤ w32 (x1.1 + 1) ∧ w32 (x1.1 + 1) < (L : Int)) <|
gd (0 ≤ w32 (x1.1 + 2) ∧ w32 (x1.1 + 2) < (L : Int)) <|
(f_X11_best x1.2 ((xs (w32 (x1.1 + 1)).toNat).toInt) ((xs (w32 (x1.1 + 2)).toNat).toInt)).bind fun x146 =>
gd (0 ≤ w32 (x1.1 + 1) ∧ w32 (x1.1 + 1) < (L : Int)) <|
gd (0 ≤ w32 (x1.1 + 2) ∧ w32 (x1.1 + 2) < (L : Int)) <|
(f_X12_best x146.2 ((xs (w32 (x1.1 + 1)).toNat).toInt) ((xs (w32 (x1.1 + 2)).toNat).toInt)).bind fun x149 =>
if x146.1 = x149.1 then
(some (Sum.inl (w32 (x1.1 + 6), x149.2)))
else
some (Sum.inr (0, x149.2))) := by
  obtain ⟨r, M1, M2, e1, e2, a2⟩ := lift_PQ al (o1 := f_X11_best x1.2 ((xs (w32 (x1.1 + 1)).toNat).toInt) ((xs (w32 (x1.1 + 2)).toNat).toInt)) (o2 := fun m => f_X12_best m ((xs (w32 (x1.1 + 1)).toNat).toInt) ((xs (w32 (x1.1 + 2)).toNat).toInt)) (fun h H LV S N g => q_best g ((xs (w32 (x1.1 + 1)).toNat).toInt) ((xs (w32 (x1.1 + 2)).toNat).toInt))
  refine OKS_gd z1 <| OKS_gd z2 <| OKS_b e1 <| OKS_gd z1 <| OKS_gd z2 <| OKS_b e2 ?_
  exact OKS_if (fun _ => ⟨_, rfl, a2⟩) (fun h => absurd rfl h)
theorem ls_17 (al : AL x1.2) (z1 : 0 ≤ w32 (x1.1 + 1) ∧ w32 (x1.1 + 1) < (L : Int)) (z2 : 0 ≤ w32 (x1.1 + 2) ∧ w32 (x1.1 + 2) < (L : Int)) (z3 : 0 ≤ w32 (x1.1 + 3) ∧ w32 (x1.1 + 3) < (L : Int)) (z4 : 0 ≤ w32 (x1.1 + 4) ∧ w32 (x1.1 + 4) < (L : Int)) (z5 : 0 ≤ w32 (x1.1 + 5) ∧ w32 (x1.1 + 5) < (L : Int)) : OKS (w32 (x1.1 + 6)) (gd (0 ≤ w32 (x1.1 + 1) ∧ w32 (x1.1 + 1) < (L : Int)) <|
gd (0 ≤ w32 (x1.1 + 2) ∧ w32 (x1.1 + 2) < (L : Int)) <|
(f_X11_cheap x1.2 ((xs (w32 (x1.1 + 1)).toNat).toInt) ((xs (w32 (x1.1 + 2)).toNat).toInt)).bind fun x154 =>
gd (0 ≤ w32 (x1.1 + 1) ∧ w32 (x1.1 + 1) < (L : Int)) <|
gd (0 ≤ w32 (x1.1 + 2) ∧ w32 (x1.1 + 2) < (L : Int)) <|
(f_X12_cheap x154.2 ((xs (w32 (x1.1 + 1)).toNat).toInt) ((xs (w32 (x1.1 + 2)).toNat).toInt)).bind fun x157 =>
if x154.1 = x157.1 then
(some (Sum.inl (w32 (x1.1 + 6), x157.2)))
else
some (Sum.inr (0, x157.2))) := by
  obtain ⟨r, M1, M2, e1, e2, a2⟩ := lift_PQ al (o1 := f_X11_cheap x1.2 ((xs (w32 (x1.1 + 1)).toNat).toInt) ((xs (w32 (x1.1 + 2)).toNat).toInt)) (o2 := fun m => f_X12_cheap m ((xs (w32 (x1.1 + 1)).toNat).toInt) ((xs (w32 (x1.1 + 2)).toNat).toInt)) (fun h H LV S N g => q_cheap g ((xs (w32 (x1.1 + 1)).toNat).toInt) ((xs (w32 (x1.1 + 2)).toNat).toInt))
  refine OKS_gd z1 <| OKS_gd z2 <| OKS_b e1 <| OKS_gd z1 <| OKS_gd z2 <| OKS_b e2 ?_
  exact OKS_if (fun _ => ⟨_, rfl, a2⟩) (fun h => absurd rfl h)
theorem ls_18 (al : AL x1.2) (z1 : 0 ≤ w32 (x1.1 + 1) ∧ w32 (x1.1 + 1) < (L : Int)) (z2 : 0 ≤ w32 (x1.1 + 2) ∧ w32 (x1.1 + 2) < (L : Int)) (z3 : 0 ≤ w32 (x1.1 + 3) ∧ w32 (x1.1 + 3) < (L : Int)) (z4 : 0 ≤ w32 (x1.1 + 4) ∧ w32 (x1.1 + 4) < (L : Int)) (z5 : 0 ≤ w32 (x1.1 + 5) ∧ w32 (x1.1 + 5) < (L : Int)) : OKS (w32 (x1.1 + 6)) (gd (0 ≤ w32 (x1.1 + 1) ∧ w32 (x1.1 + 1) < (L : Int)) <|
(f_X11_hears x1.2 ((xs (w32 (x1.1 + 1)).toNat).toInt)).bind fun x161 =>
gd (0 ≤ w32 (x1.1 + 1) ∧ w32 (x1.1 + 1) < (L : Int)) <|
(f_X12_hears x161.2 ((xs (w32 (x1.1 + 1)).toNat).toInt)).bind fun x163 =>
if x161.1 = x163.1 then
(some (Sum.inl (w32 (x1.1 + 6), x163.2)))
else
some (Sum.inr (0, x163.2))) := by
  obtain ⟨r, M1, M2, e1, e2, a2⟩ := lift_PQ al (o1 := f_X11_hears x1.2 ((xs (w32 (x1.1 + 1)).toNat).toInt)) (o2 := fun m => f_X12_hears m ((xs (w32 (x1.1 + 1)).toNat).toInt)) (fun h H LV S N g => q_hears g ((xs (w32 (x1.1 + 1)).toNat).toInt))
  refine OKS_gd z1 <| OKS_b e1 <| OKS_gd z1 <| OKS_b e2 ?_
  exact OKS_if (fun _ => ⟨_, rfl, a2⟩) (fun h => absurd rfl h)
theorem ls_19 (al : AL x1.2) (z1 : 0 ≤ w32 (x1.1 + 1) ∧ w32 (x1.1 + 1) < (L : Int)) (z2 : 0 ≤ w32 (x1.1 + 2) ∧ w32 (x1.1 + 2) < (L : Int)) (z3 : 0 ≤ w32 (x1.1 + 3) ∧ w32 (x1.1 + 3) < (L : Int)) (z4 : 0 ≤ w32 (x1.1 + 4) ∧ w32 (x1.1 + 4) < (L : Int)) (z5 : 0 ≤ w32 (x1.1 + 5) ∧ w32 (x1.1 + 5) < (L : Int)) : OKS (w32 (x1.1 + 6)) (gd (0 ≤ w32 (x1.1 + 1) ∧ w32 (x1.1 + 1) < (L : Int)) <|
gd (0 ≤ w32 (x1.1 + 2) ∧ w32 (x1.1 + 2) < (L : Int)) <|
gd (0 ≤ w32 (x1.1 + 3) ∧ w32 (x1.1 + 3) < (L : Int)) <|
(f_X11_onAgain x1.2 ((xs (w32 (x1.1 + 1)).toNat).toInt) ((xs (w32 (x1.1 + 2)).toNat).toInt) ((xs (w32 (x1.1 + 3)).toNat).toInt)).bind fun x169 =>
gd (0 ≤ w32 (x1.1 + 1) ∧ w32 (x1.1 + 1) < (L : Int)) <|
gd (0 ≤ w32 (x1.1 + 2) ∧ w32 (x1.1 + 2) < (L : Int)) <|
gd (0 ≤ w32 (x1.1 + 3) ∧ w32 (x1.1 + 3) < (L : Int)) <|
(f_X12_onAgain x169.2 ((xs (w32 (x1.1 + 1)).toNat).toInt) ((xs (w32 (x1.1 + 2)).toNat).toInt) ((xs (w32 (x1.1 + 3)).toNat).toInt)).bind fun x173 =>
if x169.1 = x173.1 then
(some (Sum.inl (w32 (x1.1 + 6), x173.2)))
else
some (Sum.inr (0, x173.2))) := by
  obtain ⟨r, M1, M2, e1, e2, a2⟩ := lift_PQ al (o1 := f_X11_onAgain x1.2 ((xs (w32 (x1.1 + 1)).toNat).toInt) ((xs (w32 (x1.1 + 2)).toNat).toInt) ((xs (w32 (x1.1 + 3)).toNat).toInt)) (o2 := fun m => f_X12_onAgain m ((xs (w32 (x1.1 + 1)).toNat).toInt) ((xs (w32 (x1.1 + 2)).toNat).toInt) ((xs (w32 (x1.1 + 3)).toNat).toInt)) (fun h H LV S N g => q_onAgain g ((xs (w32 (x1.1 + 1)).toNat).toInt) ((xs (w32 (x1.1 + 2)).toNat).toInt) ((xs (w32 (x1.1 + 3)).toNat).toInt))
  refine OKS_gd z1 <| OKS_gd z2 <| OKS_gd z3 <| OKS_b e1 <| OKS_gd z1 <| OKS_gd z2 <| OKS_gd z3 <| OKS_b e2 ?_
  exact OKS_if (fun _ => ⟨_, rfl, a2⟩) (fun h => absurd rfl h)
theorem ls_20 (al : AL x1.2) (z1 : 0 ≤ w32 (x1.1 + 1) ∧ w32 (x1.1 + 1) < (L : Int)) (z2 : 0 ≤ w32 (x1.1 + 2) ∧ w32 (x1.1 + 2) < (L : Int)) (z3 : 0 ≤ w32 (x1.1 + 3) ∧ w32 (x1.1 + 3) < (L : Int)) (z4 : 0 ≤ w32 (x1.1 + 4) ∧ w32 (x1.1 + 4) < (L : Int)) (z5 : 0 ≤ w32 (x1.1 + 5) ∧ w32 (x1.1 + 5) < (L : Int)) : OKS (w32 (x1.1 + 6)) (gd (0 ≤ w32 (x1.1 + 1) ∧ w32 (x1.1 + 1) < (L : Int)) <|
(f_X11_night x1.2 ((xs (w32 (x1.1 + 1)).toNat).toInt)).bind fun x177 =>
gd (0 ≤ w32 (x1.1 + 1) ∧ w32 (x1.1 + 1) < (L : Int)) <|
(f_X12_night x177.2 ((xs (w32 (x1.1 + 1)).toNat).toInt)).bind fun x179 =>
if x177.1 = x179.1 then
(some (Sum.inl (w32 (x1.1 + 6), x179.2)))
else
some (Sum.inr (0, x179.2))) := by
  obtain ⟨r, M1, M2, e1, e2, a2⟩ := lift_PQ al (o1 := f_X11_night x1.2 ((xs (w32 (x1.1 + 1)).toNat).toInt)) (o2 := fun m => f_X12_night m ((xs (w32 (x1.1 + 1)).toNat).toInt)) (fun h H LV S N g => q_night g ((xs (w32 (x1.1 + 1)).toNat).toInt))
  refine OKS_gd z1 <| OKS_b e1 <| OKS_gd z1 <| OKS_b e2 ?_
  exact OKS_if (fun _ => ⟨_, rfl, a2⟩) (fun h => absurd rfl h)
theorem ls_21 (al : AL x1.2) (z1 : 0 ≤ w32 (x1.1 + 1) ∧ w32 (x1.1 + 1) < (L : Int)) (z2 : 0 ≤ w32 (x1.1 + 2) ∧ w32 (x1.1 + 2) < (L : Int)) (z3 : 0 ≤ w32 (x1.1 + 3) ∧ w32 (x1.1 + 3) < (L : Int)) (z4 : 0 ≤ w32 (x1.1 + 4) ∧ w32 (x1.1 + 4) < (L : Int)) (z5 : 0 ≤ w32 (x1.1 + 5) ∧ w32 (x1.1 + 5) < (L : Int)) : OKS (w32 (x1.1 + 6)) (gd (0 ≤ w32 (x1.1 + 1) ∧ w32 (x1.1 + 1) < (L : Int)) <|
(f_X11_swings x1.2 ((xs (w32 (x1.1 + 1)).toNat).toInt)).bind fun x183 =>
gd (0 ≤ w32 (x1.1 + 1) ∧ w32 (x1.1 + 1) < (L : Int)) <|
(f_X12_swings x183.2 ((xs (w32 (x1.1 + 1)).toNat).toInt)).bind fun x185 =>
if x183.1 = x185.1 then
(some (Sum.inl (w32 (x1.1 + 6), x185.2)))
else
some (Sum.inr (0, x185.2))) := by
  obtain ⟨r, M1, M2, e1, e2, a2⟩ := lift_PQ al (o1 := f_X11_swings x1.2 ((xs (w32 (x1.1 + 1)).toNat).toInt)) (o2 := fun m => f_X12_swings m ((xs (w32 (x1.1 + 1)).toNat).toInt)) (fun h H LV S N g => q_swings g ((xs (w32 (x1.1 + 1)).toNat).toInt))
  refine OKS_gd z1 <| OKS_b e1 <| OKS_gd z1 <| OKS_b e2 ?_
  exact OKS_if (fun _ => ⟨_, rfl, a2⟩) (fun h => absurd rfl h)
theorem ls_22 (al : AL x1.2) (z1 : 0 ≤ w32 (x1.1 + 1) ∧ w32 (x1.1 + 1) < (L : Int)) (z2 : 0 ≤ w32 (x1.1 + 2) ∧ w32 (x1.1 + 2) < (L : Int)) (z3 : 0 ≤ w32 (x1.1 + 3) ∧ w32 (x1.1 + 3) < (L : Int)) (z4 : 0 ≤ w32 (x1.1 + 4) ∧ w32 (x1.1 + 4) < (L : Int)) (z5 : 0 ≤ w32 (x1.1 + 5) ∧ w32 (x1.1 + 5) < (L : Int)) : OKS (w32 (x1.1 + 6)) (gd (0 ≤ w32 (x1.1 + 1) ∧ w32 (x1.1 + 1) < (L : Int)) <|
(f_X11_degree x1.2 ((xs (w32 (x1.1 + 1)).toNat).toInt)).bind fun x189 =>
gd (0 ≤ w32 (x1.1 + 1) ∧ w32 (x1.1 + 1) < (L : Int)) <|
(f_X12_degree x189.2 ((xs (w32 (x1.1 + 1)).toNat).toInt)).bind fun x191 =>
if x189.1 = x191.1 then
(some (Sum.inl (w32 (x1.1 + 6), x191.2)))
else
some (Sum.inr (0, x191.2))) := by
  obtain ⟨r, M1, M2, e1, e2, a2⟩ := lift_PQ al (o1 := f_X11_degree x1.2 ((xs (w32 (x1.1 + 1)).toNat).toInt)) (o2 := fun m => f_X12_degree m ((xs (w32 (x1.1 + 1)).toNat).toInt)) (fun h H LV S N g => q_degree g ((xs (w32 (x1.1 + 1)).toNat).toInt))
  refine OKS_gd z1 <| OKS_b e1 <| OKS_gd z1 <| OKS_b e2 ?_
  exact OKS_if (fun _ => ⟨_, rfl, a2⟩) (fun h => absurd rfl h)
theorem ls_23 (al : AL x1.2) (z1 : 0 ≤ w32 (x1.1 + 1) ∧ w32 (x1.1 + 1) < (L : Int)) (z2 : 0 ≤ w32 (x1.1 + 2) ∧ w32 (x1.1 + 2) < (L : Int)) (z3 : 0 ≤ w32 (x1.1 + 3) ∧ w32 (x1.1 + 3) < (L : Int)) (z4 : 0 ≤ w32 (x1.1 + 4) ∧ w32 (x1.1 + 4) < (L : Int)) (z5 : 0 ≤ w32 (x1.1 + 5) ∧ w32 (x1.1 + 5) < (L : Int)) : OKS (w32 (x1.1 + 6)) (gd (0 ≤ w32 (x1.1 + 1) ∧ w32 (x1.1 + 1) < (L : Int)) <|
(f_X11_learn x1.2 ((xs (w32 (x1.1 + 1)).toNat).toInt)).bind fun x195 =>
gd (0 ≤ w32 (x1.1 + 1) ∧ w32 (x1.1 + 1) < (L : Int)) <|
(f_X12_learn x1.2 ((xs (w32 (x1.1 + 1)).toNat).toInt)).bind fun x197 =>
if x195 = x197.1 then
(some (Sum.inl (w32 (x1.1 + 6), x197.2)))
else
some (Sum.inr (0, x197.2))) := by
  obtain ⟨r, M2, e1, e2, a2⟩ := lift_PR al (o1 := f_X11_learn x1.2 ((xs (w32 (x1.1 + 1)).toNat).toInt)) (o2 := fun m => f_X12_learn m ((xs (w32 (x1.1 + 1)).toNat).toInt)) (fun h H LV S g x => q_learn g ((xs (w32 (x1.1 + 1)).toNat).toInt))
  refine OKS_gd z1 <| OKS_b e1 <| OKS_gd z1 <| OKS_b e2 ?_
  exact OKS_if (fun _ => ⟨_, rfl, a2⟩) (fun h => absurd rfl h)
theorem ls_24 (al : AL x1.2) (z1 : 0 ≤ w32 (x1.1 + 1) ∧ w32 (x1.1 + 1) < (L : Int)) (z2 : 0 ≤ w32 (x1.1 + 2) ∧ w32 (x1.1 + 2) < (L : Int)) (z3 : 0 ≤ w32 (x1.1 + 3) ∧ w32 (x1.1 + 3) < (L : Int)) (z4 : 0 ≤ w32 (x1.1 + 4) ∧ w32 (x1.1 + 4) < (L : Int)) (z5 : 0 ≤ w32 (x1.1 + 5) ∧ w32 (x1.1 + 5) < (L : Int)) : OKS (w32 (x1.1 + 6)) (gd (0 ≤ w32 (x1.1 + 1) ∧ w32 (x1.1 + 1) < (L : Int)) <|
gd (0 ≤ w32 (x1.1 + 2) ∧ w32 (x1.1 + 2) < (L : Int)) <|
(f_X11_rests x1.2 ((xs (w32 (x1.1 + 1)).toNat).toInt) ((xs (w32 (x1.1 + 2)).toNat).toInt)).bind fun x202 =>
gd (0 ≤ w32 (x1.1 + 1) ∧ w32 (x1.1 + 1) < (L : Int)) <|
gd (0 ≤ w32 (x1.1 + 2) ∧ w32 (x1.1 + 2) < (L : Int)) <|
(f_X12_rests x1.2 ((xs (w32 (x1.1 + 1)).toNat).toInt) ((xs (w32 (x1.1 + 2)).toNat).toInt)).bind fun x205 =>
if x202 = x205.1 then
(some (Sum.inl (w32 (x1.1 + 6), x205.2)))
else
some (Sum.inr (0, x205.2))) := by
  obtain ⟨r, M2, e1, e2, a2⟩ := lift_PR al (o1 := f_X11_rests x1.2 ((xs (w32 (x1.1 + 1)).toNat).toInt) ((xs (w32 (x1.1 + 2)).toNat).toInt)) (o2 := fun m => f_X12_rests m ((xs (w32 (x1.1 + 1)).toNat).toInt) ((xs (w32 (x1.1 + 2)).toNat).toInt)) (fun h H LV S g x => q_rests g ((xs (w32 (x1.1 + 1)).toNat).toInt) ((xs (w32 (x1.1 + 2)).toNat).toInt))
  refine OKS_gd z1 <| OKS_gd z2 <| OKS_b e1 <| OKS_gd z1 <| OKS_gd z2 <| OKS_b e2 ?_
  exact OKS_if (fun _ => ⟨_, rfl, a2⟩) (fun h => absurd rfl h)
theorem ls_25 (al : AL x1.2) (z1 : 0 ≤ w32 (x1.1 + 1) ∧ w32 (x1.1 + 1) < (L : Int)) (z2 : 0 ≤ w32 (x1.1 + 2) ∧ w32 (x1.1 + 2) < (L : Int)) (z3 : 0 ≤ w32 (x1.1 + 3) ∧ w32 (x1.1 + 3) < (L : Int)) (z4 : 0 ≤ w32 (x1.1 + 4) ∧ w32 (x1.1 + 4) < (L : Int)) (z5 : 0 ≤ w32 (x1.1 + 5) ∧ w32 (x1.1 + 5) < (L : Int)) : OKS (w32 (x1.1 + 6)) (gd (0 ≤ w32 (x1.1 + 1) ∧ w32 (x1.1 + 1) < (L : Int)) <|
gd (0 ≤ w32 (x1.1 + 2) ∧ w32 (x1.1 + 2) < (L : Int)) <|
gd (0 ≤ w32 (x1.1 + 3) ∧ w32 (x1.1 + 3) < (L : Int)) <|
(f_X11_rest x1.2 ((xs (w32 (x1.1 + 1)).toNat).toInt) ((xs (w32 (x1.1 + 2)).toNat).toInt) ((xs (w32 (x1.1 + 3)).toNat).toInt)).bind fun x211 =>
gd (0 ≤ w32 (x1.1 + 1) ∧ w32 (x1.1 + 1) < (L : Int)) <|
gd (0 ≤ w32 (x1.1 + 2) ∧ w32 (x1.1 + 2) < (L : Int)) <|
gd (0 ≤ w32 (x1.1 + 3) ∧ w32 (x1.1 + 3) < (L : Int)) <|
(f_X12_rest x1.2 ((xs (w32 (x1.1 + 1)).toNat).toInt) ((xs (w32 (x1.1 + 2)).toNat).toInt) ((xs (w32 (x1.1 + 3)).toNat).toInt)).bind fun x215 =>
if x211 = x215.1 then
(some (Sum.inl (w32 (x1.1 + 6), x215.2)))
else
some (Sum.inr (0, x215.2))) := by
  obtain ⟨r, M2, e1, e2, a2⟩ := lift_PR al (o1 := f_X11_rest x1.2 ((xs (w32 (x1.1 + 1)).toNat).toInt) ((xs (w32 (x1.1 + 2)).toNat).toInt) ((xs (w32 (x1.1 + 3)).toNat).toInt)) (o2 := fun m => f_X12_rest m ((xs (w32 (x1.1 + 1)).toNat).toInt) ((xs (w32 (x1.1 + 2)).toNat).toInt) ((xs (w32 (x1.1 + 3)).toNat).toInt)) (fun h H LV S g x => q_rest g ((xs (w32 (x1.1 + 1)).toNat).toInt) ((xs (w32 (x1.1 + 2)).toNat).toInt) ((xs (w32 (x1.1 + 3)).toNat).toInt))
  refine OKS_gd z1 <| OKS_gd z2 <| OKS_gd z3 <| OKS_b e1 <| OKS_gd z1 <| OKS_gd z2 <| OKS_gd z3 <| OKS_b e2 ?_
  exact OKS_if (fun _ => ⟨_, rfl, a2⟩) (fun h => absurd rfl h)
theorem ls_26 (al : AL x1.2) (z1 : 0 ≤ w32 (x1.1 + 1) ∧ w32 (x1.1 + 1) < (L : Int)) (z2 : 0 ≤ w32 (x1.1 + 2) ∧ w32 (x1.1 + 2) < (L : Int)) (z3 : 0 ≤ w32 (x1.1 + 3) ∧ w32 (x1.1 + 3) < (L : Int)) (z4 : 0 ≤ w32 (x1.1 + 4) ∧ w32 (x1.1 + 4) < (L : Int)) (z5 : 0 ≤ w32 (x1.1 + 5) ∧ w32 (x1.1 + 5) < (L : Int)) : OKS (w32 (x1.1 + 6)) (gd (0 ≤ w32 (x1.1 + 1) ∧ w32 (x1.1 + 1) < (L : Int)) <|
gd (0 ≤ w32 (x1.1 + 2) ∧ w32 (x1.1 + 2) < (L : Int)) <|
(f_X11_givesIn x1.2 ((xs (w32 (x1.1 + 1)).toNat).toInt) ((xs (w32 (x1.1 + 2)).toNat).toInt)).bind fun x220 =>
gd (0 ≤ w32 (x1.1 + 1) ∧ w32 (x1.1 + 1) < (L : Int)) <|
gd (0 ≤ w32 (x1.1 + 2) ∧ w32 (x1.1 + 2) < (L : Int)) <|
(f_X12_givesIn x220.2 ((xs (w32 (x1.1 + 1)).toNat).toInt) ((xs (w32 (x1.1 + 2)).toNat).toInt)).bind fun x223 =>
if x220.1 = x223.1 then
(some (Sum.inl (w32 (x1.1 + 6), x223.2)))
else
some (Sum.inr (0, x223.2))) := by
  obtain ⟨r, M1, M2, e1, e2, a2⟩ := lift_PQ al (o1 := f_X11_givesIn x1.2 ((xs (w32 (x1.1 + 1)).toNat).toInt) ((xs (w32 (x1.1 + 2)).toNat).toInt)) (o2 := fun m => f_X12_givesIn m ((xs (w32 (x1.1 + 1)).toNat).toInt) ((xs (w32 (x1.1 + 2)).toNat).toInt)) (fun h H LV S N g => q_givesIn g ((xs (w32 (x1.1 + 1)).toNat).toInt) ((xs (w32 (x1.1 + 2)).toNat).toInt))
  refine OKS_gd z1 <| OKS_gd z2 <| OKS_b e1 <| OKS_gd z1 <| OKS_gd z2 <| OKS_b e2 ?_
  exact OKS_if (fun _ => ⟨_, rfl, a2⟩) (fun h => absurd rfl h)
theorem ls_27 (al : AL x1.2) (z1 : 0 ≤ w32 (x1.1 + 1) ∧ w32 (x1.1 + 1) < (L : Int)) (z2 : 0 ≤ w32 (x1.1 + 2) ∧ w32 (x1.1 + 2) < (L : Int)) (z3 : 0 ≤ w32 (x1.1 + 3) ∧ w32 (x1.1 + 3) < (L : Int)) (z4 : 0 ≤ w32 (x1.1 + 4) ∧ w32 (x1.1 + 4) < (L : Int)) (z5 : 0 ≤ w32 (x1.1 + 5) ∧ w32 (x1.1 + 5) < (L : Int)) : OKS (w32 (x1.1 + 6)) ((f_X11_crossest x1.2).bind fun x226 =>
(f_X12_crossest x1.2).bind fun x227 =>
if x226 = x227.1 then
(some (Sum.inl (w32 (x1.1 + 6), x227.2)))
else
some (Sum.inr (0, x227.2))) := by
  obtain ⟨r, M2, e1, e2, a2⟩ := lift_PR al (o1 := f_X11_crossest x1.2 ) (o2 := fun m => f_X12_crossest m ) (fun h H LV S g x => q_crossest g )
  refine OKS_b e1 <| OKS_b e2 ?_
  exact OKS_if (fun _ => ⟨_, rfl, a2⟩) (fun h => absurd rfl h)
theorem ls_28 (al : AL x1.2) (z1 : 0 ≤ w32 (x1.1 + 1) ∧ w32 (x1.1 + 1) < (L : Int)) (z2 : 0 ≤ w32 (x1.1 + 2) ∧ w32 (x1.1 + 2) < (L : Int)) (z3 : 0 ≤ w32 (x1.1 + 3) ∧ w32 (x1.1 + 3) < (L : Int)) (z4 : 0 ≤ w32 (x1.1 + 4) ∧ w32 (x1.1 + 4) < (L : Int)) (z5 : 0 ≤ w32 (x1.1 + 5) ∧ w32 (x1.1 + 5) < (L : Int)) : OKS (w32 (x1.1 + 6)) (gd (0 ≤ w32 (x1.1 + 1) ∧ w32 (x1.1 + 1) < (L : Int)) <|
gd (0 ≤ w32 (x1.1 + 2) ∧ w32 (x1.1 + 2) < (L : Int)) <|
(f_X11_turnsOf x1.2 ((xs (w32 (x1.1 + 1)).toNat).toInt) ((xs (w32 (x1.1 + 2)).toNat).toInt)).bind fun x232 =>
gd (0 ≤ w32 (x1.1 + 1) ∧ w32 (x1.1 + 1) < (L : Int)) <|
gd (0 ≤ w32 (x1.1 + 2) ∧ w32 (x1.1 + 2) < (L : Int)) <|
(f_X12_turnsOf x232.2 ((xs (w32 (x1.1 + 1)).toNat).toInt) ((xs (w32 (x1.1 + 2)).toNat).toInt)).bind fun x235 =>
if x232.1 = x235.1 then
(some (Sum.inl (w32 (x1.1 + 6), x235.2)))
else
some (Sum.inr (0, x235.2))) := by
  obtain ⟨r, M1, M2, e1, e2, a2⟩ := lift_PQ al (o1 := f_X11_turnsOf x1.2 ((xs (w32 (x1.1 + 1)).toNat).toInt) ((xs (w32 (x1.1 + 2)).toNat).toInt)) (o2 := fun m => f_X12_turnsOf m ((xs (w32 (x1.1 + 1)).toNat).toInt) ((xs (w32 (x1.1 + 2)).toNat).toInt)) (fun h H LV S N g => q_turnsOf g ((xs (w32 (x1.1 + 1)).toNat).toInt) ((xs (w32 (x1.1 + 2)).toNat).toInt))
  refine OKS_gd z1 <| OKS_gd z2 <| OKS_b e1 <| OKS_gd z1 <| OKS_gd z2 <| OKS_b e2 ?_
  exact OKS_if (fun _ => ⟨_, rfl, a2⟩) (fun h => absurd rfl h)
theorem ls_29 (al : AL x1.2) (z1 : 0 ≤ w32 (x1.1 + 1) ∧ w32 (x1.1 + 1) < (L : Int)) (z2 : 0 ≤ w32 (x1.1 + 2) ∧ w32 (x1.1 + 2) < (L : Int)) (z3 : 0 ≤ w32 (x1.1 + 3) ∧ w32 (x1.1 + 3) < (L : Int)) (z4 : 0 ≤ w32 (x1.1 + 4) ∧ w32 (x1.1 + 4) < (L : Int)) (z5 : 0 ≤ w32 (x1.1 + 5) ∧ w32 (x1.1 + 5) < (L : Int)) : OKS (w32 (x1.1 + 6)) (gd (0 ≤ w32 (x1.1 + 1) ∧ w32 (x1.1 + 1) < (L : Int)) <|
gd (0 ≤ w32 (x1.1 + 2) ∧ w32 (x1.1 + 2) < (L : Int)) <|
(f_X11_strip x1.2 ((xs (w32 (x1.1 + 1)).toNat).toInt) ((xs (w32 (x1.1 + 2)).toNat).toInt)).bind fun x240 =>
gd (0 ≤ w32 (x1.1 + 1) ∧ w32 (x1.1 + 1) < (L : Int)) <|
gd (0 ≤ w32 (x1.1 + 2) ∧ w32 (x1.1 + 2) < (L : Int)) <|
(f_X12_strip x240.2 ((xs (w32 (x1.1 + 1)).toNat).toInt) ((xs (w32 (x1.1 + 2)).toNat).toInt)).bind fun x243 =>
if x240.1 = x243.1 then
(some (Sum.inl (w32 (x1.1 + 6), x243.2)))
else
some (Sum.inr (0, x243.2))) := by
  obtain ⟨r, M1, M2, e1, e2, a2⟩ := lift_PQ al (o1 := f_X11_strip x1.2 ((xs (w32 (x1.1 + 1)).toNat).toInt) ((xs (w32 (x1.1 + 2)).toNat).toInt)) (o2 := fun m => f_X12_strip m ((xs (w32 (x1.1 + 1)).toNat).toInt) ((xs (w32 (x1.1 + 2)).toNat).toInt)) (fun h H LV S N g => q_strip g ((xs (w32 (x1.1 + 1)).toNat).toInt) ((xs (w32 (x1.1 + 2)).toNat).toInt))
  refine OKS_gd z1 <| OKS_gd z2 <| OKS_b e1 <| OKS_gd z1 <| OKS_gd z2 <| OKS_b e2 ?_
  exact OKS_if (fun _ => ⟨_, rfl, a2⟩) (fun h => absurd rfl h)
theorem ls_30 (al : AL x1.2) (z1 : 0 ≤ w32 (x1.1 + 1) ∧ w32 (x1.1 + 1) < (L : Int)) (z2 : 0 ≤ w32 (x1.1 + 2) ∧ w32 (x1.1 + 2) < (L : Int)) (z3 : 0 ≤ w32 (x1.1 + 3) ∧ w32 (x1.1 + 3) < (L : Int)) (z4 : 0 ≤ w32 (x1.1 + 4) ∧ w32 (x1.1 + 4) < (L : Int)) (z5 : 0 ≤ w32 (x1.1 + 5) ∧ w32 (x1.1 + 5) < (L : Int)) : OKS (w32 (x1.1 + 6)) ((f_X11_spread x1.2).bind fun x246 =>
(f_X12_spread x1.2).bind fun x247 =>
if x246 = x247.1 then
(some (Sum.inl (w32 (x1.1 + 6), x247.2)))
else
some (Sum.inr (0, x247.2))) := by
  obtain ⟨r, M2, e1, e2, a2⟩ := lift_PR al (o1 := f_X11_spread x1.2 ) (o2 := fun m => f_X12_spread m ) (fun h H LV S g x => q_spread g )
  refine OKS_b e1 <| OKS_b e2 ?_
  exact OKS_if (fun _ => ⟨_, rfl, a2⟩) (fun h => absurd rfl h)
theorem ls_31 (al : AL x1.2) (z1 : 0 ≤ w32 (x1.1 + 1) ∧ w32 (x1.1 + 1) < (L : Int)) (z2 : 0 ≤ w32 (x1.1 + 2) ∧ w32 (x1.1 + 2) < (L : Int)) (z3 : 0 ≤ w32 (x1.1 + 3) ∧ w32 (x1.1 + 3) < (L : Int)) (z4 : 0 ≤ w32 (x1.1 + 4) ∧ w32 (x1.1 + 4) < (L : Int)) (z5 : 0 ≤ w32 (x1.1 + 5) ∧ w32 (x1.1 + 5) < (L : Int)) : OKS (w32 (x1.1 + 6)) (gd (0 ≤ w32 (x1.1 + 1) ∧ w32 (x1.1 + 1) < (L : Int)) <|
gd (0 ≤ w32 (x1.1 + 2) ∧ w32 (x1.1 + 2) < (L : Int)) <|
(f_X11_apart x1.2 ((xs (w32 (x1.1 + 1)).toNat).toInt) ((xs (w32 (x1.1 + 2)).toNat).toInt)).bind fun x252 =>
gd (0 ≤ w32 (x1.1 + 1) ∧ w32 (x1.1 + 1) < (L : Int)) <|
gd (0 ≤ w32 (x1.1 + 2) ∧ w32 (x1.1 + 2) < (L : Int)) <|
(f_X12_apart x252.2 ((xs (w32 (x1.1 + 1)).toNat).toInt) ((xs (w32 (x1.1 + 2)).toNat).toInt)).bind fun x255 =>
if x252.1 = x255.1 then
(some (Sum.inl (w32 (x1.1 + 6), x255.2)))
else
some (Sum.inr (0, x255.2))) := by
  obtain ⟨r, M1, M2, e1, e2, a2⟩ := lift_PQ al (o1 := f_X11_apart x1.2 ((xs (w32 (x1.1 + 1)).toNat).toInt) ((xs (w32 (x1.1 + 2)).toNat).toInt)) (o2 := fun m => f_X12_apart m ((xs (w32 (x1.1 + 1)).toNat).toInt) ((xs (w32 (x1.1 + 2)).toNat).toInt)) (fun h H LV S N g => q_apart g ((xs (w32 (x1.1 + 1)).toNat).toInt) ((xs (w32 (x1.1 + 2)).toNat).toInt))
  refine OKS_gd z1 <| OKS_gd z2 <| OKS_b e1 <| OKS_gd z1 <| OKS_gd z2 <| OKS_b e2 ?_
  exact OKS_if (fun _ => ⟨_, rfl, a2⟩) (fun h => absurd rfl h)
theorem ls_32 (al : AL x1.2) (z1 : 0 ≤ w32 (x1.1 + 1) ∧ w32 (x1.1 + 1) < (L : Int)) (z2 : 0 ≤ w32 (x1.1 + 2) ∧ w32 (x1.1 + 2) < (L : Int)) (z3 : 0 ≤ w32 (x1.1 + 3) ∧ w32 (x1.1 + 3) < (L : Int)) (z4 : 0 ≤ w32 (x1.1 + 4) ∧ w32 (x1.1 + 4) < (L : Int)) (z5 : 0 ≤ w32 (x1.1 + 5) ∧ w32 (x1.1 + 5) < (L : Int)) : OKS (w32 (x1.1 + 6)) (gd (0 ≤ w32 (x1.1 + 1) ∧ w32 (x1.1 + 1) < (L : Int)) <|
gd (0 ≤ w32 (x1.1 + 2) ∧ w32 (x1.1 + 2) < (L : Int)) <|
(f_X11_feels x1.2 ((xs (w32 (x1.1 + 1)).toNat).toInt) ((xs (w32 (x1.1 + 2)).toNat).toInt)).bind fun x260 =>
gd (0 ≤ w32 (x1.1 + 1) ∧ w32 (x1.1 + 1) < (L : Int)) <|
gd (0 ≤ w32 (x1.1 + 2) ∧ w32 (x1.1 + 2) < (L : Int)) <|
(f_X12_feels x260.2 ((xs (w32 (x1.1 + 1)).toNat).toInt) ((xs (w32 (x1.1 + 2)).toNat).toInt)).bind fun x263 =>
if x260.1 = x263.1 then
(some (Sum.inl (w32 (x1.1 + 6), x263.2)))
else
some (Sum.inr (0, x263.2))) := by
  obtain ⟨r, M1, M2, e1, e2, a2⟩ := lift_PQ al (o1 := f_X11_feels x1.2 ((xs (w32 (x1.1 + 1)).toNat).toInt) ((xs (w32 (x1.1 + 2)).toNat).toInt)) (o2 := fun m => f_X12_feels m ((xs (w32 (x1.1 + 1)).toNat).toInt) ((xs (w32 (x1.1 + 2)).toNat).toInt)) (fun h H LV S N g => q_feels g ((xs (w32 (x1.1 + 1)).toNat).toInt) ((xs (w32 (x1.1 + 2)).toNat).toInt))
  refine OKS_gd z1 <| OKS_gd z2 <| OKS_b e1 <| OKS_gd z1 <| OKS_gd z2 <| OKS_b e2 ?_
  exact OKS_if (fun _ => ⟨_, rfl, a2⟩) (fun h => absurd rfl h)
theorem ls_33 (al : AL x1.2) (z1 : 0 ≤ w32 (x1.1 + 1) ∧ w32 (x1.1 + 1) < (L : Int)) (z2 : 0 ≤ w32 (x1.1 + 2) ∧ w32 (x1.1 + 2) < (L : Int)) (z3 : 0 ≤ w32 (x1.1 + 3) ∧ w32 (x1.1 + 3) < (L : Int)) (z4 : 0 ≤ w32 (x1.1 + 4) ∧ w32 (x1.1 + 4) < (L : Int)) (z5 : 0 ≤ w32 (x1.1 + 5) ∧ w32 (x1.1 + 5) < (L : Int)) : OKS (w32 (x1.1 + 6)) (gd (0 ≤ w32 (x1.1 + 1) ∧ w32 (x1.1 + 1) < (L : Int)) <|
gd (0 ≤ w32 (x1.1 + 2) ∧ w32 (x1.1 + 2) < (L : Int)) <|
gd (0 ≤ w32 (x1.1 + 3) ∧ w32 (x1.1 + 3) < (L : Int)) <|
((if ((xs (w32 (x1.1 + 3)).toNat).toInt) = 0 then
(some 0)
else
some 1) : Option (Int)).bind fun x270 =>
(f_X11_wear x1.2 ((xs (w32 (x1.1 + 1)).toNat).toInt) ((xs (w32 (x1.1 + 2)).toNat).toInt) x270).bind fun x271 =>
gd (0 ≤ w32 (x1.1 + 1) ∧ w32 (x1.1 + 1) < (L : Int)) <|
gd (0 ≤ w32 (x1.1 + 2) ∧ w32 (x1.1 + 2) < (L : Int)) <|
gd (0 ≤ w32 (x1.1 + 3) ∧ w32 (x1.1 + 3) < (L : Int)) <|
((if ((xs (w32 (x1.1 + 3)).toNat).toInt) = 0 then
(some 0)
else
some 1) : Option (Int)).bind fun x276 =>
(f_X12_wear x271.2 ((xs (w32 (x1.1 + 1)).toNat).toInt) ((xs (w32 (x1.1 + 2)).toNat).toInt) x276).bind fun x277 =>
if x271.1 = x277.1 then
(some (Sum.inl (w32 (x1.1 + 6), x277.2)))
else
some (Sum.inr (0, x277.2))) := by
  obtain ⟨p, ep, hp⟩ := b01 ((xs (w32 (x1.1 + 3)).toNat).toInt)
  obtain ⟨r, M1, M2, e1, e2, a2⟩ := al_wear al ((xs (w32 (x1.1 + 1)).toNat).toInt) ((xs (w32 (x1.1 + 2)).toNat).toInt) p hp
  refine OKS_gd z1 <| OKS_gd z2 <| OKS_gd z3 <| OKS_b ep <| OKS_b e1 <| OKS_gd z1 <| OKS_gd z2 <| OKS_gd z3 <| OKS_b ep <| OKS_b e2 ?_
  exact OKS_if (fun _ => ⟨_, rfl, a2⟩) (fun h => absurd rfl h)
theorem ls_34 (al : AL x1.2) (z1 : 0 ≤ w32 (x1.1 + 1) ∧ w32 (x1.1 + 1) < (L : Int)) (z2 : 0 ≤ w32 (x1.1 + 2) ∧ w32 (x1.1 + 2) < (L : Int)) (z3 : 0 ≤ w32 (x1.1 + 3) ∧ w32 (x1.1 + 3) < (L : Int)) (z4 : 0 ≤ w32 (x1.1 + 4) ∧ w32 (x1.1 + 4) < (L : Int)) (z5 : 0 ≤ w32 (x1.1 + 5) ∧ w32 (x1.1 + 5) < (L : Int)) : OKS (w32 (x1.1 + 6)) (gd (0 ≤ w32 (x1.1 + 1) ∧ w32 (x1.1 + 1) < (L : Int)) <|
(f_X11_strike x1.2 ((xs (w32 (x1.1 + 1)).toNat).toInt)).bind fun x281 =>
gd (0 ≤ w32 (x1.1 + 1) ∧ w32 (x1.1 + 1) < (L : Int)) <|
(f_X12_strike x281.2 ((xs (w32 (x1.1 + 1)).toNat).toInt)).bind fun x283 =>
if x281.1 = x283.1 then
(some (Sum.inl (w32 (x1.1 + 6), x283.2)))
else
some (Sum.inr (0, x283.2))) := by
  obtain ⟨r, M1, M2, e1, e2, a2⟩ := al_strike al ((xs (w32 (x1.1 + 1)).toNat).toInt)
  refine OKS_gd z1 <| OKS_b e1 <| OKS_gd z1 <| OKS_b e2 ?_
  exact OKS_if (fun _ => ⟨_, rfl, a2⟩) (fun h => absurd rfl h)
theorem ls_35 (al : AL x1.2) (z1 : 0 ≤ w32 (x1.1 + 1) ∧ w32 (x1.1 + 1) < (L : Int)) (z2 : 0 ≤ w32 (x1.1 + 2) ∧ w32 (x1.1 + 2) < (L : Int)) (z3 : 0 ≤ w32 (x1.1 + 3) ∧ w32 (x1.1 + 3) < (L : Int)) (z4 : 0 ≤ w32 (x1.1 + 4) ∧ w32 (x1.1 + 4) < (L : Int)) (z5 : 0 ≤ w32 (x1.1 + 5) ∧ w32 (x1.1 + 5) < (L : Int)) : OKS (w32 (x1.1 + 6)) (gd (0 ≤ w32 (x1.1 + 1) ∧ w32 (x1.1 + 1) < (L : Int)) <|
(f_X11_known x1.2 ((xs (w32 (x1.1 + 1)).toNat).toInt)).bind fun x287 =>
gd (0 ≤ w32 (x1.1 + 1) ∧ w32 (x1.1 + 1) < (L : Int)) <|
(f_X12_known x287.2 ((xs (w32 (x1.1 + 1)).toNat).toInt)).bind fun x289 =>
if x287.1 = x289.1 then
(some (Sum.inl (w32 (x1.1 + 6), x289.2)))
else
some (Sum.inr (0, x289.2))) := by
  obtain ⟨r, M1, M2, e1, e2, a2⟩ := al_known al ((xs (w32 (x1.1 + 1)).toNat).toInt)
  refine OKS_gd z1 <| OKS_b e1 <| OKS_gd z1 <| OKS_b e2 ?_
  exact OKS_if (fun _ => ⟨_, rfl, a2⟩) (fun h => absurd rfl h)
theorem ls_36 (al : AL x1.2) (z1 : 0 ≤ w32 (x1.1 + 1) ∧ w32 (x1.1 + 1) < (L : Int)) (z2 : 0 ≤ w32 (x1.1 + 2) ∧ w32 (x1.1 + 2) < (L : Int)) (z3 : 0 ≤ w32 (x1.1 + 3) ∧ w32 (x1.1 + 3) < (L : Int)) (z4 : 0 ≤ w32 (x1.1 + 4) ∧ w32 (x1.1 + 4) < (L : Int)) (z5 : 0 ≤ w32 (x1.1 + 5) ∧ w32 (x1.1 + 5) < (L : Int)) : OKS (w32 (x1.1 + 6)) (gd (0 ≤ w32 (x1.1 + 1) ∧ w32 (x1.1 + 1) < (L : Int)) <|
(f_X11_lately x1.2 ((xs (w32 (x1.1 + 1)).toNat).toInt)).bind fun x293 =>
gd (0 ≤ w32 (x1.1 + 1) ∧ w32 (x1.1 + 1) < (L : Int)) <|
(f_X12_lately x293.2 ((xs (w32 (x1.1 + 1)).toNat).toInt)).bind fun x295 =>
if x293.1 = x295.1 then
(some (Sum.inl (w32 (x1.1 + 6), x295.2)))
else
some (Sum.inr (0, x295.2))) := by
  obtain ⟨r, M1, M2, e1, e2, a2⟩ := lift_q al (o1 := f_X11_lately x1.2 ((xs (w32 (x1.1 + 1)).toNat).toInt)) (o2 := fun m => f_X12_lately m ((xs (w32 (x1.1 + 1)).toNat).toInt)) (fun h H LV S N g x => q_lately g x ((xs (w32 (x1.1 + 1)).toNat).toInt))
  refine OKS_gd z1 <| OKS_b e1 <| OKS_gd z1 <| OKS_b e2 ?_
  exact OKS_if (fun _ => ⟨_, rfl, a2⟩) (fun h => absurd rfl h)
theorem ls_37 (al : AL x1.2) (z1 : 0 ≤ w32 (x1.1 + 1) ∧ w32 (x1.1 + 1) < (L : Int)) (z2 : 0 ≤ w32 (x1.1 + 2) ∧ w32 (x1.1 + 2) < (L : Int)) (z3 : 0 ≤ w32 (x1.1 + 3) ∧ w32 (x1.1 + 3) < (L : Int)) (z4 : 0 ≤ w32 (x1.1 + 4) ∧ w32 (x1.1 + 4) < (L : Int)) (z5 : 0 ≤ w32 (x1.1 + 5) ∧ w32 (x1.1 + 5) < (L : Int)) : OKS (w32 (x1.1 + 6)) (gd (0 ≤ w32 (x1.1 + 1) ∧ w32 (x1.1 + 1) < (L : Int)) <|
gd (0 ≤ w32 (x1.1 + 2) ∧ w32 (x1.1 + 2) < (L : Int)) <|
gd (0 ≤ w32 (x1.1 + 3) ∧ w32 (x1.1 + 3) < (L : Int)) <|
gd (0 ≤ w32 (x1.1 + 4) ∧ w32 (x1.1 + 4) < (L : Int)) <|
(f_X11_chance x1.2 ((xs (w32 (x1.1 + 1)).toNat).toInt) ((xs (w32 (x1.1 + 2)).toNat).toInt) ((xs (w32 (x1.1 + 3)).toNat).toInt) ((xs (w32 (x1.1 + 4)).toNat).toInt)).bind fun x302 =>
gd (0 ≤ w32 (x1.1 + 1) ∧ w32 (x1.1 + 1) < (L : Int)) <|
gd (0 ≤ w32 (x1.1 + 2) ∧ w32 (x1.1 + 2) < (L : Int)) <|
gd (0 ≤ w32 (x1.1 + 3) ∧ w32 (x1.1 + 3) < (L : Int)) <|
gd (0 ≤ w32 (x1.1 + 4) ∧ w32 (x1.1 + 4) < (L : Int)) <|
(f_X12_chance x302.2 ((xs (w32 (x1.1 + 1)).toNat).toInt) ((xs (w32 (x1.1 + 2)).toNat).toInt) ((xs (w32 (x1.1 + 3)).toNat).toInt) ((xs (w32 (x1.1 + 4)).toNat).toInt)).bind fun x307 =>
if x302.1 = x307.1 then
(some (Sum.inl (w32 (x1.1 + 6), x307.2)))
else
some (Sum.inr (0, x307.2))) := by
  obtain ⟨r, M1, M2, e1, e2, a2⟩ := lift_PQ al (o1 := f_X11_chance x1.2 ((xs (w32 (x1.1 + 1)).toNat).toInt) ((xs (w32 (x1.1 + 2)).toNat).toInt) ((xs (w32 (x1.1 + 3)).toNat).toInt) ((xs (w32 (x1.1 + 4)).toNat).toInt)) (o2 := fun m => f_X12_chance m ((xs (w32 (x1.1 + 1)).toNat).toInt) ((xs (w32 (x1.1 + 2)).toNat).toInt) ((xs (w32 (x1.1 + 3)).toNat).toInt) ((xs (w32 (x1.1 + 4)).toNat).toInt)) (fun h H LV S N g => q_chance g ((xs (w32 (x1.1 + 1)).toNat).toInt) ((xs (w32 (x1.1 + 2)).toNat).toInt) ((xs (w32 (x1.1 + 3)).toNat).toInt) ((xs (w32 (x1.1 + 4)).toNat).toInt) (rI _))
  refine OKS_gd z1 <| OKS_gd z2 <| OKS_gd z3 <| OKS_gd z4 <| OKS_b e1 <| OKS_gd z1 <| OKS_gd z2 <| OKS_gd z3 <| OKS_gd z4 <| OKS_b e2 ?_
  exact OKS_if (fun _ => ⟨_, rfl, a2⟩) (fun h => absurd rfl h)
theorem ls_38 (al : AL x1.2) (z1 : 0 ≤ w32 (x1.1 + 1) ∧ w32 (x1.1 + 1) < (L : Int)) (z2 : 0 ≤ w32 (x1.1 + 2) ∧ w32 (x1.1 + 2) < (L : Int)) (z3 : 0 ≤ w32 (x1.1 + 3) ∧ w32 (x1.1 + 3) < (L : Int)) (z4 : 0 ≤ w32 (x1.1 + 4) ∧ w32 (x1.1 + 4) < (L : Int)) (z5 : 0 ≤ w32 (x1.1 + 5) ∧ w32 (x1.1 + 5) < (L : Int)) : OKS (w32 (x1.1 + 6)) (gd (0 ≤ w32 (x1.1 + 1) ∧ w32 (x1.1 + 1) < (L : Int)) <|
gd (0 ≤ w32 (x1.1 + 2) ∧ w32 (x1.1 + 2) < (L : Int)) <|
gd (0 ≤ w32 (x1.1 + 3) ∧ w32 (x1.1 + 3) < (L : Int)) <|
(f_X11_tried x1.2 ((xs (w32 (x1.1 + 1)).toNat).toInt) ((xs (w32 (x1.1 + 2)).toNat).toInt) ((xs (w32 (x1.1 + 3)).toNat).toInt)).bind fun x313 =>
gd (0 ≤ w32 (x1.1 + 1) ∧ w32 (x1.1 + 1) < (L : Int)) <|
gd (0 ≤ w32 (x1.1 + 2) ∧ w32 (x1.1 + 2) < (L : Int)) <|
gd (0 ≤ w32 (x1.1 + 3) ∧ w32 (x1.1 + 3) < (L : Int)) <|
(f_X12_tried x313.2 ((xs (w32 (x1.1 + 1)).toNat).toInt) ((xs (w32 (x1.1 + 2)).toNat).toInt) ((xs (w32 (x1.1 + 3)).toNat).toInt)).bind fun x317 =>
if x313.1 = x317.1 then
(some (Sum.inl (w32 (x1.1 + 6), x317.2)))
else
some (Sum.inr (0, x317.2))) := by
  obtain ⟨r, M1, M2, e1, e2, a2⟩ := lift_PQ al (o1 := f_X11_tried x1.2 ((xs (w32 (x1.1 + 1)).toNat).toInt) ((xs (w32 (x1.1 + 2)).toNat).toInt) ((xs (w32 (x1.1 + 3)).toNat).toInt)) (o2 := fun m => f_X12_tried m ((xs (w32 (x1.1 + 1)).toNat).toInt) ((xs (w32 (x1.1 + 2)).toNat).toInt) ((xs (w32 (x1.1 + 3)).toNat).toInt)) (fun h H LV S N g => q_tried g ((xs (w32 (x1.1 + 1)).toNat).toInt) ((xs (w32 (x1.1 + 2)).toNat).toInt) ((xs (w32 (x1.1 + 3)).toNat).toInt))
  refine OKS_gd z1 <| OKS_gd z2 <| OKS_gd z3 <| OKS_b e1 <| OKS_gd z1 <| OKS_gd z2 <| OKS_gd z3 <| OKS_b e2 ?_
  exact OKS_if (fun _ => ⟨_, rfl, a2⟩) (fun h => absurd rfl h)
theorem ls_39 (al : AL x1.2) (z1 : 0 ≤ w32 (x1.1 + 1) ∧ w32 (x1.1 + 1) < (L : Int)) (z2 : 0 ≤ w32 (x1.1 + 2) ∧ w32 (x1.1 + 2) < (L : Int)) (z3 : 0 ≤ w32 (x1.1 + 3) ∧ w32 (x1.1 + 3) < (L : Int)) (z4 : 0 ≤ w32 (x1.1 + 4) ∧ w32 (x1.1 + 4) < (L : Int)) (z5 : 0 ≤ w32 (x1.1 + 5) ∧ w32 (x1.1 + 5) < (L : Int)) : OKS (w32 (x1.1 + 6)) ((f_X11_undo x1.2).bind fun x320 =>
(f_X12_undo x320.2).bind fun x321 =>
if x320.1 = x321.1 then
(some (Sum.inl (w32 (x1.1 + 6), x321.2)))
else
some (Sum.inr (0, x321.2))) := by
  obtain ⟨r, M1, M2, e1, e2, a2⟩ := al_undo al 
  refine OKS_b e1 <| OKS_b e2 ?_
  exact OKS_if (fun _ => ⟨_, rfl, a2⟩) (fun h => absurd rfl h)
theorem ls_40 (al : AL x1.2) (z1 : 0 ≤ w32 (x1.1 + 1) ∧ w32 (x1.1 + 1) < (L : Int)) (z2 : 0 ≤ w32 (x1.1 + 2) ∧ w32 (x1.1 + 2) < (L : Int)) (z3 : 0 ≤ w32 (x1.1 + 3) ∧ w32 (x1.1 + 3) < (L : Int)) (z4 : 0 ≤ w32 (x1.1 + 4) ∧ w32 (x1.1 + 4) < (L : Int)) (z5 : 0 ≤ w32 (x1.1 + 5) ∧ w32 (x1.1 + 5) < (L : Int)) : OKS (w32 (x1.1 + 6)) ((f_X11_keep x1.2).bind fun x324 =>
(f_X12_keep x324.2).bind fun x325 =>
if x324.1 = x325.1 then
(some (Sum.inl (w32 (x1.1 + 6), x325.2)))
else
some (Sum.inr (0, x325.2))) := by
  obtain ⟨r, M1, M2, e1, e2, a2⟩ := al_keep al 
  refine OKS_b e1 <| OKS_b e2 ?_
  exact OKS_if (fun _ => ⟨_, rfl, a2⟩) (fun h => absurd rfl h)
theorem ls_41 (al : AL x1.2) (z1 : 0 ≤ w32 (x1.1 + 1) ∧ w32 (x1.1 + 1) < (L : Int)) (z2 : 0 ≤ w32 (x1.1 + 2) ∧ w32 (x1.1 + 2) < (L : Int)) (z3 : 0 ≤ w32 (x1.1 + 3) ∧ w32 (x1.1 + 3) < (L : Int)) (z4 : 0 ≤ w32 (x1.1 + 4) ∧ w32 (x1.1 + 4) < (L : Int)) (z5 : 0 ≤ w32 (x1.1 + 5) ∧ w32 (x1.1 + 5) < (L : Int)) : OKS (w32 (x1.1 + 6)) ((f_X11_back x1.2).bind fun x328 =>
(f_X12_back x328.2).bind fun x329 =>
if x328.1 = x329.1 then
(some (Sum.inl (w32 (x1.1 + 6), x329.2)))
else
some (Sum.inr (0, x329.2))) := by
  obtain ⟨r, M1, M2, e1, e2, a2⟩ := al_back al 
  refine OKS_b e1 <| OKS_b e2 ?_
  exact OKS_if (fun _ => ⟨_, rfl, a2⟩) (fun h => absurd rfl h)
theorem ls_42 (al : AL x1.2) (z1 : 0 ≤ w32 (x1.1 + 1) ∧ w32 (x1.1 + 1) < (L : Int)) (z2 : 0 ≤ w32 (x1.1 + 2) ∧ w32 (x1.1 + 2) < (L : Int)) (z3 : 0 ≤ w32 (x1.1 + 3) ∧ w32 (x1.1 + 3) < (L : Int)) (z4 : 0 ≤ w32 (x1.1 + 4) ∧ w32 (x1.1 + 4) < (L : Int)) (z5 : 0 ≤ w32 (x1.1 + 5) ∧ w32 (x1.1 + 5) < (L : Int)) : OKS (w32 (x1.1 + 6)) (gd (0 ≤ w32 (x1.1 + 1) ∧ w32 (x1.1 + 1) < (L : Int)) <|
(f_X11_count x1.2 ((xs (w32 (x1.1 + 1)).toNat).toInt)).bind fun x333 =>
gd (0 ≤ w32 (x1.1 + 1) ∧ w32 (x1.1 + 1) < (L : Int)) <|
(f_X12_count x1.2 ((xs (w32 (x1.1 + 1)).toNat).toInt)).bind fun x335 =>
if x333 = x335.1 then
(some (Sum.inl (w32 (x1.1 + 6), x335.2)))
else
some (Sum.inr (0, x335.2))) := by
  obtain ⟨r, M2, e1, e2, a2⟩ := lift_PR al (o1 := f_X11_count x1.2 ((xs (w32 (x1.1 + 1)).toNat).toInt)) (o2 := fun m => f_X12_count m ((xs (w32 (x1.1 + 1)).toNat).toInt)) (fun h H LV S g x => q_count g x ((xs (w32 (x1.1 + 1)).toNat).toInt))
  refine OKS_gd z1 <| OKS_b e1 <| OKS_gd z1 <| OKS_b e2 ?_
  exact OKS_if (fun _ => ⟨_, rfl, a2⟩) (fun h => absurd rfl h)
/-- a turn of the law's loop -/
theorem ls_step (al : AL x1.2) (h0 : ¬ w32 ((L : Int) - 6) < x1.1) (zp : 0 ≤ x1.1 ∧ x1.1 < (L : Int)) (z1 : 0 ≤ w32 (x1.1 + 1) ∧ w32 (x1.1 + 1) < (L : Int)) (z2 : 0 ≤ w32 (x1.1 + 2) ∧ w32 (x1.1 + 2) < (L : Int)) (z3 : 0 ≤ w32 (x1.1 + 3) ∧ w32 (x1.1 + 3) < (L : Int)) (z4 : 0 ≤ w32 (x1.1 + 4) ∧ w32 (x1.1 + 4) < (L : Int)) (z5 : 0 ≤ w32 (x1.1 + 5) ∧ w32 (x1.1 + 5) < (L : Int)) : OKS (w32 (x1.1 + 6)) (f_lawStep L xs x1) := by
  unfold f_lawStep
  rw [if_neg h0]
  refine OKS_gd zp ?_
  refine OKS_if (fun _ => ls_0 al z1 z2 z3 z4 z5) (fun _ => ?_)
  refine OKS_if (fun _ => ls_1 al z1 z2 z3 z4 z5) (fun _ => ?_)
  refine OKS_if (fun _ => ls_2 al z1 z2 z3 z4 z5) (fun _ => ?_)
  refine OKS_if (fun _ => ls_3 al z1 z2 z3 z4 z5) (fun _ => ?_)
  refine OKS_if (fun _ => ls_4 al z1 z2 z3 z4 z5) (fun _ => ?_)
  refine OKS_if (fun _ => ls_5 al z1 z2 z3 z4 z5) (fun _ => ?_)
  refine OKS_if (fun _ => ls_6 al z1 z2 z3 z4 z5) (fun _ => ?_)
  refine OKS_if (fun _ => ls_7 al z1 z2 z3 z4 z5) (fun _ => ?_)
  refine OKS_if (fun _ => ls_8 al z1 z2 z3 z4 z5) (fun _ => ?_)
  refine OKS_if (fun _ => ls_9 al z1 z2 z3 z4 z5) (fun _ => ?_)
  refine OKS_if (fun _ => ls_10 al z1 z2 z3 z4 z5) (fun _ => ?_)
  refine OKS_if (fun _ => ls_11 al z1 z2 z3 z4 z5) (fun _ => ?_)
  refine OKS_if (fun _ => ls_12 al z1 z2 z3 z4 z5) (fun _ => ?_)
  refine OKS_if (fun _ => ls_13 al z1 z2 z3 z4 z5) (fun _ => ?_)
  refine OKS_if (fun _ => ls_14 al z1 z2 z3 z4 z5) (fun _ => ?_)
  refine OKS_if (fun _ => ls_15 al z1 z2 z3 z4 z5) (fun _ => ?_)
  refine OKS_if (fun _ => ls_16 al z1 z2 z3 z4 z5) (fun _ => ?_)
  refine OKS_if (fun _ => ls_17 al z1 z2 z3 z4 z5) (fun _ => ?_)
  refine OKS_if (fun _ => ls_18 al z1 z2 z3 z4 z5) (fun _ => ?_)
  refine OKS_if (fun _ => ls_19 al z1 z2 z3 z4 z5) (fun _ => ?_)
  refine OKS_if (fun _ => ls_20 al z1 z2 z3 z4 z5) (fun _ => ?_)
  refine OKS_if (fun _ => ls_21 al z1 z2 z3 z4 z5) (fun _ => ?_)
  refine OKS_if (fun _ => ls_22 al z1 z2 z3 z4 z5) (fun _ => ?_)
  refine OKS_if (fun _ => ls_23 al z1 z2 z3 z4 z5) (fun _ => ?_)
  refine OKS_if (fun _ => ls_24 al z1 z2 z3 z4 z5) (fun _ => ?_)
  refine OKS_if (fun _ => ls_25 al z1 z2 z3 z4 z5) (fun _ => ?_)
  refine OKS_if (fun _ => ls_26 al z1 z2 z3 z4 z5) (fun _ => ?_)
  refine OKS_if (fun _ => ls_27 al z1 z2 z3 z4 z5) (fun _ => ?_)
  refine OKS_if (fun _ => ls_28 al z1 z2 z3 z4 z5) (fun _ => ?_)
  refine OKS_if (fun _ => ls_29 al z1 z2 z3 z4 z5) (fun _ => ?_)
  refine OKS_if (fun _ => ls_30 al z1 z2 z3 z4 z5) (fun _ => ?_)
  refine OKS_if (fun _ => ls_31 al z1 z2 z3 z4 z5) (fun _ => ?_)
  refine OKS_if (fun _ => ls_32 al z1 z2 z3 z4 z5) (fun _ => ?_)
  refine OKS_if (fun _ => ls_33 al z1 z2 z3 z4 z5) (fun _ => ?_)
  refine OKS_if (fun _ => ls_34 al z1 z2 z3 z4 z5) (fun _ => ?_)
  refine OKS_if (fun _ => ls_35 al z1 z2 z3 z4 z5) (fun _ => ?_)
  refine OKS_if (fun _ => ls_36 al z1 z2 z3 z4 z5) (fun _ => ?_)
  refine OKS_if (fun _ => ls_37 al z1 z2 z3 z4 z5) (fun _ => ?_)
  refine OKS_if (fun _ => ls_38 al z1 z2 z3 z4 z5) (fun _ => ?_)
  refine OKS_if (fun _ => ls_39 al z1 z2 z3 z4 z5) (fun _ => ?_)
  refine OKS_if (fun _ => ls_40 al z1 z2 z3 z4 z5) (fun _ => ?_)
  refine OKS_if (fun _ => ls_41 al z1 z2 z3 z4 z5) (fun _ => ?_)
  refine OKS_if (fun _ => ls_42 al z1 z2 z3 z4 z5) (fun _ => ?_)
  exact ⟨_, rfl, al⟩
end LOOP
