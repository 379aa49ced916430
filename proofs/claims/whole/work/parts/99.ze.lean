/-- a turn of a formula: the class's, the second system's -/
def stp (a1 : Nat) : Int × MM → Option ((Int × MM) ⊕ ((MM) ⊕ (Int × MM))) := fun x6 =>
if 700 < x6.1 then
(some (Sum.inr (Sum.inr (1, x6.2))))
else
if (x6.2 5 5) = 0 then
(if (x6.2 5 4) = 0 then
(if (x6.2 3 4) = 59 then
(some (Sum.inr (Sum.inl x6.2)))
else
((if (x6.2 5 5) = 0 then
((f_X1_readJoint x6.2 a1).bind fun x12 =>
some (x12.1, x12.2))
else
(f_X1_readPart x6.2 a1).bind fun x13 =>
some (x13.1, x13.2)) : Option (Int × MM)).bind fun x14 =>
if x14.1 = 0 then
((f_X9_advance x14.2).bind fun x16 =>
some (Sum.inl (w32 (x6.1 + 1), x16)))
else
some (Sum.inr (Sum.inr (x14.1, x14.2))))
else
((if (x6.2 5 5) = 0 then
((f_X1_readJoint x6.2 a1).bind fun x18 =>
some (x18.1, x18.2))
else
(f_X1_readPart x6.2 a1).bind fun x19 =>
some (x19.1, x19.2)) : Option (Int × MM)).bind fun x20 =>
if x20.1 = 0 then
((f_X9_advance x20.2).bind fun x22 =>
some (Sum.inl (w32 (x6.1 + 1), x22)))
else
some (Sum.inr (Sum.inr (x20.1, x20.2))))
else
((if (x6.2 5 5) = 0 then
((f_X1_readJoint x6.2 a1).bind fun x24 =>
some (x24.1, x24.2))
else
(f_X1_readPart x6.2 a1).bind fun x25 =>
some (x25.1, x25.2)) : Option (Int × MM)).bind fun x26 =>
if x26.1 = 0 then
((f_X9_advance x26.2).bind fun x28 =>
some (Sum.inl (w32 (x6.1 + 1), x28)))
else
some (Sum.inr (Sum.inr (x26.1, x26.2)))
def smp : MM → Option (MM ⊕ ((MM) ⊕ (Int × MM))) := fun x6 =>
(f_X12_isSign x6 59).bind fun x7 =>
if x7 = 0 then
(if (x6 88 49) = 0 then
((f_X12_signs x6).bind fun x10 =>
if x10.1 = 0 then
(some (Sum.inr (Sum.inr (0, x10.2))))
else
some (Sum.inl x10.2))
else
(f_X12_leafRead x6).bind fun x12 =>
if x12.1 = 0 then
(some (Sum.inr (Sum.inr (0, x12.2))))
else
some (Sum.inl x12.2))
else
if (x6 88 49) = 0 then
(if 0 < (x6 88 47) then
(if (x6 88 49) = 0 then
((f_X12_signs x6).bind fun x17 =>
if x17.1 = 0 then
(some (Sum.inr (Sum.inr (0, x17.2))))
else
some (Sum.inl x17.2))
else
(f_X12_leafRead x6).bind fun x19 =>
if x19.1 = 0 then
(some (Sum.inr (Sum.inr (0, x19.2))))
else
some (Sum.inl x19.2))
else
some (Sum.inr (Sum.inl x6)))
else
if (x6 88 49) = 0 then
((f_X12_signs x6).bind fun x22 =>
if x22.1 = 0 then
(some (Sum.inr (Sum.inr (0, x22.2))))
else
some (Sum.inl x22.2))
else
(f_X12_leafRead x6).bind fun x24 =>
if x24.1 = 0 then
(some (Sum.inr (Sum.inr (0, x24.2))))
else
some (Sum.inl x24.2)
section FORM
variable {M N : MM} {n t g : Nat} {W K V A B Ko Vo Ao Bo : List Int}
theorem stp_j {i : Int} {a1 : Nat} (hi : ¬ 700 < i) (due : M 5 5 = 0) (ne : ¬ (M 5 4 = 0 ∧ M 3 4 = 59)) : stp a1 (i, M) = (f_X1_readJoint M a1).bind fun x => if x.1 = 0 then ((f_X9_advance x.2).bind fun y => some (Sum.inl (w32 (i + 1), y))) else some (Sum.inr (Sum.inr (x.1, x.2))) := by
  have e : ∀ o : Option (Int × MM), (o.bind fun x => some (x.1, x.2)) = o := fun o => by cases o <;> rfl
  unfold stp
  rw [if_neg hi, if_pos due]
  by_cases q : M 5 4 = 0
  · rw [if_pos q, if_neg (fun z => ne ⟨q, z⟩), if_pos due, e]
  · rw [if_neg q, if_pos due, e]
theorem stp_p {i : Int} {a1 : Nat} (hi : ¬ 700 < i) (due : ¬ M 5 5 = 0) : stp a1 (i, M) = (f_X1_readPart M a1).bind fun x => if x.1 = 0 then ((f_X9_advance x.2).bind fun y => some (Sum.inl (w32 (i + 1), y))) else some (Sum.inr (Sum.inr (x.1, x.2))) := by
  have e : ∀ o : Option (Int × MM), (o.bind fun x => some (x.1, x.2)) = o := fun o => by cases o <;> rfl
  unfold stp
  rw [if_neg hi, if_neg due, if_neg due, e]
theorem smp_j (k : RT' M N n t) (h : N 88 49 = 0) (ne : ¬ (¬ 0 < N 88 47 ∧ M 3 4 = 59)) : smp N = (f_X12_signs N).bind fun x => if x.1 = 0 then (some (Sum.inr (Sum.inr (0, x.2)))) else some (Sum.inl x.2) := by
  unfold smp
  rw [m_isSign k (by decide), Option.bind_some, if_b1]
  by_cases q : M 3 4 = 59
  · rw [if_pos q, if_pos h]
    by_cases r : 0 < N 88 47
    · rw [if_pos r, if_pos h]
    · exact absurd ⟨r, q⟩ ne
  · rw [if_neg q, if_pos h]
theorem smp_p (k : RT' M N n t) (h : ¬ N 88 49 = 0) : smp N = (f_X12_leafRead N).bind fun x => if x.1 = 0 then (some (Sum.inr (Sum.inr (0, x.2)))) else some (Sum.inl x.2) := by
  unfold smp
  rw [m_isSign k (by decide), Option.bind_some, if_b1]
  by_cases q : M 3 4 = 59
  · rw [if_pos q, if_neg h, if_neg h]
  · rw [if_neg q, if_neg h]
/-- the loop's state -/
def LI (M0 N0 : MM) (g n t0 : Nat) (Ko Vo Ao Bo : List Int) (x : Int × MM) (N : MM) : Prop := ∃ (m t : Nat) (W K V A B : List Int), x.1 = (m : Int) ∧ RT' x.2 N n t ∧ t0 ≤ t ∧ FX x.2 N g W K V A B Ko Vo Ao Bo ∧ (m < t ∨ (x.2 3 4 = 1 ∧ m ≤ t)) ∧ FFC g x.2 M0 ∧ FFN 0 N N0
def LQ (M0 N0 : MM) (g n t0 : Nat) (Ko Vo Ao Bo : List Int) (y y' : (MM) ⊕ (Int × MM)) : Prop := (∃ M N t W K V A B, y = Sum.inl M ∧ y' = Sum.inl N ∧ RT' M N n t ∧ t0 ≤ t ∧ FX M N g W K V A B Ko Vo Ao Bo ∧ M 5 5 = 0 ∧ nb W = 0 ∧ M 3 4 = 59 ∧ FFC g M M0 ∧ FFN 0 N N0) ∨ ∃ v M N, y = Sum.inr (v, M) ∧ y' = Sum.inr (0, N) ∧ v ≠ 0 ∧ N 88 4 = v ∧ N 88 5 = M 3 6 ∧ FFC g M M0 ∧ FFN 1 N N0
theorem turn {M0 N0 : MM} {t0 m : Nat} {o1 o2 : Option (Int × MM)} (hm : m ≤ 700) (h0 : t0 ≤ t) (hmt : m < t ∨ (M 3 4 = 1 ∧ m ≤ t)) (hk : M 3 4 = 1 → NO M N o1 o2) (f1 : FFC g M M0) (f2 : FFN 0 N N0) (h : NO M N o1 o2 ∨ GO M N g n t Ko Vo Ao Bo o1 o2) {s1 : Option ((Int × MM) ⊕ ((MM) ⊕ (Int × MM)))} {s2 : Option (MM ⊕ ((MM) ⊕ (Int × MM)))} (e1 : s1 = o1.bind fun x => if x.1 = 0 then ((f_X9_advance x.2).bind fun y => some (Sum.inl (w32 ((m : Int) + 1), y))) else some (Sum.inr (Sum.inr (x.1, x.2)))) (e2 : s2 = o2.bind fun x => if x.1 = 0 then (some (Sum.inr (Sum.inr (0, x.2)))) else some (Sum.inl x.2)) : (∃ y y', s1 = some (.inr y) ∧ s2 = some (.inr y') ∧ LQ M0 N0 g n t0 Ko Vo Ao Bo y y') ∨ ∃ z z', s1 = some (.inl z) ∧ s2 = some (.inl z') ∧ LI M0 N0 g n t0 Ko Vo Ao Bo z z' ∧ (800 - z.1).toNat < (800 - (m : Int)).toNat := by
  have no : NO M N o1 o2 → (∃ y y', s1 = some (.inr y) ∧ s2 = some (.inr y') ∧ LQ M0 N0 g n t0 Ko Vo Ao Bo y y') := by
    rintro ⟨v, N', r1, r2, r3, r4, r5, r6⟩
    refine ⟨Sum.inr (v, M), Sum.inr (0, N'), ?_, ?_, Or.inr ⟨v, M, N', rfl, rfl, r1, r4, r5, f1, r6.tr f2⟩⟩
    · rw [e1, r2, Option.bind_some, if_neg r1]
    · rw [e2, r3, Option.bind_some, if_pos rfl]
  by_cases q : M 3 4 = 1
  · exact Or.inl (no (hk q))
  · rcases h with h | h
    · exact Or.inl (no h)
    · right
      obtain ⟨M1, M2, N2, r1, r2, r3, ⟨s, W, K, V, A, B, r4, r5, r6, r7⟩, r8, r9⟩ := h
      refine ⟨(((m + 1 : Nat) : Int), M2), N2, ?_, ?_, ⟨m + 1, s, W, K, V, A, B, rfl, r4, by omega, r5, ?_, r8.tr f1, r9.tr f2⟩, ?_⟩
      · rw [e1, r1, Option.bind_some, if_pos rfl, r2, Option.bind_some, wi7 hm]
      · rw [e2, r3, Option.bind_some, if_neg (show ¬ ((1 : Int) = 0) by decide)]
      · rcases hmt with h | h
        · rcases r6 with w | w
          · exact Or.inl (by omega)
          · exact Or.inr ⟨w, by omega⟩
        · exact absurd h.1 q
      · show (800 - ((m + 1 : Nat) : Int)).toNat < (800 - (m : Int)).toNat
        omega
end FORM
