theorem w32_a1 (x y : Int) : w32 (w32 (x + y) + 1) = w32 (w32 (x + 1) + y) := by unfold w32; omega
theorem w32_aa (x y z : Int) : w32 (w32 (x + y) + z) = w32 (w32 (x + z) + y) := by unfold w32; omega
section MOD3
variable {N H S B : MM} {LV : LVT} {b : Nat} {fl : Prop} {o : Int}
/-- what an hour of half b may change -/
def MS (b a j : Nat) : Prop := a = 114 ∨ a = 115 ∨ a = 130 ∨ (a = 88 ∧ (j = 53 ∨ j = 78 ∨ j = 79)) ∨ (116 ≤ a ∧ a ≤ 120 ∧ a ≠ 117 ∧ 5 * b ≤ j ∧ j < 5 * b + 5) ∨ (a = 117 ∧ 30 * b ≤ j ∧ j < 30 * b + 30) ∨ (121 ≤ a ∧ a ≤ 127 ∧ j = b) ∨ (b = 0 ∧ (a = 128 ∨ a = 129))
def FM (b : Nat) (N' N : MM) : Prop := ∀ a j, ¬ MS b a j → N' a j = N a j
theorem FM.rf : FM b N N := fun _ _ _ => rfl
theorem FM.tr {N1 N2 N3 : MM} (h1 : FM b N1 N2) (h2 : FM b N2 N3) : FM b N1 N3 := fun a j x => (h1 a j x).trans (h2 a j x)
theorem FN.fm {N' : MM} (f : FN N' N) : FM b N' N := fun a j h => f a j (fun z => h (by unfold MS; omega)) (fun z => h (by unfold MS; omega)) (by unfold MS at h; omega)
theorem FM.up {N' : MM} (f : FM b N' N) {a j : Nat} {v : Int} (h : MS b a j) : FM b (upM N' a j v) N := fun x y hn => by
  rw [upM_ne x y (fun z => hn (by rw [z.1, z.2]; exact h))]
  exact f x y hn
theorem FM.hm {N' : MM} (f : FM b N' N) (h : HM N H) : HM N' H := by
  unfold HM at *
  unfold FM MS at f
  simp (disch := omega) only [f _ _]
  exact h
theorem FM.ml {N' : MM} (f : FM b N' N) (h : ML N LV) : ML N' LV := by
  intro n hn w hw ok
  have e : ∀ a, 106 ≤ a → a ≤ 111 → N' a = N a := fun a x y => funext fun j => f a j (by unfold MS; omega)
  have := h n (fun a j x => (hn a j x).trans (congrFun (e a (by omega) (by omega)) j)) w hw ok
  rw [e 106 (by omega) (by omega)]
  exact this
theorem FM.sh {N' : MM} (f : FM b N' N) : N' 88 77 = N 88 77 := f _ _ (by unfold MS; omega)
theorem FM.tm {N' : MM} (f : FM b N' N) (h : TM N S) : TM N' S := by
  unfold TM at *
  unfold FM MS at f
  simp (disch := omega) only [f _ _]
  exact h
theorem aTd_3 {p : Nat} {to : Int} : aTurned S p to 0 3 = to := by unfold aTurned; simp (disch := omega) only [up_na, up_ni, upM_eq]
theorem aTd_15 {p : Nat} {to : Int} : aTurned S p to 0 15 = w32 (S 0 15 + 1) := by unfold aTurned; simp (disch := omega) only [up_na, up_ni, upM_eq]
theorem aTd_17 {p : Nat} {to : Int} : aTurned S p to 0 17 = (if S 0 3 < to then 1 else -1) := by unfold aTurned; simp (disch := omega) only [up_na, up_ni, upM_eq]
theorem aTd_16 {p : Nat} {to : Int} : aTurned S p to 0 16 = aSw S (if S 0 3 < to then 1 else -1) 0 16 := by unfold aTurned; simp (disch := omega) only [up_na, up_ni]
theorem aTd_5 {p q : Nat} {to : Int} : aTurned S p to 5 q = if q = p then w32 (S 5 p + 1) else S 5 q := by
  unfold aTurned
  rw [up_na (by omega), up_na (by omega)]
  by_cases e : q = p
  · rw [if_pos e, e, upM_eq]
  · rw [if_neg e, up_ni e, up_na (by omega), up_na (by omega), up_na (by omega), aSw_a (by omega)]
theorem aTd_6 {p q : Nat} {to : Int} : aTurned S p to 6 q = if q = (S 0 2 % 24).toNat then w32 (S 6 q + to) else S 6 q := by
  unfold aTurned
  rw [up_na (by omega)]
  by_cases e : q = (S 0 2 % 24).toNat
  · rw [if_pos e, e, upM_eq]
  · rw [if_neg e, up_ni e, up_na (by omega), up_na (by omega), up_na (by omega), up_na (by omega), aSw_a (by omega)]
theorem aTd_7 {p q : Nat} {to : Int} : aTurned S p to 7 q = if q = (S 0 2 % 24).toNat then w32 (S 7 q + 1) else S 7 q := by
  unfold aTurned
  by_cases e : q = (S 0 2 % 24).toNat
  · rw [if_pos e, e, upM_eq]
  · rw [if_neg e, up_ni e, up_na (by omega), up_na (by omega), up_na (by omega), up_na (by omega), up_na (by omega), aSw_a (by omega)]
theorem m_turned (hC : CM N H S B b fl) (hSo : SOK H S) (hb : b < 2) {p : Nat} (hp : p < 5) {to : Int} : ∃ N', f_X12_turned N (b : Int) (p : Int) to = some N' ∧ CM N' H (aTurned S p to) B b fl ∧ FM b N' N := by
  obtain ⟨⟨c1, c2, c3, c4, c5, c6, c7⟩, hJ, hR, hX, hLn, hF, hT⟩ := hC
  have h0 := hSo.1
  have hlw := hSo.2.2.2.2.2.2.1
  have hsw := hSo.2.2.2.2.2.2.2.2.2.2.1.2
  have h24 := tm_r (x := S 0 2)
  have ei : (5 * (b : Int) + (p : Int)).toNat = 5 * b + p := by omega
  obtain ⟨j1, j2⟩ := hJ p hp
  have zb : 0 ≤ (b : Int) ∧ (b : Int) < 2 := by omega
  have z5 : 0 ≤ 5 * (b : Int) + (p : Int) ∧ 5 * (b : Int) + (p : Int) < 10 := by omega
  have ew : w32 (5 * (b : Int) + (p : Int)) = 5 * (b : Int) + (p : Int) := w32_i (by omega) (by omega)
  have ew0 : w32 (5 * (b : Int)) = 5 * (b : Int) := w32_i (by omega) (by omega)
  unfold f_X12_turned
  have step : ∀ way : Int, way = (if S 0 3 < to then 1 else -1) → ∃ N' : MM, ((gd (0 ≤ (b : Int) ∧ (b : Int) < (2 : Int)) <| bM (upM N 121 b to) fun M5 => gd (0 ≤ (b : Int) ∧ (b : Int) < (2 : Int)) <| gd (0 ≤ (b : Int) ∧ (b : Int) < (2 : Int)) <| bM (upM M5 126 b (w32 ((M5 126 b) + 1))) fun M8 => gd (0 ≤ 5 * (b : Int) + (p : Int) ∧ 5 * (b : Int) + (p : Int) < (10 : Int)) <| gd (0 ≤ 5 * (b : Int) + (p : Int) ∧ 5 * (b : Int) + (p : Int) < (10 : Int)) <| bM (upM M8 119 (5 * b + p) (w32 ((M8 119 (5 * b + p)) + 1))) fun M11 => ((if (M11 88 78) = 0 then (some 0) else if (M11 88 78) = way then (some 0) else some 1) : Option Int).bind fun x14 => bM (upM M11 88 79 (w32 ((M11 88 79) + x14))) fun M15 => bM (upM M15 88 78 way) fun M16 => if (b : Int) = 1 then (some M16) else gd (0 ≤ (b : Int) ∧ (b : Int) < (2 : Int)) <| gd (0 ≤ w32 (Int.tmod (M16 127 b) 24) ∧ w32 (Int.tmod (M16 127 b) 24) < (24 : Int)) <| gd (0 ≤ w32 (Int.tmod (M16 127 b) 24) ∧ w32 (Int.tmod (M16 127 b) 24) < (24 : Int)) <| bM (upM M16 128 (w32 (Int.tmod (M16 127 b) 24)).toNat (w32 ((M16 128 (w32 (Int.tmod (M16 127 b) 24)).toNat) + to))) fun M21 => gd (0 ≤ (b : Int) ∧ (b : Int) < (2 : Int)) <| gd (0 ≤ w32 (Int.tmod (M21 127 b) 24) ∧ w32 (Int.tmod (M21 127 b) 24) < (24 : Int)) <| gd (0 ≤ w32 (Int.tmod (M21 127 b) 24) ∧ w32 (Int.tmod (M21 127 b) 24) < (24 : Int)) <| bM (upM M21 129 (w32 (Int.tmod (M21 127 b) 24)).toNat (w32 ((M21 129 (w32 (Int.tmod (M21 127 b) 24)).toNat) + 1))) fun M25 => some M25) : Option MM) = some N' ∧ CM N' H (aTurned S p to) B b fl ∧ FM b N' N := by
    intro way hway
    have hx : ∃ x14 : Int, ((if (N 88 78) = 0 then (some 0) else if (N 88 78) = way then (some 0) else some 1) : Option Int) = some x14 ∧ (N 88 78 = S 0 17 → x14 = if way = -(S 0 17) then 1 else 0) := by
      have hw2 : way = 1 ∨ way = -1 := by rw [hway]; split <;> omega
      by_cases q1 : N 88 78 = 0
      · exact ⟨0, by rw [if_pos q1], fun z => by rw [if_neg (by omega)]⟩
      · by_cases q2 : N 88 78 = way
        · exact ⟨0, by rw [if_neg q1, if_pos q2], fun z => by rw [if_neg (by omega)]⟩
        · exact ⟨1, by rw [if_neg q1, if_neg q2], fun z => by rw [if_pos (by omega)]⟩
    obtain ⟨x14, ex, hx14⟩ := hx
    rw [gd_t zb, bM_eq, gd_t zb, gd_t zb, bM_eq, gd_t z5, gd_t z5, bM_eq]
    simp (disch := omega) only [up_na, ex, Option.bind_some, bM_eq]
    have hfl : fl → x14 = if way = -(S 0 17) then 1 else 0 := fun f => hx14 (hF f).1
    have core : ∀ N' : MM, (∀ a j, ¬ (a = 121 ∧ j = b) → ¬ (a = 126 ∧ j = b) → ¬ (a = 119 ∧ j = 5 * b + p) → ¬ (a = 88 ∧ (j = 78 ∨ j = 79)) → ¬ (b = 0 ∧ (a = 128 ∨ a = 129)) → N' a j = N a j) → N' 121 b = to → N' 126 b = w32 (N 126 b + 1) → N' 119 (5 * b + p) = w32 (N 119 (5 * b + p) + 1) → N' 88 79 = w32 (N 88 79 + x14) → N' 88 78 = way → (b = 0 → ∀ j : Nat, j < 24 → N' 128 j = aTurned S p to 6 j ∧ N' 129 j = aTurned S p to 7 j) → CM N' H (aTurned S p to) B b fl ∧ FM b N' N := by
      intro N' f f1 f2 f3 f4 f5 f6
      refine ⟨⟨⟨?_, ?_, ?_, ?_, ?_, ?_, ?_⟩, ?_, ?_, ?_, f6, ?_, ?_⟩, ?_⟩
      · rw [f _ _ (by omega) (by omega) (by omega) (by omega) (by omega), aTd_a (by omega) (by omega) (by omega) (by omega), c1]
      · rw [f1, aTd_3]
      · rw [f _ _ (by omega) (by omega) (by omega) (by omega) (by omega), aTd_a (by omega) (by omega) (by omega) (by omega), c3]
      · rw [f _ _ (by omega) (by omega) (by omega) (by omega) (by omega), aTd_a (by omega) (by omega) (by omega) (by omega), c4]
      · rw [f _ _ (by omega) (by omega) (by omega) (by omega) (by omega), aTd_a (by omega) (by omega) (by omega) (by omega), c5]
      · rw [f _ _ (by omega) (by omega) (by omega) (by omega) (by omega), aTd_a (by omega) (by omega) (by omega) (by omega), c6]
      · rw [f2, c7, aTd_15, w32_a1]
      · intro q hq
        have g1 : N' 120 (5 * b + q) = N 120 (5 * b + q) := f 120 (5 * b + q) (by omega) (by omega) (by omega) (by omega) (by omega)
        have g2 : aTurned S p to 2 q = S 2 q := aTd_a (by omega) (by omega) (by omega) (by omega)
        obtain ⟨g3, g4⟩ := hJ q hq
        refine ⟨by rw [g1, g2]; exact g3, ?_⟩
        by_cases e : q = p
        · subst e
          rw [f3, j2, aTd_5, if_pos rfl]
          exact w32_a1 _ _
        · have g5 : N' 119 (5 * b + q) = N 119 (5 * b + q) := f 119 (5 * b + q) (fun z => absurd z.1 (by decide)) (fun z => absurd z.1 (by decide)) (fun z => e (Nat.add_left_cancel z.2)) (fun z => absurd z.1 (by decide)) (fun z => absurd z.2 (by decide))
          rw [aTd_5, if_neg e, g5]
          exact g4
      · intro r hr
        rw [f _ _ (by omega) (by omega) (by omega) (by omega) (by omega), aTd_a (by omega) (by omega) (by omega) (by omega)]
        refine ⟨(hR r hr).1, fun k hk => ?_⟩
        rw [f _ _ (by omega) (by omega) (by omega) (by omega) (by omega), aTd_a (by omega) (by omega) (by omega) (by omega)]
        exact (hR r hr).2 k hk
      · rw [aTd_a (by omega) (by omega) (by omega) (by omega)]
        intro z q hq
        rw [f _ _ (by omega) (by omega) (by omega) (by omega) (by omega), aTd_a (by omega) (by omega) (by omega) (by omega)]
        exact hX z q hq
      · intro z
        obtain ⟨g1, g2⟩ := hF z
        rw [f5, f4, g2, aTd_17, aTd_16, aSw_16, ← hway, hfl z]
        refine ⟨rfl, ?_⟩
        split
        · rfl
        · rw [Int.add_zero, w32_id hsw]
      · unfold TM at *
        simp (disch := omega) only [f _ _, aTd_a]
        exact hT
      · intro a j hn
        clear hfl hx14 hlw hF hLn hX hJ hT hR c1 c2 c3 c4 c5 c6 c7 f1 f2 f3 f4 f5 f6
        unfold MS at hn
        exact f _ _ (by omega) (by omega) (by omega) (by omega) (by omega)
    by_cases qb : (b : Int) = 1
    · rw [if_pos qb]
      refine ⟨_, rfl, core _ ?_ ?_ ?_ ?_ ?_ ?_ (fun z => absurd z (by omega))⟩
      · intro a j n1 n2 n3 n4 n5
        rw [upM_ne a j (fun z => n4 ⟨z.1, Or.inl z.2⟩), upM_ne a j (fun z => n4 ⟨z.1, Or.inr z.2⟩), upM_ne a j n3, upM_ne a j n2, upM_ne a j n1]
      · simp (disch := omega) only [up_na, upM_eq]
      · simp (disch := omega) only [up_na, upM_eq]
      · simp (disch := omega) only [up_na, upM_eq]
      · simp (disch := omega) only [up_ni, upM_eq]
      · rw [upM_eq]
    · rw [if_neg qb, gd_t zb, c1, tmn (by omega), w32_i (by omega) (by omega), gd_t (by omega), gd_t (by omega), gd_t zb]
      rw [gd_t (by omega), gd_t (by omega)]
      refine ⟨_, rfl, core _ ?_ ?_ ?_ ?_ ?_ ?_ ?_⟩
      · intro a j n1 n2 n3 n4 n5
        have hb0 : b = 0 := by clear n1 n2 n3 n4 n5 hx14 hfl hlw hF; omega
        rw [upM_ne a j (fun z => n5 ⟨hb0, Or.inr z.1⟩), upM_ne a j (fun z => n5 ⟨hb0, Or.inl z.1⟩), upM_ne a j (fun z => n4 ⟨z.1, Or.inl z.2⟩), upM_ne a j (fun z => n4 ⟨z.1, Or.inr z.2⟩), upM_ne a j n3, upM_ne a j n2, upM_ne a j n1]
      · simp (disch := omega) only [up_na, upM_eq]
      · simp (disch := omega) only [up_na, upM_eq]
      · simp (disch := omega) only [up_na, upM_eq]
      · simp (disch := omega) only [up_na, up_ni, upM_eq]
      · simp (disch := omega) only [up_na, upM_eq]
      · intro z j hj
        rw [aTd_6, aTd_7]
        have hl := hLn z j hj
        by_cases e : j = (S 0 2 % 24).toNat
        · rw [if_pos e, if_pos e, ← e]
          simp (disch := omega) only [up_na, upM_eq]
          rw [hl.1, hl.2]
          exact ⟨rfl, rfl⟩
        · rw [if_neg e, if_neg e]
          simp (disch := omega) only [up_na, up_ni]
          exact hl
  simp only [ew0, ew, ei, Int.toNat_natCast, c2]
  rw [gd_t zb]
  by_cases q2 : S 0 3 < to
  · rw [if_pos q2, Option.bind_some]
    exact step 1 (by rw [if_pos q2])
  · rw [if_neg q2, Option.bind_some]
    exact step (-1) (by rw [if_neg q2])
end MOD3
