/-- what a call that only asks may change: of the class, of the second system -/
def FrX (h : Nat) (M' M : MM) : Prop := ∀ a, a < 88 → (a < 70 ∨ 77 < a) → a ≠ 83 → a ≠ h + 17 → a ≠ h + 18 → M' a = M a
def FQX (N' N : MM) : Prop := ∀ a j, 88 ≤ a → a < 139 → ¬ QS a j → N' a j = N a j
theorem FrX.rf {h : Nat} {M : MM} : FrX h M M := fun _ _ _ _ _ _ => rfl
theorem FQX.rf {N : MM} : FQX N N := fun _ _ _ _ _ => rfl
theorem FrX.tr {h : Nat} {M1 M2 M3 : MM} (h1 : FrX h M1 M2) (h2 : FrX h M2 M3) : FrX h M1 M3 := fun a x y z w v => (h1 a x y z w v).trans (h2 a x y z w v)
theorem FQX.tr {N1 N2 N3 : MM} (h1 : FQX N1 N2) (h2 : FQX N2 N3) : FQX N1 N3 := fun a j x y z => (h1 a j x y z).trans (h2 a j x y z)
theorem Fr3.x {h : Nat} {M' M : MM} (f : Fr3 h 70 M' M) : FrX h M' M := fun a _ y _ z w => f a (by omega) z w
theorem FQ.x {N' N : MM} (f : FQ N' N) : FQX N' N := fun a j _ _ z => f a j z
section RXS
variable {M N H S B ST : MM} {LV : LVT} {h : Nat}
theorem BA.cg {M' N' : MM} (g : BA M N h H LV S) (f : FrX h M' M) (f' : FQX N' N) : BA M' N' h H LV S := by
  obtain ⟨⟨a1, a2, a3, a4, a5⟩, ⟨b1, b2, b3⟩, c, d⟩ := g
  have h5 := c.1.1.2
  refine ⟨⟨a1, ?_, ?_, ?_, ?_⟩, ⟨?_, ?_, ?_⟩, c, d⟩
  · rw [f 0 (by decide) (by decide) (by decide) (by omega) (by omega)]; exact a2
  · intro k k1 k2 k3
    rw [f (h + k) (by omega) (by omega) (by omega) (by omega) (by omega)]
    exact a3 k k1 k2 k3
  · intro m hm w hw hn
    exact a4 m (fun k x y => by rw [hm k x y, f (h + k) (by omega) (by omega) (by omega) (by omega) (by omega)]) w hw hn
  · intro k hk
    rw [f (54 + k) (by omega) (by omega) (by omega) (by omega) (by omega)]
    exact a5 k hk
  · have fa : ∀ a j, 92 ≤ a → a ≤ 105 → N' a j = N a j := fun a j h1 h2 => f' a j (by omega) (by omega) (by unfold QS MS; omega)
    have f8 : ∀ j, 12 ≤ j → j ≤ 16 → N' 88 j = N 88 j := fun j h1 h2 => f' 88 j (by omega) (by omega) (by unfold QS MS; omega)
    unfold HM at *
    simp (disch := decide) only [fa, f8]
    exact b1
  · intro n hn w hw ok
    have e : ∀ a, 106 ≤ a → a ≤ 111 → N' a = N a := fun a x y => funext fun j => f' a j (by omega) (by omega) (by unfold QS MS; omega)
    have := b2 n (fun a j x => (hn a j x).trans (congrFun (e a (by omega) (by omega)) j)) w hw ok
    rw [e 106 (by omega) (by omega)]
    exact this
  · have fa : ∀ a j, 116 ≤ a → a ≤ 120 → a ≠ 117 → j < 5 → N' a j = N a j := fun a j h1 h2 h3 h4 => f' a j (by omega) (by omega) (by unfold QS MS; omega)
    have f7 : ∀ j, j < 30 → N' 117 j = N 117 j := fun j h1 => f' 117 j (by omega) (by omega) (by unfold QS MS; omega)
    have fb : ∀ a, 121 ≤ a → a ≤ 127 → N' a 0 = N a 0 := fun a h1 h2 => f' a 0 (by omega) (by omega) (by unfold QS MS; omega)
    have fl : ∀ j, N' 128 j = N 128 j ∧ N' 129 j = N 129 j := fun j => ⟨f' 128 j (by omega) (by omega) (by unfold QS MS; omega), f' 129 j (by omega) (by omega) (by unfold QS MS; omega)⟩
    obtain ⟨g1, g2, g3, g4⟩ := b3
    refine ⟨?_, ?_, ?_, ?_⟩
    · simp (disch := decide) only [fb]; exact g1
    · intro p hp
      rw [fa 120 p (by decide) (by decide) (by decide) hp, fa 119 p (by decide) (by decide) (by decide) hp, fa 118 p (by decide) (by decide) (by decide) hp]
      exact g2 p hp
    · intro r hr
      rw [fa 116 r (by decide) (by decide) (by decide) (by omega)]
      refine ⟨(g3 r hr).1, fun k hk => ?_⟩
      rw [f7 _ (by omega)]
      exact (g3 r hr).2 k hk
    · intro j hj
      rw [(fl j).1, (fl j).2]
      exact g4 j hj
/-- the tape -/
def TPR (M N : MM) : Prop := (M 0 1 = N 88 1 ∧ 0 ≤ M 0 1 ∧ M 0 1 ≤ 700) ∧ ∀ j : Nat, j < 700 → -128 ≤ M 1 j ∧ M 1 j ≤ 127 ∧ N 89 j = M 1 j % 256
/-- the knob's wear -/
def LGR (M N : MM) : Prop := (M 78 0 = N 88 80 ∧ 0 ≤ M 78 0 ∧ M 78 0 ≤ 24) ∧ (M 78 1 = N 88 81 ∧ -1 ≤ M 78 1 ∧ M 78 1 ≤ M 78 0) ∧ ∀ k : Nat, (k : Int) < M 78 0 → (M 82 k = -1 ∧ (N 131 (3 * k) = M 79 k ∧ N 131 (3 * k + 1) = M 80 k ∧ N 131 (3 * k + 2) = M 81 k) ∧ (1 ≤ M 79 k ∧ M 79 k ≤ 60) ∧ (M 81 k = 0 ∨ M 81 k = 1)) ∨ ((0 ≤ M 82 k ∧ M 82 k < k) ∧ N 131 (3 * k) = -1 ∧ N 131 (3 * k + 1) = M 82 k)
/-- what may be undone, as it is now -/
def snp (S : MM) (j : Nat) : Int := if j = 0 then S 0 3 else if j = 1 then S 0 4 else if j = 2 then S 0 5 else S 2 (j - 3)
def rowU (N S : MM) (n : Int) (k j : Nat) : Int := if (k : Int) < n then N 133 (8 * k + j) else snp S j
def RowOK (H : MM) (r : Nat → Int) : Prop := (5 ≤ r 0 ∧ r 0 ≤ 30) ∧ (0 ≤ r 1 ∧ r 1 < 5 ∧ (r 1 < H 1 0 ∨ r 1 = 0)) ∧ ∀ j : Nat, 2 ≤ j → j < 8 → r j = 0 ∨ r j = 1
def PAR (M N H S : MM) : Prop := (M 84 0 = N 88 85 ∧ 0 ≤ M 84 0 ∧ M 84 0 ≤ 20) ∧ ∀ k : Nat, (k : Int) < M 84 0 → RowOK H (rowU N S (M 84 0) k) ∧ ∃ i : Nat, ((M 85 k = 0 ∧ i = 0) ∨ (M 85 k = 1 ∧ i = 1) ∨ (M 85 k = 2 ∧ i = 2) ∨ (M 85 k = 3 ∧ (0 ≤ M 86 k ∧ M 86 k < 5) ∧ i = 3 + (M 86 k).toNat)) ∧ M 87 k = rowU N S (M 84 0) k i ∧ ∀ j : Nat, j < 8 → j ≠ i → rowU N S (M 84 0) k j = rowU N S (M 84 0) (k + 1) j
/-- the image -/
def IMG (N H J : MM) : Prop := (∀ j : Nat, j < 8 → N 134 j = snp J j) ∧ (∀ r : Nat, (r : Int) < H 1 0 → N 135 r = J 3 r ∧ ∀ k : Nat, k < 6 → N 135 (5 + (6 * r + k)) = J 3 (5 * k + r)) ∧ (∀ p : Nat, p < 5 → N 136 p = J 4 p ∧ N 136 (5 + p) = J 5 p) ∧ (∀ j : Nat, j < 24 → N 137 j = J 6 j ∧ N 137 (24 + j) = J 7 j) ∧ (N 138 0 = J 0 13 ∧ N 138 1 = J 0 14 ∧ N 138 2 = J 0 15 ∧ N 138 3 = J 0 2)
def IMR (M N : MM) (h : Nat) (H : MM) : Prop := (M 0 7 = N 88 87 ∧ (M 0 7 = 0 ∨ M 0 7 = 1)) ∧ M 63 7 = -1 ∧ (M 0 7 = 1 → ∃ J, CC M 62 J ∧ IMG N H J ∧ SOK H J ∧ SP J ∧ J 0 1 = (h : Int) ∧ J 0 2 ≤ 9900)
/-- the words -/
def WC (j : Nat) : Int := [620213248, 542723566, 660013056, 525991936, 384272384, 556043424, 404455424, 419009536, 693712896, 120049248, 522190848, 48365568, 486146048, 773403648, 525997632, 206983168, 781819904, 643432448, 407940096, 284870656].getD j 0
def WDR (M N : MM) : Prop := (∀ j : Nat, j < 20 → M 4 j = WC j) ∧ ∀ j : Nat, j < 97 → N 90 j = [114, 111, 111, 109, 32, 112, 101, 114, 115, 111, 110, 32, 115, 117, 110, 32, 111, 117, 116, 32, 107, 110, 111, 98, 32, 112, 114, 105, 99, 101, 32, 108, 97, 119, 32, 108, 111, 115, 101, 32, 116, 117, 114, 110, 32, 99, 114, 111, 115, 115, 32, 97, 110, 100, 32, 111, 114, 32, 110, 111, 116, 32, 119, 97, 114, 109, 32, 111, 117, 116, 101, 114, 32, 102, 101, 108, 116, 32, 119, 105, 115, 104, 32, 115, 101, 116, 32, 108, 101, 97, 107, 32, 104, 111, 117, 114, 32].getD j 0
def RX (M N : MM) (h : Nat) (H S : MM) : Prop := TPR M N ∧ (M 0 11 = N 88 4 ∧ M 0 12 = N 88 5) ∧ LGR M N ∧ PAR M N H S ∧ IMR M N h H ∧ WDR M N ∧ M 0 4 = 39 - (h : Int) ∧ ∀ r : Nat, r < 5 → (0 ≤ M 11 r ∧ M 11 r ≤ 600) ∧ (0 ≤ M 34 r ∧ M 34 r ≤ 600)
theorem RX.cg {M' N' : MM} (hh : h = 8 ∨ h = 31) (x : RX M N h H S) (f : FrX h M' M) (f' : FQX N' N) : RX M' N' h H S := by
  have c0 : M' 0 = M 0 := f 0 (by decide) (by decide) (by decide) (by omega) (by omega)
  have c1 : M' 1 = M 1 := f 1 (by decide) (by decide) (by decide) (by omega) (by omega)
  have c4 : M' 4 = M 4 := f 4 (by decide) (by decide) (by decide) (by omega) (by omega)
  have c6 : ∀ k, k < 8 → M' (62 + k) = M (62 + k) := fun k hk => f (62 + k) (by omega) (by omega) (by omega) (by omega) (by omega)
  have c63 : M' 63 = M 63 := c6 1 (by decide)
  have c78 : M' 78 = M 78 := f 78 (by decide) (by decide) (by decide) (by omega) (by omega)
  have c79 : M' 79 = M 79 := f 79 (by decide) (by decide) (by decide) (by omega) (by omega)
  have c80 : M' 80 = M 80 := f 80 (by decide) (by decide) (by decide) (by omega) (by omega)
  have c81 : M' 81 = M 81 := f 81 (by decide) (by decide) (by decide) (by omega) (by omega)
  have c82 : M' 82 = M 82 := f 82 (by decide) (by decide) (by decide) (by omega) (by omega)
  have c84 : M' 84 = M 84 := f 84 (by decide) (by decide) (by decide) (by omega) (by omega)
  have c85 : M' 85 = M 85 := f 85 (by decide) (by decide) (by decide) (by omega) (by omega)
  have c86 : M' 86 = M 86 := f 86 (by decide) (by decide) (by decide) (by omega) (by omega)
  have c87 : M' 87 = M 87 := f 87 (by decide) (by decide) (by decide) (by omega) (by omega)
  have n8 : ∀ j, j = 1 ∨ j = 4 ∨ j = 5 ∨ j = 80 ∨ j = 81 ∨ j = 85 ∨ j = 87 → N' 88 j = N 88 j := fun j hj => f' 88 j (by omega) (by omega) (by unfold QS MS; omega)
  have na : ∀ a j, a = 89 ∨ a = 90 ∨ a = 131 ∨ a = 133 ∨ a = 134 ∨ a = 135 ∨ a = 136 ∨ a = 137 ∨ a = 138 → N' a j = N a j := fun a j ha => f' a j (by omega) (by omega) (by unfold QS MS; omega)
  obtain ⟨x1, x2, x3, x4, ⟨x5, x6, x7⟩, x8, x9⟩ := x
  refine ⟨?_, ?_, ?_, ?_, ⟨?_, ?_, ?_⟩, ?_, ?_⟩
  · unfold TPR at *
    simp (disch := decide) only [c0, c1, n8, na]
    exact x1
  · simp (disch := decide) only [c0, n8]
    exact x2
  · unfold LGR at *
    simp (disch := decide) only [c78, c79, c80, c81, c82, n8, na]
    exact x3
  · unfold PAR rowU at *
    simp (disch := decide) only [c84, c85, c86, c87, n8, na]
    exact x4
  · simp (disch := decide) only [c0, n8]
    exact x5
  · rw [c63]; exact x6
  · rw [c0]
    intro z
    obtain ⟨J, j1, j2, j3⟩ := x7 z
    refine ⟨J, fun k hk => by rw [c6 k hk]; exact j1 k hk, ?_, j3⟩
    unfold IMG at *
    simp (disch := decide) only [na]
    exact j2
  · unfold WDR at *
    simp (disch := decide) only [c4, na]
    exact x8
  · rw [c0, f 11 (by decide) (by decide) (by decide) (by omega) (by omega), f 34 (by decide) (by decide) (by decide) (by omega) (by omega)]; exact x9
/-- all that the two systems have in common -/
def AL (X : MM) : Prop := ∃ h H LV S, BA X X h H LV S ∧ RX X X h H S
/-- both answer alike, and are alike again -/
def AN (o1 : Option (Int × MM)) (o2 : MM → Option (Int × MM)) : Prop := ∃ r M1 M2, o1 = some (r, M1) ∧ o2 M1 = some (r, M2) ∧ AL M2
def AR (X : MM) (o1 : Option Int) (o2 : MM → Option (Int × MM)) : Prop := ∃ r M2, o1 = some r ∧ o2 X = some (r, M2) ∧ AL M2
/-- a call that only asks -/
theorem lift_q {X : MM} {o1 : Option (Int × MM)} {o2 : MM → Option (Int × MM)} (hX : AL X) (hq : ∀ (h : Nat) (H : MM) (LV : LVT) (S N : MM), BA X N h H LV S → RX X N h H S → ∃ r M' N', o1 = some (r, M') ∧ o2 N = some (r, N') ∧ (FrX h M' X ∧ ∀ a, 88 ≤ a → M' a = X a) ∧ FQ N' N) : AN o1 o2 := by
  obtain ⟨h, H, LV, S, g, x⟩ := hX
  obtain ⟨r, M1, _, e1, _, ⟨f1, f1b⟩, _⟩ := hq h H LV S X g x
  have fx : FQX M1 X := fun a j ha _ _ => by rw [f1b a ha]
  have g1 := g.cg FrX.rf fx
  have x1 := x.cg g.1.1 FrX.rf fx
  obtain ⟨r', M1', M2, e1', e2, _, f2⟩ := hq h H LV S M1 g1 x1
  rw [e1] at e1'
  cases e1'
  have fa : FrX h M2 X := fun a h1 h2 h3 h4 h5 => by
    rw [show M2 a = M1 a from funext fun j => f2 a j (by unfold QS MS; omega)]
    exact f1 a h1 h2 h3 h4 h5
  have fb : FQX M2 X := fun a j h1 h2 h3 => by rw [f2 a j h3, f1b a h1]
  exact ⟨r, M1, M2, e1, e2, h, H, LV, S, g.cg fa fb, x.cg g.1.1 fa fb⟩
theorem lift_PQ {X : MM} {o1 : Option (Int × MM)} {o2 : MM → Option (Int × MM)} (hX : AL X) (hq : ∀ (h : Nat) (H : MM) (LV : LVT) (S N : MM), BA X N h H LV S → PQ X N h o1 (o2 N)) : AN o1 o2 := by
  refine lift_q hX fun h H LV S N g x => ?_
  obtain ⟨r, M', N', e1, e2, f1, f2⟩ := hq h H LV S N g
  have hh := g.1.1
  exact ⟨r, M', N', e1, e2, ⟨f1.x, fun a ha => f1 a (by omega) (by omega) (by omega)⟩, f2⟩
theorem lift_PR {X : MM} {o1 : Option Int} {o2 : MM → Option (Int × MM)} (hX : AL X) (hq : ∀ (h : Nat) (H : MM) (LV : LVT) (S : MM), BA X X h H LV S → RX X X h H S → PR X o1 (o2 X)) : AR X o1 o2 := by
  obtain ⟨h, H, LV, S, g, x⟩ := hX
  obtain ⟨r, M2, e1, e2, f2⟩ := hq h H LV S g x
  have hh := g.1.1
  have fa : FrX h M2 X := fun a h1 h2 h3 h4 h5 => funext fun j => f2 a j (by unfold QS MS; omega)
  exact ⟨r, M2, e1, e2, h, H, LV, S, g.cg fa f2.x, x.cg hh fa f2.x⟩
end RXS
