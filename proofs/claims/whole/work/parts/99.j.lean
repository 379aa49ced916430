def pkN (B : Nat → Nat) : Nat → Nat
  | 0 => 0
  | i + 1 => pkN B i * 32 + B i
theorem pkN_s (B : Nat → Nat) (i : Nat) : pkN B (i + 1) = pkN B i * 32 + B i := rfl
theorem pkN_cg {B D : Nat → Nat} : ∀ i, (∀ j, j < i → B j = D j) → pkN B i = pkN D i
  | 0, _ => rfl
  | i + 1, h => by rw [pkN_s, pkN_s, pkN_cg i (fun j hj => h j (by omega)), h i (by omega)]
theorem pkN_inj {B D : Nat → Nat} : ∀ i, (∀ j, j < i → B j < 32 ∧ D j < 32) → pkN B i = pkN D i → ∀ j, j < i → B j = D j
  | 0, _, _, j, hj => absurd hj (by omega)
  | i + 1, h, e, j, hj => by
    rw [pkN_s, pkN_s] at e
    have hi := h i (by omega)
    have e1 : pkN B i = pkN D i := by omega
    by_cases q : j = i
    · subst q; omega
    · exact pkN_inj i (fun k hk => h k (by omega)) e1 j (by omega)
theorem pkN_r {B : Nat → Nat} : ∀ i, (∀ j, j < i → B j < 32) → pkN B i < 32 ^ i
  | 0, _ => by show 0 < 1; decide
  | i + 1, h => by
    have h1 := pkN_r i (fun j hj => h j (by omega))
    have h2 := h i (by omega)
    rw [pkN_s, Nat.pow_succ]
    omega
def cutB (B : Nat → Nat) (L : Nat) : Nat → Nat := fun i => if i < L then B i else 0
theorem pkN_cut {B : Nat → Nat} {L : Nat} (hL : L ≤ 6) : pkN (cutB B L) 6 = pkN B L * 2 ^ (5 * (6 - L)) := by
  have e : ∀ i, i ≤ L → pkN (cutB B L) i = pkN B i := fun i hi => pkN_cg i (fun j hj => by unfold cutB; rw [if_pos (by omega)])
  have e0 : ∀ i, L ≤ i → cutB B L i = 0 := fun i hi => by unfold cutB; rw [if_neg (by omega)]
  have hL' : L = 0 ∨ L = 1 ∨ L = 2 ∨ L = 3 ∨ L = 4 ∨ L = 5 ∨ L = 6 := by omega
  rcases hL' with rfl | rfl | rfl | rfl | rfl | rfl | rfl
  · rw [pkN_s, pkN_s, pkN_s, pkN_s, pkN_s, pkN_s, e 0 (by decide), e0 0 (by decide), e0 1 (by decide), e0 2 (by decide), e0 3 (by decide), e0 4 (by decide), e0 5 (by decide)]
    show ((((((pkN B 0 * 32 + 0) * 32 + 0) * 32 + 0) * 32 + 0) * 32 + 0) * 32 + 0) = pkN B 0 * 1073741824
    omega
  · rw [pkN_s, pkN_s, pkN_s, pkN_s, pkN_s, e 1 (by decide), e0 1 (by decide), e0 2 (by decide), e0 3 (by decide), e0 4 (by decide), e0 5 (by decide)]
    show (((((pkN B 1 * 32 + 0) * 32 + 0) * 32 + 0) * 32 + 0) * 32 + 0) = pkN B 1 * 33554432
    omega
  · rw [pkN_s, pkN_s, pkN_s, pkN_s, e 2 (by decide), e0 2 (by decide), e0 3 (by decide), e0 4 (by decide), e0 5 (by decide)]
    show ((((pkN B 2 * 32 + 0) * 32 + 0) * 32 + 0) * 32 + 0) = pkN B 2 * 1048576
    omega
  · rw [pkN_s, pkN_s, pkN_s, e 3 (by decide), e0 3 (by decide), e0 4 (by decide), e0 5 (by decide)]
    show (((pkN B 3 * 32 + 0) * 32 + 0) * 32 + 0) = pkN B 3 * 32768
    omega
  · rw [pkN_s, pkN_s, e 4 (by decide), e0 4 (by decide), e0 5 (by decide)]
    show ((pkN B 4 * 32 + 0) * 32 + 0) = pkN B 4 * 1024
    omega
  · rw [pkN_s, e 5 (by decide), e0 5 (by decide)]
    show pkN B 5 * 32 + 0 = pkN B 5 * 32
    omega
  · rw [e 6 (by decide)]
    show _ = pkN B 6 * 1
    omega
/-- the words of the second system: where each begins, how long it is, its letters -/
def wst (k : Nat) : Nat := [0, 5, 12, 16, 20, 25, 31, 35, 40, 45, 51, 55, 58, 62, 67, 73, 78, 83, 87, 92, 97].getD k 97
def wln (k : Nat) : Nat := [4, 6, 3, 3, 4, 5, 3, 4, 4, 5, 3, 2, 3, 4, 5, 4, 4, 3, 4, 4].getD k 0
def wtb (j : Nat) : Nat := [114, 111, 111, 109, 32, 112, 101, 114, 115, 111, 110, 32, 115, 117, 110, 32, 111, 117, 116, 32, 107, 110, 111, 98, 32, 112, 114, 105, 99, 101, 32, 108, 97, 119, 32, 108, 111, 115, 101, 32, 116, 117, 114, 110, 32, 99, 114, 111, 115, 115, 32, 97, 110, 100, 32, 111, 114, 32, 110, 111, 116, 32, 119, 97, 114, 109, 32, 111, 117, 116, 101, 114, 32, 102, 101, 108, 116, 32, 119, 105, 115, 104, 32, 115, 101, 116, 32, 108, 101, 97, 107, 32, 104, 111, 117, 114, 32].getD j 0
def wsw (k : Nat) : Nat := if k = 10 then 11 else if k = 11 then 10 else k
theorem wt_1 : ∀ k, k < 20 → wst (k + 1) = wst k + wln k + 1 ∧ wst k + wln k < 97 ∧ wln k ≤ 6 ∧ wtb (wst k + wln k) = 32 := by decide
theorem wt_2 : ∀ k, k < 20 → ∀ i, i < 6 → i < wln k → 97 ≤ wtb (wst k + i) ∧ wtb (wst k + i) ≤ 122 := by decide
theorem wt_3 : ∀ k, k < 20 → (pkN (cutB (fun i => wtb (wst k + i) - 96) (wln k)) 6 : Int) = WC (wsw k) := by decide +kernel
theorem wt_4 : ∀ i, i < 20 → ∀ j, j < 20 → WC i = WC j → i = j := by decide +kernel
theorem wt_5 : ∀ k, k < 20 → wsw k < 20 ∧ wsw (wsw k) = k := by decide
theorem wt_6 {N : MM} {M : MM} (h : WDR M N) : ∀ j, j < 97 → N 90 j = (wtb j : Int) := fun j hj => by
  rw [h.2 j hj]
  have : ∀ j, j < 97 → ([114, 111, 111, 109, 32, 112, 101, 114, 115, 111, 110, 32, 115, 117, 110, 32, 111, 117, 116, 32, 107, 110, 111, 98, 32, 112, 114, 105, 99, 101, 32, 108, 97, 119, 32, 108, 111, 115, 101, 32, 116, 117, 114, 110, 32, 99, 114, 111, 115, 115, 32, 97, 110, 100, 32, 111, 114, 32, 110, 111, 116, 32, 119, 97, 114, 109, 32, 111, 117, 116, 101, 114, 32, 102, 101, 108, 116, 32, 119, 105, 115, 104, 32, 115, 101, 116, 32, 108, 101, 97, 107, 32, 104, 111, 117, 114, 32] : List Int).getD j 0 = (wtb j : Int) := by decide +kernel
  exact this j hj
section WORD
variable {M N H S B T ST : MM} {n t : Nat}
def Mt (N : MM) (t L k : Nat) : Prop := L = wln k ∧ ∀ i, i < wln k → N 89 (t + i) = (wtb (wst k + i) : Int)
theorem wcn {a b c : Nat} (h : a + b < c) (hc : c ≤ 1000) : w32 ((a : Int) + (b : Int)) = ((a + b : Nat) : Int) ∧ (0 ≤ ((a + b : Nat) : Int) ∧ ((a + b : Nat) : Int) < (c : Int)) := by
  refine ⟨?_, by omega⟩
  rw [w32_i (by omega) (by omega)]
  rfl
theorem m_wlen {k : Nat} (hw : ∀ j, j < 97 → N 90 j = (wtb j : Int)) (hk : k < 20) : lp (X := Int) (Y := Int) (fun x3 =>
gd (0 ≤ w32 ((wst k : Int) + x3) ∧ w32 ((wst k : Int) + x3) < (97 : Int)) <|
if (N 90 (w32 ((wst k : Int) + x3)).toNat) = 32 then
(some (Sum.inr x3))
else
some (Sum.inl (w32 (x3 + 1)))) FU 0 = some (wln k : Int) := by
  obtain ⟨w1, w2, w3, w4⟩ := wt_1 k hk
  obtain ⟨y, e, rfl⟩ := lp_FU (step := (fun x3 : Int => gd (0 ≤ w32 ((wst k : Int) + x3) ∧ w32 ((wst k : Int) + x3) < (97 : Int)) <| if (N 90 (w32 ((wst k : Int) + x3)).toNat) = 32 then (some (Sum.inr x3)) else some (Sum.inl (w32 (x3 + 1))))) (fun x => ∃ i : Nat, i ≤ wln k ∧ x = (i : Int)) (fun x => 7 - x.toNat) (fun y : Int => y = (wln k : Int)) (by
    rintro _ ⟨i, hi, rfl⟩
    have hb : wst k + i < 97 := by omega
    have hm : 7 - ((i : Int) + 1).toNat < 7 - (i : Int).toNat := by omega
    have i7 : i < 1000 := by omega
    obtain ⟨y1, y2⟩ := wcn (a := wst k) (b := i) (c := 97) hb (by decide)
    have y2 : 0 ≤ ((wst k + i : Nat) : Int) ∧ ((wst k + i : Nat) : Int) < 97 := y2
    rw [y1, gd_t y2, Int.toNat_natCast, hw _ hb]
    clear y1
    by_cases q : i = wln k
    · left
      rw [q, w4, if_pos (show ((32 : Nat) : Int) = 32 by decide)]
      exact ⟨_, rfl, rfl⟩
    · right
      have l := wt_2 k hk i (by omega) (by omega)
      rw [if_neg (by omega), wi1 i7]
      exact ⟨_, rfl, ⟨i + 1, by omega, rfl⟩, hm⟩) 0 ⟨0, by omega, rfl⟩ (show 7 - (0 : Int).toNat < 1000000 by decide)
  exact e
theorem m_wsame {k L : Nat} (hw : ∀ j, j < 97 → N 90 j = (wtb j : Int)) (hk : k < 20) (hb : t + L ≤ 700) : ∃ r, (lp (X := Int × Int) (Y := Int) (fun x9 =>
if x9.2 < (wln k : Int) then
(if x9.1 = 0 then
(some (Sum.inr x9.1))
else
gd (0 ≤ w32 ((wst k : Int) + x9.2) ∧ w32 ((wst k : Int) + x9.2) < (97 : Int)) <|
gd (0 ≤ w32 ((t : Int) + x9.2) ∧ w32 ((t : Int) + x9.2) < (700 : Int)) <|
((if (N 90 (w32 ((wst k : Int) + x9.2)).toNat) = (N 89 (w32 ((t : Int) + x9.2)).toNat) then
(some 1)
else
some 0) : Option (Int)).bind fun x15 =>
some (Sum.inl (x15, w32 (x9.2 + 1))))
else
some (Sum.inr x9.1)) FU ((if (wln k : Int) = (L : Int) then 1 else 0), 0)) = some r ∧ ((r = 1 ∧ Mt N t L k) ∨ (r = 0 ∧ ¬ Mt N t L k)) := by
  obtain ⟨w1, w2, w3, w4⟩ := wt_1 k hk
  refine lp_FU (fun x => ∃ i : Nat, i ≤ wln k ∧ x.2 = (i : Int) ∧ ((x.1 = 1 ∧ L = wln k ∧ ∀ j, j < i → N 89 (t + j) = (wtb (wst k + j) : Int)) ∨ (x.1 = 0 ∧ ¬ Mt N t L k))) (fun x => 7 - x.2.toNat) _ ?_ _ ⟨0, by omega, rfl, ?_⟩ (show 7 - (0 : Int).toNat < 1000000 by decide)
  · rintro ⟨f, _⟩ ⟨i, hi, e, hf⟩
    dsimp only at e hf
    subst e
    try dsimp +instances only
    by_cases q : i < wln k
    · rw [if_pos (show (i : Int) < (wln k : Int) by omega)]
      rcases hf with ⟨f1, f2, f3⟩ | ⟨f1, f2⟩
      · right
        have hm : 7 - ((i : Int) + 1).toNat < 7 - (i : Int).toNat := by omega
        have i7 : i < 1000 := by omega
        have q1 : i + 1 ≤ wln k := q
        obtain ⟨y1, y2⟩ := wcn (a := wst k) (b := i) (c := 97) (by omega) (by decide)
        obtain ⟨y3, y4⟩ := wcn (a := t) (b := i) (c := 700) (by clear y1; omega) (by decide)
        have y2 : 0 ≤ ((wst k + i : Nat) : Int) ∧ ((wst k + i : Nat) : Int) < 97 := y2
        have y4 : 0 ≤ ((t + i : Nat) : Int) ∧ ((t + i : Nat) : Int) < 700 := y4
        rw [if_neg (show ¬ f = 0 by rw [f1]; decide), y1, gd_t y2, y3, gd_t y4, Int.toNat_natCast, Int.toNat_natCast, hw _ (by clear y1 y3; omega), iteo, Option.bind_some, wi1 i7]
        clear y1 y3
        refine ⟨_, rfl, ⟨i + 1, q1, rfl, ?_⟩, hm⟩
        dsimp only
        by_cases c : (wtb (wst k + i) : Int) = N 89 (t + i)
        · left
          refine ⟨if_pos c, f2, fun j hj => ?_⟩
          by_cases ej : j = i
          · rw [ej]; exact c.symm
          · exact f3 j (by omega)
        · right
          exact ⟨if_neg c, fun z => c (z.2 i q).symm⟩
      · left
        rw [if_pos f1, f1]
        exact ⟨_, rfl, Or.inr ⟨rfl, f2⟩⟩
    · left
      rw [if_neg (show ¬ (i : Int) < (wln k : Int) by omega)]
      have e : i = wln k := by omega
      subst e
      rcases hf with ⟨f1, f2, f3⟩ | f
      · exact ⟨_, rfl, Or.inl ⟨f1, f2, f3⟩⟩
      · exact ⟨_, rfl, Or.inr f⟩
  · dsimp only
    by_cases q : (wln k : Int) = (L : Int)
    · left
      exact ⟨if_pos q, by omega, fun j hj => absurd hj (by omega)⟩
    · right
      exact ⟨if_neg q, fun z => q (by rw [z.1])⟩
theorem m_wordAt {L : Nat} (hw : ∀ j, j < 97 → N 90 j = (wtb j : Int)) (hb : t + L ≤ 700) : ∃ r, f_X12_wordAt N (t : Int) ((t + L : Nat) : Int) = some r ∧ ((r = -1 ∧ ∀ k, k < 20 → ¬ Mt N t L k) ∨ ∃ k : Nat, k < 20 ∧ r = (k : Int) ∧ Mt N t L k) := by
  have wL : w32 (((t + L : Nat) : Int) - (t : Int)) = (L : Int) := by
    have e : ((t + L : Nat) : Int) - (t : Int) = (L : Int) := by omega
    rw [e]
    exact w32_i (by omega) (by omega)
  unfold f_X12_wordAt
  rw [wL]
  clear wL
  refine lp_FU (fun x => ∃ k : Nat, k ≤ 20 ∧ x.1 = (k : Int) ∧ x.2 = (wst k : Int) ∧ ∀ i, i < k → ¬ Mt N t L i) (fun x => 21 - x.1.toNat) _ ?_ (0, 0) ⟨0, by decide, rfl, rfl, fun i hi => absurd hi (by omega)⟩ (show 21 - (0 : Int).toNat < 1000000 by decide)
  rintro ⟨_, _⟩ ⟨k, k1, e1, e2, k2⟩
  dsimp only at e1 e2
  subst e1 e2
  try dsimp +instances only
  by_cases q : k < 20
  · obtain ⟨w1, w2, w3, w4⟩ := wt_1 k q
    have hm : 21 - ((k : Int) + 1).toNat < 21 - (k : Int).toNat := by omega
    have q20 : k + 1 ≤ 20 := q
    have kk : k < 1000 := by omega
    have n1 : w32 ((wln k : Int) + 1) = ((wln k + 1 : Nat) : Int) := wi7 (by omega)
    have n2 := (wcn (a := wst k) (b := wln k + 1) (c := 1000) (by clear n1; omega) (by decide)).1
    obtain ⟨r, e, hr⟩ := m_wsame hw q hb
    rw [if_pos (show (wst k : Int) < 97 by clear n1 n2; omega), m_wlen hw q, Option.bind_some, iteo, Option.bind_some, e, Option.bind_some, bI_eq, n1, n2, wi1 kk, show wst k + (wln k + 1) = wst (k + 1) by clear n1 n2; omega]
    clear n1 n2
    rcases hr with ⟨r1, r2⟩ | ⟨r1, r2⟩
    · left
      rw [if_neg (show ¬ r = 0 by rw [r1]; decide)]
      exact ⟨_, rfl, Or.inr ⟨k, q, rfl, r2⟩⟩
    · right
      rw [if_pos r1]
      refine ⟨_, rfl, ⟨k + 1, q20, rfl, rfl, fun i hi => ?_⟩, hm⟩
      by_cases e : i = k
      · rw [e]; exact r2
      · exact k2 i (by omega)
  · left
    have e : k = 20 := by omega
    subst e
    rw [if_neg (by decide)]
    exact ⟨_, rfl, Or.inl ⟨rfl, k2⟩⟩
end WORD
