theorem lp_s {X Y : Type} {g : X → Option (X ⊕ Y)} {x z : X} (n : Nat) (e : g x = some (.inl z)) : lp g (n + 1) x = lp g n z := by rw [lp, e]; rfl
theorem lp_e {X Y : Type} {g : X → Option (X ⊕ Y)} {x : X} {y : Y} (n : Nat) (e : g x = some (.inr y)) : lp g (n + 1) x = some y := by rw [lp, e]; rfl
theorem b1_cg {c d : Prop} [Decidable c] [Decidable d] (h : c ↔ d) : b1 c = b1 d := by
  unfold b1
  by_cases q : c
  · rw [if_pos q, if_pos (h.mp q)]
  · rw [if_neg q, if_neg (fun z => q (h.mpr z))]
abbrev bst (a w b v : Int) : Prop := ¬ lo a 0 b v < lo a w b v ∧ ¬ lo a 1 b v < lo a w b v ∧ ¬ lo a 2 b v < lo a w b v
abbrev ccc (A B a b j : Int) : Prop := ¬ lo A j B b < lo A a B b ∧ ¬ lo B j A a < lo B b A a
def cnP (P : Nat → Prop) [DecidablePred P] : Nat → Int
  | 0 => 0
  | n + 1 => cnP P n + (if P n then 1 else 0)
section RESTS
theorem cnP_s {P : Nat → Prop} [DecidablePred P] (n : Nat) : cnP P (n + 1) = cnP P n + (if P n then 1 else 0) := rfl
theorem cnP_0 {P : Nat → Prop} [DecidablePred P] : ∀ n, 0 ≤ cnP P n ∧ cnP P n ≤ n
  | 0 => ⟨Int.le_refl _, Int.le_refl _⟩
  | n + 1 => by
    have := cnP_0 (P := P) n
    rw [cnP_s]
    split <;> omega
theorem cnP_lt {P : Nat → Prop} [DecidablePred P] {w : Nat} (h : P w) : ∀ n, w < n → cnP P w < cnP P n
  | 0, hn => absurd hn (by omega)
  | n + 1, hn => by
    rw [cnP_s]
    by_cases e : w = n
    · subst e; rw [if_pos h]; omega
    · have := cnP_lt (P := P) h n (by omega)
      split <;> omega
theorem cnP_iv {P : Nat → Prop} [DecidablePred P] {k : Int} (h0 : 0 ≤ k) : ∀ n, k < cnP P n → ∃ w, w < n ∧ P w ∧ cnP P w = k
  | 0, h => absurd h (by show ¬ k < 0; omega)
  | n + 1, h => by
    rw [cnP_s] at h
    by_cases q : P n
    · rw [if_pos q] at h
      by_cases e : cnP P n = k
      · exact ⟨n, by omega, q, e⟩
      · obtain ⟨w, h1, h2⟩ := cnP_iv (P := P) h0 n (by omega)
        exact ⟨w, by omega, h2⟩
    · rw [if_neg q] at h
      obtain ⟨w, h1, h2⟩ := cnP_iv (P := P) h0 n (by omega)
      exact ⟨w, by omega, h2⟩
def RA (P : Nat → Prop) [DecidablePred P] (k r : Int) : Prop := (∃ w : Nat, w < 9 ∧ P w ∧ cnP P w = k ∧ r = 10 * ((w : Int) / 3) + (w : Int) % 3) ∨ ((∀ w : Nat, w < 9 → P w → cnP P w ≠ k) ∧ r = -2)
theorem RA_u {P : Nat → Prop} [DecidablePred P] {k r r' : Int} (h : RA P k r) (h' : RA P k r') : r = r' := by
  rcases h with ⟨w, h1, h2, h3, h4⟩ | ⟨h1, h2⟩
  · rcases h' with ⟨v, g1, g2, g3, g4⟩ | ⟨g1, g2⟩
    · have : w = v := by
        by_cases q : w < v
        · have := cnP_lt h2 v q; omega
        · by_cases q2 : v < w
          · have := cnP_lt g2 w q2; omega
          · omega
      subst this
      rw [h4, g4]
    · exact absurd h3 (g1 w h1 h2)
  · rcases h' with ⟨v, g1, g2, g3, g4⟩ | ⟨g1, g2⟩
    · exact absurd g3 (h1 v g1 g2)
    · rw [h2, g2]
end RESTS
section QUES5
variable {M N H S B ST : MM} {LV : LVT} {h : Nat}
theorem pu_best {a w b v : Int} (ha : 0 ≤ a ∧ a ≤ 40) (hb : 0 ≤ b ∧ b ≤ 40) : f_X11_isBestSaying M a w b v = some (b1 (bst a w b v)) := by
  unfold f_X11_isBestSaying
  rw [pu_lossBySaying M ha hb, Option.bind_some]
  have st : ∀ k : Int, (k = 0 ∨ k = 1 ∨ k = 2) → (if k < 3 then ((f_X11_lossBySaying M a k b v).bind fun x4 => if x4 < lo a w b v then (some (Sum.inr 0)) else some (Sum.inl (w32 (k + 1)))) else some (Sum.inr 1) : Option (Int ⊕ Int)) = if lo a k b v < lo a w b v then some (Sum.inr 0) else some (Sum.inl (k + 1)) := by
    intro k hk
    have wk : -2147483648 ≤ k + 1 ∧ k + 1 ≤ 2147483647 := by omega
    rw [if_pos (by omega), pu_lossBySaying M ha hb, Option.bind_some, w32_i wk.1 wk.2]
  show lp _ (999996 + 1 + 1 + 1 + 1) _ = _
  unfold b1
  by_cases q0 : lo a 0 b v < lo a w b v
  · rw [lp_e (y := 0) _ (by (try dsimp +instances only); rw [st 0 (by decide), if_pos q0]), if_neg (fun z => z.1 q0)]
  · rw [lp_s (z := 1) _ (by (try dsimp +instances only); rw [st 0 (by decide), if_neg q0]; rfl)]
    by_cases q1 : lo a 1 b v < lo a w b v
    · rw [lp_e (y := 0) _ (by (try dsimp +instances only); rw [st 1 (by decide), if_pos q1]), if_neg (fun z => z.2.1 q1)]
    · rw [lp_s (z := 2) _ (by (try dsimp +instances only); rw [st 1 (by decide), if_neg q1]; rfl)]
      by_cases q2 : lo a 2 b v < lo a w b v
      · rw [lp_e (y := 0) _ (by (try dsimp +instances only); rw [st 2 (by decide), if_pos q2]), if_neg (fun z => z.2.2 q2)]
      · rw [lp_s (z := 3) _ (by (try dsimp +instances only); rw [st 2 (by decide), if_neg q2]; rfl), lp_e (y := 1) _ rfl, if_pos ⟨q0, q1, q2⟩]
abbrev PW (A B : Int) (g : Nat) : Prop := ccc A B ((g : Int) / 3) ((g : Int) % 3) 0 ∧ ccc A B ((g : Int) / 3) ((g : Int) % 3) 1 ∧ ccc A B ((g : Int) / 3) ((g : Int) % 3) 2
theorem w3 {g : Nat} (hg : g < 9) : w32 (Int.tdiv (g : Int) 3) = (g : Int) / 3 ∧ w32 (Int.tmod (g : Int) 3) = (g : Int) % 3 ∧ w32 ((g : Int) + 1) = (g : Int) + 1 ∧ w32 ((w32 (10 * ((g : Int) / 3))) + ((g : Int) % 3)) = 10 * ((g : Int) / 3) + (g : Int) % 3 := by
  refine ⟨?_, ?_, ?_, ?_⟩
  · rw [tdn (by omega)]; exact w32_i (by omega) (by omega)
  · rw [tmn (by omega)]; exact w32_i (by omega) (by omega)
  · exact w32_i (by omega) (by omega)
  · rw [w32_i (x := 10 * ((g : Int) / 3)) (by omega) (by omega)]; exact w32_i (by omega) (by omega)
theorem q_isRest (g : BA M N h H LV S) {p1 p2 : Int} (h1 : 0 ≤ p1 ∧ p1 < H 6 0) (h2 : 0 ≤ p2 ∧ p2 < H 6 0) {k : Nat} (hk : k < 9) : f_X11_isRest M p1 (w32 (Int.tdiv (k : Int) 3)) p2 (w32 (Int.tmod (k : Int) 3)) = some (b1 (PW (H 9 p1.toNat) (H 9 p2.toNat) k)) := by
  obtain ⟨a1, a2, a3, a4, a5⟩ := wants0 g h1
  obtain ⟨c1, c2, c3, c4, c5⟩ := wants0 g h2
  obtain ⟨r1, r2, r3, r4, _⟩ := rooms0 g
  obtain ⟨e1, e2, _⟩ := w3 hk
  unfold f_X11_isRest
  rw [e1, e2, r3, gH_h r4, gd_t a4, bI_eq, gH_h r4, gd_t c4, bI_eq, a1, c1, pu_best a3 c3, Option.bind_some, if_b1]
  by_cases q1 : bst (H 9 p1.toNat) ((k : Int) / 3) (H 9 p2.toNat) ((k : Int) % 3)
  · rw [if_pos q1, pu_best c3 a3, Option.bind_some, if_b1]
    by_cases q2 : bst (H 9 p2.toNat) ((k : Int) % 3) (H 9 p1.toNat) ((k : Int) / 3)
    · rw [if_pos q2]; unfold b1; rw [if_pos ⟨⟨q1.1, q2.1⟩, ⟨q1.2.1, q2.2.1⟩, ⟨q1.2.2, q2.2.2⟩⟩]
    · rw [if_neg q2]; unfold b1; rw [if_neg (fun z => q2 ⟨z.1.2, z.2.1.2, z.2.2.2⟩)]
  · rw [if_neg q1]; unfold b1; rw [if_neg (fun z => q1 ⟨z.1.1, z.2.1.1, z.2.2.1⟩)]
theorem q_restC (g : BA M N h H LV S) {p1 p2 : Int} (h1 : 0 ≤ p1 ∧ p1 < H 6 0) (h2 : 0 ≤ p2 ∧ p2 < H 6 0) (p3 : Int) : ∃ r, f_X11_restAt M p1 p2 p3 = some r ∧ RA (PW (H 9 p1.toNat) (H 9 p2.toNat)) p3 r := by
  unfold f_X11_restAt
  have hkey := lp_FU (step := (fun x1 : Int × Int => if x1.2 < 9 then ((f_X11_isRest M p1 (w32 (Int.tdiv x1.2 3)) p2 (w32 (Int.tmod x1.2 3))).bind fun x3 => if x3 = 0 then (some (Sum.inl (x1.1, w32 (x1.2 + 1)))) else if x1.1 = p3 then (some (Sum.inr (Sum.inl x1.2))) else some (Sum.inl (w32 (x1.1 + 1), w32 (x1.2 + 1)))) else some (Sum.inr (Sum.inr (-2))))) (fun x => ∃ k : Nat, k ≤ 9 ∧ x = (cnP (PW (H 9 p1.toNat) (H 9 p2.toNat)) k, (k : Int)) ∧ ∀ w : Nat, w < k → PW (H 9 p1.toNat) (H 9 p2.toNat) w → cnP (PW (H 9 p1.toNat) (H 9 p2.toNat)) w ≠ p3) (fun x => 10 - x.2.toNat) (fun y : Int ⊕ Int => (∃ w : Nat, w < 9 ∧ PW (H 9 p1.toNat) (H 9 p2.toNat) w ∧ cnP (PW (H 9 p1.toNat) (H 9 p2.toNat)) w = p3 ∧ y = Sum.inl (w : Int)) ∨ ((∀ w : Nat, w < 9 → PW (H 9 p1.toNat) (H 9 p2.toNat) w → cnP (PW (H 9 p1.toNat) (H 9 p2.toNat)) w ≠ p3) ∧ y = Sum.inr (-2))) ?_ (0, 0) ⟨0, by decide, rfl, fun w hw => absurd hw (by omega)⟩ (show 10 - (0 : Int).toNat < 1000000 by decide)
  · obtain ⟨y, e, q⟩ := hkey
    rw [e]
    rcases q with ⟨w, q1, q2, q3, rfl⟩ | ⟨q1, rfl⟩
    · obtain ⟨x1, x2, x3, x4⟩ := w3 q1
      refine ⟨_, ?_, Or.inl ⟨w, q1, q2, q3, rfl⟩⟩
      rw [bS_l, x1, x2, x4]
    · exact ⟨-2, rfl, Or.inr ⟨q1, rfl⟩⟩
  · rintro _ ⟨k, hk, rfl, hw⟩
    try dsimp +instances only
    by_cases q : k < 9
    · obtain ⟨x1, x2, x3, x4⟩ := w3 q
      have cr := cnP_0 (P := PW (H 9 p1.toNat) (H 9 p2.toNat)) k
      have wc : w32 (cnP (PW (H 9 p1.toNat) (H 9 p2.toNat)) k + 1) = cnP (PW (H 9 p1.toNat) (H 9 p2.toNat)) k + 1 := by clear x1 x2 x3 x4; exact w32_i (by omega) (by omega)
      have hm : 10 - ((k : Int) + 1).toNat < 10 - (k : Int).toNat := by clear x1 x2 x3 x4 wc; omega
      have k9 : k + 1 ≤ 9 := q
      rw [if_pos (show (k : Int) < 9 by clear x1 x2 x3 x4 wc; omega), q_isRest g h1 h2 q, Option.bind_some, if_b1, x3, wc]
      by_cases q2 : PW (H 9 p1.toNat) (H 9 p2.toNat) k
      · rw [if_pos q2]
        by_cases q3 : cnP (PW (H 9 p1.toNat) (H 9 p2.toNat)) k = p3
        · left
          rw [if_pos q3]
          exact ⟨_, rfl, Or.inl ⟨k, q, q2, q3, rfl⟩⟩
        · right
          rw [if_neg q3]
          refine ⟨_, rfl, ⟨k + 1, k9, ?_, ?_⟩, hm⟩
          · show _ = (cnP (PW (H 9 p1.toNat) (H 9 p2.toNat)) k + (if PW (H 9 p1.toNat) (H 9 p2.toNat) k then 1 else 0), _)
            rw [if_pos q2]; rfl
          · intro w hw1 hw2
            by_cases e : w = k
            · rw [e]; exact q3
            · exact hw w (by clear x1 x2 x3 x4 wc; omega) hw2
      · right
        rw [if_neg q2]
        refine ⟨_, rfl, ⟨k + 1, k9, ?_, ?_⟩, hm⟩
        · show _ = (cnP (PW (H 9 p1.toNat) (H 9 p2.toNat)) k + (if PW (H 9 p1.toNat) (H 9 p2.toNat) k then 1 else 0), _)
          rw [if_neg q2, Int.add_zero]; rfl
        · intro w hw1 hw2
          by_cases e : w = k
          · subst e; exact absurd hw2 q2
          · exact hw w (by clear x1 x2 x3 x4 wc; omega) hw2
    · left
      have e9 : k = 9 := by omega
      subst e9
      rw [if_neg (by decide)]
      exact ⟨_, rfl, Or.inr ⟨hw, rfl⟩⟩
theorem q_restM (g : BA M N h H LV S) {p1 p2 : Int} (h1 : 0 ≤ p1 ∧ p1 < H 6 0) (h2 : 0 ≤ p2 ∧ p2 < H 6 0) (p3 : Int) : ∃ r, f_X12_restAt N p1 p2 p3 = some r ∧ (p3 = -1 → r = cnP (PW (H 9 p1.toNat) (H 9 p2.toNat)) 9) ∧ (0 ≤ p3 → RA (PW (H 9 p1.toNat) (H 9 p2.toNat)) p3 r) := by
  obtain ⟨a1, a2, a3, a4, a5⟩ := wants0 g h1
  obtain ⟨c1, c2, c3, c4, c5⟩ := wants0 g h2
  have lb1 : ∀ own th, f_X12_lossBy N own th p1 p2 = some (lo (H 9 p1.toNat) own (H 9 p2.toNat) th) := fun own th => by
    rw [pu_lossBy N a5 c5 (by rw [a2]; exact a3) (by rw [c2]; exact c3), a2, c2]
  have lb2 : ∀ own th, f_X12_lossBy N own th p2 p1 = some (lo (H 9 p2.toNat) own (H 9 p1.toNat) th) := fun own th => by
    rw [pu_lossBy N c5 a5 (by rw [c2]; exact c3) (by rw [a2]; exact a3), a2, c2]
  unfold f_X12_restAt
  have inner : ∀ a b : Int, (lp (X := Int × Int) (Y := Int) (fun x5 => if x5.2 < 3 then (((if x5.1 = 0 then (some 0) else (f_X12_lossBy N x5.2 b p1 p2).bind fun x8 => (f_X12_lossBy N a b p1 p2).bind fun x9 => if x8 < x9 then (some 0) else (f_X12_lossBy N x5.2 a p2 p1).bind fun x11 => (f_X12_lossBy N b a p2 p1).bind fun x12 => if x11 < x12 then (some 0) else some 1) : Option (Int)).bind fun x14 => some (Sum.inl (x14, w32 (x5.2 + 1)))) else some (Sum.inr x5.1)) FU (1, 0)) = some (b1 (ccc (H 9 p1.toNat) (H 9 p2.toNat) a b 0 ∧ ccc (H 9 p1.toNat) (H 9 p2.toNat) a b 1 ∧ ccc (H 9 p1.toNat) (H 9 p2.toNat) a b 2)) := by
    intro a b
    have st : ∀ (c : Prop) [Decidable c] (k : Int), (k = 0 ∨ k = 1 ∨ k = 2) → ((if k < 3 then (((if b1 c = 0 then (some 0) else (f_X12_lossBy N k b p1 p2).bind fun x8 => (f_X12_lossBy N a b p1 p2).bind fun x9 => if x8 < x9 then (some 0) else (f_X12_lossBy N k a p2 p1).bind fun x11 => (f_X12_lossBy N b a p2 p1).bind fun x12 => if x11 < x12 then (some 0) else some 1) : Option (Int)).bind fun x14 => some (Sum.inl (x14, w32 (k + 1)))) else some (Sum.inr (b1 c))) : Option ((Int × Int) ⊕ Int)) = some (Sum.inl (b1 (c ∧ ccc (H 9 p1.toNat) (H 9 p2.toNat) a b k), k + 1)) := by
      intro c _ k hk
      have wk : -2147483648 ≤ k + 1 ∧ k + 1 ≤ 2147483647 := by omega
      rw [if_pos (by omega), w32_i wk.1 wk.2, if_b1]
      by_cases q : c
      · rw [if_pos q, lb1, lb1, Option.bind_some, Option.bind_some]
        by_cases q1 : lo (H 9 p1.toNat) k (H 9 p2.toNat) b < lo (H 9 p1.toNat) a (H 9 p2.toNat) b
        · rw [if_pos q1, Option.bind_some]
          unfold b1
          rw [if_neg (fun z => z.2.1 q1)]
        · rw [if_neg q1, lb2, lb2, Option.bind_some, Option.bind_some]
          by_cases q2 : lo (H 9 p2.toNat) k (H 9 p1.toNat) a < lo (H 9 p2.toNat) b (H 9 p1.toNat) a
          · rw [if_pos q2, Option.bind_some]
            unfold b1
            rw [if_neg (fun z => z.2.2 q2)]
          · rw [if_neg q2, Option.bind_some]
            unfold b1
            rw [if_pos ⟨q, q1, q2⟩]
      · rw [if_neg q, Option.bind_some]
        unfold b1
        rw [if_neg (fun z => q z.1)]
    show lp _ (999996 + 1 + 1 + 1 + 1) ((b1 True), 0) = _
    rw [lp_s (z := (_, 1)) _ (st True 0 (by decide)), lp_s (z := (_, 2)) _ (st _ 1 (by decide)), lp_s (z := (_, 3)) _ (st _ 2 (by decide)), lp_e (y := _) _ rfl]
    congr 1
    exact b1_cg ⟨fun z => ⟨z.1.1.2, z.1.2, z.2⟩, fun z => ⟨⟨⟨trivial, z.1⟩, z.2.1⟩, z.2.2⟩⟩
  have hkey := lp_FU (step := (fun x1 : Int × Int => if x1.2 < 9 then (bI (w32 (Int.tdiv x1.2 3)) fun x3 => bI (w32 (Int.tmod x1.2 3)) fun x4 => (lp (X := Int × Int) (Y := Int) (fun x5 => if x5.2 < 3 then (((if x5.1 = 0 then (some 0) else (f_X12_lossBy N x5.2 x4 p1 p2).bind fun x8 => (f_X12_lossBy N x3 x4 p1 p2).bind fun x9 => if x8 < x9 then (some 0) else (f_X12_lossBy N x5.2 x3 p2 p1).bind fun x11 => (f_X12_lossBy N x4 x3 p2 p1).bind fun x12 => if x11 < x12 then (some 0) else some 1) : Option (Int)).bind fun x14 => some (Sum.inl (x14, w32 (x5.2 + 1)))) else some (Sum.inr x5.1)) FU (1, 0)).bind fun x15 => bS ((if x15 = 0 then (some (Sum.inl x1.1)) else if x1.1 = p3 then (some (Sum.inr (w32 ((w32 (10 * x3)) + x4)))) else some (Sum.inl (w32 (x1.1 + 1)))) : Option ((Int) ⊕ (Int))) (fun x18 => some (Sum.inl (x18, w32 (x1.2 + 1)))) (fun r => (Sum.inr (Sum.inr r)))) else some (Sum.inr (Sum.inl x1.1)))) (fun x => ∃ k : Nat, k ≤ 9 ∧ x = (cnP (PW (H 9 p1.toNat) (H 9 p2.toNat)) k, (k : Int)) ∧ ∀ w : Nat, w < k → PW (H 9 p1.toNat) (H 9 p2.toNat) w → cnP (PW (H 9 p1.toNat) (H 9 p2.toNat)) w ≠ p3) (fun x => 10 - x.2.toNat) (fun y : Int ⊕ Int => (∃ w : Nat, w < 9 ∧ PW (H 9 p1.toNat) (H 9 p2.toNat) w ∧ cnP (PW (H 9 p1.toNat) (H 9 p2.toNat)) w = p3 ∧ y = Sum.inr (10 * ((w : Int) / 3) + (w : Int) % 3)) ∨ ((∀ w : Nat, w < 9 → PW (H 9 p1.toNat) (H 9 p2.toNat) w → cnP (PW (H 9 p1.toNat) (H 9 p2.toNat)) w ≠ p3) ∧ y = Sum.inl (cnP (PW (H 9 p1.toNat) (H 9 p2.toNat)) 9))) ?_ (0, 0) ⟨0, by decide, rfl, fun w hw => absurd hw (by omega)⟩ (show 10 - (0 : Int).toNat < 1000000 by decide)
  · obtain ⟨y, e, q⟩ := hkey
    rw [e]
    rcases q with ⟨w, q1, q2, q3, rfl⟩ | ⟨q1, rfl⟩
    · have cr := cnP_0 (P := PW (H 9 p1.toNat) (H 9 p2.toNat)) w
      exact ⟨_, rfl, fun z => absurd z (by omega), fun _ => Or.inl ⟨w, q1, q2, q3, rfl⟩⟩
    · rw [bS_l]
      by_cases q : p3 < 0
      · rw [if_pos q]
        exact ⟨_, rfl, fun _ => rfl, fun z => absurd z (by omega)⟩
      · rw [if_neg q]
        exact ⟨_, rfl, fun z => absurd z (by omega), fun _ => Or.inr ⟨q1, rfl⟩⟩
  · rintro _ ⟨k, hk, rfl, hw⟩
    try dsimp +instances only
    by_cases q : k < 9
    · obtain ⟨x1, x2, x3, x4⟩ := w3 q
      have cr := cnP_0 (P := PW (H 9 p1.toNat) (H 9 p2.toNat)) k
      have wc : w32 (cnP (PW (H 9 p1.toNat) (H 9 p2.toNat)) k + 1) = cnP (PW (H 9 p1.toNat) (H 9 p2.toNat)) k + 1 := by clear x1 x2 x3 x4; exact w32_i (by omega) (by omega)
      have hm : 10 - ((k : Int) + 1).toNat < 10 - (k : Int).toNat := by clear x1 x2 x3 x4 wc; omega
      have k9 : k + 1 ≤ 9 := q
      rw [if_pos (show (k : Int) < 9 by clear x1 x2 x3 x4 wc; omega), bI_eq, bI_eq, x1, x2, inner, Option.bind_some, if_b1, x3, wc, x4]
      by_cases q2 : PW (H 9 p1.toNat) (H 9 p2.toNat) k
      · rw [if_pos q2]
        by_cases q3 : cnP (PW (H 9 p1.toNat) (H 9 p2.toNat)) k = p3
        · left
          rw [if_pos q3]
          exact ⟨_, rfl, Or.inl ⟨k, q, q2, q3, rfl⟩⟩
        · right
          rw [if_neg q3, bS_l]
          refine ⟨_, rfl, ⟨k + 1, k9, ?_, ?_⟩, hm⟩
          · show _ = (cnP (PW (H 9 p1.toNat) (H 9 p2.toNat)) k + (if PW (H 9 p1.toNat) (H 9 p2.toNat) k then 1 else 0), _)
            rw [if_pos q2]; rfl
          · intro w hw1 hw2
            by_cases e : w = k
            · rw [e]; exact q3
            · exact hw w (by clear x1 x2 x3 x4 wc; omega) hw2
      · right
        rw [if_neg q2, bS_l]
        refine ⟨_, rfl, ⟨k + 1, k9, ?_, ?_⟩, hm⟩
        · show _ = (cnP (PW (H 9 p1.toNat) (H 9 p2.toNat)) k + (if PW (H 9 p1.toNat) (H 9 p2.toNat) k then 1 else 0), _)
          rw [if_neg q2, Int.add_zero]; rfl
        · intro w hw1 hw2
          by_cases e : w = k
          · subst e; exact absurd hw2 q2
          · exact hw w (by clear x1 x2 x3 x4 wc; omega) hw2
    · left
      have e9 : k = 9 := by omega
      subst e9
      rw [if_neg (by decide)]
      exact ⟨_, rfl, Or.inr ⟨hw, rfl⟩⟩
theorem q_rest (g : BA M N h H LV S) (p1 p2 p3 : Int) : PR N (f_X11_rest M p1 p2 p3) (f_X12_rest N p1 p2 p3) := by
  obtain ⟨g0, f0⟩ := thr0 g
  unfold f_X11_rest f_X12_rest
  rw [bM_eq, (two11 g p1 p2).1, (two11 g0 p1 p2).2, Option.bind_some, Option.bind_some, if_b1, if_b1]
  by_cases q1 : (0 ≤ p1 ∧ p1 < H 6 0) ∧ (0 ≤ p2 ∧ p2 < H 6 0) ∧ p1 ≠ p2
  rotate_left
  · rw [if_neg q1, if_neg q1]
    exact ⟨-1, _, rfl, rfl, f0⟩
  rw [if_pos q1, if_pos q1]
  by_cases q2 : p3 < 0
  · rw [if_pos q2, if_pos q2]
    exact ⟨-1, _, rfl, rfl, f0⟩
  obtain ⟨r, e1, s1⟩ := q_restC g q1.1 q1.2.1 p3
  obtain ⟨r', e2, _, s2⟩ := q_restM g0 q1.1 q1.2.1 p3
  have := RA_u s1 (s2 (by omega))
  subst this
  rw [if_neg q2, if_neg q2, e1, e2]
  exact ⟨_, _, rfl, rfl, f0⟩
theorem q_rests (g : BA M N h H LV S) (p1 p2 : Int) : PR N (f_X11_rests M p1 p2) (f_X12_rests N p1 p2) := by
  obtain ⟨g0, f0⟩ := thr0 g
  unfold f_X11_rests f_X12_rests
  rw [bM_eq, (two11 g p1 p2).1, (two11 g0 p1 p2).2, Option.bind_some, Option.bind_some, if_b1, if_b1]
  by_cases q1 : (0 ≤ p1 ∧ p1 < H 6 0) ∧ (0 ≤ p2 ∧ p2 < H 6 0) ∧ p1 ≠ p2
  rotate_left
  · rw [if_neg q1, if_neg q1]
    exact ⟨-1, _, rfl, rfl, f0⟩
  rw [if_pos q1, if_pos q1]
  obtain ⟨r', e2, s2, _⟩ := q_restM g0 q1.1 q1.2.1 (-1)
  have s2 := s2 rfl
  have cr := cnP_0 (P := PW (H 9 p1.toNat) (H 9 p2.toNat)) 9
  have hkey := lp_FU (step := (fun x3 : Int => if x3 < 9 then ((f_X11_restAt M p1 p2 x3).bind fun x5 => if x5 = (-2) then (some (Sum.inr x3)) else some (Sum.inl (w32 (x3 + 1)))) else some (Sum.inr x3))) (fun x => 0 ≤ x ∧ x ≤ cnP (PW (H 9 p1.toNat) (H 9 p2.toNat)) 9) (fun x => 10 - x.toNat) (fun y : Int => y = cnP (PW (H 9 p1.toNat) (H 9 p2.toNat)) 9) ?_ 0 ⟨Int.le_refl _, cr.1⟩ (show 10 - (0 : Int).toNat < 1000000 by decide)
  · obtain ⟨y, e, q⟩ := hkey
    subst q
    rw [e, e2, s2]
    exact ⟨_, _, rfl, rfl, f0⟩
  · rintro x ⟨hx1, hx2⟩
    try dsimp +instances only
    by_cases q9 : x < 9
    · obtain ⟨r, e1, s1⟩ := q_restC g q1.1 q1.2.1 x
      have wx : w32 (x + 1) = x + 1 := w32_i (by omega) (by omega)
      rw [if_pos q9, e1, Option.bind_some, wx]
      clear wx
      rcases s1 with ⟨w, h1, h2, h3, h4⟩ | ⟨h1, h2⟩
      · right
        have := cnP_lt h2 9 h1
        rw [if_neg (by omega)]
        exact ⟨_, rfl, ⟨by omega, by omega⟩, by omega⟩
      · left
        rw [if_pos h2]
        refine ⟨_, rfl, ?_⟩
        by_cases q : x = cnP (PW (H 9 p1.toNat) (H 9 p2.toNat)) 9
        · exact q
        · obtain ⟨w, k1, k2, k3⟩ := cnP_iv (P := PW (H 9 p1.toNat) (H 9 p2.toNat)) hx1 9 (by omega)
          exact absurd k3 (h1 w k1 k2)
    · left
      rw [if_neg q9]
      exact ⟨_, rfl, by omega⟩
end QUES5
