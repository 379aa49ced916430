def tl1 (x16 : Int × MM) : Option (Int × MM) :=
if x16.1 = 0 then
(some (0, x16.2))
else
(f_X7_readEnd x16.2).bind fun x18 =>
if x18.1 = 0 then
(some (0, x18.2))
else
some (1, x18.2)
def tl2 (x38 : Int × MM) : Option (Unit ⊕ (Int × MM)) :=
if x38.1 = 0 then
(some (Sum.inr (0, x38.2)))
else
(f_X12_isSign x38.2 59).bind fun x40 =>
if x40 = 0 then
((f_X12_wrong x38.2 1).bind fun x42 =>
gd (x42.1 = 0 ∨ x42.1 = 1) <|
some (Sum.inr (x42.1, x42.2)))
else
(f_X12_token x38.2).bind fun x44 =>
some (Sum.inr (1, x44))
/-- what lines may change, with the count of lines -/
def TCF (g : Nat) (M M' : MM) : Prop := (∀ a j, ¬ (a = 2 ∧ 3 ≤ j) → ¬ (a = 3 ∧ 3 ≤ j ∧ j ≤ 6) → ¬ (a = 5 ∧ 3 ≤ j) → a ≠ 6 → a ≠ 7 → ¬ (g ≤ a ∧ a ≤ g + 22) → M' a j = M a j) ∧ (8 ≤ g → ∀ r : Nat, (0 ≤ M (g + 3) r ∧ M (g + 3) r ≤ 600) → 0 ≤ M' (g + 3) r ∧ M' (g + 3) r ≤ 600)
/-- a line whole, on both sides -/
def LR (g n t c : Nat) (M N : MM) (o1 o2 : Option (Int × MM)) : Prop := (∃ M' N', o1 = some (0, M') ∧ o2 = some (0, N') ∧ FL M' N' ∧ TCF g M M' ∧ LLN N N') ∨ ∃ M' N', o1 = some (1, M') ∧ o2 = some (1, N') ∧ ((∃ s, RT' M' N' n s ∧ (t < s ∨ M' 3 4 = 1) ∧ t ≤ s) ∧ RD M' N' g ∧ LW M' N' g ∧ M' g 14 = ((c + 1 : Nat) : Int) ∧ FLK M N M' N') ∧ TCF g M M' ∧ LLN N N'
section LINEW
variable {M N M' N' : MM} {n t g c : Nat}
theorem LLC.w (f : LLC g M M') : TCF g M M' := ⟨fun a j x1 x2 x3 x4 x5 x6 => f.1 a j x1 x2 x3 x4 x5 (by omega), f.2⟩
theorem TCF.tr {M1 M2 M3 : MM} (h1 : TCF g M1 M2) (h2 : TCF g M2 M3) : TCF g M1 M3 := ⟨fun a j x1 x2 x3 x4 x5 x6 => (h2.1 a j x1 x2 x3 x4 x5 x6).trans (h1.1 a j x1 x2 x3 x4 x5 x6), fun h r k => h2.2 h r (h1.2 h r k)⟩
theorem RD.c14 {v : Int} (x : RD M N g) : RD (upM M g 14 v) N g := by
  have hg := x.1.2
  unfold RD at x ⊢
  simp only [up_ni (M := M) (a := g) (i := 14) (v := v) (show (3 : Nat) ≠ 14 by decide), up_ni (M := M) (a := g) (i := 14) (v := v) (show (7 : Nat) ≠ 14 by decide), up_ni (M := M) (a := g) (i := 14) (v := v) (show (9 : Nat) ≠ 14 by decide), up_ni (M := M) (a := g) (i := 14) (v := v) (show (10 : Nat) ≠ 14 by decide), up_ni (M := M) (a := g) (i := 14) (v := v) (show (11 : Nat) ≠ 14 by decide), up_ni (M := M) (a := g) (i := 14) (v := v) (show (12 : Nat) ≠ 14 by decide), up_ni (M := M) (a := g) (i := 14) (v := v) (show (13 : Nat) ≠ 14 by decide), up_na (M := M) (a := g) (i := 14) (v := v) (show 2 ≠ g by omega), up_na (M := M) (a := g) (i := 14) (v := v) (show g + 1 ≠ g by omega), up_na (M := M) (a := g) (i := 14) (v := v) (show g + 2 ≠ g by omega), up_na (M := M) (a := g) (i := 14) (v := v) (show g + 3 ≠ g by omega), up_na (M := M) (a := g) (i := 14) (v := v) (show g + 4 ≠ g by omega), up_na (M := M) (a := g) (i := 14) (v := v) (show g + 5 ≠ g by omega), up_na (M := M) (a := g) (i := 14) (v := v) (show g + 6 ≠ g by omega), up_na (M := M) (a := g) (i := 14) (v := v) (show g + 7 ≠ g by omega), up_na (M := M) (a := g) (i := 14) (v := v) (show g + 8 ≠ g by omega), up_na (M := M) (a := g) (i := 14) (v := v) (show g + 9 ≠ g by omega), up_na (M := M) (a := g) (i := 14) (v := v) (show g + 10 ≠ g by omega), up_na (M := M) (a := g) (i := 14) (v := v) (show g + 11 ≠ g by omega), up_na (M := M) (a := g) (i := 14) (v := v) (show g + 19 ≠ g by omega), up_na (M := M) (a := g) (i := 14) (v := v) (show g + 20 ≠ g by omega), up_na (M := M) (a := g) (i := 14) (v := v) (show g + 21 ≠ g by omega), up_na (M := M) (a := g) (i := 14) (v := v) (show g + 22 ≠ g by omega)]
  exact x
theorem RD.ft (x : RD M N g) (f : FT M' M) (f' : FTN N' N) : RD M' N' g := by
  have hg := x.1.2
  exact x.fr (f 2 2 (by omega)) (fun a h => funext fun j => f a j (by omega)) (fun j h => f' 88 j (by omega)) (fun a h => funext fun j => f' a j (by omega))
theorem LW.ft (hg : g = 8 ∨ g = 31) (x : LW M N g) (f : FT M' M) (f' : FTN N' N) : LW M' N' g := x.cg (fun a j h => f a j (by omega)) ⟨f' 88 21 (by omega), f' 88 48 (by omega)⟩ (fun a j h => f' a j (by omega))
/-- the end of a line -/
theorem q_end {M1 N1 : MM} {s : Nat} {F : Unit → Option (Int × MM)} (k : RT' M1 N1 n s) (hs : t ≤ s) (rd : RD M1 N1 g) (lw : LW M1 N1 g) (h14 : M1 g 14 = (c : Int)) (hc : c ≤ 700) (fk : FLK M N M1 N1) (F1 : LLC g M M1) (F1' : LLN N N1) : LR g n t c M N (tl1 (1, M1)) (bS (tl2 (1, N1)) F (fun r => r)) := by
  obtain ⟨r1, hg⟩ := rd.1
  unfold tl1 tl2 f_X7_readEnd
  rw [if_neg (show ¬ ((1 : Int), M1).1 = 0 from Int.one_ne_zero), if_neg (show ¬ ((1 : Int), N1).1 = 0 from Int.one_ne_zero)]
  rw [show f_X12_isSign ((1 : Int), N1).2 59 = some (b1 (M1 3 4 = 59)) from m_isSign k (Or.inl rfl), Option.bind_some, if_b1]
  by_cases q : M1 3 4 = 59
  · rw [if_pos q, if_pos (show ((1 : Int), M1).2 3 4 = 59 from q)]
    have e22 : ((1 : Int), M1).2 2 2 = (g : Int) := r1
    rw [e22, gH_h hg, bM_eq]
    have e14 : ((1 : Int), M1).2 g 14 = (c : Int) := h14
    rw [e14, wi7 hc]
    obtain ⟨M2, N2, e1, e2, ⟨s2, k2, t2, t3⟩, f1, f1'⟩ := (k.upC (a1 := g) (i := 14) (v := ((c + 1 : Nat) : Int)) (by omega)).next
    have e2 : f_X12_token ((1 : Int), N1).2 = some N2 := e2
    have e1 : f_X9_advance (upM ((1 : Int), M1).2 g 14 ((c + 1 : Nat) : Int)) = some M2 := e1
    rw [e1, e2, Option.bind_some, Option.bind_some]
    refine Or.inr ⟨M2, N2, rfl, rfl, ⟨⟨s2, k2, by omega, by omega⟩, rd.c14.ft f1 f1', (LW.cg lw (fun a j h => up_na (by omega)) ⟨rfl, rfl⟩ (fun a j _ => rfl)).ft hg f1 f1', by rw [f1 g 14 (by omega), upM_eq], fk.tr ⟨⟨by rw [f1 2 5 (by omega), up_na (by omega)], by rw [f1 2 6 (by omega), up_na (by omega)]⟩, ⟨f1' 88 4 (by omega), f1' 88 5 (by omega)⟩⟩⟩, F1.w.tr ⟨fun a j _ x2 _ _ _ x6 => by rw [f1 a j x2, up_na (by omega)], fun h r k => by rw [f1 (g + 3) r (by omega), up_na (by omega)]; exact k⟩, F1'.tr (f1'.kl)⟩
  · rw [if_neg q, if_neg (show ¬ ((1 : Int), M1).2 3 4 = 59 from q)]
    obtain ⟨M2, N2, e1, e2, fl, f1, f1'⟩ := q_fail k.2.1 1
    have e2 : f_X12_wrong ((1 : Int), N1).2 1 = some (0, N2) := e2
    have e1 : f_X7_fails ((1 : Int), M1).2 1 = some (0, M2) := e1
    rw [e1, e2, Option.bind_some, Option.bind_some, gd_t (Or.inl rfl), gd_t (Or.inl rfl)]
    refine Or.inl ⟨M2, N2, rfl, rfl, fl, F1.w.tr ⟨fun a j x1 x2 _ _ _ x6 => f1 a j (by omega), fun h r k => by rw [f1 (g + 3) r (by omega)]; exact k⟩, F1'.tr (fun a j x1 _ _ _ _ _ _ _ _ _ => f1' a j (by omega))⟩
theorem line_of {o1 o2 : Option (Int × MM)} {F : Unit → Option (Int × MM)} (h : LN g n t M N o1 o2) (hg : g = 8 ∨ g = 31) (lw : LW M N g) (h14 : M g 14 = (c : Int)) (hc : c ≤ 700) : LR g n t c M N ((o1.bind fun x => some (x.1, x.2)).bind tl1) (bS (bS (o2.bind fun x => some (Sum.inl (x.1, x.2))) tl2 (fun r => Sum.inr r)) F (fun r => r)) := by
  rcases h with ⟨M', N', e1, e2, fl, c1, c2⟩ | ⟨M', N', e1, e2, ⟨⟨s, t1, k1⟩, rd1⟩, c1, c2⟩
  · exact Or.inl ⟨M', N', by rw [e1]; rfl, by rw [e2]; rfl, fl, c1.ll.w, c2.ll⟩
  · rw [e1, e2]
    exact q_end (M1 := M') (N1 := N') k1 t1 rd1 (lw.cg (fun a j h => c1.1 a j (by omega) (by omega) (by omega) (by omega)) ⟨c2 88 21 (by omega) (by omega) (by omega) (by omega) (by omega) (by omega), c2 88 48 (by omega) (by omega) (by omega) (by omega) (by omega) (by omega)⟩ (fun a j h => c2 a j (by omega) (by omega) (by omega) (by omega) (by omega) (by omega))) (by rw [c1.1 g 14 (by omega) (by omega) (by omega) (by omega)]; exact h14) hc ⟨⟨c1.1 2 5 (by omega) (by omega) (by omega) (by omega), c1.1 2 6 (by omega) (by omega) (by omega) (by omega)⟩, c2 88 4 (by omega) (by omega) (by omega) (by omega) (by omega) (by omega), c2 88 5 (by omega) (by omega) (by omega) (by omega) (by omega) (by omega)⟩ c1.ll c2.ll
/-- a line, on both sides -/
theorem q_line (k : RT' M N n t) (h0 : 0 < t) (rd : RD M N g) (lw : LW M N g) (h14 : M g 14 = (c : Int)) (hc : c ≤ 700) : LR g n t c M N (f_X7_readLine M) (f_X12_lineRead N) := by
  have hg := rd.1.2
  obtain ⟨ka, kb, kc⟩ := k_key k.2.2
  unfold f_X7_readLine f_X12_lineRead
  by_cases q : 300 ≤ M 3 4 ∧ M 3 4 ≤ 306
  rotate_left
  · obtain ⟨M', N', h1, h2, h3, h4, h5⟩ := q_fail k.2.1 1
    rw [if_neg (show ¬ M 3 4 = 300 by omega), if_neg (show ¬ M 3 4 = 301 by omega), if_neg (show ¬ M 3 4 = 302 by omega), if_neg (show ¬ M 3 4 = 303 by omega), if_neg (show ¬ M 3 4 = 304 by omega), if_neg (show ¬ M 3 4 = 305 by omega), if_neg (show ¬ M 3 4 = 306 by omega), h1, Option.bind_some, Option.bind_some, if_pos rfl]
    refine Or.inl ⟨M', N', rfl, ?_, h3, ⟨fun a j x1 x2 _ _ _ x6 => h4 a j (by omega), fun h r k => by rw [h4 (g + 3) r (by omega)]; exact k⟩, fun a j x1 _ _ _ _ _ _ _ _ _ => h5 a j (by omega)⟩
    by_cases q1 : N 88 8 = 1
    · have b' := kb q1
      have a' := ka.mp q1
      rw [if_pos q1, if_pos (show 6 < N 88 9 by omega), bS_l, h2, Option.bind_some, gd_t (Or.inl rfl)]
    · rw [if_neg q1, bS_l, h2, Option.bind_some, gd_t (Or.inl rfl)]
  have q1 : N 88 8 = 1 := ka.mpr q.1
  have n9 : N 88 9 = M 3 4 - 300 := by have b' := kb q1; omega
  rw [if_pos q1, if_neg (show ¬ 6 < N 88 9 by omega)]
  by_cases l0 : M 3 4 = 300
  · rw [if_pos l0, if_pos (show N 88 9 = 0 by omega)]
    exact line_of (q_roomLine k rd) hg lw h14 hc
  rw [if_neg l0, if_neg (show ¬ N 88 9 = 0 by omega)]
  by_cases l1 : M 3 4 = 301
  · rw [if_pos l1, if_pos (show N 88 9 = 1 by omega)]
    exact line_of (q_personLine k rd) hg lw h14 hc
  rw [if_neg l1, if_neg (show ¬ N 88 9 = 1 by omega)]
  by_cases l2 : M 3 4 = 302
  · rw [if_pos l2, if_pos (show N 88 9 = 2 by omega)]
    exact line_of (q_sunLine k rd) hg lw h14 hc
  rw [if_neg l2, if_neg (show ¬ N 88 9 = 2 by omega)]
  by_cases l3 : M 3 4 = 303
  · rw [if_pos l3, if_pos (show N 88 9 = 3 by omega)]
    exact line_of (q_outLine k rd) hg lw h14 hc
  rw [if_neg l3, if_neg (show ¬ N 88 9 = 3 by omega)]
  by_cases l4 : M 3 4 = 304
  · rw [if_pos l4, if_pos (show N 88 9 = 4 by omega)]
    exact line_of (q_knobLine k rd) hg lw h14 hc
  rw [if_neg l4, if_neg (show ¬ N 88 9 = 4 by omega)]
  by_cases l5 : M 3 4 = 305
  · rw [if_pos l5, if_pos (show N 88 9 = 5 by omega)]
    exact line_of (q_priceLine k rd) hg lw h14 hc
  rw [if_neg l5, if_neg (show ¬ N 88 9 = 5 by omega), if_pos (show M 3 4 = 306 by omega)]
  show LR g n t c M N (((f_X7_readLaw M).bind fun x => some (x.1, x.2)).bind tl1) (bS (bS (mlaw N) tl2 (fun r => Sum.inr r)) _ (fun r => r))
  rcases q_lawLine k h0 rd lw with ⟨M', N', e1, e2, fl, c1, c2⟩ | ⟨M', N', e1, e2, ⟨⟨s, t1, k1⟩, rd1, lw1, fk⟩, c1, c2⟩
  · refine Or.inl ⟨M', N', by rw [e1]; rfl, ?_, fl, c1.w, c2⟩
    rcases e2 with e2 | e2 <;> rw [e2] <;> rfl
  · rw [e1, e2]
    exact q_end (M1 := M') (N1 := N') k1 t1 rd1 lw1 (by rw [c1.1 g 14 (by omega) (by omega) (by omega) (by omega) (by omega) (by omega)]; exact h14) hc fk c1 c2
end LINEW
