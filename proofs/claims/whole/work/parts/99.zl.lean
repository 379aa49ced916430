def clp (p1 : Int) : Int × Int × MM → Option ((Int × Int × MM) ⊕ (Int × MM)) := fun x6 =>
if x6.2.1 < p1 then
(if x6.1 = 0 then
(some (Sum.inr (x6.1, x6.2.2)))
else
(f_X7_isMore x6.2.2).bind fun x9 =>
if x9 = 0 then
(some (Sum.inr (x6.1, x6.2.2)))
else
(f_X7_readLine x6.2.2).bind fun x11 =>
some (Sum.inl (x11.1, w32 (x6.2.1 + 1), x11.2)))
else
some (Sum.inr (x6.1, x6.2.2))
def nlp : Int × MM → Option ((Int × MM) ⊕ ((Int × MM) ⊕ (Int × MM))) := fun x11 =>
if (x11.2 88 8) = 0 then
(some (Sum.inr (Sum.inl (x11.1, x11.2))))
else
(f_X12_lineRead x11.2).bind fun x13 =>
if x13.1 = 0 then
(some (Sum.inr (Sum.inr ((-1), x13.2))))
else
some (Sum.inl (w32 (x11.1 + 1), x13.2))
section TXL
variable {M N M' N' : MM} {n t g c : Nat}
theorem TCF.rf : TCF g M M := ⟨fun _ _ _ _ _ _ _ _ => rfl, fun _ _ k => k⟩
theorem LLN.rf : LLN N N := fun _ _ _ _ _ _ _ _ _ _ _ _ => rfl
theorem lines_end (k : RT' M N n t) (q : M 3 4 = 1) (v : Int) (m m' : Nat) : lp (clp (n : Int)) (m + 1) (1, v, M) = some (1, M) ∧ lp nlp (m' + 1) (v, N) = some (Sum.inl (v, N)) := by
  have q' : N 88 8 = 0 := (KR_n k.2.2).2.2.1.mp q
  refine ⟨lp_e m ?_, lp_e m' ?_⟩
  · unfold clp f_X7_isMore
    rw [if_pos (show ((1 : Int), v, M).2.2 3 4 = 1 from q), Option.bind_some, if_pos (show (0 : Int) = 0 from rfl), if_neg (show ¬ ((1 : Int), v, M).1 = 0 from Int.one_ne_zero)]
    split <;> rfl
  · unfold nlp
    rw [if_pos (show (v, N).2 88 8 = 0 from q')]
theorem lines_fail (v : Int) (m : Nat) : lp (clp (n : Int)) (m + 1) (0, v, M) = some (0, M) := by
  refine lp_e m ?_
  unfold clp
  rw [if_pos (show ((0 : Int), v, M).1 = 0 from rfl)]
  split <;> rfl
/-- the lines of a text, on both sides -/
theorem q_lines : ∀ (d : Nat) (M N : MM) (t c m m' : Nat), d + 1 < m → d < m' → RT' M N n t → (M 3 4 = 1 ∨ (c < t ∧ n - t < d)) → RD M N g → LW M N g → M g 14 = (c : Int) → (∃ M' N', lp (clp (n : Int)) m (1, (c : Int), M) = some (0, M') ∧ lp nlp m' ((c : Int), N) = some (Sum.inr (-1, N')) ∧ FL M' N' ∧ TCF g M M' ∧ LLN N N') ∨ ∃ (M' N' : MM) (c' : Nat), lp (clp (n : Int)) m (1, (c : Int), M) = some (1, M') ∧ lp nlp m' ((c : Int), N) = some (Sum.inl ((c' : Int), N')) ∧ (RD M' N' g ∧ LW M' N' g ∧ M' g 14 = (c' : Int) ∧ FLK M N M' N') ∧ TCF g M M' ∧ LLN N N'
  | d, M, N, t, c, 0, m', h, _, _, _, _, _, _ => absurd h (Nat.not_lt_zero _)
  | d, M, N, t, c, m + 1, 0, _, h, _, _, _, _, _ => absurd h (Nat.not_lt_zero _)
  | 0, M, N, t, c, m + 1, m' + 1, _, _, k, hd, rd, lw, h14 => by
    obtain ⟨e1, e2⟩ := lines_end k (show M 3 4 = 1 by omega) (c : Int) m m'
    exact Or.inr ⟨M, N, c, e1, e2, ⟨rd, lw, h14, ⟨rfl, rfl⟩, rfl, rfl⟩, TCF.rf, LLN.rf⟩
  | d + 1, M, N, t, c, m + 1, m' + 1, hm, hm', k, hd, rd, lw, h14 => by
    by_cases q : M 3 4 = 1
    · obtain ⟨e1, e2⟩ := lines_end k q (c : Int) m m'
      exact Or.inr ⟨M, N, c, e1, e2, ⟨rd, lw, h14, ⟨rfl, rfl⟩, rfl, rfl⟩, TCF.rf, LLN.rf⟩
    have ct : c < t ∧ n - t < d + 1 := by omega
    have tn : t ≤ n ∧ n ≤ 700 := ⟨k.1.2.1.2.2, k.1.1.2.2⟩
    have q' : ¬ N 88 8 = 0 := fun z => q ((KR_n k.2.2).2.2.1.mpr z)
    have cs : ∀ v M1, f_X7_readLine M = some (v, M1) → clp (n : Int) (1, (c : Int), M) = some (Sum.inl (v, ((c + 1 : Nat) : Int), M1)) := fun v M1 e => by
      unfold clp f_X7_isMore
      rw [if_pos (show ((1 : Int), (c : Int), M).2.1 < (n : Int) by show (c : Int) < n; omega), if_neg (show ¬ ((1 : Int), (c : Int), M).1 = 0 from Int.one_ne_zero), if_neg (show ¬ ((1 : Int), (c : Int), M).2.2 3 4 = 1 from q), Option.bind_some, if_neg (show ¬ (1 : Int) = 0 by decide)]
      show (f_X7_readLine M).bind _ = _
      rw [e, Option.bind_some]
      show some (Sum.inl (v, w32 ((c : Int) + 1), M1)) = _
      rw [wi7 (by omega)]
    have ns : ∀ v N1, f_X12_lineRead N = some (v, N1) → nlp ((c : Int), N) = if v = 0 then some (Sum.inr (Sum.inr (-1, N1))) else some (Sum.inl (((c + 1 : Nat) : Int), N1)) := fun v N1 e => by
      unfold nlp
      rw [if_neg (show ¬ ((c : Int), N).2 88 8 = 0 from q')]
      show (f_X12_lineRead N).bind _ = _
      rw [e, Option.bind_some]
      show (if v = 0 then some (Sum.inr (Sum.inr (-1, N1))) else some (Sum.inl (w32 ((c : Int) + 1), N1))) = _
      rw [wi7 (by omega)]
    rcases q_line k (by omega) rd lw h14 (by omega) with ⟨M1, N1, e1, e2, fl, f1, f1'⟩ | ⟨M1, N1, e1, e2, ⟨⟨s, k1, t1, t2⟩, rd1, lw1, h1, fk⟩, f1, f1'⟩
    · left
      have n1 := ns 0 N1 e2
      rw [if_pos rfl] at n1
      refine ⟨M1, N1, ?_, lp_e m' n1, fl, f1, f1'⟩
      obtain ⟨m2, rfl⟩ : ∃ m2, m = m2 + 1 := ⟨m - 1, by omega⟩
      rw [lp_s (m2 + 1) (cs 0 M1 e1)]
      exact lines_fail _ m2
    · have n1 := ns 1 N1 e2
      rw [if_neg (show ¬ (1 : Int) = 0 by decide)] at n1
      rw [lp_s m (cs 1 M1 e1), lp_s m' n1]
      have sn : s ≤ n := k1.1.2.1.2.2
      rcases q_lines d M1 N1 s (c + 1) m m' (by omega) (by omega) k1 (by omega) rd1 lw1 h1 with ⟨M2, N2, g1, g2, g3, g4, g5⟩ | ⟨M2, N2, c2, g1, g2, ⟨g3, g3', g3'', g3'''⟩, g4, g5⟩
      · exact Or.inl ⟨M2, N2, g1, g2, g3, f1.tr g4, f1'.tr g5⟩
      · exact Or.inr ⟨M2, N2, c2, g1, g2, ⟨g3, g3', g3'', fk.tr g3'''⟩, f1.tr g4, f1'.tr g5⟩
end TXL
