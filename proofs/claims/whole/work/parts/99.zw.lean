section ALTEXT
variable {M N H S : MM} {LV : LVT} {h : Nat}
/-- text, on both sides -/
theorem t_text (ba : BA M N h H LV S) (rx : RX M N h H S) {n : Nat} (hn : (n : Int) ≤ M 0 1) : ∃ r M' N' h' H' LV' S', f_X11_text M (n : Int) = some (r, M') ∧ f_X12_text N (n : Int) = some (r, N') ∧ BA M' N' h' H' LV' S' ∧ RX M' N' h' H' S' ∧ (∀ a, 88 ≤ a → M' a = M a) ∧ ∀ a, a < 88 → N' a = N a := by
  have hh := ba.1.1
  have m03 : M 0 3 = (h : Int) := ba.1.2.1
  have hS := ba.1.2.2.2.2
  obtain ⟨⟨t1, t2, t3⟩, t4⟩ := id rx.1
  obtain ⟨sp4, sp⟩ := rx.2.2.2.2.2.2
  have wd := rx.2.2.2.2.2.1
  have m63 := rx.2.2.2.2.1.2.1
  obtain ⟨g, hg, hgh⟩ : ∃ g : Nat, (g = 8 ∨ g = 31) ∧ h + g = 39 := ⟨39 - h, by omega, by omega⟩
  have m04 : M 0 4 = (g : Int) := by rw [sp4]; omega
  have n7 : n ≤ 700 := by omega
  have N0a : ∀ a j, ¬ (a = 88 ∧ (j = 1 ∨ j = 2 ∨ (4 ≤ j ∧ j ≤ 7))) → upM (upM (upM (upM (upM (upM N 88 2 0) 88 6 (n : Int)) 88 1 0) 88 4 0) 88 5 (-1)) 88 7 0 a j = N a j := fun a j h => by rw [upM_ne a j (by omega), upM_ne a j (by omega), upM_ne a j (by omega), upM_ne a j (by omega), upM_ne a j (by omega), upM_ne a j (by omega)]
  have byr : BYR M N := t4
  obtain ⟨Mb, x9, Nb, eb, ep, et, ⟨⟨s, k, hs⟩, rd, lw, c0, fl⟩, fm, fnb⟩ := t_begin (M := upM M 0 1 0) (N := upM (upM (upM (upM (upM (upM N 88 2 0) 88 6 (n : Int)) 88 1 0) 88 4 0) 88 5 (-1)) 88 7 0) hg n7 (byr.cg (fun j => up_na (by decide)) (fun j => N0a 89 j (by omega))) (wd.cg (fun j => up_na (by decide)) (fun j => N0a 90 j (by omega))) rfl rfl rfl rfl
  have n01 : upM (upM (upM (upM (upM (upM N 88 2 0) 88 6 (n : Int)) 88 1 0) 88 4 0) 88 5 (-1)) 88 7 0 88 1 = 0 := rfl
  have ec : f_X11_text M (n : Int) = (lp (clp (n : Int)) FU (1, 0, Mb)).bind fun x12 => bM (upM x12.2 0 11 (x12.2 2 5)) fun M13 => bM (upM M13 0 12 (M13 2 6)) fun M14 => if x12.1 = 0 then (some ((-1), M14)) else (f_X11_takeSpare M14).bind fun x16 => gH (x16 0 3) fun b17 => some (x16 b17 14, x16) := by
    unfold f_X11_text
    rw [if_neg (show ¬ (n : Int) < 0 by omega), if_neg (show ¬ M 0 1 < (n : Int) by omega), bM_eq, up_ni (by decide), m04, gH_h hg, eb, Option.bind_some]
    rfl
  have en : f_X12_text N (n : Int) = bS (lp nlp FU (0, Nb)) (fun x15 => (f_X12_keepText x15.2).bind fun x16 => some (x15.1, x16)) (fun r => r) := by
    unfold f_X12_text
    rw [bM_eq, if_neg (show ¬ (n : Int) < 0 by omega), if_neg (show ¬ upM N 88 2 0 88 1 < (n : Int) by rw [up_ni (by decide), ← t1]; omega), bM_eq, bM_eq, bM_eq, bM_eq, bM_eq, ep, Option.bind_some, et, Option.bind_some]
    rfl
  generalize upM (upM (upM (upM (upM (upM N 88 2 0) 88 6 (n : Int)) 88 1 0) 88 4 0) 88 5 (-1)) 88 7 0 = N0 at N0a ep fnb n01
  have lb : LLN N0 Nb := fun a j x1 x2 x3 x4 x5 x6 x7 x8 x9 x10 => fnb a j (by omega) x2 x3 (by omega)
  have ql := q_lines (n + 1) Mb Nb s 0 FU FU (by unfold FU; omega) (by unfold FU; omega) k (by
    rcases hs with z | z
    · exact Or.inr ⟨z, by omega⟩
    · exact Or.inl z) rd lw c0
  -- what both cases know of the class's memory and the second system's
  have FC : ∀ {Mc : MM}, TCF g Mb Mc → ∀ a j, ¬ (a = 0 ∧ j = 1) → a ≠ 2 → a ≠ 3 → a ≠ 5 → a ≠ 6 → a ≠ 7 → ¬ (g ≤ a ∧ a ≤ g + 22) → Mc a j = M a j := fun f a j h0 h2 h3 h5 h6 h7 h8 => by rw [f.1 a j (by omega) (by omega) (by omega) h6 h7 h8, fm a j h2 h3 (by omega), upM_ne a j h0]
  have F01 : ∀ {Mc : MM}, TCF g Mb Mc → Mc 0 1 = 0 := fun f => by rw [f.1 0 1 (by omega) (by omega) (by omega) (by omega) (by omega) (by omega), fm 0 1 (by decide) (by decide) (by omega), upM_eq]
  have FS : ∀ {Mc : MM}, TCF g Mb Mc → ∀ r : Nat, r < 5 → (0 ≤ Mc 11 r ∧ Mc 11 r ≤ 600) ∧ (0 ≤ Mc 34 r ∧ Mc 34 r ≤ 600) := fun {Mc} f r hr => by
    have q := sp r hr
    have r3 : 0 ≤ Mc (g + 3) r ∧ Mc (g + 3) r ≤ 600 := f.2 (by omega) r (by
      rw [fm (g + 3) r (by omega) (by omega) (by omega), up_na (by omega)]
      rcases hg with e | e
      · subst e; exact q.1
      · subst e; exact q.2)
    rcases hg with e | e
    · subst e
      exact ⟨r3, by rw [FC f 34 r (by omega) (by omega) (by omega) (by omega) (by omega) (by omega) (by omega)]; exact q.2⟩
    · subst e
      exact ⟨by rw [FC f 11 r (by omega) (by omega) (by omega) (by omega) (by omega) (by omega) (by omega)]; exact q.1, r3⟩
  have GC : ∀ {Mc : MM} (f : TCF g Mb Mc) (u v : Int) (a j : Nat), ¬ (a = 0 ∧ (j = 1 ∨ j = 11 ∨ j = 12)) → a ≠ 2 → a ≠ 3 → a ≠ 5 → a ≠ 6 → a ≠ 7 → ¬ (g ≤ a ∧ a ≤ g + 22) → upM (upM Mc 0 11 u) 0 12 v a j = M a j := fun f u v a j h0 h2 h3 h5 h6 h7 h8 => by rw [upM_ne a j (by omega), upM_ne a j (by omega), FC f a j (by omega) h2 h3 h5 h6 h7 h8]
  rcases ql with ⟨Mc, Nc, e1, e2, fl', f1, f2⟩ | ⟨Mc, Nc, c', e1, e2, ⟨rd1, lw1, h14, fk⟩, f1, f2⟩
  · have e1 : lp (clp (n : Int)) FU (1, 0, Mb) = some (0, Mc) := e1
    have e2 : lp nlp FU (0, Nb) = some (Sum.inr (-1, Nc)) := e2
    have fN := lb.tr f2
    refine ⟨-1, upM (upM Mc 0 11 (Mc 2 5)) 0 12 (Mc 2 6), Nc, h, H, LV, S, by rw [ec, e1]; rfl, by rw [en, e2]; rfl, ?_, ?_, ?_, ?_⟩
    · refine ba.cg3 (fun a ha => funext fun j => GC f1 _ _ a j (by omega) (by omega) (by omega) (by omega) (by omega) (by omega) (by omega)) (GC f1 _ _ 0 3 (by omega) (by omega) (by omega) (by omega) (by omega) (by omega) (by omega)) (fun a j hb => ?_)
      unfold NB2 at hb
      rw [fN a j (by omega) (by omega) (by omega) (by omega) (by omega) (by omega) (by omega) (by omega) (by omega) (by omega), N0a a j (by omega)]
    · refine rx.cg3 ⟨GC f1 _ _ 0 4 (by omega) (by omega) (by omega) (by omega) (by omega) (by omega) (by omega), GC f1 _ _ 0 7 (by omega) (by omega) (by omega) (by omega) (by omega) (by omega) (by omega)⟩ (fun a ha => funext fun j => GC f1 _ _ a j (by omega) (by omega) (by omega) (by omega) (by omega) (by omega) (by omega)) (fun j hj => ?_) (fun a j ha => ?_) ⟨⟨?_, ?_, ?_⟩, fun j hj => ?_⟩ ⟨?_, ?_⟩ (fun r hr => ?_)
      · rw [fN 88 j (by omega) (by omega) (by omega) (by omega) (by omega) (by omega) (by omega) (by omega) (by omega) (by omega), N0a 88 j (by omega)]
      · rw [fN a j (by omega) (by omega) (by omega) (by omega) (by omega) (by omega) (by omega) (by omega) (by omega) (by omega), N0a a j (by omega)]
      · rw [up_ni (by decide), up_ni (by decide), F01 f1, fN 88 1 (by omega) (by omega) (by omega) (by omega) (by omega) (by omega) (by omega) (by omega) (by omega) (by omega), n01]
      · rw [up_ni (by decide), up_ni (by decide), F01 f1]; decide
      · rw [up_ni (by decide), up_ni (by decide), F01 f1]; decide
      · rw [GC f1 _ _ 1 j (by omega) (by omega) (by omega) (by omega) (by omega) (by omega) (by omega), fN 89 j (by omega) (by omega) (by omega) (by omega) (by omega) (by omega) (by omega) (by omega) (by omega) (by omega), N0a 89 j (by omega)]
        exact t4 j hj
      · rw [up_ni (by decide), upM_eq]; exact fl'.1
      · rw [upM_eq]; exact fl'.2
      · rw [up_na (by decide), up_na (by decide), up_na (by decide), up_na (by decide)]; exact FS f1 r hr
    · intro a ha
      exact funext fun j => GC f1 _ _ a j (by omega) (by omega) (by omega) (by omega) (by omega) (by omega) (by omega)
    · intro a ha
      exact funext fun j => by rw [fN a j (by omega) (by omega) (by omega) (by omega) (by omega) (by omega) (by omega) (by omega) (by omega) (by omega), N0a a j (by omega)]
  · have e1 : lp (clp (n : Int)) FU (1, 0, Mb) = some (1, Mc) := e1
    have e2 : lp nlp FU (0, Nb) = some (Sum.inl ((c' : Int), Nc)) := e2
    have fN := lb.tr f2
    have g0 : ∀ a, a ≠ 0 → upM (upM Mc 0 11 (Mc 2 5)) 0 12 (Mc 2 6) a = Mc a := fun a ha => by rw [up_row ha, up_row ha]
    obtain ⟨M', N', H', LV', S', k1, k2, k3, k4, k5, k6, k7, k8⟩ := t_keep (M := upM (upM Mc 0 11 (Mc 2 5)) 0 12 (Mc 2 6)) (N := Nc) (S := S) hh hg hgh ((GC f1 _ _ 0 3 (by omega) (by omega) (by omega) (by omega) (by omega) (by omega) (by omega)).trans m03) ((GC f1 _ _ 0 4 (by omega) (by omega) (by omega) (by omega) (by omega) (by omega) (by omega)).trans m04) (fun k hk => by
        rw [← hS k hk]
        exact funext fun j => GC f1 _ _ (54 + k) j (by omega) (by omega) (by omega) (by omega) (by omega) (by omega) (by omega)) ba.2.2.2.1 ba.2.2.2.2.1 (rd1.fr (by rw [g0 2 (by decide)]) (fun a ha => g0 a (by omega)) (fun _ _ => rfl) (fun _ _ => rfl)) (lw1.cg (fun a j ha => by rw [g0 a (by omega)]) ⟨rfl, rfl⟩ (fun _ _ _ => rfl)) ⟨⟨by rw [up_ni (by decide), up_ni (by decide), F01 f1, fN 88 1 (by omega) (by omega) (by omega) (by omega) (by omega) (by omega) (by omega) (by omega) (by omega) (by omega), n01], by rw [up_ni (by decide), up_ni (by decide), F01 f1]; decide, by rw [up_ni (by decide), up_ni (by decide), F01 f1]; decide⟩, fun j hj => by
        rw [GC f1 _ _ 1 j (by omega) (by omega) (by omega) (by omega) (by omega) (by omega) (by omega), fN 89 j (by omega) (by omega) (by omega) (by omega) (by omega) (by omega) (by omega) (by omega) (by omega) (by omega), N0a 89 j (by omega)]
        exact t4 j hj⟩ ⟨by rw [up_ni (by decide), upM_eq, fk.1.1, fl.1, fk.2.1], by rw [upM_eq, fk.1.2, fl.2, fk.2.2]⟩ (wd.cg (fun j => GC f1 _ _ 4 j (by omega) (by omega) (by omega) (by omega) (by omega) (by omega) (by omega)) (fun j => by rw [fN 90 j (by omega) (by omega) (by omega) (by omega) (by omega) (by omega) (by omega) (by omega) (by omega) (by omega), N0a 90 j (by omega)])) ((GC f1 _ _ 63 7 (by omega) (by omega) (by omega) (by omega) (by omega) (by omega) (by omega)).trans m63) (fun r hr => by rw [g0 11 (by decide), g0 34 (by decide)]; exact FS f1 r hr)
    refine ⟨(c' : Int), M', N', g, H', LV', S', ?_, ?_, k3, k4, ?_, ?_⟩
    · rw [ec, e1, Option.bind_some, bM_eq, bM_eq, if_neg (show ¬ ((1 : Int), Mc).1 = 0 from Int.one_ne_zero)]
      have k1 : f_X11_takeSpare (upM (upM ((1 : Int), Mc).2 0 11 (((1 : Int), Mc).2 2 5)) 0 12 (upM ((1 : Int), Mc).2 0 11 (((1 : Int), Mc).2 2 5) 2 6)) = some M' := by
        rw [up_na (a := 0) (x := 2) (by decide)]
        exact k1
      rw [k1, Option.bind_some, k5, gH_h hg, k6, g0 g (by omega), h14]
    · rw [en, e2, bS_l]
      show (f_X12_keepText Nc).bind _ = _
      rw [k2, Option.bind_some]
    · intro a ha
      rw [k7 a ha, g0 a (by omega)]
      exact funext fun j => FC f1 a j (by omega) (by omega) (by omega) (by omega) (by omega) (by omega) (by omega)
    · intro a ha
      rw [k8 a ha]
      exact funext fun j => by rw [fN a j (by omega) (by omega) (by omega) (by omega) (by omega) (by omega) (by omega) (by omega) (by omega) (by omega), N0a a j (by omega)]
theorem al_text {X : MM} (hX : AL X) (p1 : Int) : AN (f_X11_text X p1) (fun m => f_X12_text m p1) := by
  have hX0 := hX
  obtain ⟨h, H, LV, S, ba, rx⟩ := hX
  by_cases q1 : p1 < 0
  · refine ⟨-2, X, upM X 88 2 0, ?_, ?_, al_thr hX0⟩
    · unfold f_X11_text; rw [if_pos q1]
    · show f_X12_text X p1 = _
      unfold f_X12_text; rw [bM_eq, if_pos q1]
  by_cases q2 : X 0 1 < p1
  · refine ⟨-2, X, upM X 88 2 0, ?_, ?_, al_thr hX0⟩
    · unfold f_X11_text; rw [if_neg q1, if_pos q2]
    · show f_X12_text X p1 = _
      unfold f_X12_text; rw [bM_eq, if_neg q1, if_pos (by rw [up_ni (by decide), ← rx.1.1.1]; exact q2)]
  obtain ⟨n, rfl⟩ := nat_of (show 0 ≤ p1 by omega)
  obtain ⟨r, M1, N1, _, _, _, _, e1, _, _, _, f1, _⟩ := t_text ba rx (n := n) (by omega)
  have ba' : BA X M1 h H LV S := ba.cg FrX.rf (fun a j h1 _ _ => by rw [f1 a h1])
  have rx' : RX X M1 h H S := rx.cg ba.1.1 FrX.rf (fun a j h1 _ _ => by rw [f1 a h1])
  obtain ⟨r', M2, N2, h', H', LV', S', e1', e2, ba2, rx2, _, f2⟩ := t_text ba' rx' (n := n) (by omega)
  rw [e1] at e1'
  have e3 := Option.some.inj e1'
  have er : r = r' := congrArg Prod.fst e3
  have eM : M1 = M2 := congrArg Prod.snd e3
  subst er
  subst eM
  exact ⟨r, M1, N2, e1, e2, h', H', LV', S', ba2.cg (fun a h1 _ _ _ _ => f2 a h1) FQX.rf, rx2.cg ba2.1.1 (fun a h1 _ _ _ _ => f2 a h1) FQX.rf⟩
end ALTEXT
