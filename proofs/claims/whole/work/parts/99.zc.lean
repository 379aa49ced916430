section FORM
variable {M N : MM} {n t g : Nat} {W K V A B Ko Vo Ao Bo : List Int}
/-- what the class keeps of compares, after a sign that joins -/
theorem j_row {M18 : MM} {p : Int} {m : Nat} {c : Int} (h : M18 5 4 = (m : Int)) (hm : m ≤ 8) (h5 : 4 < p → M18 7 m = c) (h4 : p = 4 → c = 1) (h3 : p < 4 → c = 0) : ∃ M25, ((if 4 < p then
(some M18)
else
((if p = 4 then
(some 1)
else
some 0) : Option (Int)).bind fun x21 =>
gd (0 ≤ M18 5 4 ∧ M18 5 4 < (9 : Int)) <|
gd (x21 = 0 ∨ x21 = 1) <|
bM (upM M18 7 (M18 5 4).toNat x21) fun M24 =>
some M24) : Option (MM)) = some M25 ∧ M25 7 m = c ∧ (∀ i, i ≠ m → M25 7 i = M18 7 i) ∧ ∀ a j, a ≠ 7 → M25 a j = M18 a j := by
  have z : 0 ≤ (m : Int) ∧ (m : Int) < 9 := by omega
  by_cases q : 4 < p
  · rw [if_pos q]
    exact ⟨M18, rfl, h5 q, fun _ _ => rfl, fun _ _ _ => rfl⟩
  · rw [if_neg q]
    by_cases r : p = 4
    · rw [if_pos r, Option.bind_some, h, gd_t z, gd_t (Or.inr rfl), Int.toNat_natCast, bM_eq]
      exact ⟨_, rfl, by rw [upM_eq, h4 r], fun i hi => up_ni hi, fun a j ha => up_na ha⟩
    · rw [if_neg r, Option.bind_some, h, gd_t z, gd_t (Or.inl rfl), Int.toNat_natCast, bM_eq]
      exact ⟨_, rfl, by rw [upM_eq, h3 (by omega)], fun i hi => up_ni hi, fun a j ha => up_na ha⟩
/-- a sign that joins, where there is room -/
theorem join_GO (hg : g = 8 ∨ g = 31) (k : RT' M N n t) (x : FX M N g W K V A B Ko Vo Ao Bo) (due : M 5 5 = 0) (jb : JB (M 3 4)) {p pm : Int} (hp : p = rk (M 3 4)) (hpm : pm = if p = 4 then 5 else p) (hct : p = 4 → CT W = 0) (q : nz W + (Ko.length + K.length) < 64) {N1 : MM} {A' B' : List Int} (s1 : NFS N1 (wr pm W) (plc Ko.length (kr pm W K)) (Ko.length + (kr pm W K).length) ((kr pm W K ++ Ko).map mk) (A' ++ Ao) (B' ++ Bo)) (s3 : FBN N1 N) (s4 : OKK Ko.length (kr pm W K) (vr pm W V) A' B') (s5 : (plc Ko.length (kr pm W K)).length = bn (wr pm W) + 1) (s6 : nz (wr pm W) + (Ko.length + (kr pm W K).length) = nz W + (Ko.length + K.length)) : ∃ M1 N2, (bM (upM M (g + 12) 7 (w32 ((M (g + 12) 7) + 1))) fun M16 =>
(f_X1_release M16 (g + 12) p).bind fun x17 =>
(f_X1_await x17 (M 3 4)).bind fun x18 =>
((if 4 < p then
(some x18)
else
((if p = 4 then
(some 1)
else
some 0) : Option (Int)).bind fun x21 =>
gd (0 ≤ x18 5 4 ∧ x18 5 4 < (9 : Int)) <|
gd (x21 = 0 ∨ x21 = 1) <|
bM (upM x18 7 (x18 5 4).toNat x21) fun M24 =>
some M24) : Option (MM)).bind fun x25 =>
bM (upM x25 5 5 1) fun M26 =>
((if p < 4 then
(some 1)
else
some 0) : Option (Int)).bind fun x28 =>
gd (x28 = 0 ∨ x28 = 1) <|
bM (upM M26 5 6 x28) fun M30 =>
some ((0 : Int), M30)) = some (0, M1) ∧ jnE N (cd (M 3 4)) N1 = ((f_X12_token N2).bind fun y => some (1, y)) ∧ FF1 g M1 M ∧ FN1 N2 N ∧ FX M1 N2 g (M 3 4 :: wr pm W) (kr pm W K) (vr pm W V) A' B' Ko Vo Ao Bo := by
  obtain ⟨c1, c2, ⟨c3, c4⟩, ⟨d1, d2, d3⟩, ⟨e1, e2⟩, ⟨i1, i2, i3⟩, j, ⟨k1, k2, k3⟩, l⟩ := x
  obtain ⟨jk, jk1, jk2⟩ := jb
  obtain ⟨p1, p3⟩ := rk_jb.mpr ⟨jk, jk1, jk2⟩
  rw [← hp] at p1 p3
  have pm1 : 1 ≤ pm := by rw [hpm]; split <;> omega
  have cc : CFS (upM M (g + 12) 7 ((nz W + (Ko.length + K.length) + 1 : Nat) : Int)) g W (K ++ Ko) (V ++ Vo) := c1.cg (up_na (by omega)) (fun j => up_na (by omega)) (up_ni (by decide)) (fun j => up_na (by omega)) (fun j => up_na (by omega))
  obtain ⟨M17, r1, r2, r3⟩ := rel_c hg (p := p) p1 cc c3 d3 k3
  have tpl : tp (wr pm W) < p := by
    by_cases w : p = 4
    · have := tp_wr p p1 W
      rw [hpm, if_pos w, ← (wr_45 W (hct w)).1, ← w]
      exact this
    · rw [hpm, if_neg w]; exact tp_wr p p1 W
  have r2' : CFS M17 g (wr pm W) (kr pm W K ++ Ko) (vr pm W V ++ Vo) := by
    by_cases w : p = 4
    · obtain ⟨w1, w2, w3⟩ := wr_45 W (hct w)
      rw [hpm, if_pos w, ← w1, ← w2, ← w3, ← w]
      exact r2
    · rw [hpm, if_neg w]; exact r2
  have h1 := AJ_wr pm W c3
  have h2 := SO_wr pm W c4
  have h3 := nb_wr pm1 W
  have h4 := CP_wr (p := pm) (M 7) W e2
  have lw := len_wr pm W
  have nbz := nb_nz (wr pm W)
  obtain ⟨M18, t1, t2, t3⟩ := c_await (x := M 3 4) r2' hg (by omega)
  have m18 : ∀ a i, a ≠ 6 → ¬ (a = 5 ∧ i = 3) → ¬ (a = g + 12 ∧ (i = 6 ∨ i = 7)) → a ≠ g + 13 → a ≠ g + 14 → M18 a i = M a i := fun a i y1 y2 y3 y4 y5 => by
    rw [t3 a i y1 y2, r3 a i y2 (by omega) y4 y5, upM_ne a i (by omega)]
  have cte : CT (M 3 4 :: wr pm W) = if rk (M 3 4) = 4 then 1 else CT (wr pm W) := if_neg jk1
  rw [← hp] at cte
  obtain ⟨M25, v1, v2, v3, v4⟩ := j_row (M18 := M18) (p := p) (m := nb W) (c := CT (M 3 4 :: wr pm W)) (by rw [m18 5 4 (by decide) (by decide) (by omega) (by omega) (by omega)]; exact d1) d3 (fun w => by
      rw [m18 7 (nb W) (by omega) (by omega) (by omega) (by omega) (by omega), cte, if_neg (by omega), e1, CT_ge (by rw [hpm, if_neg (by omega)]; omega)]) (fun w => by rw [cte, if_pos w]) (fun w => by
      rw [cte, if_neg (by omega)]
      exact CT_lo _ h2 (by omega))
  have nn : NFS (upM N1 88 48 ((nz W + (Ko.length + K.length) + 1 : Nat) : Int)) (wr pm W) (plc Ko.length (kr pm W K)) (Ko.length + (kr pm W K).length) ((kr pm W K ++ Ko).map mk) (A' ++ Ao) (B' ++ Bo) := s1.cg (fun a j h => upM_ne a j (by omega))
  obtain ⟨N42, u1, u2, u3⟩ := m_waits (x := M 3 4) nn (by omega)
  have hf : ∃ b : Int, (b = 0 ∨ b = 1) ∧ ((if p < 4 then some 1 else some 0) : Option Int) = some b ∧ ((if p < 3 then some 1 else some 0) : Option Int) = some b ∧ (b = 1 → p ≤ 3) := by
    by_cases w : p < 4
    · exact ⟨1, Or.inr rfl, if_pos w, if_pos (by omega), fun _ => by omega⟩
    · exact ⟨0, Or.inl rfl, if_neg w, if_neg (by omega), fun z => absurd z (by decide)⟩
  obtain ⟨b, b0, b1, b2, b3⟩ := hf
  have n48 : N1 88 48 = ((nz W + (Ko.length + K.length) : Nat) : Int) := by rw [s3 88 48 (by decide) (by decide) (by decide)]; exact k2
  refine ⟨upM (upM M25 5 5 1) 5 6 b, upM (upM N42 88 49 1) 88 50 b, ?_, ?_, ?_, ?_, ⟨?_, ?_, ⟨⟨jk, h1⟩, Or.inr ?_, h2⟩, ⟨?_, ?_, ?_⟩, ⟨?_, ?_, ?_⟩, ⟨?_, ?_, ?_⟩, Or.inr ⟨?_, ?_, ?_⟩, ⟨?_, ?_, ?_⟩, s4⟩⟩
  · rw [k1, wi7 (by omega), bM_eq, r1, Option.bind_some, t1, Option.bind_some, v1, Option.bind_some, bM_eq, b1, Option.bind_some, gd_t b0, bM_eq]
  · unfold jnE
    rw [m_counted n48 q, Option.bind_some, if_neg (show ¬ ((1 : Int) = 0) by decide), u1, Option.bind_some, bM_eq, m_rank _ jk, Option.bind_some, ← hp, b2, Option.bind_some, gd_t b0, bM_eq]
  · intro a i y1 y2 y3 y4 y5 y6
    rw [upM_ne a i (by omega), upM_ne a i (by omega), v4 a i y3, m18 a i y2 (by omega) y4 y5 y6]
  · intro a i y1 y2 y3 y4
    rw [upM_ne a i (by omega), upM_ne a i (by omega), u3 a i y3 (by omega), upM_ne a i (by omega), s3 a i (by omega) y2 y4]
  · exact t2.cg (by rw [up_ni (by decide), up_ni (by decide), v4 5 3 (by decide)]) (fun i => by rw [up_na (by decide), up_na (by decide), v4 6 i (by decide)]) (by rw [up_na (by omega), up_na (by omega), v4 _ _ (by omega)]) (fun i => by rw [up_na (by omega), up_na (by omega), v4 _ _ (by omega)]) (fun i => by rw [up_na (by omega), up_na (by omega), v4 _ _ (by omega)])
  · exact u2.cg (fun a j h => by rw [upM_ne a j (by omega), upM_ne a j (by omega)])
  · rw [← hp]; omega
  · rw [up_ni (by decide), up_ni (by decide), v4 5 4 (by decide), m18 5 4 (by decide) (by decide) (by omega) (by omega) (by omega), d1]
    show (nb W : Int) = (((if M 3 4 = 40 then 1 else 0) + nb (wr pm W) : Nat) : Int)
    rw [if_neg jk1, h3]; congr 1; omega
  · rw [up_ni (by decide), up_ni (by decide), u3 88 47 (by decide) (by decide), up_ni (by decide), s3 88 47 (by decide) (by decide) (by decide), d2]
    show (nb W : Int) = (((if M 3 4 = 40 then 1 else 0) + nb (wr pm W) : Nat) : Int)
    rw [if_neg jk1, h3]; congr 1; omega
  · show (if M 3 4 = 40 then 1 else 0) + nb (wr pm W) ≤ 8
    rw [if_neg jk1, h3]; omega
  · have e : nb (M 3 4 :: wr pm W) = nb W := by
      show (if M 3 4 = 40 then 1 else 0) + nb (wr pm W) = nb W
      rw [if_neg jk1, h3]; omega
    rw [e, up_na (by decide), up_na (by decide)]; exact v2
  · intro z; exact absurd z jk1
  · exact h4.cg (fun i hi => by rw [up_na (by decide), up_na (by decide), v3 i (by omega), m18 7 i (by omega) (by omega) (by omega) (by omega) (by omega)])
  · rw [up_ni (by decide), upM_eq, up_ni (by decide), upM_eq]
  · rw [upM_eq, upM_eq]
  · rw [upM_eq]; exact b0
  · rw [up_ni (by decide), upM_eq]
  · show _ = (if M 3 4 = 40 ∨ M 3 4 = 312 then 0 else 1) + bn (wr pm W)
    rw [if_neg (by omega), s5]; omega
  · rw [upM_eq]
    intro z
    show rk (M 3 4) ≤ 3
    rw [← hp]; exact b3 z
  · rw [up_na (by omega), up_na (by omega), v4 _ _ (by omega), t3 _ _ (by omega) (by omega), r3 _ _ (by omega) (by omega) (by omega) (by omega), upM_eq]
    show _ = (((if M 3 4 = 40 then 0 else 1) + nz (wr pm W) + (Ko.length + (kr pm W K).length) : Nat) : Int)
    rw [if_neg jk1]; congr 1; omega
  · rw [up_ni (by decide), up_ni (by decide), u3 88 48 (by decide) (by decide), upM_eq]
    show _ = (((if M 3 4 = 40 then 0 else 1) + nz (wr pm W) + (Ko.length + (kr pm W K).length) : Nat) : Int)
    rw [if_neg jk1]; congr 1; omega
  · show (if M 3 4 = 40 then 0 else 1) + nz (wr pm W) + (Ko.length + (kr pm W K).length) ≤ 64
    rw [if_neg jk1]; omega
end FORM
