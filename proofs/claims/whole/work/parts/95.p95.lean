section LAWC
variable {M N H S B T ST : MM} {LV : LVT} {h : Nat} {o : Int}
theorem BA.out (g : BA M N h H LV S) : BA (upM M 54 6 o) N h H LV (upM S 0 6 o) := by
  obtain ⟨⟨a1, a2, a3, a4, a5⟩, ⟨b1, b2, b3⟩, ⟨c1, c2, c3, c4, c5, c6⟩, d1, d2, d3⟩ := g
  have p0 : ∀ j, j ≠ 6 → upM S 0 6 o 0 j = S 0 j := fun j hj => up_ni hj
  have pa : ∀ a j, a ≠ 0 → upM S 0 6 o a j = S a j := fun a j ha => up_na ha
  refine ⟨⟨a1, ?_, ?_, ?_, a5.up0⟩, ⟨b1, b2, ?_⟩, ⟨c1, c2, c3, SOK_6 c4, ?_, ?_⟩, ?_, ?_, ?_⟩
  · rw [up_na (by decide)]; exact a2
  · intro k k1 k2 k3
    rw [up_row (by omega)]
    exact a3 k k1 k2 k3
  · intro m hm w hw hn
    exact a4 m (fun k x y => by rw [hm k x y, up_row (by omega)]) w hw hn
  · unfold CM0 at *
    simp (disch := decide) only [p0, pa]
    exact b3
  · unfold SP at *
    simp (disch := decide) only [p0]
    exact c5
  · rw [p0 1 (by decide)]; exact c6
  · intro j hj; rw [pa 1 j (by decide)]; exact d1 j hj
  · intro j hj; rw [pa 1 j (by decide)]; exact d2 j hj
  · rw [p0 2 (by decide)]; exact d3
theorem RX.out (x : RX M N h H S) : RX (upM M 54 6 o) N h H (upM S 0 6 o) := by
  have ca : ∀ a, a ≠ 54 → upM M 54 6 o a = M a := fun a ha => up_row ha
  have sn : ∀ j, snp (upM S 0 6 o) j = snp S j := fun j => by
    unfold snp
    rw [up_ni (by decide), up_ni (by decide), up_ni (by decide), up_na (by decide)]
  have ru : ∀ n k j, rowU N (upM S 0 6 o) n k j = rowU N S n k j := fun n k j => by
    unfold rowU
    rw [sn]
  obtain ⟨x1, x2, x3, x4, ⟨x5, x6, x7⟩, x8, x9⟩ := x
  refine ⟨?_, ?_, ?_, ?_, ⟨?_, ?_, ?_⟩, ?_, ?_⟩
  · unfold TPR at *; simp (disch := decide) only [ca]; exact x1
  · simp (disch := decide) only [ca]; exact x2
  · unfold LGR at *; simp (disch := decide) only [ca]; exact x3
  · unfold PAR RowOK at *; simp (disch := decide) only [ca, ru]; exact x4
  · simp (disch := decide) only [ca]; exact x5
  · simp (disch := decide) only [ca]; exact x6
  · simp (disch := decide) only [ca]
    intro z
    obtain ⟨J, j1, j2⟩ := x7 z
    exact ⟨J, fun k hk => by rw [ca (62 + k) (by omega)]; exact j1 k hk, j2⟩
  · unfold WDR at *; simp (disch := decide) only [ca]; exact x8
  · simp (disch := decide) only [ca]; exact x9
/-- a law asked of the second system, as it is now -/
theorem m_lawq (g : BA M N h H LV S) (tm : TM N S) (rw0 : RW N H S 0) (e77 : N 88 77 = 0) {w : Nat} (hw : w < 3) {r : Nat} (hr : (r : Int) < H 1 0) {felt wish : Int} (hf : 0 ≤ felt ∧ felt ≤ 620) (hwi : 0 ≤ wish ∧ wish ≤ 400) : ∃ N2, f_X12_layNames N 0 (r : Int) felt wish = some N2 ∧ FQ N2 N ∧ (N 106 w = 0 → ∀ x, LV w x = none) ∧ (N 106 w ≠ 0 → ∃ v N3, f_X12_lawOf N2 (w : Int) = some (v, N3) ∧ FQ N3 N ∧ (if N3 88 53 = 0 then some (v, N3) else some (-9223372036854775808, N3)) = some ((LV w (aNm S (aOut H (S 0 2)) r felt wish (H 4 r))).getD ERR, N3)) := by
  obtain ⟨_, ⟨b1, b2, b3⟩, ⟨c1, c2, c3, c4, c5, c6⟩, d1, d2⟩ := g
  have hor := aOut_r c1 (S 0 2)
  have hR := c1.2.2.2.2.2.2.2.2.1 r hr
  have h5 := c1.1
  have hlk : aLeak H S r = H 4 r := by unfold aLeak; rw [if_neg (by rw [d2.1 6 (by decide)]; omega)]
  obtain ⟨N2, e1, n1, f1⟩ := m_names (b := 0) (o := aOut H (S 0 2)) b1 c1 tm rw0 b3.1.1 b3.1.2.1 c4 (by decide) (by rw [e77]; decide) (by rw [e77, Int.add_zero, cl_in hor]) hr felt wish
  rw [hlk] at n1
  have f2 : FQ N2 N := fun a j hn => by rw [f1 a (fun z => hn (by unfold QS MS; omega))]
  have ok := aNm_ok c1 c4 (r := r) (by omega) hor hf hwi (leak := H 4 r) (by omega)
  obtain ⟨m1, m2⟩ := b2 N2 (fun a j _ => congrFun (f1 a (by omega)) j) w hw (fun j hj => by rw [n1 j hj]; exact ok j hj)
  refine ⟨N2, e1, f2, m1, fun z => ?_⟩
  obtain ⟨v, N3, e2, f3, q⟩ := m2 z
  have f4 : FQ N3 N := FQ.tr (fun a j hn => f3 a j (fun z => hn (by unfold QS MS; omega)) (by unfold QS MS at hn; omega)) f2
  rw [c2 w _ _ n1] at q
  refine ⟨v, N3, e2, f4, ?_⟩
  rcases q with ⟨q1, q2⟩ | ⟨q1, q2⟩
  · rw [if_neg q2, q1]; rfl
  · rw [if_pos q2, q1]; rfl
theorem aNm_6 {r : Nat} {felt wish leak : Int} : aNm (upM S 0 6 o) o r felt wish leak = aNm S o r felt wish leak := by
  unfold aNm
  rw [up_na (by decide), up_ni (by decide), up_ni (by decide)]
theorem q_law (g : BA M N h H LV S) (p1 p2 : Int) : ∃ r M' N', f_X11_law M p1 p2 = some (r, M') ∧ f_X12_law N p1 p2 = some (r, N') ∧ (FrX h M' (upM M 54 6 (aOut H (S 0 2))) ∧ ∀ a, 88 ≤ a → M' a = M a) ∧ FQ N' N := by
  obtain ⟨g0, f0⟩ := thr0 g
  obtain ⟨_, _, r3, r4, _⟩ := rooms0 g
  obtain ⟨N1, e1, tm, rw0, e77, cm, f1⟩ := base_TM g0
  have gg := g0.q Fr3.rf f1
  have hso := g.2.2.1.2.2.2.1
  have hHo := g.2.2.1.1
  have h5 := hHo.1
  have h6 := hHo.2.1
  have hor := aOut_r hHo (S 0 2)
  have eo := c_outAt (t := S 0 2) g.1.2.2.1 hHo hso.1.1
  have et : M 54 2 = S 0 2 := g.1.2.2.2.2.at0
  have g3 := g.out (o := aOut H (S 0 2))
  have e106 : ∀ w : Nat, upM N 88 2 0 106 w = N1 106 w := fun w => (f1 106 w (by unfold QS MS; omega)).symm
  have s1 : ∀ a, a ≠ 54 → upM M 54 6 (aOut H (S 0 2)) a = M a := fun a ha => up_row ha
  have refl2 : FrX h (upM M 54 6 (aOut H (S 0 2))) (upM M 54 6 (aOut H (S 0 2))) ∧ ∀ a, 88 ≤ a → upM M 54 6 (aOut H (S 0 2)) a = M a := ⟨FrX.rf, fun a ha => s1 a (by omega)⟩
  have s6 : upM S 0 6 (aOut H (S 0 2)) 0 6 = aOut H (S 0 2) := upM_eq
  obtain ⟨b1r, b2r, b3r, b4r⟩ := room_b g3 p2
  have b5r := (room_b g0 p2).2.1
  have b6r := (room_b g0 p2).2.2.2
  have lr := g3.1
  have st := g3.2.2.1
  unfold f_X11_law f_X12_law
  rw [r3, gH_h r4, et, eo, Option.bind_some, bM_eq, bM_eq, pu_isIn, Option.bind_some, if_b1, b1r, b3r, b5r, b6r]
  simp only [Option.bind_some, if_b1]
  rw [bS_if]
  have key : ∀ {w : Nat} {r : Nat} {felt wish : Int} {M' : MM}, w < 3 → (r : Int) < H 1 0 → (0 ≤ felt ∧ felt ≤ 620) → (0 ≤ wish ∧ wish ≤ 400) → Fr2 h M' (upM M 54 6 (aOut H (S 0 2))) → ∀ (o2 : Option (Int × MM)), (N1 106 w = 0 → o2 = some (-9223372036854775808, upM N 88 2 0)) → (N1 106 w ≠ 0 → ∀ N2, f_X12_layNames N1 0 (r : Int) felt wish = some N2 → o2 = (f_X12_lawOf N2 (w : Int)).bind fun x20 => if (x20.2 88 53) = 0 then (some (x20.1, x20.2)) else some ((-9223372036854775808), x20.2)) → ∃ rr M'' N', (some ((LV w (aNm S (aOut H (S 0 2)) r felt wish (H 4 r))).getD ERR, M') : Option (Int × MM)) = some (rr, M'') ∧ o2 = some (rr, N') ∧ (FrX h M'' (upM M 54 6 (aOut H (S 0 2))) ∧ ∀ a, 88 ≤ a → M'' a = M a) ∧ FQ N' N := by
    intro w r felt wish M' hw hr hf hwi fr o2 k1 k2
    obtain ⟨N2, l1, l2, l3, l4⟩ := m_lawq gg tm rw0 e77 hw hr hf hwi
    have fr' : FrX h M' (upM M 54 6 (aOut H (S 0 2))) ∧ ∀ a, 88 ≤ a → M' a = M a := ⟨fun a _ _ _ x y => fr a x y, fun a ha => by rw [fr a (by omega) (by omega), s1 a (by omega)]⟩
    by_cases z : N1 106 w = 0
    · rw [l3 z]
      exact ⟨_, M', _, rfl, k1 z, fr', f0⟩
    · obtain ⟨v, N3, l5, l6, l7⟩ := l4 z
      refine ⟨_, M', N3, rfl, ?_, fr', l6.tr (f1.tr f0)⟩
      rw [k2 z N2 l1, l5, Option.bind_some]
      exact l7
  by_cases c0 : p1 = 0
  · subst c0
    rw [if_pos rfl, if_pos (show (0 : Int) ≤ 0 ∧ (0 : Int) ≤ 2 by decide), gd_t (by decide)]
    by_cases q : 0 ≤ p2 ∧ p2 < H 1 0
    · obtain ⟨r, rfl⟩ := nat_of q.1
      have z5 : 0 ≤ (r : Int) ∧ (r : Int) < 5 := by omega
      have hR := hHo.2.2.2.2.2.2.2.2.1 r q.2
      have elk : upM M 54 6 (aOut H (S 0 2)) (h + 4) r = H 4 r := by rw [s1 (h + 4) (by omega), g.1.2.2.1.at (by decide) (by decide) (by decide)]
      obtain ⟨M', e2, fr⟩ := c_rlaw r4 (by decide) hHo lr.2.2.2.2 st.2.2.2.1 st.2.2.2.2.2 lr.2.2.2.1 st.2.1 (by rw [s6]; exact hor) (r := r) (by omega) (leak := H 4 r) (by omega)
      rw [s6, aNm_6] at e2
      rw [if_pos q, lr.2.1, gH_h r4, gd_t z5, Int.toNat_natCast, elk, e2, Option.bind_some, bS_r]
      refine key (w := 0) (r := r) (felt := 0) (wish := 0) (by decide) q.2 (by decide) (by decide) fr _ (fun z => ?_) (fun z N2 hN2 => ?_)
      · rw [if_pos (show upM N 88 2 0 106 (0 : Int).toNat = 0 by rw [e106]; exact z)]
      · rw [if_neg (show ¬ upM N 88 2 0 106 (0 : Int).toNat = 0 by rw [e106]; exact z), bS_if, if_pos rfl, if_pos q, bS_l, e1, Option.bind_some, if_pos rfl, hN2]
        rfl
    · rw [if_neg q, bS_l, if_neg (by decide), if_neg (by decide), bS_r]
      by_cases z : upM N 88 2 0 106 (0 : Int).toNat = 0
      · rw [if_pos z]
        exact ⟨_, _, _, rfl, rfl, refl2, f0⟩
      · rw [if_neg z, bS_if, if_pos rfl, if_neg q, bS_r]
        exact ⟨_, _, _, rfl, rfl, refl2, f0⟩
  rw [if_neg c0, bS_l]
  have per : ∀ w : Nat, w < 3 → w ≠ 0 → p1 = (w : Int) → ∃ r M' N', (if 0 ≤ p2 ∧ p2 < H 6 0 then (f_X0_feltBy (upM M 54 6 (aOut H (S 0 2))) 54 p2).bind fun x16 => (f_X0_personLaw (upM M 54 6 (aOut H (S 0 2))) 54 p1 p2 x16).bind fun x17 => some (x17.1, x17.2) else some (-9223372036854775808, upM M 54 6 (aOut H (S 0 2)))) = some (r, M') ∧ (if upM N 88 2 0 106 p1.toNat = 0 then some (-9223372036854775808, upM N 88 2 0) else bS ((if p1 = 0 then (if 0 ≤ p2 ∧ p2 < H 1 0 then some (Sum.inl ()) else some (Sum.inr ((-9223372036854775808), upM N 88 2 0))) else (if 0 ≤ p2 ∧ p2 < H 6 0 then some (Sum.inl ()) else some (Sum.inr ((-9223372036854775808), upM N 88 2 0)))) : Option (Unit ⊕ (Int × MM))) (fun x11 => (f_X12_plainTried (upM N 88 2 0)).bind fun x12 => ((if p1 = 0 then ((f_X12_layNames x12 0 p2 0 0).bind fun x14 => some x14) else gd (0 ≤ p2 ∧ p2 < (10 : Int)) <| (f_X12_feltBy x12 0 p2).bind fun x16 => gd (0 ≤ p2 ∧ p2 < (10 : Int)) <| (f_X12_layNames x12 0 (x12 98 (p2).toNat) x16 (w32 (10 * (x12 99 (p2).toNat)))).bind fun x18 => some x18) : Option (MM)).bind fun x19 => (f_X12_lawOf x19 p1).bind fun x20 => if (x20.2 88 53) = 0 then (some (x20.1, x20.2)) else some ((-9223372036854775808), x20.2)) (fun r => r)) = some (r, N') ∧ (FrX h M' (upM M 54 6 (aOut H (S 0 2))) ∧ ∀ a, 88 ≤ a → M' a = M a) ∧ FQ N' N := by
    intro w hw hw0 hpw
    by_cases q : 0 ≤ p2 ∧ p2 < H 6 0
    · obtain ⟨p, rfl⟩ := nat_of q.1
      have z10 : 0 ≤ (p : Int) ∧ (p : Int) < 10 := by omega
      have hP := hHo.2.2.2.2.2.2.2.2.2.1 p q.2
      have fr := aFelt_r hHo hso q.2
      have sfel : aFelt H (upM S 0 6 (aOut H (S 0 2))) p = aFelt H S p := by unfold aFelt aLate; simp (disch := decide) only [up_na]
      have cf := c_felt r4 lr.2.2.1 hHo lr.2.2.2.2 st.2.2.2.1 st.2.2.2.2.2 q.2
      rw [sfel] at cf
      obtain ⟨M', e2, frm⟩ := c_plaw r4 (by decide) lr.2.2.1 hHo lr.2.2.2.2 st.2.2.2.1 st.2.2.2.2.2 lr.2.2.2.1 st.2.1 s6 hor hw q.2 fr
      rw [aNm_6, ← hpw] at e2
      have mf := m_felt (b := 0) gg.2.1.1 hHo tm rw0 (fun p hp => (cm.2.1 p hp).1) hso (by decide) q.2
      have mf : f_X12_feltBy N1 0 (p : Int) = some (aFelt H S p) := mf
      obtain ⟨_, e98, e99, _⟩ := gg.2.1.1.2.2.1 p q.2
      have w10 : w32 (10 * H 9 p) = 10 * H 9 p := w32_i (by omega) (by omega)
      have e8 : ((H 8 p).toNat : Int) = H 8 p := by clear w10; omega
      rw [if_pos q, cf, Option.bind_some, e2, Option.bind_some]
      refine key (w := w) (r := (H 8 p).toNat) (felt := aFelt H S p) (wish := 10 * H 9 p) hw (by clear w10; omega) fr (by clear w10; omega) frm _ (fun z => ?_) (fun z N2 hN2 => ?_)
      · rw [if_pos (show upM N 88 2 0 106 p1.toNat = 0 by rw [hpw, Int.toNat_natCast, e106]; exact z)]
      · rw [if_neg (show ¬ upM N 88 2 0 106 p1.toNat = 0 by rw [hpw, Int.toNat_natCast, e106]; exact z), bS_if, if_neg c0, if_pos q, bS_l, e1, Option.bind_some, if_neg c0, gd_t z10, mf, Option.bind_some, gd_t z10, Int.toNat_natCast, e98, e99, w10, ← e8, hN2, Option.bind_some, Option.bind_some, hpw]
    · rw [if_neg q]
      by_cases z : upM N 88 2 0 106 p1.toNat = 0
      · rw [if_pos z]
        exact ⟨_, _, _, rfl, rfl, refl2, f0⟩
      · rw [if_neg z, bS_if, if_neg c0, if_neg q, bS_r]
        exact ⟨_, _, _, rfl, rfl, refl2, f0⟩
  by_cases c1 : p1 = 1
  · rw [if_pos c1, bS_l, if_pos (show 0 ≤ p1 ∧ p1 ≤ 2 by omega), gd_t (by omega)]
    exact per 1 (by decide) (by decide) c1
  rw [if_neg c1]
  by_cases c2 : p1 = 2
  · rw [if_pos c2, bS_l, if_pos (show 0 ≤ p1 ∧ p1 ≤ 2 by omega), gd_t (by omega)]
    exact per 2 (by decide) (by decide) c2
  · rw [if_neg c2, bS_r, if_neg (by omega)]
    exact ⟨_, _, _, rfl, rfl, refl2, f0⟩
theorem al_law {X : MM} (hX : AL X) (p1 p2 : Int) : AN (f_X11_law X p1 p2) (fun m => f_X12_law m p1 p2) := by
  obtain ⟨h, H, LV, S, g, x⟩ := hX
  have hh := g.1.1
  obtain ⟨r, M1, _, e1, _, ⟨f1, f1b⟩, _⟩ := q_law g p1 p2
  have fx : FQX M1 X := fun a j ha _ _ => by rw [f1b a ha]
  have g1 := g.cg FrX.rf fx
  have x1 := x.cg hh FrX.rf fx
  obtain ⟨r', M1', M2, e1', e2, _, f2⟩ := q_law g1 p1 p2
  rw [e1] at e1'
  cases e1'
  have g2 := g1.out (o := aOut H (S 0 2))
  have x2 := x1.out (o := aOut H (S 0 2))
  have fa : FrX h M2 (upM X 54 6 (aOut H (S 0 2))) := fun a h1 h2 h3 h4 h5 => by
    rw [show M2 a = M1 a from funext fun j => f2 a j (by unfold QS MS; omega)]
    exact f1 a h1 h2 h3 h4 h5
  exact ⟨r, M1, M2, e1, e2, h, H, LV, _, g2.cg fa f2.x, x2.cg hh fa f2.x⟩
theorem q_person (g : BA M N h H LV S) (p1 p2 : Int) : ∃ k b N', f_Lperson M p1 p2 = some (k, if k = 0 then upM M 139 0 b else M) ∧ f_X12_person N p1 p2 = some (b, N') ∧ N' 88 2 = k ∧ FQ N' N := by
  obtain ⟨g0, f0⟩ := thr0 g
  obtain ⟨_, _, r3, r4, _⟩ := rooms0 g
  obtain ⟨N1, e1, tm, rw0, e77, cm, f1⟩ := base_TM g0
  have hso := g.2.2.1.2.2.2.1
  have hHo := g.2.2.1.1
  have h6 := hHo.2.1
  have e2 : N1 88 2 = 0 := by
    obtain ⟨N2, a1, a2, a3⟩ := m_plain (N := upM N 88 2 0)
    rw [e1] at a1
    cases a1
    rw [a3 88 2 (by omega), upM_eq]
  have gg := g0.q Fr3.rf f1
  have f1 := f1.tr f0
  unfold f_Lperson f_X12_person
  rw [bM_eq, (room_b g p1).2.2.1, (room_b g0 p1).2.2.2, Option.bind_some, Option.bind_some, if_b1, if_b1]
  by_cases q : 0 ≤ p1 ∧ p1 < H 6 0
  rotate_left
  · rw [if_neg q, if_neg q]
    unfold f_X12_fails
    exact ⟨1, 0, upM (upM N 88 2 0) 88 2 1, rfl, rfl, upM_eq, f0.up (by unfold QS; omega)⟩
  rw [if_pos q, if_pos q, r3, gH_h r4]
  obtain ⟨p, rfl⟩ := nat_of q.1
  have z5 : 0 ≤ (p : Int) ∧ (p : Int) < 5 := by omega
  have z10 : 0 ≤ (p : Int) ∧ (p : Int) < 10 := by omega
  have cf := c_felt r4 g.1.2.2.1 hHo g.1.2.2.2.2 hso g.2.2.1.2.2.2.2.2 q.2
  have mf := m_felt (b := 0) gg.2.1.1 hHo tm rw0 (fun p hp => (cm.2.1 p hp).1) hso (by decide) q.2
  have mf : f_X12_feltBy N1 0 (p : Int) = some (aFelt H S p) := mf
  obtain ⟨_, e98, e99, e100, e101⟩ := gg.2.1.1.2.2.1 p q.2
  obtain ⟨l1, l2, l3⟩ := gg.2.1.2.2.2.1 p (by omega)
  have c8 : M (h + 8) p = H 8 p := g.1.2.2.1.at (by decide) (by decide) (by decide)
  have c9 : M (h + 9) p = H 9 p := g.1.2.2.1.at (by decide) (by decide) (by decide)
  have c10 : M (h + 10) p = H 10 p := g.1.2.2.1.at (by decide) (by decide) (by decide)
  have c11 : M (h + 11) p = H 11 p := g.1.2.2.1.at (by decide) (by decide) (by decide)
  have c58 : M 58 p = S 4 p := g.1.2.2.2.2.at (k := 4) (by decide)
  have c56 : M 56 p = S 2 p := g.1.2.2.2.2.at (k := 2) (by decide)
  rw [gd_t z5, e1, Option.bind_some, cf, mf, Option.bind_some, Option.bind_some, Int.toNat_natCast]
  simp only [gd_t z10, e98, e99, e100, e101, l1, l3, c8, c9, c10, c11, c58, c56]
  have fin : ∀ v : Int, ∃ k b N', (some (0, upM M 139 0 v) : Option (Int × MM)) = some (k, if k = 0 then upM M 139 0 b else M) ∧ (some (v, N1) : Option (Int × MM)) = some (b, N') ∧ N' 88 2 = k ∧ FQ N' N := fun v => ⟨0, v, N1, rfl, rfl, e2, f1⟩
  have a1 : ∀ (c : Prop) [Decidable c] (o1 o1' o2 o2' : Option (Int × MM)), (∃ k b N', o1 = some (k, if k = 0 then upM M 139 0 b else M) ∧ o2 = some (b, N') ∧ N' 88 2 = k ∧ FQ N' N) → (∃ k b N', o1' = some (k, if k = 0 then upM M 139 0 b else M) ∧ o2' = some (b, N') ∧ N' 88 2 = k ∧ FQ N' N) → ∃ k b N', (if c then o1 else o1') = some (k, if k = 0 then upM M 139 0 b else M) ∧ (if c then o2 else o2') = some (b, N') ∧ N' 88 2 = k ∧ FQ N' N := fun c _ o1 o1' o2 o2' h1 h2 => by
    by_cases z : c
    · rw [if_pos z, if_pos z]; exact h1
    · rw [if_neg z, if_neg z]; exact h2
  refine a1 _ _ _ _ _ (fin _) ?_
  refine a1 _ _ _ _ _ (fin _) ?_
  refine a1 _ _ _ _ _ (fin _) ?_
  refine a1 _ _ _ _ _ (fin _) ?_
  refine a1 _ _ _ _ _ (fin _) ?_
  refine a1 _ _ _ _ _ (fin _) ?_
  refine a1 _ _ _ _ _ (a1 _ _ _ _ _ (fin _) (fin _)) ?_
  unfold f_X12_fails
  exact ⟨2, 0, upM N1 88 2 2, rfl, rfl, upM_eq, f1.up (by unfold QS; omega)⟩
theorem al_person {X : MM} (hX : AL X) (p1 p2 : Int) : ∃ k M1 b M2, f_Lperson X p1 p2 = some (k, M1) ∧ f_X12_person M1 p1 p2 = some (b, M2) ∧ f_X12_thrown M2 = some k ∧ (k = 0 → cmpI (M2 139 0) b = 0) ∧ AL M2 := by
  obtain ⟨h, H, LV, S, g, x⟩ := hX
  have hh := g.1.1
  obtain ⟨k, b, _, e1, _, _, _⟩ := q_person g p1 p2
  have fx : ∀ a j, a < 139 → (if k = 0 then upM X 139 0 b else X) a j = X a j := fun a j ha => by
    split
    · exact up_na (by omega)
    · rfl
  have g1 := g.cg (N' := if k = 0 then upM X 139 0 b else X) FrX.rf (fun a j h1 h2 h3 => fx a j h2)
  obtain ⟨k', b', M2, e1', e2, e3, f2⟩ := q_person g1 p1 p2
  rw [e1] at e1'
  have ek : k = k' := congrArg Prod.fst (Option.some.inj e1')
  subst ek
  have fm : ∀ a, a < 88 → M2 a = X a := fun a ha => funext fun j => by rw [f2 a j (by unfold QS MS; omega), fx a j (by omega)]
  have fq : FQX M2 X := fun a j h1 h2 h3 => by rw [f2 a j h3, fx a j h2]
  refine ⟨k, _, b', M2, e1, e2, by unfold f_X12_thrown; rw [e3], fun z => ?_, h, H, LV, S, g.cg (fun a h1 _ _ _ _ => fm a h1) fq, x.cg hh (fun a h1 _ _ _ _ => fm a h1) fq⟩
  rw [cmpI_eq, f2 139 0 (by unfold QS MS; omega), if_pos z, upM_eq]
  rw [if_pos z, if_pos z] at e1'
  have := congrArg (fun o : Option (Int × MM) => (o.getD (0, X)).2 139 0) e1'
  dsimp only [Option.getD] at this
  rw [upM_eq, upM_eq] at this
  exact this
end LAWC
