section STILL
variable {M N H S B T ST : MM} {LV : LVT} {h : Nat} {fl : Prop}
def stS (S T : MM) (d : Int) : MM := upM (upM (aTry S T) 1 0 1) 0 3 d
def alS (S T : MM) (d : Int) : MM := upM (stS S T d) 1 1 1
theorem CM.set {b : Nat} (hC : CM N H S B b fl) (d : Int) : CM (upM N 121 b d) H (upM S 0 3 d) B b fl := by
  obtain ⟨⟨c1, c2, c3, c4, c5, c6, c7⟩, g2, g3, g4, g5, g6, g7⟩ := hC
  have fa : ∀ a j, a ≠ 121 → upM N 121 b d a j = N a j := fun a j h1 => up_na h1
  have p0 : ∀ j, j ≠ 3 → upM S 0 3 d 0 j = S 0 j := fun j h1 => up_ni h1
  have pa : ∀ a j, a ≠ 0 → upM S 0 3 d a j = S a j := fun a j h => up_na h
  refine ⟨⟨?_, ?_, ?_, ?_, ?_, ?_, ?_⟩, ?_, ?_, ?_, ?_, ?_, ?_⟩
  · rw [fa _ _ (by decide), p0 _ (by decide)]; exact c1
  · rw [upM_eq, upM_eq]
  · rw [fa _ _ (by decide), p0 _ (by decide)]; exact c3
  · rw [fa _ _ (by decide), p0 _ (by decide)]; exact c4
  · rw [fa _ _ (by decide), p0 _ (by decide)]; exact c5
  · rw [fa _ _ (by decide), p0 _ (by decide)]; exact c6
  · rw [fa _ _ (by decide), p0 _ (by decide)]; exact c7
  · simp (disch := decide) only [fa, pa]; exact g2
  · unfold RW at *; simp (disch := decide) only [fa, pa]; exact g3
  · simp (disch := decide) only [fa, pa]; exact g4
  · simp (disch := decide) only [fa, pa]; exact g5
  · simp (disch := decide) only [fa, p0]; exact g6
  · unfold TM at *; simp (disch := decide) only [fa, pa]; exact g7
theorem CM.hang {b : Nat} (hC : CM N H S B b fl) (d : Int) : CM (upM N 122 b d) H (upM S 0 4 d) B b fl := by
  obtain ⟨⟨c1, c2, c3, c4, c5, c6, c7⟩, g2, g3, g4, g5, g6, g7⟩ := hC
  have fa : ∀ a j, a ≠ 122 → upM N 122 b d a j = N a j := fun a j h1 => up_na h1
  have p0 : ∀ j, j ≠ 4 → upM S 0 4 d 0 j = S 0 j := fun j h1 => up_ni h1
  have pa : ∀ a j, a ≠ 0 → upM S 0 4 d a j = S a j := fun a j h => up_na h
  refine ⟨⟨?_, ?_, ?_, ?_, ?_, ?_, ?_⟩, ?_, ?_, ?_, ?_, ?_, ?_⟩
  · rw [fa _ _ (by decide), p0 _ (by decide)]; exact c1
  · rw [fa _ _ (by decide), p0 _ (by decide)]; exact c2
  · rw [upM_eq, upM_eq]
  · rw [fa _ _ (by decide), p0 _ (by decide)]; exact c4
  · rw [fa _ _ (by decide), p0 _ (by decide)]; exact c5
  · rw [fa _ _ (by decide), p0 _ (by decide)]; exact c6
  · rw [fa _ _ (by decide), p0 _ (by decide)]; exact c7
  · simp (disch := decide) only [fa, pa]; exact g2
  · unfold RW at *; simp (disch := decide) only [fa, pa]; exact g3
  · simp (disch := decide) only [fa, pa]; exact g4
  · simp (disch := decide) only [fa, pa]; exact g5
  · simp (disch := decide) only [fa, p0]; exact g6
  · unfold TM at *; simp (disch := decide) only [fa, pa]; exact g7
/-- a twist changed on both sides -/
theorem CM.tw {b i : Nat} (hC : CM N H S B b fl) {v : Int} {n : Nat} (hn : 69 ≤ n ∧ n ≤ 77) (hT : TM (upM N 88 n v) (upM S 1 i v)) (h1 : upM S 1 i v 1 1 = 0 → S 1 1 = 0) : CM (upM N 88 n v) H (upM S 1 i v) B b fl := by
  obtain ⟨g1, g2, g3, g4, g5, g6, g7⟩ := hC
  have fa : ∀ a j, a ≠ 88 → upM N 88 n v a j = N a j := fun a j h1 => up_na h1
  have f8 : upM N 88 n v 88 78 = N 88 78 := up_ni (by omega)
  have f9 : upM N 88 n v 88 79 = N 88 79 := up_ni (by omega)
  have pa : ∀ a j, a ≠ 1 → upM S 1 i v a j = S a j := fun a j h => up_na h
  refine ⟨?_, ?_, ?_, ?_, ?_, ?_, hT⟩
  · simp (disch := decide) only [fa, pa]; exact g1
  · simp (disch := decide) only [fa, pa]; exact g2
  · unfold RW at *; simp (disch := decide) only [fa, pa]; exact g3
  · intro z
    simp (disch := decide) only [fa, pa]; exact g4 (h1 z)
  · simp (disch := decide) only [fa, pa]; exact g5
  · rw [f8, f9]; simp (disch := decide) only [pa]; exact g6
theorem CM.alone {b : Nat} (hC : CM N H S B b fl) : CM N H (upM S 1 1 1) B b fl := by
  obtain ⟨g1, g2, g3, g4, g5, g6, g7⟩ := hC
  have pa : ∀ a j, a ≠ 1 → upM S 1 1 1 a j = S a j := fun a j h => up_na h
  have p1 : ∀ j, j ≠ 1 → upM S 1 1 1 1 j = S 1 j := fun j h => up_ni h
  refine ⟨?_, ?_, ?_, fun z => absurd z (by rw [upM_eq]; decide), ?_, ?_, ?_⟩
  · simp (disch := decide) only [pa]; exact g1
  · simp (disch := decide) only [pa]; exact g2
  · unfold RW at *; simp (disch := decide) only [pa]; exact g3
  · simp (disch := decide) only [pa]; exact g5
  · simp (disch := decide) only [pa]; exact g6
  · unfold TM at *; simp (disch := decide) only [p1]; exact g7
theorem SOK_3 (hSo : SOK H S) {d : Int} (hd : 5 ≤ d ∧ d ≤ 30) : SOK H (upM S 0 3 d) := by
  unfold SOK at *
  obtain ⟨x1, x2, x⟩ := hSo
  simp (disch := decide) only [up_na, up_ni, upM_eq]
  exact ⟨x1, hd, x⟩
theorem SOK_4 (hSo : SOK H S) {d : Int} (hd : 0 ≤ d ∧ d < 5 ∧ (d < H 1 0 ∨ d = 0)) : SOK H (upM S 0 4 d) := by
  unfold SOK at *
  obtain ⟨x1, x2, x3, x⟩ := hSo
  simp (disch := decide) only [up_na, up_ni, upM_eq]
  exact ⟨x1, x2, hd, x⟩
theorem TA.set (hA : TA H S B) {d : Int} (hd : 5 ≤ d ∧ d ≤ 30) : TA H (upM S 0 3 d) B := by
  obtain ⟨h1, h2, h3, h4, h5⟩ := hA
  refine ⟨SOK_3 h1 hd, ?_, ?_, ?_, ?_⟩
  · unfold SP at *; simp (disch := decide) only [up_ni]; exact h2
  · rw [up_na (by decide)]; exact h3
  · simp (disch := decide) only [up_na]; exact h4
  · simp (disch := decide) only [up_ni]; exact h5
theorem TA.hang (hA : TA H S B) {d : Int} (hd : 0 ≤ d ∧ d < 5 ∧ (d < H 1 0 ∨ d = 0)) : TA H (upM S 0 4 d) B := by
  obtain ⟨h1, h2, h3, h4, h5⟩ := hA
  refine ⟨SOK_4 h1 hd, ?_, ?_, ?_, ?_⟩
  · unfold SP at *; simp (disch := decide) only [up_ni]; exact h2
  · rw [up_na (by decide)]; exact h3
  · simp (disch := decide) only [up_na]; exact h4
  · simp (disch := decide) only [up_ni]; exact h5
theorem TA.tw (hA : TA H S B) {i : Nat} {v : Int} (hi : i < 6 ∧ i ≠ 3) (h16 : upM S 1 i v 1 6 = -1 ∨ (upM S 1 i v 1 0 ≠ 0 ∧ upM S 1 i v 1 1 ≠ 0)) : TA H (upM S 1 i v) B := by
  obtain ⟨h1, h2, h3, h4, h5⟩ := hA
  have p0 : ∀ a j, a ≠ 1 → upM S 1 i v a j = S a j := fun a j h => up_na h
  have p7 : upM S 1 i v 1 7 = S 1 7 := up_ni (by omega)
  have p8 : upM S 1 i v 1 8 = S 1 8 := up_ni (by omega)
  have p3 : upM S 1 i v 1 3 = S 1 3 := up_ni (by omega)
  refine ⟨?_, ?_, ?_, h16, ?_⟩
  · unfold SOK at *
    rw [p7, p8, p3]
    simp (disch := decide) only [p0]
    exact h1
  · unfold SP at *; simp (disch := decide) only [p0]; exact h2
  · rw [up_ni (by omega)]; exact h3
  · simp (disch := decide) only [p0]; exact h5
theorem TA_st (g : BA M N h H LV S) {d : Int} (hd : 5 ≤ d ∧ d ≤ 30) : TA H (stS S T d) S ∧ TA H (alS S T d) S := by
  have a := (TA_try (T := T) g).tw (i := 0) (v := 1) (by decide) (Or.inl (by rw [up_ni (by decide), at_m (by decide)]))
  have b := a.set hd
  exact ⟨b, b.tw (i := 1) (v := 1) (by decide) (Or.inl (by rw [up_ni (by decide), up_na (by decide), up_ni (by decide), at_m (by decide)]))⟩
theorem q_stillM (g : BA M N h H LV S) (d : Int) : ∃ N', f_X12_layStill N d = some N' ∧ (∀ T, CM N' H (stS S T d) S 1 True ∧ CM N' H (alS S T d) S 1 True) ∧ N' 88 77 = 0 ∧ FQ N' N := by
  obtain ⟨N1, e1, c1, s1, f1⟩ := q_lay g
  have key : ∀ T, CM (upM (upM N1 88 69 1) 121 1 d) H (stS S T d) S 1 True := fun T => by
    refine CM.set (CM.tw (c1 T) (by decide) ?_ ?_) d
    · have g7 := (c1 T).2.2.2.2.2.2
      unfold TM at *
      simp (disch := decide) only [up_ni, upM_eq]
      exact ⟨trivial, g7.2⟩
    · intro z
      rw [up_ni (by decide)] at z
      exact z
  refine ⟨_, ?_, fun T => ⟨key T, (key T).alone⟩, ?_, (f1.up (by unfold QS; omega)).up (by unfold QS MS; omega)⟩
  · unfold f_X12_layStill
    rw [e1, Option.bind_some]
    rfl
  · rw [up_na (by decide), up_ni (by decide)]
    exact s1
theorem q_stillC (g : BA M N h H LV S) (d : Int) : ∃ M' T, f_X11_tryTurnedBy M d = some M' ∧ CC M' 70 (stS S T d) ∧ Fr3 h 70 M' M := by
  obtain ⟨M1, e1, c1, f1⟩ := q_tryC g
  refine ⟨upM (upM M1 71 0 1) 70 3 d, _, ?_, (c1.up (k := 1) (i := 0) (v := 1) (by decide)).up0, (f1.up (by decide)).up (by decide)⟩
  unfold f_X11_tryTurnedBy
  rw [e1, Option.bind_some]
  rfl
theorem q_aloneC (g : BA M N h H LV S) (d : Int) : ∃ M' T, f_X11_tryRoomsAlone M d = some M' ∧ CC M' 70 (alS S T d) ∧ Fr3 h 70 M' M := by
  obtain ⟨M1, T, e1, c1, f1⟩ := q_stillC g d
  refine ⟨upM M1 71 1 1, T, ?_, c1.up (k := 1) (i := 1) (v := 1) (by decide), f1.up (by decide)⟩
  unfold f_X11_tryRoomsAlone
  rw [e1, Option.bind_some]
  rfl
theorem st_h (g : BA M N h H LV S) {d : Int} : stS S T d 0 1 = (h : Int) ∧ alS S T d 0 1 = (h : Int) ∧ stS S T d 0 2 = S 0 2 ∧ alS S T d 0 2 = S 0 2 ∧ stS S T d 1 1 = 0 := by
  have e1 : aTry S T 0 1 = S 0 1 := at_0 (by decide)
  have e2 : aTry S T 0 2 = S 0 2 := at_0 (by decide)
  have e3 : aTry S T 1 1 = 0 := at_1 (by decide)
  have e0 := g.2.2.1.2.2.2.2.2
  unfold alS stS
  simp (disch := decide) only [up_na, up_ni, e1, e2, e3, e0]
  exact ⟨trivial, trivial, trivial, trivial, trivial⟩
/-- both begin, the knob still -/
theorem q_still (g : BA M N h H LV S) {d : Int} (hd : 5 ≤ d ∧ d ≤ 30) : ∃ M' N' ST, f_X11_tryTurnedBy M d = some M' ∧ f_X12_layStill N d = some N' ∧ TR M' N' h H S ST ∧ Fr3 h 70 M' M ∧ FQ N' N ∧ ST 0 2 = S 0 2 ∧ ST 1 1 = 0 := by
  obtain ⟨M', T, e1, c1, f1⟩ := q_stillC g d
  obtain ⟨N', e2, c2, s2, f2⟩ := q_stillM g d
  have k := st_h (T := T) g (d := d)
  exact ⟨M', N', _, e1, e2, ⟨c1, (c2 T).1, (TA_st g hd).1, s2, k.1⟩, f1, f2, k.2.2.1, k.2.2.2.2⟩
theorem q_alone (g : BA M N h H LV S) {d : Int} (hd : 5 ≤ d ∧ d ≤ 30) : ∃ M' N' ST, f_X11_tryRoomsAlone M d = some M' ∧ f_X12_layStill N d = some N' ∧ TR M' N' h H S ST ∧ Fr3 h 70 M' M ∧ FQ N' N ∧ ST 0 2 = S 0 2 := by
  obtain ⟨M', T, e1, c1, f1⟩ := q_aloneC g d
  obtain ⟨N', e2, c2, s2, f2⟩ := q_stillM g d
  have k := st_h (T := T) g (d := d)
  exact ⟨M', N', _, e1, e2, ⟨c1, (c2 T).2, (TA_st g hd).2, s2, k.2.1⟩, f1, f2, k.2.2.2.1⟩
/-- both answer alike, and nothing but the trial has changed -/
def PQ (M N : MM) (h : Nat) (o1 o2 : Option (Int × MM)) : Prop := ∃ r M' N', o1 = some (r, M') ∧ o2 = some (r, N') ∧ Fr3 h 70 M' M ∧ FQ N' N
theorem thr0 (g : BA M N h H LV S) : BA M (upM N 88 2 0) h H LV S ∧ FQ (upM N 88 2 0) N := by
  have f : FQ (upM N 88 2 0) N := FQ.rf.up (by unfold QS; omega)
  exact ⟨g.q Fr3.rf f, f⟩
theorem room_b (g : BA M N h H LV S) (p : Int) : f_X11_isRoom M p = some (b1 (0 ≤ p ∧ p < H 1 0)) ∧ f_X12_isRoom N p = some (b1 (0 ≤ p ∧ p < H 1 0)) ∧ f_X11_isPerson M p = some (b1 (0 ≤ p ∧ p < H 6 0)) ∧ f_X12_isPerson N p = some (b1 (0 ≤ p ∧ p < H 6 0)) := by
  obtain ⟨⟨a1, a2, a3, a4, a5⟩, ⟨b1, b2, b3⟩, c, d⟩ := g
  refine ⟨?_, ?_, ?_, ?_⟩
  · rw [pu_isRoom11 M a2 a1, a3.at (by decide) (by decide) (by decide)]
  · rw [pu_isRoom12 N, b1.1.1]
  · rw [pu_isPerson11 M a2 a1, a3.at (by decide) (by decide) (by decide)]
  · rw [pu_isPerson12 N, b1.1.2.1]
end STILL
