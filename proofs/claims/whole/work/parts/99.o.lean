section LINES2
variable {M N : MM} {n t g : Nat}
theorem TK.up (k : TK M N n t) {a1 i a2 j : Nat} {v w : Int} (h1 : a1 ≠ 1 ∧ a1 ≠ 3 ∧ a1 ≠ 4) (h2 : a2 ≠ 89 ∧ a2 ≠ 90 ∧ ¬ (a2 = 88 ∧ (j = 6 ∨ j = 7))) : TK (upM M a1 i v) (upM N a2 j w) n t := by
  obtain ⟨⟨a, b, c⟩, ⟨d, e, f⟩, x, y⟩ := k
  exact ⟨⟨by rw [up_na (by omega)]; exact a, by rw [upM_ne 88 6 (by omega)]; exact b, c⟩, ⟨by rw [up_na (by omega)]; exact d, by rw [upM_ne 88 7 (by omega)]; exact e, f⟩, x.cg (fun j => up_na (by omega)) (fun j => up_na (by omega)), y.cg (fun j => up_na (by omega)) (fun j => up_na (by omega))⟩
theorem RT'.up (k : RT' M N n t) {a1 i a2 j : Nat} {v w : Int} (h1 : a1 ≠ 1 ∧ a1 ≠ 3 ∧ a1 ≠ 4) (h2 : a2 ≠ 89 ∧ a2 ≠ 90 ∧ ¬ (a2 = 88 ∧ 6 ≤ j ∧ j ≤ 10)) : RT' (upM M a1 i v) (upM N a2 j w) n t := by
  obtain ⟨a, b, c⟩ := k
  refine ⟨a.up h1 (by omega), ?_, ?_⟩
  · rw [up_na (by omega), upM_ne 88 10 (by omega)]; exact b
  · rw [up_na (by omega), up_na (by omega), upM_ne 88 8 (by omega), upM_ne 88 9 (by omega)]; exact c
theorem RT'.next (k : RT' M N n t) : ∃ M1 N1, f_X9_advance M = some M1 ∧ f_X12_token N = some N1 ∧ (∃ s, RT' M1 N1 n s ∧ (t < s ∨ M1 3 4 = 1) ∧ t ≤ s) ∧ FT M1 M ∧ FTN N1 N := by
  obtain ⟨M1, N1, e1, e2, s, s1, s2, s3, s4, s5, s6, s7⟩ := q_tok k.1
  exact ⟨M1, N1, e1, e2, ⟨s, ⟨s1, s4, s5⟩, s6, s7⟩, s2, s3⟩
/-- a number into a row -/
theorem q_into (k : RT' M N n t) {a1 n1 at' : Nat} {hi : Int} (hhi : hi ≤ 9999) (hat : at' < n1) : (∃ M' N', f_X7_readInto M a1 n1 (at' : Int) hi = some (0, M') ∧ f_X12_number N 0 hi = some (0, N') ∧ FL M' N' ∧ CF 1 M' M ∧ NF 1 N' N) ∨ ∃ M' N', f_X7_readInto M a1 n1 (at' : Int) hi = some (1, upM M' a1 at' (M' 2 3)) ∧ f_X12_number N 0 hi = some (1, N') ∧ ((∃ s, t ≤ s ∧ RT' M' N' n s) ∧ M' 2 3 = N' 88 11 ∧ 0 ≤ M' 2 3 ∧ M' 2 3 ≤ hi) ∧ CF 0 M' M ∧ NF 0 N' N := by
  unfold f_X7_readInto
  have z : 0 ≤ (at' : Int) ∧ (at' : Int) < (n1 : Int) := by omega
  rcases q_num k (lo := 0) (Int.le_refl _) hhi with ⟨M', N', e1, e2, e3, e4, e5⟩ | ⟨M', N', e1, e2, e3, e4, e5⟩
  · left
    refine ⟨M', N', by rw [e1]; rfl, e2, e3, e4, e5⟩
  · right
    refine ⟨M', N', ?_, e2, ⟨e3.1, e3.2.1, e3.2.2.1, e3.2.2.2.1⟩, e4, e5⟩
    rw [e1, Option.bind_some]
    dsimp only
    rw [if_neg (by decide), gd_t z, bM_eq, gd_t (Or.inr rfl), Int.toNat_natCast]
/-- a new name -/
theorem q_newName (k : RT' M N n t) {a1 a2 m : Nat} (hm : m < 5) (h1 : a1 ≠ 1 ∧ a1 ≠ 2 ∧ a1 ≠ 3 ∧ a1 ≠ 4) (h2 : 91 ≤ a2) (he : ∀ j : Nat, (j : Int) < (m : Int) → N a2 (5 + j) = M a1 j) : (∃ M' N', f_X7_readName M a1 5 (m : Int) = some (0, M') ∧ f_X12_newName N a2 10 5 (m : Int) = some (0, N') ∧ FL M' N' ∧ CF 1 M' M ∧ NF 1 N' N) ∨ ∃ M' N' v, f_X7_readName M a1 5 (m : Int) = some (1, M') ∧ f_X12_newName N a2 10 5 (m : Int) = some (1, N') ∧ (∃ s, t ≤ s ∧ RT' M' N' n s) ∧ FT M' (upM M a1 m v) ∧ FTN N' (upM N a2 (5 + m) v) := by
  obtain ⟨k1, k2, k3⟩ := id k
  obtain ⟨n1, n2, n3, n4, n5⟩ := KR_n k3
  obtain ⟨r, f1, f2, f3⟩ := q_find (M := M) (N := N) (a1 := a1) (n1 := 5) (a2 := a2) (n2 := 10) (from2 := 5) (p := M 3 5) (sz := (m : Int)) (by omega) (by decide) (by decide) (by decide) he
  have f2 : f_X12_find N a2 10 5 (m : Int) (M 3 5) = some r := f2
  have z : 0 ≤ (m : Int) ∧ (m : Int) < ((5 : Nat) : Int) := by omega
  have rr : -2147483648 ≤ 5 + (m : Int) ∧ 5 + (m : Int) ≤ 2147483647 := by omega
  have z2 : 0 ≤ 5 + (m : Int) ∧ 5 + (m : Int) < ((10 : Nat) : Int) := by omega
  have t2 : (5 + (m : Int)).toNat = 5 + m := by omega
  unfold f_X7_readName f_X12_newName
  by_cases q : M 3 4 = 3
  · have ev := n5 q
    rw [if_pos q, if_pos (n2.mp q), ← ev, f1, f2, Option.bind_some, Option.bind_some]
    rcases f3 with ⟨g1, g2⟩ | ⟨j, g1, g2, g3⟩
    · right
      rw [if_pos g1, if_pos (show r < 0 by rw [g1]; decide), gd_t z, w32_i rr.1 rr.2, gd_t z2, t2, Int.toNat_natCast, bM_eq, bM_eq]
      obtain ⟨M1, N1, e1, e2, ⟨s, s1⟩, s2, s3⟩ := (k.up (a1 := a1) (i := m) (v := M 3 5) (a2 := a2) (j := 5 + m) (w := M 3 5) (by omega) (by omega)).next
      rw [e1, e2, Option.bind_some, Option.bind_some]
      exact ⟨M1, N1, M 3 5, rfl, rfl, ⟨s, s1.2.2, s1.1⟩, s2, s3⟩
    · rw [if_neg (show ¬ r = -1 by omega), if_neg (show ¬ r < 0 by omega)]
      exact (OUT.fail k2 3 (FC := fun u M' => CF u M' M) (FN := fun u N' => NF u N' N) (G := fun _ _ => False) (fun _ h => h) (fun _ h => h)).elim (fun h => Or.inl h) (fun ⟨_, _, _, _, h, _⟩ => h.elim)
  · rw [if_neg q, if_neg (fun z => q (n2.mpr z))]
    exact (OUT.fail k2 1 (FC := fun u M' => CF u M' M) (FN := fun u N' => NF u N' N) (G := fun _ _ => False) (fun _ h => h) (fun _ h => h)).elim (fun h => Or.inl h) (fun ⟨_, _, _, _, h, _⟩ => h.elim)
/-- a room that was told -/
theorem q_roomThere (k : RT' M N n t) (rd : RD M N g) : (∃ M' N', f_X7_readToldRoom M = some (0, M') ∧ f_X12_roomThere N = some (0, N') ∧ FL M' N' ∧ CF 1 M' M ∧ NF 1 N' N) ∨ ∃ M' N', f_X7_readToldRoom M = some (1, M') ∧ f_X12_roomThere N = some (1, N') ∧ (∃ s, t ≤ s ∧ RT' M' N' n s) ∧ (M' 2 4 = N' 88 11 ∧ 0 ≤ M' 2 4 ∧ M' 2 4 < M (g + 1) 0) ∧ (CF 0 M' M ∧ M' 2 3 = M 2 3) ∧ NF 0 N' N := by
  obtain ⟨k1, k2, k3⟩ := id k
  obtain ⟨n1, n2, n3, n4, n5⟩ := KR_n k3
  obtain ⟨⟨r1, r2⟩, ⟨r3, r4, r5⟩, _, _, _, _, _, hr, _⟩ := rd
  obtain ⟨r, f1, f2, f3⟩ := q_find (M := M) (N := N) (a1 := g + 2) (n1 := 5) (a2 := 93) (n2 := 10) (from2 := 5) (p := M 3 5) (sz := M (g + 1) 0) ⟨r4, r5⟩ (by decide) (by decide) (by decide) (fun j hj => (hr j hj).1.1)
  have f2 : f_X12_find N 93 10 5 (M (g + 1) 0) (M 3 5) = some r := f2
  unfold f_X7_readToldRoom f_X12_roomThere
  by_cases q : M 3 4 = 3
  · have ev := n5 q
    rw [if_pos q, if_pos (n2.mp q), ← ev, ← r3, r1, gH_h r2, gH_h r2, f1, f2, Option.bind_some, Option.bind_some, bM_eq (upM M 2 4 r), upM_eq]
    rcases f3 with ⟨g1, g2⟩ | ⟨j, g1, g2, g3⟩
    · left
      rw [if_pos g1, if_pos (show r < 0 by rw [g1]; decide)]
      have k2' : upM M 2 4 r 3 6 = N 88 10 := by rw [up_na (by decide)]; exact k2
      exact (OUT.fail k2' 4 (FC := fun u M' => CF u M' M) (FN := fun u N' => NF u N' N) (G := fun _ _ => False) (fun _ h => h.tr (CF.rf.up (by decide))) (fun _ h => h)).elim id (fun ⟨_, _, _, _, h, _⟩ => h.elim)
    · right
      rw [if_neg (show ¬ r = -1 by omega), if_neg (show ¬ r < 0 by omega)]
      obtain ⟨M1, N1, e1, e2, ⟨s, s1⟩, s2, s3⟩ := (k.up (a1 := 2) (i := 4) (v := r) (a2 := 91) (j := 7) (w := N 91 7) (by decide) (by decide)).next
      have eN : upM N 91 7 (N 91 7) = N := by
        funext a i
        unfold upM
        split
        · rename_i h; rw [h.1, h.2]
        · rfl
      rw [eN] at e2 s3
      rw [e1, e2, Option.bind_some, Option.bind_some, bM_eq]
      have m24 : M1 2 4 = r := by rw [s2 2 4 (by omega), upM_eq]
      refine ⟨M1, upM N1 88 11 r, rfl, rfl, ⟨s, s1.2.2, ?_⟩, ⟨by rw [m24, upM_eq], by rw [m24]; omega, by rw [m24]; omega⟩, ⟨s2.c.tr (CF.rf.up (by decide)), by rw [s2 2 3 (by omega), up_ni (by decide)]⟩, s3.c.up (by decide)⟩
      obtain ⟨y1, y2, y3⟩ := s1.1
      refine ⟨?_, by rw [up_ni (by decide)]; exact y2, by rw [up_ni (by decide), up_ni (by decide)]; exact y3⟩
      obtain ⟨⟨a, b, c⟩, ⟨d, e, f⟩, x, y⟩ := y1
      exact ⟨⟨a, by rw [up_ni (by decide)]; exact b, c⟩, ⟨d, by rw [up_ni (by decide)]; exact e, f⟩, x.cg (fun j => rfl) (fun j => up_na (by decide)), y.cg (fun j => rfl) (fun j => up_na (by decide))⟩
  · rw [if_neg q, if_neg (fun z => q (n2.mpr z))]
    exact (OUT.fail k2 1 (FC := fun u M' => CF u M' M) (FN := fun u N' => NF u N' N) (G := fun _ _ => False) (fun _ h => h) (fun _ h => h)).elim (fun h => Or.inl h) (fun ⟨_, _, _, _, h, _⟩ => h.elim)
end LINES2
