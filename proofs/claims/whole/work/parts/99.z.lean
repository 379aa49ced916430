section FORM
variable {M N : MM} {n t g : Nat} {W K V A B Ko Vo Ao Bo : List Int}
/-- a knot that stands alone, on both sides -/
theorem leaf_FX (hg : g = 8 ∨ g = 31) (x : FX M N g W K V A B Ko Vo Ao Bo) (due : M 5 5 = 1) (q : nz W + (Ko.length + K.length) < 64) {kk v a : Int} (ok : (kk = 2 ∧ 0 ≤ v ∧ v ≤ 9999 ∧ a = v) ∨ (313 ≤ kk ∧ kk < 320 ∧ a = kk - 313)) : ∃ M1 N1, f_X3_write (upM M (g + 12) 7 ((nz W + (Ko.length + K.length) + 1 : Nat) : Int)) (g + 12) kk v = some M1 ∧ f_X12_grown (upM N 88 48 ((nz W + (Ko.length + K.length) + 1 : Nat) : Int)) (mk kk) a 0 = some N1 ∧ FX (upM M1 5 5 0) (upM N1 88 49 0) g W (kk :: K) (v :: V) (a :: A) (0 :: B) Ko Vo Ao Bo ∧ FF1 g (upM M1 5 5 0) M ∧ FN1 (upM N1 88 49 0) N := by
  have lf : LF kk := by
    rcases ok with h | h
    · exact Or.inl h.1
    · exact Or.inr ⟨h.1, h.2.1⟩
  obtain ⟨⟨a1, a2, a3, a4, a5, a6⟩, c2, ⟨c3, c4⟩, ⟨d1, d2, d3⟩, ⟨e1, e2⟩, ⟨i1, i2, i3⟩, j, ⟨k1, k2, k3⟩, l⟩ := x
  have hj : (plc Ko.length K).length = bn W := by
    rcases j with j | j
    · exact absurd j.1 (by omega)
    · exact j.2.1
  have bz := bn_nz W
  have ln : (K ++ Ko).length = Ko.length + K.length := by rw [List.length_append]; omega
  have w1 := c_write (M := upM M (g + 12) 7 ((nz W + (Ko.length + K.length) + 1 : Nat) : Int)) (a0 := g + 12) (n := (K ++ Ko).length) (by rw [up_ni (by decide)]; exact a3) (by omega) kk v
  have nn : NFS (upM N 88 48 ((nz W + (Ko.length + K.length) + 1 : Nat) : Int)) W (plc Ko.length K) (Ko.length + K.length) ((K ++ Ko).map mk) (A ++ Ao) (B ++ Bo) := c2.cg (fun a j h => upM_ne a j (by omega))
  obtain ⟨N1, s1, s2, s3⟩ := m_grown nn (by omega) (by omega) (mk kk) a 0
  have f2 : ∀ a j, ¬ (a = 88 ∧ (j = 21 ∨ j = 45 ∨ j = 46 ∨ j = 48 ∨ j = 49)) → ¬ (109 ≤ a ∧ a ≤ 111 ∧ 64 ≤ j) → a ≠ 113 → upM N1 88 49 0 a j = N a j := fun a j y1 y2 y3 => by rw [upM_ne a j (by omega), s3 a j (by omega) y2 y3, upM_ne a j (by omega)]
  refine ⟨_, N1, w1, s1, ?_, ?_, fun a j y1 y2 y3 y4 => f2 a j (by omega) y2 y4⟩
  · have pl : plc Ko.length (kk :: K) = ((Ko.length + K.length : Nat) : Int) :: plc Ko.length K := if_pos lf
    refine ⟨⟨?_, ?_, ?_, ⟨?_, ?_⟩, ⟨?_, ?_⟩, ?_⟩, ?_, ⟨c3, c4⟩, ⟨?_, ?_, d3⟩, ⟨?_, ?_⟩, ⟨?_, ?_, ?_⟩, Or.inl ⟨upM_eq, by rw [pl, List.length_cons, hj]⟩, ⟨?_, ?_, by rw [List.length_cons]; omega⟩, l, ?_⟩
    · rw [up_ni (by decide), up_na (by omega), up_na (by omega), up_na (by omega), up_na (by omega)]; exact a1
    · exact a2.cg (fun i _ => by rw [up_na (by omega), up_na (by omega), up_na (by omega), up_na (by omega), up_na (by omega)])
    · rw [up_na (by omega), upM_eq]; rfl
    · show upM _ 5 5 0 (g + 13) (K ++ Ko).length = kk
      rw [up_na (by omega), up_na (by omega), up_na (by omega), upM_eq]
    · exact a4.cg (fun i hi => by rw [up_na (by omega), up_na (by omega), up_na (by omega), up_ni (by omega), up_na (by omega)])
    · show upM _ 5 5 0 (g + 14) (V ++ Vo).length = v
      rw [up_na (by omega), up_na (by omega), a6, upM_eq]
    · exact a5.cg (fun i hi => by rw [up_na (by omega), up_na (by omega), up_ni (by omega), up_na (by omega), up_na (by omega)])
    · show (V ++ Vo).length + 1 = (K ++ Ko).length + 1
      rw [a6]
    · rw [pl]
      exact s2.cg (fun a j h => upM_ne a j (by omega))
    · rw [up_ni (by decide), up_na (by omega), up_na (by omega), up_na (by omega), up_na (by omega)]; exact d1
    · rw [f2 88 47 (by omega) (by omega) (by omega)]; exact d2
    · rw [up_na (by omega), up_na (by omega), up_na (by omega), up_na (by omega), up_na (by omega)]; exact e1
    · exact e2.cg (fun i _ => by rw [up_na (by omega), up_na (by omega), up_na (by omega), up_na (by omega), up_na (by omega)])
    · rw [upM_eq, upM_eq]
    · rw [f2 88 50 (by omega) (by omega) (by omega), up_ni (by decide), up_na (by omega), up_na (by omega), up_na (by omega), up_na (by omega)]; exact i2
    · rw [up_ni (by decide), up_na (by omega), up_na (by omega), up_na (by omega), up_na (by omega)]; exact i3
    · rw [up_na (by omega), up_ni (by decide), up_na (by omega), up_na (by omega), upM_eq]; rfl
    · rw [up_ni (by decide), s3 88 48 (by omega) (by omega) (by omega), upM_eq]; rfl
    · rcases ok with h | h
      · exact Or.inl h
      · exact Or.inr (Or.inl h)
  · intro a j y1 y2 y3 y4 y5 y6
    rw [upM_ne a j (by omega), upM_ne a j (by omega), up_na y6, up_na y5, upM_ne a j (by omega)]
/-- a part -/
theorem q_part (hg : g = 8 ∨ g = 31) (k : RT' M N n t) (x : FX M N g W K V A B Ko Vo Ao Bo) (due : M 5 5 = 1) : NO M N (f_X1_readPart M (g + 12)) (f_X12_leafRead N) ∨ GO M N g n t Ko Vo Ao Bo (f_X1_readPart M (g + 12)) (f_X12_leafRead N) := by
  by_cases e40 : M 3 4 = 40
  · exact q_part40 hg k x due e40
  by_cases en : M 3 4 = 312 ∧ M 5 6 = 1
  · exact q_partNot hg k x due en.1 en.2
  have x' := x
  obtain ⟨c1, c2, ⟨c3, c4⟩, ⟨d1, d2, d3⟩, ⟨e1, e2⟩, ⟨i1, i2, i3⟩, j, ⟨k1, k2, k3⟩, l⟩ := x'
  obtain ⟨n1, n2, n3, n4, n5⟩ := KR_n k.2.2
  have k320 := (k_key k.2.2).2.2
  have u1 : f_X1_readPart M (g + 12) = bS (if M 3 4 = 2 then some (Sum.inl ()) else if 313 ≤ M 3 4 ∧ M 3 4 < 320 then some (Sum.inl ()) else some (Sum.inr ((1 : Int), M))) (fun _ : Unit => if M (g + 12) 7 < 64 then (bS (if M 3 4 = 2 then (if 9999 < M 3 5 then some (Sum.inr ((2 : Int), M)) else some (Sum.inl ())) else some (Sum.inl ())) (fun _ : Unit => bM (upM M (g + 12) 7 (w32 ((M (g + 12) 7) + 1))) fun M18 => (f_X3_write M18 (g + 12) (M 3 4) (M18 3 5)).bind fun x20 => bM (upM x20 5 5 0) fun M21 => some (0, M21)) (fun r => r)) else some (2, M)) (fun r => r) := by
    unfold f_X1_readPart
    have h6 : ((if M 3 4 = 312 then (if (M 5 6) = 0 then (some 0) else some 1) else some 0) : Option Int) = some 0 := by
      by_cases q : M 3 4 = 312
      · rw [if_pos q, if_pos (by omega)]
      · rw [if_neg q]
    rw [bI_eq, if_neg e40, h6, Option.bind_some]
    by_cases q : M 3 4 = 2
    · rw [if_pos q, Option.bind_some, if_pos rfl, if_neg (show ¬ ((1 : Int) = 0) by decide), if_pos q, bS_l, bS_l]
      by_cases w : M (g + 12) 7 < 64
      · rw [if_pos w, if_pos w, if_neg (show ¬ ((1 : Int) = 0) by decide), if_pos q, bM_eq, bM_eq]
        rfl
      · rw [if_neg w, if_neg w]
    · rw [if_neg q, Option.bind_some, if_pos rfl, if_pos rfl, c_isName, Option.bind_some, if_b1, if_neg q]
      by_cases w : M (g + 12) 7 < 64
      · rw [if_pos w, if_pos w, if_pos rfl, if_neg q, bM_eq, bM_eq]
        rfl
      · rw [if_neg w, if_neg w]
  have u2 : f_X12_leafRead N = bS (if (if 313 ≤ M 3 4 then M 3 4 - 313 else -1) < 0 then (if (N 88 8) = 3 then some (Sum.inl ()) else (f_X12_wrong N 1).bind fun x14 => gd (x14.1 = 0 ∨ x14.1 = 1) <| some (Sum.inr (x14.1, x14.2))) else some (Sum.inl ())) (fun _ : Unit => bS (if (if 313 ≤ M 3 4 then M 3 4 - 313 else -1) < 0 then (if 9999 < (N 88 9) then ((f_X12_wrong N 2).bind fun x19 => gd (x19.1 = 0 ∨ x19.1 = 1) <| some (Sum.inr (x19.1, x19.2))) else some (Sum.inl ())) else some (Sum.inl ())) (fun _ : Unit => (f_X12_isCounted N).bind fun x22 => if x22.1 = 0 then (some (0, x22.2)) else ((if (if 313 ≤ M 3 4 then M 3 4 - 313 else -1) < 0 then (some 0) else some 1) : Option (Int)).bind fun x25 => ((if (if 313 ≤ M 3 4 then M 3 4 - 313 else -1) < 0 then (some (x22.2 88 9)) else some (if 313 ≤ M 3 4 then M 3 4 - 313 else -1)) : Option (Int)).bind fun x27 => (f_X12_grown x22.2 x25 x27 0).bind fun x28 => bM (upM x28 88 49 0) fun M29 => (f_X12_token M29).bind fun x30 => some (1, x30)) (fun r => r)) (fun r => r) := by
    unfold f_X12_leafRead
    rw [m_isSign k (by decide), Option.bind_some, if_b1, if_neg e40, m_isKey k (Or.inl ⟨rfl, rfl⟩), Option.bind_some, if_b1]
    by_cases q : M 3 4 = 312
    · rw [if_pos q, i2, if_pos (by omega), bS_l, m_nameMet k, Option.bind_some]
    · rw [if_neg q, bS_l, m_nameMet k, Option.bind_some]
  by_cases q2 : M 3 4 = 2
  · have nv := n4 q2
    unfold NVR at nv
    rw [if_pos q2, bS_l, if_pos q2] at u1
    rw [if_neg (show ¬ 313 ≤ M 3 4 by omega), if_pos (show (-1 : Int) < 0 by decide), if_pos (n1.mp q2), bS_l, if_pos (show (-1 : Int) < 0 by decide)] at u2
    by_cases q9 : 9999 < M 3 5
    · left
      rw [if_pos q9, bS_r] at u1
      obtain ⟨N', r1, _⟩ := m_wrong N 2
      rw [if_pos (by omega), r1, Option.bind_some, gd_t (Or.inl rfl), bS_r] at u2
      refine NO.mk' k FN1.rf (by decide : (2 : Int) ≠ 0) ?_ r1 u2
      rw [u1]
      split <;> rfl
    · rw [if_neg q9, bS_l] at u1
      have ev : N 88 9 = M 3 5 := by omega
      rw [if_neg (by omega), bS_l] at u2
      by_cases q : nz W + (Ko.length + K.length) < 64
      · right
        obtain ⟨M1, N1, r1, r2, r3, r4, r5⟩ := leaf_FX hg x due q (kk := 2) (v := M 3 5) (a := M 3 5) (Or.inl ⟨rfl, by omega, by omega, rfl⟩)
        have r2' : f_X12_grown (upM N 88 48 ((nz W + (Ko.length + K.length) + 1 : Nat) : Int)) 0 (M 3 5) 0 = some N1 := r2
        refine GO.mk hg k r4 r5 r3 ?_ ?_
        · rw [u1, k1, if_pos (by omega), wi7 (by omega), bM_eq, q2, up_na (by omega), r1, Option.bind_some, bM_eq]
        · rw [u2, m_counted k2 q, Option.bind_some, if_neg (show ¬ ((1 : Int) = 0) by decide), if_pos (show (-1 : Int) < 0 by decide), Option.bind_some, if_pos (show (-1 : Int) < 0 by decide), Option.bind_some]
          show (f_X12_grown (upM N 88 48 ((nz W + (Ko.length + K.length) + 1 : Nat) : Int)) 0 (upM N 88 48 ((nz W + (Ko.length + K.length) + 1 : Nat) : Int) 88 9) 0).bind _ = _
          rw [up_ni (by decide), ev, r2', Option.bind_some, bM_eq]
      · left
        obtain ⟨N', r1, r2⟩ := m_full' k2 q k3
        exact NO.mk' k FN1.rf (by decide : (2 : Int) ≠ 0) (by rw [u1, k1, if_neg (by omega)]) r1 (by rw [u2, r2, Option.bind_some, if_pos rfl])
  · rw [if_neg q2, if_neg q2] at u1
    by_cases qn : 313 ≤ M 3 4
    · rw [if_pos ⟨qn, k320⟩, bS_l, bS_l] at u1
      rw [if_pos qn, if_neg (show ¬ (M 3 4 - 313 < 0) by omega), bS_l, if_neg (show ¬ (M 3 4 - 313 < 0) by omega), bS_l] at u2
      by_cases q : nz W + (Ko.length + K.length) < 64
      · right
        obtain ⟨M1, N1, r1, r2, r3, r4, r5⟩ := leaf_FX hg x due q (kk := M 3 4) (v := M 3 5) (a := M 3 4 - 313) (Or.inr ⟨qn, k320, rfl⟩)
        have r2' : f_X12_grown (upM N 88 48 ((nz W + (Ko.length + K.length) + 1 : Nat) : Int)) 1 (M 3 4 - 313) 0 = some N1 := by
          have em : mk (M 3 4) = 1 := by unfold mk; rw [if_neg q2, if_pos qn]
          rw [em] at r2
          exact r2
        refine GO.mk hg k r4 r5 r3 ?_ ?_
        · rw [u1, k1, if_pos (by omega), wi7 (by omega), bM_eq, up_na (by omega), r1, Option.bind_some, bM_eq]
        · rw [u2, m_counted k2 q, Option.bind_some, if_neg (show ¬ ((1 : Int) = 0) by decide), if_neg (show ¬ (M 3 4 - 313 < 0) by omega), Option.bind_some, if_neg (show ¬ (M 3 4 - 313 < 0) by omega), Option.bind_some]
          show (f_X12_grown (upM N 88 48 _) 1 (M 3 4 - 313) 0).bind _ = _
          rw [r2', Option.bind_some, bM_eq]
      · left
        obtain ⟨N', r1, r2⟩ := m_full' k2 q k3
        exact NO.mk' k FN1.rf (by decide : (2 : Int) ≠ 0) (by rw [u1, k1, if_neg (by omega)]) r1 (by rw [u2, r2, Option.bind_some, if_pos rfl])
    · left
      rw [if_neg (fun z => qn z.1), bS_r] at u1
      obtain ⟨N', r1, _⟩ := m_wrong N 1
      rw [if_neg qn, if_pos (show (-1 : Int) < 0 by decide), if_neg (fun z => q2 (n1.mpr z)), r1, Option.bind_some, gd_t (Or.inl rfl), bS_r] at u2
      exact NO.mk' k FN1.rf (by decide : (1 : Int) ≠ 0) u1 r1 u2
end FORM
