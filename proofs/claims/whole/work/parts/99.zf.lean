section FORM
variable {M N : MM} {n t g : Nat} {W K V A B Ko Vo Ao Bo : List Int}
theorem p_end {a1 : Nat} (e : M 3 4 = 1) : f_X1_readPart M a1 = some (1, M) := by
  unfold f_X1_readPart
  rw [bI_eq, e, if_neg (by decide), if_neg (by decide), Option.bind_some, if_neg (by decide), Option.bind_some, if_pos rfl, if_pos rfl, c_isName, Option.bind_some, if_b1, if_neg (by decide), bS_r]
theorem j_end {a1 : Nat} (e : M 3 4 = 1) : f_X1_readJoint M a1 = some (1, M) := by
  unfold f_X1_readJoint
  rw [bI_eq, e, if_neg (by decide), bS_l, c_rank, Option.bind_some, if_pos (by decide)]
theorem no_go {o1 o2 : Option (Int × MM)} (h : NO M N o1 o2 ∨ GO M N g n t Ko Vo Ao Bo o1 o2) (e : o1 = some (1, M)) : NO M N o1 o2 := by
  rcases h with h | h
  · exact h
  · obtain ⟨M1, M2, N2, r1, _⟩ := h
    rw [e] at r1
    have h0 : ((1 : Int), M) = (0, M1) := Option.some.inj r1
    have h1 : (1 : Int) = 0 := congrArg Prod.fst h0
    exact absurd h1 (by decide)
theorem q_turn {M0 N0 : MM} {t0 : Nat} (hg : g = 8 ∨ g = 31) (x : Int × MM) (N : MM) (h : LI M0 N0 g n t0 Ko Vo Ao Bo x N) : (∃ y y', stp (g + 12) x = some (.inr y) ∧ smp N = some (.inr y') ∧ LQ M0 N0 g n t0 Ko Vo Ao Bo y y') ∨ ∃ z z', stp (g + 12) x = some (.inl z) ∧ smp N = some (.inl z') ∧ LI M0 N0 g n t0 Ko Vo Ao Bo z z' ∧ (800 - z.1).toNat < (800 - x.1).toNat := by
  obtain ⟨i, M⟩ := x
  obtain ⟨m, t, W, K, V, A, B, l1, l2, l3, l4, l5, l6, l7⟩ := h
  have l1' : i = (m : Int) := l1
  subst l1'
  have k : RT' M N n t := l2
  have tn : t ≤ n := k.1.2.1.2.2
  have n7 : n ≤ 700 := k.1.1.2.2
  have hm : m ≤ 700 := by
    rcases l5 with h | h
    · omega
    · have := h.2; omega
  have x : FX M N g W K V A B Ko Vo Ao Bo := l4
  have x' := x
  obtain ⟨c1, c2, ⟨c3, c4⟩, ⟨d1, d2, d3⟩, ⟨e1, e2⟩, ⟨i1, i2, i3⟩, j, ⟨k1, k2, k3⟩, l⟩ := x'
  by_cases due : M 5 5 = 0
  · by_cases en : nb W = 0 ∧ M 3 4 = 59
    · left
      refine ⟨Sum.inl M, Sum.inl N, ?_, ?_, Or.inl ⟨M, N, t, W, K, V, A, B, rfl, rfl, k, l3, x, due, en.1, en.2, l6, l7⟩⟩
      · unfold stp
        rw [if_neg (by show ¬ 700 < (m : Int); omega), if_pos due, if_pos (show M 5 4 = 0 by rw [d1, en.1]; rfl), if_pos en.2]
      · unfold smp
        rw [m_isSign k (by decide), Option.bind_some, if_b1, if_pos en.2, if_pos (by rw [i1]; exact due), if_neg (by rw [d2, en.1]; decide)]
    · exact turn hm l3 l5 (fun z => no_go (q_joint hg k x due) (j_end z)) l6 l7 (q_joint hg k x due) (stp_j (by omega) due (by rw [d1]; omega)) (smp_j k (by rw [i1]; exact due) (by rw [d2]; omega))
  · have due1 : M 5 5 = 1 := by
      rcases j with j | j
      · exact absurd j.1 due
      · exact j.1
    exact turn hm l3 l5 (fun z => no_go (q_part hg k x due1) (p_end z)) l6 l7 (q_part hg k x due1) (stp_p (by omega) due) (smp_p k (by rw [i1]; exact due))
end FORM
