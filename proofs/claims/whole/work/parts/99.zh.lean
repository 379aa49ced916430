section FORM
variable {M N : MM} {n t g : Nat} {Ko Vo Ao Bo : List Int}
theorem into_eq {a1 : Nat} : f_X1_readInto M a1 = bS (lp (stp a1) FU (0, cS M)) (fun x29 => (f_X1_release x29 a1 1).bind fun x30 => some (0, x30)) (fun r => r) := by
  unfold f_X1_readInto
  rw [bM_eq, bM_eq, bM_eq, bM_eq, bM_eq]
  rfl
theorem sum_eq : f_X12_sumRead N = bS (lp smp FU (nS N)) (fun x26 => (f_X12_bind x26 1).bind fun x27 => some (1, x27)) (fun r => r) := by
  unfold f_X12_sumRead
  rw [bM_eq, bM_eq, bM_eq, bM_eq, bM_eq]
  rfl
/-- a formula, on both sides -/
theorem q_form (hg : g = 8 ∨ g = 31) (k : RT' M N n t) (h0 : 0 < t) (w : WB M N g Ko Vo Ao Bo) : (∃ v M' N', f_X1_readInto M (g + 12) = some (v, M') ∧ f_X12_sumRead N = some (0, N') ∧ v ≠ 0 ∧ N' 88 4 = v ∧ N' 88 5 = M' 3 6 ∧ FFC g M' M ∧ FFN 1 N' N) ∨ ∃ (M' N' : MM) (s : Nat) (K V A B : List Int), f_X1_readInto M (g + 12) = some (0, M') ∧ f_X12_sumRead N = some (1, N') ∧ RT' M' N' n s ∧ t ≤ s ∧ M' 3 4 = 59 ∧ WB M' N' g (K ++ Ko) (V ++ Vo) (A ++ Ao) (B ++ Bo) ∧ OKK Ko.length K V A B ∧ (plc Ko.length K).length = 1 ∧ FFC g M' M ∧ FFN 0 N' N := by
  obtain ⟨y, y', e1, e2, q⟩ := q_loop hg k h0 w
  rcases q with ⟨M2, N2, s, W, K, V, A, B, y1, y2, r1, r2, x, due, nb0, e59, f1, f2⟩ | ⟨v, M2, N2, y1, y2, r1, r2, r3, f1, f2⟩
  · right
    obtain ⟨c1, c2, ⟨c3, c4⟩, ⟨d1, d2, d3⟩, ⟨g1, g2⟩, ⟨i1, i2, i3⟩, j, ⟨k1, k2, k3⟩, l⟩ := x
    have hj : (plc Ko.length K).length = bn W + 1 := by
      rcases j with j | j
      · exact j.2
      · exact absurd j.1 (by omega)
    obtain ⟨M1, p1, p2, p3⟩ := rel_c hg (p := 1) (by decide) c1 c3 d3 k3
    obtain ⟨N1, A', B', s1, s2, s3, s4, s5, s6⟩ := rel_m (p := 1) (by decide) c2 c3 d3 k3 hj l
    rw [(wr_br c3).2 nb0] at p2 s2 s5 s6
    have s6' : 0 + (Ko.length + (kr 1 W K).length) = nz W + (Ko.length + K.length) := s6
    have ln : (kr 1 W K ++ Ko).length = Ko.length + (kr 1 W K).length := by rw [List.length_append]; omega
    obtain ⟨a1, a2, a3, a4, a5, a6⟩ := p2
    obtain ⟨⟨b1, b2⟩, ⟨b3, b4⟩, b5, ⟨b6, b7⟩, ⟨b8, b9⟩, t1, t2⟩ := s2
    refine ⟨M1, N1, s, kr 1 W K, vr 1 W V, A', B', ?_, ?_, r1.fr hg p3.f s3.f, r2, ?_, ⟨⟨a3, ?_, by omega⟩, ⟨a4, a5, a6⟩, ⟨?_, ?_⟩, b6, ⟨b8, by omega⟩, t1, by omega⟩, s4, s5, p3.f.c.tr f1, s3.f.c.tr f2⟩
    · rw [into_eq, e1, y1, bS_l, p1, Option.bind_some]
    · rw [sum_eq, e2, y2, bS_l, s1, Option.bind_some]
    · rw [p3 3 4 (by omega) (by omega) (by omega) (by omega)]; exact e59
    · rw [p3 (g + 12) 7 (by omega) (by omega) (by omega) (by omega), k1, ln]; congr 1; omega
    · rw [b5, ln]
    · rw [s3 88 48 (by decide) (by decide) (by decide), k2, ln]; congr 1; omega
  · left
    refine ⟨v, M2, N2, ?_, ?_, r1, r2, r3, f1, f2⟩
    · rw [into_eq, e1, y1, bS_r]
    · rw [sum_eq, e2, y2, bS_r]
end FORM
