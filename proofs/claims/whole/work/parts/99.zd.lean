theorem rk_nn (x : Int) : 0 ≤ rk x := by
  unfold rk
  repeat' split
  all_goals decide
section FORM
variable {M N : MM} {n t g : Nat} {W K V A B Ko Vo Ao Bo : List Int}
/-- a sign that joins, or no such sign -/
theorem q_joint (hg : g = 8 ∨ g = 31) (k : RT' M N n t) (x : FX M N g W K V A B Ko Vo Ao Bo) (due : M 5 5 = 0) : NO M N (f_X1_readJoint M (g + 12)) (f_X12_signs N) ∨ GO M N g n t Ko Vo Ao Bo (f_X1_readJoint M (g + 12)) (f_X12_signs N) := by
  by_cases hc : M 3 4 = 41 ∧ 0 < nb W
  · exact Or.inr (q_close hg k x due hc.1 hc.2)
  have x' := x
  obtain ⟨c1, c2, ⟨c3, c4⟩, ⟨d1, d2, d3⟩, ⟨e1, e2⟩, ⟨i1, i2, i3⟩, j, ⟨k1, k2, k3⟩, l⟩ := x'
  have hj : (plc Ko.length K).length = bn W + 1 := by
    rcases j with j | j
    · exact j.2
    · exact absurd j.1 (by omega)
  have u1 := j_c (g := g) d1 hc
  have u2 := j_n k d2 hc
  by_cases jb : 1 ≤ rk (M 3 4) ∧ rk (M 3 4) ≠ 3
  · have jb' := rk_jb.mp jb
    obtain ⟨pm, hpm⟩ : ∃ pm : Int, pm = if rk (M 3 4) = 4 then 5 else rk (M 3 4) := ⟨_, rfl⟩
    have pm1 : 1 ≤ pm := by rw [hpm]; split <;> omega
    obtain ⟨N1, A', B', s0, s1, s3, s4, s5, s6⟩ := rel_m (p := pm) pm1 c2 c3 d3 k3 hj l
    have hpm' : ((if rk (M 3 4) = 4 then (some 5) else (f_X12_rank N (cd (M 3 4))).bind fun x28 => some x28) : Option Int) = some pm := by
      rw [m_rank N jb'.1, Option.bind_some, hpm]
      split <;> rfl
    have lw := len_wr pm W
    have nbz := nb_nz W
    rw [if_pos jb] at u2
    unfold jnN at u2
    rw [if_neg (cd_jb jb'), m_rank N jb'.1, Option.bind_some] at u2
    rw [m_rank N jb'.1] at hpm'
    rw [hpm', Option.bind_some, s0, Option.bind_some, m_rank N1 jb'.1, Option.bind_some, m_look s1 (AJ_wr pm W c3) (by omega)] at u2
    by_cases lk : rk (M 3 4) = 4 ∧ tp (wr pm W) = 4
    · left
      rw [if_pos lk] at u2
      refine NO.mk k s3.f (by decide : (1 : Int) ≠ 0) ?_ u2
      have ct : CT W = 1 := by
        have h := CT_hi _ lk.2
        rw [hpm, if_pos lk.1, CT_5] at h
        exact h
      rw [u1]
      unfold jnC
      rw [c_rank, Option.bind_some, if_neg (by omega), if_neg jb.2, if_pos lk.1, d1, gd_t (by omega), Int.toNat_natCast, e1, ct, if_neg (by decide), bS_r]
    · rw [if_neg lk] at u2
      have hct : rk (M 3 4) = 4 → CT W = 0 := fun w => by
        have h1 := tp_wr pm pm1 W
        have h2 : tp (wr pm W) ≠ 4 := fun z => lk ⟨w, z⟩
        have h3 := CT_lo _ (SO_wr pm W c4) (by rw [hpm, if_pos w] at h1 h2 ⊢; omega)
        rw [hpm, if_pos w, CT_5] at h3
        exact h3
      have ur : ∀ F : Unit → Option (Int × MM), bS ((if rk (M 3 4) = 4 then (gd (0 ≤ M 5 4 ∧ M 5 4 < (9 : Int)) <| if (M 7 (M 5 4).toNat) = 0 then (some (Sum.inl ())) else some (Sum.inr ((1 : Int), M))) else some (Sum.inl ())) : Option ((Unit) ⊕ (Int × MM))) F (fun r => r) = F () := fun F => by
        by_cases w : rk (M 3 4) = 4
        · rw [if_pos w, d1, gd_t (by omega), Int.toNat_natCast, e1, hct w, if_pos rfl, bS_l]
        · rw [if_neg w, bS_l]
      unfold jnC at u1
      rw [c_rank, Option.bind_some, if_neg (by omega), if_neg jb.2, ur] at u1
      by_cases q : nz W + (Ko.length + K.length) < 64
      · right
        obtain ⟨M1, N2, r1, r2, r3, r4, r5⟩ := join_GO hg k x due jb' rfl hpm hct q s1 s3 s4 s5 s6
        exact GO.mk hg k r3 r4 r5 (by rw [u1, if_pos (by rw [k1]; omega)]; exact r1) (by rw [u2]; exact r2)
      · left
        have n48 : N1 88 48 = ((nz W + (Ko.length + K.length) : Nat) : Int) := by rw [s3 88 48 (by decide) (by decide) (by decide)]; exact k2
        obtain ⟨N', r1, r2⟩ := m_full' n48 q k3
        refine NO.mk' k s3.f (by decide : (2 : Int) ≠ 0) (by rw [u1, if_neg (by rw [k1]; omega)]) r1 ?_
        rw [u2]
        unfold jnE
        rw [r2, Option.bind_some, if_pos rfl]
  · left
    rw [if_neg jb] at u2
    have u2' : f_X12_signs N = (f_X12_wrong N 1).bind fun x => gd (x.1 = 0 ∨ x.1 = 1) <| some (x.1, x.2) := by
      rw [u2]
      unfold jnN
      rw [if_pos rfl]
    refine NO.mk k FN1.rf (by decide : (1 : Int) ≠ 0) ?_ u2'
    rw [u1]
    unfold jnC
    rw [c_rank, Option.bind_some]
    have := rk_nn (M 3 4)
    by_cases w : rk (M 3 4) = 0
    · rw [if_pos w]
    · rw [if_neg w, if_pos (by omega)]
end FORM
