theorem dXp_0 : decode cX11_person 0 = .ok (.aload_n 0, 1) := by decide +kernel
theorem dXp_1 : decode cX11_person 1 = .ok (.iload_n 1, 1) := by decide +kernel
theorem dXp_2 : decode cX11_person 2 = .ok (.invokevirtual 135, 3) := by decide +kernel
theorem dXp_5 : decode cX11_person 5 = .ok (.ifCond .ne 13, 3) := by decide +kernel
theorem dXp_8 : decode cX11_person 8 = .ok (.new 143, 3) := by decide +kernel
theorem dXp_11 : decode cX11_person 11 = .ok (.dup, 1) := by decide +kernel
theorem dXp_12 : decode cX11_person 12 = .ok (.ldc 145, 2) := by decide +kernel
theorem dXp_14 : decode cX11_person 14 = .ok (.invokespecial 147, 3) := by decide +kernel
theorem dXp_17 : decode cX11_person 17 = .ok (.athrow, 1) := by decide +kernel
theorem dXp_18 : decode cX11_person 18 = .ok (.aload_n 0, 1) := by decide +kernel
theorem dXp_19 : decode cX11_person 19 = .ok (.getfield 27, 3) := by decide +kernel
theorem dXp_22 : decode cX11_person 22 = .ok (.getfield 127, 3) := by decide +kernel
theorem dXp_25 : decode cX11_person 25 = .ok (.astore_n 3, 1) := by decide +kernel
theorem dXp_26 : decode cX11_person 26 = .ok (.iload_n 2, 1) := by decide +kernel
theorem dXp_27 : decode cX11_person 27 = .ok (.tableswitch 106 0 6 #[41, 48, 55, 62, 69, 78, 88], 41) := by decide +kernel
theorem dXp_68 : decode cX11_person 68 = .ok (.aload_n 3, 1) := by decide +kernel
theorem dXp_69 : decode cX11_person 69 = .ok (.getfield 150, 3) := by decide +kernel
theorem dXp_72 : decode cX11_person 72 = .ok (.iload_n 1, 1) := by decide +kernel
theorem dXp_73 : decode cX11_person 73 = .ok (.iaload, 1) := by decide +kernel
theorem dXp_74 : decode cX11_person 74 = .ok (.ireturn, 1) := by decide +kernel
theorem dXp_75 : decode cX11_person 75 = .ok (.aload_n 3, 1) := by decide +kernel
theorem dXp_76 : decode cX11_person 76 = .ok (.getfield 153, 3) := by decide +kernel
theorem dXp_79 : decode cX11_person 79 = .ok (.iload_n 1, 1) := by decide +kernel
theorem dXp_80 : decode cX11_person 80 = .ok (.iaload, 1) := by decide +kernel
theorem dXp_81 : decode cX11_person 81 = .ok (.ireturn, 1) := by decide +kernel
theorem dXp_82 : decode cX11_person 82 = .ok (.aload_n 3, 1) := by decide +kernel
theorem dXp_83 : decode cX11_person 83 = .ok (.getfield 156, 3) := by decide +kernel
theorem dXp_86 : decode cX11_person 86 = .ok (.iload_n 1, 1) := by decide +kernel
theorem dXp_87 : decode cX11_person 87 = .ok (.iaload, 1) := by decide +kernel
theorem dXp_88 : decode cX11_person 88 = .ok (.ireturn, 1) := by decide +kernel
theorem dXp_89 : decode cX11_person 89 = .ok (.aload_n 3, 1) := by decide +kernel
theorem dXp_90 : decode cX11_person 90 = .ok (.getfield 159, 3) := by decide +kernel
theorem dXp_93 : decode cX11_person 93 = .ok (.iload_n 1, 1) := by decide +kernel
theorem dXp_94 : decode cX11_person 94 = .ok (.iaload, 1) := by decide +kernel
theorem dXp_95 : decode cX11_person 95 = .ok (.ireturn, 1) := by decide +kernel
theorem dXp_96 : decode cX11_person 96 = .ok (.aload_n 0, 1) := by decide +kernel
theorem dXp_97 : decode cX11_person 97 = .ok (.getfield 39, 3) := by decide +kernel
theorem dXp_100 : decode cX11_person 100 = .ok (.iload_n 1, 1) := by decide +kernel
theorem dXp_101 : decode cX11_person 101 = .ok (.invokevirtual 162, 3) := by decide +kernel
theorem dXp_104 : decode cX11_person 104 = .ok (.ireturn, 1) := by decide +kernel
theorem dXp_105 : decode cX11_person 105 = .ok (.aload_n 0, 1) := by decide +kernel
theorem dXp_106 : decode cX11_person 106 = .ok (.getfield 39, 3) := by decide +kernel
theorem dXp_109 : decode cX11_person 109 = .ok (.getfield 166, 3) := by decide +kernel
theorem dXp_112 : decode cX11_person 112 = .ok (.iload_n 1, 1) := by decide +kernel
theorem dXp_113 : decode cX11_person 113 = .ok (.iaload, 1) := by decide +kernel
theorem dXp_114 : decode cX11_person 114 = .ok (.ireturn, 1) := by decide +kernel
theorem dXp_115 : decode cX11_person 115 = .ok (.aload_n 0, 1) := by decide +kernel
theorem dXp_116 : decode cX11_person 116 = .ok (.getfield 39, 3) := by decide +kernel
theorem dXp_119 : decode cX11_person 119 = .ok (.getfield 169, 3) := by decide +kernel
theorem dXp_122 : decode cX11_person 122 = .ok (.iload_n 1, 1) := by decide +kernel
theorem dXp_123 : decode cX11_person 123 = .ok (.baload, 1) := by decide +kernel
theorem dXp_124 : decode cX11_person 124 = .ok (.ifCond .eq 7, 3) := by decide +kernel
theorem dXp_127 : decode cX11_person 127 = .ok (.iconst 1, 1) := by decide +kernel
theorem dXp_128 : decode cX11_person 128 = .ok (.goto 4, 3) := by decide +kernel
theorem dXp_131 : decode cX11_person 131 = .ok (.iconst 0, 1) := by decide +kernel
theorem dXp_132 : decode cX11_person 132 = .ok (.ireturn, 1) := by decide +kernel
theorem dXp_133 : decode cX11_person 133 = .ok (.new 173, 3) := by decide +kernel
theorem dXp_136 : decode cX11_person 136 = .ok (.dup, 1) := by decide +kernel
theorem dXp_137 : decode cX11_person 137 = .ok (.ldc 175, 2) := by decide +kernel
theorem dXp_139 : decode cX11_person 139 = .ok (.invokespecial 177, 3) := by decide +kernel
theorem dXp_142 : decode cX11_person 142 = .ok (.athrow, 1) := by decide +kernel
theorem dLp_0 : decode cL_person 0 = .ok (.aload_n 3, 1) := by decide +kernel
theorem dLp_1 : decode cL_person 1 = .ok (.iconst 0, 1) := by decide +kernel
theorem dLp_2 : decode cL_person 2 = .ok (.aload_n 0, 1) := by decide +kernel
theorem dLp_3 : decode cL_person 3 = .ok (.iload_n 1, 1) := by decide +kernel
theorem dLp_4 : decode cL_person 4 = .ok (.iload_n 2, 1) := by decide +kernel
theorem dLp_5 : decode cL_person 5 = .ok (.invokevirtual 7, 3) := by decide +kernel
theorem dLp_8 : decode cL_person 8 = .ok (.i2l, 1) := by decide +kernel
theorem dLp_9 : decode cL_person 9 = .ok (.lastore, 1) := by decide +kernel
theorem dLp_10 : decode cL_person 10 = .ok (.goto 11, 3) := by decide +kernel
theorem dLp_13 : decode cL_person 13 = .ok (.astore 4, 2) := by decide +kernel
theorem dLp_15 : decode cL_person 15 = .ok (.iconst 1, 1) := by decide +kernel
theorem dLp_16 : decode cL_person 16 = .ok (.ireturn, 1) := by decide +kernel
theorem dLp_17 : decode cL_person 17 = .ok (.astore 4, 2) := by decide +kernel
theorem dLp_19 : decode cL_person 19 = .ok (.iconst 2, 1) := by decide +kernel
theorem dLp_20 : decode cL_person 20 = .ok (.ireturn, 1) := by decide +kernel
theorem dLp_21 : decode cL_person 21 = .ok (.iconst 0, 1) := by decide +kernel
theorem dLp_22 : decode cL_person 22 = .ok (.ireturn, 1) := by decide +kernel
theorem wp_150 : Cond.fieldLink RX11 150 (TX6 2).1 (TX6 2).2.1 (TX6 2).2.2.1 ∈ TS := inT1 236 (by decide +kernel) (by decide +kernel)
theorem wp_156 : Cond.fieldLink RX11 156 (TX6 4).1 (TX6 4).2.1 (TX6 4).2.2.1 ∈ TS := inT2 4 (by decide +kernel) (by decide +kernel)
theorem wp_159 : Cond.fieldLink RX11 159 (TX6 5).1 (TX6 5).2.1 (TX6 5).2.2.1 ∈ TS := inT2 8 (by decide +kernel) (by decide +kernel)
def m_pers : MD := (yX11_person, cX11_person, 4, some .int, { frames := 7, cells := 1, slots := 6, locals := 120 })
theorem mm_pers : MdV m_pers 2 := ⟨⟨inT5 224 (by decide +kernel) (by decide +kernel), inT1 1 (by decide +kernel) (by decide +kernel), ⟨by decide, by decide⟩, by decide +kernel⟩, inT5 222 (by decide +kernel) (by decide +kernel), inT5 223 (by decide +kernel) (by decide +kernel)⟩
theorem wp_7 : Cond.methodLink RL 7 yX11_person ∈ TS := inT5 221 (by decide +kernel) (by decide +kernel)
/-- what person answers, where it answers -/
def f_pv (M : MM) (p1 p2 : Int) : Option Int :=
(f_X11_isPerson M p1).bind fun a =>
if a = 0 then none else
gH (M 0 3) fun b1 =>
gd (0 ≤ p1 ∧ p1 < (5 : Int)) <|
if p2 = 0 then some (M (b1 + 8) p1.toNat) else
if p2 = 1 then some (M (b1 + 9) p1.toNat) else
if p2 = 2 then some (M (b1 + 10) p1.toNat) else
if p2 = 3 then some (M (b1 + 11) p1.toNat) else
if p2 = 4 then (f_X0_feltBy M 54 p1).bind fun v => some v else
if p2 = 5 then some (M 58 p1.toNat) else
if p2 = 6 then (if M 56 p1.toNat = 0 then some 0 else some 1) else
none
theorem pers_cases {M : MM} {p1 p2 : Int} {y : Int × MM} (h : f_Lperson M p1 p2 = some y) : (f_X11_isPerson M p1 = some 0 ∧ y = (1, M)) ∨ (∃ v, f_pv M p1 p2 = some v ∧ y = (0, upM M 139 0 v)) ∨ (∃ (a : Int) (b : Nat), f_X11_isPerson M p1 = some a ∧ a ≠ 0 ∧ (b = 8 ∨ b = 31) ∧ M 0 3 = (b : Int) ∧ (p2 < 0 ∨ 6 < p2) ∧ y = (2, M)) := by
  unfold f_Lperson at h
  obtain ⟨a, ha, h⟩ := Option.bind_eq_some_iff.mp h
  by_cases a0 : a = 0
  · rw [if_pos a0] at h
    exact Or.inl ⟨by rw [ha, a0], (Option.some.inj h).symm⟩
  refine Or.inr ?_
  rw [if_neg a0] at h
  unfold gH at h
  have hz : M 0 3 = 8 ∨ M 0 3 = 31 := Classical.byContradiction fun q => by rw [if_neg q] at h; cases h
  rw [if_pos hz] at h
  dsimp only at h
  unfold gd at h
  have hg : 0 ≤ p1 ∧ p1 < (5 : Int) := Classical.byContradiction fun q => by rw [if_neg q] at h; cases h
  rw [if_pos hg] at h
  have e : f_pv M p1 p2 = f_pv M p1 p2 := rfl
  conv at e => rhs; unfold f_pv; rw [ha]
  rw [Option.bind_some, if_neg a0] at e
  unfold gH at e
  rw [if_pos hz] at e
  dsimp only at e
  unfold gd at e
  rw [if_pos hg] at e
  by_cases q0 : p2 = 0
  · rw [if_pos q0] at h e
    exact Or.inl ⟨_, e, (Option.some.inj h).symm⟩
  rw [if_neg q0] at h e
  by_cases q1 : p2 = 1
  · rw [if_pos q1] at h e
    exact Or.inl ⟨_, e, (Option.some.inj h).symm⟩
  rw [if_neg q1] at h e
  by_cases q2 : p2 = 2
  · rw [if_pos q2] at h e
    exact Or.inl ⟨_, e, (Option.some.inj h).symm⟩
  rw [if_neg q2] at h e
  by_cases q3 : p2 = 3
  · rw [if_pos q3] at h e
    exact Or.inl ⟨_, e, (Option.some.inj h).symm⟩
  rw [if_neg q3] at h e
  by_cases q4 : p2 = 4
  · rw [if_pos q4] at h e
    obtain ⟨v, hv, h⟩ := Option.bind_eq_some_iff.mp h
    rw [hv] at e
    exact Or.inl ⟨v, e, (Option.some.inj h).symm⟩
  rw [if_neg q4] at h e
  by_cases q5 : p2 = 5
  · rw [if_pos q5] at h e
    exact Or.inl ⟨_, e, (Option.some.inj h).symm⟩
  rw [if_neg q5] at h e
  by_cases q6 : p2 = 6
  · rw [if_pos q6] at h e
    by_cases r : M 56 p1.toNat = 0
    · rw [if_pos r] at h e
      exact Or.inl ⟨_, e, (Option.some.inj h).symm⟩
    · rw [if_neg r] at h e
      exact Or.inl ⟨_, e, (Option.some.inj h).symm⟩
  rw [if_neg q6] at h e
  exact Or.inr ⟨a, (M 0 3).toNat, ha, a0, by omega, by omega, by omega, (Option.some.inj h).symm⟩
set_option maxRecDepth 4000 in
theorem c_pers {E : EE} {sh : List (Nat × Nat)} {ex : Bool} {R : RM} {M : MM} {p1 : Int} {p2 : Int} (hE : Ext sh) (hL : Links R) : ∀ v, f_pv M p1 p2 = some v → MetC E m_pers 1 6 [rV 0, iV p1, iV p2] (sh, ex, R, M) (fun r w' => r = some (iV v) ∧ w' = (sh, ex, R, M)) := by
  intro y hy
  refine MetC.seg (o := f_pv M p1 p2) (t := (fun K y => K (some (iV y)) (sh, ex, R, M))) (L := [some (rV 0), some (iV p1), some (iV p2), none]) (by decide) rfl (Nat.le_of_ble_eq_true rfl) ?_ hy ⟨rfl, rfl⟩
  unfold f_pv
  refine Seg.step (pc' := 1) (I_aload_n (i := 0) dXp_0 rfl rfl) ?_
  refine Seg.step (pc' := 2) (I_iload_n (i := 1) dXp_1 rfl rfl) ?_
  refine S_callV1 (md' := m_X11_isPerson) (fun y => some (iV y)) (fun y => (sh, ex, R, M)) (hE _ _ sk_11) ⟨by decide, rfl⟩ mm_X11_isPerson wm_11_135 ⟨rfl, rfl, by decide, by decide, by decide, by decide⟩ (Nat.le_of_ble_eq_true rfl) dXp_2 (fun y hy => c_X11_isPerson hE hL y hy) (fun x1 => ?_)
  refine S_if_ne (tgt := 18) dXp_5 (by decide) (fun h2 => ?_) (fun h2 => ?_)
  · intro K x hx _
    cases hx
  refine S_gH fun b1 hb1 zb1 => ?_
  refine S_gd fun hg => ?_
  refine Seg.step (pc' := 19) (I_aload_n (i := 0) dXp_18 rfl rfl) ?_
  refine Seg.step (pc' := 22) (I_getH cls11 (by decide) wf_11_27 (hE _ _ sk_11) rfl zb1 (hkp hb1) dXp_19) ?_
  refine Seg.step (pc' := 25) (I_getR cls2 (by decide) wf_11_127 (hE _ _ (hks hb1)) rfl (lk_2_1 hL (hks hb1)) dXp_22) ?_
  refine Seg.step (pc' := 26) (I_astore_n (i := 3) dXp_25 rfl (by decide) rfl) ?_
  refine Seg.step (pc' := 27) (I_iload_n (i := 2) dXp_26 rfl rfl) ?_
  refine S_ite (fun q => ?_) (fun _ => ?_)
  · refine Seg.step (I_tsw (v := 0) (off := 41) (tgt := 68) dXp_27 q (by decide) rfl (by decide)) ?_
    refine Seg.step (pc' := 69) (I_aload_n (i := 3) dXp_68 rfl rfl) ?_
    refine Seg.step (pc' := 72) (I_getR cls6 (by decide) wp_150 (hE _ _ (sk_2_1 (hks hb1))) rfl (lk_6_2 hL (sk_2_1 (hks hb1))) dXp_69) ?_
    refine Seg.step (pc' := 73) (I_iload_n (i := 1) dXp_72 rfl rfl) ?_
    refine Seg.step (pc' := 74) (I_iald (hE _ _ (sk_6_2 (sk_2_1 (hks hb1)))) hg dXp_73) ?_
    exact S_iret dXp_74 rfl (by decide) (by decide) (fun K hK => hK)
  refine S_ite (fun q => ?_) (fun _ => ?_)
  · refine Seg.step (I_tsw (v := 1) (off := 48) (tgt := 75) dXp_27 q (by decide) rfl (by decide)) ?_
    refine Seg.step (pc' := 76) (I_aload_n (i := 3) dXp_75 rfl rfl) ?_
    refine Seg.step (pc' := 79) (I_getR cls6 (by decide) wf_11_153 (hE _ _ (sk_2_1 (hks hb1))) rfl (lk_6_3 hL (sk_2_1 (hks hb1))) dXp_76) ?_
    refine Seg.step (pc' := 80) (I_iload_n (i := 1) dXp_79 rfl rfl) ?_
    refine Seg.step (pc' := 81) (I_iald (hE _ _ (sk_6_3 (sk_2_1 (hks hb1)))) hg dXp_80) ?_
    exact S_iret dXp_81 rfl (by decide) (by decide) (fun K hK => hK)
  refine S_ite (fun q => ?_) (fun _ => ?_)
  · refine Seg.step (I_tsw (v := 2) (off := 55) (tgt := 82) dXp_27 q (by decide) rfl (by decide)) ?_
    refine Seg.step (pc' := 83) (I_aload_n (i := 3) dXp_82 rfl rfl) ?_
    refine Seg.step (pc' := 86) (I_getR cls6 (by decide) wp_156 (hE _ _ (sk_2_1 (hks hb1))) rfl (lk_6_4 hL (sk_2_1 (hks hb1))) dXp_83) ?_
    refine Seg.step (pc' := 87) (I_iload_n (i := 1) dXp_86 rfl rfl) ?_
    refine Seg.step (pc' := 88) (I_iald (hE _ _ (sk_6_4 (sk_2_1 (hks hb1)))) hg dXp_87) ?_
    exact S_iret dXp_88 rfl (by decide) (by decide) (fun K hK => hK)
  refine S_ite (fun q => ?_) (fun _ => ?_)
  · refine Seg.step (I_tsw (v := 3) (off := 62) (tgt := 89) dXp_27 q (by decide) rfl (by decide)) ?_
    refine Seg.step (pc' := 90) (I_aload_n (i := 3) dXp_89 rfl rfl) ?_
    refine Seg.step (pc' := 93) (I_getR cls6 (by decide) wp_159 (hE _ _ (sk_2_1 (hks hb1))) rfl (lk_6_5 hL (sk_2_1 (hks hb1))) dXp_90) ?_
    refine Seg.step (pc' := 94) (I_iload_n (i := 1) dXp_93 rfl rfl) ?_
    refine Seg.step (pc' := 95) (I_iald (hE _ _ (sk_6_5 (sk_2_1 (hks hb1)))) hg dXp_94) ?_
    exact S_iret dXp_95 rfl (by decide) (by decide) (fun K hK => hK)
  refine S_ite (fun q => ?_) (fun _ => ?_)
  · refine Seg.step (I_tsw (v := 4) (off := 69) (tgt := 96) dXp_27 q (by decide) rfl (by decide)) ?_
    refine Seg.step (pc' := 97) (I_aload_n (i := 0) dXp_96 rfl rfl) ?_
    refine Seg.step (pc' := 100) (I_getR cls11 (by decide) wf_11_39 (hE _ _ sk_11) rfl (lk_11_5 hL) dXp_97) ?_
    refine Seg.step (pc' := 101) (I_iload_n (i := 1) dXp_100 rfl rfl) ?_
    refine S_callV1 (md' := m_X0_feltBy) (fun y => some (iV y)) (fun y => (sh, ex, R, M)) (hE _ _ sk_11_5) ⟨by decide, rfl⟩ mm_X0_feltBy wm_11_162 ⟨rfl, rfl, by decide, by decide, by decide, by decide⟩ (Nat.le_of_ble_eq_true rfl) dXp_101 (fun y hy => c_X0_feltBy hE hL sk_11_5 y hy) (fun x1 => ?_)
    exact S_iret dXp_104 rfl (by decide) (by decide) (fun K hK => hK)
  refine S_ite (fun q => ?_) (fun _ => ?_)
  · refine Seg.step (I_tsw (v := 5) (off := 78) (tgt := 105) dXp_27 q (by decide) rfl (by decide)) ?_
    refine Seg.step (pc' := 106) (I_aload_n (i := 0) dXp_105 rfl rfl) ?_
    refine Seg.step (pc' := 109) (I_getR cls11 (by decide) wf_11_39 (hE _ _ sk_11) rfl (lk_11_5 hL) dXp_106) ?_
    refine Seg.step (pc' := 112) (I_getR cls0 (by decide) wf_11_166 (hE _ _ sk_11_5) rfl (lk_0_9 hL sk_11_5) dXp_109) ?_
    refine Seg.step (pc' := 113) (I_iload_n (i := 1) dXp_112 rfl rfl) ?_
    refine Seg.step (pc' := 114) (I_iald (hE _ _ (sk_0_9 sk_11_5)) hg dXp_113) ?_
    exact S_iret dXp_114 rfl (by decide) (by decide) (fun K hK => hK)
  refine S_ite (fun q => ?_) (fun _ => ?_)
  · refine Seg.step (I_tsw (v := 6) (off := 88) (tgt := 115) dXp_27 q (by decide) rfl (by decide)) ?_
    refine Seg.step (pc' := 116) (I_aload_n (i := 0) dXp_115 rfl rfl) ?_
    refine Seg.step (pc' := 119) (I_getR cls11 (by decide) wf_11_39 (hE _ _ sk_11) rfl (lk_11_5 hL) dXp_116) ?_
    refine Seg.step (pc' := 122) (I_getR cls0 (by decide) wf_11_169 (hE _ _ sk_11_5) rfl (lk_0_7 hL sk_11_5) dXp_119) ?_
    refine Seg.step (pc' := 123) (I_iload_n (i := 1) dXp_122 rfl rfl) ?_
    refine Seg.step (pc' := 124) (I_zald (hE _ _ (sk_0_7 sk_11_5)) hg dXp_123) ?_
    refine S_if_eq (tgt := 131) dXp_124 (by decide) (fun h8 => ?_) (fun h8 => ?_)
    · refine Seg.step (pc' := 132) (I_iconst dXp_131 ⟨by decide, by decide⟩) ?_
      exact S_iret dXp_132 rfl (by decide) (by decide) (fun K hK => hK)
    · refine Seg.step (pc' := 128) (I_iconst dXp_127 ⟨by decide, by decide⟩) ?_
      refine Seg.step (pc' := 132) (I_goto (tgt := 132) dXp_128 (by decide)) ?_
      exact S_iret dXp_132 rfl (by decide) (by decide) (fun K hK => hK)
  intro K x hx _
  cases hx
