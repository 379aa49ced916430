theorem dX11_swings_0 : decode cX11_swings 0 = .ok (.iload_n 1, 1) := by decide +kernel
theorem dX11_swings_1 : decode cX11_swings 1 = .ok (.iconst 1, 1) := by decide +kernel
theorem dX11_swings_2 : decode cX11_swings 2 = .ok (.sipush 200, 3) := by decide +kernel
theorem dX11_swings_5 : decode cX11_swings 5 = .ok (.invokestatic 139, 3) := by decide +kernel
theorem dX11_swings_8 : decode cX11_swings 8 = .ok (.ifCond .ne 5, 3) := by decide +kernel
theorem dX11_swings_11 : decode cX11_swings 11 = .ok (.iconst (-1), 1) := by decide +kernel
theorem dX11_swings_12 : decode cX11_swings 12 = .ok (.ireturn, 1) := by decide +kernel
theorem dX11_swings_13 : decode cX11_swings 13 = .ok (.aload_n 0, 1) := by decide +kernel
theorem dX11_swings_14 : decode cX11_swings 14 = .ok (.invokevirtual 284, 3) := by decide +kernel
theorem dX11_swings_17 : decode cX11_swings 17 = .ok (.aload_n 0, 1) := by decide +kernel
theorem dX11_swings_18 : decode cX11_swings 18 = .ok (.getfield 46, 3) := by decide +kernel
theorem dX11_swings_21 : decode cX11_swings 21 = .ok (.iload_n 1, 1) := by decide +kernel
theorem dX11_swings_22 : decode cX11_swings 22 = .ok (.invokevirtual 264, 3) := by decide +kernel
theorem dX11_swings_25 : decode cX11_swings 25 = .ok (.aload_n 0, 1) := by decide +kernel
theorem dX11_swings_26 : decode cX11_swings 26 = .ok (.getfield 46, 3) := by decide +kernel
theorem dX11_swings_29 : decode cX11_swings 29 = .ok (.getfield 287, 3) := by decide +kernel
theorem dX11_swings_32 : decode cX11_swings 32 = .ok (.ireturn, 1) := by decide +kernel
def f_X11_swings (M : MM) (p1 : Int) : Option (Int × MM) :=
(f_X11_isWithin M p1 1 200).bind fun x1 =>
if x1 = 0 then
(some ((-1), M))
else
(f_X11_tryAsItGoes M).bind fun x3 =>
(f_X0_run x3 70 p1).bind fun x4 =>
some (x4 70 16, x4)
set_option maxRecDepth 4000 in
theorem c_X11_swings {E : EE} {sh : List (Nat × Nat)} {R : RM} {M : MM} {p1 : Int} (hE : Ext sh) (hL : Links R) : ∀ y, f_X11_swings M p1 = some y → MetC E m_X11_swings 0 0 [rV 0, iV p1] (sh, false, R, M) (fun r w' => r = some (iV y.1) ∧ w' = (sh, false, R, y.2)) := by
  intro y hy
  refine MetC.seg (o := f_X11_swings M p1) (t := (fun K y => K (some (iV y.1)) (sh, false, R, y.2))) (L := [some (rV 0), some (iV p1)]) (by decide) rfl (Nat.le_of_ble_eq_true rfl) ?_ hy ⟨rfl, rfl⟩
  unfold f_X11_swings
  refine Seg.step (pc' := 1) (I_iload_n (i := 1) dX11_swings_0 rfl rfl) ?_
  refine Seg.step (pc' := 2) (I_iconst dX11_swings_1 ⟨by decide, by decide⟩) ?_
  refine Seg.step (pc' := 5) (I_sipush dX11_swings_2 (by decide) ⟨by decide, by decide⟩) ?_
  refine S_callS3 (md' := m_X11_isWithin) (fun y => some (iV y)) (fun y => (sh, false, R, M)) mm_X11_isWithin wm_11_139 ⟨rfl, rfl, by decide, by decide, by decide, by decide⟩ (Nat.le_of_ble_eq_true rfl) dX11_swings_5 (fun y hy => c_X11_isWithin hE hL y hy) (fun x1 => ?_)
  refine S_if_ne (tgt := 13) dX11_swings_8 (by decide) (fun h2 => ?_) (fun h2 => ?_)
  · refine Seg.step (pc' := 12) (I_iconst dX11_swings_11 ⟨by decide, by decide⟩) ?_
    exact S_iret dX11_swings_12 rfl (by decide) (by decide) (fun K hK => hK)
  refine Seg.step (pc' := 14) (I_aload_n (i := 0) dX11_swings_13 rfl rfl) ?_
  refine S_callV0 (md' := m_X11_tryAsItGoes) (fun y => none) (fun y => (sh, false, R, y)) (hE _ _ sk_11) ⟨by decide, rfl⟩ mm_X11_tryAsItGoes wm_11_284 ⟨rfl, rfl, by decide, by decide, by decide, by decide⟩ (Nat.le_of_ble_eq_true rfl) dX11_swings_14 (fun y hy => c_X11_tryAsItGoes hE hL y hy) (fun x3 => ?_)
  refine Seg.step (pc' := 18) (I_aload_n (i := 0) dX11_swings_17 rfl rfl) ?_
  refine Seg.step (pc' := 21) (I_getR cls11 (by decide) wf_11_46 (hE _ _ sk_11) rfl (lk_11_8 hL) dX11_swings_18) ?_
  refine Seg.step (pc' := 22) (I_iload_n (i := 1) dX11_swings_21 rfl rfl) ?_
  refine S_callV1 (md' := m_X0_run) (fun y => none) (fun y => (sh, false, R, y)) (hE _ _ sk_11_8) ⟨by decide, rfl⟩ mm_X0_run wm_11_264 ⟨rfl, rfl, by decide, by decide, by decide, by decide⟩ (Nat.le_of_ble_eq_true rfl) dX11_swings_22 (fun y hy => c_X0_run hE hL sk_11_8 y hy) (fun x4 => ?_)
  refine Seg.step (pc' := 26) (I_aload_n (i := 0) dX11_swings_25 rfl rfl) ?_
  refine Seg.step (pc' := 29) (I_getR cls11 (by decide) wf_11_46 (hE _ _ sk_11) rfl (lk_11_8 hL) dX11_swings_26) ?_
  refine Seg.step (pc' := 32) (I_getI cls0 (by decide) wf_11_287 (hE _ _ sk_11_8) rfl dX11_swings_29) ?_
  exact S_iret dX11_swings_32 rfl (by decide) (by decide) (fun K hK => hK)
theorem dX11_learn_0 : decode cX11_learn 0 = .ok (.iload_n 1, 1) := by decide +kernel
theorem dX11_learn_1 : decode cX11_learn 1 = .ok (.iconst 0, 1) := by decide +kernel
theorem dX11_learn_2 : decode cX11_learn 2 = .ok (.bipush 23, 2) := by decide +kernel
theorem dX11_learn_4 : decode cX11_learn 4 = .ok (.invokestatic 139, 3) := by decide +kernel
theorem dX11_learn_7 : decode cX11_learn 7 = .ok (.ifCond .ne 5, 3) := by decide +kernel
theorem dX11_learn_10 : decode cX11_learn 10 = .ok (.iconst (-1), 1) := by decide +kernel
theorem dX11_learn_11 : decode cX11_learn 11 = .ok (.ireturn, 1) := by decide +kernel
theorem dX11_learn_12 : decode cX11_learn 12 = .ok (.aload_n 0, 1) := by decide +kernel
theorem dX11_learn_13 : decode cX11_learn 13 = .ok (.getfield 39, 3) := by decide +kernel
theorem dX11_learn_16 : decode cX11_learn 16 = .ok (.getfield 290, 3) := by decide +kernel
theorem dX11_learn_19 : decode cX11_learn 19 = .ok (.iload_n 1, 1) := by decide +kernel
theorem dX11_learn_20 : decode cX11_learn 20 = .ok (.iaload, 1) := by decide +kernel
theorem dX11_learn_21 : decode cX11_learn 21 = .ok (.istore_n 2, 1) := by decide +kernel
theorem dX11_learn_22 : decode cX11_learn 22 = .ok (.iload_n 2, 1) := by decide +kernel
theorem dX11_learn_23 : decode cX11_learn 23 = .ok (.ifCond .ne 8, 3) := by decide +kernel
theorem dX11_learn_26 : decode cX11_learn 26 = .ok (.bipush (-2), 2) := by decide +kernel
theorem dX11_learn_28 : decode cX11_learn 28 = .ok (.goto 14, 3) := by decide +kernel
theorem dX11_learn_31 : decode cX11_learn 31 = .ok (.aload_n 0, 1) := by decide +kernel
theorem dX11_learn_32 : decode cX11_learn 32 = .ok (.getfield 39, 3) := by decide +kernel
theorem dX11_learn_35 : decode cX11_learn 35 = .ok (.getfield 293, 3) := by decide +kernel
theorem dX11_learn_38 : decode cX11_learn 38 = .ok (.iload_n 1, 1) := by decide +kernel
theorem dX11_learn_39 : decode cX11_learn 39 = .ok (.iaload, 1) := by decide +kernel
theorem dX11_learn_40 : decode cX11_learn 40 = .ok (.iload_n 2, 1) := by decide +kernel
theorem dX11_learn_41 : decode cX11_learn 41 = .ok (.idiv, 1) := by decide +kernel
theorem dX11_learn_42 : decode cX11_learn 42 = .ok (.ireturn, 1) := by decide +kernel
def f_X11_learn (M : MM) (p1 : Int) : Option (Int) :=
(f_X11_isWithin M p1 0 23).bind fun x1 =>
if x1 = 0 then
(some (-1))
else
gd (0 ≤ p1 ∧ p1 < (24 : Int)) <|
bI (M 61 (p1).toNat) fun x4 =>
if x4 = 0 then
(some (-2))
else
gd (0 ≤ p1 ∧ p1 < (24 : Int)) <|
gd (x4 ≠ 0) <|
some (w32 (Int.tdiv (M 60 (p1).toNat) x4))
set_option maxRecDepth 4000 in
theorem c_X11_learn {E : EE} {sh : List (Nat × Nat)} {ex : Bool} {R : RM} {M : MM} {p1 : Int} (hE : Ext sh) (hL : Links R) : ∀ y, f_X11_learn M p1 = some y → MetC E m_X11_learn 0 0 [rV 0, iV p1] (sh, ex, R, M) (fun r w' => r = some (iV y) ∧ w' = (sh, ex, R, M)) := by
  intro y hy
  refine MetC.seg (o := f_X11_learn M p1) (t := (fun K y => K (some (iV y)) (sh, ex, R, M))) (L := [some (rV 0), some (iV p1), none]) (by decide) rfl (Nat.le_of_ble_eq_true rfl) ?_ hy ⟨rfl, rfl⟩
  unfold f_X11_learn
  refine Seg.step (pc' := 1) (I_iload_n (i := 1) dX11_learn_0 rfl rfl) ?_
  refine Seg.step (pc' := 2) (I_iconst dX11_learn_1 ⟨by decide, by decide⟩) ?_
  refine Seg.step (pc' := 4) (I_bipush dX11_learn_2 (by decide) ⟨by decide, by decide⟩) ?_
  refine S_callS3 (md' := m_X11_isWithin) (fun y => some (iV y)) (fun y => (sh, ex, R, M)) mm_X11_isWithin wm_11_139 ⟨rfl, rfl, by decide, by decide, by decide, by decide⟩ (Nat.le_of_ble_eq_true rfl) dX11_learn_4 (fun y hy => c_X11_isWithin hE hL y hy) (fun x1 => ?_)
  refine S_if_ne (tgt := 12) dX11_learn_7 (by decide) (fun h2 => ?_) (fun h2 => ?_)
  · refine Seg.step (pc' := 11) (I_iconst dX11_learn_10 ⟨by decide, by decide⟩) ?_
    exact S_iret dX11_learn_11 rfl (by decide) (by decide) (fun K hK => hK)
  refine Seg.step (pc' := 13) (I_aload_n (i := 0) dX11_learn_12 rfl rfl) ?_
  refine Seg.step (pc' := 16) (I_getR cls11 (by decide) wf_11_39 (hE _ _ sk_11) rfl (lk_11_5 hL) dX11_learn_13) ?_
  refine Seg.step (pc' := 19) (I_getR cls0 (by decide) wf_11_290 (hE _ _ sk_11_5) rfl (lk_0_12 hL sk_11_5) dX11_learn_16) ?_
  refine Seg.step (pc' := 20) (I_iload_n (i := 1) dX11_learn_19 rfl rfl) ?_
  refine S_gd fun h3 => ?_
  refine Seg.step (pc' := 21) (I_iald (hE _ _ (sk_0_12 sk_11_5)) h3 dX11_learn_20) ?_
  refine S_bI fun x4 => ?_
  refine Seg.step (pc' := 22) (I_istore_n (i := 2) dX11_learn_21 rfl (by decide) rfl) ?_
  refine Seg.step (pc' := 23) (I_iload_n (i := 2) dX11_learn_22 rfl rfl) ?_
  refine S_if_ne (tgt := 31) dX11_learn_23 (by decide) (fun h5 => ?_) (fun h5 => ?_)
  · refine Seg.step (pc' := 28) (I_bipush dX11_learn_26 (by decide) ⟨by decide, by decide⟩) ?_
    refine Seg.step (pc' := 42) (I_goto (tgt := 42) dX11_learn_28 (by decide)) ?_
    exact S_iret dX11_learn_42 rfl (by decide) (by decide) (fun K hK => hK)
  refine Seg.step (pc' := 32) (I_aload_n (i := 0) dX11_learn_31 rfl rfl) ?_
  refine Seg.step (pc' := 35) (I_getR cls11 (by decide) wf_11_39 (hE _ _ sk_11) rfl (lk_11_5 hL) dX11_learn_32) ?_
  refine Seg.step (pc' := 38) (I_getR cls0 (by decide) wf_11_293 (hE _ _ sk_11_5) rfl (lk_0_11 hL sk_11_5) dX11_learn_35) ?_
  refine Seg.step (pc' := 39) (I_iload_n (i := 1) dX11_learn_38 rfl rfl) ?_
  refine S_gd fun h6 => ?_
  refine Seg.step (pc' := 40) (I_iald (hE _ _ (sk_0_11 sk_11_5)) h6 dX11_learn_39) ?_
  refine Seg.step (pc' := 41) (I_iload_n (i := 2) dX11_learn_40 rfl rfl) ?_
  refine S_gd fun h7 => ?_
  refine Seg.step (pc' := 42) (I_idiv dX11_learn_41 h7) ?_
  exact S_iret dX11_learn_42 rfl (by decide) (by decide) (fun K hK => hK)
theorem dX11_turnsOf_0 : decode cX11_turnsOf 0 = .ok (.aload_n 0, 1) := by decide +kernel
theorem dX11_turnsOf_1 : decode cX11_turnsOf 1 = .ok (.iload_n 1, 1) := by decide +kernel
theorem dX11_turnsOf_2 : decode cX11_turnsOf 2 = .ok (.invokevirtual 135, 3) := by decide +kernel
theorem dX11_turnsOf_5 : decode cX11_turnsOf 5 = .ok (.ifCond .eq 14, 3) := by decide +kernel
theorem dX11_turnsOf_8 : decode cX11_turnsOf 8 = .ok (.iload_n 2, 1) := by decide +kernel
theorem dX11_turnsOf_9 : decode cX11_turnsOf 9 = .ok (.iconst 0, 1) := by decide +kernel
theorem dX11_turnsOf_10 : decode cX11_turnsOf 10 = .ok (.sipush 200, 3) := by decide +kernel
theorem dX11_turnsOf_13 : decode cX11_turnsOf 13 = .ok (.invokestatic 139, 3) := by decide +kernel
theorem dX11_turnsOf_16 : decode cX11_turnsOf 16 = .ok (.ifCond .ne 5, 3) := by decide +kernel
theorem dX11_turnsOf_19 : decode cX11_turnsOf 19 = .ok (.iconst (-1), 1) := by decide +kernel
theorem dX11_turnsOf_20 : decode cX11_turnsOf 20 = .ok (.ireturn, 1) := by decide +kernel
theorem dX11_turnsOf_21 : decode cX11_turnsOf 21 = .ok (.iload_n 2, 1) := by decide +kernel
theorem dX11_turnsOf_22 : decode cX11_turnsOf 22 = .ok (.ifCond .ne 13, 3) := by decide +kernel
theorem dX11_turnsOf_25 : decode cX11_turnsOf 25 = .ok (.aload_n 0, 1) := by decide +kernel
theorem dX11_turnsOf_26 : decode cX11_turnsOf 26 = .ok (.getfield 39, 3) := by decide +kernel
theorem dX11_turnsOf_29 : decode cX11_turnsOf 29 = .ok (.getfield 296, 3) := by decide +kernel
theorem dX11_turnsOf_32 : decode cX11_turnsOf 32 = .ok (.iload_n 1, 1) := by decide +kernel
theorem dX11_turnsOf_33 : decode cX11_turnsOf 33 = .ok (.iaload, 1) := by decide +kernel
theorem dX11_turnsOf_34 : decode cX11_turnsOf 34 = .ok (.ireturn, 1) := by decide +kernel
theorem dX11_turnsOf_35 : decode cX11_turnsOf 35 = .ok (.aload_n 0, 1) := by decide +kernel
theorem dX11_turnsOf_36 : decode cX11_turnsOf 36 = .ok (.invokevirtual 284, 3) := by decide +kernel
theorem dX11_turnsOf_39 : decode cX11_turnsOf 39 = .ok (.aload_n 0, 1) := by decide +kernel
theorem dX11_turnsOf_40 : decode cX11_turnsOf 40 = .ok (.getfield 46, 3) := by decide +kernel
theorem dX11_turnsOf_43 : decode cX11_turnsOf 43 = .ok (.iload_n 2, 1) := by decide +kernel
theorem dX11_turnsOf_44 : decode cX11_turnsOf 44 = .ok (.invokevirtual 264, 3) := by decide +kernel
theorem dX11_turnsOf_47 : decode cX11_turnsOf 47 = .ok (.aload_n 0, 1) := by decide +kernel
theorem dX11_turnsOf_48 : decode cX11_turnsOf 48 = .ok (.getfield 46, 3) := by decide +kernel
theorem dX11_turnsOf_51 : decode cX11_turnsOf 51 = .ok (.getfield 296, 3) := by decide +kernel
theorem dX11_turnsOf_54 : decode cX11_turnsOf 54 = .ok (.iload_n 1, 1) := by decide +kernel
theorem dX11_turnsOf_55 : decode cX11_turnsOf 55 = .ok (.iaload, 1) := by decide +kernel
theorem dX11_turnsOf_56 : decode cX11_turnsOf 56 = .ok (.ireturn, 1) := by decide +kernel
def f_X11_turnsOf (M : MM) (p1 : Int) (p2 : Int) : Option (Int × MM) :=
(f_X11_isPerson M p1).bind fun x1 =>
if x1 = 0 then
(some ((-1), M))
else
(f_X11_isWithin M p2 0 200).bind fun x3 =>
if x3 = 0 then
(some ((-1), M))
else
if p2 = 0 then
(gd (0 ≤ p1 ∧ p1 < (5 : Int)) <|
some (M 59 (p1).toNat, M))
else
(f_X11_tryAsItGoes M).bind fun x7 =>
(f_X0_run x7 70 p2).bind fun x8 =>
gd (0 ≤ p1 ∧ p1 < (5 : Int)) <|
some (x8 75 (p1).toNat, x8)
set_option maxRecDepth 4000 in
theorem c_X11_turnsOf {E : EE} {sh : List (Nat × Nat)} {R : RM} {M : MM} {p1 : Int} {p2 : Int} (hE : Ext sh) (hL : Links R) : ∀ y, f_X11_turnsOf M p1 p2 = some y → MetC E m_X11_turnsOf 0 0 [rV 0, iV p1, iV p2] (sh, false, R, M) (fun r w' => r = some (iV y.1) ∧ w' = (sh, false, R, y.2)) := by
  intro y hy
  refine MetC.seg (o := f_X11_turnsOf M p1 p2) (t := (fun K y => K (some (iV y.1)) (sh, false, R, y.2))) (L := [some (rV 0), some (iV p1), some (iV p2)]) (by decide) rfl (Nat.le_of_ble_eq_true rfl) ?_ hy ⟨rfl, rfl⟩
  unfold f_X11_turnsOf
  refine Seg.step (pc' := 1) (I_aload_n (i := 0) dX11_turnsOf_0 rfl rfl) ?_
  refine Seg.step (pc' := 2) (I_iload_n (i := 1) dX11_turnsOf_1 rfl rfl) ?_
  refine S_callV1 (md' := m_X11_isPerson) (fun y => some (iV y)) (fun y => (sh, false, R, M)) (hE _ _ sk_11) ⟨by decide, rfl⟩ mm_X11_isPerson wm_11_135 ⟨rfl, rfl, by decide, by decide, by decide, by decide⟩ (Nat.le_of_ble_eq_true rfl) dX11_turnsOf_2 (fun y hy => c_X11_isPerson hE hL y hy) (fun x1 => ?_)
  refine S_if_eq (tgt := 19) dX11_turnsOf_5 (by decide) (fun h2 => ?_) (fun h2 => ?_)
  · refine Seg.step (pc' := 20) (I_iconst dX11_turnsOf_19 ⟨by decide, by decide⟩) ?_
    exact S_iret dX11_turnsOf_20 rfl (by decide) (by decide) (fun K hK => hK)
  refine Seg.step (pc' := 9) (I_iload_n (i := 2) dX11_turnsOf_8 rfl rfl) ?_
  refine Seg.step (pc' := 10) (I_iconst dX11_turnsOf_9 ⟨by decide, by decide⟩) ?_
  refine Seg.step (pc' := 13) (I_sipush dX11_turnsOf_10 (by decide) ⟨by decide, by decide⟩) ?_
  refine S_callS3 (md' := m_X11_isWithin) (fun y => some (iV y)) (fun y => (sh, false, R, M)) mm_X11_isWithin wm_11_139 ⟨rfl, rfl, by decide, by decide, by decide, by decide⟩ (Nat.le_of_ble_eq_true rfl) dX11_turnsOf_13 (fun y hy => c_X11_isWithin hE hL y hy) (fun x3 => ?_)
  refine S_if_ne (tgt := 21) dX11_turnsOf_16 (by decide) (fun h4 => ?_) (fun h4 => ?_)
  · refine Seg.step (pc' := 20) (I_iconst dX11_turnsOf_19 ⟨by decide, by decide⟩) ?_
    exact S_iret dX11_turnsOf_20 rfl (by decide) (by decide) (fun K hK => hK)
  refine Seg.step (pc' := 22) (I_iload_n (i := 2) dX11_turnsOf_21 rfl rfl) ?_
  refine S_if_ne (tgt := 35) dX11_turnsOf_22 (by decide) (fun h5 => ?_) (fun h5 => ?_)
  · refine Seg.step (pc' := 26) (I_aload_n (i := 0) dX11_turnsOf_25 rfl rfl) ?_
    refine Seg.step (pc' := 29) (I_getR cls11 (by decide) wf_11_39 (hE _ _ sk_11) rfl (lk_11_5 hL) dX11_turnsOf_26) ?_
    refine Seg.step (pc' := 32) (I_getR cls0 (by decide) wf_11_296 (hE _ _ sk_11_5) rfl (lk_0_10 hL sk_11_5) dX11_turnsOf_29) ?_
    refine Seg.step (pc' := 33) (I_iload_n (i := 1) dX11_turnsOf_32 rfl rfl) ?_
    refine S_gd fun h6 => ?_
    refine Seg.step (pc' := 34) (I_iald (hE _ _ (sk_0_10 sk_11_5)) h6 dX11_turnsOf_33) ?_
    exact S_iret dX11_turnsOf_34 rfl (by decide) (by decide) (fun K hK => hK)
  refine Seg.step (pc' := 36) (I_aload_n (i := 0) dX11_turnsOf_35 rfl rfl) ?_
  refine S_callV0 (md' := m_X11_tryAsItGoes) (fun y => none) (fun y => (sh, false, R, y)) (hE _ _ sk_11) ⟨by decide, rfl⟩ mm_X11_tryAsItGoes wm_11_284 ⟨rfl, rfl, by decide, by decide, by decide, by decide⟩ (Nat.le_of_ble_eq_true rfl) dX11_turnsOf_36 (fun y hy => c_X11_tryAsItGoes hE hL y hy) (fun x7 => ?_)
  refine Seg.step (pc' := 40) (I_aload_n (i := 0) dX11_turnsOf_39 rfl rfl) ?_
  refine Seg.step (pc' := 43) (I_getR cls11 (by decide) wf_11_46 (hE _ _ sk_11) rfl (lk_11_8 hL) dX11_turnsOf_40) ?_
  refine Seg.step (pc' := 44) (I_iload_n (i := 2) dX11_turnsOf_43 rfl rfl) ?_
  refine S_callV1 (md' := m_X0_run) (fun y => none) (fun y => (sh, false, R, y)) (hE _ _ sk_11_8) ⟨by decide, rfl⟩ mm_X0_run wm_11_264 ⟨rfl, rfl, by decide, by decide, by decide, by decide⟩ (Nat.le_of_ble_eq_true rfl) dX11_turnsOf_44 (fun y hy => c_X0_run hE hL sk_11_8 y hy) (fun x8 => ?_)
  refine Seg.step (pc' := 48) (I_aload_n (i := 0) dX11_turnsOf_47 rfl rfl) ?_
  refine Seg.step (pc' := 51) (I_getR cls11 (by decide) wf_11_46 (hE _ _ sk_11) rfl (lk_11_8 hL) dX11_turnsOf_48) ?_
  refine Seg.step (pc' := 54) (I_getR cls0 (by decide) wf_11_296 (hE _ _ sk_11_8) rfl (lk_0_10 hL sk_11_8) dX11_turnsOf_51) ?_
  refine Seg.step (pc' := 55) (I_iload_n (i := 1) dX11_turnsOf_54 rfl rfl) ?_
  refine S_gd fun h9 => ?_
  refine Seg.step (pc' := 56) (I_iald (hE _ _ (sk_0_10 sk_11_8)) h9 dX11_turnsOf_55) ?_
  exact S_iret dX11_turnsOf_56 rfl (by decide) (by decide) (fun K hK => hK)
theorem dX11_apart_0 : decode cX11_apart 0 = .ok (.iload_n 1, 1) := by decide +kernel
theorem dX11_apart_1 : decode cX11_apart 1 = .ok (.iconst 0, 1) := by decide +kernel
theorem dX11_apart_2 : decode cX11_apart 2 = .ok (.sipush 200, 3) := by decide +kernel
theorem dX11_apart_5 : decode cX11_apart 5 = .ok (.invokestatic 139, 3) := by decide +kernel
theorem dX11_apart_8 : decode cX11_apart 8 = .ok (.ifCond .eq 12, 3) := by decide +kernel
theorem dX11_apart_11 : decode cX11_apart 11 = .ok (.iload_n 2, 1) := by decide +kernel
theorem dX11_apart_12 : decode cX11_apart 12 = .ok (.iconst 0, 1) := by decide +kernel
theorem dX11_apart_13 : decode cX11_apart 13 = .ok (.iconst 1, 1) := by decide +kernel
theorem dX11_apart_14 : decode cX11_apart 14 = .ok (.invokestatic 139, 3) := by decide +kernel
theorem dX11_apart_17 : decode cX11_apart 17 = .ok (.ifCond .ne 5, 3) := by decide +kernel
theorem dX11_apart_20 : decode cX11_apart 20 = .ok (.iconst (-1), 1) := by decide +kernel
theorem dX11_apart_21 : decode cX11_apart 21 = .ok (.ireturn, 1) := by decide +kernel
theorem dX11_apart_22 : decode cX11_apart 22 = .ok (.aload_n 0, 1) := by decide +kernel
theorem dX11_apart_23 : decode cX11_apart 23 = .ok (.invokevirtual 284, 3) := by decide +kernel
theorem dX11_apart_26 : decode cX11_apart 26 = .ok (.aload_n 0, 1) := by decide +kernel
theorem dX11_apart_27 : decode cX11_apart 27 = .ok (.getfield 46, 3) := by decide +kernel
theorem dX11_apart_30 : decode cX11_apart 30 = .ok (.invokevirtual 213, 3) := by decide +kernel
theorem dX11_apart_33 : decode cX11_apart 33 = .ok (.istore_n 3, 1) := by decide +kernel
theorem dX11_apart_34 : decode cX11_apart 34 = .ok (.iconst 0, 1) := by decide +kernel
theorem dX11_apart_35 : decode cX11_apart 35 = .ok (.istore 4, 2) := by decide +kernel
theorem dX11_apart_37 : decode cX11_apart 37 = .ok (.iconst 1, 1) := by decide +kernel
theorem dX11_apart_38 : decode cX11_apart 38 = .ok (.istore 5, 2) := by decide +kernel
theorem dX11_apart_40 : decode cX11_apart 40 = .ok (.iload 5, 2) := by decide +kernel
theorem dX11_apart_42 : decode cX11_apart 42 = .ok (.iload_n 1, 1) := by decide +kernel
theorem dX11_apart_43 : decode cX11_apart 43 = .ok (.if_icmp .gt 39, 3) := by decide +kernel
theorem dX11_apart_46 : decode cX11_apart 46 = .ok (.aload_n 0, 1) := by decide +kernel
theorem dX11_apart_47 : decode cX11_apart 47 = .ok (.getfield 46, 3) := by decide +kernel
theorem dX11_apart_50 : decode cX11_apart 50 = .ok (.iconst 1, 1) := by decide +kernel
theorem dX11_apart_51 : decode cX11_apart 51 = .ok (.invokevirtual 264, 3) := by decide +kernel
theorem dX11_apart_54 : decode cX11_apart 54 = .ok (.aload_n 0, 1) := by decide +kernel
theorem dX11_apart_55 : decode cX11_apart 55 = .ok (.getfield 46, 3) := by decide +kernel
theorem dX11_apart_58 : decode cX11_apart 58 = .ok (.invokevirtual 213, 3) := by decide +kernel
theorem dX11_apart_61 : decode cX11_apart 61 = .ok (.istore 6, 2) := by decide +kernel
theorem dX11_apart_63 : decode cX11_apart 63 = .ok (.iload 6, 2) := by decide +kernel
theorem dX11_apart_65 : decode cX11_apart 65 = .ok (.iload_n 3, 1) := by decide +kernel
theorem dX11_apart_66 : decode cX11_apart 66 = .ok (.if_icmp .le 10, 3) := by decide +kernel
theorem dX11_apart_69 : decode cX11_apart 69 = .ok (.iload 6, 2) := by decide +kernel
theorem dX11_apart_71 : decode cX11_apart 71 = .ok (.istore_n 3, 1) := by decide +kernel
theorem dX11_apart_72 : decode cX11_apart 72 = .ok (.iload 5, 2) := by decide +kernel
theorem dX11_apart_74 : decode cX11_apart 74 = .ok (.istore 4, 2) := by decide +kernel
theorem dX11_apart_76 : decode cX11_apart 76 = .ok (.iinc 5 1, 3) := by decide +kernel
theorem dX11_apart_79 : decode cX11_apart 79 = .ok (.goto (-39), 3) := by decide +kernel
theorem dX11_apart_82 : decode cX11_apart 82 = .ok (.iload_n 2, 1) := by decide +kernel
theorem dX11_apart_83 : decode cX11_apart 83 = .ok (.ifCond .ne 8, 3) := by decide +kernel
theorem dX11_apart_86 : decode cX11_apart 86 = .ok (.iload 4, 2) := by decide +kernel
theorem dX11_apart_88 : decode cX11_apart 88 = .ok (.goto 4, 3) := by decide +kernel
theorem dX11_apart_91 : decode cX11_apart 91 = .ok (.iload_n 3, 1) := by decide +kernel
theorem dX11_apart_92 : decode cX11_apart 92 = .ok (.ireturn, 1) := by decide +kernel
def f_X11_apart (M : MM) (p1 : Int) (p2 : Int) : Option (Int × MM) :=
(f_X11_isWithin M p1 0 200).bind fun x1 =>
if x1 = 0 then
(some ((-1), M))
else
(f_X11_isWithin M p2 0 1).bind fun x3 =>
if x3 = 0 then
(some ((-1), M))
else
(f_X11_tryAsItGoes M).bind fun x5 =>
(f_X0_spreadNow x5 70).bind fun x6 =>
(lp (X := Int × Int × Int × MM) (Y := Int × Int × MM) (fun x7 =>
if p1 < x7.2.2.1 then
(some (Sum.inr (x7.1, x7.2.1, x7.2.2.2)))
else
(f_X0_run x7.2.2.2 70 1).bind fun x9 =>
(f_X0_spreadNow x9 70).bind fun x10 =>
((if x7.1 < x10 then
(some (x10, x7.2.2.1))
else
some (x7.1, x7.2.1)) : Option (Int × Int)).bind fun x12 =>
some (Sum.inl (x12.1, x12.2, w32 (x7.2.2.1 + 1), x9))) FU (x6, 0, 1, x5)).bind fun x13 =>
if p2 = 0 then
(some (x13.2.1, x13.2.2))
else
some (x13.1, x13.2.2)
set_option maxRecDepth 4000 in
theorem c_X11_apart {E : EE} {sh : List (Nat × Nat)} {R : RM} {M : MM} {p1 : Int} {p2 : Int} (hE : Ext sh) (hL : Links R) : ∀ y, f_X11_apart M p1 p2 = some y → MetC E m_X11_apart 0 0 [rV 0, iV p1, iV p2] (sh, false, R, M) (fun r w' => r = some (iV y.1) ∧ w' = (sh, false, R, y.2)) := by
  intro y hy
  refine MetC.seg (o := f_X11_apart M p1 p2) (t := (fun K y => K (some (iV y.1)) (sh, false, R, y.2))) (L := [some (rV 0), some (iV p1), some (iV p2), none, none, none, none]) (by decide) rfl (Nat.le_of_ble_eq_true rfl) ?_ hy ⟨rfl, rfl⟩
  unfold f_X11_apart
  refine Seg.step (pc' := 1) (I_iload_n (i := 1) dX11_apart_0 rfl rfl) ?_
  refine Seg.step (pc' := 2) (I_iconst dX11_apart_1 ⟨by decide, by decide⟩) ?_
  refine Seg.step (pc' := 5) (I_sipush dX11_apart_2 (by decide) ⟨by decide, by decide⟩) ?_
  refine S_callS3 (md' := m_X11_isWithin) (fun y => some (iV y)) (fun y => (sh, false, R, M)) mm_X11_isWithin wm_11_139 ⟨rfl, rfl, by decide, by decide, by decide, by decide⟩ (Nat.le_of_ble_eq_true rfl) dX11_apart_5 (fun y hy => c_X11_isWithin hE hL y hy) (fun x1 => ?_)
  refine S_if_eq (tgt := 20) dX11_apart_8 (by decide) (fun h2 => ?_) (fun h2 => ?_)
  · refine Seg.step (pc' := 21) (I_iconst dX11_apart_20 ⟨by decide, by decide⟩) ?_
    exact S_iret dX11_apart_21 rfl (by decide) (by decide) (fun K hK => hK)
  refine Seg.step (pc' := 12) (I_iload_n (i := 2) dX11_apart_11 rfl rfl) ?_
  refine Seg.step (pc' := 13) (I_iconst dX11_apart_12 ⟨by decide, by decide⟩) ?_
  refine Seg.step (pc' := 14) (I_iconst dX11_apart_13 ⟨by decide, by decide⟩) ?_
  refine S_callS3 (md' := m_X11_isWithin) (fun y => some (iV y)) (fun y => (sh, false, R, M)) mm_X11_isWithin wm_11_139 ⟨rfl, rfl, by decide, by decide, by decide, by decide⟩ (Nat.le_of_ble_eq_true rfl) dX11_apart_14 (fun y hy => c_X11_isWithin hE hL y hy) (fun x3 => ?_)
  refine S_if_ne (tgt := 22) dX11_apart_17 (by decide) (fun h4 => ?_) (fun h4 => ?_)
  · refine Seg.step (pc' := 21) (I_iconst dX11_apart_20 ⟨by decide, by decide⟩) ?_
    exact S_iret dX11_apart_21 rfl (by decide) (by decide) (fun K hK => hK)
  refine Seg.step (pc' := 23) (I_aload_n (i := 0) dX11_apart_22 rfl rfl) ?_
  refine S_callV0 (md' := m_X11_tryAsItGoes) (fun y => none) (fun y => (sh, false, R, y)) (hE _ _ sk_11) ⟨by decide, rfl⟩ mm_X11_tryAsItGoes wm_11_284 ⟨rfl, rfl, by decide, by decide, by decide, by decide⟩ (Nat.le_of_ble_eq_true rfl) dX11_apart_23 (fun y hy => c_X11_tryAsItGoes hE hL y hy) (fun x5 => ?_)
  refine Seg.step (pc' := 27) (I_aload_n (i := 0) dX11_apart_26 rfl rfl) ?_
  refine Seg.step (pc' := 30) (I_getR cls11 (by decide) wf_11_46 (hE _ _ sk_11) rfl (lk_11_8 hL) dX11_apart_27) ?_
  refine S_callV0 (md' := m_X0_spreadNow) (fun y => some (iV y)) (fun y => (sh, false, R, x5)) (hE _ _ sk_11_8) ⟨by decide, rfl⟩ mm_X0_spreadNow wm_11_213 ⟨rfl, rfl, by decide, by decide, by decide, by decide⟩ (Nat.le_of_ble_eq_true rfl) dX11_apart_30 (fun y hy => c_X0_spreadNow hE hL sk_11_8 y hy) (fun x6 => ?_)
  refine Seg.step (pc' := 34) (I_istore_n (i := 3) dX11_apart_33 rfl (by decide) rfl) ?_
  refine Seg.step (pc' := 35) (I_iconst dX11_apart_34 ⟨by decide, by decide⟩) ?_
  refine Seg.step (pc' := 37) (I_istore dX11_apart_35 (by decide) rfl) ?_
  refine Seg.step (pc' := 38) (I_iconst dX11_apart_37 ⟨by decide, by decide⟩) ?_
  refine Seg.step (pc' := 40) (I_istore dX11_apart_38 (by decide) rfl) ?_
  refine Seg.forget (Lle.ye (Lle.ye (Lle.ye (Lle.ye (Lle.ye (Lle.ye (Lle.no (Lle.nil)))))))) ?_
  refine S_bind (Y := Int × Int × MM) (k' := 0) (n' := 0) 82 (fun y => [none, none, some (iV p2), some (iV y.1), some (iV y.2.1), none, none]) (fun y => []) (fun y => (sh, false, R, y.2.2)) (S_loop (Y := Int × Int × Int × MM) (fun y => [some (rV 0), some (iV p1), some (iV p2), some (iV y.1), some (iV y.2.1), some (iV y.2.2.1), none]) (fun y => []) (fun y => (sh, false, R, y.2.2.2)) (fun x7 => ?_) FU (x6, 0, 1, x5)) (fun x13 => ?_)
  · refine Seg.step (pc' := 42) (I_iload dX11_apart_40 rfl) ?_
    refine Seg.step (pc' := 43) (I_iload_n (i := 1) dX11_apart_42 rfl rfl) ?_
    refine S_icmp_gt (tgt := 82) dX11_apart_43 (by decide) (fun h8 => ?_) (fun h8 => ?_)
    · exact S_arr (fun K hK => GG.forget (Lle.no (Lle.no (Lle.ye (Lle.ye (Lle.ye (Lle.no (Lle.no (Lle.nil)))))))) hK)
    refine Seg.step (pc' := 47) (I_aload_n (i := 0) dX11_apart_46 rfl rfl) ?_
    refine Seg.step (pc' := 50) (I_getR cls11 (by decide) wf_11_46 (hE _ _ sk_11) rfl (lk_11_8 hL) dX11_apart_47) ?_
    refine Seg.step (pc' := 51) (I_iconst dX11_apart_50 ⟨by decide, by decide⟩) ?_
    refine S_callV1 (md' := m_X0_run) (fun y => none) (fun y => (sh, false, R, y)) (hE _ _ sk_11_8) ⟨by decide, rfl⟩ mm_X0_run wm_11_264 ⟨rfl, rfl, by decide, by decide, by decide, by decide⟩ (Nat.le_of_ble_eq_true rfl) dX11_apart_51 (fun y hy => c_X0_run hE hL sk_11_8 y hy) (fun x9 => ?_)
    refine Seg.step (pc' := 55) (I_aload_n (i := 0) dX11_apart_54 rfl rfl) ?_
    refine Seg.step (pc' := 58) (I_getR cls11 (by decide) wf_11_46 (hE _ _ sk_11) rfl (lk_11_8 hL) dX11_apart_55) ?_
    refine S_callV0 (md' := m_X0_spreadNow) (fun y => some (iV y)) (fun y => (sh, false, R, x9)) (hE _ _ sk_11_8) ⟨by decide, rfl⟩ mm_X0_spreadNow wm_11_213 ⟨rfl, rfl, by decide, by decide, by decide, by decide⟩ (Nat.le_of_ble_eq_true rfl) dX11_apart_58 (fun y hy => c_X0_spreadNow hE hL sk_11_8 y hy) (fun x10 => ?_)
    refine Seg.step (pc' := 63) (I_istore dX11_apart_61 (by decide) rfl) ?_
    refine Seg.step (pc' := 65) (I_iload dX11_apart_63 rfl) ?_
    refine Seg.step (pc' := 66) (I_iload_n (i := 3) dX11_apart_65 rfl rfl) ?_
    refine S_bind (Y := Int × Int) (k' := 0) (n' := 0) 76 (fun y => [some (rV 0), some (iV p1), some (iV p2), some (iV y.1), some (iV y.2), some (iV x7.2.2.1), none]) (fun y => []) (fun y => (sh, false, R, x9)) ?_ (fun x12 => ?_)
    · refine S_icmp_le (tgt := 76) dX11_apart_66 (by decide) (fun h11 => ?_) (fun h11 => ?_)
      · refine Seg.step (pc' := 71) (I_iload dX11_apart_69 rfl) ?_
        refine Seg.step (pc' := 72) (I_istore_n (i := 3) dX11_apart_71 rfl (by decide) rfl) ?_
        refine Seg.step (pc' := 74) (I_iload dX11_apart_72 rfl) ?_
        refine Seg.step (pc' := 76) (I_istore dX11_apart_74 (by decide) rfl) ?_
        exact S_arr (fun K hK => GG.forget (Lle.ye (Lle.ye (Lle.ye (Lle.ye (Lle.ye (Lle.ye (Lle.no (Lle.nil)))))))) hK)
      exact S_arr (fun K hK => GG.forget (Lle.ye (Lle.ye (Lle.ye (Lle.ye (Lle.ye (Lle.ye (Lle.no (Lle.nil)))))))) hK)
    refine Seg.step (pc' := 79) (I_iinc dX11_apart_76 rfl (by decide) rfl) ?_
    refine Seg.step (pc' := 40) (I_goto (tgt := 40) dX11_apart_79 (by decide)) ?_
    exact S_arr (fun K hK => GG.forget (Lle.ye (Lle.ye (Lle.ye (Lle.ye (Lle.ye (Lle.ye (Lle.no (Lle.nil)))))))) hK)
  refine Seg.step (pc' := 83) (I_iload_n (i := 2) dX11_apart_82 rfl rfl) ?_
  refine S_if_ne (tgt := 91) dX11_apart_83 (by decide) (fun h14 => ?_) (fun h14 => ?_)
  · refine Seg.step (pc' := 88) (I_iload dX11_apart_86 rfl) ?_
    refine Seg.step (pc' := 92) (I_goto (tgt := 92) dX11_apart_88 (by decide)) ?_
    exact S_iret dX11_apart_92 rfl (by decide) (by decide) (fun K hK => hK)
  refine Seg.step (pc' := 92) (I_iload_n (i := 3) dX11_apart_91 rfl rfl) ?_
  exact S_iret dX11_apart_92 rfl (by decide) (by decide) (fun K hK => hK)
theorem dX11_feels_0 : decode cX11_feels 0 = .ok (.aload_n 0, 1) := by decide +kernel
theorem dX11_feels_1 : decode cX11_feels 1 = .ok (.iload_n 1, 1) := by decide +kernel
theorem dX11_feels_2 : decode cX11_feels 2 = .ok (.invokevirtual 135, 3) := by decide +kernel
theorem dX11_feels_5 : decode cX11_feels 5 = .ok (.ifCond .eq 13, 3) := by decide +kernel
theorem dX11_feels_8 : decode cX11_feels 8 = .ok (.iload_n 2, 1) := by decide +kernel
theorem dX11_feels_9 : decode cX11_feels 9 = .ok (.iconst 1, 1) := by decide +kernel
theorem dX11_feels_10 : decode cX11_feels 10 = .ok (.bipush 99, 2) := by decide +kernel
theorem dX11_feels_12 : decode cX11_feels 12 = .ok (.invokestatic 139, 3) := by decide +kernel
theorem dX11_feels_15 : decode cX11_feels 15 = .ok (.ifCond .ne 5, 3) := by decide +kernel
theorem dX11_feels_18 : decode cX11_feels 18 = .ok (.iconst (-1), 1) := by decide +kernel
theorem dX11_feels_19 : decode cX11_feels 19 = .ok (.ireturn, 1) := by decide +kernel
theorem dX11_feels_20 : decode cX11_feels 20 = .ok (.bipush 10, 2) := by decide +kernel
theorem dX11_feels_22 : decode cX11_feels 22 = .ok (.aload_n 0, 1) := by decide +kernel
theorem dX11_feels_23 : decode cX11_feels 23 = .ok (.getfield 27, 3) := by decide +kernel
theorem dX11_feels_26 : decode cX11_feels 26 = .ok (.getfield 127, 3) := by decide +kernel
theorem dX11_feels_29 : decode cX11_feels 29 = .ok (.getfield 153, 3) := by decide +kernel
theorem dX11_feels_32 : decode cX11_feels 32 = .ok (.iload_n 1, 1) := by decide +kernel
theorem dX11_feels_33 : decode cX11_feels 33 = .ok (.iaload, 1) := by decide +kernel
theorem dX11_feels_34 : decode cX11_feels 34 = .ok (.imul, 1) := by decide +kernel
theorem dX11_feels_35 : decode cX11_feels 35 = .ok (.istore_n 3, 1) := by decide +kernel
theorem dX11_feels_36 : decode cX11_feels 36 = .ok (.aload_n 0, 1) := by decide +kernel
theorem dX11_feels_37 : decode cX11_feels 37 = .ok (.invokevirtual 284, 3) := by decide +kernel
theorem dX11_feels_40 : decode cX11_feels 40 = .ok (.iconst 0, 1) := by decide +kernel
theorem dX11_feels_41 : decode cX11_feels 41 = .ok (.istore 4, 2) := by decide +kernel
theorem dX11_feels_43 : decode cX11_feels 43 = .ok (.iload 4, 2) := by decide +kernel
theorem dX11_feels_45 : decode cX11_feels 45 = .ok (.iload_n 2, 1) := by decide +kernel
theorem dX11_feels_46 : decode cX11_feels 46 = .ok (.if_icmp .ge 32, 3) := by decide +kernel
theorem dX11_feels_49 : decode cX11_feels 49 = .ok (.aload_n 0, 1) := by decide +kernel
theorem dX11_feels_50 : decode cX11_feels 50 = .ok (.getfield 46, 3) := by decide +kernel
theorem dX11_feels_53 : decode cX11_feels 53 = .ok (.iload_n 1, 1) := by decide +kernel
theorem dX11_feels_54 : decode cX11_feels 54 = .ok (.invokevirtual 162, 3) := by decide +kernel
theorem dX11_feels_57 : decode cX11_feels 57 = .ok (.iload_n 3, 1) := by decide +kernel
theorem dX11_feels_58 : decode cX11_feels 58 = .ok (.if_icmp .lt 6, 3) := by decide +kernel
theorem dX11_feels_61 : decode cX11_feels 61 = .ok (.iload 4, 2) := by decide +kernel
theorem dX11_feels_63 : decode cX11_feels 63 = .ok (.ireturn, 1) := by decide +kernel
theorem dX11_feels_64 : decode cX11_feels 64 = .ok (.aload_n 0, 1) := by decide +kernel
theorem dX11_feels_65 : decode cX11_feels 65 = .ok (.getfield 46, 3) := by decide +kernel
theorem dX11_feels_68 : decode cX11_feels 68 = .ok (.iconst 1, 1) := by decide +kernel
theorem dX11_feels_69 : decode cX11_feels 69 = .ok (.invokevirtual 264, 3) := by decide +kernel
theorem dX11_feels_72 : decode cX11_feels 72 = .ok (.iinc 4 1, 3) := by decide +kernel
theorem dX11_feels_75 : decode cX11_feels 75 = .ok (.goto (-32), 3) := by decide +kernel
theorem dX11_feels_78 : decode cX11_feels 78 = .ok (.aload_n 0, 1) := by decide +kernel
theorem dX11_feels_79 : decode cX11_feels 79 = .ok (.getfield 46, 3) := by decide +kernel
theorem dX11_feels_82 : decode cX11_feels 82 = .ok (.iload_n 1, 1) := by decide +kernel
theorem dX11_feels_83 : decode cX11_feels 83 = .ok (.invokevirtual 162, 3) := by decide +kernel
theorem dX11_feels_86 : decode cX11_feels 86 = .ok (.iload_n 3, 1) := by decide +kernel
theorem dX11_feels_87 : decode cX11_feels 87 = .ok (.if_icmp .lt 7, 3) := by decide +kernel
theorem dX11_feels_90 : decode cX11_feels 90 = .ok (.iload_n 2, 1) := by decide +kernel
theorem dX11_feels_91 : decode cX11_feels 91 = .ok (.goto 5, 3) := by decide +kernel
theorem dX11_feels_94 : decode cX11_feels 94 = .ok (.bipush (-2), 2) := by decide +kernel
theorem dX11_feels_96 : decode cX11_feels 96 = .ok (.ireturn, 1) := by decide +kernel
def f_X11_feels (M : MM) (p1 : Int) (p2 : Int) : Option (Int × MM) :=
(f_X11_isPerson M p1).bind fun x1 =>
if x1 = 0 then
(some ((-1), M))
else
(f_X11_isWithin M p2 1 99).bind fun x3 =>
if x3 = 0 then
(some ((-1), M))
else
gH (M 0 3) fun b5 =>
gd (0 ≤ p1 ∧ p1 < (5 : Int)) <|
bI (w32 (10 * (M (b5 + 9) (p1).toNat))) fun x7 =>
(f_X11_tryAsItGoes M).bind fun x8 =>
bS (lp (X := Int × MM) (Y := (MM) ⊕ (Int × MM)) (fun x9 =>
if x9.1 < p2 then
((f_X0_feltBy x9.2 70 p1).bind fun x11 =>
if x11 < x7 then
((f_X0_run x9.2 70 1).bind fun x13 =>
some (Sum.inl (w32 (x9.1 + 1), x13)))
else
some (Sum.inr (Sum.inr (x9.1, x9.2))))
else
some (Sum.inr (Sum.inl x9.2))) FU (0, x8)) (fun x14 =>
(f_X0_feltBy x14 70 p1).bind fun x15 =>
if x15 < x7 then
(some ((-2), x14))
else
some (p2, x14)) (fun r => r)
set_option maxRecDepth 4000 in
theorem c_X11_feels {E : EE} {sh : List (Nat × Nat)} {R : RM} {M : MM} {p1 : Int} {p2 : Int} (hE : Ext sh) (hL : Links R) : ∀ y, f_X11_feels M p1 p2 = some y → MetC E m_X11_feels 0 0 [rV 0, iV p1, iV p2] (sh, false, R, M) (fun r w' => r = some (iV y.1) ∧ w' = (sh, false, R, y.2)) := by
  intro y hy
  refine MetC.seg (o := f_X11_feels M p1 p2) (t := (fun K y => K (some (iV y.1)) (sh, false, R, y.2))) (L := [some (rV 0), some (iV p1), some (iV p2), none, none]) (by decide) rfl (Nat.le_of_ble_eq_true rfl) ?_ hy ⟨rfl, rfl⟩
  unfold f_X11_feels
  refine Seg.step (pc' := 1) (I_aload_n (i := 0) dX11_feels_0 rfl rfl) ?_
  refine Seg.step (pc' := 2) (I_iload_n (i := 1) dX11_feels_1 rfl rfl) ?_
  refine S_callV1 (md' := m_X11_isPerson) (fun y => some (iV y)) (fun y => (sh, false, R, M)) (hE _ _ sk_11) ⟨by decide, rfl⟩ mm_X11_isPerson wm_11_135 ⟨rfl, rfl, by decide, by decide, by decide, by decide⟩ (Nat.le_of_ble_eq_true rfl) dX11_feels_2 (fun y hy => c_X11_isPerson hE hL y hy) (fun x1 => ?_)
  refine S_if_eq (tgt := 18) dX11_feels_5 (by decide) (fun h2 => ?_) (fun h2 => ?_)
  · refine Seg.step (pc' := 19) (I_iconst dX11_feels_18 ⟨by decide, by decide⟩) ?_
    exact S_iret dX11_feels_19 rfl (by decide) (by decide) (fun K hK => hK)
  refine Seg.step (pc' := 9) (I_iload_n (i := 2) dX11_feels_8 rfl rfl) ?_
  refine Seg.step (pc' := 10) (I_iconst dX11_feels_9 ⟨by decide, by decide⟩) ?_
  refine Seg.step (pc' := 12) (I_bipush dX11_feels_10 (by decide) ⟨by decide, by decide⟩) ?_
  refine S_callS3 (md' := m_X11_isWithin) (fun y => some (iV y)) (fun y => (sh, false, R, M)) mm_X11_isWithin wm_11_139 ⟨rfl, rfl, by decide, by decide, by decide, by decide⟩ (Nat.le_of_ble_eq_true rfl) dX11_feels_12 (fun y hy => c_X11_isWithin hE hL y hy) (fun x3 => ?_)
  refine S_if_ne (tgt := 20) dX11_feels_15 (by decide) (fun h4 => ?_) (fun h4 => ?_)
  · refine Seg.step (pc' := 19) (I_iconst dX11_feels_18 ⟨by decide, by decide⟩) ?_
    exact S_iret dX11_feels_19 rfl (by decide) (by decide) (fun K hK => hK)
  refine Seg.step (pc' := 22) (I_bipush dX11_feels_20 (by decide) ⟨by decide, by decide⟩) ?_
  refine Seg.step (pc' := 23) (I_aload_n (i := 0) dX11_feels_22 rfl rfl) ?_
  refine S_gH fun b5 hb5 zb5 => ?_
  refine Seg.step (pc' := 26) (I_getH cls11 (by decide) wf_11_27 (hE _ _ sk_11) rfl zb5 (hkp hb5) dX11_feels_23) ?_
  refine Seg.step (pc' := 29) (I_getR cls2 (by decide) wf_11_127 (hE _ _ (hks hb5)) rfl (lk_2_1 hL (hks hb5)) dX11_feels_26) ?_
  refine Seg.step (pc' := 32) (I_getR cls6 (by decide) wf_11_153 (hE _ _ (sk_2_1 (hks hb5))) rfl (lk_6_3 hL (sk_2_1 (hks hb5))) dX11_feels_29) ?_
  refine Seg.step (pc' := 33) (I_iload_n (i := 1) dX11_feels_32 rfl rfl) ?_
  refine S_gd fun h6 => ?_
  refine Seg.step (pc' := 34) (I_iald (hE _ _ (sk_6_3 (sk_2_1 (hks hb5)))) h6 dX11_feels_33) ?_
  refine Seg.step (pc' := 35) (I_imul dX11_feels_34) ?_
  refine S_bI fun x7 => ?_
  refine Seg.step (pc' := 36) (I_istore_n (i := 3) dX11_feels_35 rfl (by decide) rfl) ?_
  refine Seg.step (pc' := 37) (I_aload_n (i := 0) dX11_feels_36 rfl rfl) ?_
  refine S_callV0 (md' := m_X11_tryAsItGoes) (fun y => none) (fun y => (sh, false, R, y)) (hE _ _ sk_11) ⟨by decide, rfl⟩ mm_X11_tryAsItGoes wm_11_284 ⟨rfl, rfl, by decide, by decide, by decide, by decide⟩ (Nat.le_of_ble_eq_true rfl) dX11_feels_37 (fun y hy => c_X11_tryAsItGoes hE hL y hy) (fun x8 => ?_)
  refine Seg.step (pc' := 41) (I_iconst dX11_feels_40 ⟨by decide, by decide⟩) ?_
  refine Seg.step (pc' := 43) (I_istore dX11_feels_41 (by decide) rfl) ?_
  refine Seg.forget (Lle.ye (Lle.ye (Lle.ye (Lle.ye (Lle.ye (Lle.nil)))))) ?_
  refine S_bind2 (Y := MM) (k' := 0) (n' := 0) 78 (fun y => [some (rV 0), some (iV p1), some (iV p2), some (iV x7), none]) (fun y => []) (fun y => (sh, false, R, y)) (S_loop (Y := Int × MM) (fun y => [some (rV 0), some (iV p1), some (iV p2), some (iV x7), some (iV y.1)]) (fun y => []) (fun y => (sh, false, R, y.2)) (fun x9 => ?_) FU (0, x8)) (fun x14 => ?_)
  · refine Seg.step (pc' := 45) (I_iload dX11_feels_43 rfl) ?_
    refine Seg.step (pc' := 46) (I_iload_n (i := 2) dX11_feels_45 rfl rfl) ?_
    refine S_icmp_ge (tgt := 78) dX11_feels_46 (by decide) (fun h10 => ?_) (fun h10 => ?_)
    · refine Seg.step (pc' := 50) (I_aload_n (i := 0) dX11_feels_49 rfl rfl) ?_
      refine Seg.step (pc' := 53) (I_getR cls11 (by decide) wf_11_46 (hE _ _ sk_11) rfl (lk_11_8 hL) dX11_feels_50) ?_
      refine Seg.step (pc' := 54) (I_iload_n (i := 1) dX11_feels_53 rfl rfl) ?_
      refine S_callV1 (md' := m_X0_feltBy) (fun y => some (iV y)) (fun y => (sh, false, R, x9.2)) (hE _ _ sk_11_8) ⟨by decide, rfl⟩ mm_X0_feltBy wm_11_162 ⟨rfl, rfl, by decide, by decide, by decide, by decide⟩ (Nat.le_of_ble_eq_true rfl) dX11_feels_54 (fun y hy => c_X0_feltBy hE hL sk_11_8 y hy) (fun x11 => ?_)
      refine Seg.step (pc' := 58) (I_iload_n (i := 3) dX11_feels_57 rfl rfl) ?_
      refine S_icmp_lt (tgt := 64) dX11_feels_58 (by decide) (fun h12 => ?_) (fun h12 => ?_)
      · refine Seg.step (pc' := 65) (I_aload_n (i := 0) dX11_feels_64 rfl rfl) ?_
        refine Seg.step (pc' := 68) (I_getR cls11 (by decide) wf_11_46 (hE _ _ sk_11) rfl (lk_11_8 hL) dX11_feels_65) ?_
        refine Seg.step (pc' := 69) (I_iconst dX11_feels_68 ⟨by decide, by decide⟩) ?_
        refine S_callV1 (md' := m_X0_run) (fun y => none) (fun y => (sh, false, R, y)) (hE _ _ sk_11_8) ⟨by decide, rfl⟩ mm_X0_run wm_11_264 ⟨rfl, rfl, by decide, by decide, by decide, by decide⟩ (Nat.le_of_ble_eq_true rfl) dX11_feels_69 (fun y hy => c_X0_run hE hL sk_11_8 y hy) (fun x13 => ?_)
        refine Seg.step (pc' := 75) (I_iinc dX11_feels_72 rfl (by decide) rfl) ?_
        refine Seg.step (pc' := 43) (I_goto (tgt := 43) dX11_feels_75 (by decide)) ?_
        exact S_arr (fun K hK => GG.forget (Lle.ye (Lle.ye (Lle.ye (Lle.ye (Lle.ye (Lle.nil)))))) hK)
      refine Seg.step (pc' := 63) (I_iload dX11_feels_61 rfl) ?_
      exact S_iret dX11_feels_63 rfl (by decide) (by decide) (fun K hK => hK)
    exact S_arr (fun K hK => GG.forget (Lle.ye (Lle.ye (Lle.ye (Lle.ye (Lle.no (Lle.nil)))))) hK)
  refine Seg.step (pc' := 79) (I_aload_n (i := 0) dX11_feels_78 rfl rfl) ?_
  refine Seg.step (pc' := 82) (I_getR cls11 (by decide) wf_11_46 (hE _ _ sk_11) rfl (lk_11_8 hL) dX11_feels_79) ?_
  refine Seg.step (pc' := 83) (I_iload_n (i := 1) dX11_feels_82 rfl rfl) ?_
  refine S_callV1 (md' := m_X0_feltBy) (fun y => some (iV y)) (fun y => (sh, false, R, x14)) (hE _ _ sk_11_8) ⟨by decide, rfl⟩ mm_X0_feltBy wm_11_162 ⟨rfl, rfl, by decide, by decide, by decide, by decide⟩ (Nat.le_of_ble_eq_true rfl) dX11_feels_83 (fun y hy => c_X0_feltBy hE hL sk_11_8 y hy) (fun x15 => ?_)
  refine Seg.step (pc' := 87) (I_iload_n (i := 3) dX11_feels_86 rfl rfl) ?_
  refine S_icmp_lt (tgt := 94) dX11_feels_87 (by decide) (fun h16 => ?_) (fun h16 => ?_)
  · refine Seg.step (pc' := 96) (I_bipush dX11_feels_94 (by decide) ⟨by decide, by decide⟩) ?_
    exact S_iret dX11_feels_96 rfl (by decide) (by decide) (fun K hK => hK)
  refine Seg.step (pc' := 91) (I_iload_n (i := 2) dX11_feels_90 rfl rfl) ?_
  refine Seg.step (pc' := 96) (I_goto (tgt := 96) dX11_feels_91 (by decide)) ?_
  exact S_iret dX11_feels_96 rfl (by decide) (by decide) (fun K hK => hK)
theorem dX11_chance_0 : decode cX11_chance 0 = .ok (.iload_n 1, 1) := by decide +kernel
theorem dX11_chance_1 : decode cX11_chance 1 = .ok (.ifCond .lt 33, 3) := by decide +kernel
theorem dX11_chance_4 : decode cX11_chance 4 = .ok (.iload_n 2, 1) := by decide +kernel
theorem dX11_chance_5 : decode cX11_chance 5 = .ok (.iconst 1, 1) := by decide +kernel
theorem dX11_chance_6 : decode cX11_chance 6 = .ok (.bipush 99, 2) := by decide +kernel
theorem dX11_chance_8 : decode cX11_chance 8 = .ok (.invokestatic 139, 3) := by decide +kernel
theorem dX11_chance_11 : decode cX11_chance 11 = .ok (.ifCond .eq 23, 3) := by decide +kernel
theorem dX11_chance_14 : decode cX11_chance 14 = .ok (.aload_n 0, 1) := by decide +kernel
theorem dX11_chance_15 : decode cX11_chance 15 = .ok (.iload_n 3, 1) := by decide +kernel
theorem dX11_chance_16 : decode cX11_chance 16 = .ok (.invokevirtual 178, 3) := by decide +kernel
theorem dX11_chance_19 : decode cX11_chance 19 = .ok (.ifCond .eq 15, 3) := by decide +kernel
theorem dX11_chance_22 : decode cX11_chance 22 = .ok (.iload 4, 2) := by decide +kernel
theorem dX11_chance_24 : decode cX11_chance 24 = .ok (.iconst 0, 1) := by decide +kernel
theorem dX11_chance_25 : decode cX11_chance 25 = .ok (.sipush 600, 3) := by decide +kernel
theorem dX11_chance_28 : decode cX11_chance 28 = .ok (.invokestatic 139, 3) := by decide +kernel
theorem dX11_chance_31 : decode cX11_chance 31 = .ok (.ifCond .ne 5, 3) := by decide +kernel
theorem dX11_chance_34 : decode cX11_chance 34 = .ok (.iconst (-1), 1) := by decide +kernel
theorem dX11_chance_35 : decode cX11_chance 35 = .ok (.ireturn, 1) := by decide +kernel
theorem dX11_chance_36 : decode cX11_chance 36 = .ok (.aload_n 0, 1) := by decide +kernel
theorem dX11_chance_37 : decode cX11_chance 37 = .ok (.invokevirtual 284, 3) := by decide +kernel
theorem dX11_chance_40 : decode cX11_chance 40 = .ok (.aload_n 0, 1) := by decide +kernel
theorem dX11_chance_41 : decode cX11_chance 41 = .ok (.getfield 46, 3) := by decide +kernel
theorem dX11_chance_44 : decode cX11_chance 44 = .ok (.getfield 277, 3) := by decide +kernel
theorem dX11_chance_47 : decode cX11_chance 47 = .ok (.iconst 1, 1) := by decide +kernel
theorem dX11_chance_48 : decode cX11_chance 48 = .ok (.putfield 299, 3) := by decide +kernel
theorem dX11_chance_51 : decode cX11_chance 51 = .ok (.aload_n 0, 1) := by decide +kernel
theorem dX11_chance_52 : decode cX11_chance 52 = .ok (.getfield 46, 3) := by decide +kernel
theorem dX11_chance_55 : decode cX11_chance 55 = .ok (.getfield 277, 3) := by decide +kernel
theorem dX11_chance_58 : decode cX11_chance 58 = .ok (.iload_n 1, 1) := by decide +kernel
theorem dX11_chance_59 : decode cX11_chance 59 = .ok (.i2l, 1) := by decide +kernel
theorem dX11_chance_60 : decode cX11_chance 60 = .ok (.putfield 302, 3) := by decide +kernel
theorem dX11_chance_63 : decode cX11_chance 63 = .ok (.iconst 0, 1) := by decide +kernel
theorem dX11_chance_64 : decode cX11_chance 64 = .ok (.istore 5, 2) := by decide +kernel
theorem dX11_chance_66 : decode cX11_chance 66 = .ok (.iconst 0, 1) := by decide +kernel
theorem dX11_chance_67 : decode cX11_chance 67 = .ok (.istore 6, 2) := by decide +kernel
theorem dX11_chance_69 : decode cX11_chance 69 = .ok (.iload 6, 2) := by decide +kernel
theorem dX11_chance_71 : decode cX11_chance 71 = .ok (.bipush 10, 2) := by decide +kernel
theorem dX11_chance_73 : decode cX11_chance 73 = .ok (.if_icmp .ge 45, 3) := by decide +kernel
theorem dX11_chance_76 : decode cX11_chance 76 = .ok (.aload_n 0, 1) := by decide +kernel
theorem dX11_chance_77 : decode cX11_chance 77 = .ok (.getfield 46, 3) := by decide +kernel
theorem dX11_chance_80 : decode cX11_chance 80 = .ok (.aload_n 0, 1) := by decide +kernel
theorem dX11_chance_81 : decode cX11_chance 81 = .ok (.getfield 39, 3) := by decide +kernel
theorem dX11_chance_84 : decode cX11_chance 84 = .ok (.invokevirtual 271, 3) := by decide +kernel
theorem dX11_chance_87 : decode cX11_chance 87 = .ok (.aload_n 0, 1) := by decide +kernel
theorem dX11_chance_88 : decode cX11_chance 88 = .ok (.getfield 46, 3) := by decide +kernel
theorem dX11_chance_91 : decode cX11_chance 91 = .ok (.iload_n 2, 1) := by decide +kernel
theorem dX11_chance_92 : decode cX11_chance 92 = .ok (.invokevirtual 264, 3) := by decide +kernel
theorem dX11_chance_95 : decode cX11_chance 95 = .ok (.aload_n 0, 1) := by decide +kernel
theorem dX11_chance_96 : decode cX11_chance 96 = .ok (.getfield 46, 3) := by decide +kernel
theorem dX11_chance_99 : decode cX11_chance 99 = .ok (.getfield 181, 3) := by decide +kernel
theorem dX11_chance_102 : decode cX11_chance 102 = .ok (.iload_n 3, 1) := by decide +kernel
theorem dX11_chance_103 : decode cX11_chance 103 = .ok (.iaload, 1) := by decide +kernel
theorem dX11_chance_104 : decode cX11_chance 104 = .ok (.iload 4, 2) := by decide +kernel
theorem dX11_chance_106 : decode cX11_chance 106 = .ok (.if_icmp .lt 6, 3) := by decide +kernel
theorem dX11_chance_109 : decode cX11_chance 109 = .ok (.iinc 5 1, 3) := by decide +kernel
theorem dX11_chance_112 : decode cX11_chance 112 = .ok (.iinc 6 1, 3) := by decide +kernel
theorem dX11_chance_115 : decode cX11_chance 115 = .ok (.goto (-46), 3) := by decide +kernel
theorem dX11_chance_118 : decode cX11_chance 118 = .ok (.iload 5, 2) := by decide +kernel
theorem dX11_chance_120 : decode cX11_chance 120 = .ok (.ireturn, 1) := by decide +kernel
def f_X11_chance (M : MM) (p1 : Int) (p2 : Int) (p3 : Int) (p4 : Int) : Option (Int × MM) :=
if p1 < 0 then
(some ((-1), M))
else
(f_X11_isWithin M p2 1 99).bind fun x2 =>
if x2 = 0 then
(some ((-1), M))
else
(f_X11_isRoom M p3).bind fun x4 =>
if x4 = 0 then
(some ((-1), M))
else
(f_X11_isWithin M p4 0 600).bind fun x6 =>
if x6 = 0 then
(some ((-1), M))
else
(f_X11_tryAsItGoes M).bind fun x8 =>
bM (upM x8 71 9 1) fun M9 =>
bM (upM M9 71 10 p1) fun M10 =>
lp (X := Int × Int × MM) (Y := Int × MM) (fun x11 =>
if x11.2.1 < 10 then
((f_X0_copy x11.2.2 70 54).bind fun x13 =>
(f_X0_run x13 70 p2).bind fun x14 =>
gd (0 ≤ p3 ∧ p3 < (30 : Int)) <|
((if (x14 73 (p3).toNat) < p4 then
(some x11.1)
else
some (w32 (x11.1 + 1))) : Option (Int)).bind fun x17 =>
some (Sum.inl (x17, w32 (x11.2.1 + 1), x14)))
else
some (Sum.inr (x11.1, x11.2.2))) FU (0, 0, M10)
set_option maxRecDepth 4000 in
theorem c_X11_chance {E : EE} {sh : List (Nat × Nat)} {R : RM} {M : MM} {p1 : Int} {p2 : Int} {p3 : Int} {p4 : Int} (hE : Ext sh) (hL : Links R) : ∀ y, f_X11_chance M p1 p2 p3 p4 = some y → MetC E m_X11_chance 0 0 [rV 0, iV p1, iV p2, iV p3, iV p4] (sh, false, R, M) (fun r w' => r = some (iV y.1) ∧ w' = (sh, false, R, y.2)) := by
  intro y hy
  refine MetC.seg (o := f_X11_chance M p1 p2 p3 p4) (t := (fun K y => K (some (iV y.1)) (sh, false, R, y.2))) (L := [some (rV 0), some (iV p1), some (iV p2), some (iV p3), some (iV p4), none, none]) (by decide) rfl (Nat.le_of_ble_eq_true rfl) ?_ hy ⟨rfl, rfl⟩
  unfold f_X11_chance
  refine Seg.step (pc' := 1) (I_iload_n (i := 1) dX11_chance_0 rfl rfl) ?_
  refine S_if_lt (tgt := 34) dX11_chance_1 (by decide) (fun h1 => ?_) (fun h1 => ?_)
  · refine Seg.step (pc' := 35) (I_iconst dX11_chance_34 ⟨by decide, by decide⟩) ?_
    exact S_iret dX11_chance_35 rfl (by decide) (by decide) (fun K hK => hK)
  refine Seg.step (pc' := 5) (I_iload_n (i := 2) dX11_chance_4 rfl rfl) ?_
  refine Seg.step (pc' := 6) (I_iconst dX11_chance_5 ⟨by decide, by decide⟩) ?_
  refine Seg.step (pc' := 8) (I_bipush dX11_chance_6 (by decide) ⟨by decide, by decide⟩) ?_
  refine S_callS3 (md' := m_X11_isWithin) (fun y => some (iV y)) (fun y => (sh, false, R, M)) mm_X11_isWithin wm_11_139 ⟨rfl, rfl, by decide, by decide, by decide, by decide⟩ (Nat.le_of_ble_eq_true rfl) dX11_chance_8 (fun y hy => c_X11_isWithin hE hL y hy) (fun x2 => ?_)
  refine S_if_eq (tgt := 34) dX11_chance_11 (by decide) (fun h3 => ?_) (fun h3 => ?_)
  · refine Seg.step (pc' := 35) (I_iconst dX11_chance_34 ⟨by decide, by decide⟩) ?_
    exact S_iret dX11_chance_35 rfl (by decide) (by decide) (fun K hK => hK)
  refine Seg.step (pc' := 15) (I_aload_n (i := 0) dX11_chance_14 rfl rfl) ?_
  refine Seg.step (pc' := 16) (I_iload_n (i := 3) dX11_chance_15 rfl rfl) ?_
  refine S_callV1 (md' := m_X11_isRoom) (fun y => some (iV y)) (fun y => (sh, false, R, M)) (hE _ _ sk_11) ⟨by decide, rfl⟩ mm_X11_isRoom wm_11_178 ⟨rfl, rfl, by decide, by decide, by decide, by decide⟩ (Nat.le_of_ble_eq_true rfl) dX11_chance_16 (fun y hy => c_X11_isRoom hE hL y hy) (fun x4 => ?_)
  refine S_if_eq (tgt := 34) dX11_chance_19 (by decide) (fun h5 => ?_) (fun h5 => ?_)
  · refine Seg.step (pc' := 35) (I_iconst dX11_chance_34 ⟨by decide, by decide⟩) ?_
    exact S_iret dX11_chance_35 rfl (by decide) (by decide) (fun K hK => hK)
  refine Seg.step (pc' := 24) (I_iload dX11_chance_22 rfl) ?_
  refine Seg.step (pc' := 25) (I_iconst dX11_chance_24 ⟨by decide, by decide⟩) ?_
  refine Seg.step (pc' := 28) (I_sipush dX11_chance_25 (by decide) ⟨by decide, by decide⟩) ?_
  refine S_callS3 (md' := m_X11_isWithin) (fun y => some (iV y)) (fun y => (sh, false, R, M)) mm_X11_isWithin wm_11_139 ⟨rfl, rfl, by decide, by decide, by decide, by decide⟩ (Nat.le_of_ble_eq_true rfl) dX11_chance_28 (fun y hy => c_X11_isWithin hE hL y hy) (fun x6 => ?_)
  refine S_if_ne (tgt := 36) dX11_chance_31 (by decide) (fun h7 => ?_) (fun h7 => ?_)
  · refine Seg.step (pc' := 35) (I_iconst dX11_chance_34 ⟨by decide, by decide⟩) ?_
    exact S_iret dX11_chance_35 rfl (by decide) (by decide) (fun K hK => hK)
  refine Seg.step (pc' := 37) (I_aload_n (i := 0) dX11_chance_36 rfl rfl) ?_
  refine S_callV0 (md' := m_X11_tryAsItGoes) (fun y => none) (fun y => (sh, false, R, y)) (hE _ _ sk_11) ⟨by decide, rfl⟩ mm_X11_tryAsItGoes wm_11_284 ⟨rfl, rfl, by decide, by decide, by decide, by decide⟩ (Nat.le_of_ble_eq_true rfl) dX11_chance_37 (fun y hy => c_X11_tryAsItGoes hE hL y hy) (fun x8 => ?_)
  refine Seg.step (pc' := 41) (I_aload_n (i := 0) dX11_chance_40 rfl rfl) ?_
  refine Seg.step (pc' := 44) (I_getR cls11 (by decide) wf_11_46 (hE _ _ sk_11) rfl (lk_11_8 hL) dX11_chance_41) ?_
  refine Seg.step (pc' := 47) (I_getR cls0 (by decide) wf_11_277 (hE _ _ sk_11_8) rfl (lk_0_0 hL sk_11_8) dX11_chance_44) ?_
  refine Seg.step (pc' := 48) (I_iconst dX11_chance_47 ⟨by decide, by decide⟩) ?_
  refine Seg.step (pc' := 51) (I_putZ cls10 (by decide) wf_11_299 (hE _ _ (sk_0_0 sk_11_8)) rfl rfl (by decide) dX11_chance_48) ?_
  refine S_bM fun M9 => ?_
  refine Seg.step (pc' := 52) (I_aload_n (i := 0) dX11_chance_51 rfl rfl) ?_
  refine Seg.step (pc' := 55) (I_getR cls11 (by decide) wf_11_46 (hE _ _ sk_11) rfl (lk_11_8 hL) dX11_chance_52) ?_
  refine Seg.step (pc' := 58) (I_getR cls0 (by decide) wf_11_277 (hE _ _ sk_11_8) rfl (lk_0_0 hL sk_11_8) dX11_chance_55) ?_
  refine Seg.step (pc' := 59) (I_iload_n (i := 1) dX11_chance_58 rfl rfl) ?_
  refine Seg.step (pc' := 60) (I_i2l dX11_chance_59) ?_
  refine Seg.step (pc' := 63) (I_putJ cls10 (by decide) wf_11_302 (hE _ _ (sk_0_0 sk_11_8)) rfl rfl dX11_chance_60) ?_
  refine S_bM fun M10 => ?_
  refine Seg.step (pc' := 64) (I_iconst dX11_chance_63 ⟨by decide, by decide⟩) ?_
  refine Seg.step (pc' := 66) (I_istore dX11_chance_64 (by decide) rfl) ?_
  refine Seg.step (pc' := 67) (I_iconst dX11_chance_66 ⟨by decide, by decide⟩) ?_
  refine Seg.step (pc' := 69) (I_istore dX11_chance_67 (by decide) rfl) ?_
  refine Seg.forget (Lle.ye (Lle.no (Lle.ye (Lle.ye (Lle.ye (Lle.ye (Lle.ye (Lle.nil)))))))) ?_
  refine S_loop (Y := Int × Int × MM) (fun y => [some (rV 0), none, some (iV p2), some (iV p3), some (iV p4), some (iV y.1), some (iV y.2.1)]) (fun y => []) (fun y => (sh, false, R, y.2.2)) (fun x11 => ?_) FU (0, 0, M10)
  refine Seg.step (pc' := 71) (I_iload dX11_chance_69 rfl) ?_
  refine Seg.step (pc' := 73) (I_bipush dX11_chance_71 (by decide) ⟨by decide, by decide⟩) ?_
  refine S_icmp_ge (tgt := 118) dX11_chance_73 (by decide) (fun h12 => ?_) (fun h12 => ?_)
  · refine Seg.step (pc' := 77) (I_aload_n (i := 0) dX11_chance_76 rfl rfl) ?_
    refine Seg.step (pc' := 80) (I_getR cls11 (by decide) wf_11_46 (hE _ _ sk_11) rfl (lk_11_8 hL) dX11_chance_77) ?_
    refine Seg.step (pc' := 81) (I_aload_n (i := 0) dX11_chance_80 rfl rfl) ?_
    refine Seg.step (pc' := 84) (I_getR cls11 (by decide) wf_11_39 (hE _ _ sk_11) rfl (lk_11_5 hL) dX11_chance_81) ?_
    refine S_callV1 (md' := m_X0_copy) (fun y => none) (fun y => (sh, false, R, y)) (hE _ _ sk_11_8) ⟨by decide, rfl⟩ mm_X0_copy wm_11_271 ⟨rfl, rfl, by decide, by decide, by decide, by decide⟩ (Nat.le_of_ble_eq_true rfl) dX11_chance_84 (fun y hy => c_X0_copy hE hL sk_11_8 sk_11_5 y hy) (fun x13 => ?_)
    refine Seg.step (pc' := 88) (I_aload_n (i := 0) dX11_chance_87 rfl rfl) ?_
    refine Seg.step (pc' := 91) (I_getR cls11 (by decide) wf_11_46 (hE _ _ sk_11) rfl (lk_11_8 hL) dX11_chance_88) ?_
    refine Seg.step (pc' := 92) (I_iload_n (i := 2) dX11_chance_91 rfl rfl) ?_
    refine S_callV1 (md' := m_X0_run) (fun y => none) (fun y => (sh, false, R, y)) (hE _ _ sk_11_8) ⟨by decide, rfl⟩ mm_X0_run wm_11_264 ⟨rfl, rfl, by decide, by decide, by decide, by decide⟩ (Nat.le_of_ble_eq_true rfl) dX11_chance_92 (fun y hy => c_X0_run hE hL sk_11_8 y hy) (fun x14 => ?_)
    refine Seg.step (pc' := 96) (I_aload_n (i := 0) dX11_chance_95 rfl rfl) ?_
    refine Seg.step (pc' := 99) (I_getR cls11 (by decide) wf_11_46 (hE _ _ sk_11) rfl (lk_11_8 hL) dX11_chance_96) ?_
    refine Seg.step (pc' := 102) (I_getR cls0 (by decide) wf_11_181 (hE _ _ sk_11_8) rfl (lk_0_8 hL sk_11_8) dX11_chance_99) ?_
    refine Seg.step (pc' := 103) (I_iload_n (i := 3) dX11_chance_102 rfl rfl) ?_
    refine S_gd fun h15 => ?_
    refine Seg.step (pc' := 104) (I_iald (hE _ _ (sk_0_8 sk_11_8)) h15 dX11_chance_103) ?_
    refine Seg.step (pc' := 106) (I_iload dX11_chance_104 rfl) ?_
    refine S_bind (Y := Int) (k' := 0) (n' := 0) 112 (fun y => [some (rV 0), none, some (iV p2), some (iV p3), some (iV p4), some (iV y), some (iV x11.2.1)]) (fun y => []) (fun y => (sh, false, R, x14)) ?_ (fun x17 => ?_)
    · refine S_icmp_lt (tgt := 112) dX11_chance_106 (by decide) (fun h16 => ?_) (fun h16 => ?_)
      · exact S_arr (fun K hK => GG.forget (Lle.ye (Lle.no (Lle.ye (Lle.ye (Lle.ye (Lle.ye (Lle.ye (Lle.nil)))))))) hK)
      refine Seg.step (pc' := 112) (I_iinc dX11_chance_109 rfl (by decide) rfl) ?_
      exact S_arr (fun K hK => GG.forget (Lle.ye (Lle.no (Lle.ye (Lle.ye (Lle.ye (Lle.ye (Lle.ye (Lle.nil)))))))) hK)
    refine Seg.step (pc' := 115) (I_iinc dX11_chance_112 rfl (by decide) rfl) ?_
    refine Seg.step (pc' := 69) (I_goto (tgt := 69) dX11_chance_115 (by decide)) ?_
    exact S_arr (fun K hK => GG.forget (Lle.ye (Lle.no (Lle.ye (Lle.ye (Lle.ye (Lle.ye (Lle.ye (Lle.nil)))))))) hK)
  refine Seg.step (pc' := 120) (I_iload dX11_chance_118 rfl) ?_
  exact S_iret dX11_chance_120 rfl (by decide) (by decide) (fun K hK => hK)
theorem dX11_tried_0 : decode cX11_tried 0 = .ok (.iload_n 1, 1) := by decide +kernel
theorem dX11_tried_1 : decode cX11_tried 1 = .ok (.iconst 0, 1) := by decide +kernel
theorem dX11_tried_2 : decode cX11_tried 2 = .ok (.iconst 4, 1) := by decide +kernel
theorem dX11_tried_3 : decode cX11_tried 3 = .ok (.invokestatic 139, 3) := by decide +kernel
theorem dX11_tried_6 : decode cX11_tried 6 = .ok (.ifCond .eq 13, 3) := by decide +kernel
theorem dX11_tried_9 : decode cX11_tried 9 = .ok (.iload_n 3, 1) := by decide +kernel
theorem dX11_tried_10 : decode cX11_tried 10 = .ok (.iconst 0, 1) := by decide +kernel
theorem dX11_tried_11 : decode cX11_tried 11 = .ok (.bipush 99, 2) := by decide +kernel
theorem dX11_tried_13 : decode cX11_tried 13 = .ok (.invokestatic 139, 3) := by decide +kernel
theorem dX11_tried_16 : decode cX11_tried 16 = .ok (.ifCond .ne 5, 3) := by decide +kernel
theorem dX11_tried_19 : decode cX11_tried 19 = .ok (.iconst (-1), 1) := by decide +kernel
theorem dX11_tried_20 : decode cX11_tried 20 = .ok (.ireturn, 1) := by decide +kernel
theorem dX11_tried_21 : decode cX11_tried 21 = .ok (.iload_n 1, 1) := by decide +kernel
theorem dX11_tried_22 : decode cX11_tried 22 = .ok (.iconst 2, 1) := by decide +kernel
theorem dX11_tried_23 : decode cX11_tried 23 = .ok (.if_icmp .ne 14, 3) := by decide +kernel
theorem dX11_tried_26 : decode cX11_tried 26 = .ok (.aload_n 0, 1) := by decide +kernel
theorem dX11_tried_27 : decode cX11_tried 27 = .ok (.iload_n 2, 1) := by decide +kernel
theorem dX11_tried_28 : decode cX11_tried 28 = .ok (.invokevirtual 135, 3) := by decide +kernel
theorem dX11_tried_31 : decode cX11_tried 31 = .ok (.ifCond .ne 12, 3) := by decide +kernel
theorem dX11_tried_34 : decode cX11_tried 34 = .ok (.goto 7, 3) := by decide +kernel
theorem dX11_tried_37 : decode cX11_tried 37 = .ok (.iload_n 2, 1) := by decide +kernel
theorem dX11_tried_38 : decode cX11_tried 38 = .ok (.ifCond .eq 5, 3) := by decide +kernel
theorem dX11_tried_41 : decode cX11_tried 41 = .ok (.iconst (-1), 1) := by decide +kernel
theorem dX11_tried_42 : decode cX11_tried 42 = .ok (.ireturn, 1) := by decide +kernel
theorem dX11_tried_43 : decode cX11_tried 43 = .ok (.aload_n 0, 1) := by decide +kernel
theorem dX11_tried_44 : decode cX11_tried 44 = .ok (.invokevirtual 284, 3) := by decide +kernel
theorem dX11_tried_47 : decode cX11_tried 47 = .ok (.aload_n 0, 1) := by decide +kernel
theorem dX11_tried_48 : decode cX11_tried 48 = .ok (.getfield 46, 3) := by decide +kernel
theorem dX11_tried_51 : decode cX11_tried 51 = .ok (.getfield 277, 3) := by decide +kernel
theorem dX11_tried_54 : decode cX11_tried 54 = .ok (.astore 4, 2) := by decide +kernel
theorem dX11_tried_56 : decode cX11_tried 56 = .ok (.aload 4, 2) := by decide +kernel
theorem dX11_tried_58 : decode cX11_tried 58 = .ok (.iload_n 1, 1) := by decide +kernel
theorem dX11_tried_59 : decode cX11_tried 59 = .ok (.ifCond .ne 7, 3) := by decide +kernel
theorem dX11_tried_62 : decode cX11_tried 62 = .ok (.iconst 1, 1) := by decide +kernel
theorem dX11_tried_63 : decode cX11_tried 63 = .ok (.goto 4, 3) := by decide +kernel
theorem dX11_tried_66 : decode cX11_tried 66 = .ok (.iconst 0, 1) := by decide +kernel
theorem dX11_tried_67 : decode cX11_tried 67 = .ok (.putfield 306, 3) := by decide +kernel
theorem dX11_tried_70 : decode cX11_tried 70 = .ok (.aload 4, 2) := by decide +kernel
theorem dX11_tried_72 : decode cX11_tried 72 = .ok (.iload_n 1, 1) := by decide +kernel
theorem dX11_tried_73 : decode cX11_tried 73 = .ok (.iconst 1, 1) := by decide +kernel
theorem dX11_tried_74 : decode cX11_tried 74 = .ok (.if_icmp .ne 7, 3) := by decide +kernel
theorem dX11_tried_77 : decode cX11_tried 77 = .ok (.iconst 1, 1) := by decide +kernel
theorem dX11_tried_78 : decode cX11_tried 78 = .ok (.goto 4, 3) := by decide +kernel
theorem dX11_tried_81 : decode cX11_tried 81 = .ok (.iconst 0, 1) := by decide +kernel
theorem dX11_tried_82 : decode cX11_tried 82 = .ok (.putfield 309, 3) := by decide +kernel
theorem dX11_tried_85 : decode cX11_tried 85 = .ok (.aload 4, 2) := by decide +kernel
theorem dX11_tried_87 : decode cX11_tried 87 = .ok (.iload_n 1, 1) := by decide +kernel
theorem dX11_tried_88 : decode cX11_tried 88 = .ok (.iconst 2, 1) := by decide +kernel
theorem dX11_tried_89 : decode cX11_tried 89 = .ok (.if_icmp .ne 7, 3) := by decide +kernel
theorem dX11_tried_92 : decode cX11_tried 92 = .ok (.iload_n 2, 1) := by decide +kernel
theorem dX11_tried_93 : decode cX11_tried 93 = .ok (.goto 4, 3) := by decide +kernel
theorem dX11_tried_96 : decode cX11_tried 96 = .ok (.iconst (-1), 1) := by decide +kernel
theorem dX11_tried_97 : decode cX11_tried 97 = .ok (.putfield 312, 3) := by decide +kernel
theorem dX11_tried_100 : decode cX11_tried 100 = .ok (.aload 4, 2) := by decide +kernel
theorem dX11_tried_102 : decode cX11_tried 102 = .ok (.iload_n 1, 1) := by decide +kernel
theorem dX11_tried_103 : decode cX11_tried 103 = .ok (.iconst 3, 1) := by decide +kernel
theorem dX11_tried_104 : decode cX11_tried 104 = .ok (.if_icmp .ne 7, 3) := by decide +kernel
theorem dX11_tried_107 : decode cX11_tried 107 = .ok (.iconst 1, 1) := by decide +kernel
theorem dX11_tried_108 : decode cX11_tried 108 = .ok (.goto 4, 3) := by decide +kernel
theorem dX11_tried_111 : decode cX11_tried 111 = .ok (.iconst 0, 1) := by decide +kernel
theorem dX11_tried_112 : decode cX11_tried 112 = .ok (.putfield 315, 3) := by decide +kernel
theorem dX11_tried_115 : decode cX11_tried 115 = .ok (.aload 4, 2) := by decide +kernel
theorem dX11_tried_117 : decode cX11_tried 117 = .ok (.iload_n 1, 1) := by decide +kernel
theorem dX11_tried_118 : decode cX11_tried 118 = .ok (.iconst 4, 1) := by decide +kernel
theorem dX11_tried_119 : decode cX11_tried 119 = .ok (.if_icmp .ne 7, 3) := by decide +kernel
theorem dX11_tried_122 : decode cX11_tried 122 = .ok (.iconst 1, 1) := by decide +kernel
theorem dX11_tried_123 : decode cX11_tried 123 = .ok (.goto 4, 3) := by decide +kernel
theorem dX11_tried_126 : decode cX11_tried 126 = .ok (.iconst 0, 1) := by decide +kernel
theorem dX11_tried_127 : decode cX11_tried 127 = .ok (.putfield 318, 3) := by decide +kernel
theorem dX11_tried_130 : decode cX11_tried 130 = .ok (.aload_n 0, 1) := by decide +kernel
theorem dX11_tried_131 : decode cX11_tried 131 = .ok (.getfield 46, 3) := by decide +kernel
theorem dX11_tried_134 : decode cX11_tried 134 = .ok (.iload_n 3, 1) := by decide +kernel
theorem dX11_tried_135 : decode cX11_tried 135 = .ok (.invokevirtual 264, 3) := by decide +kernel
theorem dX11_tried_138 : decode cX11_tried 138 = .ok (.aload_n 0, 1) := by decide +kernel
theorem dX11_tried_139 : decode cX11_tried 139 = .ok (.getfield 46, 3) := by decide +kernel
theorem dX11_tried_142 : decode cX11_tried 142 = .ok (.invokevirtual 250, 3) := by decide +kernel
theorem dX11_tried_145 : decode cX11_tried 145 = .ok (.ireturn, 1) := by decide +kernel
def f_X11_tried (M : MM) (p1 : Int) (p2 : Int) (p3 : Int) : Option (Int × MM) :=
(f_X11_isWithin M p1 0 4).bind fun x1 =>
if x1 = 0 then
(some ((-1), M))
else
(f_X11_isWithin M p3 0 99).bind fun x3 =>
if x3 = 0 then
(some ((-1), M))
else
bS ((if p1 = 2 then
((f_X11_isPerson M p2).bind fun x6 =>
if x6 = 0 then
(some (Sum.inr ((-1), M)))
else
some (Sum.inl ()))
else
if p2 = 0 then
(some (Sum.inl ()))
else
some (Sum.inr ((-1), M))) : Option ((Unit) ⊕ (Int × MM))) (fun x9 =>
(f_X11_tryAsItGoes M).bind fun x10 =>
((if p1 = 0 then
(some 1)
else
some 0) : Option (Int)).bind fun x12 =>
gd (x12 = 0 ∨ x12 = 1) <|
bM (upM x10 71 0 x12) fun M14 =>
((if p1 = 1 then
(some 1)
else
some 0) : Option (Int)).bind fun x16 =>
gd (x16 = 0 ∨ x16 = 1) <|
bM (upM M14 71 2 x16) fun M18 =>
((if p1 = 2 then
(some p2)
else
some (-1)) : Option (Int)).bind fun x20 =>
bM (upM M18 71 5 x20) fun M21 =>
((if p1 = 3 then
(some 1)
else
some 0) : Option (Int)).bind fun x23 =>
gd (x23 = 0 ∨ x23 = 1) <|
bM (upM M21 71 3 x23) fun M25 =>
((if p1 = 4 then
(some 1)
else
some 0) : Option (Int)).bind fun x27 =>
gd (x27 = 0 ∨ x27 = 1) <|
bM (upM M25 71 4 x27) fun M29 =>
(f_X0_run M29 70 p3).bind fun x30 =>
(f_X0_crossOfAll x30 70).bind fun x31 =>
some (x31, x30)) (fun r => r)
set_option maxRecDepth 4000 in
theorem c_X11_tried {E : EE} {sh : List (Nat × Nat)} {R : RM} {M : MM} {p1 : Int} {p2 : Int} {p3 : Int} (hE : Ext sh) (hL : Links R) : ∀ y, f_X11_tried M p1 p2 p3 = some y → MetC E m_X11_tried 0 0 [rV 0, iV p1, iV p2, iV p3] (sh, false, R, M) (fun r w' => r = some (iV y.1) ∧ w' = (sh, false, R, y.2)) := by
  intro y hy
  refine MetC.seg (o := f_X11_tried M p1 p2 p3) (t := (fun K y => K (some (iV y.1)) (sh, false, R, y.2))) (L := [some (rV 0), some (iV p1), some (iV p2), some (iV p3), none]) (by decide) rfl (Nat.le_of_ble_eq_true rfl) ?_ hy ⟨rfl, rfl⟩
  unfold f_X11_tried
  refine Seg.step (pc' := 1) (I_iload_n (i := 1) dX11_tried_0 rfl rfl) ?_
  refine Seg.step (pc' := 2) (I_iconst dX11_tried_1 ⟨by decide, by decide⟩) ?_
  refine Seg.step (pc' := 3) (I_iconst dX11_tried_2 ⟨by decide, by decide⟩) ?_
  refine S_callS3 (md' := m_X11_isWithin) (fun y => some (iV y)) (fun y => (sh, false, R, M)) mm_X11_isWithin wm_11_139 ⟨rfl, rfl, by decide, by decide, by decide, by decide⟩ (Nat.le_of_ble_eq_true rfl) dX11_tried_3 (fun y hy => c_X11_isWithin hE hL y hy) (fun x1 => ?_)
  refine S_if_eq (tgt := 19) dX11_tried_6 (by decide) (fun h2 => ?_) (fun h2 => ?_)
  · refine Seg.step (pc' := 20) (I_iconst dX11_tried_19 ⟨by decide, by decide⟩) ?_
    exact S_iret dX11_tried_20 rfl (by decide) (by decide) (fun K hK => hK)
  refine Seg.step (pc' := 10) (I_iload_n (i := 3) dX11_tried_9 rfl rfl) ?_
  refine Seg.step (pc' := 11) (I_iconst dX11_tried_10 ⟨by decide, by decide⟩) ?_
  refine Seg.step (pc' := 13) (I_bipush dX11_tried_11 (by decide) ⟨by decide, by decide⟩) ?_
  refine S_callS3 (md' := m_X11_isWithin) (fun y => some (iV y)) (fun y => (sh, false, R, M)) mm_X11_isWithin wm_11_139 ⟨rfl, rfl, by decide, by decide, by decide, by decide⟩ (Nat.le_of_ble_eq_true rfl) dX11_tried_13 (fun y hy => c_X11_isWithin hE hL y hy) (fun x3 => ?_)
  refine S_if_ne (tgt := 21) dX11_tried_16 (by decide) (fun h4 => ?_) (fun h4 => ?_)
  · refine Seg.step (pc' := 20) (I_iconst dX11_tried_19 ⟨by decide, by decide⟩) ?_
    exact S_iret dX11_tried_20 rfl (by decide) (by decide) (fun K hK => hK)
  refine Seg.step (pc' := 22) (I_iload_n (i := 1) dX11_tried_21 rfl rfl) ?_
  refine Seg.step (pc' := 23) (I_iconst dX11_tried_22 ⟨by decide, by decide⟩) ?_
  refine S_bind2 (Y := Unit) (k' := 0) (n' := 0) 43 (fun y => [some (rV 0), some (iV p1), some (iV p2), some (iV p3), none]) (fun y => []) (fun y => (sh, false, R, M)) ?_ (fun x9 => ?_)
  · refine S_icmp_ne (tgt := 37) dX11_tried_23 (by decide) (fun h5 => ?_) (fun h5 => ?_)
    · refine Seg.step (pc' := 27) (I_aload_n (i := 0) dX11_tried_26 rfl rfl) ?_
      refine Seg.step (pc' := 28) (I_iload_n (i := 2) dX11_tried_27 rfl rfl) ?_
      refine S_callV1 (md' := m_X11_isPerson) (fun y => some (iV y)) (fun y => (sh, false, R, M)) (hE _ _ sk_11) ⟨by decide, rfl⟩ mm_X11_isPerson wm_11_135 ⟨rfl, rfl, by decide, by decide, by decide, by decide⟩ (Nat.le_of_ble_eq_true rfl) dX11_tried_28 (fun y hy => c_X11_isPerson hE hL y hy) (fun x6 => ?_)
      refine S_if_ne (tgt := 43) dX11_tried_31 (by decide) (fun h7 => ?_) (fun h7 => ?_)
      · refine Seg.step (pc' := 41) (I_goto (tgt := 41) dX11_tried_34 (by decide)) ?_
        refine Seg.step (pc' := 42) (I_iconst dX11_tried_41 ⟨by decide, by decide⟩) ?_
        exact S_iret dX11_tried_42 rfl (by decide) (by decide) (fun K hK => hK)
      exact S_arr (fun K hK => GG.forget (Lle.ye (Lle.ye (Lle.ye (Lle.ye (Lle.no (Lle.nil)))))) hK)
    refine Seg.step (pc' := 38) (I_iload_n (i := 2) dX11_tried_37 rfl rfl) ?_
    refine S_if_eq (tgt := 43) dX11_tried_38 (by decide) (fun h8 => ?_) (fun h8 => ?_)
    · exact S_arr (fun K hK => GG.forget (Lle.ye (Lle.ye (Lle.ye (Lle.ye (Lle.no (Lle.nil)))))) hK)
    refine Seg.step (pc' := 42) (I_iconst dX11_tried_41 ⟨by decide, by decide⟩) ?_
    exact S_iret dX11_tried_42 rfl (by decide) (by decide) (fun K hK => hK)
  refine Seg.step (pc' := 44) (I_aload_n (i := 0) dX11_tried_43 rfl rfl) ?_
  refine S_callV0 (md' := m_X11_tryAsItGoes) (fun y => none) (fun y => (sh, false, R, y)) (hE _ _ sk_11) ⟨by decide, rfl⟩ mm_X11_tryAsItGoes wm_11_284 ⟨rfl, rfl, by decide, by decide, by decide, by decide⟩ (Nat.le_of_ble_eq_true rfl) dX11_tried_44 (fun y hy => c_X11_tryAsItGoes hE hL y hy) (fun x10 => ?_)
  refine Seg.step (pc' := 48) (I_aload_n (i := 0) dX11_tried_47 rfl rfl) ?_
  refine Seg.step (pc' := 51) (I_getR cls11 (by decide) wf_11_46 (hE _ _ sk_11) rfl (lk_11_8 hL) dX11_tried_48) ?_
  refine Seg.step (pc' := 54) (I_getR cls0 (by decide) wf_11_277 (hE _ _ sk_11_8) rfl (lk_0_0 hL sk_11_8) dX11_tried_51) ?_
  refine Seg.step (pc' := 56) (I_astore dX11_tried_54 (by decide) rfl) ?_
  refine Seg.step (pc' := 58) (I_aload dX11_tried_56 rfl) ?_
  refine Seg.step (pc' := 59) (I_iload_n (i := 1) dX11_tried_58 rfl rfl) ?_
  refine S_bind (Y := Int) (k' := 0) (n' := 0) 67 (fun y => [some (rV 0), some (iV p1), some (iV p2), some (iV p3), some (rV 71)]) (fun y => [iV y, rV 71]) (fun y => (sh, false, R, x10)) ?_ (fun x12 => ?_)
  · refine S_if_ne (tgt := 66) dX11_tried_59 (by decide) (fun h11 => ?_) (fun h11 => ?_)
    · refine Seg.step (pc' := 63) (I_iconst dX11_tried_62 ⟨by decide, by decide⟩) ?_
      refine Seg.step (pc' := 67) (I_goto (tgt := 67) dX11_tried_63 (by decide)) ?_
      exact S_arr (fun K hK => GG.forget (Lle.ye (Lle.ye (Lle.ye (Lle.ye (Lle.ye (Lle.nil)))))) hK)
    refine Seg.step (pc' := 67) (I_iconst dX11_tried_66 ⟨by decide, by decide⟩) ?_
    exact S_arr (fun K hK => GG.forget (Lle.ye (Lle.ye (Lle.ye (Lle.ye (Lle.ye (Lle.nil)))))) hK)
  refine S_gd fun h13 => ?_
  refine Seg.step (pc' := 70) (I_putZ cls10 (by decide) wf_11_306 (hE _ _ (sk_0_0 sk_11_8)) rfl rfl h13 dX11_tried_67) ?_
  refine S_bM fun M14 => ?_
  refine Seg.step (pc' := 72) (I_aload dX11_tried_70 rfl) ?_
  refine Seg.step (pc' := 73) (I_iload_n (i := 1) dX11_tried_72 rfl rfl) ?_
  refine Seg.step (pc' := 74) (I_iconst dX11_tried_73 ⟨by decide, by decide⟩) ?_
  refine S_bind (Y := Int) (k' := 0) (n' := 0) 82 (fun y => [some (rV 0), some (iV p1), some (iV p2), some (iV p3), some (rV 71)]) (fun y => [iV y, rV 71]) (fun y => (sh, false, R, M14)) ?_ (fun x16 => ?_)
  · refine S_icmp_ne (tgt := 81) dX11_tried_74 (by decide) (fun h15 => ?_) (fun h15 => ?_)
    · refine Seg.step (pc' := 78) (I_iconst dX11_tried_77 ⟨by decide, by decide⟩) ?_
      refine Seg.step (pc' := 82) (I_goto (tgt := 82) dX11_tried_78 (by decide)) ?_
      exact S_arr (fun K hK => GG.forget (Lle.ye (Lle.ye (Lle.ye (Lle.ye (Lle.ye (Lle.nil)))))) hK)
    refine Seg.step (pc' := 82) (I_iconst dX11_tried_81 ⟨by decide, by decide⟩) ?_
    exact S_arr (fun K hK => GG.forget (Lle.ye (Lle.ye (Lle.ye (Lle.ye (Lle.ye (Lle.nil)))))) hK)
  refine S_gd fun h17 => ?_
  refine Seg.step (pc' := 85) (I_putZ cls10 (by decide) wf_11_309 (hE _ _ (sk_0_0 sk_11_8)) rfl rfl h17 dX11_tried_82) ?_
  refine S_bM fun M18 => ?_
  refine Seg.step (pc' := 87) (I_aload dX11_tried_85 rfl) ?_
  refine Seg.step (pc' := 88) (I_iload_n (i := 1) dX11_tried_87 rfl rfl) ?_
  refine Seg.step (pc' := 89) (I_iconst dX11_tried_88 ⟨by decide, by decide⟩) ?_
  refine S_bind (Y := Int) (k' := 0) (n' := 0) 97 (fun y => [some (rV 0), some (iV p1), none, some (iV p3), some (rV 71)]) (fun y => [iV y, rV 71]) (fun y => (sh, false, R, M18)) ?_ (fun x20 => ?_)
  · refine S_icmp_ne (tgt := 96) dX11_tried_89 (by decide) (fun h19 => ?_) (fun h19 => ?_)
    · refine Seg.step (pc' := 93) (I_iload_n (i := 2) dX11_tried_92 rfl rfl) ?_
      refine Seg.step (pc' := 97) (I_goto (tgt := 97) dX11_tried_93 (by decide)) ?_
      exact S_arr (fun K hK => GG.forget (Lle.ye (Lle.ye (Lle.no (Lle.ye (Lle.ye (Lle.nil)))))) hK)
    refine Seg.step (pc' := 97) (I_iconst dX11_tried_96 ⟨by decide, by decide⟩) ?_
    exact S_arr (fun K hK => GG.forget (Lle.ye (Lle.ye (Lle.no (Lle.ye (Lle.ye (Lle.nil)))))) hK)
  refine Seg.step (pc' := 100) (I_putI cls10 (by decide) wf_11_312 (hE _ _ (sk_0_0 sk_11_8)) rfl rfl dX11_tried_97) ?_
  refine S_bM fun M21 => ?_
  refine Seg.step (pc' := 102) (I_aload dX11_tried_100 rfl) ?_
  refine Seg.step (pc' := 103) (I_iload_n (i := 1) dX11_tried_102 rfl rfl) ?_
  refine Seg.step (pc' := 104) (I_iconst dX11_tried_103 ⟨by decide, by decide⟩) ?_
  refine S_bind (Y := Int) (k' := 0) (n' := 0) 112 (fun y => [some (rV 0), some (iV p1), none, some (iV p3), some (rV 71)]) (fun y => [iV y, rV 71]) (fun y => (sh, false, R, M21)) ?_ (fun x23 => ?_)
  · refine S_icmp_ne (tgt := 111) dX11_tried_104 (by decide) (fun h22 => ?_) (fun h22 => ?_)
    · refine Seg.step (pc' := 108) (I_iconst dX11_tried_107 ⟨by decide, by decide⟩) ?_
      refine Seg.step (pc' := 112) (I_goto (tgt := 112) dX11_tried_108 (by decide)) ?_
      exact S_arr (fun K hK => GG.forget (Lle.ye (Lle.ye (Lle.no (Lle.ye (Lle.ye (Lle.nil)))))) hK)
    refine Seg.step (pc' := 112) (I_iconst dX11_tried_111 ⟨by decide, by decide⟩) ?_
    exact S_arr (fun K hK => GG.forget (Lle.ye (Lle.ye (Lle.no (Lle.ye (Lle.ye (Lle.nil)))))) hK)
  refine S_gd fun h24 => ?_
  refine Seg.step (pc' := 115) (I_putZ cls10 (by decide) wf_11_315 (hE _ _ (sk_0_0 sk_11_8)) rfl rfl h24 dX11_tried_112) ?_
  refine S_bM fun M25 => ?_
  refine Seg.step (pc' := 117) (I_aload dX11_tried_115 rfl) ?_
  refine Seg.step (pc' := 118) (I_iload_n (i := 1) dX11_tried_117 rfl rfl) ?_
  refine Seg.step (pc' := 119) (I_iconst dX11_tried_118 ⟨by decide, by decide⟩) ?_
  refine S_bind (Y := Int) (k' := 0) (n' := 0) 127 (fun y => [some (rV 0), none, none, some (iV p3), none]) (fun y => [iV y, rV 71]) (fun y => (sh, false, R, M25)) ?_ (fun x27 => ?_)
  · refine S_icmp_ne (tgt := 126) dX11_tried_119 (by decide) (fun h26 => ?_) (fun h26 => ?_)
    · refine Seg.step (pc' := 123) (I_iconst dX11_tried_122 ⟨by decide, by decide⟩) ?_
      refine Seg.step (pc' := 127) (I_goto (tgt := 127) dX11_tried_123 (by decide)) ?_
      exact S_arr (fun K hK => GG.forget (Lle.ye (Lle.no (Lle.no (Lle.ye (Lle.no (Lle.nil)))))) hK)
    refine Seg.step (pc' := 127) (I_iconst dX11_tried_126 ⟨by decide, by decide⟩) ?_
    exact S_arr (fun K hK => GG.forget (Lle.ye (Lle.no (Lle.no (Lle.ye (Lle.no (Lle.nil)))))) hK)
  refine S_gd fun h28 => ?_
  refine Seg.step (pc' := 130) (I_putZ cls10 (by decide) wf_11_318 (hE _ _ (sk_0_0 sk_11_8)) rfl rfl h28 dX11_tried_127) ?_
  refine S_bM fun M29 => ?_
  refine Seg.step (pc' := 131) (I_aload_n (i := 0) dX11_tried_130 rfl rfl) ?_
  refine Seg.step (pc' := 134) (I_getR cls11 (by decide) wf_11_46 (hE _ _ sk_11) rfl (lk_11_8 hL) dX11_tried_131) ?_
  refine Seg.step (pc' := 135) (I_iload_n (i := 3) dX11_tried_134 rfl rfl) ?_
  refine S_callV1 (md' := m_X0_run) (fun y => none) (fun y => (sh, false, R, y)) (hE _ _ sk_11_8) ⟨by decide, rfl⟩ mm_X0_run wm_11_264 ⟨rfl, rfl, by decide, by decide, by decide, by decide⟩ (Nat.le_of_ble_eq_true rfl) dX11_tried_135 (fun y hy => c_X0_run hE hL sk_11_8 y hy) (fun x30 => ?_)
  refine Seg.step (pc' := 139) (I_aload_n (i := 0) dX11_tried_138 rfl rfl) ?_
  refine Seg.step (pc' := 142) (I_getR cls11 (by decide) wf_11_46 (hE _ _ sk_11) rfl (lk_11_8 hL) dX11_tried_139) ?_
  refine S_callV0 (md' := m_X0_crossOfAll) (fun y => some (iV y)) (fun y => (sh, false, R, x30)) (hE _ _ sk_11_8) ⟨by decide, rfl⟩ mm_X0_crossOfAll wm_11_250 ⟨rfl, rfl, by decide, by decide, by decide, by decide⟩ (Nat.le_of_ble_eq_true rfl) dX11_tried_142 (fun y hy => c_X0_crossOfAll hE hL sk_11_8 y hy) (fun x31 => ?_)
  exact S_iret dX11_tried_145 rfl (by decide) (by decide) (fun K hK => hK)
theorem dX11_tryTurnedBy_0 : decode cX11_tryTurnedBy 0 = .ok (.aload_n 0, 1) := by decide +kernel
theorem dX11_tryTurnedBy_1 : decode cX11_tryTurnedBy 1 = .ok (.invokevirtual 284, 3) := by decide +kernel
theorem dX11_tryTurnedBy_4 : decode cX11_tryTurnedBy 4 = .ok (.aload_n 0, 1) := by decide +kernel
theorem dX11_tryTurnedBy_5 : decode cX11_tryTurnedBy 5 = .ok (.getfield 46, 3) := by decide +kernel
theorem dX11_tryTurnedBy_8 : decode cX11_tryTurnedBy 8 = .ok (.getfield 277, 3) := by decide +kernel
theorem dX11_tryTurnedBy_11 : decode cX11_tryTurnedBy 11 = .ok (.iconst 1, 1) := by decide +kernel
theorem dX11_tryTurnedBy_12 : decode cX11_tryTurnedBy 12 = .ok (.putfield 306, 3) := by decide +kernel
theorem dX11_tryTurnedBy_15 : decode cX11_tryTurnedBy 15 = .ok (.aload_n 0, 1) := by decide +kernel
theorem dX11_tryTurnedBy_16 : decode cX11_tryTurnedBy 16 = .ok (.getfield 46, 3) := by decide +kernel
theorem dX11_tryTurnedBy_19 : decode cX11_tryTurnedBy 19 = .ok (.iload_n 1, 1) := by decide +kernel
theorem dX11_tryTurnedBy_20 : decode cX11_tryTurnedBy 20 = .ok (.putfield 226, 3) := by decide +kernel
theorem dX11_tryTurnedBy_23 : decode cX11_tryTurnedBy 23 = .ok (.return_, 1) := by decide +kernel
def f_X11_tryTurnedBy (M : MM) (p1 : Int) : Option (MM) :=
(f_X11_tryAsItGoes M).bind fun x1 =>
bM (upM x1 71 0 1) fun M2 =>
bM (upM M2 70 3 p1) fun M3 =>
some M3
set_option maxRecDepth 4000 in
theorem c_X11_tryTurnedBy {E : EE} {sh : List (Nat × Nat)} {R : RM} {M : MM} {p1 : Int} (hE : Ext sh) (hL : Links R) : ∀ y, f_X11_tryTurnedBy M p1 = some y → MetC E m_X11_tryTurnedBy 0 0 [rV 0, iV p1] (sh, false, R, M) (fun r w' => r = none ∧ w' = (sh, false, R, y)) := by
  intro y hy
  refine MetC.seg (o := f_X11_tryTurnedBy M p1) (t := (fun K y => K (none) (sh, false, R, y))) (L := [some (rV 0), some (iV p1)]) (by decide) rfl (Nat.le_of_ble_eq_true rfl) ?_ hy ⟨rfl, rfl⟩
  unfold f_X11_tryTurnedBy
  refine Seg.step (pc' := 1) (I_aload_n (i := 0) dX11_tryTurnedBy_0 rfl rfl) ?_
  refine S_callV0 (md' := m_X11_tryAsItGoes) (fun y => none) (fun y => (sh, false, R, y)) (hE _ _ sk_11) ⟨by decide, rfl⟩ mm_X11_tryAsItGoes wm_11_284 ⟨rfl, rfl, by decide, by decide, by decide, by decide⟩ (Nat.le_of_ble_eq_true rfl) dX11_tryTurnedBy_1 (fun y hy => c_X11_tryAsItGoes hE hL y hy) (fun x1 => ?_)
  refine Seg.step (pc' := 5) (I_aload_n (i := 0) dX11_tryTurnedBy_4 rfl rfl) ?_
  refine Seg.step (pc' := 8) (I_getR cls11 (by decide) wf_11_46 (hE _ _ sk_11) rfl (lk_11_8 hL) dX11_tryTurnedBy_5) ?_
  refine Seg.step (pc' := 11) (I_getR cls0 (by decide) wf_11_277 (hE _ _ sk_11_8) rfl (lk_0_0 hL sk_11_8) dX11_tryTurnedBy_8) ?_
  refine Seg.step (pc' := 12) (I_iconst dX11_tryTurnedBy_11 ⟨by decide, by decide⟩) ?_
  refine Seg.step (pc' := 15) (I_putZ cls10 (by decide) wf_11_306 (hE _ _ (sk_0_0 sk_11_8)) rfl rfl (by decide) dX11_tryTurnedBy_12) ?_
  refine S_bM fun M2 => ?_
  refine Seg.step (pc' := 16) (I_aload_n (i := 0) dX11_tryTurnedBy_15 rfl rfl) ?_
  refine Seg.step (pc' := 19) (I_getR cls11 (by decide) wf_11_46 (hE _ _ sk_11) rfl (lk_11_8 hL) dX11_tryTurnedBy_16) ?_
  refine Seg.step (pc' := 20) (I_iload_n (i := 1) dX11_tryTurnedBy_19 rfl rfl) ?_
  refine Seg.step (pc' := 23) (I_putI cls0 (by decide) wf_11_226 (hE _ _ sk_11_8) rfl rfl dX11_tryTurnedBy_20) ?_
  refine S_bM fun M3 => ?_
  exact S_vret dX11_tryTurnedBy_23 rfl (by decide) (by decide) (fun K hK => hK)
theorem dX11_tryRoomsAlone_0 : decode cX11_tryRoomsAlone 0 = .ok (.aload_n 0, 1) := by decide +kernel
theorem dX11_tryRoomsAlone_1 : decode cX11_tryRoomsAlone 1 = .ok (.iload_n 1, 1) := by decide +kernel
theorem dX11_tryRoomsAlone_2 : decode cX11_tryRoomsAlone 2 = .ok (.invokevirtual 321, 3) := by decide +kernel
theorem dX11_tryRoomsAlone_5 : decode cX11_tryRoomsAlone 5 = .ok (.aload_n 0, 1) := by decide +kernel
theorem dX11_tryRoomsAlone_6 : decode cX11_tryRoomsAlone 6 = .ok (.getfield 46, 3) := by decide +kernel
theorem dX11_tryRoomsAlone_9 : decode cX11_tryRoomsAlone 9 = .ok (.getfield 277, 3) := by decide +kernel
theorem dX11_tryRoomsAlone_12 : decode cX11_tryRoomsAlone 12 = .ok (.iconst 1, 1) := by decide +kernel
theorem dX11_tryRoomsAlone_13 : decode cX11_tryRoomsAlone 13 = .ok (.putfield 324, 3) := by decide +kernel
theorem dX11_tryRoomsAlone_16 : decode cX11_tryRoomsAlone 16 = .ok (.return_, 1) := by decide +kernel
def f_X11_tryRoomsAlone (M : MM) (p1 : Int) : Option (MM) :=
(f_X11_tryTurnedBy M p1).bind fun x1 =>
bM (upM x1 71 1 1) fun M2 =>
some M2
set_option maxRecDepth 4000 in
theorem c_X11_tryRoomsAlone {E : EE} {sh : List (Nat × Nat)} {R : RM} {M : MM} {p1 : Int} (hE : Ext sh) (hL : Links R) : ∀ y, f_X11_tryRoomsAlone M p1 = some y → MetC E m_X11_tryRoomsAlone 0 0 [rV 0, iV p1] (sh, false, R, M) (fun r w' => r = none ∧ w' = (sh, false, R, y)) := by
  intro y hy
  refine MetC.seg (o := f_X11_tryRoomsAlone M p1) (t := (fun K y => K (none) (sh, false, R, y))) (L := [some (rV 0), some (iV p1)]) (by decide) rfl (Nat.le_of_ble_eq_true rfl) ?_ hy ⟨rfl, rfl⟩
  unfold f_X11_tryRoomsAlone
  refine Seg.step (pc' := 1) (I_aload_n (i := 0) dX11_tryRoomsAlone_0 rfl rfl) ?_
  refine Seg.step (pc' := 2) (I_iload_n (i := 1) dX11_tryRoomsAlone_1 rfl rfl) ?_
  refine S_callV1 (md' := m_X11_tryTurnedBy) (fun y => none) (fun y => (sh, false, R, y)) (hE _ _ sk_11) ⟨by decide, rfl⟩ mm_X11_tryTurnedBy wm_11_321 ⟨rfl, rfl, by decide, by decide, by decide, by decide⟩ (Nat.le_of_ble_eq_true rfl) dX11_tryRoomsAlone_2 (fun y hy => c_X11_tryTurnedBy hE hL y hy) (fun x1 => ?_)
  refine Seg.step (pc' := 6) (I_aload_n (i := 0) dX11_tryRoomsAlone_5 rfl rfl) ?_
  refine Seg.step (pc' := 9) (I_getR cls11 (by decide) wf_11_46 (hE _ _ sk_11) rfl (lk_11_8 hL) dX11_tryRoomsAlone_6) ?_
  refine Seg.step (pc' := 12) (I_getR cls0 (by decide) wf_11_277 (hE _ _ sk_11_8) rfl (lk_0_0 hL sk_11_8) dX11_tryRoomsAlone_9) ?_
  refine Seg.step (pc' := 13) (I_iconst dX11_tryRoomsAlone_12 ⟨by decide, by decide⟩) ?_
  refine Seg.step (pc' := 16) (I_putZ cls10 (by decide) wf_11_324 (hE _ _ (sk_0_0 sk_11_8)) rfl rfl (by decide) dX11_tryRoomsAlone_13) ?_
  refine S_bM fun M2 => ?_
  exact S_vret dX11_tryRoomsAlone_16 rfl (by decide) (by decide) (fun K hK => hK)
theorem dX11_hoursTillWarm_0 : decode cX11_hoursTillWarm 0 = .ok (.aload_n 0, 1) := by decide +kernel
theorem dX11_hoursTillWarm_1 : decode cX11_hoursTillWarm 1 = .ok (.iload_n 3, 1) := by decide +kernel
theorem dX11_hoursTillWarm_2 : decode cX11_hoursTillWarm 2 = .ok (.invokevirtual 327, 3) := by decide +kernel
theorem dX11_hoursTillWarm_5 : decode cX11_hoursTillWarm 5 = .ok (.iconst 0, 1) := by decide +kernel
theorem dX11_hoursTillWarm_6 : decode cX11_hoursTillWarm 6 = .ok (.istore 4, 2) := by decide +kernel
theorem dX11_hoursTillWarm_8 : decode cX11_hoursTillWarm 8 = .ok (.iload 4, 2) := by decide +kernel
theorem dX11_hoursTillWarm_10 : decode cX11_hoursTillWarm 10 = .ok (.sipush 200, 3) := by decide +kernel
theorem dX11_hoursTillWarm_13 : decode cX11_hoursTillWarm 13 = .ok (.if_icmp .ge 33, 3) := by decide +kernel
theorem dX11_hoursTillWarm_16 : decode cX11_hoursTillWarm 16 = .ok (.aload_n 0, 1) := by decide +kernel
theorem dX11_hoursTillWarm_17 : decode cX11_hoursTillWarm 17 = .ok (.getfield 46, 3) := by decide +kernel
theorem dX11_hoursTillWarm_20 : decode cX11_hoursTillWarm 20 = .ok (.getfield 181, 3) := by decide +kernel
theorem dX11_hoursTillWarm_23 : decode cX11_hoursTillWarm 23 = .ok (.iload_n 1, 1) := by decide +kernel
theorem dX11_hoursTillWarm_24 : decode cX11_hoursTillWarm 24 = .ok (.iaload, 1) := by decide +kernel
theorem dX11_hoursTillWarm_25 : decode cX11_hoursTillWarm 25 = .ok (.iload_n 2, 1) := by decide +kernel
theorem dX11_hoursTillWarm_26 : decode cX11_hoursTillWarm 26 = .ok (.if_icmp .lt 6, 3) := by decide +kernel
theorem dX11_hoursTillWarm_29 : decode cX11_hoursTillWarm 29 = .ok (.iload 4, 2) := by decide +kernel
theorem dX11_hoursTillWarm_31 : decode cX11_hoursTillWarm 31 = .ok (.ireturn, 1) := by decide +kernel
theorem dX11_hoursTillWarm_32 : decode cX11_hoursTillWarm 32 = .ok (.aload_n 0, 1) := by decide +kernel
theorem dX11_hoursTillWarm_33 : decode cX11_hoursTillWarm 33 = .ok (.getfield 46, 3) := by decide +kernel
theorem dX11_hoursTillWarm_36 : decode cX11_hoursTillWarm 36 = .ok (.iconst 1, 1) := by decide +kernel
theorem dX11_hoursTillWarm_37 : decode cX11_hoursTillWarm 37 = .ok (.invokevirtual 264, 3) := by decide +kernel
theorem dX11_hoursTillWarm_40 : decode cX11_hoursTillWarm 40 = .ok (.iinc 4 1, 3) := by decide +kernel
theorem dX11_hoursTillWarm_43 : decode cX11_hoursTillWarm 43 = .ok (.goto (-35), 3) := by decide +kernel
theorem dX11_hoursTillWarm_46 : decode cX11_hoursTillWarm 46 = .ok (.aload_n 0, 1) := by decide +kernel
theorem dX11_hoursTillWarm_47 : decode cX11_hoursTillWarm 47 = .ok (.getfield 46, 3) := by decide +kernel
theorem dX11_hoursTillWarm_50 : decode cX11_hoursTillWarm 50 = .ok (.getfield 181, 3) := by decide +kernel
theorem dX11_hoursTillWarm_53 : decode cX11_hoursTillWarm 53 = .ok (.iload_n 1, 1) := by decide +kernel
theorem dX11_hoursTillWarm_54 : decode cX11_hoursTillWarm 54 = .ok (.iaload, 1) := by decide +kernel
theorem dX11_hoursTillWarm_55 : decode cX11_hoursTillWarm 55 = .ok (.iload_n 2, 1) := by decide +kernel
theorem dX11_hoursTillWarm_56 : decode cX11_hoursTillWarm 56 = .ok (.if_icmp .lt 9, 3) := by decide +kernel
theorem dX11_hoursTillWarm_59 : decode cX11_hoursTillWarm 59 = .ok (.sipush 200, 3) := by decide +kernel
theorem dX11_hoursTillWarm_62 : decode cX11_hoursTillWarm 62 = .ok (.goto 5, 3) := by decide +kernel
theorem dX11_hoursTillWarm_65 : decode cX11_hoursTillWarm 65 = .ok (.bipush (-2), 2) := by decide +kernel
theorem dX11_hoursTillWarm_67 : decode cX11_hoursTillWarm 67 = .ok (.ireturn, 1) := by decide +kernel
def f_X11_hoursTillWarm (M : MM) (p1 : Int) (p2 : Int) (p3 : Int) : Option (Int × MM) :=
(f_X11_tryRoomsAlone M p3).bind fun x1 =>
bS (lp (X := Int × MM) (Y := (MM) ⊕ (Int × MM)) (fun x2 =>
if x2.1 < 200 then
(gd (0 ≤ p1 ∧ p1 < (30 : Int)) <|
if (x2.2 73 (p1).toNat) < p2 then
((f_X0_run x2.2 70 1).bind fun x6 =>
some (Sum.inl (w32 (x2.1 + 1), x6)))
else
some (Sum.inr (Sum.inr (x2.1, x2.2))))
else
some (Sum.inr (Sum.inl x2.2))) FU (0, x1)) (fun x7 =>
gd (0 ≤ p1 ∧ p1 < (30 : Int)) <|
if (x7 73 (p1).toNat) < p2 then
(some ((-2), x7))
else
some (200, x7)) (fun r => r)
set_option maxRecDepth 4000 in
theorem c_X11_hoursTillWarm {E : EE} {sh : List (Nat × Nat)} {R : RM} {M : MM} {p1 : Int} {p2 : Int} {p3 : Int} (hE : Ext sh) (hL : Links R) : ∀ y, f_X11_hoursTillWarm M p1 p2 p3 = some y → MetC E m_X11_hoursTillWarm 0 0 [rV 0, iV p1, iV p2, iV p3] (sh, false, R, M) (fun r w' => r = some (iV y.1) ∧ w' = (sh, false, R, y.2)) := by
  intro y hy
  refine MetC.seg (o := f_X11_hoursTillWarm M p1 p2 p3) (t := (fun K y => K (some (iV y.1)) (sh, false, R, y.2))) (L := [some (rV 0), some (iV p1), some (iV p2), some (iV p3), none]) (by decide) rfl (Nat.le_of_ble_eq_true rfl) ?_ hy ⟨rfl, rfl⟩
  unfold f_X11_hoursTillWarm
  refine Seg.step (pc' := 1) (I_aload_n (i := 0) dX11_hoursTillWarm_0 rfl rfl) ?_
  refine Seg.step (pc' := 2) (I_iload_n (i := 3) dX11_hoursTillWarm_1 rfl rfl) ?_
  refine S_callV1 (md' := m_X11_tryRoomsAlone) (fun y => none) (fun y => (sh, false, R, y)) (hE _ _ sk_11) ⟨by decide, rfl⟩ mm_X11_tryRoomsAlone wm_11_327 ⟨rfl, rfl, by decide, by decide, by decide, by decide⟩ (Nat.le_of_ble_eq_true rfl) dX11_hoursTillWarm_2 (fun y hy => c_X11_tryRoomsAlone hE hL y hy) (fun x1 => ?_)
  refine Seg.step (pc' := 6) (I_iconst dX11_hoursTillWarm_5 ⟨by decide, by decide⟩) ?_
  refine Seg.step (pc' := 8) (I_istore dX11_hoursTillWarm_6 (by decide) rfl) ?_
  refine Seg.forget (Lle.ye (Lle.ye (Lle.ye (Lle.no (Lle.ye (Lle.nil)))))) ?_
  refine S_bind2 (Y := MM) (k' := 0) (n' := 0) 46 (fun y => [some (rV 0), some (iV p1), some (iV p2), none, none]) (fun y => []) (fun y => (sh, false, R, y)) (S_loop (Y := Int × MM) (fun y => [some (rV 0), some (iV p1), some (iV p2), none, some (iV y.1)]) (fun y => []) (fun y => (sh, false, R, y.2)) (fun x2 => ?_) FU (0, x1)) (fun x7 => ?_)
  · refine Seg.step (pc' := 10) (I_iload dX11_hoursTillWarm_8 rfl) ?_
    refine Seg.step (pc' := 13) (I_sipush dX11_hoursTillWarm_10 (by decide) ⟨by decide, by decide⟩) ?_
    refine S_icmp_ge (tgt := 46) dX11_hoursTillWarm_13 (by decide) (fun h3 => ?_) (fun h3 => ?_)
    · refine Seg.step (pc' := 17) (I_aload_n (i := 0) dX11_hoursTillWarm_16 rfl rfl) ?_
      refine Seg.step (pc' := 20) (I_getR cls11 (by decide) wf_11_46 (hE _ _ sk_11) rfl (lk_11_8 hL) dX11_hoursTillWarm_17) ?_
      refine Seg.step (pc' := 23) (I_getR cls0 (by decide) wf_11_181 (hE _ _ sk_11_8) rfl (lk_0_8 hL sk_11_8) dX11_hoursTillWarm_20) ?_
      refine Seg.step (pc' := 24) (I_iload_n (i := 1) dX11_hoursTillWarm_23 rfl rfl) ?_
      refine S_gd fun h4 => ?_
      refine Seg.step (pc' := 25) (I_iald (hE _ _ (sk_0_8 sk_11_8)) h4 dX11_hoursTillWarm_24) ?_
      refine Seg.step (pc' := 26) (I_iload_n (i := 2) dX11_hoursTillWarm_25 rfl rfl) ?_
      refine S_icmp_lt (tgt := 32) dX11_hoursTillWarm_26 (by decide) (fun h5 => ?_) (fun h5 => ?_)
      · refine Seg.step (pc' := 33) (I_aload_n (i := 0) dX11_hoursTillWarm_32 rfl rfl) ?_
        refine Seg.step (pc' := 36) (I_getR cls11 (by decide) wf_11_46 (hE _ _ sk_11) rfl (lk_11_8 hL) dX11_hoursTillWarm_33) ?_
        refine Seg.step (pc' := 37) (I_iconst dX11_hoursTillWarm_36 ⟨by decide, by decide⟩) ?_
        refine S_callV1 (md' := m_X0_run) (fun y => none) (fun y => (sh, false, R, y)) (hE _ _ sk_11_8) ⟨by decide, rfl⟩ mm_X0_run wm_11_264 ⟨rfl, rfl, by decide, by decide, by decide, by decide⟩ (Nat.le_of_ble_eq_true rfl) dX11_hoursTillWarm_37 (fun y hy => c_X0_run hE hL sk_11_8 y hy) (fun x6 => ?_)
        refine Seg.step (pc' := 43) (I_iinc dX11_hoursTillWarm_40 rfl (by decide) rfl) ?_
        refine Seg.step (pc' := 8) (I_goto (tgt := 8) dX11_hoursTillWarm_43 (by decide)) ?_
        exact S_arr (fun K hK => GG.forget (Lle.ye (Lle.ye (Lle.ye (Lle.no (Lle.ye (Lle.nil)))))) hK)
      refine Seg.step (pc' := 31) (I_iload dX11_hoursTillWarm_29 rfl) ?_
      exact S_iret dX11_hoursTillWarm_31 rfl (by decide) (by decide) (fun K hK => hK)
    exact S_arr (fun K hK => GG.forget (Lle.ye (Lle.ye (Lle.ye (Lle.no (Lle.no (Lle.nil)))))) hK)
  refine Seg.step (pc' := 47) (I_aload_n (i := 0) dX11_hoursTillWarm_46 rfl rfl) ?_
  refine Seg.step (pc' := 50) (I_getR cls11 (by decide) wf_11_46 (hE _ _ sk_11) rfl (lk_11_8 hL) dX11_hoursTillWarm_47) ?_
  refine Seg.step (pc' := 53) (I_getR cls0 (by decide) wf_11_181 (hE _ _ sk_11_8) rfl (lk_0_8 hL sk_11_8) dX11_hoursTillWarm_50) ?_
  refine Seg.step (pc' := 54) (I_iload_n (i := 1) dX11_hoursTillWarm_53 rfl rfl) ?_
  refine S_gd fun h8 => ?_
  refine Seg.step (pc' := 55) (I_iald (hE _ _ (sk_0_8 sk_11_8)) h8 dX11_hoursTillWarm_54) ?_
  refine Seg.step (pc' := 56) (I_iload_n (i := 2) dX11_hoursTillWarm_55 rfl rfl) ?_
  refine S_icmp_lt (tgt := 65) dX11_hoursTillWarm_56 (by decide) (fun h9 => ?_) (fun h9 => ?_)
  · refine Seg.step (pc' := 67) (I_bipush dX11_hoursTillWarm_65 (by decide) ⟨by decide, by decide⟩) ?_
    exact S_iret dX11_hoursTillWarm_67 rfl (by decide) (by decide) (fun K hK => hK)
  refine Seg.step (pc' := 62) (I_sipush dX11_hoursTillWarm_59 (by decide) ⟨by decide, by decide⟩) ?_
  refine Seg.step (pc' := 67) (I_goto (tgt := 67) dX11_hoursTillWarm_62 (by decide)) ?_
  exact S_iret dX11_hoursTillWarm_67 rfl (by decide) (by decide) (fun K hK => hK)
theorem dX11_canBeWarm_0 : decode cX11_canBeWarm 0 = .ok (.aload_n 0, 1) := by decide +kernel
theorem dX11_canBeWarm_1 : decode cX11_canBeWarm 1 = .ok (.iload_n 1, 1) := by decide +kernel
theorem dX11_canBeWarm_2 : decode cX11_canBeWarm 2 = .ok (.invokevirtual 178, 3) := by decide +kernel
theorem dX11_canBeWarm_5 : decode cX11_canBeWarm 5 = .ok (.ifCond .eq 18, 3) := by decide +kernel
theorem dX11_canBeWarm_8 : decode cX11_canBeWarm 8 = .ok (.iload_n 2, 1) := by decide +kernel
theorem dX11_canBeWarm_9 : decode cX11_canBeWarm 9 = .ok (.iconst 0, 1) := by decide +kernel
theorem dX11_canBeWarm_10 : decode cX11_canBeWarm 10 = .ok (.sipush 600, 3) := by decide +kernel
theorem dX11_canBeWarm_13 : decode cX11_canBeWarm 13 = .ok (.invokestatic 139, 3) := by decide +kernel
theorem dX11_canBeWarm_16 : decode cX11_canBeWarm 16 = .ok (.ifCond .eq 7, 3) := by decide +kernel
theorem dX11_canBeWarm_19 : decode cX11_canBeWarm 19 = .ok (.iconst 1, 1) := by decide +kernel
theorem dX11_canBeWarm_20 : decode cX11_canBeWarm 20 = .ok (.goto 4, 3) := by decide +kernel
theorem dX11_canBeWarm_23 : decode cX11_canBeWarm 23 = .ok (.iconst 0, 1) := by decide +kernel
theorem dX11_canBeWarm_24 : decode cX11_canBeWarm 24 = .ok (.ireturn, 1) := by decide +kernel
def f_X11_canBeWarm (M : MM) (p1 : Int) (p2 : Int) : Option (Int) :=
(f_X11_isRoom M p1).bind fun x1 =>
if x1 = 0 then
(some 0)
else
(f_X11_isWithin M p2 0 600).bind fun x3 =>
if x3 = 0 then
(some 0)
else
some 1
set_option maxRecDepth 4000 in
theorem c_X11_canBeWarm {E : EE} {sh : List (Nat × Nat)} {ex : Bool} {R : RM} {M : MM} {p1 : Int} {p2 : Int} (hE : Ext sh) (hL : Links R) : ∀ y, f_X11_canBeWarm M p1 p2 = some y → MetC E m_X11_canBeWarm 0 0 [rV 0, iV p1, iV p2] (sh, ex, R, M) (fun r w' => r = some (iV y) ∧ w' = (sh, ex, R, M)) := by
  intro y hy
  refine MetC.seg (o := f_X11_canBeWarm M p1 p2) (t := (fun K y => K (some (iV y)) (sh, ex, R, M))) (L := [some (rV 0), some (iV p1), some (iV p2)]) (by decide) rfl (Nat.le_of_ble_eq_true rfl) ?_ hy ⟨rfl, rfl⟩
  unfold f_X11_canBeWarm
  refine Seg.step (pc' := 1) (I_aload_n (i := 0) dX11_canBeWarm_0 rfl rfl) ?_
  refine Seg.step (pc' := 2) (I_iload_n (i := 1) dX11_canBeWarm_1 rfl rfl) ?_
  refine S_callV1 (md' := m_X11_isRoom) (fun y => some (iV y)) (fun y => (sh, ex, R, M)) (hE _ _ sk_11) ⟨by decide, rfl⟩ mm_X11_isRoom wm_11_178 ⟨rfl, rfl, by decide, by decide, by decide, by decide⟩ (Nat.le_of_ble_eq_true rfl) dX11_canBeWarm_2 (fun y hy => c_X11_isRoom hE hL y hy) (fun x1 => ?_)
  refine S_if_eq (tgt := 23) dX11_canBeWarm_5 (by decide) (fun h2 => ?_) (fun h2 => ?_)
  · refine Seg.step (pc' := 24) (I_iconst dX11_canBeWarm_23 ⟨by decide, by decide⟩) ?_
    exact S_zret dX11_canBeWarm_24 rfl (by decide) (by decide) (by decide) (fun K hK => hK)
  refine Seg.step (pc' := 9) (I_iload_n (i := 2) dX11_canBeWarm_8 rfl rfl) ?_
  refine Seg.step (pc' := 10) (I_iconst dX11_canBeWarm_9 ⟨by decide, by decide⟩) ?_
  refine Seg.step (pc' := 13) (I_sipush dX11_canBeWarm_10 (by decide) ⟨by decide, by decide⟩) ?_
  refine S_callS3 (md' := m_X11_isWithin) (fun y => some (iV y)) (fun y => (sh, ex, R, M)) mm_X11_isWithin wm_11_139 ⟨rfl, rfl, by decide, by decide, by decide, by decide⟩ (Nat.le_of_ble_eq_true rfl) dX11_canBeWarm_13 (fun y hy => c_X11_isWithin hE hL y hy) (fun x3 => ?_)
  refine S_if_eq (tgt := 23) dX11_canBeWarm_16 (by decide) (fun h4 => ?_) (fun h4 => ?_)
  · refine Seg.step (pc' := 24) (I_iconst dX11_canBeWarm_23 ⟨by decide, by decide⟩) ?_
    exact S_zret dX11_canBeWarm_24 rfl (by decide) (by decide) (by decide) (fun K hK => hK)
  refine Seg.step (pc' := 20) (I_iconst dX11_canBeWarm_19 ⟨by decide, by decide⟩) ?_
  refine Seg.step (pc' := 24) (I_goto (tgt := 24) dX11_canBeWarm_20 (by decide)) ?_
  exact S_zret dX11_canBeWarm_24 rfl (by decide) (by decide) (by decide) (fun K hK => hK)
theorem dX11_soon_0 : decode cX11_soon 0 = .ok (.aload_n 0, 1) := by decide +kernel
theorem dX11_soon_1 : decode cX11_soon 1 = .ok (.iload_n 1, 1) := by decide +kernel
theorem dX11_soon_2 : decode cX11_soon 2 = .ok (.iload_n 2, 1) := by decide +kernel
theorem dX11_soon_3 : decode cX11_soon 3 = .ok (.invokevirtual 330, 3) := by decide +kernel
theorem dX11_soon_6 : decode cX11_soon 6 = .ok (.ifCond .eq 10, 3) := by decide +kernel
theorem dX11_soon_9 : decode cX11_soon 9 = .ok (.iload_n 3, 1) := by decide +kernel
theorem dX11_soon_10 : decode cX11_soon 10 = .ok (.invokestatic 257, 3) := by decide +kernel
theorem dX11_soon_13 : decode cX11_soon 13 = .ok (.ifCond .ne 5, 3) := by decide +kernel
theorem dX11_soon_16 : decode cX11_soon 16 = .ok (.iconst (-1), 1) := by decide +kernel
theorem dX11_soon_17 : decode cX11_soon 17 = .ok (.ireturn, 1) := by decide +kernel
theorem dX11_soon_18 : decode cX11_soon 18 = .ok (.aload_n 0, 1) := by decide +kernel
theorem dX11_soon_19 : decode cX11_soon 19 = .ok (.iload_n 1, 1) := by decide +kernel
theorem dX11_soon_20 : decode cX11_soon 20 = .ok (.iload_n 2, 1) := by decide +kernel
theorem dX11_soon_21 : decode cX11_soon 21 = .ok (.iload_n 3, 1) := by decide +kernel
theorem dX11_soon_22 : decode cX11_soon 22 = .ok (.invokevirtual 334, 3) := by decide +kernel
theorem dX11_soon_25 : decode cX11_soon 25 = .ok (.ireturn, 1) := by decide +kernel
def f_X11_soon (M : MM) (p1 : Int) (p2 : Int) (p3 : Int) : Option (Int × MM) :=
(f_X11_canBeWarm M p1 p2).bind fun x1 =>
if x1 = 0 then
(some ((-1), M))
else
(f_X11_isSet M p3).bind fun x3 =>
if x3 = 0 then
(some ((-1), M))
else
(f_X11_hoursTillWarm M p1 p2 p3).bind fun x5 =>
some (x5.1, x5.2)
set_option maxRecDepth 4000 in
theorem c_X11_soon {E : EE} {sh : List (Nat × Nat)} {R : RM} {M : MM} {p1 : Int} {p2 : Int} {p3 : Int} (hE : Ext sh) (hL : Links R) : ∀ y, f_X11_soon M p1 p2 p3 = some y → MetC E m_X11_soon 0 0 [rV 0, iV p1, iV p2, iV p3] (sh, false, R, M) (fun r w' => r = some (iV y.1) ∧ w' = (sh, false, R, y.2)) := by
  intro y hy
  refine MetC.seg (o := f_X11_soon M p1 p2 p3) (t := (fun K y => K (some (iV y.1)) (sh, false, R, y.2))) (L := [some (rV 0), some (iV p1), some (iV p2), some (iV p3)]) (by decide) rfl (Nat.le_of_ble_eq_true rfl) ?_ hy ⟨rfl, rfl⟩
  unfold f_X11_soon
  refine Seg.step (pc' := 1) (I_aload_n (i := 0) dX11_soon_0 rfl rfl) ?_
  refine Seg.step (pc' := 2) (I_iload_n (i := 1) dX11_soon_1 rfl rfl) ?_
  refine Seg.step (pc' := 3) (I_iload_n (i := 2) dX11_soon_2 rfl rfl) ?_
  refine S_callV2 (md' := m_X11_canBeWarm) (fun y => some (iV y)) (fun y => (sh, false, R, M)) (hE _ _ sk_11) ⟨by decide, rfl⟩ mm_X11_canBeWarm wm_11_330 ⟨rfl, rfl, by decide, by decide, by decide, by decide⟩ (Nat.le_of_ble_eq_true rfl) dX11_soon_3 (fun y hy => c_X11_canBeWarm hE hL y hy) (fun x1 => ?_)
  refine S_if_eq (tgt := 16) dX11_soon_6 (by decide) (fun h2 => ?_) (fun h2 => ?_)
  · refine Seg.step (pc' := 17) (I_iconst dX11_soon_16 ⟨by decide, by decide⟩) ?_
    exact S_iret dX11_soon_17 rfl (by decide) (by decide) (fun K hK => hK)
  refine Seg.step (pc' := 10) (I_iload_n (i := 3) dX11_soon_9 rfl rfl) ?_
  refine S_callS1 (md' := m_X11_isSet) (fun y => some (iV y)) (fun y => (sh, false, R, M)) mm_X11_isSet wm_11_257 ⟨rfl, rfl, by decide, by decide, by decide, by decide⟩ (Nat.le_of_ble_eq_true rfl) dX11_soon_10 (fun y hy => c_X11_isSet hE hL y hy) (fun x3 => ?_)
  refine S_if_ne (tgt := 18) dX11_soon_13 (by decide) (fun h4 => ?_) (fun h4 => ?_)
  · refine Seg.step (pc' := 17) (I_iconst dX11_soon_16 ⟨by decide, by decide⟩) ?_
    exact S_iret dX11_soon_17 rfl (by decide) (by decide) (fun K hK => hK)
  refine Seg.step (pc' := 19) (I_aload_n (i := 0) dX11_soon_18 rfl rfl) ?_
  refine Seg.step (pc' := 20) (I_iload_n (i := 1) dX11_soon_19 rfl rfl) ?_
  refine Seg.step (pc' := 21) (I_iload_n (i := 2) dX11_soon_20 rfl rfl) ?_
  refine Seg.step (pc' := 22) (I_iload_n (i := 3) dX11_soon_21 rfl rfl) ?_
  refine S_callV3 (md' := m_X11_hoursTillWarm) (fun y => some (iV y.1)) (fun y => (sh, false, R, y.2)) (hE _ _ sk_11) ⟨by decide, rfl⟩ mm_X11_hoursTillWarm wm_11_334 ⟨rfl, rfl, by decide, by decide, by decide, by decide⟩ (Nat.le_of_ble_eq_true rfl) dX11_soon_22 (fun y hy => c_X11_hoursTillWarm hE hL y hy) (fun x5 => ?_)
  exact S_iret dX11_soon_25 rfl (by decide) (by decide) (fun K hK => hK)
theorem dX11_quicker_0 : decode cX11_quicker 0 = .ok (.aload_n 0, 1) := by decide +kernel
theorem dX11_quicker_1 : decode cX11_quicker 1 = .ok (.iload_n 1, 1) := by decide +kernel
theorem dX11_quicker_2 : decode cX11_quicker 2 = .ok (.iload_n 2, 1) := by decide +kernel
theorem dX11_quicker_3 : decode cX11_quicker 3 = .ok (.invokevirtual 330, 3) := by decide +kernel
theorem dX11_quicker_6 : decode cX11_quicker 6 = .ok (.ifCond .eq 18, 3) := by decide +kernel
theorem dX11_quicker_9 : decode cX11_quicker 9 = .ok (.iload_n 3, 1) := by decide +kernel
theorem dX11_quicker_10 : decode cX11_quicker 10 = .ok (.invokestatic 257, 3) := by decide +kernel
theorem dX11_quicker_13 : decode cX11_quicker 13 = .ok (.ifCond .eq 11, 3) := by decide +kernel
theorem dX11_quicker_16 : decode cX11_quicker 16 = .ok (.iload 4, 2) := by decide +kernel
theorem dX11_quicker_18 : decode cX11_quicker 18 = .ok (.invokestatic 257, 3) := by decide +kernel
theorem dX11_quicker_21 : decode cX11_quicker 21 = .ok (.ifCond .ne 5, 3) := by decide +kernel
theorem dX11_quicker_24 : decode cX11_quicker 24 = .ok (.iconst (-1), 1) := by decide +kernel
theorem dX11_quicker_25 : decode cX11_quicker 25 = .ok (.ireturn, 1) := by decide +kernel
theorem dX11_quicker_26 : decode cX11_quicker 26 = .ok (.aload_n 0, 1) := by decide +kernel
theorem dX11_quicker_27 : decode cX11_quicker 27 = .ok (.iload_n 1, 1) := by decide +kernel
theorem dX11_quicker_28 : decode cX11_quicker 28 = .ok (.iload_n 2, 1) := by decide +kernel
theorem dX11_quicker_29 : decode cX11_quicker 29 = .ok (.iload_n 3, 1) := by decide +kernel
theorem dX11_quicker_30 : decode cX11_quicker 30 = .ok (.invokevirtual 334, 3) := by decide +kernel
theorem dX11_quicker_33 : decode cX11_quicker 33 = .ok (.istore 5, 2) := by decide +kernel
theorem dX11_quicker_35 : decode cX11_quicker 35 = .ok (.aload_n 0, 1) := by decide +kernel
theorem dX11_quicker_36 : decode cX11_quicker 36 = .ok (.iload_n 1, 1) := by decide +kernel
theorem dX11_quicker_37 : decode cX11_quicker 37 = .ok (.iload_n 2, 1) := by decide +kernel
theorem dX11_quicker_38 : decode cX11_quicker 38 = .ok (.iload 4, 2) := by decide +kernel
theorem dX11_quicker_40 : decode cX11_quicker 40 = .ok (.invokevirtual 334, 3) := by decide +kernel
theorem dX11_quicker_43 : decode cX11_quicker 43 = .ok (.istore 6, 2) := by decide +kernel
theorem dX11_quicker_45 : decode cX11_quicker 45 = .ok (.iload 6, 2) := by decide +kernel
theorem dX11_quicker_47 : decode cX11_quicker 47 = .ok (.bipush (-2), 2) := by decide +kernel
theorem dX11_quicker_49 : decode cX11_quicker 49 = .ok (.if_icmp .ne 5, 3) := by decide +kernel
theorem dX11_quicker_52 : decode cX11_quicker 52 = .ok (.iconst 0, 1) := by decide +kernel
theorem dX11_quicker_53 : decode cX11_quicker 53 = .ok (.ireturn, 1) := by decide +kernel
theorem dX11_quicker_54 : decode cX11_quicker 54 = .ok (.iload 5, 2) := by decide +kernel
theorem dX11_quicker_56 : decode cX11_quicker 56 = .ok (.bipush (-2), 2) := by decide +kernel
theorem dX11_quicker_58 : decode cX11_quicker 58 = .ok (.if_icmp .eq 10, 3) := by decide +kernel
theorem dX11_quicker_61 : decode cX11_quicker 61 = .ok (.iload 6, 2) := by decide +kernel
theorem dX11_quicker_63 : decode cX11_quicker 63 = .ok (.iload 5, 2) := by decide +kernel
theorem dX11_quicker_65 : decode cX11_quicker 65 = .ok (.if_icmp .ge 7, 3) := by decide +kernel
theorem dX11_quicker_68 : decode cX11_quicker 68 = .ok (.iconst 1, 1) := by decide +kernel
theorem dX11_quicker_69 : decode cX11_quicker 69 = .ok (.goto 4, 3) := by decide +kernel
theorem dX11_quicker_72 : decode cX11_quicker 72 = .ok (.iconst 0, 1) := by decide +kernel
theorem dX11_quicker_73 : decode cX11_quicker 73 = .ok (.ireturn, 1) := by decide +kernel
def f_X11_quicker (M : MM) (p1 : Int) (p2 : Int) (p3 : Int) (p4 : Int) : Option (Int × MM) :=
(f_X11_canBeWarm M p1 p2).bind fun x1 =>
if x1 = 0 then
(some ((-1), M))
else
(f_X11_isSet M p3).bind fun x3 =>
if x3 = 0 then
(some ((-1), M))
else
(f_X11_isSet M p4).bind fun x5 =>
if x5 = 0 then
(some ((-1), M))
else
(f_X11_hoursTillWarm M p1 p2 p3).bind fun x7 =>
(f_X11_hoursTillWarm x7.2 p1 p2 p4).bind fun x8 =>
if x8.1 = (-2) then
(some (0, x8.2))
else
if x7.1 = (-2) then
(some (1, x8.2))
else
if x8.1 < x7.1 then
(some (1, x8.2))
else
some (0, x8.2)
set_option maxRecDepth 4000 in
theorem c_X11_quicker {E : EE} {sh : List (Nat × Nat)} {R : RM} {M : MM} {p1 : Int} {p2 : Int} {p3 : Int} {p4 : Int} (hE : Ext sh) (hL : Links R) : ∀ y, f_X11_quicker M p1 p2 p3 p4 = some y → MetC E m_X11_quicker 0 0 [rV 0, iV p1, iV p2, iV p3, iV p4] (sh, false, R, M) (fun r w' => r = some (iV y.1) ∧ w' = (sh, false, R, y.2)) := by
  intro y hy
  refine MetC.seg (o := f_X11_quicker M p1 p2 p3 p4) (t := (fun K y => K (some (iV y.1)) (sh, false, R, y.2))) (L := [some (rV 0), some (iV p1), some (iV p2), some (iV p3), some (iV p4), none, none]) (by decide) rfl (Nat.le_of_ble_eq_true rfl) ?_ hy ⟨rfl, rfl⟩
  unfold f_X11_quicker
  refine Seg.step (pc' := 1) (I_aload_n (i := 0) dX11_quicker_0 rfl rfl) ?_
  refine Seg.step (pc' := 2) (I_iload_n (i := 1) dX11_quicker_1 rfl rfl) ?_
  refine Seg.step (pc' := 3) (I_iload_n (i := 2) dX11_quicker_2 rfl rfl) ?_
  refine S_callV2 (md' := m_X11_canBeWarm) (fun y => some (iV y)) (fun y => (sh, false, R, M)) (hE _ _ sk_11) ⟨by decide, rfl⟩ mm_X11_canBeWarm wm_11_330 ⟨rfl, rfl, by decide, by decide, by decide, by decide⟩ (Nat.le_of_ble_eq_true rfl) dX11_quicker_3 (fun y hy => c_X11_canBeWarm hE hL y hy) (fun x1 => ?_)
  refine S_if_eq (tgt := 24) dX11_quicker_6 (by decide) (fun h2 => ?_) (fun h2 => ?_)
  · refine Seg.step (pc' := 25) (I_iconst dX11_quicker_24 ⟨by decide, by decide⟩) ?_
    exact S_iret dX11_quicker_25 rfl (by decide) (by decide) (fun K hK => hK)
  refine Seg.step (pc' := 10) (I_iload_n (i := 3) dX11_quicker_9 rfl rfl) ?_
  refine S_callS1 (md' := m_X11_isSet) (fun y => some (iV y)) (fun y => (sh, false, R, M)) mm_X11_isSet wm_11_257 ⟨rfl, rfl, by decide, by decide, by decide, by decide⟩ (Nat.le_of_ble_eq_true rfl) dX11_quicker_10 (fun y hy => c_X11_isSet hE hL y hy) (fun x3 => ?_)
  refine S_if_eq (tgt := 24) dX11_quicker_13 (by decide) (fun h4 => ?_) (fun h4 => ?_)
  · refine Seg.step (pc' := 25) (I_iconst dX11_quicker_24 ⟨by decide, by decide⟩) ?_
    exact S_iret dX11_quicker_25 rfl (by decide) (by decide) (fun K hK => hK)
  refine Seg.step (pc' := 18) (I_iload dX11_quicker_16 rfl) ?_
  refine S_callS1 (md' := m_X11_isSet) (fun y => some (iV y)) (fun y => (sh, false, R, M)) mm_X11_isSet wm_11_257 ⟨rfl, rfl, by decide, by decide, by decide, by decide⟩ (Nat.le_of_ble_eq_true rfl) dX11_quicker_18 (fun y hy => c_X11_isSet hE hL y hy) (fun x5 => ?_)
  refine S_if_ne (tgt := 26) dX11_quicker_21 (by decide) (fun h6 => ?_) (fun h6 => ?_)
  · refine Seg.step (pc' := 25) (I_iconst dX11_quicker_24 ⟨by decide, by decide⟩) ?_
    exact S_iret dX11_quicker_25 rfl (by decide) (by decide) (fun K hK => hK)
  refine Seg.step (pc' := 27) (I_aload_n (i := 0) dX11_quicker_26 rfl rfl) ?_
  refine Seg.step (pc' := 28) (I_iload_n (i := 1) dX11_quicker_27 rfl rfl) ?_
  refine Seg.step (pc' := 29) (I_iload_n (i := 2) dX11_quicker_28 rfl rfl) ?_
  refine Seg.step (pc' := 30) (I_iload_n (i := 3) dX11_quicker_29 rfl rfl) ?_
  refine S_callV3 (md' := m_X11_hoursTillWarm) (fun y => some (iV y.1)) (fun y => (sh, false, R, y.2)) (hE _ _ sk_11) ⟨by decide, rfl⟩ mm_X11_hoursTillWarm wm_11_334 ⟨rfl, rfl, by decide, by decide, by decide, by decide⟩ (Nat.le_of_ble_eq_true rfl) dX11_quicker_30 (fun y hy => c_X11_hoursTillWarm hE hL y hy) (fun x7 => ?_)
  refine Seg.step (pc' := 35) (I_istore dX11_quicker_33 (by decide) rfl) ?_
  refine Seg.step (pc' := 36) (I_aload_n (i := 0) dX11_quicker_35 rfl rfl) ?_
  refine Seg.step (pc' := 37) (I_iload_n (i := 1) dX11_quicker_36 rfl rfl) ?_
  refine Seg.step (pc' := 38) (I_iload_n (i := 2) dX11_quicker_37 rfl rfl) ?_
  refine Seg.step (pc' := 40) (I_iload dX11_quicker_38 rfl) ?_
  refine S_callV3 (md' := m_X11_hoursTillWarm) (fun y => some (iV y.1)) (fun y => (sh, false, R, y.2)) (hE _ _ sk_11) ⟨by decide, rfl⟩ mm_X11_hoursTillWarm wm_11_334 ⟨rfl, rfl, by decide, by decide, by decide, by decide⟩ (Nat.le_of_ble_eq_true rfl) dX11_quicker_40 (fun y hy => c_X11_hoursTillWarm hE hL y hy) (fun x8 => ?_)
  refine Seg.step (pc' := 45) (I_istore dX11_quicker_43 (by decide) rfl) ?_
  refine Seg.step (pc' := 47) (I_iload dX11_quicker_45 rfl) ?_
  refine Seg.step (pc' := 49) (I_bipush dX11_quicker_47 (by decide) ⟨by decide, by decide⟩) ?_
  refine S_icmp_ne (tgt := 54) dX11_quicker_49 (by decide) (fun h9 => ?_) (fun h9 => ?_)
  · refine Seg.step (pc' := 53) (I_iconst dX11_quicker_52 ⟨by decide, by decide⟩) ?_
    exact S_iret dX11_quicker_53 rfl (by decide) (by decide) (fun K hK => hK)
  refine Seg.step (pc' := 56) (I_iload dX11_quicker_54 rfl) ?_
  refine Seg.step (pc' := 58) (I_bipush dX11_quicker_56 (by decide) ⟨by decide, by decide⟩) ?_
  refine S_icmp_eq (tgt := 68) dX11_quicker_58 (by decide) (fun h10 => ?_) (fun h10 => ?_)
  · refine Seg.step (pc' := 69) (I_iconst dX11_quicker_68 ⟨by decide, by decide⟩) ?_
    refine Seg.step (pc' := 73) (I_goto (tgt := 73) dX11_quicker_69 (by decide)) ?_
    exact S_iret dX11_quicker_73 rfl (by decide) (by decide) (fun K hK => hK)
  refine Seg.step (pc' := 63) (I_iload dX11_quicker_61 rfl) ?_
  refine Seg.step (pc' := 65) (I_iload dX11_quicker_63 rfl) ?_
  refine S_icmp_ge (tgt := 72) dX11_quicker_65 (by decide) (fun h11 => ?_) (fun h11 => ?_)
  · refine Seg.step (pc' := 69) (I_iconst dX11_quicker_68 ⟨by decide, by decide⟩) ?_
    refine Seg.step (pc' := 73) (I_goto (tgt := 73) dX11_quicker_69 (by decide)) ?_
    exact S_iret dX11_quicker_73 rfl (by decide) (by decide) (fun K hK => hK)
  refine Seg.step (pc' := 73) (I_iconst dX11_quicker_72 ⟨by decide, by decide⟩) ?_
  exact S_iret dX11_quicker_73 rfl (by decide) (by decide) (fun K hK => hK)
theorem dX11_best_0 : decode cX11_best 0 = .ok (.iload_n 1, 1) := by decide +kernel
theorem dX11_best_1 : decode cX11_best 1 = .ok (.iconst 1, 1) := by decide +kernel
theorem dX11_best_2 : decode cX11_best 2 = .ok (.bipush 99, 2) := by decide +kernel
theorem dX11_best_4 : decode cX11_best 4 = .ok (.invokestatic 139, 3) := by decide +kernel
theorem dX11_best_7 : decode cX11_best 7 = .ok (.ifCond .eq 12, 3) := by decide +kernel
theorem dX11_best_10 : decode cX11_best 10 = .ok (.iload_n 2, 1) := by decide +kernel
theorem dX11_best_11 : decode cX11_best 11 = .ok (.iconst 0, 1) := by decide +kernel
theorem dX11_best_12 : decode cX11_best 12 = .ok (.iconst 1, 1) := by decide +kernel
theorem dX11_best_13 : decode cX11_best 13 = .ok (.invokestatic 139, 3) := by decide +kernel
theorem dX11_best_16 : decode cX11_best 16 = .ok (.ifCond .ne 5, 3) := by decide +kernel
theorem dX11_best_19 : decode cX11_best 19 = .ok (.iconst (-1), 1) := by decide +kernel
theorem dX11_best_20 : decode cX11_best 20 = .ok (.ireturn, 1) := by decide +kernel
theorem dX11_best_21 : decode cX11_best 21 = .ok (.iconst (-1), 1) := by decide +kernel
theorem dX11_best_22 : decode cX11_best 22 = .ok (.istore_n 3, 1) := by decide +kernel
theorem dX11_best_23 : decode cX11_best 23 = .ok (.iconst 0, 1) := by decide +kernel
theorem dX11_best_24 : decode cX11_best 24 = .ok (.istore 4, 2) := by decide +kernel
theorem dX11_best_26 : decode cX11_best 26 = .ok (.iconst 5, 1) := by decide +kernel
theorem dX11_best_27 : decode cX11_best 27 = .ok (.istore 5, 2) := by decide +kernel
theorem dX11_best_29 : decode cX11_best 29 = .ok (.iload 5, 2) := by decide +kernel
theorem dX11_best_31 : decode cX11_best 31 = .ok (.bipush 30, 2) := by decide +kernel
theorem dX11_best_33 : decode cX11_best 33 = .ok (.if_icmp .gt 51, 3) := by decide +kernel
theorem dX11_best_36 : decode cX11_best 36 = .ok (.aload_n 0, 1) := by decide +kernel
theorem dX11_best_37 : decode cX11_best 37 = .ok (.iload 5, 2) := by decide +kernel
theorem dX11_best_39 : decode cX11_best 39 = .ok (.invokevirtual 321, 3) := by decide +kernel
theorem dX11_best_42 : decode cX11_best 42 = .ok (.aload_n 0, 1) := by decide +kernel
theorem dX11_best_43 : decode cX11_best 43 = .ok (.getfield 46, 3) := by decide +kernel
theorem dX11_best_46 : decode cX11_best 46 = .ok (.iload_n 1, 1) := by decide +kernel
theorem dX11_best_47 : decode cX11_best 47 = .ok (.invokevirtual 264, 3) := by decide +kernel
theorem dX11_best_50 : decode cX11_best 50 = .ok (.aload_n 0, 1) := by decide +kernel
theorem dX11_best_51 : decode cX11_best 51 = .ok (.getfield 46, 3) := by decide +kernel
theorem dX11_best_54 : decode cX11_best 54 = .ok (.invokevirtual 250, 3) := by decide +kernel
theorem dX11_best_57 : decode cX11_best 57 = .ok (.istore 6, 2) := by decide +kernel
theorem dX11_best_59 : decode cX11_best 59 = .ok (.iload_n 3, 1) := by decide +kernel
theorem dX11_best_60 : decode cX11_best 60 = .ok (.iconst (-1), 1) := by decide +kernel
theorem dX11_best_61 : decode cX11_best 61 = .ok (.if_icmp .eq 10, 3) := by decide +kernel
theorem dX11_best_64 : decode cX11_best 64 = .ok (.iload 6, 2) := by decide +kernel
theorem dX11_best_66 : decode cX11_best 66 = .ok (.iload 4, 2) := by decide +kernel
theorem dX11_best_68 : decode cX11_best 68 = .ok (.if_icmp .ge 10, 3) := by decide +kernel
theorem dX11_best_71 : decode cX11_best 71 = .ok (.iload 5, 2) := by decide +kernel
theorem dX11_best_73 : decode cX11_best 73 = .ok (.istore_n 3, 1) := by decide +kernel
theorem dX11_best_74 : decode cX11_best 74 = .ok (.iload 6, 2) := by decide +kernel
theorem dX11_best_76 : decode cX11_best 76 = .ok (.istore 4, 2) := by decide +kernel
theorem dX11_best_78 : decode cX11_best 78 = .ok (.iinc 5 1, 3) := by decide +kernel
theorem dX11_best_81 : decode cX11_best 81 = .ok (.goto (-52), 3) := by decide +kernel
theorem dX11_best_84 : decode cX11_best 84 = .ok (.iload_n 2, 1) := by decide +kernel
theorem dX11_best_85 : decode cX11_best 85 = .ok (.ifCond .ne 7, 3) := by decide +kernel
theorem dX11_best_88 : decode cX11_best 88 = .ok (.iload_n 3, 1) := by decide +kernel
theorem dX11_best_89 : decode cX11_best 89 = .ok (.goto 5, 3) := by decide +kernel
theorem dX11_best_92 : decode cX11_best 92 = .ok (.iload 4, 2) := by decide +kernel
theorem dX11_best_94 : decode cX11_best 94 = .ok (.ireturn, 1) := by decide +kernel
def f_X11_best (M : MM) (p1 : Int) (p2 : Int) : Option (Int × MM) :=
(f_X11_isWithin M p1 1 99).bind fun x1 =>
if x1 = 0 then
(some ((-1), M))
else
(f_X11_isWithin M p2 0 1).bind fun x3 =>
if x3 = 0 then
(some ((-1), M))
else
(lp (X := Int × Int × Int × MM) (Y := Int × Int × MM) (fun x5 =>
if 30 < x5.2.2.1 then
(some (Sum.inr (x5.1, x5.2.1, x5.2.2.2)))
else
(f_X11_tryTurnedBy x5.2.2.2 x5.2.2.1).bind fun x7 =>
(f_X0_run x7 70 p1).bind fun x8 =>
(f_X0_crossOfAll x8 70).bind fun x9 =>
((if x5.1 = (-1) then
(some (x5.2.2.1, x9))
else
if x9 < x5.2.1 then
(some (x5.2.2.1, x9))
else
some (x5.1, x5.2.1)) : Option (Int × Int)).bind fun x12 =>
some (Sum.inl (x12.1, x12.2, w32 (x5.2.2.1 + 1), x8))) FU ((-1), 0, 5, M)).bind fun x13 =>
if p2 = 0 then
(some (x13.1, x13.2.2))
else
some (x13.2.1, x13.2.2)
set_option maxRecDepth 4000 in
theorem c_X11_best {E : EE} {sh : List (Nat × Nat)} {R : RM} {M : MM} {p1 : Int} {p2 : Int} (hE : Ext sh) (hL : Links R) : ∀ y, f_X11_best M p1 p2 = some y → MetC E m_X11_best 0 0 [rV 0, iV p1, iV p2] (sh, false, R, M) (fun r w' => r = some (iV y.1) ∧ w' = (sh, false, R, y.2)) := by
  intro y hy
  refine MetC.seg (o := f_X11_best M p1 p2) (t := (fun K y => K (some (iV y.1)) (sh, false, R, y.2))) (L := [some (rV 0), some (iV p1), some (iV p2), none, none, none, none]) (by decide) rfl (Nat.le_of_ble_eq_true rfl) ?_ hy ⟨rfl, rfl⟩
  unfold f_X11_best
  refine Seg.step (pc' := 1) (I_iload_n (i := 1) dX11_best_0 rfl rfl) ?_
  refine Seg.step (pc' := 2) (I_iconst dX11_best_1 ⟨by decide, by decide⟩) ?_
  refine Seg.step (pc' := 4) (I_bipush dX11_best_2 (by decide) ⟨by decide, by decide⟩) ?_
  refine S_callS3 (md' := m_X11_isWithin) (fun y => some (iV y)) (fun y => (sh, false, R, M)) mm_X11_isWithin wm_11_139 ⟨rfl, rfl, by decide, by decide, by decide, by decide⟩ (Nat.le_of_ble_eq_true rfl) dX11_best_4 (fun y hy => c_X11_isWithin hE hL y hy) (fun x1 => ?_)
  refine S_if_eq (tgt := 19) dX11_best_7 (by decide) (fun h2 => ?_) (fun h2 => ?_)
  · refine Seg.step (pc' := 20) (I_iconst dX11_best_19 ⟨by decide, by decide⟩) ?_
    exact S_iret dX11_best_20 rfl (by decide) (by decide) (fun K hK => hK)
  refine Seg.step (pc' := 11) (I_iload_n (i := 2) dX11_best_10 rfl rfl) ?_
  refine Seg.step (pc' := 12) (I_iconst dX11_best_11 ⟨by decide, by decide⟩) ?_
  refine Seg.step (pc' := 13) (I_iconst dX11_best_12 ⟨by decide, by decide⟩) ?_
  refine S_callS3 (md' := m_X11_isWithin) (fun y => some (iV y)) (fun y => (sh, false, R, M)) mm_X11_isWithin wm_11_139 ⟨rfl, rfl, by decide, by decide, by decide, by decide⟩ (Nat.le_of_ble_eq_true rfl) dX11_best_13 (fun y hy => c_X11_isWithin hE hL y hy) (fun x3 => ?_)
  refine S_if_ne (tgt := 21) dX11_best_16 (by decide) (fun h4 => ?_) (fun h4 => ?_)
  · refine Seg.step (pc' := 20) (I_iconst dX11_best_19 ⟨by decide, by decide⟩) ?_
    exact S_iret dX11_best_20 rfl (by decide) (by decide) (fun K hK => hK)
  refine Seg.step (pc' := 22) (I_iconst dX11_best_21 ⟨by decide, by decide⟩) ?_
  refine Seg.step (pc' := 23) (I_istore_n (i := 3) dX11_best_22 rfl (by decide) rfl) ?_
  refine Seg.step (pc' := 24) (I_iconst dX11_best_23 ⟨by decide, by decide⟩) ?_
  refine Seg.step (pc' := 26) (I_istore dX11_best_24 (by decide) rfl) ?_
  refine Seg.step (pc' := 27) (I_iconst dX11_best_26 ⟨by decide, by decide⟩) ?_
  refine Seg.step (pc' := 29) (I_istore dX11_best_27 (by decide) rfl) ?_
  refine Seg.forget (Lle.ye (Lle.ye (Lle.ye (Lle.ye (Lle.ye (Lle.ye (Lle.no (Lle.nil)))))))) ?_
  refine S_bind (Y := Int × Int × MM) (k' := 0) (n' := 0) 84 (fun y => [none, none, some (iV p2), some (iV y.1), some (iV y.2.1), none, none]) (fun y => []) (fun y => (sh, false, R, y.2.2)) (S_loop (Y := Int × Int × Int × MM) (fun y => [some (rV 0), some (iV p1), some (iV p2), some (iV y.1), some (iV y.2.1), some (iV y.2.2.1), none]) (fun y => []) (fun y => (sh, false, R, y.2.2.2)) (fun x5 => ?_) FU ((-1), 0, 5, M)) (fun x13 => ?_)
  · refine Seg.step (pc' := 31) (I_iload dX11_best_29 rfl) ?_
    refine Seg.step (pc' := 33) (I_bipush dX11_best_31 (by decide) ⟨by decide, by decide⟩) ?_
    refine S_icmp_gt (tgt := 84) dX11_best_33 (by decide) (fun h6 => ?_) (fun h6 => ?_)
    · exact S_arr (fun K hK => GG.forget (Lle.no (Lle.no (Lle.ye (Lle.ye (Lle.ye (Lle.no (Lle.no (Lle.nil)))))))) hK)
    refine Seg.step (pc' := 37) (I_aload_n (i := 0) dX11_best_36 rfl rfl) ?_
    refine Seg.step (pc' := 39) (I_iload dX11_best_37 rfl) ?_
    refine S_callV1 (md' := m_X11_tryTurnedBy) (fun y => none) (fun y => (sh, false, R, y)) (hE _ _ sk_11) ⟨by decide, rfl⟩ mm_X11_tryTurnedBy wm_11_321 ⟨rfl, rfl, by decide, by decide, by decide, by decide⟩ (Nat.le_of_ble_eq_true rfl) dX11_best_39 (fun y hy => c_X11_tryTurnedBy hE hL y hy) (fun x7 => ?_)
    refine Seg.step (pc' := 43) (I_aload_n (i := 0) dX11_best_42 rfl rfl) ?_
    refine Seg.step (pc' := 46) (I_getR cls11 (by decide) wf_11_46 (hE _ _ sk_11) rfl (lk_11_8 hL) dX11_best_43) ?_
    refine Seg.step (pc' := 47) (I_iload_n (i := 1) dX11_best_46 rfl rfl) ?_
    refine S_callV1 (md' := m_X0_run) (fun y => none) (fun y => (sh, false, R, y)) (hE _ _ sk_11_8) ⟨by decide, rfl⟩ mm_X0_run wm_11_264 ⟨rfl, rfl, by decide, by decide, by decide, by decide⟩ (Nat.le_of_ble_eq_true rfl) dX11_best_47 (fun y hy => c_X0_run hE hL sk_11_8 y hy) (fun x8 => ?_)
    refine Seg.step (pc' := 51) (I_aload_n (i := 0) dX11_best_50 rfl rfl) ?_
    refine Seg.step (pc' := 54) (I_getR cls11 (by decide) wf_11_46 (hE _ _ sk_11) rfl (lk_11_8 hL) dX11_best_51) ?_
    refine S_callV0 (md' := m_X0_crossOfAll) (fun y => some (iV y)) (fun y => (sh, false, R, x8)) (hE _ _ sk_11_8) ⟨by decide, rfl⟩ mm_X0_crossOfAll wm_11_250 ⟨rfl, rfl, by decide, by decide, by decide, by decide⟩ (Nat.le_of_ble_eq_true rfl) dX11_best_54 (fun y hy => c_X0_crossOfAll hE hL sk_11_8 y hy) (fun x9 => ?_)
    refine Seg.step (pc' := 59) (I_istore dX11_best_57 (by decide) rfl) ?_
    refine Seg.step (pc' := 60) (I_iload_n (i := 3) dX11_best_59 rfl rfl) ?_
    refine Seg.step (pc' := 61) (I_iconst dX11_best_60 ⟨by decide, by decide⟩) ?_
    refine S_bind (Y := Int × Int) (k' := 0) (n' := 0) 78 (fun y => [some (rV 0), some (iV p1), some (iV p2), some (iV y.1), some (iV y.2), some (iV x5.2.2.1), none]) (fun y => []) (fun y => (sh, false, R, x8)) ?_ (fun x12 => ?_)
    · refine S_icmp_eq (tgt := 71) dX11_best_61 (by decide) (fun h10 => ?_) (fun h10 => ?_)
      · refine Seg.step (pc' := 73) (I_iload dX11_best_71 rfl) ?_
        refine Seg.step (pc' := 74) (I_istore_n (i := 3) dX11_best_73 rfl (by decide) rfl) ?_
        refine Seg.step (pc' := 76) (I_iload dX11_best_74 rfl) ?_
        refine Seg.step (pc' := 78) (I_istore dX11_best_76 (by decide) rfl) ?_
        exact S_arr (fun K hK => GG.forget (Lle.ye (Lle.ye (Lle.ye (Lle.ye (Lle.ye (Lle.ye (Lle.no (Lle.nil)))))))) hK)
      refine Seg.step (pc' := 66) (I_iload dX11_best_64 rfl) ?_
      refine Seg.step (pc' := 68) (I_iload dX11_best_66 rfl) ?_
      refine S_icmp_ge (tgt := 78) dX11_best_68 (by decide) (fun h11 => ?_) (fun h11 => ?_)
      · refine Seg.step (pc' := 73) (I_iload dX11_best_71 rfl) ?_
        refine Seg.step (pc' := 74) (I_istore_n (i := 3) dX11_best_73 rfl (by decide) rfl) ?_
        refine Seg.step (pc' := 76) (I_iload dX11_best_74 rfl) ?_
        refine Seg.step (pc' := 78) (I_istore dX11_best_76 (by decide) rfl) ?_
        exact S_arr (fun K hK => GG.forget (Lle.ye (Lle.ye (Lle.ye (Lle.ye (Lle.ye (Lle.ye (Lle.no (Lle.nil)))))))) hK)
      exact S_arr (fun K hK => GG.forget (Lle.ye (Lle.ye (Lle.ye (Lle.ye (Lle.ye (Lle.ye (Lle.no (Lle.nil)))))))) hK)
    refine Seg.step (pc' := 81) (I_iinc dX11_best_78 rfl (by decide) rfl) ?_
    refine Seg.step (pc' := 29) (I_goto (tgt := 29) dX11_best_81 (by decide)) ?_
    exact S_arr (fun K hK => GG.forget (Lle.ye (Lle.ye (Lle.ye (Lle.ye (Lle.ye (Lle.ye (Lle.no (Lle.nil)))))))) hK)
  refine Seg.step (pc' := 85) (I_iload_n (i := 2) dX11_best_84 rfl rfl) ?_
  refine S_if_ne (tgt := 92) dX11_best_85 (by decide) (fun h14 => ?_) (fun h14 => ?_)
  · refine Seg.step (pc' := 89) (I_iload_n (i := 3) dX11_best_88 rfl rfl) ?_
    refine Seg.step (pc' := 94) (I_goto (tgt := 94) dX11_best_89 (by decide)) ?_
    exact S_iret dX11_best_94 rfl (by decide) (by decide) (fun K hK => hK)
  refine Seg.step (pc' := 94) (I_iload dX11_best_92 rfl) ?_
  exact S_iret dX11_best_94 rfl (by decide) (by decide) (fun K hK => hK)
theorem dX11_cheap_0 : decode cX11_cheap 0 = .ok (.iload_n 1, 1) := by decide +kernel
theorem dX11_cheap_1 : decode cX11_cheap 1 = .ok (.iconst 1, 1) := by decide +kernel
theorem dX11_cheap_2 : decode cX11_cheap 2 = .ok (.bipush 99, 2) := by decide +kernel
theorem dX11_cheap_4 : decode cX11_cheap 4 = .ok (.invokestatic 139, 3) := by decide +kernel
theorem dX11_cheap_7 : decode cX11_cheap 7 = .ok (.ifCond .eq 14, 3) := by decide +kernel
theorem dX11_cheap_10 : decode cX11_cheap 10 = .ok (.iload_n 2, 1) := by decide +kernel
theorem dX11_cheap_11 : decode cX11_cheap 11 = .ok (.iconst 0, 1) := by decide +kernel
theorem dX11_cheap_12 : decode cX11_cheap 12 = .ok (.ldc_w 338, 3) := by decide +kernel
theorem dX11_cheap_15 : decode cX11_cheap 15 = .ok (.invokestatic 139, 3) := by decide +kernel
theorem dX11_cheap_18 : decode cX11_cheap 18 = .ok (.ifCond .ne 5, 3) := by decide +kernel
theorem dX11_cheap_21 : decode cX11_cheap 21 = .ok (.iconst (-1), 1) := by decide +kernel
theorem dX11_cheap_22 : decode cX11_cheap 22 = .ok (.ireturn, 1) := by decide +kernel
theorem dX11_cheap_23 : decode cX11_cheap 23 = .ok (.bipush (-2), 2) := by decide +kernel
theorem dX11_cheap_25 : decode cX11_cheap 25 = .ok (.istore_n 3, 1) := by decide +kernel
theorem dX11_cheap_26 : decode cX11_cheap 26 = .ok (.iconst 0, 1) := by decide +kernel
theorem dX11_cheap_27 : decode cX11_cheap 27 = .ok (.istore 4, 2) := by decide +kernel
theorem dX11_cheap_29 : decode cX11_cheap 29 = .ok (.iconst 5, 1) := by decide +kernel
theorem dX11_cheap_30 : decode cX11_cheap 30 = .ok (.istore 5, 2) := by decide +kernel
theorem dX11_cheap_32 : decode cX11_cheap 32 = .ok (.iload 5, 2) := by decide +kernel
theorem dX11_cheap_34 : decode cX11_cheap 34 = .ok (.bipush 30, 2) := by decide +kernel
theorem dX11_cheap_36 : decode cX11_cheap 36 = .ok (.if_icmp .gt 76, 3) := by decide +kernel
theorem dX11_cheap_39 : decode cX11_cheap 39 = .ok (.aload_n 0, 1) := by decide +kernel
theorem dX11_cheap_40 : decode cX11_cheap 40 = .ok (.iload 5, 2) := by decide +kernel
theorem dX11_cheap_42 : decode cX11_cheap 42 = .ok (.invokevirtual 321, 3) := by decide +kernel
theorem dX11_cheap_45 : decode cX11_cheap 45 = .ok (.aload_n 0, 1) := by decide +kernel
theorem dX11_cheap_46 : decode cX11_cheap 46 = .ok (.getfield 46, 3) := by decide +kernel
theorem dX11_cheap_49 : decode cX11_cheap 49 = .ok (.iload_n 1, 1) := by decide +kernel
theorem dX11_cheap_50 : decode cX11_cheap 50 = .ok (.invokevirtual 264, 3) := by decide +kernel
theorem dX11_cheap_53 : decode cX11_cheap 53 = .ok (.aload_n 0, 1) := by decide +kernel
theorem dX11_cheap_54 : decode cX11_cheap 54 = .ok (.getfield 46, 3) := by decide +kernel
theorem dX11_cheap_57 : decode cX11_cheap 57 = .ok (.invokevirtual 250, 3) := by decide +kernel
theorem dX11_cheap_60 : decode cX11_cheap 60 = .ok (.iload_n 2, 1) := by decide +kernel
theorem dX11_cheap_61 : decode cX11_cheap 61 = .ok (.if_icmp .gt 7, 3) := by decide +kernel
theorem dX11_cheap_64 : decode cX11_cheap 64 = .ok (.iconst 1, 1) := by decide +kernel
theorem dX11_cheap_65 : decode cX11_cheap 65 = .ok (.goto 4, 3) := by decide +kernel
theorem dX11_cheap_68 : decode cX11_cheap 68 = .ok (.iconst 0, 1) := by decide +kernel
theorem dX11_cheap_69 : decode cX11_cheap 69 = .ok (.istore 6, 2) := by decide +kernel
theorem dX11_cheap_71 : decode cX11_cheap 71 = .ok (.iload 6, 2) := by decide +kernel
theorem dX11_cheap_73 : decode cX11_cheap 73 = .ok (.ifCond .eq 33, 3) := by decide +kernel
theorem dX11_cheap_76 : decode cX11_cheap 76 = .ok (.iload_n 3, 1) := by decide +kernel
theorem dX11_cheap_77 : decode cX11_cheap 77 = .ok (.bipush (-2), 2) := by decide +kernel
theorem dX11_cheap_79 : decode cX11_cheap 79 = .ok (.if_icmp .eq 15, 3) := by decide +kernel
theorem dX11_cheap_82 : decode cX11_cheap 82 = .ok (.aload_n 0, 1) := by decide +kernel
theorem dX11_cheap_83 : decode cX11_cheap 83 = .ok (.getfield 46, 3) := by decide +kernel
theorem dX11_cheap_86 : decode cX11_cheap 86 = .ok (.getfield 238, 3) := by decide +kernel
theorem dX11_cheap_89 : decode cX11_cheap 89 = .ok (.iload 4, 2) := by decide +kernel
theorem dX11_cheap_91 : decode cX11_cheap 91 = .ok (.if_icmp .ge 15, 3) := by decide +kernel
theorem dX11_cheap_94 : decode cX11_cheap 94 = .ok (.iload 5, 2) := by decide +kernel
theorem dX11_cheap_96 : decode cX11_cheap 96 = .ok (.istore_n 3, 1) := by decide +kernel
theorem dX11_cheap_97 : decode cX11_cheap 97 = .ok (.aload_n 0, 1) := by decide +kernel
theorem dX11_cheap_98 : decode cX11_cheap 98 = .ok (.getfield 46, 3) := by decide +kernel
theorem dX11_cheap_101 : decode cX11_cheap 101 = .ok (.getfield 238, 3) := by decide +kernel
theorem dX11_cheap_104 : decode cX11_cheap 104 = .ok (.istore 4, 2) := by decide +kernel
theorem dX11_cheap_106 : decode cX11_cheap 106 = .ok (.iinc 5 1, 3) := by decide +kernel
theorem dX11_cheap_109 : decode cX11_cheap 109 = .ok (.goto (-77), 3) := by decide +kernel
theorem dX11_cheap_112 : decode cX11_cheap 112 = .ok (.iload_n 3, 1) := by decide +kernel
theorem dX11_cheap_113 : decode cX11_cheap 113 = .ok (.ireturn, 1) := by decide +kernel
def f_X11_cheap (M : MM) (p1 : Int) (p2 : Int) : Option (Int × MM) :=
(f_X11_isWithin M p1 1 99).bind fun x1 =>
if x1 = 0 then
(some ((-1), M))
else
(f_X11_isWithin M p2 0 99999).bind fun x3 =>
if x3 = 0 then
(some ((-1), M))
else
lp (X := Int × Int × Int × MM) (Y := Int × MM) (fun x5 =>
if 30 < x5.2.2.1 then
(some (Sum.inr (x5.1, x5.2.2.2)))
else
(f_X11_tryTurnedBy x5.2.2.2 x5.2.2.1).bind fun x7 =>
(f_X0_run x7 70 p1).bind fun x8 =>
(f_X0_crossOfAll x8 70).bind fun x9 =>
((if p2 < x9 then
(some 0)
else
some 1) : Option (Int)).bind fun x11 =>
((if x11 = 0 then
(some (x5.1, x5.2.1))
else
if x5.1 = (-2) then
(bI (x8 70 13) fun x14 =>
some (x5.2.2.1, x14))
else
if (x8 70 13) < x5.2.1 then
(bI (x8 70 13) fun x16 =>
some (x5.2.2.1, x16))
else
some (x5.1, x5.2.1)) : Option (Int × Int)).bind fun x17 =>
some (Sum.inl (x17.1, x17.2, w32 (x5.2.2.1 + 1), x8))) FU ((-2), 0, 5, M)
set_option maxRecDepth 4000 in
theorem c_X11_cheap {E : EE} {sh : List (Nat × Nat)} {R : RM} {M : MM} {p1 : Int} {p2 : Int} (hE : Ext sh) (hL : Links R) : ∀ y, f_X11_cheap M p1 p2 = some y → MetC E m_X11_cheap 0 0 [rV 0, iV p1, iV p2] (sh, false, R, M) (fun r w' => r = some (iV y.1) ∧ w' = (sh, false, R, y.2)) := by
  intro y hy
  refine MetC.seg (o := f_X11_cheap M p1 p2) (t := (fun K y => K (some (iV y.1)) (sh, false, R, y.2))) (L := [some (rV 0), some (iV p1), some (iV p2), none, none, none, none]) (by decide) rfl (Nat.le_of_ble_eq_true rfl) ?_ hy ⟨rfl, rfl⟩
  unfold f_X11_cheap
  refine Seg.step (pc' := 1) (I_iload_n (i := 1) dX11_cheap_0 rfl rfl) ?_
  refine Seg.step (pc' := 2) (I_iconst dX11_cheap_1 ⟨by decide, by decide⟩) ?_
  refine Seg.step (pc' := 4) (I_bipush dX11_cheap_2 (by decide) ⟨by decide, by decide⟩) ?_
  refine S_callS3 (md' := m_X11_isWithin) (fun y => some (iV y)) (fun y => (sh, false, R, M)) mm_X11_isWithin wm_11_139 ⟨rfl, rfl, by decide, by decide, by decide, by decide⟩ (Nat.le_of_ble_eq_true rfl) dX11_cheap_4 (fun y hy => c_X11_isWithin hE hL y hy) (fun x1 => ?_)
  refine S_if_eq (tgt := 21) dX11_cheap_7 (by decide) (fun h2 => ?_) (fun h2 => ?_)
  · refine Seg.step (pc' := 22) (I_iconst dX11_cheap_21 ⟨by decide, by decide⟩) ?_
    exact S_iret dX11_cheap_22 rfl (by decide) (by decide) (fun K hK => hK)
  refine Seg.step (pc' := 11) (I_iload_n (i := 2) dX11_cheap_10 rfl rfl) ?_
  refine Seg.step (pc' := 12) (I_iconst dX11_cheap_11 ⟨by decide, by decide⟩) ?_
  refine Seg.step (pc' := 15) (I_ldcw (z := 99999) dX11_cheap_12 wk_11_338 ⟨by decide, by decide⟩) ?_
  refine S_callS3 (md' := m_X11_isWithin) (fun y => some (iV y)) (fun y => (sh, false, R, M)) mm_X11_isWithin wm_11_139 ⟨rfl, rfl, by decide, by decide, by decide, by decide⟩ (Nat.le_of_ble_eq_true rfl) dX11_cheap_15 (fun y hy => c_X11_isWithin hE hL y hy) (fun x3 => ?_)
  refine S_if_ne (tgt := 23) dX11_cheap_18 (by decide) (fun h4 => ?_) (fun h4 => ?_)
  · refine Seg.step (pc' := 22) (I_iconst dX11_cheap_21 ⟨by decide, by decide⟩) ?_
    exact S_iret dX11_cheap_22 rfl (by decide) (by decide) (fun K hK => hK)
  refine Seg.step (pc' := 25) (I_bipush dX11_cheap_23 (by decide) ⟨by decide, by decide⟩) ?_
  refine Seg.step (pc' := 26) (I_istore_n (i := 3) dX11_cheap_25 rfl (by decide) rfl) ?_
  refine Seg.step (pc' := 27) (I_iconst dX11_cheap_26 ⟨by decide, by decide⟩) ?_
  refine Seg.step (pc' := 29) (I_istore dX11_cheap_27 (by decide) rfl) ?_
  refine Seg.step (pc' := 30) (I_iconst dX11_cheap_29 ⟨by decide, by decide⟩) ?_
  refine Seg.step (pc' := 32) (I_istore dX11_cheap_30 (by decide) rfl) ?_
  refine Seg.forget (Lle.ye (Lle.ye (Lle.ye (Lle.ye (Lle.ye (Lle.ye (Lle.no (Lle.nil)))))))) ?_
  refine S_loop (Y := Int × Int × Int × MM) (fun y => [some (rV 0), some (iV p1), some (iV p2), some (iV y.1), some (iV y.2.1), some (iV y.2.2.1), none]) (fun y => []) (fun y => (sh, false, R, y.2.2.2)) (fun x5 => ?_) FU ((-2), 0, 5, M)
  refine Seg.step (pc' := 34) (I_iload dX11_cheap_32 rfl) ?_
  refine Seg.step (pc' := 36) (I_bipush dX11_cheap_34 (by decide) ⟨by decide, by decide⟩) ?_
  refine S_icmp_gt (tgt := 112) dX11_cheap_36 (by decide) (fun h6 => ?_) (fun h6 => ?_)
  · refine Seg.step (pc' := 113) (I_iload_n (i := 3) dX11_cheap_112 rfl rfl) ?_
    exact S_iret dX11_cheap_113 rfl (by decide) (by decide) (fun K hK => hK)
  refine Seg.step (pc' := 40) (I_aload_n (i := 0) dX11_cheap_39 rfl rfl) ?_
  refine Seg.step (pc' := 42) (I_iload dX11_cheap_40 rfl) ?_
  refine S_callV1 (md' := m_X11_tryTurnedBy) (fun y => none) (fun y => (sh, false, R, y)) (hE _ _ sk_11) ⟨by decide, rfl⟩ mm_X11_tryTurnedBy wm_11_321 ⟨rfl, rfl, by decide, by decide, by decide, by decide⟩ (Nat.le_of_ble_eq_true rfl) dX11_cheap_42 (fun y hy => c_X11_tryTurnedBy hE hL y hy) (fun x7 => ?_)
  refine Seg.step (pc' := 46) (I_aload_n (i := 0) dX11_cheap_45 rfl rfl) ?_
  refine Seg.step (pc' := 49) (I_getR cls11 (by decide) wf_11_46 (hE _ _ sk_11) rfl (lk_11_8 hL) dX11_cheap_46) ?_
  refine Seg.step (pc' := 50) (I_iload_n (i := 1) dX11_cheap_49 rfl rfl) ?_
  refine S_callV1 (md' := m_X0_run) (fun y => none) (fun y => (sh, false, R, y)) (hE _ _ sk_11_8) ⟨by decide, rfl⟩ mm_X0_run wm_11_264 ⟨rfl, rfl, by decide, by decide, by decide, by decide⟩ (Nat.le_of_ble_eq_true rfl) dX11_cheap_50 (fun y hy => c_X0_run hE hL sk_11_8 y hy) (fun x8 => ?_)
  refine Seg.step (pc' := 54) (I_aload_n (i := 0) dX11_cheap_53 rfl rfl) ?_
  refine Seg.step (pc' := 57) (I_getR cls11 (by decide) wf_11_46 (hE _ _ sk_11) rfl (lk_11_8 hL) dX11_cheap_54) ?_
  refine S_callV0 (md' := m_X0_crossOfAll) (fun y => some (iV y)) (fun y => (sh, false, R, x8)) (hE _ _ sk_11_8) ⟨by decide, rfl⟩ mm_X0_crossOfAll wm_11_250 ⟨rfl, rfl, by decide, by decide, by decide, by decide⟩ (Nat.le_of_ble_eq_true rfl) dX11_cheap_57 (fun y hy => c_X0_crossOfAll hE hL sk_11_8 y hy) (fun x9 => ?_)
  refine Seg.step (pc' := 61) (I_iload_n (i := 2) dX11_cheap_60 rfl rfl) ?_
  refine S_bind (Y := Int) (k' := 0) (n' := 0) 69 (fun y => [some (rV 0), some (iV p1), some (iV p2), some (iV x5.1), some (iV x5.2.1), some (iV x5.2.2.1), none]) (fun y => [iV y]) (fun y => (sh, false, R, x8)) ?_ (fun x11 => ?_)
  · refine S_icmp_gt (tgt := 68) dX11_cheap_61 (by decide) (fun h10 => ?_) (fun h10 => ?_)
    · refine Seg.step (pc' := 69) (I_iconst dX11_cheap_68 ⟨by decide, by decide⟩) ?_
      exact S_arr (fun K hK => GG.forget (Lle.ye (Lle.ye (Lle.ye (Lle.ye (Lle.ye (Lle.ye (Lle.no (Lle.nil)))))))) hK)
    refine Seg.step (pc' := 65) (I_iconst dX11_cheap_64 ⟨by decide, by decide⟩) ?_
    refine Seg.step (pc' := 69) (I_goto (tgt := 69) dX11_cheap_65 (by decide)) ?_
    exact S_arr (fun K hK => GG.forget (Lle.ye (Lle.ye (Lle.ye (Lle.ye (Lle.ye (Lle.ye (Lle.no (Lle.nil)))))))) hK)
  refine Seg.step (pc' := 71) (I_istore dX11_cheap_69 (by decide) rfl) ?_
  refine Seg.step (pc' := 73) (I_iload dX11_cheap_71 rfl) ?_
  refine S_bind (Y := Int × Int) (k' := 0) (n' := 0) 106 (fun y => [some (rV 0), some (iV p1), some (iV p2), some (iV y.1), some (iV y.2), some (iV x5.2.2.1), none]) (fun y => []) (fun y => (sh, false, R, x8)) ?_ (fun x17 => ?_)
  · refine S_if_eq (tgt := 106) dX11_cheap_73 (by decide) (fun h12 => ?_) (fun h12 => ?_)
    · exact S_arr (fun K hK => GG.forget (Lle.ye (Lle.ye (Lle.ye (Lle.ye (Lle.ye (Lle.ye (Lle.no (Lle.nil)))))))) hK)
    refine Seg.step (pc' := 77) (I_iload_n (i := 3) dX11_cheap_76 rfl rfl) ?_
    refine Seg.step (pc' := 79) (I_bipush dX11_cheap_77 (by decide) ⟨by decide, by decide⟩) ?_
    refine S_icmp_eq (tgt := 94) dX11_cheap_79 (by decide) (fun h13 => ?_) (fun h13 => ?_)
    · refine Seg.step (pc' := 96) (I_iload dX11_cheap_94 rfl) ?_
      refine Seg.step (pc' := 97) (I_istore_n (i := 3) dX11_cheap_96 rfl (by decide) rfl) ?_
      refine Seg.step (pc' := 98) (I_aload_n (i := 0) dX11_cheap_97 rfl rfl) ?_
      refine Seg.step (pc' := 101) (I_getR cls11 (by decide) wf_11_46 (hE _ _ sk_11) rfl (lk_11_8 hL) dX11_cheap_98) ?_
      refine Seg.step (pc' := 104) (I_getI cls0 (by decide) wf_11_238 (hE _ _ sk_11_8) rfl dX11_cheap_101) ?_
      refine S_bI fun x14 => ?_
      refine Seg.step (pc' := 106) (I_istore dX11_cheap_104 (by decide) rfl) ?_
      exact S_arr (fun K hK => GG.forget (Lle.ye (Lle.ye (Lle.ye (Lle.ye (Lle.ye (Lle.ye (Lle.no (Lle.nil)))))))) hK)
    refine Seg.step (pc' := 83) (I_aload_n (i := 0) dX11_cheap_82 rfl rfl) ?_
    refine Seg.step (pc' := 86) (I_getR cls11 (by decide) wf_11_46 (hE _ _ sk_11) rfl (lk_11_8 hL) dX11_cheap_83) ?_
    refine Seg.step (pc' := 89) (I_getI cls0 (by decide) wf_11_238 (hE _ _ sk_11_8) rfl dX11_cheap_86) ?_
    refine Seg.step (pc' := 91) (I_iload dX11_cheap_89 rfl) ?_
    refine S_icmp_ge (tgt := 106) dX11_cheap_91 (by decide) (fun h15 => ?_) (fun h15 => ?_)
    · refine Seg.step (pc' := 96) (I_iload dX11_cheap_94 rfl) ?_
      refine Seg.step (pc' := 97) (I_istore_n (i := 3) dX11_cheap_96 rfl (by decide) rfl) ?_
      refine Seg.step (pc' := 98) (I_aload_n (i := 0) dX11_cheap_97 rfl rfl) ?_
      refine Seg.step (pc' := 101) (I_getR cls11 (by decide) wf_11_46 (hE _ _ sk_11) rfl (lk_11_8 hL) dX11_cheap_98) ?_
      refine Seg.step (pc' := 104) (I_getI cls0 (by decide) wf_11_238 (hE _ _ sk_11_8) rfl dX11_cheap_101) ?_
      refine S_bI fun x16 => ?_
      refine Seg.step (pc' := 106) (I_istore dX11_cheap_104 (by decide) rfl) ?_
      exact S_arr (fun K hK => GG.forget (Lle.ye (Lle.ye (Lle.ye (Lle.ye (Lle.ye (Lle.ye (Lle.no (Lle.nil)))))))) hK)
    exact S_arr (fun K hK => GG.forget (Lle.ye (Lle.ye (Lle.ye (Lle.ye (Lle.ye (Lle.ye (Lle.no (Lle.nil)))))))) hK)
  refine Seg.step (pc' := 109) (I_iinc dX11_cheap_106 rfl (by decide) rfl) ?_
  refine Seg.step (pc' := 32) (I_goto (tgt := 32) dX11_cheap_109 (by decide)) ?_
  exact S_arr (fun K hK => GG.forget (Lle.ye (Lle.ye (Lle.ye (Lle.ye (Lle.ye (Lle.ye (Lle.no (Lle.nil)))))))) hK)
theorem dX11_hears_0 : decode cX11_hears 0 = .ok (.iload_n 1, 1) := by decide +kernel
theorem dX11_hears_1 : decode cX11_hears 1 = .ok (.iconst 1, 1) := by decide +kernel
theorem dX11_hears_2 : decode cX11_hears 2 = .ok (.bipush 99, 2) := by decide +kernel
theorem dX11_hears_4 : decode cX11_hears 4 = .ok (.invokestatic 139, 3) := by decide +kernel
theorem dX11_hears_7 : decode cX11_hears 7 = .ok (.ifCond .ne 5, 3) := by decide +kernel
theorem dX11_hears_10 : decode cX11_hears 10 = .ok (.iconst (-1), 1) := by decide +kernel
theorem dX11_hears_11 : decode cX11_hears 11 = .ok (.ireturn, 1) := by decide +kernel
theorem dX11_hears_12 : decode cX11_hears 12 = .ok (.iconst (-1), 1) := by decide +kernel
theorem dX11_hears_13 : decode cX11_hears 13 = .ok (.istore_n 2, 1) := by decide +kernel
theorem dX11_hears_14 : decode cX11_hears 14 = .ok (.iconst 0, 1) := by decide +kernel
theorem dX11_hears_15 : decode cX11_hears 15 = .ok (.istore_n 3, 1) := by decide +kernel
theorem dX11_hears_16 : decode cX11_hears 16 = .ok (.iconst 0, 1) := by decide +kernel
theorem dX11_hears_17 : decode cX11_hears 17 = .ok (.istore 4, 2) := by decide +kernel
theorem dX11_hears_19 : decode cX11_hears 19 = .ok (.iload 4, 2) := by decide +kernel
theorem dX11_hears_21 : decode cX11_hears 21 = .ok (.aload_n 0, 1) := by decide +kernel
theorem dX11_hears_22 : decode cX11_hears 22 = .ok (.getfield 27, 3) := by decide +kernel
theorem dX11_hears_25 : decode cX11_hears 25 = .ok (.getfield 112, 3) := by decide +kernel
theorem dX11_hears_28 : decode cX11_hears 28 = .ok (.getfield 122, 3) := by decide +kernel
theorem dX11_hears_31 : decode cX11_hears 31 = .ok (.if_icmp .ge 63, 3) := by decide +kernel
theorem dX11_hears_34 : decode cX11_hears 34 = .ok (.aload_n 0, 1) := by decide +kernel
theorem dX11_hears_35 : decode cX11_hears 35 = .ok (.aload_n 0, 1) := by decide +kernel
theorem dX11_hears_36 : decode cX11_hears 36 = .ok (.getfield 39, 3) := by decide +kernel
theorem dX11_hears_39 : decode cX11_hears 39 = .ok (.getfield 226, 3) := by decide +kernel
theorem dX11_hears_42 : decode cX11_hears 42 = .ok (.invokevirtual 321, 3) := by decide +kernel
theorem dX11_hears_45 : decode cX11_hears 45 = .ok (.aload_n 0, 1) := by decide +kernel
theorem dX11_hears_46 : decode cX11_hears 46 = .ok (.getfield 46, 3) := by decide +kernel
theorem dX11_hears_49 : decode cX11_hears 49 = .ok (.iload 4, 2) := by decide +kernel
theorem dX11_hears_51 : decode cX11_hears 51 = .ok (.putfield 229, 3) := by decide +kernel
theorem dX11_hears_54 : decode cX11_hears 54 = .ok (.aload_n 0, 1) := by decide +kernel
theorem dX11_hears_55 : decode cX11_hears 55 = .ok (.getfield 46, 3) := by decide +kernel
theorem dX11_hears_58 : decode cX11_hears 58 = .ok (.iload_n 1, 1) := by decide +kernel
theorem dX11_hears_59 : decode cX11_hears 59 = .ok (.invokevirtual 264, 3) := by decide +kernel
theorem dX11_hears_62 : decode cX11_hears 62 = .ok (.aload_n 0, 1) := by decide +kernel
theorem dX11_hears_63 : decode cX11_hears 63 = .ok (.getfield 46, 3) := by decide +kernel
theorem dX11_hears_66 : decode cX11_hears 66 = .ok (.invokevirtual 250, 3) := by decide +kernel
theorem dX11_hears_69 : decode cX11_hears 69 = .ok (.istore 5, 2) := by decide +kernel
theorem dX11_hears_71 : decode cX11_hears 71 = .ok (.iload_n 2, 1) := by decide +kernel
theorem dX11_hears_72 : decode cX11_hears 72 = .ok (.iconst (-1), 1) := by decide +kernel
theorem dX11_hears_73 : decode cX11_hears 73 = .ok (.if_icmp .eq 9, 3) := by decide +kernel
theorem dX11_hears_76 : decode cX11_hears 76 = .ok (.iload 5, 2) := by decide +kernel
theorem dX11_hears_78 : decode cX11_hears 78 = .ok (.iload_n 3, 1) := by decide +kernel
theorem dX11_hears_79 : decode cX11_hears 79 = .ok (.if_icmp .ge 9, 3) := by decide +kernel
theorem dX11_hears_82 : decode cX11_hears 82 = .ok (.iload 4, 2) := by decide +kernel
theorem dX11_hears_84 : decode cX11_hears 84 = .ok (.istore_n 2, 1) := by decide +kernel
theorem dX11_hears_85 : decode cX11_hears 85 = .ok (.iload 5, 2) := by decide +kernel
theorem dX11_hears_87 : decode cX11_hears 87 = .ok (.istore_n 3, 1) := by decide +kernel
theorem dX11_hears_88 : decode cX11_hears 88 = .ok (.iinc 4 1, 3) := by decide +kernel
theorem dX11_hears_91 : decode cX11_hears 91 = .ok (.goto (-72), 3) := by decide +kernel
theorem dX11_hears_94 : decode cX11_hears 94 = .ok (.iload_n 2, 1) := by decide +kernel
theorem dX11_hears_95 : decode cX11_hears 95 = .ok (.ireturn, 1) := by decide +kernel
def f_X11_hears (M : MM) (p1 : Int) : Option (Int × MM) :=
(f_X11_isWithin M p1 1 99).bind fun x1 =>
if x1 = 0 then
(some ((-1), M))
else
lp (X := Int × Int × Int × MM) (Y := Int × MM) (fun x3 =>
gH (x3.2.2.2 0 3) fun b4 =>
if x3.2.2.1 < (x3.2.2.2 (b4 + 1) 0) then
((f_X11_tryTurnedBy x3.2.2.2 (x3.2.2.2 54 3)).bind fun x6 =>
bM (upM x6 70 4 x3.2.2.1) fun M7 =>
(f_X0_run M7 70 p1).bind fun x8 =>
(f_X0_crossOfAll x8 70).bind fun x9 =>
((if x3.1 = (-1) then
(some (x3.2.2.1, x9))
else
if x9 < x3.2.1 then
(some (x3.2.2.1, x9))
else
some (x3.1, x3.2.1)) : Option (Int × Int)).bind fun x12 =>
some (Sum.inl (x12.1, x12.2, w32 (x3.2.2.1 + 1), x8)))
else
some (Sum.inr (x3.1, x3.2.2.2))) FU ((-1), 0, 0, M)
set_option maxRecDepth 4000 in
theorem c_X11_hears {E : EE} {sh : List (Nat × Nat)} {R : RM} {M : MM} {p1 : Int} (hE : Ext sh) (hL : Links R) : ∀ y, f_X11_hears M p1 = some y → MetC E m_X11_hears 0 0 [rV 0, iV p1] (sh, false, R, M) (fun r w' => r = some (iV y.1) ∧ w' = (sh, false, R, y.2)) := by
  intro y hy
  refine MetC.seg (o := f_X11_hears M p1) (t := (fun K y => K (some (iV y.1)) (sh, false, R, y.2))) (L := [some (rV 0), some (iV p1), none, none, none, none]) (by decide) rfl (Nat.le_of_ble_eq_true rfl) ?_ hy ⟨rfl, rfl⟩
  unfold f_X11_hears
  refine Seg.step (pc' := 1) (I_iload_n (i := 1) dX11_hears_0 rfl rfl) ?_
  refine Seg.step (pc' := 2) (I_iconst dX11_hears_1 ⟨by decide, by decide⟩) ?_
  refine Seg.step (pc' := 4) (I_bipush dX11_hears_2 (by decide) ⟨by decide, by decide⟩) ?_
  refine S_callS3 (md' := m_X11_isWithin) (fun y => some (iV y)) (fun y => (sh, false, R, M)) mm_X11_isWithin wm_11_139 ⟨rfl, rfl, by decide, by decide, by decide, by decide⟩ (Nat.le_of_ble_eq_true rfl) dX11_hears_4 (fun y hy => c_X11_isWithin hE hL y hy) (fun x1 => ?_)
  refine S_if_ne (tgt := 12) dX11_hears_7 (by decide) (fun h2 => ?_) (fun h2 => ?_)
  · refine Seg.step (pc' := 11) (I_iconst dX11_hears_10 ⟨by decide, by decide⟩) ?_
    exact S_iret dX11_hears_11 rfl (by decide) (by decide) (fun K hK => hK)
  refine Seg.step (pc' := 13) (I_iconst dX11_hears_12 ⟨by decide, by decide⟩) ?_
  refine Seg.step (pc' := 14) (I_istore_n (i := 2) dX11_hears_13 rfl (by decide) rfl) ?_
  refine Seg.step (pc' := 15) (I_iconst dX11_hears_14 ⟨by decide, by decide⟩) ?_
  refine Seg.step (pc' := 16) (I_istore_n (i := 3) dX11_hears_15 rfl (by decide) rfl) ?_
  refine Seg.step (pc' := 17) (I_iconst dX11_hears_16 ⟨by decide, by decide⟩) ?_
  refine Seg.step (pc' := 19) (I_istore dX11_hears_17 (by decide) rfl) ?_
  refine Seg.forget (Lle.ye (Lle.ye (Lle.ye (Lle.ye (Lle.ye (Lle.no (Lle.nil))))))) ?_
  refine S_loop (Y := Int × Int × Int × MM) (fun y => [some (rV 0), some (iV p1), some (iV y.1), some (iV y.2.1), some (iV y.2.2.1), none]) (fun y => []) (fun y => (sh, false, R, y.2.2.2)) (fun x3 => ?_) FU ((-1), 0, 0, M)
  refine Seg.step (pc' := 21) (I_iload dX11_hears_19 rfl) ?_
  refine Seg.step (pc' := 22) (I_aload_n (i := 0) dX11_hears_21 rfl rfl) ?_
  refine S_gH fun b4 hb4 zb4 => ?_
  refine Seg.step (pc' := 25) (I_getH cls11 (by decide) wf_11_27 (hE _ _ sk_11) rfl zb4 (hkp hb4) dX11_hears_22) ?_
  refine Seg.step (pc' := 28) (I_getR cls2 (by decide) wf_11_112 (hE _ _ (hks hb4)) rfl (lk_2_0 hL (hks hb4)) dX11_hears_25) ?_
  refine Seg.step (pc' := 31) (I_getI cls8 (by decide) wf_11_122 (hE _ _ (sk_2_0 (hks hb4))) rfl dX11_hears_28) ?_
  refine S_icmp_ge (tgt := 94) dX11_hears_31 (by decide) (fun h5 => ?_) (fun h5 => ?_)
  · refine Seg.step (pc' := 35) (I_aload_n (i := 0) dX11_hears_34 rfl rfl) ?_
    refine Seg.step (pc' := 36) (I_aload_n (i := 0) dX11_hears_35 rfl rfl) ?_
    refine Seg.step (pc' := 39) (I_getR cls11 (by decide) wf_11_39 (hE _ _ sk_11) rfl (lk_11_5 hL) dX11_hears_36) ?_
    refine Seg.step (pc' := 42) (I_getI cls0 (by decide) wf_11_226 (hE _ _ sk_11_5) rfl dX11_hears_39) ?_
    refine S_callV1 (md' := m_X11_tryTurnedBy) (fun y => none) (fun y => (sh, false, R, y)) (hE _ _ sk_11) ⟨by decide, rfl⟩ mm_X11_tryTurnedBy wm_11_321 ⟨rfl, rfl, by decide, by decide, by decide, by decide⟩ (Nat.le_of_ble_eq_true rfl) dX11_hears_42 (fun y hy => c_X11_tryTurnedBy hE hL y hy) (fun x6 => ?_)
    refine Seg.step (pc' := 46) (I_aload_n (i := 0) dX11_hears_45 rfl rfl) ?_
    refine Seg.step (pc' := 49) (I_getR cls11 (by decide) wf_11_46 (hE _ _ sk_11) rfl (lk_11_8 hL) dX11_hears_46) ?_
    refine Seg.step (pc' := 51) (I_iload dX11_hears_49 rfl) ?_
    refine Seg.step (pc' := 54) (I_putI cls0 (by decide) wf_11_229 (hE _ _ sk_11_8) rfl rfl dX11_hears_51) ?_
    refine S_bM fun M7 => ?_
    refine Seg.step (pc' := 55) (I_aload_n (i := 0) dX11_hears_54 rfl rfl) ?_
    refine Seg.step (pc' := 58) (I_getR cls11 (by decide) wf_11_46 (hE _ _ sk_11) rfl (lk_11_8 hL) dX11_hears_55) ?_
    refine Seg.step (pc' := 59) (I_iload_n (i := 1) dX11_hears_58 rfl rfl) ?_
    refine S_callV1 (md' := m_X0_run) (fun y => none) (fun y => (sh, false, R, y)) (hE _ _ sk_11_8) ⟨by decide, rfl⟩ mm_X0_run wm_11_264 ⟨rfl, rfl, by decide, by decide, by decide, by decide⟩ (Nat.le_of_ble_eq_true rfl) dX11_hears_59 (fun y hy => c_X0_run hE hL sk_11_8 y hy) (fun x8 => ?_)
    refine Seg.step (pc' := 63) (I_aload_n (i := 0) dX11_hears_62 rfl rfl) ?_
    refine Seg.step (pc' := 66) (I_getR cls11 (by decide) wf_11_46 (hE _ _ sk_11) rfl (lk_11_8 hL) dX11_hears_63) ?_
    refine S_callV0 (md' := m_X0_crossOfAll) (fun y => some (iV y)) (fun y => (sh, false, R, x8)) (hE _ _ sk_11_8) ⟨by decide, rfl⟩ mm_X0_crossOfAll wm_11_250 ⟨rfl, rfl, by decide, by decide, by decide, by decide⟩ (Nat.le_of_ble_eq_true rfl) dX11_hears_66 (fun y hy => c_X0_crossOfAll hE hL sk_11_8 y hy) (fun x9 => ?_)
    refine Seg.step (pc' := 71) (I_istore dX11_hears_69 (by decide) rfl) ?_
    refine Seg.step (pc' := 72) (I_iload_n (i := 2) dX11_hears_71 rfl rfl) ?_
    refine Seg.step (pc' := 73) (I_iconst dX11_hears_72 ⟨by decide, by decide⟩) ?_
    refine S_bind (Y := Int × Int) (k' := 0) (n' := 0) 88 (fun y => [some (rV 0), some (iV p1), some (iV y.1), some (iV y.2), some (iV x3.2.2.1), none]) (fun y => []) (fun y => (sh, false, R, x8)) ?_ (fun x12 => ?_)
    · refine S_icmp_eq (tgt := 82) dX11_hears_73 (by decide) (fun h10 => ?_) (fun h10 => ?_)
      · refine Seg.step (pc' := 84) (I_iload dX11_hears_82 rfl) ?_
        refine Seg.step (pc' := 85) (I_istore_n (i := 2) dX11_hears_84 rfl (by decide) rfl) ?_
        refine Seg.step (pc' := 87) (I_iload dX11_hears_85 rfl) ?_
        refine Seg.step (pc' := 88) (I_istore_n (i := 3) dX11_hears_87 rfl (by decide) rfl) ?_
        exact S_arr (fun K hK => GG.forget (Lle.ye (Lle.ye (Lle.ye (Lle.ye (Lle.ye (Lle.no (Lle.nil))))))) hK)
      refine Seg.step (pc' := 78) (I_iload dX11_hears_76 rfl) ?_
      refine Seg.step (pc' := 79) (I_iload_n (i := 3) dX11_hears_78 rfl rfl) ?_
      refine S_icmp_ge (tgt := 88) dX11_hears_79 (by decide) (fun h11 => ?_) (fun h11 => ?_)
      · refine Seg.step (pc' := 84) (I_iload dX11_hears_82 rfl) ?_
        refine Seg.step (pc' := 85) (I_istore_n (i := 2) dX11_hears_84 rfl (by decide) rfl) ?_
        refine Seg.step (pc' := 87) (I_iload dX11_hears_85 rfl) ?_
        refine Seg.step (pc' := 88) (I_istore_n (i := 3) dX11_hears_87 rfl (by decide) rfl) ?_
        exact S_arr (fun K hK => GG.forget (Lle.ye (Lle.ye (Lle.ye (Lle.ye (Lle.ye (Lle.no (Lle.nil))))))) hK)
      exact S_arr (fun K hK => GG.forget (Lle.ye (Lle.ye (Lle.ye (Lle.ye (Lle.ye (Lle.no (Lle.nil))))))) hK)
    refine Seg.step (pc' := 91) (I_iinc dX11_hears_88 rfl (by decide) rfl) ?_
    refine Seg.step (pc' := 19) (I_goto (tgt := 19) dX11_hears_91 (by decide)) ?_
    exact S_arr (fun K hK => GG.forget (Lle.ye (Lle.ye (Lle.ye (Lle.ye (Lle.ye (Lle.no (Lle.nil))))))) hK)
  refine Seg.step (pc' := 95) (I_iload_n (i := 2) dX11_hears_94 rfl rfl) ?_
  exact S_iret dX11_hears_95 rfl (by decide) (by decide) (fun K hK => hK)
theorem dX11_onAgain_0 : decode cX11_onAgain 0 = .ok (.aload_n 0, 1) := by decide +kernel
theorem dX11_onAgain_1 : decode cX11_onAgain 1 = .ok (.iload_n 1, 1) := by decide +kernel
theorem dX11_onAgain_2 : decode cX11_onAgain 2 = .ok (.iload_n 2, 1) := by decide +kernel
theorem dX11_onAgain_3 : decode cX11_onAgain 3 = .ok (.invokevirtual 330, 3) := by decide +kernel
theorem dX11_onAgain_6 : decode cX11_onAgain 6 = .ok (.ifCond .eq 13, 3) := by decide +kernel
theorem dX11_onAgain_9 : decode cX11_onAgain 9 = .ok (.iload_n 3, 1) := by decide +kernel
theorem dX11_onAgain_10 : decode cX11_onAgain 10 = .ok (.iconst 0, 1) := by decide +kernel
theorem dX11_onAgain_11 : decode cX11_onAgain 11 = .ok (.bipush 99, 2) := by decide +kernel
theorem dX11_onAgain_13 : decode cX11_onAgain 13 = .ok (.invokestatic 139, 3) := by decide +kernel
theorem dX11_onAgain_16 : decode cX11_onAgain 16 = .ok (.ifCond .ne 5, 3) := by decide +kernel
theorem dX11_onAgain_19 : decode cX11_onAgain 19 = .ok (.iconst (-1), 1) := by decide +kernel
theorem dX11_onAgain_20 : decode cX11_onAgain 20 = .ok (.ireturn, 1) := by decide +kernel
theorem dX11_onAgain_21 : decode cX11_onAgain 21 = .ok (.iload_n 3, 1) := by decide +kernel
theorem dX11_onAgain_22 : decode cX11_onAgain 22 = .ok (.istore 4, 2) := by decide +kernel
theorem dX11_onAgain_24 : decode cX11_onAgain 24 = .ok (.iload 4, 2) := by decide +kernel
theorem dX11_onAgain_26 : decode cX11_onAgain 26 = .ok (.ifCond .lt 59, 3) := by decide +kernel
theorem dX11_onAgain_29 : decode cX11_onAgain 29 = .ok (.aload_n 0, 1) := by decide +kernel
theorem dX11_onAgain_30 : decode cX11_onAgain 30 = .ok (.iconst 5, 1) := by decide +kernel
theorem dX11_onAgain_31 : decode cX11_onAgain 31 = .ok (.invokevirtual 327, 3) := by decide +kernel
theorem dX11_onAgain_34 : decode cX11_onAgain 34 = .ok (.aload_n 0, 1) := by decide +kernel
theorem dX11_onAgain_35 : decode cX11_onAgain 35 = .ok (.getfield 46, 3) := by decide +kernel
theorem dX11_onAgain_38 : decode cX11_onAgain 38 = .ok (.iload 4, 2) := by decide +kernel
theorem dX11_onAgain_40 : decode cX11_onAgain 40 = .ok (.invokevirtual 264, 3) := by decide +kernel
theorem dX11_onAgain_43 : decode cX11_onAgain 43 = .ok (.aload_n 0, 1) := by decide +kernel
theorem dX11_onAgain_44 : decode cX11_onAgain 44 = .ok (.getfield 46, 3) := by decide +kernel
theorem dX11_onAgain_47 : decode cX11_onAgain 47 = .ok (.bipush 30, 2) := by decide +kernel
theorem dX11_onAgain_49 : decode cX11_onAgain 49 = .ok (.putfield 226, 3) := by decide +kernel
theorem dX11_onAgain_52 : decode cX11_onAgain 52 = .ok (.aload_n 0, 1) := by decide +kernel
theorem dX11_onAgain_53 : decode cX11_onAgain 53 = .ok (.getfield 46, 3) := by decide +kernel
theorem dX11_onAgain_56 : decode cX11_onAgain 56 = .ok (.iload_n 3, 1) := by decide +kernel
theorem dX11_onAgain_57 : decode cX11_onAgain 57 = .ok (.iload 4, 2) := by decide +kernel
theorem dX11_onAgain_59 : decode cX11_onAgain 59 = .ok (.isub, 1) := by decide +kernel
theorem dX11_onAgain_60 : decode cX11_onAgain 60 = .ok (.invokevirtual 264, 3) := by decide +kernel
theorem dX11_onAgain_63 : decode cX11_onAgain 63 = .ok (.aload_n 0, 1) := by decide +kernel
theorem dX11_onAgain_64 : decode cX11_onAgain 64 = .ok (.getfield 46, 3) := by decide +kernel
theorem dX11_onAgain_67 : decode cX11_onAgain 67 = .ok (.getfield 181, 3) := by decide +kernel
theorem dX11_onAgain_70 : decode cX11_onAgain 70 = .ok (.iload_n 1, 1) := by decide +kernel
theorem dX11_onAgain_71 : decode cX11_onAgain 71 = .ok (.iaload, 1) := by decide +kernel
theorem dX11_onAgain_72 : decode cX11_onAgain 72 = .ok (.iload_n 2, 1) := by decide +kernel
theorem dX11_onAgain_73 : decode cX11_onAgain 73 = .ok (.if_icmp .lt 6, 3) := by decide +kernel
theorem dX11_onAgain_76 : decode cX11_onAgain 76 = .ok (.iload 4, 2) := by decide +kernel
theorem dX11_onAgain_78 : decode cX11_onAgain 78 = .ok (.ireturn, 1) := by decide +kernel
theorem dX11_onAgain_79 : decode cX11_onAgain 79 = .ok (.iinc 4 (-1), 3) := by decide +kernel
theorem dX11_onAgain_82 : decode cX11_onAgain 82 = .ok (.goto (-58), 3) := by decide +kernel
theorem dX11_onAgain_85 : decode cX11_onAgain 85 = .ok (.bipush (-2), 2) := by decide +kernel
theorem dX11_onAgain_87 : decode cX11_onAgain 87 = .ok (.ireturn, 1) := by decide +kernel
def f_X11_onAgain (M : MM) (p1 : Int) (p2 : Int) (p3 : Int) : Option (Int × MM) :=
(f_X11_canBeWarm M p1 p2).bind fun x1 =>
if x1 = 0 then
(some ((-1), M))
else
(f_X11_isWithin M p3 0 99).bind fun x3 =>
if x3 = 0 then
(some ((-1), M))
else
lp (X := Int × MM) (Y := Int × MM) (fun x5 =>
if x5.1 < 0 then
(some (Sum.inr ((-2), x5.2)))
else
(f_X11_tryRoomsAlone x5.2 5).bind fun x7 =>
(f_X0_run x7 70 x5.1).bind fun x8 =>
bM (upM x8 70 3 30) fun M9 =>
(f_X0_run M9 70 (w32 (p3 - x5.1))).bind fun x10 =>
gd (0 ≤ p1 ∧ p1 < (30 : Int)) <|
if (x10 73 (p1).toNat) < p2 then
(some (Sum.inl (w32 (x5.1 + (-1)), x10)))
else
some (Sum.inr (x5.1, x10))) FU (p3, M)
set_option maxRecDepth 4000 in
theorem c_X11_onAgain {E : EE} {sh : List (Nat × Nat)} {R : RM} {M : MM} {p1 : Int} {p2 : Int} {p3 : Int} (hE : Ext sh) (hL : Links R) : ∀ y, f_X11_onAgain M p1 p2 p3 = some y → MetC E m_X11_onAgain 0 0 [rV 0, iV p1, iV p2, iV p3] (sh, false, R, M) (fun r w' => r = some (iV y.1) ∧ w' = (sh, false, R, y.2)) := by
  intro y hy
  refine MetC.seg (o := f_X11_onAgain M p1 p2 p3) (t := (fun K y => K (some (iV y.1)) (sh, false, R, y.2))) (L := [some (rV 0), some (iV p1), some (iV p2), some (iV p3), none]) (by decide) rfl (Nat.le_of_ble_eq_true rfl) ?_ hy ⟨rfl, rfl⟩
  unfold f_X11_onAgain
  refine Seg.step (pc' := 1) (I_aload_n (i := 0) dX11_onAgain_0 rfl rfl) ?_
  refine Seg.step (pc' := 2) (I_iload_n (i := 1) dX11_onAgain_1 rfl rfl) ?_
  refine Seg.step (pc' := 3) (I_iload_n (i := 2) dX11_onAgain_2 rfl rfl) ?_
  refine S_callV2 (md' := m_X11_canBeWarm) (fun y => some (iV y)) (fun y => (sh, false, R, M)) (hE _ _ sk_11) ⟨by decide, rfl⟩ mm_X11_canBeWarm wm_11_330 ⟨rfl, rfl, by decide, by decide, by decide, by decide⟩ (Nat.le_of_ble_eq_true rfl) dX11_onAgain_3 (fun y hy => c_X11_canBeWarm hE hL y hy) (fun x1 => ?_)
  refine S_if_eq (tgt := 19) dX11_onAgain_6 (by decide) (fun h2 => ?_) (fun h2 => ?_)
  · refine Seg.step (pc' := 20) (I_iconst dX11_onAgain_19 ⟨by decide, by decide⟩) ?_
    exact S_iret dX11_onAgain_20 rfl (by decide) (by decide) (fun K hK => hK)
  refine Seg.step (pc' := 10) (I_iload_n (i := 3) dX11_onAgain_9 rfl rfl) ?_
  refine Seg.step (pc' := 11) (I_iconst dX11_onAgain_10 ⟨by decide, by decide⟩) ?_
  refine Seg.step (pc' := 13) (I_bipush dX11_onAgain_11 (by decide) ⟨by decide, by decide⟩) ?_
  refine S_callS3 (md' := m_X11_isWithin) (fun y => some (iV y)) (fun y => (sh, false, R, M)) mm_X11_isWithin wm_11_139 ⟨rfl, rfl, by decide, by decide, by decide, by decide⟩ (Nat.le_of_ble_eq_true rfl) dX11_onAgain_13 (fun y hy => c_X11_isWithin hE hL y hy) (fun x3 => ?_)
  refine S_if_ne (tgt := 21) dX11_onAgain_16 (by decide) (fun h4 => ?_) (fun h4 => ?_)
  · refine Seg.step (pc' := 20) (I_iconst dX11_onAgain_19 ⟨by decide, by decide⟩) ?_
    exact S_iret dX11_onAgain_20 rfl (by decide) (by decide) (fun K hK => hK)
  refine Seg.step (pc' := 22) (I_iload_n (i := 3) dX11_onAgain_21 rfl rfl) ?_
  refine Seg.step (pc' := 24) (I_istore dX11_onAgain_22 (by decide) rfl) ?_
  refine Seg.forget (Lle.ye (Lle.ye (Lle.ye (Lle.ye (Lle.ye (Lle.nil)))))) ?_
  refine S_loop (Y := Int × MM) (fun y => [some (rV 0), some (iV p1), some (iV p2), some (iV p3), some (iV y.1)]) (fun y => []) (fun y => (sh, false, R, y.2)) (fun x5 => ?_) FU (p3, M)
  refine Seg.step (pc' := 26) (I_iload dX11_onAgain_24 rfl) ?_
  refine S_if_lt (tgt := 85) dX11_onAgain_26 (by decide) (fun h6 => ?_) (fun h6 => ?_)
  · refine Seg.step (pc' := 87) (I_bipush dX11_onAgain_85 (by decide) ⟨by decide, by decide⟩) ?_
    exact S_iret dX11_onAgain_87 rfl (by decide) (by decide) (fun K hK => hK)
  refine Seg.step (pc' := 30) (I_aload_n (i := 0) dX11_onAgain_29 rfl rfl) ?_
  refine Seg.step (pc' := 31) (I_iconst dX11_onAgain_30 ⟨by decide, by decide⟩) ?_
  refine S_callV1 (md' := m_X11_tryRoomsAlone) (fun y => none) (fun y => (sh, false, R, y)) (hE _ _ sk_11) ⟨by decide, rfl⟩ mm_X11_tryRoomsAlone wm_11_327 ⟨rfl, rfl, by decide, by decide, by decide, by decide⟩ (Nat.le_of_ble_eq_true rfl) dX11_onAgain_31 (fun y hy => c_X11_tryRoomsAlone hE hL y hy) (fun x7 => ?_)
  refine Seg.step (pc' := 35) (I_aload_n (i := 0) dX11_onAgain_34 rfl rfl) ?_
  refine Seg.step (pc' := 38) (I_getR cls11 (by decide) wf_11_46 (hE _ _ sk_11) rfl (lk_11_8 hL) dX11_onAgain_35) ?_
  refine Seg.step (pc' := 40) (I_iload dX11_onAgain_38 rfl) ?_
  refine S_callV1 (md' := m_X0_run) (fun y => none) (fun y => (sh, false, R, y)) (hE _ _ sk_11_8) ⟨by decide, rfl⟩ mm_X0_run wm_11_264 ⟨rfl, rfl, by decide, by decide, by decide, by decide⟩ (Nat.le_of_ble_eq_true rfl) dX11_onAgain_40 (fun y hy => c_X0_run hE hL sk_11_8 y hy) (fun x8 => ?_)
  refine Seg.step (pc' := 44) (I_aload_n (i := 0) dX11_onAgain_43 rfl rfl) ?_
  refine Seg.step (pc' := 47) (I_getR cls11 (by decide) wf_11_46 (hE _ _ sk_11) rfl (lk_11_8 hL) dX11_onAgain_44) ?_
  refine Seg.step (pc' := 49) (I_bipush dX11_onAgain_47 (by decide) ⟨by decide, by decide⟩) ?_
  refine Seg.step (pc' := 52) (I_putI cls0 (by decide) wf_11_226 (hE _ _ sk_11_8) rfl rfl dX11_onAgain_49) ?_
  refine S_bM fun M9 => ?_
  refine Seg.step (pc' := 53) (I_aload_n (i := 0) dX11_onAgain_52 rfl rfl) ?_
  refine Seg.step (pc' := 56) (I_getR cls11 (by decide) wf_11_46 (hE _ _ sk_11) rfl (lk_11_8 hL) dX11_onAgain_53) ?_
  refine Seg.step (pc' := 57) (I_iload_n (i := 3) dX11_onAgain_56 rfl rfl) ?_
  refine Seg.step (pc' := 59) (I_iload dX11_onAgain_57 rfl) ?_
  refine Seg.step (pc' := 60) (I_isub dX11_onAgain_59) ?_
  refine S_callV1 (md' := m_X0_run) (fun y => none) (fun y => (sh, false, R, y)) (hE _ _ sk_11_8) ⟨by decide, rfl⟩ mm_X0_run wm_11_264 ⟨rfl, rfl, by decide, by decide, by decide, by decide⟩ (Nat.le_of_ble_eq_true rfl) dX11_onAgain_60 (fun y hy => c_X0_run hE hL sk_11_8 y hy) (fun x10 => ?_)
  refine Seg.step (pc' := 64) (I_aload_n (i := 0) dX11_onAgain_63 rfl rfl) ?_
  refine Seg.step (pc' := 67) (I_getR cls11 (by decide) wf_11_46 (hE _ _ sk_11) rfl (lk_11_8 hL) dX11_onAgain_64) ?_
  refine Seg.step (pc' := 70) (I_getR cls0 (by decide) wf_11_181 (hE _ _ sk_11_8) rfl (lk_0_8 hL sk_11_8) dX11_onAgain_67) ?_
  refine Seg.step (pc' := 71) (I_iload_n (i := 1) dX11_onAgain_70 rfl rfl) ?_
  refine S_gd fun h11 => ?_
  refine Seg.step (pc' := 72) (I_iald (hE _ _ (sk_0_8 sk_11_8)) h11 dX11_onAgain_71) ?_
  refine Seg.step (pc' := 73) (I_iload_n (i := 2) dX11_onAgain_72 rfl rfl) ?_
  refine S_icmp_lt (tgt := 79) dX11_onAgain_73 (by decide) (fun h12 => ?_) (fun h12 => ?_)
  · refine Seg.step (pc' := 82) (I_iinc dX11_onAgain_79 rfl (by decide) rfl) ?_
    refine Seg.step (pc' := 24) (I_goto (tgt := 24) dX11_onAgain_82 (by decide)) ?_
    exact S_arr (fun K hK => GG.forget (Lle.ye (Lle.ye (Lle.ye (Lle.ye (Lle.ye (Lle.nil)))))) hK)
  refine Seg.step (pc' := 78) (I_iload dX11_onAgain_76 rfl) ?_
  exact S_iret dX11_onAgain_78 rfl (by decide) (by decide) (fun K hK => hK)
theorem dX11_paidBy_0 : decode cX11_paidBy 0 = .ok (.aload_n 0, 1) := by decide +kernel
theorem dX11_paidBy_1 : decode cX11_paidBy 1 = .ok (.iload_n 1, 1) := by decide +kernel
theorem dX11_paidBy_2 : decode cX11_paidBy 2 = .ok (.invokevirtual 327, 3) := by decide +kernel
theorem dX11_paidBy_5 : decode cX11_paidBy 5 = .ok (.aload_n 0, 1) := by decide +kernel
theorem dX11_paidBy_6 : decode cX11_paidBy 6 = .ok (.getfield 46, 3) := by decide +kernel
theorem dX11_paidBy_9 : decode cX11_paidBy 9 = .ok (.iload_n 2, 1) := by decide +kernel
theorem dX11_paidBy_10 : decode cX11_paidBy 10 = .ok (.invokevirtual 264, 3) := by decide +kernel
theorem dX11_paidBy_13 : decode cX11_paidBy 13 = .ok (.aload_n 0, 1) := by decide +kernel
theorem dX11_paidBy_14 : decode cX11_paidBy 14 = .ok (.getfield 46, 3) := by decide +kernel
theorem dX11_paidBy_17 : decode cX11_paidBy 17 = .ok (.getfield 238, 3) := by decide +kernel
theorem dX11_paidBy_20 : decode cX11_paidBy 20 = .ok (.ireturn, 1) := by decide +kernel
def f_X11_paidBy (M : MM) (p1 : Int) (p2 : Int) : Option (Int × MM) :=
(f_X11_tryRoomsAlone M p1).bind fun x1 =>
(f_X0_run x1 70 p2).bind fun x2 =>
some (x2 70 13, x2)
set_option maxRecDepth 4000 in
theorem c_X11_paidBy {E : EE} {sh : List (Nat × Nat)} {R : RM} {M : MM} {p1 : Int} {p2 : Int} (hE : Ext sh) (hL : Links R) : ∀ y, f_X11_paidBy M p1 p2 = some y → MetC E m_X11_paidBy 0 0 [rV 0, iV p1, iV p2] (sh, false, R, M) (fun r w' => r = some (iV y.1) ∧ w' = (sh, false, R, y.2)) := by
  intro y hy
  refine MetC.seg (o := f_X11_paidBy M p1 p2) (t := (fun K y => K (some (iV y.1)) (sh, false, R, y.2))) (L := [some (rV 0), some (iV p1), some (iV p2)]) (by decide) rfl (Nat.le_of_ble_eq_true rfl) ?_ hy ⟨rfl, rfl⟩
  unfold f_X11_paidBy
  refine Seg.step (pc' := 1) (I_aload_n (i := 0) dX11_paidBy_0 rfl rfl) ?_
  refine Seg.step (pc' := 2) (I_iload_n (i := 1) dX11_paidBy_1 rfl rfl) ?_
  refine S_callV1 (md' := m_X11_tryRoomsAlone) (fun y => none) (fun y => (sh, false, R, y)) (hE _ _ sk_11) ⟨by decide, rfl⟩ mm_X11_tryRoomsAlone wm_11_327 ⟨rfl, rfl, by decide, by decide, by decide, by decide⟩ (Nat.le_of_ble_eq_true rfl) dX11_paidBy_2 (fun y hy => c_X11_tryRoomsAlone hE hL y hy) (fun x1 => ?_)
  refine Seg.step (pc' := 6) (I_aload_n (i := 0) dX11_paidBy_5 rfl rfl) ?_
  refine Seg.step (pc' := 9) (I_getR cls11 (by decide) wf_11_46 (hE _ _ sk_11) rfl (lk_11_8 hL) dX11_paidBy_6) ?_
  refine Seg.step (pc' := 10) (I_iload_n (i := 2) dX11_paidBy_9 rfl rfl) ?_
  refine S_callV1 (md' := m_X0_run) (fun y => none) (fun y => (sh, false, R, y)) (hE _ _ sk_11_8) ⟨by decide, rfl⟩ mm_X0_run wm_11_264 ⟨rfl, rfl, by decide, by decide, by decide, by decide⟩ (Nat.le_of_ble_eq_true rfl) dX11_paidBy_10 (fun y hy => c_X0_run hE hL sk_11_8 y hy) (fun x2 => ?_)
  refine Seg.step (pc' := 14) (I_aload_n (i := 0) dX11_paidBy_13 rfl rfl) ?_
  refine Seg.step (pc' := 17) (I_getR cls11 (by decide) wf_11_46 (hE _ _ sk_11) rfl (lk_11_8 hL) dX11_paidBy_14) ?_
  refine Seg.step (pc' := 20) (I_getI cls0 (by decide) wf_11_238 (hE _ _ sk_11_8) rfl dX11_paidBy_17) ?_
  exact S_iret dX11_paidBy_20 rfl (by decide) (by decide) (fun K hK => hK)
theorem dX11_night_0 : decode cX11_night 0 = .ok (.iload_n 1, 1) := by decide +kernel
theorem dX11_night_1 : decode cX11_night 1 = .ok (.iconst 1, 1) := by decide +kernel
theorem dX11_night_2 : decode cX11_night 2 = .ok (.bipush 7, 2) := by decide +kernel
theorem dX11_night_4 : decode cX11_night 4 = .ok (.invokestatic 139, 3) := by decide +kernel
theorem dX11_night_7 : decode cX11_night 7 = .ok (.ifCond .ne 7, 3) := by decide +kernel
theorem dX11_night_10 : decode cX11_night 10 = .ok (.ldc_w 341, 3) := by decide +kernel
theorem dX11_night_13 : decode cX11_night 13 = .ok (.ireturn, 1) := by decide +kernel
theorem dX11_night_14 : decode cX11_night 14 = .ok (.aload_n 0, 1) := by decide +kernel
theorem dX11_night_15 : decode cX11_night 15 = .ok (.aload_n 0, 1) := by decide +kernel
theorem dX11_night_16 : decode cX11_night 16 = .ok (.getfield 39, 3) := by decide +kernel
theorem dX11_night_19 : decode cX11_night 19 = .ok (.getfield 226, 3) := by decide +kernel
theorem dX11_night_22 : decode cX11_night 22 = .ok (.iload_n 1, 1) := by decide +kernel
theorem dX11_night_23 : decode cX11_night 23 = .ok (.bipush 24, 2) := by decide +kernel
theorem dX11_night_25 : decode cX11_night 25 = .ok (.imul, 1) := by decide +kernel
theorem dX11_night_26 : decode cX11_night 26 = .ok (.invokevirtual 342, 3) := by decide +kernel
theorem dX11_night_29 : decode cX11_night 29 = .ok (.istore_n 2, 1) := by decide +kernel
theorem dX11_night_30 : decode cX11_night 30 = .ok (.aload_n 0, 1) := by decide +kernel
theorem dX11_night_31 : decode cX11_night 31 = .ok (.aload_n 0, 1) := by decide +kernel
theorem dX11_night_32 : decode cX11_night 32 = .ok (.getfield 39, 3) := by decide +kernel
theorem dX11_night_35 : decode cX11_night 35 = .ok (.getfield 226, 3) := by decide +kernel
theorem dX11_night_38 : decode cX11_night 38 = .ok (.invokevirtual 327, 3) := by decide +kernel
theorem dX11_night_41 : decode cX11_night 41 = .ok (.iconst 0, 1) := by decide +kernel
theorem dX11_night_42 : decode cX11_night 42 = .ok (.istore_n 3, 1) := by decide +kernel
theorem dX11_night_43 : decode cX11_night 43 = .ok (.iload_n 3, 1) := by decide +kernel
theorem dX11_night_44 : decode cX11_night 44 = .ok (.iload_n 1, 1) := by decide +kernel
theorem dX11_night_45 : decode cX11_night 45 = .ok (.bipush 24, 2) := by decide +kernel
theorem dX11_night_47 : decode cX11_night 47 = .ok (.imul, 1) := by decide +kernel
theorem dX11_night_48 : decode cX11_night 48 = .ok (.if_icmp .ge 60, 3) := by decide +kernel
theorem dX11_night_51 : decode cX11_night 51 = .ok (.aload_n 0, 1) := by decide +kernel
theorem dX11_night_52 : decode cX11_night 52 = .ok (.getfield 46, 3) := by decide +kernel
theorem dX11_night_55 : decode cX11_night 55 = .ok (.getfield 190, 3) := by decide +kernel
theorem dX11_night_58 : decode cX11_night 58 = .ok (.bipush 24, 2) := by decide +kernel
theorem dX11_night_60 : decode cX11_night 60 = .ok (.irem, 1) := by decide +kernel
theorem dX11_night_61 : decode cX11_night 61 = .ok (.istore 4, 2) := by decide +kernel
theorem dX11_night_63 : decode cX11_night 63 = .ok (.aload_n 0, 1) := by decide +kernel
theorem dX11_night_64 : decode cX11_night 64 = .ok (.getfield 46, 3) := by decide +kernel
theorem dX11_night_67 : decode cX11_night 67 = .ok (.iload 4, 2) := by decide +kernel
theorem dX11_night_69 : decode cX11_night 69 = .ok (.bipush 22, 2) := by decide +kernel
theorem dX11_night_71 : decode cX11_night 71 = .ok (.if_icmp .ge 9, 3) := by decide +kernel
theorem dX11_night_74 : decode cX11_night 74 = .ok (.iload 4, 2) := by decide +kernel
theorem dX11_night_76 : decode cX11_night 76 = .ok (.iconst 5, 1) := by decide +kernel
theorem dX11_night_77 : decode cX11_night 77 = .ok (.if_icmp .gt 7, 3) := by decide +kernel
theorem dX11_night_80 : decode cX11_night 80 = .ok (.iconst 5, 1) := by decide +kernel
theorem dX11_night_81 : decode cX11_night 81 = .ok (.goto 10, 3) := by decide +kernel
theorem dX11_night_84 : decode cX11_night 84 = .ok (.aload_n 0, 1) := by decide +kernel
theorem dX11_night_85 : decode cX11_night 85 = .ok (.getfield 39, 3) := by decide +kernel
theorem dX11_night_88 : decode cX11_night 88 = .ok (.getfield 226, 3) := by decide +kernel
theorem dX11_night_91 : decode cX11_night 91 = .ok (.putfield 226, 3) := by decide +kernel
theorem dX11_night_94 : decode cX11_night 94 = .ok (.aload_n 0, 1) := by decide +kernel
theorem dX11_night_95 : decode cX11_night 95 = .ok (.getfield 46, 3) := by decide +kernel
theorem dX11_night_98 : decode cX11_night 98 = .ok (.iconst 1, 1) := by decide +kernel
theorem dX11_night_99 : decode cX11_night 99 = .ok (.invokevirtual 264, 3) := by decide +kernel
theorem dX11_night_102 : decode cX11_night 102 = .ok (.iinc 3 1, 3) := by decide +kernel
theorem dX11_night_105 : decode cX11_night 105 = .ok (.goto (-62), 3) := by decide +kernel
theorem dX11_night_108 : decode cX11_night 108 = .ok (.aload_n 0, 1) := by decide +kernel
theorem dX11_night_109 : decode cX11_night 109 = .ok (.getfield 46, 3) := by decide +kernel
theorem dX11_night_112 : decode cX11_night 112 = .ok (.getfield 238, 3) := by decide +kernel
theorem dX11_night_115 : decode cX11_night 115 = .ok (.iload_n 2, 1) := by decide +kernel
theorem dX11_night_116 : decode cX11_night 116 = .ok (.isub, 1) := by decide +kernel
theorem dX11_night_117 : decode cX11_night 117 = .ok (.ireturn, 1) := by decide +kernel
def f_X11_night (M : MM) (p1 : Int) : Option (Int × MM) :=
(f_X11_isWithin M p1 1 7).bind fun x1 =>
if x1 = 0 then
(some ((-2147483648), M))
else
(f_X11_paidBy M (M 54 3) (w32 (p1 * 24))).bind fun x3 =>
(f_X11_tryRoomsAlone x3.2 (x3.2 54 3)).bind fun x4 =>
(lp (X := Int × MM) (Y := MM) (fun x5 =>
if x5.1 < (w32 (p1 * 24)) then
(bI (w32 (Int.tmod (x5.2 70 2) 24)) fun x7 =>
((if x7 < 22 then
(if 5 < x7 then
(some (x5.2 54 3))
else
some 5)
else
some 5) : Option (Int)).bind fun x10 =>
bM (upM x5.2 70 3 x10) fun M11 =>
(f_X0_run M11 70 1).bind fun x12 =>
some (Sum.inl (w32 (x5.1 + 1), x12)))
else
some (Sum.inr x5.2)) FU (0, x4)).bind fun x13 =>
some (w32 ((x13 70 13) - x3.1), x13)
set_option maxRecDepth 4000 in
theorem c_X11_night {E : EE} {sh : List (Nat × Nat)} {R : RM} {M : MM} {p1 : Int} (hE : Ext sh) (hL : Links R) : ∀ y, f_X11_night M p1 = some y → MetC E m_X11_night 0 0 [rV 0, iV p1] (sh, false, R, M) (fun r w' => r = some (iV y.1) ∧ w' = (sh, false, R, y.2)) := by
  intro y hy
  refine MetC.seg (o := f_X11_night M p1) (t := (fun K y => K (some (iV y.1)) (sh, false, R, y.2))) (L := [some (rV 0), some (iV p1), none, none, none]) (by decide) rfl (Nat.le_of_ble_eq_true rfl) ?_ hy ⟨rfl, rfl⟩
  unfold f_X11_night
  refine Seg.step (pc' := 1) (I_iload_n (i := 1) dX11_night_0 rfl rfl) ?_
  refine Seg.step (pc' := 2) (I_iconst dX11_night_1 ⟨by decide, by decide⟩) ?_
  refine Seg.step (pc' := 4) (I_bipush dX11_night_2 (by decide) ⟨by decide, by decide⟩) ?_
  refine S_callS3 (md' := m_X11_isWithin) (fun y => some (iV y)) (fun y => (sh, false, R, M)) mm_X11_isWithin wm_11_139 ⟨rfl, rfl, by decide, by decide, by decide, by decide⟩ (Nat.le_of_ble_eq_true rfl) dX11_night_4 (fun y hy => c_X11_isWithin hE hL y hy) (fun x1 => ?_)
  refine S_if_ne (tgt := 14) dX11_night_7 (by decide) (fun h2 => ?_) (fun h2 => ?_)
  · refine Seg.step (pc' := 13) (I_ldcw (z := -2147483648) dX11_night_10 wk_11_341 ⟨by decide, by decide⟩) ?_
    exact S_iret dX11_night_13 rfl (by decide) (by decide) (fun K hK => hK)
  refine Seg.step (pc' := 15) (I_aload_n (i := 0) dX11_night_14 rfl rfl) ?_
  refine Seg.step (pc' := 16) (I_aload_n (i := 0) dX11_night_15 rfl rfl) ?_
  refine Seg.step (pc' := 19) (I_getR cls11 (by decide) wf_11_39 (hE _ _ sk_11) rfl (lk_11_5 hL) dX11_night_16) ?_
  refine Seg.step (pc' := 22) (I_getI cls0 (by decide) wf_11_226 (hE _ _ sk_11_5) rfl dX11_night_19) ?_
  refine Seg.step (pc' := 23) (I_iload_n (i := 1) dX11_night_22 rfl rfl) ?_
  refine Seg.step (pc' := 25) (I_bipush dX11_night_23 (by decide) ⟨by decide, by decide⟩) ?_
  refine Seg.step (pc' := 26) (I_imul dX11_night_25) ?_
  refine S_callV2 (md' := m_X11_paidBy) (fun y => some (iV y.1)) (fun y => (sh, false, R, y.2)) (hE _ _ sk_11) ⟨by decide, rfl⟩ mm_X11_paidBy wm_11_342 ⟨rfl, rfl, by decide, by decide, by decide, by decide⟩ (Nat.le_of_ble_eq_true rfl) dX11_night_26 (fun y hy => c_X11_paidBy hE hL y hy) (fun x3 => ?_)
  refine Seg.step (pc' := 30) (I_istore_n (i := 2) dX11_night_29 rfl (by decide) rfl) ?_
  refine Seg.step (pc' := 31) (I_aload_n (i := 0) dX11_night_30 rfl rfl) ?_
  refine Seg.step (pc' := 32) (I_aload_n (i := 0) dX11_night_31 rfl rfl) ?_
  refine Seg.step (pc' := 35) (I_getR cls11 (by decide) wf_11_39 (hE _ _ sk_11) rfl (lk_11_5 hL) dX11_night_32) ?_
  refine Seg.step (pc' := 38) (I_getI cls0 (by decide) wf_11_226 (hE _ _ sk_11_5) rfl dX11_night_35) ?_
  refine S_callV1 (md' := m_X11_tryRoomsAlone) (fun y => none) (fun y => (sh, false, R, y)) (hE _ _ sk_11) ⟨by decide, rfl⟩ mm_X11_tryRoomsAlone wm_11_327 ⟨rfl, rfl, by decide, by decide, by decide, by decide⟩ (Nat.le_of_ble_eq_true rfl) dX11_night_38 (fun y hy => c_X11_tryRoomsAlone hE hL y hy) (fun x4 => ?_)
  refine Seg.step (pc' := 42) (I_iconst dX11_night_41 ⟨by decide, by decide⟩) ?_
  refine Seg.step (pc' := 43) (I_istore_n (i := 3) dX11_night_42 rfl (by decide) rfl) ?_
  refine Seg.forget (Lle.ye (Lle.ye (Lle.ye (Lle.ye (Lle.no (Lle.nil)))))) ?_
  refine S_bind (Y := MM) (k' := 0) (n' := 0) 108 (fun y => [some (rV 0), none, some (iV x3.1), none, none]) (fun y => []) (fun y => (sh, false, R, y)) (S_loop (Y := Int × MM) (fun y => [some (rV 0), some (iV p1), some (iV x3.1), some (iV y.1), none]) (fun y => []) (fun y => (sh, false, R, y.2)) (fun x5 => ?_) FU (0, x4)) (fun x13 => ?_)
  · refine Seg.step (pc' := 44) (I_iload_n (i := 3) dX11_night_43 rfl rfl) ?_
    refine Seg.step (pc' := 45) (I_iload_n (i := 1) dX11_night_44 rfl rfl) ?_
    refine Seg.step (pc' := 47) (I_bipush dX11_night_45 (by decide) ⟨by decide, by decide⟩) ?_
    refine Seg.step (pc' := 48) (I_imul dX11_night_47) ?_
    refine S_icmp_ge (tgt := 108) dX11_night_48 (by decide) (fun h6 => ?_) (fun h6 => ?_)
    · refine Seg.step (pc' := 52) (I_aload_n (i := 0) dX11_night_51 rfl rfl) ?_
      refine Seg.step (pc' := 55) (I_getR cls11 (by decide) wf_11_46 (hE _ _ sk_11) rfl (lk_11_8 hL) dX11_night_52) ?_
      refine Seg.step (pc' := 58) (I_getI cls0 (by decide) wf_11_190 (hE _ _ sk_11_8) rfl dX11_night_55) ?_
      refine Seg.step (pc' := 60) (I_bipush dX11_night_58 (by decide) ⟨by decide, by decide⟩) ?_
      refine Seg.step (pc' := 61) (I_irem dX11_night_60 (by decide)) ?_
      refine S_bI fun x7 => ?_
      refine Seg.step (pc' := 63) (I_istore dX11_night_61 (by decide) rfl) ?_
      refine Seg.step (pc' := 64) (I_aload_n (i := 0) dX11_night_63 rfl rfl) ?_
      refine Seg.step (pc' := 67) (I_getR cls11 (by decide) wf_11_46 (hE _ _ sk_11) rfl (lk_11_8 hL) dX11_night_64) ?_
      refine Seg.step (pc' := 69) (I_iload dX11_night_67 rfl) ?_
      refine Seg.step (pc' := 71) (I_bipush dX11_night_69 (by decide) ⟨by decide, by decide⟩) ?_
      refine S_bind (Y := Int) (k' := 0) (n' := 0) 91 (fun y => [some (rV 0), some (iV p1), some (iV x3.1), some (iV x5.1), none]) (fun y => [iV y, rV 70]) (fun y => (sh, false, R, x5.2)) ?_ (fun x10 => ?_)
      · refine S_icmp_ge (tgt := 80) dX11_night_71 (by decide) (fun h8 => ?_) (fun h8 => ?_)
        · refine Seg.step (pc' := 76) (I_iload dX11_night_74 rfl) ?_
          refine Seg.step (pc' := 77) (I_iconst dX11_night_76 ⟨by decide, by decide⟩) ?_
          refine S_icmp_gt (tgt := 84) dX11_night_77 (by decide) (fun h9 => ?_) (fun h9 => ?_)
          · refine Seg.step (pc' := 85) (I_aload_n (i := 0) dX11_night_84 rfl rfl) ?_
            refine Seg.step (pc' := 88) (I_getR cls11 (by decide) wf_11_39 (hE _ _ sk_11) rfl (lk_11_5 hL) dX11_night_85) ?_
            refine Seg.step (pc' := 91) (I_getI cls0 (by decide) wf_11_226 (hE _ _ sk_11_5) rfl dX11_night_88) ?_
            exact S_arr (fun K hK => GG.forget (Lle.ye (Lle.ye (Lle.ye (Lle.ye (Lle.no (Lle.nil)))))) hK)
          refine Seg.step (pc' := 81) (I_iconst dX11_night_80 ⟨by decide, by decide⟩) ?_
          refine Seg.step (pc' := 91) (I_goto (tgt := 91) dX11_night_81 (by decide)) ?_
          exact S_arr (fun K hK => GG.forget (Lle.ye (Lle.ye (Lle.ye (Lle.ye (Lle.no (Lle.nil)))))) hK)
        refine Seg.step (pc' := 81) (I_iconst dX11_night_80 ⟨by decide, by decide⟩) ?_
        refine Seg.step (pc' := 91) (I_goto (tgt := 91) dX11_night_81 (by decide)) ?_
        exact S_arr (fun K hK => GG.forget (Lle.ye (Lle.ye (Lle.ye (Lle.ye (Lle.no (Lle.nil)))))) hK)
      refine Seg.step (pc' := 94) (I_putI cls0 (by decide) wf_11_226 (hE _ _ sk_11_8) rfl rfl dX11_night_91) ?_
      refine S_bM fun M11 => ?_
      refine Seg.step (pc' := 95) (I_aload_n (i := 0) dX11_night_94 rfl rfl) ?_
      refine Seg.step (pc' := 98) (I_getR cls11 (by decide) wf_11_46 (hE _ _ sk_11) rfl (lk_11_8 hL) dX11_night_95) ?_
      refine Seg.step (pc' := 99) (I_iconst dX11_night_98 ⟨by decide, by decide⟩) ?_
      refine S_callV1 (md' := m_X0_run) (fun y => none) (fun y => (sh, false, R, y)) (hE _ _ sk_11_8) ⟨by decide, rfl⟩ mm_X0_run wm_11_264 ⟨rfl, rfl, by decide, by decide, by decide, by decide⟩ (Nat.le_of_ble_eq_true rfl) dX11_night_99 (fun y hy => c_X0_run hE hL sk_11_8 y hy) (fun x12 => ?_)
      refine Seg.step (pc' := 105) (I_iinc dX11_night_102 rfl (by decide) rfl) ?_
      refine Seg.step (pc' := 43) (I_goto (tgt := 43) dX11_night_105 (by decide)) ?_
      exact S_arr (fun K hK => GG.forget (Lle.ye (Lle.ye (Lle.ye (Lle.ye (Lle.no (Lle.nil)))))) hK)
    exact S_arr (fun K hK => GG.forget (Lle.ye (Lle.no (Lle.ye (Lle.no (Lle.no (Lle.nil)))))) hK)
  refine Seg.step (pc' := 109) (I_aload_n (i := 0) dX11_night_108 rfl rfl) ?_
  refine Seg.step (pc' := 112) (I_getR cls11 (by decide) wf_11_46 (hE _ _ sk_11) rfl (lk_11_8 hL) dX11_night_109) ?_
  refine Seg.step (pc' := 115) (I_getI cls0 (by decide) wf_11_238 (hE _ _ sk_11_8) rfl dX11_night_112) ?_
  refine Seg.step (pc' := 116) (I_iload_n (i := 2) dX11_night_115 rfl rfl) ?_
  refine Seg.step (pc' := 117) (I_isub dX11_night_116) ?_
  exact S_iret dX11_night_117 rfl (by decide) (by decide) (fun K hK => hK)
theorem dX11_degree_0 : decode cX11_degree 0 = .ok (.iload_n 1, 1) := by decide +kernel
theorem dX11_degree_1 : decode cX11_degree 1 = .ok (.iconst 1, 1) := by decide +kernel
theorem dX11_degree_2 : decode cX11_degree 2 = .ok (.bipush 99, 2) := by decide +kernel
theorem dX11_degree_4 : decode cX11_degree 4 = .ok (.invokestatic 139, 3) := by decide +kernel
theorem dX11_degree_7 : decode cX11_degree 7 = .ok (.ifCond .ne 5, 3) := by decide +kernel
theorem dX11_degree_10 : decode cX11_degree 10 = .ok (.iconst (-1), 1) := by decide +kernel
theorem dX11_degree_11 : decode cX11_degree 11 = .ok (.ireturn, 1) := by decide +kernel
theorem dX11_degree_12 : decode cX11_degree 12 = .ok (.aload_n 0, 1) := by decide +kernel
theorem dX11_degree_13 : decode cX11_degree 13 = .ok (.getfield 39, 3) := by decide +kernel
theorem dX11_degree_16 : decode cX11_degree 16 = .ok (.getfield 226, 3) := by decide +kernel
theorem dX11_degree_19 : decode cX11_degree 19 = .ok (.bipush 30, 2) := by decide +kernel
theorem dX11_degree_21 : decode cX11_degree 21 = .ok (.if_icmp .lt 5, 3) := by decide +kernel
theorem dX11_degree_24 : decode cX11_degree 24 = .ok (.iconst 0, 1) := by decide +kernel
theorem dX11_degree_25 : decode cX11_degree 25 = .ok (.ireturn, 1) := by decide +kernel
theorem dX11_degree_26 : decode cX11_degree 26 = .ok (.iconst 0, 1) := by decide +kernel
theorem dX11_degree_27 : decode cX11_degree 27 = .ok (.aload_n 0, 1) := by decide +kernel
theorem dX11_degree_28 : decode cX11_degree 28 = .ok (.aload_n 0, 1) := by decide +kernel
theorem dX11_degree_29 : decode cX11_degree 29 = .ok (.getfield 39, 3) := by decide +kernel
theorem dX11_degree_32 : decode cX11_degree 32 = .ok (.getfield 226, 3) := by decide +kernel
theorem dX11_degree_35 : decode cX11_degree 35 = .ok (.iconst 1, 1) := by decide +kernel
theorem dX11_degree_36 : decode cX11_degree 36 = .ok (.iadd, 1) := by decide +kernel
theorem dX11_degree_37 : decode cX11_degree 37 = .ok (.iload_n 1, 1) := by decide +kernel
theorem dX11_degree_38 : decode cX11_degree 38 = .ok (.invokevirtual 342, 3) := by decide +kernel
theorem dX11_degree_41 : decode cX11_degree 41 = .ok (.aload_n 0, 1) := by decide +kernel
theorem dX11_degree_42 : decode cX11_degree 42 = .ok (.aload_n 0, 1) := by decide +kernel
theorem dX11_degree_43 : decode cX11_degree 43 = .ok (.getfield 39, 3) := by decide +kernel
theorem dX11_degree_46 : decode cX11_degree 46 = .ok (.getfield 226, 3) := by decide +kernel
theorem dX11_degree_49 : decode cX11_degree 49 = .ok (.iload_n 1, 1) := by decide +kernel
theorem dX11_degree_50 : decode cX11_degree 50 = .ok (.invokevirtual 342, 3) := by decide +kernel
theorem dX11_degree_53 : decode cX11_degree 53 = .ok (.isub, 1) := by decide +kernel
theorem dX11_degree_54 : decode cX11_degree 54 = .ok (.invokestatic 345, 3) := by decide +kernel
theorem dX11_degree_57 : decode cX11_degree 57 = .ok (.ireturn, 1) := by decide +kernel
def f_X11_degree (M : MM) (p1 : Int) : Option (Int × MM) :=
(f_X11_isWithin M p1 1 99).bind fun x1 =>
if x1 = 0 then
(some ((-1), M))
else
if (M 54 3) < 30 then
((f_X11_paidBy M (w32 ((M 54 3) + 1)) p1).bind fun x4 =>
(f_X11_paidBy x4.2 (x4.2 54 3) p1).bind fun x5 =>
some (if 0 < w32 (x4.1 - x5.1) then w32 (x4.1 - x5.1) else 0, x5.2))
else
some (0, M)
set_option maxRecDepth 4000 in
theorem c_X11_degree {E : EE} {sh : List (Nat × Nat)} {R : RM} {M : MM} {p1 : Int} (hE : Ext sh) (hL : Links R) : ∀ y, f_X11_degree M p1 = some y → MetC E m_X11_degree 0 0 [rV 0, iV p1] (sh, false, R, M) (fun r w' => r = some (iV y.1) ∧ w' = (sh, false, R, y.2)) := by
  intro y hy
  refine MetC.seg (o := f_X11_degree M p1) (t := (fun K y => K (some (iV y.1)) (sh, false, R, y.2))) (L := [some (rV 0), some (iV p1)]) (by decide) rfl (Nat.le_of_ble_eq_true rfl) ?_ hy ⟨rfl, rfl⟩
  unfold f_X11_degree
  refine Seg.step (pc' := 1) (I_iload_n (i := 1) dX11_degree_0 rfl rfl) ?_
  refine Seg.step (pc' := 2) (I_iconst dX11_degree_1 ⟨by decide, by decide⟩) ?_
  refine Seg.step (pc' := 4) (I_bipush dX11_degree_2 (by decide) ⟨by decide, by decide⟩) ?_
  refine S_callS3 (md' := m_X11_isWithin) (fun y => some (iV y)) (fun y => (sh, false, R, M)) mm_X11_isWithin wm_11_139 ⟨rfl, rfl, by decide, by decide, by decide, by decide⟩ (Nat.le_of_ble_eq_true rfl) dX11_degree_4 (fun y hy => c_X11_isWithin hE hL y hy) (fun x1 => ?_)
  refine S_if_ne (tgt := 12) dX11_degree_7 (by decide) (fun h2 => ?_) (fun h2 => ?_)
  · refine Seg.step (pc' := 11) (I_iconst dX11_degree_10 ⟨by decide, by decide⟩) ?_
    exact S_iret dX11_degree_11 rfl (by decide) (by decide) (fun K hK => hK)
  refine Seg.step (pc' := 13) (I_aload_n (i := 0) dX11_degree_12 rfl rfl) ?_
  refine Seg.step (pc' := 16) (I_getR cls11 (by decide) wf_11_39 (hE _ _ sk_11) rfl (lk_11_5 hL) dX11_degree_13) ?_
  refine Seg.step (pc' := 19) (I_getI cls0 (by decide) wf_11_226 (hE _ _ sk_11_5) rfl dX11_degree_16) ?_
  refine Seg.step (pc' := 21) (I_bipush dX11_degree_19 (by decide) ⟨by decide, by decide⟩) ?_
  refine S_icmp_lt (tgt := 26) dX11_degree_21 (by decide) (fun h3 => ?_) (fun h3 => ?_)
  · refine Seg.step (pc' := 27) (I_iconst dX11_degree_26 ⟨by decide, by decide⟩) ?_
    refine Seg.step (pc' := 28) (I_aload_n (i := 0) dX11_degree_27 rfl rfl) ?_
    refine Seg.step (pc' := 29) (I_aload_n (i := 0) dX11_degree_28 rfl rfl) ?_
    refine Seg.step (pc' := 32) (I_getR cls11 (by decide) wf_11_39 (hE _ _ sk_11) rfl (lk_11_5 hL) dX11_degree_29) ?_
    refine Seg.step (pc' := 35) (I_getI cls0 (by decide) wf_11_226 (hE _ _ sk_11_5) rfl dX11_degree_32) ?_
    refine Seg.step (pc' := 36) (I_iconst dX11_degree_35 ⟨by decide, by decide⟩) ?_
    refine Seg.step (pc' := 37) (I_iadd dX11_degree_36) ?_
    refine Seg.step (pc' := 38) (I_iload_n (i := 1) dX11_degree_37 rfl rfl) ?_
    refine S_callV2 (md' := m_X11_paidBy) (fun y => some (iV y.1)) (fun y => (sh, false, R, y.2)) (hE _ _ sk_11) ⟨by decide, rfl⟩ mm_X11_paidBy wm_11_342 ⟨rfl, rfl, by decide, by decide, by decide, by decide⟩ (Nat.le_of_ble_eq_true rfl) dX11_degree_38 (fun y hy => c_X11_paidBy hE hL y hy) (fun x4 => ?_)
    refine Seg.step (pc' := 42) (I_aload_n (i := 0) dX11_degree_41 rfl rfl) ?_
    refine Seg.step (pc' := 43) (I_aload_n (i := 0) dX11_degree_42 rfl rfl) ?_
    refine Seg.step (pc' := 46) (I_getR cls11 (by decide) wf_11_39 (hE _ _ sk_11) rfl (lk_11_5 hL) dX11_degree_43) ?_
    refine Seg.step (pc' := 49) (I_getI cls0 (by decide) wf_11_226 (hE _ _ sk_11_5) rfl dX11_degree_46) ?_
    refine Seg.step (pc' := 50) (I_iload_n (i := 1) dX11_degree_49 rfl rfl) ?_
    refine S_callV2 (md' := m_X11_paidBy) (fun y => some (iV y.1)) (fun y => (sh, false, R, y.2)) (hE _ _ sk_11) ⟨by decide, rfl⟩ mm_X11_paidBy wm_11_342 ⟨rfl, rfl, by decide, by decide, by decide, by decide⟩ (Nat.le_of_ble_eq_true rfl) dX11_degree_50 (fun y hy => c_X11_paidBy hE hL y hy) (fun x5 => ?_)
    refine Seg.step (pc' := 54) (I_isub dX11_degree_53) ?_
    refine Seg.step (I_mmax wm_11_345 wj_max_s wj_Math_i wj_max_c (by decide) (Nat.le_of_ble_eq_true rfl) (by decide) (by decide) dX11_degree_54) ?_
    exact S_iret dX11_degree_57 rfl (by decide) (by decide) (fun K hK => hK)
  refine Seg.step (pc' := 25) (I_iconst dX11_degree_24 ⟨by decide, by decide⟩) ?_
  exact S_iret dX11_degree_25 rfl (by decide) (by decide) (fun K hK => hK)
theorem dX11_strip_0 : decode cX11_strip 0 = .ok (.aload_n 0, 1) := by decide +kernel
theorem dX11_strip_1 : decode cX11_strip 1 = .ok (.iload_n 1, 1) := by decide +kernel
theorem dX11_strip_2 : decode cX11_strip 2 = .ok (.invokevirtual 178, 3) := by decide +kernel
theorem dX11_strip_5 : decode cX11_strip 5 = .ok (.ifCond .eq 13, 3) := by decide +kernel
theorem dX11_strip_8 : decode cX11_strip 8 = .ok (.iload_n 2, 1) := by decide +kernel
theorem dX11_strip_9 : decode cX11_strip 9 = .ok (.iconst 1, 1) := by decide +kernel
theorem dX11_strip_10 : decode cX11_strip 10 = .ok (.bipush 99, 2) := by decide +kernel
theorem dX11_strip_12 : decode cX11_strip 12 = .ok (.invokestatic 139, 3) := by decide +kernel
theorem dX11_strip_15 : decode cX11_strip 15 = .ok (.ifCond .ne 5, 3) := by decide +kernel
theorem dX11_strip_18 : decode cX11_strip 18 = .ok (.iconst (-1), 1) := by decide +kernel
theorem dX11_strip_19 : decode cX11_strip 19 = .ok (.ireturn, 1) := by decide +kernel
theorem dX11_strip_20 : decode cX11_strip 20 = .ok (.aload_n 0, 1) := by decide +kernel
theorem dX11_strip_21 : decode cX11_strip 21 = .ok (.aload_n 0, 1) := by decide +kernel
theorem dX11_strip_22 : decode cX11_strip 22 = .ok (.getfield 39, 3) := by decide +kernel
theorem dX11_strip_25 : decode cX11_strip 25 = .ok (.getfield 226, 3) := by decide +kernel
theorem dX11_strip_28 : decode cX11_strip 28 = .ok (.iload_n 2, 1) := by decide +kernel
theorem dX11_strip_29 : decode cX11_strip 29 = .ok (.invokevirtual 342, 3) := by decide +kernel
theorem dX11_strip_32 : decode cX11_strip 32 = .ok (.istore_n 3, 1) := by decide +kernel
theorem dX11_strip_33 : decode cX11_strip 33 = .ok (.aload_n 0, 1) := by decide +kernel
theorem dX11_strip_34 : decode cX11_strip 34 = .ok (.aload_n 0, 1) := by decide +kernel
theorem dX11_strip_35 : decode cX11_strip 35 = .ok (.getfield 39, 3) := by decide +kernel
theorem dX11_strip_38 : decode cX11_strip 38 = .ok (.getfield 226, 3) := by decide +kernel
theorem dX11_strip_41 : decode cX11_strip 41 = .ok (.invokevirtual 327, 3) := by decide +kernel
theorem dX11_strip_44 : decode cX11_strip 44 = .ok (.aload_n 0, 1) := by decide +kernel
theorem dX11_strip_45 : decode cX11_strip 45 = .ok (.getfield 46, 3) := by decide +kernel
theorem dX11_strip_48 : decode cX11_strip 48 = .ok (.getfield 277, 3) := by decide +kernel
theorem dX11_strip_51 : decode cX11_strip 51 = .ok (.iload_n 1, 1) := by decide +kernel
theorem dX11_strip_52 : decode cX11_strip 52 = .ok (.putfield 350, 3) := by decide +kernel
theorem dX11_strip_55 : decode cX11_strip 55 = .ok (.aload_n 0, 1) := by decide +kernel
theorem dX11_strip_56 : decode cX11_strip 56 = .ok (.getfield 46, 3) := by decide +kernel
theorem dX11_strip_59 : decode cX11_strip 59 = .ok (.iload_n 2, 1) := by decide +kernel
theorem dX11_strip_60 : decode cX11_strip 60 = .ok (.invokevirtual 264, 3) := by decide +kernel
theorem dX11_strip_63 : decode cX11_strip 63 = .ok (.iconst 0, 1) := by decide +kernel
theorem dX11_strip_64 : decode cX11_strip 64 = .ok (.iload_n 3, 1) := by decide +kernel
theorem dX11_strip_65 : decode cX11_strip 65 = .ok (.aload_n 0, 1) := by decide +kernel
theorem dX11_strip_66 : decode cX11_strip 66 = .ok (.getfield 46, 3) := by decide +kernel
theorem dX11_strip_69 : decode cX11_strip 69 = .ok (.getfield 238, 3) := by decide +kernel
theorem dX11_strip_72 : decode cX11_strip 72 = .ok (.isub, 1) := by decide +kernel
theorem dX11_strip_73 : decode cX11_strip 73 = .ok (.invokestatic 345, 3) := by decide +kernel
theorem dX11_strip_76 : decode cX11_strip 76 = .ok (.ireturn, 1) := by decide +kernel
def f_X11_strip (M : MM) (p1 : Int) (p2 : Int) : Option (Int × MM) :=
(f_X11_isRoom M p1).bind fun x1 =>
if x1 = 0 then
(some ((-1), M))
else
(f_X11_isWithin M p2 1 99).bind fun x3 =>
if x3 = 0 then
(some ((-1), M))
else
(f_X11_paidBy M (M 54 3) p2).bind fun x5 =>
(f_X11_tryRoomsAlone x5.2 (x5.2 54 3)).bind fun x6 =>
bM (upM x6 71 6 p1) fun M7 =>
(f_X0_run M7 70 p2).bind fun x8 =>
some (if 0 < w32 (x5.1 - (x8 70 13)) then w32 (x5.1 - (x8 70 13)) else 0, x8)
set_option maxRecDepth 4000 in
theorem c_X11_strip {E : EE} {sh : List (Nat × Nat)} {R : RM} {M : MM} {p1 : Int} {p2 : Int} (hE : Ext sh) (hL : Links R) : ∀ y, f_X11_strip M p1 p2 = some y → MetC E m_X11_strip 0 0 [rV 0, iV p1, iV p2] (sh, false, R, M) (fun r w' => r = some (iV y.1) ∧ w' = (sh, false, R, y.2)) := by
  intro y hy
  refine MetC.seg (o := f_X11_strip M p1 p2) (t := (fun K y => K (some (iV y.1)) (sh, false, R, y.2))) (L := [some (rV 0), some (iV p1), some (iV p2), none]) (by decide) rfl (Nat.le_of_ble_eq_true rfl) ?_ hy ⟨rfl, rfl⟩
  unfold f_X11_strip
  refine Seg.step (pc' := 1) (I_aload_n (i := 0) dX11_strip_0 rfl rfl) ?_
  refine Seg.step (pc' := 2) (I_iload_n (i := 1) dX11_strip_1 rfl rfl) ?_
  refine S_callV1 (md' := m_X11_isRoom) (fun y => some (iV y)) (fun y => (sh, false, R, M)) (hE _ _ sk_11) ⟨by decide, rfl⟩ mm_X11_isRoom wm_11_178 ⟨rfl, rfl, by decide, by decide, by decide, by decide⟩ (Nat.le_of_ble_eq_true rfl) dX11_strip_2 (fun y hy => c_X11_isRoom hE hL y hy) (fun x1 => ?_)
  refine S_if_eq (tgt := 18) dX11_strip_5 (by decide) (fun h2 => ?_) (fun h2 => ?_)
  · refine Seg.step (pc' := 19) (I_iconst dX11_strip_18 ⟨by decide, by decide⟩) ?_
    exact S_iret dX11_strip_19 rfl (by decide) (by decide) (fun K hK => hK)
  refine Seg.step (pc' := 9) (I_iload_n (i := 2) dX11_strip_8 rfl rfl) ?_
  refine Seg.step (pc' := 10) (I_iconst dX11_strip_9 ⟨by decide, by decide⟩) ?_
  refine Seg.step (pc' := 12) (I_bipush dX11_strip_10 (by decide) ⟨by decide, by decide⟩) ?_
  refine S_callS3 (md' := m_X11_isWithin) (fun y => some (iV y)) (fun y => (sh, false, R, M)) mm_X11_isWithin wm_11_139 ⟨rfl, rfl, by decide, by decide, by decide, by decide⟩ (Nat.le_of_ble_eq_true rfl) dX11_strip_12 (fun y hy => c_X11_isWithin hE hL y hy) (fun x3 => ?_)
  refine S_if_ne (tgt := 20) dX11_strip_15 (by decide) (fun h4 => ?_) (fun h4 => ?_)
  · refine Seg.step (pc' := 19) (I_iconst dX11_strip_18 ⟨by decide, by decide⟩) ?_
    exact S_iret dX11_strip_19 rfl (by decide) (by decide) (fun K hK => hK)
  refine Seg.step (pc' := 21) (I_aload_n (i := 0) dX11_strip_20 rfl rfl) ?_
  refine Seg.step (pc' := 22) (I_aload_n (i := 0) dX11_strip_21 rfl rfl) ?_
  refine Seg.step (pc' := 25) (I_getR cls11 (by decide) wf_11_39 (hE _ _ sk_11) rfl (lk_11_5 hL) dX11_strip_22) ?_
  refine Seg.step (pc' := 28) (I_getI cls0 (by decide) wf_11_226 (hE _ _ sk_11_5) rfl dX11_strip_25) ?_
  refine Seg.step (pc' := 29) (I_iload_n (i := 2) dX11_strip_28 rfl rfl) ?_
  refine S_callV2 (md' := m_X11_paidBy) (fun y => some (iV y.1)) (fun y => (sh, false, R, y.2)) (hE _ _ sk_11) ⟨by decide, rfl⟩ mm_X11_paidBy wm_11_342 ⟨rfl, rfl, by decide, by decide, by decide, by decide⟩ (Nat.le_of_ble_eq_true rfl) dX11_strip_29 (fun y hy => c_X11_paidBy hE hL y hy) (fun x5 => ?_)
  refine Seg.step (pc' := 33) (I_istore_n (i := 3) dX11_strip_32 rfl (by decide) rfl) ?_
  refine Seg.step (pc' := 34) (I_aload_n (i := 0) dX11_strip_33 rfl rfl) ?_
  refine Seg.step (pc' := 35) (I_aload_n (i := 0) dX11_strip_34 rfl rfl) ?_
  refine Seg.step (pc' := 38) (I_getR cls11 (by decide) wf_11_39 (hE _ _ sk_11) rfl (lk_11_5 hL) dX11_strip_35) ?_
  refine Seg.step (pc' := 41) (I_getI cls0 (by decide) wf_11_226 (hE _ _ sk_11_5) rfl dX11_strip_38) ?_
  refine S_callV1 (md' := m_X11_tryRoomsAlone) (fun y => none) (fun y => (sh, false, R, y)) (hE _ _ sk_11) ⟨by decide, rfl⟩ mm_X11_tryRoomsAlone wm_11_327 ⟨rfl, rfl, by decide, by decide, by decide, by decide⟩ (Nat.le_of_ble_eq_true rfl) dX11_strip_41 (fun y hy => c_X11_tryRoomsAlone hE hL y hy) (fun x6 => ?_)
  refine Seg.step (pc' := 45) (I_aload_n (i := 0) dX11_strip_44 rfl rfl) ?_
  refine Seg.step (pc' := 48) (I_getR cls11 (by decide) wf_11_46 (hE _ _ sk_11) rfl (lk_11_8 hL) dX11_strip_45) ?_
  refine Seg.step (pc' := 51) (I_getR cls0 (by decide) wf_11_277 (hE _ _ sk_11_8) rfl (lk_0_0 hL sk_11_8) dX11_strip_48) ?_
  refine Seg.step (pc' := 52) (I_iload_n (i := 1) dX11_strip_51 rfl rfl) ?_
  refine Seg.step (pc' := 55) (I_putI cls10 (by decide) wf_11_350 (hE _ _ (sk_0_0 sk_11_8)) rfl rfl dX11_strip_52) ?_
  refine S_bM fun M7 => ?_
  refine Seg.step (pc' := 56) (I_aload_n (i := 0) dX11_strip_55 rfl rfl) ?_
  refine Seg.step (pc' := 59) (I_getR cls11 (by decide) wf_11_46 (hE _ _ sk_11) rfl (lk_11_8 hL) dX11_strip_56) ?_
  refine Seg.step (pc' := 60) (I_iload_n (i := 2) dX11_strip_59 rfl rfl) ?_
  refine S_callV1 (md' := m_X0_run) (fun y => none) (fun y => (sh, false, R, y)) (hE _ _ sk_11_8) ⟨by decide, rfl⟩ mm_X0_run wm_11_264 ⟨rfl, rfl, by decide, by decide, by decide, by decide⟩ (Nat.le_of_ble_eq_true rfl) dX11_strip_60 (fun y hy => c_X0_run hE hL sk_11_8 y hy) (fun x8 => ?_)
  refine Seg.step (pc' := 64) (I_iconst dX11_strip_63 ⟨by decide, by decide⟩) ?_
  refine Seg.step (pc' := 65) (I_iload_n (i := 3) dX11_strip_64 rfl rfl) ?_
  refine Seg.step (pc' := 66) (I_aload_n (i := 0) dX11_strip_65 rfl rfl) ?_
  refine Seg.step (pc' := 69) (I_getR cls11 (by decide) wf_11_46 (hE _ _ sk_11) rfl (lk_11_8 hL) dX11_strip_66) ?_
  refine Seg.step (pc' := 72) (I_getI cls0 (by decide) wf_11_238 (hE _ _ sk_11_8) rfl dX11_strip_69) ?_
  refine Seg.step (pc' := 73) (I_isub dX11_strip_72) ?_
  refine Seg.step (I_mmax wm_11_345 wj_max_s wj_Math_i wj_max_c (by decide) (Nat.le_of_ble_eq_true rfl) (by decide) (by decide) dX11_strip_73) ?_
  exact S_iret dX11_strip_76 rfl (by decide) (by decide) (fun K hK => hK)
theorem dX11_crossByWishOf_0 : decode cX11_crossByWishOf 0 = .ok (.aload_n 0, 1) := by decide +kernel
theorem dX11_crossByWishOf_1 : decode cX11_crossByWishOf 1 = .ok (.aload_n 0, 1) := by decide +kernel
theorem dX11_crossByWishOf_2 : decode cX11_crossByWishOf 2 = .ok (.getfield 27, 3) := by decide +kernel
theorem dX11_crossByWishOf_5 : decode cX11_crossByWishOf 5 = .ok (.getfield 127, 3) := by decide +kernel
theorem dX11_crossByWishOf_8 : decode cX11_crossByWishOf 8 = .ok (.getfield 153, 3) := by decide +kernel
theorem dX11_crossByWishOf_11 : decode cX11_crossByWishOf 11 = .ok (.iload_n 1, 1) := by decide +kernel
theorem dX11_crossByWishOf_12 : decode cX11_crossByWishOf 12 = .ok (.iaload, 1) := by decide +kernel
theorem dX11_crossByWishOf_13 : decode cX11_crossByWishOf 13 = .ok (.i2l, 1) := by decide +kernel
theorem dX11_crossByWishOf_14 : decode cX11_crossByWishOf 14 = .ok (.iconst 5, 1) := by decide +kernel
theorem dX11_crossByWishOf_15 : decode cX11_crossByWishOf 15 = .ok (.bipush 30, 2) := by decide +kernel
theorem dX11_crossByWishOf_17 : decode cX11_crossByWishOf 17 = .ok (.invokestatic 353, 3) := by decide +kernel
theorem dX11_crossByWishOf_20 : decode cX11_crossByWishOf 20 = .ok (.invokevirtual 321, 3) := by decide +kernel
theorem dX11_crossByWishOf_23 : decode cX11_crossByWishOf 23 = .ok (.aload_n 0, 1) := by decide +kernel
theorem dX11_crossByWishOf_24 : decode cX11_crossByWishOf 24 = .ok (.getfield 46, 3) := by decide +kernel
theorem dX11_crossByWishOf_27 : decode cX11_crossByWishOf 27 = .ok (.bipush 24, 2) := by decide +kernel
theorem dX11_crossByWishOf_29 : decode cX11_crossByWishOf 29 = .ok (.invokevirtual 264, 3) := by decide +kernel
theorem dX11_crossByWishOf_32 : decode cX11_crossByWishOf 32 = .ok (.aload_n 0, 1) := by decide +kernel
theorem dX11_crossByWishOf_33 : decode cX11_crossByWishOf 33 = .ok (.getfield 46, 3) := by decide +kernel
theorem dX11_crossByWishOf_36 : decode cX11_crossByWishOf 36 = .ok (.getfield 166, 3) := by decide +kernel
theorem dX11_crossByWishOf_39 : decode cX11_crossByWishOf 39 = .ok (.iload_n 2, 1) := by decide +kernel
theorem dX11_crossByWishOf_40 : decode cX11_crossByWishOf 40 = .ok (.iaload, 1) := by decide +kernel
theorem dX11_crossByWishOf_41 : decode cX11_crossByWishOf 41 = .ok (.ireturn, 1) := by decide +kernel
def f_X11_crossByWishOf (M : MM) (p1 : Int) (p2 : Int) : Option (Int × MM) :=
gH (M 0 3) fun b1 =>
gd (0 ≤ p1 ∧ p1 < (5 : Int)) <|
(f_X11_limited M (M (b1 + 9) (p1).toNat) 5 30).bind fun x3 =>
(f_X11_tryTurnedBy M x3).bind fun x4 =>
(f_X0_run x4 70 24).bind fun x5 =>
gd (0 ≤ p2 ∧ p2 < (5 : Int)) <|
some (x5 74 (p2).toNat, x5)
set_option maxRecDepth 4000 in
theorem c_X11_crossByWishOf {E : EE} {sh : List (Nat × Nat)} {R : RM} {M : MM} {p1 : Int} {p2 : Int} (hE : Ext sh) (hL : Links R) : ∀ y, f_X11_crossByWishOf M p1 p2 = some y → MetC E m_X11_crossByWishOf 0 0 [rV 0, iV p1, iV p2] (sh, false, R, M) (fun r w' => r = some (iV y.1) ∧ w' = (sh, false, R, y.2)) := by
  intro y hy
  refine MetC.seg (o := f_X11_crossByWishOf M p1 p2) (t := (fun K y => K (some (iV y.1)) (sh, false, R, y.2))) (L := [some (rV 0), some (iV p1), some (iV p2)]) (by decide) rfl (Nat.le_of_ble_eq_true rfl) ?_ hy ⟨rfl, rfl⟩
  unfold f_X11_crossByWishOf
  refine Seg.step (pc' := 1) (I_aload_n (i := 0) dX11_crossByWishOf_0 rfl rfl) ?_
  refine Seg.step (pc' := 2) (I_aload_n (i := 0) dX11_crossByWishOf_1 rfl rfl) ?_
  refine S_gH fun b1 hb1 zb1 => ?_
  refine Seg.step (pc' := 5) (I_getH cls11 (by decide) wf_11_27 (hE _ _ sk_11) rfl zb1 (hkp hb1) dX11_crossByWishOf_2) ?_
  refine Seg.step (pc' := 8) (I_getR cls2 (by decide) wf_11_127 (hE _ _ (hks hb1)) rfl (lk_2_1 hL (hks hb1)) dX11_crossByWishOf_5) ?_
  refine Seg.step (pc' := 11) (I_getR cls6 (by decide) wf_11_153 (hE _ _ (sk_2_1 (hks hb1))) rfl (lk_6_3 hL (sk_2_1 (hks hb1))) dX11_crossByWishOf_8) ?_
  refine Seg.step (pc' := 12) (I_iload_n (i := 1) dX11_crossByWishOf_11 rfl rfl) ?_
  refine S_gd fun h2 => ?_
  refine Seg.step (pc' := 13) (I_iald (hE _ _ (sk_6_3 (sk_2_1 (hks hb1)))) h2 dX11_crossByWishOf_12) ?_
  refine Seg.step (pc' := 14) (I_i2l dX11_crossByWishOf_13) ?_
  refine Seg.step (pc' := 15) (I_iconst dX11_crossByWishOf_14 ⟨by decide, by decide⟩) ?_
  refine Seg.step (pc' := 17) (I_bipush dX11_crossByWishOf_15 (by decide) ⟨by decide, by decide⟩) ?_
  refine S_callS3 (md' := m_X11_limited) (fun y => some (iV y)) (fun y => (sh, false, R, M)) mm_X11_limited wm_11_353 ⟨rfl, rfl, by decide, by decide, by decide, by decide⟩ (Nat.le_of_ble_eq_true rfl) dX11_crossByWishOf_17 (fun y hy => c_X11_limited hE hL y hy) (fun x3 => ?_)
  refine S_callV1 (md' := m_X11_tryTurnedBy) (fun y => none) (fun y => (sh, false, R, y)) (hE _ _ sk_11) ⟨by decide, rfl⟩ mm_X11_tryTurnedBy wm_11_321 ⟨rfl, rfl, by decide, by decide, by decide, by decide⟩ (Nat.le_of_ble_eq_true rfl) dX11_crossByWishOf_20 (fun y hy => c_X11_tryTurnedBy hE hL y hy) (fun x4 => ?_)
  refine Seg.step (pc' := 24) (I_aload_n (i := 0) dX11_crossByWishOf_23 rfl rfl) ?_
  refine Seg.step (pc' := 27) (I_getR cls11 (by decide) wf_11_46 (hE _ _ sk_11) rfl (lk_11_8 hL) dX11_crossByWishOf_24) ?_
  refine Seg.step (pc' := 29) (I_bipush dX11_crossByWishOf_27 (by decide) ⟨by decide, by decide⟩) ?_
  refine S_callV1 (md' := m_X0_run) (fun y => none) (fun y => (sh, false, R, y)) (hE _ _ sk_11_8) ⟨by decide, rfl⟩ mm_X0_run wm_11_264 ⟨rfl, rfl, by decide, by decide, by decide, by decide⟩ (Nat.le_of_ble_eq_true rfl) dX11_crossByWishOf_29 (fun y hy => c_X0_run hE hL sk_11_8 y hy) (fun x5 => ?_)
  refine Seg.step (pc' := 33) (I_aload_n (i := 0) dX11_crossByWishOf_32 rfl rfl) ?_
  refine Seg.step (pc' := 36) (I_getR cls11 (by decide) wf_11_46 (hE _ _ sk_11) rfl (lk_11_8 hL) dX11_crossByWishOf_33) ?_
  refine Seg.step (pc' := 39) (I_getR cls0 (by decide) wf_11_166 (hE _ _ sk_11_8) rfl (lk_0_9 hL sk_11_8) dX11_crossByWishOf_36) ?_
  refine Seg.step (pc' := 40) (I_iload_n (i := 2) dX11_crossByWishOf_39 rfl rfl) ?_
  refine S_gd fun h6 => ?_
  refine Seg.step (pc' := 41) (I_iald (hE _ _ (sk_0_9 sk_11_8)) h6 dX11_crossByWishOf_40) ?_
  exact S_iret dX11_crossByWishOf_41 rfl (by decide) (by decide) (fun K hK => hK)
theorem dX11_givesIn_0 : decode cX11_givesIn 0 = .ok (.aload_n 0, 1) := by decide +kernel
theorem dX11_givesIn_1 : decode cX11_givesIn 1 = .ok (.iload_n 1, 1) := by decide +kernel
theorem dX11_givesIn_2 : decode cX11_givesIn 2 = .ok (.iload_n 2, 1) := by decide +kernel
theorem dX11_givesIn_3 : decode cX11_givesIn 3 = .ok (.invokevirtual 357, 3) := by decide +kernel
theorem dX11_givesIn_6 : decode cX11_givesIn 6 = .ok (.ifCond .ne 5, 3) := by decide +kernel
theorem dX11_givesIn_9 : decode cX11_givesIn 9 = .ok (.iconst (-1), 1) := by decide +kernel
theorem dX11_givesIn_10 : decode cX11_givesIn 10 = .ok (.ireturn, 1) := by decide +kernel
theorem dX11_givesIn_11 : decode cX11_givesIn 11 = .ok (.aload_n 0, 1) := by decide +kernel
theorem dX11_givesIn_12 : decode cX11_givesIn 12 = .ok (.iload_n 2, 1) := by decide +kernel
theorem dX11_givesIn_13 : decode cX11_givesIn 13 = .ok (.iload_n 1, 1) := by decide +kernel
theorem dX11_givesIn_14 : decode cX11_givesIn 14 = .ok (.invokevirtual 360, 3) := by decide +kernel
theorem dX11_givesIn_17 : decode cX11_givesIn 17 = .ok (.istore_n 3, 1) := by decide +kernel
theorem dX11_givesIn_18 : decode cX11_givesIn 18 = .ok (.aload_n 0, 1) := by decide +kernel
theorem dX11_givesIn_19 : decode cX11_givesIn 19 = .ok (.iload_n 1, 1) := by decide +kernel
theorem dX11_givesIn_20 : decode cX11_givesIn 20 = .ok (.iload_n 2, 1) := by decide +kernel
theorem dX11_givesIn_21 : decode cX11_givesIn 21 = .ok (.invokevirtual 360, 3) := by decide +kernel
theorem dX11_givesIn_24 : decode cX11_givesIn 24 = .ok (.istore 4, 2) := by decide +kernel
theorem dX11_givesIn_26 : decode cX11_givesIn 26 = .ok (.iload_n 3, 1) := by decide +kernel
theorem dX11_givesIn_27 : decode cX11_givesIn 27 = .ok (.iload 4, 2) := by decide +kernel
theorem dX11_givesIn_29 : decode cX11_givesIn 29 = .ok (.if_icmp .ne 9, 3) := by decide +kernel
theorem dX11_givesIn_32 : decode cX11_givesIn 32 = .ok (.iload_n 1, 1) := by decide +kernel
theorem dX11_givesIn_33 : decode cX11_givesIn 33 = .ok (.iload_n 2, 1) := by decide +kernel
theorem dX11_givesIn_34 : decode cX11_givesIn 34 = .ok (.invokestatic 363, 3) := by decide +kernel
theorem dX11_givesIn_37 : decode cX11_givesIn 37 = .ok (.ireturn, 1) := by decide +kernel
theorem dX11_givesIn_38 : decode cX11_givesIn 38 = .ok (.iload_n 3, 1) := by decide +kernel
theorem dX11_givesIn_39 : decode cX11_givesIn 39 = .ok (.iload 4, 2) := by decide +kernel
theorem dX11_givesIn_41 : decode cX11_givesIn 41 = .ok (.if_icmp .ge 7, 3) := by decide +kernel
theorem dX11_givesIn_44 : decode cX11_givesIn 44 = .ok (.iload_n 1, 1) := by decide +kernel
theorem dX11_givesIn_45 : decode cX11_givesIn 45 = .ok (.goto 4, 3) := by decide +kernel
theorem dX11_givesIn_48 : decode cX11_givesIn 48 = .ok (.iload_n 2, 1) := by decide +kernel
theorem dX11_givesIn_49 : decode cX11_givesIn 49 = .ok (.ireturn, 1) := by decide +kernel
def f_X11_givesIn (M : MM) (p1 : Int) (p2 : Int) : Option (Int × MM) :=
(f_X11_areTwo M p1 p2).bind fun x1 =>
if x1 = 0 then
(some ((-1), M))
else
(f_X11_crossByWishOf M p2 p1).bind fun x3 =>
(f_X11_crossByWishOf x3.2 p1 p2).bind fun x4 =>
if x3.1 = x4.1 then
(some (if p2 < p1 then p2 else p1, x4.2))
else
if x3.1 < x4.1 then
(some (p1, x4.2))
else
some (p2, x4.2)
set_option maxRecDepth 4000 in
theorem c_X11_givesIn {E : EE} {sh : List (Nat × Nat)} {R : RM} {M : MM} {p1 : Int} {p2 : Int} (hE : Ext sh) (hL : Links R) : ∀ y, f_X11_givesIn M p1 p2 = some y → MetC E m_X11_givesIn 0 0 [rV 0, iV p1, iV p2] (sh, false, R, M) (fun r w' => r = some (iV y.1) ∧ w' = (sh, false, R, y.2)) := by
  intro y hy
  refine MetC.seg (o := f_X11_givesIn M p1 p2) (t := (fun K y => K (some (iV y.1)) (sh, false, R, y.2))) (L := [some (rV 0), some (iV p1), some (iV p2), none, none]) (by decide) rfl (Nat.le_of_ble_eq_true rfl) ?_ hy ⟨rfl, rfl⟩
  unfold f_X11_givesIn
  refine Seg.step (pc' := 1) (I_aload_n (i := 0) dX11_givesIn_0 rfl rfl) ?_
  refine Seg.step (pc' := 2) (I_iload_n (i := 1) dX11_givesIn_1 rfl rfl) ?_
  refine Seg.step (pc' := 3) (I_iload_n (i := 2) dX11_givesIn_2 rfl rfl) ?_
  refine S_callV2 (md' := m_X11_areTwo) (fun y => some (iV y)) (fun y => (sh, false, R, M)) (hE _ _ sk_11) ⟨by decide, rfl⟩ mm_X11_areTwo wm_11_357 ⟨rfl, rfl, by decide, by decide, by decide, by decide⟩ (Nat.le_of_ble_eq_true rfl) dX11_givesIn_3 (fun y hy => c_X11_areTwo hE hL y hy) (fun x1 => ?_)
  refine S_if_ne (tgt := 11) dX11_givesIn_6 (by decide) (fun h2 => ?_) (fun h2 => ?_)
  · refine Seg.step (pc' := 10) (I_iconst dX11_givesIn_9 ⟨by decide, by decide⟩) ?_
    exact S_iret dX11_givesIn_10 rfl (by decide) (by decide) (fun K hK => hK)
  refine Seg.step (pc' := 12) (I_aload_n (i := 0) dX11_givesIn_11 rfl rfl) ?_
  refine Seg.step (pc' := 13) (I_iload_n (i := 2) dX11_givesIn_12 rfl rfl) ?_
  refine Seg.step (pc' := 14) (I_iload_n (i := 1) dX11_givesIn_13 rfl rfl) ?_
  refine S_callV2 (md' := m_X11_crossByWishOf) (fun y => some (iV y.1)) (fun y => (sh, false, R, y.2)) (hE _ _ sk_11) ⟨by decide, rfl⟩ mm_X11_crossByWishOf wm_11_360 ⟨rfl, rfl, by decide, by decide, by decide, by decide⟩ (Nat.le_of_ble_eq_true rfl) dX11_givesIn_14 (fun y hy => c_X11_crossByWishOf hE hL y hy) (fun x3 => ?_)
  refine Seg.step (pc' := 18) (I_istore_n (i := 3) dX11_givesIn_17 rfl (by decide) rfl) ?_
  refine Seg.step (pc' := 19) (I_aload_n (i := 0) dX11_givesIn_18 rfl rfl) ?_
  refine Seg.step (pc' := 20) (I_iload_n (i := 1) dX11_givesIn_19 rfl rfl) ?_
  refine Seg.step (pc' := 21) (I_iload_n (i := 2) dX11_givesIn_20 rfl rfl) ?_
  refine S_callV2 (md' := m_X11_crossByWishOf) (fun y => some (iV y.1)) (fun y => (sh, false, R, y.2)) (hE _ _ sk_11) ⟨by decide, rfl⟩ mm_X11_crossByWishOf wm_11_360 ⟨rfl, rfl, by decide, by decide, by decide, by decide⟩ (Nat.le_of_ble_eq_true rfl) dX11_givesIn_21 (fun y hy => c_X11_crossByWishOf hE hL y hy) (fun x4 => ?_)
  refine Seg.step (pc' := 26) (I_istore dX11_givesIn_24 (by decide) rfl) ?_
  refine Seg.step (pc' := 27) (I_iload_n (i := 3) dX11_givesIn_26 rfl rfl) ?_
  refine Seg.step (pc' := 29) (I_iload dX11_givesIn_27 rfl) ?_
  refine S_icmp_ne (tgt := 38) dX11_givesIn_29 (by decide) (fun h5 => ?_) (fun h5 => ?_)
  · refine Seg.step (pc' := 33) (I_iload_n (i := 1) dX11_givesIn_32 rfl rfl) ?_
    refine Seg.step (pc' := 34) (I_iload_n (i := 2) dX11_givesIn_33 rfl rfl) ?_
    refine Seg.step (I_mmin wm_11_363 wj_min_s wj_Math_i wj_min_c (by decide) (Nat.le_of_ble_eq_true rfl) (by decide) (by decide) dX11_givesIn_34) ?_
    exact S_iret dX11_givesIn_37 rfl (by decide) (by decide) (fun K hK => hK)
  refine Seg.step (pc' := 39) (I_iload_n (i := 3) dX11_givesIn_38 rfl rfl) ?_
  refine Seg.step (pc' := 41) (I_iload dX11_givesIn_39 rfl) ?_
  refine S_icmp_ge (tgt := 48) dX11_givesIn_41 (by decide) (fun h6 => ?_) (fun h6 => ?_)
  · refine Seg.step (pc' := 45) (I_iload_n (i := 1) dX11_givesIn_44 rfl rfl) ?_
    refine Seg.step (pc' := 49) (I_goto (tgt := 49) dX11_givesIn_45 (by decide)) ?_
    exact S_iret dX11_givesIn_49 rfl (by decide) (by decide) (fun K hK => hK)
  refine Seg.step (pc' := 49) (I_iload_n (i := 2) dX11_givesIn_48 rfl rfl) ?_
  exact S_iret dX11_givesIn_49 rfl (by decide) (by decide) (fun K hK => hK)
theorem dX11_said_0 : decode cX11_said 0 = .ok (.iload_n 1, 1) := by decide +kernel
theorem dX11_said_1 : decode cX11_said 1 = .ok (.ifCond .ne 5, 3) := by decide +kernel
theorem dX11_said_4 : decode cX11_said 4 = .ok (.iload_n 0, 1) := by decide +kernel
theorem dX11_said_5 : decode cX11_said 5 = .ok (.ireturn, 1) := by decide +kernel
theorem dX11_said_6 : decode cX11_said 6 = .ok (.iload_n 1, 1) := by decide +kernel
theorem dX11_said_7 : decode cX11_said 7 = .ok (.iconst 1, 1) := by decide +kernel
theorem dX11_said_8 : decode cX11_said 8 = .ok (.if_icmp .ne 9, 3) := by decide +kernel
theorem dX11_said_11 : decode cX11_said 11 = .ok (.iload_n 0, 1) := by decide +kernel
theorem dX11_said_12 : decode cX11_said 12 = .ok (.iconst 2, 1) := by decide +kernel
theorem dX11_said_13 : decode cX11_said 13 = .ok (.iadd, 1) := by decide +kernel
theorem dX11_said_14 : decode cX11_said 14 = .ok (.goto 6, 3) := by decide +kernel
theorem dX11_said_17 : decode cX11_said 17 = .ok (.iload_n 0, 1) := by decide +kernel
theorem dX11_said_18 : decode cX11_said 18 = .ok (.iconst 2, 1) := by decide +kernel
theorem dX11_said_19 : decode cX11_said 19 = .ok (.isub, 1) := by decide +kernel
theorem dX11_said_20 : decode cX11_said 20 = .ok (.ireturn, 1) := by decide +kernel
def f_X11_said (M : MM) (p1 : Int) (p2 : Int) : Option (Int) :=
if p2 = 0 then
(some p1)
else
if p2 = 1 then
(some (w32 (p1 + 2)))
else
some (w32 (p1 - 2))
set_option maxRecDepth 4000 in
theorem c_X11_said {E : EE} {sh : List (Nat × Nat)} {ex : Bool} {R : RM} {M : MM} {p1 : Int} {p2 : Int} (hE : Ext sh) (hL : Links R) : ∀ y, f_X11_said M p1 p2 = some y → MetC E m_X11_said 0 0 [iV p1, iV p2] (sh, ex, R, M) (fun r w' => r = some (iV y) ∧ w' = (sh, ex, R, M)) := by
  intro y hy
  refine MetC.seg (o := f_X11_said M p1 p2) (t := (fun K y => K (some (iV y)) (sh, ex, R, M))) (L := [some (iV p1), some (iV p2)]) (by decide) rfl (Nat.le_of_ble_eq_true rfl) ?_ hy ⟨rfl, rfl⟩
  unfold f_X11_said
  refine Seg.step (pc' := 1) (I_iload_n (i := 1) dX11_said_0 rfl rfl) ?_
  refine S_if_ne (tgt := 6) dX11_said_1 (by decide) (fun h1 => ?_) (fun h1 => ?_)
  · refine Seg.step (pc' := 5) (I_iload_n (i := 0) dX11_said_4 rfl rfl) ?_
    exact S_iret dX11_said_5 rfl (by decide) (by decide) (fun K hK => hK)
  refine Seg.step (pc' := 7) (I_iload_n (i := 1) dX11_said_6 rfl rfl) ?_
  refine Seg.step (pc' := 8) (I_iconst dX11_said_7 ⟨by decide, by decide⟩) ?_
  refine S_icmp_ne (tgt := 17) dX11_said_8 (by decide) (fun h2 => ?_) (fun h2 => ?_)
  · refine Seg.step (pc' := 12) (I_iload_n (i := 0) dX11_said_11 rfl rfl) ?_
    refine Seg.step (pc' := 13) (I_iconst dX11_said_12 ⟨by decide, by decide⟩) ?_
    refine Seg.step (pc' := 14) (I_iadd dX11_said_13) ?_
    refine Seg.step (pc' := 20) (I_goto (tgt := 20) dX11_said_14 (by decide)) ?_
    exact S_iret dX11_said_20 rfl (by decide) (by decide) (fun K hK => hK)
  refine Seg.step (pc' := 18) (I_iload_n (i := 0) dX11_said_17 rfl rfl) ?_
  refine Seg.step (pc' := 19) (I_iconst dX11_said_18 ⟨by decide, by decide⟩) ?_
  refine Seg.step (pc' := 20) (I_isub dX11_said_19) ?_
  exact S_iret dX11_said_20 rfl (by decide) (by decide) (fun K hK => hK)
theorem dX11_lossBySaying_0 : decode cX11_lossBySaying 0 = .ok (.iload_n 0, 1) := by decide +kernel
theorem dX11_lossBySaying_1 : decode cX11_lossBySaying 1 = .ok (.iload_n 1, 1) := by decide +kernel
theorem dX11_lossBySaying_2 : decode cX11_lossBySaying 2 = .ok (.invokestatic 366, 3) := by decide +kernel
theorem dX11_lossBySaying_5 : decode cX11_lossBySaying 5 = .ok (.iload_n 2, 1) := by decide +kernel
theorem dX11_lossBySaying_6 : decode cX11_lossBySaying 6 = .ok (.iload_n 3, 1) := by decide +kernel
theorem dX11_lossBySaying_7 : decode cX11_lossBySaying 7 = .ok (.invokestatic 366, 3) := by decide +kernel
theorem dX11_lossBySaying_10 : decode cX11_lossBySaying 10 = .ok (.iadd, 1) := by decide +kernel
theorem dX11_lossBySaying_11 : decode cX11_lossBySaying 11 = .ok (.iconst 2, 1) := by decide +kernel
theorem dX11_lossBySaying_12 : decode cX11_lossBySaying 12 = .ok (.idiv, 1) := by decide +kernel
theorem dX11_lossBySaying_13 : decode cX11_lossBySaying 13 = .ok (.i2l, 1) := by decide +kernel
theorem dX11_lossBySaying_14 : decode cX11_lossBySaying 14 = .ok (.iconst 5, 1) := by decide +kernel
theorem dX11_lossBySaying_15 : decode cX11_lossBySaying 15 = .ok (.bipush 30, 2) := by decide +kernel
theorem dX11_lossBySaying_17 : decode cX11_lossBySaying 17 = .ok (.invokestatic 353, 3) := by decide +kernel
theorem dX11_lossBySaying_20 : decode cX11_lossBySaying 20 = .ok (.istore 4, 2) := by decide +kernel
theorem dX11_lossBySaying_22 : decode cX11_lossBySaying 22 = .ok (.bipush 10, 2) := by decide +kernel
theorem dX11_lossBySaying_24 : decode cX11_lossBySaying 24 = .ok (.iload 4, 2) := by decide +kernel
theorem dX11_lossBySaying_26 : decode cX11_lossBySaying 26 = .ok (.iload_n 0, 1) := by decide +kernel
theorem dX11_lossBySaying_27 : decode cX11_lossBySaying 27 = .ok (.invokestatic 369, 3) := by decide +kernel
theorem dX11_lossBySaying_30 : decode cX11_lossBySaying 30 = .ok (.imul, 1) := by decide +kernel
theorem dX11_lossBySaying_31 : decode cX11_lossBySaying 31 = .ok (.iload_n 1, 1) := by decide +kernel
theorem dX11_lossBySaying_32 : decode cX11_lossBySaying 32 = .ok (.ifCond .ne 7, 3) := by decide +kernel
theorem dX11_lossBySaying_35 : decode cX11_lossBySaying 35 = .ok (.iconst 0, 1) := by decide +kernel
theorem dX11_lossBySaying_36 : decode cX11_lossBySaying 36 = .ok (.goto 5, 3) := by decide +kernel
theorem dX11_lossBySaying_39 : decode cX11_lossBySaying 39 = .ok (.bipush 6, 2) := by decide +kernel
theorem dX11_lossBySaying_41 : decode cX11_lossBySaying 41 = .ok (.iadd, 1) := by decide +kernel
theorem dX11_lossBySaying_42 : decode cX11_lossBySaying 42 = .ok (.ireturn, 1) := by decide +kernel
def f_X11_lossBySaying (M : MM) (p1 : Int) (p2 : Int) (p3 : Int) (p4 : Int) : Option (Int) :=
(f_X11_said M p1 p2).bind fun x1 =>
(f_X11_said M p3 p4).bind fun x2 =>
(f_X11_limited M (w32 (Int.tdiv (w32 (x1 + x2)) 2)) 5 30).bind fun x3 =>
(f_X11_distance M x3 p1).bind fun x4 =>
((if p2 = 0 then
(some 0)
else
some 6) : Option (Int)).bind fun x6 =>
some (w32 ((w32 (10 * x4)) + x6))
set_option maxRecDepth 4000 in
theorem c_X11_lossBySaying {E : EE} {sh : List (Nat × Nat)} {ex : Bool} {R : RM} {M : MM} {p1 : Int} {p2 : Int} {p3 : Int} {p4 : Int} (hE : Ext sh) (hL : Links R) : ∀ y, f_X11_lossBySaying M p1 p2 p3 p4 = some y → MetC E m_X11_lossBySaying 0 0 [iV p1, iV p2, iV p3, iV p4] (sh, ex, R, M) (fun r w' => r = some (iV y) ∧ w' = (sh, ex, R, M)) := by
  intro y hy
  refine MetC.seg (o := f_X11_lossBySaying M p1 p2 p3 p4) (t := (fun K y => K (some (iV y)) (sh, ex, R, M))) (L := [some (iV p1), some (iV p2), some (iV p3), some (iV p4), none]) (by decide) rfl (Nat.le_of_ble_eq_true rfl) ?_ hy ⟨rfl, rfl⟩
  unfold f_X11_lossBySaying
  refine Seg.step (pc' := 1) (I_iload_n (i := 0) dX11_lossBySaying_0 rfl rfl) ?_
  refine Seg.step (pc' := 2) (I_iload_n (i := 1) dX11_lossBySaying_1 rfl rfl) ?_
  refine S_callS2 (md' := m_X11_said) (fun y => some (iV y)) (fun y => (sh, ex, R, M)) mm_X11_said wm_11_366 ⟨rfl, rfl, by decide, by decide, by decide, by decide⟩ (Nat.le_of_ble_eq_true rfl) dX11_lossBySaying_2 (fun y hy => c_X11_said hE hL y hy) (fun x1 => ?_)
  refine Seg.step (pc' := 6) (I_iload_n (i := 2) dX11_lossBySaying_5 rfl rfl) ?_
  refine Seg.step (pc' := 7) (I_iload_n (i := 3) dX11_lossBySaying_6 rfl rfl) ?_
  refine S_callS2 (md' := m_X11_said) (fun y => some (iV y)) (fun y => (sh, ex, R, M)) mm_X11_said wm_11_366 ⟨rfl, rfl, by decide, by decide, by decide, by decide⟩ (Nat.le_of_ble_eq_true rfl) dX11_lossBySaying_7 (fun y hy => c_X11_said hE hL y hy) (fun x2 => ?_)
  refine Seg.step (pc' := 11) (I_iadd dX11_lossBySaying_10) ?_
  refine Seg.step (pc' := 12) (I_iconst dX11_lossBySaying_11 ⟨by decide, by decide⟩) ?_
  refine Seg.step (pc' := 13) (I_idiv dX11_lossBySaying_12 (by decide)) ?_
  refine Seg.step (pc' := 14) (I_i2l dX11_lossBySaying_13) ?_
  refine Seg.step (pc' := 15) (I_iconst dX11_lossBySaying_14 ⟨by decide, by decide⟩) ?_
  refine Seg.step (pc' := 17) (I_bipush dX11_lossBySaying_15 (by decide) ⟨by decide, by decide⟩) ?_
  refine S_callS3 (md' := m_X11_limited) (fun y => some (iV y)) (fun y => (sh, ex, R, M)) mm_X11_limited wm_11_353 ⟨rfl, rfl, by decide, by decide, by decide, by decide⟩ (Nat.le_of_ble_eq_true rfl) dX11_lossBySaying_17 (fun y hy => c_X11_limited hE hL y hy) (fun x3 => ?_)
  refine Seg.step (pc' := 22) (I_istore dX11_lossBySaying_20 (by decide) rfl) ?_
  refine Seg.step (pc' := 24) (I_bipush dX11_lossBySaying_22 (by decide) ⟨by decide, by decide⟩) ?_
  refine Seg.step (pc' := 26) (I_iload dX11_lossBySaying_24 rfl) ?_
  refine Seg.step (pc' := 27) (I_iload_n (i := 0) dX11_lossBySaying_26 rfl rfl) ?_
  refine S_callS2 (md' := m_X11_distance) (fun y => some (iV y)) (fun y => (sh, ex, R, M)) mm_X11_distance wm_11_369 ⟨rfl, rfl, by decide, by decide, by decide, by decide⟩ (Nat.le_of_ble_eq_true rfl) dX11_lossBySaying_27 (fun y hy => c_X11_distance hE hL y hy) (fun x4 => ?_)
  refine Seg.step (pc' := 31) (I_imul dX11_lossBySaying_30) ?_
  refine Seg.step (pc' := 32) (I_iload_n (i := 1) dX11_lossBySaying_31 rfl rfl) ?_
  refine S_bind (Y := Int) (k' := 0) (n' := 0) 41 (fun y => [none, none, none, none, none]) (fun y => [iV y, iV (w32 (10 * x4))]) (fun y => (sh, ex, R, M)) ?_ (fun x6 => ?_)
  · refine S_if_ne (tgt := 39) dX11_lossBySaying_32 (by decide) (fun h5 => ?_) (fun h5 => ?_)
    · refine Seg.step (pc' := 36) (I_iconst dX11_lossBySaying_35 ⟨by decide, by decide⟩) ?_
      refine Seg.step (pc' := 41) (I_goto (tgt := 41) dX11_lossBySaying_36 (by decide)) ?_
      exact S_arr (fun K hK => GG.forget (Lle.no (Lle.no (Lle.no (Lle.no (Lle.no (Lle.nil)))))) hK)
    refine Seg.step (pc' := 41) (I_bipush dX11_lossBySaying_39 (by decide) ⟨by decide, by decide⟩) ?_
    exact S_arr (fun K hK => GG.forget (Lle.no (Lle.no (Lle.no (Lle.no (Lle.no (Lle.nil)))))) hK)
  refine Seg.step (pc' := 42) (I_iadd dX11_lossBySaying_41) ?_
  exact S_iret dX11_lossBySaying_42 rfl (by decide) (by decide) (fun K hK => hK)
theorem dX11_isBestSaying_0 : decode cX11_isBestSaying 0 = .ok (.iload_n 0, 1) := by decide +kernel
theorem dX11_isBestSaying_1 : decode cX11_isBestSaying 1 = .ok (.iload_n 1, 1) := by decide +kernel
theorem dX11_isBestSaying_2 : decode cX11_isBestSaying 2 = .ok (.iload_n 2, 1) := by decide +kernel
theorem dX11_isBestSaying_3 : decode cX11_isBestSaying 3 = .ok (.iload_n 3, 1) := by decide +kernel
theorem dX11_isBestSaying_4 : decode cX11_isBestSaying 4 = .ok (.invokestatic 372, 3) := by decide +kernel
theorem dX11_isBestSaying_7 : decode cX11_isBestSaying 7 = .ok (.istore 4, 2) := by decide +kernel
theorem dX11_isBestSaying_9 : decode cX11_isBestSaying 9 = .ok (.iconst 0, 1) := by decide +kernel
theorem dX11_isBestSaying_10 : decode cX11_isBestSaying 10 = .ok (.istore 5, 2) := by decide +kernel
theorem dX11_isBestSaying_12 : decode cX11_isBestSaying 12 = .ok (.iload 5, 2) := by decide +kernel
theorem dX11_isBestSaying_14 : decode cX11_isBestSaying 14 = .ok (.iconst 3, 1) := by decide +kernel
theorem dX11_isBestSaying_15 : decode cX11_isBestSaying 15 = .ok (.if_icmp .ge 24, 3) := by decide +kernel
theorem dX11_isBestSaying_18 : decode cX11_isBestSaying 18 = .ok (.iload_n 0, 1) := by decide +kernel
theorem dX11_isBestSaying_19 : decode cX11_isBestSaying 19 = .ok (.iload 5, 2) := by decide +kernel
theorem dX11_isBestSaying_21 : decode cX11_isBestSaying 21 = .ok (.iload_n 2, 1) := by decide +kernel
theorem dX11_isBestSaying_22 : decode cX11_isBestSaying 22 = .ok (.iload_n 3, 1) := by decide +kernel
theorem dX11_isBestSaying_23 : decode cX11_isBestSaying 23 = .ok (.invokestatic 372, 3) := by decide +kernel
theorem dX11_isBestSaying_26 : decode cX11_isBestSaying 26 = .ok (.iload 4, 2) := by decide +kernel
theorem dX11_isBestSaying_28 : decode cX11_isBestSaying 28 = .ok (.if_icmp .ge 5, 3) := by decide +kernel
theorem dX11_isBestSaying_31 : decode cX11_isBestSaying 31 = .ok (.iconst 0, 1) := by decide +kernel
theorem dX11_isBestSaying_32 : decode cX11_isBestSaying 32 = .ok (.ireturn, 1) := by decide +kernel
theorem dX11_isBestSaying_33 : decode cX11_isBestSaying 33 = .ok (.iinc 5 1, 3) := by decide +kernel
theorem dX11_isBestSaying_36 : decode cX11_isBestSaying 36 = .ok (.goto (-24), 3) := by decide +kernel
theorem dX11_isBestSaying_39 : decode cX11_isBestSaying 39 = .ok (.iconst 1, 1) := by decide +kernel
theorem dX11_isBestSaying_40 : decode cX11_isBestSaying 40 = .ok (.ireturn, 1) := by decide +kernel
def f_X11_isBestSaying (M : MM) (p1 : Int) (p2 : Int) (p3 : Int) (p4 : Int) : Option (Int) :=
(f_X11_lossBySaying M p1 p2 p3 p4).bind fun x1 =>
lp (X := Int) (Y := Int) (fun x2 =>
if x2 < 3 then
((f_X11_lossBySaying M p1 x2 p3 p4).bind fun x4 =>
if x4 < x1 then
(some (Sum.inr 0))
else
some (Sum.inl (w32 (x2 + 1))))
else
some (Sum.inr 1)) FU 0
set_option maxRecDepth 4000 in
theorem c_X11_isBestSaying {E : EE} {sh : List (Nat × Nat)} {ex : Bool} {R : RM} {M : MM} {p1 : Int} {p2 : Int} {p3 : Int} {p4 : Int} (hE : Ext sh) (hL : Links R) : ∀ y, f_X11_isBestSaying M p1 p2 p3 p4 = some y → MetC E m_X11_isBestSaying 0 0 [iV p1, iV p2, iV p3, iV p4] (sh, ex, R, M) (fun r w' => r = some (iV y) ∧ w' = (sh, ex, R, M)) := by
  intro y hy
  refine MetC.seg (o := f_X11_isBestSaying M p1 p2 p3 p4) (t := (fun K y => K (some (iV y)) (sh, ex, R, M))) (L := [some (iV p1), some (iV p2), some (iV p3), some (iV p4), none, none]) (by decide) rfl (Nat.le_of_ble_eq_true rfl) ?_ hy ⟨rfl, rfl⟩
  unfold f_X11_isBestSaying
  refine Seg.step (pc' := 1) (I_iload_n (i := 0) dX11_isBestSaying_0 rfl rfl) ?_
  refine Seg.step (pc' := 2) (I_iload_n (i := 1) dX11_isBestSaying_1 rfl rfl) ?_
  refine Seg.step (pc' := 3) (I_iload_n (i := 2) dX11_isBestSaying_2 rfl rfl) ?_
  refine Seg.step (pc' := 4) (I_iload_n (i := 3) dX11_isBestSaying_3 rfl rfl) ?_
  refine S_callS4 (md' := m_X11_lossBySaying) (fun y => some (iV y)) (fun y => (sh, ex, R, M)) mm_X11_lossBySaying wm_11_372 ⟨rfl, rfl, by decide, by decide, by decide, by decide⟩ (Nat.le_of_ble_eq_true rfl) dX11_isBestSaying_4 (fun y hy => c_X11_lossBySaying hE hL y hy) (fun x1 => ?_)
  refine Seg.step (pc' := 9) (I_istore dX11_isBestSaying_7 (by decide) rfl) ?_
  refine Seg.step (pc' := 10) (I_iconst dX11_isBestSaying_9 ⟨by decide, by decide⟩) ?_
  refine Seg.step (pc' := 12) (I_istore dX11_isBestSaying_10 (by decide) rfl) ?_
  refine Seg.forget (Lle.ye (Lle.no (Lle.ye (Lle.ye (Lle.ye (Lle.ye (Lle.nil))))))) ?_
  refine S_loop (Y := Int) (fun y => [some (iV p1), none, some (iV p3), some (iV p4), some (iV x1), some (iV y)]) (fun y => []) (fun y => (sh, ex, R, M)) (fun x2 => ?_) FU 0
  refine Seg.step (pc' := 14) (I_iload dX11_isBestSaying_12 rfl) ?_
  refine Seg.step (pc' := 15) (I_iconst dX11_isBestSaying_14 ⟨by decide, by decide⟩) ?_
  refine S_icmp_ge (tgt := 39) dX11_isBestSaying_15 (by decide) (fun h3 => ?_) (fun h3 => ?_)
  · refine Seg.step (pc' := 19) (I_iload_n (i := 0) dX11_isBestSaying_18 rfl rfl) ?_
    refine Seg.step (pc' := 21) (I_iload dX11_isBestSaying_19 rfl) ?_
    refine Seg.step (pc' := 22) (I_iload_n (i := 2) dX11_isBestSaying_21 rfl rfl) ?_
    refine Seg.step (pc' := 23) (I_iload_n (i := 3) dX11_isBestSaying_22 rfl rfl) ?_
    refine S_callS4 (md' := m_X11_lossBySaying) (fun y => some (iV y)) (fun y => (sh, ex, R, M)) mm_X11_lossBySaying wm_11_372 ⟨rfl, rfl, by decide, by decide, by decide, by decide⟩ (Nat.le_of_ble_eq_true rfl) dX11_isBestSaying_23 (fun y hy => c_X11_lossBySaying hE hL y hy) (fun x4 => ?_)
    refine Seg.step (pc' := 28) (I_iload dX11_isBestSaying_26 rfl) ?_
    refine S_icmp_ge (tgt := 33) dX11_isBestSaying_28 (by decide) (fun h5 => ?_) (fun h5 => ?_)
    · refine Seg.step (pc' := 32) (I_iconst dX11_isBestSaying_31 ⟨by decide, by decide⟩) ?_
      exact S_zret dX11_isBestSaying_32 rfl (by decide) (by decide) (by decide) (fun K hK => hK)
    refine Seg.step (pc' := 36) (I_iinc dX11_isBestSaying_33 rfl (by decide) rfl) ?_
    refine Seg.step (pc' := 12) (I_goto (tgt := 12) dX11_isBestSaying_36 (by decide)) ?_
    exact S_arr (fun K hK => GG.forget (Lle.ye (Lle.no (Lle.ye (Lle.ye (Lle.ye (Lle.ye (Lle.nil))))))) hK)
  refine Seg.step (pc' := 40) (I_iconst dX11_isBestSaying_39 ⟨by decide, by decide⟩) ?_
  exact S_zret dX11_isBestSaying_40 rfl (by decide) (by decide) (by decide) (fun K hK => hK)
theorem dX11_isRest_0 : decode cX11_isRest 0 = .ok (.aload_n 0, 1) := by decide +kernel
theorem dX11_isRest_1 : decode cX11_isRest 1 = .ok (.getfield 27, 3) := by decide +kernel
theorem dX11_isRest_4 : decode cX11_isRest 4 = .ok (.getfield 127, 3) := by decide +kernel
theorem dX11_isRest_7 : decode cX11_isRest 7 = .ok (.getfield 153, 3) := by decide +kernel
theorem dX11_isRest_10 : decode cX11_isRest 10 = .ok (.iload_n 1, 1) := by decide +kernel
theorem dX11_isRest_11 : decode cX11_isRest 11 = .ok (.iaload, 1) := by decide +kernel
theorem dX11_isRest_12 : decode cX11_isRest 12 = .ok (.istore 5, 2) := by decide +kernel
theorem dX11_isRest_14 : decode cX11_isRest 14 = .ok (.aload_n 0, 1) := by decide +kernel
theorem dX11_isRest_15 : decode cX11_isRest 15 = .ok (.getfield 27, 3) := by decide +kernel
theorem dX11_isRest_18 : decode cX11_isRest 18 = .ok (.getfield 127, 3) := by decide +kernel
theorem dX11_isRest_21 : decode cX11_isRest 21 = .ok (.getfield 153, 3) := by decide +kernel
theorem dX11_isRest_24 : decode cX11_isRest 24 = .ok (.iload_n 3, 1) := by decide +kernel
theorem dX11_isRest_25 : decode cX11_isRest 25 = .ok (.iaload, 1) := by decide +kernel
theorem dX11_isRest_26 : decode cX11_isRest 26 = .ok (.istore 6, 2) := by decide +kernel
theorem dX11_isRest_28 : decode cX11_isRest 28 = .ok (.iload 5, 2) := by decide +kernel
theorem dX11_isRest_30 : decode cX11_isRest 30 = .ok (.iload_n 2, 1) := by decide +kernel
theorem dX11_isRest_31 : decode cX11_isRest 31 = .ok (.iload 6, 2) := by decide +kernel
theorem dX11_isRest_33 : decode cX11_isRest 33 = .ok (.iload 4, 2) := by decide +kernel
theorem dX11_isRest_35 : decode cX11_isRest 35 = .ok (.invokestatic 376, 3) := by decide +kernel
theorem dX11_isRest_38 : decode cX11_isRest 38 = .ok (.ifCond .eq 20, 3) := by decide +kernel
theorem dX11_isRest_41 : decode cX11_isRest 41 = .ok (.iload 6, 2) := by decide +kernel
theorem dX11_isRest_43 : decode cX11_isRest 43 = .ok (.iload 4, 2) := by decide +kernel
theorem dX11_isRest_45 : decode cX11_isRest 45 = .ok (.iload 5, 2) := by decide +kernel
theorem dX11_isRest_47 : decode cX11_isRest 47 = .ok (.iload_n 2, 1) := by decide +kernel
theorem dX11_isRest_48 : decode cX11_isRest 48 = .ok (.invokestatic 376, 3) := by decide +kernel
theorem dX11_isRest_51 : decode cX11_isRest 51 = .ok (.ifCond .eq 7, 3) := by decide +kernel
theorem dX11_isRest_54 : decode cX11_isRest 54 = .ok (.iconst 1, 1) := by decide +kernel
theorem dX11_isRest_55 : decode cX11_isRest 55 = .ok (.goto 4, 3) := by decide +kernel
theorem dX11_isRest_58 : decode cX11_isRest 58 = .ok (.iconst 0, 1) := by decide +kernel
theorem dX11_isRest_59 : decode cX11_isRest 59 = .ok (.ireturn, 1) := by decide +kernel
def f_X11_isRest (M : MM) (p1 : Int) (p2 : Int) (p3 : Int) (p4 : Int) : Option (Int) :=
gH (M 0 3) fun b1 =>
gd (0 ≤ p1 ∧ p1 < (5 : Int)) <|
bI (M (b1 + 9) (p1).toNat) fun x3 =>
gH (M 0 3) fun b4 =>
gd (0 ≤ p3 ∧ p3 < (5 : Int)) <|
bI (M (b4 + 9) (p3).toNat) fun x6 =>
(f_X11_isBestSaying M x3 p2 x6 p4).bind fun x7 =>
if x7 = 0 then
(some 0)
else
(f_X11_isBestSaying M x6 p4 x3 p2).bind fun x9 =>
if x9 = 0 then
(some 0)
else
some 1
set_option maxRecDepth 4000 in
theorem c_X11_isRest {E : EE} {sh : List (Nat × Nat)} {ex : Bool} {R : RM} {M : MM} {p1 : Int} {p2 : Int} {p3 : Int} {p4 : Int} (hE : Ext sh) (hL : Links R) : ∀ y, f_X11_isRest M p1 p2 p3 p4 = some y → MetC E m_X11_isRest 0 0 [rV 0, iV p1, iV p2, iV p3, iV p4] (sh, ex, R, M) (fun r w' => r = some (iV y) ∧ w' = (sh, ex, R, M)) := by
  intro y hy
  refine MetC.seg (o := f_X11_isRest M p1 p2 p3 p4) (t := (fun K y => K (some (iV y)) (sh, ex, R, M))) (L := [some (rV 0), some (iV p1), some (iV p2), some (iV p3), some (iV p4), none, none]) (by decide) rfl (Nat.le_of_ble_eq_true rfl) ?_ hy ⟨rfl, rfl⟩
  unfold f_X11_isRest
  refine Seg.step (pc' := 1) (I_aload_n (i := 0) dX11_isRest_0 rfl rfl) ?_
  refine S_gH fun b1 hb1 zb1 => ?_
  refine Seg.step (pc' := 4) (I_getH cls11 (by decide) wf_11_27 (hE _ _ sk_11) rfl zb1 (hkp hb1) dX11_isRest_1) ?_
  refine Seg.step (pc' := 7) (I_getR cls2 (by decide) wf_11_127 (hE _ _ (hks hb1)) rfl (lk_2_1 hL (hks hb1)) dX11_isRest_4) ?_
  refine Seg.step (pc' := 10) (I_getR cls6 (by decide) wf_11_153 (hE _ _ (sk_2_1 (hks hb1))) rfl (lk_6_3 hL (sk_2_1 (hks hb1))) dX11_isRest_7) ?_
  refine Seg.step (pc' := 11) (I_iload_n (i := 1) dX11_isRest_10 rfl rfl) ?_
  refine S_gd fun h2 => ?_
  refine Seg.step (pc' := 12) (I_iald (hE _ _ (sk_6_3 (sk_2_1 (hks hb1)))) h2 dX11_isRest_11) ?_
  refine S_bI fun x3 => ?_
  refine Seg.step (pc' := 14) (I_istore dX11_isRest_12 (by decide) rfl) ?_
  refine Seg.step (pc' := 15) (I_aload_n (i := 0) dX11_isRest_14 rfl rfl) ?_
  refine S_gH fun b4 hb4 zb4 => ?_
  refine Seg.step (pc' := 18) (I_getH cls11 (by decide) wf_11_27 (hE _ _ sk_11) rfl zb4 (hkp hb4) dX11_isRest_15) ?_
  refine Seg.step (pc' := 21) (I_getR cls2 (by decide) wf_11_127 (hE _ _ (hks hb4)) rfl (lk_2_1 hL (hks hb4)) dX11_isRest_18) ?_
  refine Seg.step (pc' := 24) (I_getR cls6 (by decide) wf_11_153 (hE _ _ (sk_2_1 (hks hb4))) rfl (lk_6_3 hL (sk_2_1 (hks hb4))) dX11_isRest_21) ?_
  refine Seg.step (pc' := 25) (I_iload_n (i := 3) dX11_isRest_24 rfl rfl) ?_
  refine S_gd fun h5 => ?_
  refine Seg.step (pc' := 26) (I_iald (hE _ _ (sk_6_3 (sk_2_1 (hks hb4)))) h5 dX11_isRest_25) ?_
  refine S_bI fun x6 => ?_
  refine Seg.step (pc' := 28) (I_istore dX11_isRest_26 (by decide) rfl) ?_
  refine Seg.step (pc' := 30) (I_iload dX11_isRest_28 rfl) ?_
  refine Seg.step (pc' := 31) (I_iload_n (i := 2) dX11_isRest_30 rfl rfl) ?_
  refine Seg.step (pc' := 33) (I_iload dX11_isRest_31 rfl) ?_
  refine Seg.step (pc' := 35) (I_iload dX11_isRest_33 rfl) ?_
  refine S_callS4 (md' := m_X11_isBestSaying) (fun y => some (iV y)) (fun y => (sh, ex, R, M)) mm_X11_isBestSaying wm_11_376 ⟨rfl, rfl, by decide, by decide, by decide, by decide⟩ (Nat.le_of_ble_eq_true rfl) dX11_isRest_35 (fun y hy => c_X11_isBestSaying hE hL y hy) (fun x7 => ?_)
  refine S_if_eq (tgt := 58) dX11_isRest_38 (by decide) (fun h8 => ?_) (fun h8 => ?_)
  · refine Seg.step (pc' := 59) (I_iconst dX11_isRest_58 ⟨by decide, by decide⟩) ?_
    exact S_zret dX11_isRest_59 rfl (by decide) (by decide) (by decide) (fun K hK => hK)
  refine Seg.step (pc' := 43) (I_iload dX11_isRest_41 rfl) ?_
  refine Seg.step (pc' := 45) (I_iload dX11_isRest_43 rfl) ?_
  refine Seg.step (pc' := 47) (I_iload dX11_isRest_45 rfl) ?_
  refine Seg.step (pc' := 48) (I_iload_n (i := 2) dX11_isRest_47 rfl rfl) ?_
  refine S_callS4 (md' := m_X11_isBestSaying) (fun y => some (iV y)) (fun y => (sh, ex, R, M)) mm_X11_isBestSaying wm_11_376 ⟨rfl, rfl, by decide, by decide, by decide, by decide⟩ (Nat.le_of_ble_eq_true rfl) dX11_isRest_48 (fun y hy => c_X11_isBestSaying hE hL y hy) (fun x9 => ?_)
  refine S_if_eq (tgt := 58) dX11_isRest_51 (by decide) (fun h10 => ?_) (fun h10 => ?_)
  · refine Seg.step (pc' := 59) (I_iconst dX11_isRest_58 ⟨by decide, by decide⟩) ?_
    exact S_zret dX11_isRest_59 rfl (by decide) (by decide) (by decide) (fun K hK => hK)
  refine Seg.step (pc' := 55) (I_iconst dX11_isRest_54 ⟨by decide, by decide⟩) ?_
  refine Seg.step (pc' := 59) (I_goto (tgt := 59) dX11_isRest_55 (by decide)) ?_
  exact S_zret dX11_isRest_59 rfl (by decide) (by decide) (by decide) (fun K hK => hK)
theorem dX11_restAt_0 : decode cX11_restAt 0 = .ok (.iconst 0, 1) := by decide +kernel
theorem dX11_restAt_1 : decode cX11_restAt 1 = .ok (.istore 4, 2) := by decide +kernel
theorem dX11_restAt_3 : decode cX11_restAt 3 = .ok (.iconst 0, 1) := by decide +kernel
theorem dX11_restAt_4 : decode cX11_restAt 4 = .ok (.istore 5, 2) := by decide +kernel
theorem dX11_restAt_6 : decode cX11_restAt 6 = .ok (.iload 5, 2) := by decide +kernel
theorem dX11_restAt_8 : decode cX11_restAt 8 = .ok (.bipush 9, 2) := by decide +kernel
theorem dX11_restAt_10 : decode cX11_restAt 10 = .ok (.if_icmp .ge 48, 3) := by decide +kernel
theorem dX11_restAt_13 : decode cX11_restAt 13 = .ok (.aload_n 0, 1) := by decide +kernel
theorem dX11_restAt_14 : decode cX11_restAt 14 = .ok (.iload_n 1, 1) := by decide +kernel
theorem dX11_restAt_15 : decode cX11_restAt 15 = .ok (.iload 5, 2) := by decide +kernel
theorem dX11_restAt_17 : decode cX11_restAt 17 = .ok (.iconst 3, 1) := by decide +kernel
theorem dX11_restAt_18 : decode cX11_restAt 18 = .ok (.idiv, 1) := by decide +kernel
theorem dX11_restAt_19 : decode cX11_restAt 19 = .ok (.iload_n 2, 1) := by decide +kernel
theorem dX11_restAt_20 : decode cX11_restAt 20 = .ok (.iload 5, 2) := by decide +kernel
theorem dX11_restAt_22 : decode cX11_restAt 22 = .ok (.iconst 3, 1) := by decide +kernel
theorem dX11_restAt_23 : decode cX11_restAt 23 = .ok (.irem, 1) := by decide +kernel
theorem dX11_restAt_24 : decode cX11_restAt 24 = .ok (.invokevirtual 380, 3) := by decide +kernel
theorem dX11_restAt_27 : decode cX11_restAt 27 = .ok (.ifCond .eq 25, 3) := by decide +kernel
theorem dX11_restAt_30 : decode cX11_restAt 30 = .ok (.iload 4, 2) := by decide +kernel
theorem dX11_restAt_32 : decode cX11_restAt 32 = .ok (.iload_n 3, 1) := by decide +kernel
theorem dX11_restAt_33 : decode cX11_restAt 33 = .ok (.if_icmp .ne 16, 3) := by decide +kernel
theorem dX11_restAt_36 : decode cX11_restAt 36 = .ok (.bipush 10, 2) := by decide +kernel
theorem dX11_restAt_38 : decode cX11_restAt 38 = .ok (.iload 5, 2) := by decide +kernel
theorem dX11_restAt_40 : decode cX11_restAt 40 = .ok (.iconst 3, 1) := by decide +kernel
theorem dX11_restAt_41 : decode cX11_restAt 41 = .ok (.idiv, 1) := by decide +kernel
theorem dX11_restAt_42 : decode cX11_restAt 42 = .ok (.imul, 1) := by decide +kernel
theorem dX11_restAt_43 : decode cX11_restAt 43 = .ok (.iload 5, 2) := by decide +kernel
theorem dX11_restAt_45 : decode cX11_restAt 45 = .ok (.iconst 3, 1) := by decide +kernel
theorem dX11_restAt_46 : decode cX11_restAt 46 = .ok (.irem, 1) := by decide +kernel
theorem dX11_restAt_47 : decode cX11_restAt 47 = .ok (.iadd, 1) := by decide +kernel
theorem dX11_restAt_48 : decode cX11_restAt 48 = .ok (.ireturn, 1) := by decide +kernel
theorem dX11_restAt_49 : decode cX11_restAt 49 = .ok (.iinc 4 1, 3) := by decide +kernel
theorem dX11_restAt_52 : decode cX11_restAt 52 = .ok (.iinc 5 1, 3) := by decide +kernel
theorem dX11_restAt_55 : decode cX11_restAt 55 = .ok (.goto (-49), 3) := by decide +kernel
theorem dX11_restAt_58 : decode cX11_restAt 58 = .ok (.bipush (-2), 2) := by decide +kernel
theorem dX11_restAt_60 : decode cX11_restAt 60 = .ok (.ireturn, 1) := by decide +kernel
def f_X11_restAt (M : MM) (p1 : Int) (p2 : Int) (p3 : Int) : Option (Int) :=
bS (lp (X := Int × Int) (Y := (Int) ⊕ (Int)) (fun x1 =>
if x1.2 < 9 then
((f_X11_isRest M p1 (w32 (Int.tdiv x1.2 3)) p2 (w32 (Int.tmod x1.2 3))).bind fun x3 =>
if x3 = 0 then
(some (Sum.inl (x1.1, w32 (x1.2 + 1))))
else
if x1.1 = p3 then
(some (Sum.inr (Sum.inl x1.2)))
else
some (Sum.inl (w32 (x1.1 + 1), w32 (x1.2 + 1))))
else
some (Sum.inr (Sum.inr (-2)))) FU (0, 0)) (fun x6 =>
some (w32 ((w32 (10 * (w32 (Int.tdiv x6 3)))) + (w32 (Int.tmod x6 3))))) (fun r => r)
set_option maxRecDepth 4000 in
theorem c_X11_restAt {E : EE} {sh : List (Nat × Nat)} {ex : Bool} {R : RM} {M : MM} {p1 : Int} {p2 : Int} {p3 : Int} (hE : Ext sh) (hL : Links R) : ∀ y, f_X11_restAt M p1 p2 p3 = some y → MetC E m_X11_restAt 0 0 [rV 0, iV p1, iV p2, iV p3] (sh, ex, R, M) (fun r w' => r = some (iV y) ∧ w' = (sh, ex, R, M)) := by
  intro y hy
  refine MetC.seg (o := f_X11_restAt M p1 p2 p3) (t := (fun K y => K (some (iV y)) (sh, ex, R, M))) (L := [some (rV 0), some (iV p1), some (iV p2), some (iV p3), none, none]) (by decide) rfl (Nat.le_of_ble_eq_true rfl) ?_ hy ⟨rfl, rfl⟩
  unfold f_X11_restAt
  refine Seg.step (pc' := 1) (I_iconst dX11_restAt_0 ⟨by decide, by decide⟩) ?_
  refine Seg.step (pc' := 3) (I_istore dX11_restAt_1 (by decide) rfl) ?_
  refine Seg.step (pc' := 4) (I_iconst dX11_restAt_3 ⟨by decide, by decide⟩) ?_
  refine Seg.step (pc' := 6) (I_istore dX11_restAt_4 (by decide) rfl) ?_
  refine Seg.forget (Lle.ye (Lle.ye (Lle.ye (Lle.ye (Lle.ye (Lle.ye (Lle.nil))))))) ?_
  refine S_bind2 (Y := Int) (k' := 0) (n' := 0) 36 (fun y => [none, none, none, none, none, some (iV y)]) (fun y => []) (fun y => (sh, ex, R, M)) (S_loop (Y := Int × Int) (fun y => [some (rV 0), some (iV p1), some (iV p2), some (iV p3), some (iV y.1), some (iV y.2)]) (fun y => []) (fun y => (sh, ex, R, M)) (fun x1 => ?_) FU (0, 0)) (fun x6 => ?_)
  · refine Seg.step (pc' := 8) (I_iload dX11_restAt_6 rfl) ?_
    refine Seg.step (pc' := 10) (I_bipush dX11_restAt_8 (by decide) ⟨by decide, by decide⟩) ?_
    refine S_icmp_ge (tgt := 58) dX11_restAt_10 (by decide) (fun h2 => ?_) (fun h2 => ?_)
    · refine Seg.step (pc' := 14) (I_aload_n (i := 0) dX11_restAt_13 rfl rfl) ?_
      refine Seg.step (pc' := 15) (I_iload_n (i := 1) dX11_restAt_14 rfl rfl) ?_
      refine Seg.step (pc' := 17) (I_iload dX11_restAt_15 rfl) ?_
      refine Seg.step (pc' := 18) (I_iconst dX11_restAt_17 ⟨by decide, by decide⟩) ?_
      refine Seg.step (pc' := 19) (I_idiv dX11_restAt_18 (by decide)) ?_
      refine Seg.step (pc' := 20) (I_iload_n (i := 2) dX11_restAt_19 rfl rfl) ?_
      refine Seg.step (pc' := 22) (I_iload dX11_restAt_20 rfl) ?_
      refine Seg.step (pc' := 23) (I_iconst dX11_restAt_22 ⟨by decide, by decide⟩) ?_
      refine Seg.step (pc' := 24) (I_irem dX11_restAt_23 (by decide)) ?_
      refine S_callV4 (md' := m_X11_isRest) (fun y => some (iV y)) (fun y => (sh, ex, R, M)) (hE _ _ sk_11) ⟨by decide, rfl⟩ mm_X11_isRest wm_11_380 ⟨rfl, rfl, by decide, by decide, by decide, by decide⟩ (Nat.le_of_ble_eq_true rfl) dX11_restAt_24 (fun y hy => c_X11_isRest hE hL y hy) (fun x3 => ?_)
      refine S_if_eq (tgt := 52) dX11_restAt_27 (by decide) (fun h4 => ?_) (fun h4 => ?_)
      · refine Seg.step (pc' := 55) (I_iinc dX11_restAt_52 rfl (by decide) rfl) ?_
        refine Seg.step (pc' := 6) (I_goto (tgt := 6) dX11_restAt_55 (by decide)) ?_
        exact S_arr (fun K hK => GG.forget (Lle.ye (Lle.ye (Lle.ye (Lle.ye (Lle.ye (Lle.ye (Lle.nil))))))) hK)
      refine Seg.step (pc' := 32) (I_iload dX11_restAt_30 rfl) ?_
      refine Seg.step (pc' := 33) (I_iload_n (i := 3) dX11_restAt_32 rfl rfl) ?_
      refine S_icmp_ne (tgt := 49) dX11_restAt_33 (by decide) (fun h5 => ?_) (fun h5 => ?_)
      · exact S_arr (fun K hK => GG.forget (Lle.no (Lle.no (Lle.no (Lle.no (Lle.no (Lle.ye (Lle.nil))))))) hK)
      refine Seg.step (pc' := 52) (I_iinc dX11_restAt_49 rfl (by decide) rfl) ?_
      refine Seg.step (pc' := 55) (I_iinc dX11_restAt_52 rfl (by decide) rfl) ?_
      refine Seg.step (pc' := 6) (I_goto (tgt := 6) dX11_restAt_55 (by decide)) ?_
      exact S_arr (fun K hK => GG.forget (Lle.ye (Lle.ye (Lle.ye (Lle.ye (Lle.ye (Lle.ye (Lle.nil))))))) hK)
    refine Seg.step (pc' := 60) (I_bipush dX11_restAt_58 (by decide) ⟨by decide, by decide⟩) ?_
    exact S_iret dX11_restAt_60 rfl (by decide) (by decide) (fun K hK => hK)
  refine Seg.step (pc' := 38) (I_bipush dX11_restAt_36 (by decide) ⟨by decide, by decide⟩) ?_
  refine Seg.step (pc' := 40) (I_iload dX11_restAt_38 rfl) ?_
  refine Seg.step (pc' := 41) (I_iconst dX11_restAt_40 ⟨by decide, by decide⟩) ?_
  refine Seg.step (pc' := 42) (I_idiv dX11_restAt_41 (by decide)) ?_
  refine Seg.step (pc' := 43) (I_imul dX11_restAt_42) ?_
  refine Seg.step (pc' := 45) (I_iload dX11_restAt_43 rfl) ?_
  refine Seg.step (pc' := 46) (I_iconst dX11_restAt_45 ⟨by decide, by decide⟩) ?_
  refine Seg.step (pc' := 47) (I_irem dX11_restAt_46 (by decide)) ?_
  refine Seg.step (pc' := 48) (I_iadd dX11_restAt_47) ?_
  exact S_iret dX11_restAt_48 rfl (by decide) (by decide) (fun K hK => hK)
theorem dX11_rests_0 : decode cX11_rests 0 = .ok (.aload_n 0, 1) := by decide +kernel
theorem dX11_rests_1 : decode cX11_rests 1 = .ok (.iload_n 1, 1) := by decide +kernel
theorem dX11_rests_2 : decode cX11_rests 2 = .ok (.iload_n 2, 1) := by decide +kernel
theorem dX11_rests_3 : decode cX11_rests 3 = .ok (.invokevirtual 357, 3) := by decide +kernel
theorem dX11_rests_6 : decode cX11_rests 6 = .ok (.ifCond .ne 5, 3) := by decide +kernel
theorem dX11_rests_9 : decode cX11_rests 9 = .ok (.iconst (-1), 1) := by decide +kernel
theorem dX11_rests_10 : decode cX11_rests 10 = .ok (.ireturn, 1) := by decide +kernel
theorem dX11_rests_11 : decode cX11_rests 11 = .ok (.iconst 0, 1) := by decide +kernel
theorem dX11_rests_12 : decode cX11_rests 12 = .ok (.istore_n 3, 1) := by decide +kernel
theorem dX11_rests_13 : decode cX11_rests 13 = .ok (.iload_n 3, 1) := by decide +kernel
theorem dX11_rests_14 : decode cX11_rests 14 = .ok (.bipush 9, 2) := by decide +kernel
theorem dX11_rests_16 : decode cX11_rests 16 = .ok (.if_icmp .ge 21, 3) := by decide +kernel
theorem dX11_rests_19 : decode cX11_rests 19 = .ok (.aload_n 0, 1) := by decide +kernel
theorem dX11_rests_20 : decode cX11_rests 20 = .ok (.iload_n 1, 1) := by decide +kernel
theorem dX11_rests_21 : decode cX11_rests 21 = .ok (.iload_n 2, 1) := by decide +kernel
theorem dX11_rests_22 : decode cX11_rests 22 = .ok (.iload_n 3, 1) := by decide +kernel
theorem dX11_rests_23 : decode cX11_rests 23 = .ok (.invokevirtual 383, 3) := by decide +kernel
theorem dX11_rests_26 : decode cX11_rests 26 = .ok (.bipush (-2), 2) := by decide +kernel
theorem dX11_rests_28 : decode cX11_rests 28 = .ok (.if_icmp .eq 9, 3) := by decide +kernel
theorem dX11_rests_31 : decode cX11_rests 31 = .ok (.iinc 3 1, 3) := by decide +kernel
theorem dX11_rests_34 : decode cX11_rests 34 = .ok (.goto (-21), 3) := by decide +kernel
theorem dX11_rests_37 : decode cX11_rests 37 = .ok (.iload_n 3, 1) := by decide +kernel
theorem dX11_rests_38 : decode cX11_rests 38 = .ok (.ireturn, 1) := by decide +kernel
def f_X11_rests (M : MM) (p1 : Int) (p2 : Int) : Option (Int) :=
(f_X11_areTwo M p1 p2).bind fun x1 =>
if x1 = 0 then
(some (-1))
else
lp (X := Int) (Y := Int) (fun x3 =>
if x3 < 9 then
((f_X11_restAt M p1 p2 x3).bind fun x5 =>
if x5 = (-2) then
(some (Sum.inr x3))
else
some (Sum.inl (w32 (x3 + 1))))
else
some (Sum.inr x3)) FU 0
set_option maxRecDepth 4000 in
theorem c_X11_rests {E : EE} {sh : List (Nat × Nat)} {ex : Bool} {R : RM} {M : MM} {p1 : Int} {p2 : Int} (hE : Ext sh) (hL : Links R) : ∀ y, f_X11_rests M p1 p2 = some y → MetC E m_X11_rests 0 0 [rV 0, iV p1, iV p2] (sh, ex, R, M) (fun r w' => r = some (iV y) ∧ w' = (sh, ex, R, M)) := by
  intro y hy
  refine MetC.seg (o := f_X11_rests M p1 p2) (t := (fun K y => K (some (iV y)) (sh, ex, R, M))) (L := [some (rV 0), some (iV p1), some (iV p2), none]) (by decide) rfl (Nat.le_of_ble_eq_true rfl) ?_ hy ⟨rfl, rfl⟩
  unfold f_X11_rests
  refine Seg.step (pc' := 1) (I_aload_n (i := 0) dX11_rests_0 rfl rfl) ?_
  refine Seg.step (pc' := 2) (I_iload_n (i := 1) dX11_rests_1 rfl rfl) ?_
  refine Seg.step (pc' := 3) (I_iload_n (i := 2) dX11_rests_2 rfl rfl) ?_
  refine S_callV2 (md' := m_X11_areTwo) (fun y => some (iV y)) (fun y => (sh, ex, R, M)) (hE _ _ sk_11) ⟨by decide, rfl⟩ mm_X11_areTwo wm_11_357 ⟨rfl, rfl, by decide, by decide, by decide, by decide⟩ (Nat.le_of_ble_eq_true rfl) dX11_rests_3 (fun y hy => c_X11_areTwo hE hL y hy) (fun x1 => ?_)
  refine S_if_ne (tgt := 11) dX11_rests_6 (by decide) (fun h2 => ?_) (fun h2 => ?_)
  · refine Seg.step (pc' := 10) (I_iconst dX11_rests_9 ⟨by decide, by decide⟩) ?_
    exact S_iret dX11_rests_10 rfl (by decide) (by decide) (fun K hK => hK)
  refine Seg.step (pc' := 12) (I_iconst dX11_rests_11 ⟨by decide, by decide⟩) ?_
  refine Seg.step (pc' := 13) (I_istore_n (i := 3) dX11_rests_12 rfl (by decide) rfl) ?_
  refine Seg.forget (Lle.ye (Lle.ye (Lle.ye (Lle.ye (Lle.nil))))) ?_
  refine S_loop (Y := Int) (fun y => [some (rV 0), some (iV p1), some (iV p2), some (iV y)]) (fun y => []) (fun y => (sh, ex, R, M)) (fun x3 => ?_) FU 0
  refine Seg.step (pc' := 14) (I_iload_n (i := 3) dX11_rests_13 rfl rfl) ?_
  refine Seg.step (pc' := 16) (I_bipush dX11_rests_14 (by decide) ⟨by decide, by decide⟩) ?_
  refine S_icmp_ge (tgt := 37) dX11_rests_16 (by decide) (fun h4 => ?_) (fun h4 => ?_)
  · refine Seg.step (pc' := 20) (I_aload_n (i := 0) dX11_rests_19 rfl rfl) ?_
    refine Seg.step (pc' := 21) (I_iload_n (i := 1) dX11_rests_20 rfl rfl) ?_
    refine Seg.step (pc' := 22) (I_iload_n (i := 2) dX11_rests_21 rfl rfl) ?_
    refine Seg.step (pc' := 23) (I_iload_n (i := 3) dX11_rests_22 rfl rfl) ?_
    refine S_callV3 (md' := m_X11_restAt) (fun y => some (iV y)) (fun y => (sh, ex, R, M)) (hE _ _ sk_11) ⟨by decide, rfl⟩ mm_X11_restAt wm_11_383 ⟨rfl, rfl, by decide, by decide, by decide, by decide⟩ (Nat.le_of_ble_eq_true rfl) dX11_rests_23 (fun y hy => c_X11_restAt hE hL y hy) (fun x5 => ?_)
    refine Seg.step (pc' := 28) (I_bipush dX11_rests_26 (by decide) ⟨by decide, by decide⟩) ?_
    refine S_icmp_eq (tgt := 37) dX11_rests_28 (by decide) (fun h6 => ?_) (fun h6 => ?_)
    · refine Seg.step (pc' := 38) (I_iload_n (i := 3) dX11_rests_37 rfl rfl) ?_
      exact S_iret dX11_rests_38 rfl (by decide) (by decide) (fun K hK => hK)
    refine Seg.step (pc' := 34) (I_iinc dX11_rests_31 rfl (by decide) rfl) ?_
    refine Seg.step (pc' := 13) (I_goto (tgt := 13) dX11_rests_34 (by decide)) ?_
    exact S_arr (fun K hK => GG.forget (Lle.ye (Lle.ye (Lle.ye (Lle.ye (Lle.nil))))) hK)
  refine Seg.step (pc' := 38) (I_iload_n (i := 3) dX11_rests_37 rfl rfl) ?_
  exact S_iret dX11_rests_38 rfl (by decide) (by decide) (fun K hK => hK)
theorem dX11_rest_0 : decode cX11_rest 0 = .ok (.aload_n 0, 1) := by decide +kernel
theorem dX11_rest_1 : decode cX11_rest 1 = .ok (.iload_n 1, 1) := by decide +kernel
theorem dX11_rest_2 : decode cX11_rest 2 = .ok (.iload_n 2, 1) := by decide +kernel
theorem dX11_rest_3 : decode cX11_rest 3 = .ok (.invokevirtual 357, 3) := by decide +kernel
theorem dX11_rest_6 : decode cX11_rest 6 = .ok (.ifCond .eq 17, 3) := by decide +kernel
theorem dX11_rest_9 : decode cX11_rest 9 = .ok (.iload_n 3, 1) := by decide +kernel
theorem dX11_rest_10 : decode cX11_rest 10 = .ok (.ifCond .lt 13, 3) := by decide +kernel
theorem dX11_rest_13 : decode cX11_rest 13 = .ok (.aload_n 0, 1) := by decide +kernel
theorem dX11_rest_14 : decode cX11_rest 14 = .ok (.iload_n 1, 1) := by decide +kernel
theorem dX11_rest_15 : decode cX11_rest 15 = .ok (.iload_n 2, 1) := by decide +kernel
theorem dX11_rest_16 : decode cX11_rest 16 = .ok (.iload_n 3, 1) := by decide +kernel
theorem dX11_rest_17 : decode cX11_rest 17 = .ok (.invokevirtual 383, 3) := by decide +kernel
theorem dX11_rest_20 : decode cX11_rest 20 = .ok (.goto 4, 3) := by decide +kernel
theorem dX11_rest_23 : decode cX11_rest 23 = .ok (.iconst (-1), 1) := by decide +kernel
theorem dX11_rest_24 : decode cX11_rest 24 = .ok (.ireturn, 1) := by decide +kernel
def f_X11_rest (M : MM) (p1 : Int) (p2 : Int) (p3 : Int) : Option (Int) :=
(f_X11_areTwo M p1 p2).bind fun x1 =>
if x1 = 0 then
(some (-1))
else
if p3 < 0 then
(some (-1))
else
(f_X11_restAt M p1 p2 p3).bind fun x4 =>
some x4
set_option maxRecDepth 4000 in
theorem c_X11_rest {E : EE} {sh : List (Nat × Nat)} {ex : Bool} {R : RM} {M : MM} {p1 : Int} {p2 : Int} {p3 : Int} (hE : Ext sh) (hL : Links R) : ∀ y, f_X11_rest M p1 p2 p3 = some y → MetC E m_X11_rest 0 0 [rV 0, iV p1, iV p2, iV p3] (sh, ex, R, M) (fun r w' => r = some (iV y) ∧ w' = (sh, ex, R, M)) := by
  intro y hy
  refine MetC.seg (o := f_X11_rest M p1 p2 p3) (t := (fun K y => K (some (iV y)) (sh, ex, R, M))) (L := [some (rV 0), some (iV p1), some (iV p2), some (iV p3)]) (by decide) rfl (Nat.le_of_ble_eq_true rfl) ?_ hy ⟨rfl, rfl⟩
  unfold f_X11_rest
  refine Seg.step (pc' := 1) (I_aload_n (i := 0) dX11_rest_0 rfl rfl) ?_
  refine Seg.step (pc' := 2) (I_iload_n (i := 1) dX11_rest_1 rfl rfl) ?_
  refine Seg.step (pc' := 3) (I_iload_n (i := 2) dX11_rest_2 rfl rfl) ?_
  refine S_callV2 (md' := m_X11_areTwo) (fun y => some (iV y)) (fun y => (sh, ex, R, M)) (hE _ _ sk_11) ⟨by decide, rfl⟩ mm_X11_areTwo wm_11_357 ⟨rfl, rfl, by decide, by decide, by decide, by decide⟩ (Nat.le_of_ble_eq_true rfl) dX11_rest_3 (fun y hy => c_X11_areTwo hE hL y hy) (fun x1 => ?_)
  refine S_if_eq (tgt := 23) dX11_rest_6 (by decide) (fun h2 => ?_) (fun h2 => ?_)
  · refine Seg.step (pc' := 24) (I_iconst dX11_rest_23 ⟨by decide, by decide⟩) ?_
    exact S_iret dX11_rest_24 rfl (by decide) (by decide) (fun K hK => hK)
  refine Seg.step (pc' := 10) (I_iload_n (i := 3) dX11_rest_9 rfl rfl) ?_
  refine S_if_lt (tgt := 23) dX11_rest_10 (by decide) (fun h3 => ?_) (fun h3 => ?_)
  · refine Seg.step (pc' := 24) (I_iconst dX11_rest_23 ⟨by decide, by decide⟩) ?_
    exact S_iret dX11_rest_24 rfl (by decide) (by decide) (fun K hK => hK)
  refine Seg.step (pc' := 14) (I_aload_n (i := 0) dX11_rest_13 rfl rfl) ?_
  refine Seg.step (pc' := 15) (I_iload_n (i := 1) dX11_rest_14 rfl rfl) ?_
  refine Seg.step (pc' := 16) (I_iload_n (i := 2) dX11_rest_15 rfl rfl) ?_
  refine Seg.step (pc' := 17) (I_iload_n (i := 3) dX11_rest_16 rfl rfl) ?_
  refine S_callV3 (md' := m_X11_restAt) (fun y => some (iV y)) (fun y => (sh, ex, R, M)) (hE _ _ sk_11) ⟨by decide, rfl⟩ mm_X11_restAt wm_11_383 ⟨rfl, rfl, by decide, by decide, by decide, by decide⟩ (Nat.le_of_ble_eq_true rfl) dX11_rest_17 (fun y hy => c_X11_restAt hE hL y hy) (fun x4 => ?_)
  refine Seg.step (pc' := 24) (I_goto (tgt := 24) dX11_rest_20 (by decide)) ?_
  exact S_iret dX11_rest_24 rfl (by decide) (by decide) (fun K hK => hK)
theorem dX11_wear_0 : decode cX11_wear 0 = .ok (.iload_n 1, 1) := by decide +kernel
theorem dX11_wear_1 : decode cX11_wear 1 = .ok (.iconst 1, 1) := by decide +kernel
theorem dX11_wear_2 : decode cX11_wear 2 = .ok (.bipush 60, 2) := by decide +kernel
theorem dX11_wear_4 : decode cX11_wear 4 = .ok (.invokestatic 139, 3) := by decide +kernel
theorem dX11_wear_7 : decode cX11_wear 7 = .ok (.ifCond .eq 10, 3) := by decide +kernel
theorem dX11_wear_10 : decode cX11_wear 10 = .ok (.iload_n 2, 1) := by decide +kernel
theorem dX11_wear_11 : decode cX11_wear 11 = .ok (.invokestatic 257, 3) := by decide +kernel
theorem dX11_wear_14 : decode cX11_wear 14 = .ok (.ifCond .ne 5, 3) := by decide +kernel
theorem dX11_wear_17 : decode cX11_wear 17 = .ok (.iconst (-1), 1) := by decide +kernel
theorem dX11_wear_18 : decode cX11_wear 18 = .ok (.ireturn, 1) := by decide +kernel
theorem dX11_wear_19 : decode cX11_wear 19 = .ok (.aload_n 0, 1) := by decide +kernel
theorem dX11_wear_20 : decode cX11_wear 20 = .ok (.getfield 52, 3) := by decide +kernel
theorem dX11_wear_23 : decode cX11_wear 23 = .ok (.iload_n 1, 1) := by decide +kernel
theorem dX11_wear_24 : decode cX11_wear 24 = .ok (.iload_n 2, 1) := by decide +kernel
theorem dX11_wear_25 : decode cX11_wear 25 = .ok (.iload_n 3, 1) := by decide +kernel
theorem dX11_wear_26 : decode cX11_wear 26 = .ok (.invokevirtual 386, 3) := by decide +kernel
theorem dX11_wear_29 : decode cX11_wear 29 = .ok (.ireturn, 1) := by decide +kernel
def f_X11_wear (M : MM) (p1 : Int) (p2 : Int) (p3 : Int) : Option (Int × MM) :=
(f_X11_isWithin M p1 1 60).bind fun x1 =>
if x1 = 0 then
(some ((-1), M))
else
(f_X11_isSet M p2).bind fun x3 =>
if x3 = 0 then
(some ((-1), M))
else
(f_X4_addWear M p1 p2 p3).bind fun x5 =>
some (x5.1, x5.2)
set_option maxRecDepth 4000 in
theorem c_X11_wear {E : EE} {sh : List (Nat × Nat)} {ex : Bool} {R : RM} {M : MM} {p1 : Int} {p2 : Int} {p3 : Int} (hE : Ext sh) (hL : Links R) : ∀ y, f_X11_wear M p1 p2 p3 = some y → MetC E m_X11_wear 0 0 [rV 0, iV p1, iV p2, iV p3] (sh, ex, R, M) (fun r w' => r = some (iV y.1) ∧ w' = (sh, ex, R, y.2)) := by
  intro y hy
  refine MetC.seg (o := f_X11_wear M p1 p2 p3) (t := (fun K y => K (some (iV y.1)) (sh, ex, R, y.2))) (L := [some (rV 0), some (iV p1), some (iV p2), some (iV p3)]) (by decide) rfl (Nat.le_of_ble_eq_true rfl) ?_ hy ⟨rfl, rfl⟩
  unfold f_X11_wear
  refine Seg.step (pc' := 1) (I_iload_n (i := 1) dX11_wear_0 rfl rfl) ?_
  refine Seg.step (pc' := 2) (I_iconst dX11_wear_1 ⟨by decide, by decide⟩) ?_
  refine Seg.step (pc' := 4) (I_bipush dX11_wear_2 (by decide) ⟨by decide, by decide⟩) ?_
  refine S_callS3 (md' := m_X11_isWithin) (fun y => some (iV y)) (fun y => (sh, ex, R, M)) mm_X11_isWithin wm_11_139 ⟨rfl, rfl, by decide, by decide, by decide, by decide⟩ (Nat.le_of_ble_eq_true rfl) dX11_wear_4 (fun y hy => c_X11_isWithin hE hL y hy) (fun x1 => ?_)
  refine S_if_eq (tgt := 17) dX11_wear_7 (by decide) (fun h2 => ?_) (fun h2 => ?_)
  · refine Seg.step (pc' := 18) (I_iconst dX11_wear_17 ⟨by decide, by decide⟩) ?_
    exact S_iret dX11_wear_18 rfl (by decide) (by decide) (fun K hK => hK)
  refine Seg.step (pc' := 11) (I_iload_n (i := 2) dX11_wear_10 rfl rfl) ?_
  refine S_callS1 (md' := m_X11_isSet) (fun y => some (iV y)) (fun y => (sh, ex, R, M)) mm_X11_isSet wm_11_257 ⟨rfl, rfl, by decide, by decide, by decide, by decide⟩ (Nat.le_of_ble_eq_true rfl) dX11_wear_11 (fun y hy => c_X11_isSet hE hL y hy) (fun x3 => ?_)
  refine S_if_ne (tgt := 19) dX11_wear_14 (by decide) (fun h4 => ?_) (fun h4 => ?_)
  · refine Seg.step (pc' := 18) (I_iconst dX11_wear_17 ⟨by decide, by decide⟩) ?_
    exact S_iret dX11_wear_18 rfl (by decide) (by decide) (fun K hK => hK)
  refine Seg.step (pc' := 20) (I_aload_n (i := 0) dX11_wear_19 rfl rfl) ?_
  refine Seg.step (pc' := 23) (I_getR cls11 (by decide) wf_11_52 (hE _ _ sk_11) rfl (lk_11_9 hL) dX11_wear_20) ?_
  refine Seg.step (pc' := 24) (I_iload_n (i := 1) dX11_wear_23 rfl rfl) ?_
  refine Seg.step (pc' := 25) (I_iload_n (i := 2) dX11_wear_24 rfl rfl) ?_
  refine Seg.step (pc' := 26) (I_iload_n (i := 3) dX11_wear_25 rfl rfl) ?_
  refine S_callV3 (md' := m_X4_addWear) (fun y => some (iV y.1)) (fun y => (sh, ex, R, y.2)) (hE _ _ sk_11_9) ⟨by decide, rfl⟩ mm_X4_addWear wm_11_386 ⟨rfl, rfl, by decide, by decide, by decide, by decide⟩ (Nat.le_of_ble_eq_true rfl) dX11_wear_26 (fun y hy => c_X4_addWear hE hL y hy) (fun x5 => ?_)
  exact S_iret dX11_wear_29 rfl (by decide) (by decide) (fun K hK => hK)
theorem dX11_strike_0 : decode cX11_strike 0 = .ok (.aload_n 0, 1) := by decide +kernel
theorem dX11_strike_1 : decode cX11_strike 1 = .ok (.getfield 52, 3) := by decide +kernel
theorem dX11_strike_4 : decode cX11_strike 4 = .ok (.iload_n 1, 1) := by decide +kernel
theorem dX11_strike_5 : decode cX11_strike 5 = .ok (.invokevirtual 390, 3) := by decide +kernel
theorem dX11_strike_8 : decode cX11_strike 8 = .ok (.ireturn, 1) := by decide +kernel
def f_X11_strike (M : MM) (p1 : Int) : Option (Int × MM) :=
(f_X4_addStrike M p1).bind fun x1 =>
some (x1.1, x1.2)
set_option maxRecDepth 4000 in
theorem c_X11_strike {E : EE} {sh : List (Nat × Nat)} {ex : Bool} {R : RM} {M : MM} {p1 : Int} (hE : Ext sh) (hL : Links R) : ∀ y, f_X11_strike M p1 = some y → MetC E m_X11_strike 0 0 [rV 0, iV p1] (sh, ex, R, M) (fun r w' => r = some (iV y.1) ∧ w' = (sh, ex, R, y.2)) := by
  intro y hy
  refine MetC.seg (o := f_X11_strike M p1) (t := (fun K y => K (some (iV y.1)) (sh, ex, R, y.2))) (L := [some (rV 0), some (iV p1)]) (by decide) rfl (Nat.le_of_ble_eq_true rfl) ?_ hy ⟨rfl, rfl⟩
  unfold f_X11_strike
  refine Seg.step (pc' := 1) (I_aload_n (i := 0) dX11_strike_0 rfl rfl) ?_
  refine Seg.step (pc' := 4) (I_getR cls11 (by decide) wf_11_52 (hE _ _ sk_11) rfl (lk_11_9 hL) dX11_strike_1) ?_
  refine Seg.step (pc' := 5) (I_iload_n (i := 1) dX11_strike_4 rfl rfl) ?_
  refine S_callV1 (md' := m_X4_addStrike) (fun y => some (iV y.1)) (fun y => (sh, ex, R, y.2)) (hE _ _ sk_11_9) ⟨by decide, rfl⟩ mm_X4_addStrike wm_11_390 ⟨rfl, rfl, by decide, by decide, by decide, by decide⟩ (Nat.le_of_ble_eq_true rfl) dX11_strike_5 (fun y hy => c_X4_addStrike hE hL y hy) (fun x1 => ?_)
  exact S_iret dX11_strike_8 rfl (by decide) (by decide) (fun K hK => hK)
theorem dX11_known_0 : decode cX11_known 0 = .ok (.iload_n 1, 1) := by decide +kernel
theorem dX11_known_1 : decode cX11_known 1 = .ok (.iconst (-1), 1) := by decide +kernel
theorem dX11_known_2 : decode cX11_known 2 = .ok (.aload_n 0, 1) := by decide +kernel
theorem dX11_known_3 : decode cX11_known 3 = .ok (.getfield 52, 3) := by decide +kernel
theorem dX11_known_6 : decode cX11_known 6 = .ok (.getfield 253, 3) := by decide +kernel
theorem dX11_known_9 : decode cX11_known 9 = .ok (.invokestatic 139, 3) := by decide +kernel
theorem dX11_known_12 : decode cX11_known 12 = .ok (.ifCond .ne 5, 3) := by decide +kernel
theorem dX11_known_15 : decode cX11_known 15 = .ok (.iconst 0, 1) := by decide +kernel
theorem dX11_known_16 : decode cX11_known 16 = .ok (.ireturn, 1) := by decide +kernel
theorem dX11_known_17 : decode cX11_known 17 = .ok (.aload_n 0, 1) := by decide +kernel
theorem dX11_known_18 : decode cX11_known 18 = .ok (.getfield 52, 3) := by decide +kernel
theorem dX11_known_21 : decode cX11_known 21 = .ok (.iload_n 1, 1) := by decide +kernel
theorem dX11_known_22 : decode cX11_known 22 = .ok (.putfield 393, 3) := by decide +kernel
theorem dX11_known_25 : decode cX11_known 25 = .ok (.iconst 1, 1) := by decide +kernel
theorem dX11_known_26 : decode cX11_known 26 = .ok (.ireturn, 1) := by decide +kernel
def f_X11_known (M : MM) (p1 : Int) : Option (Int × MM) :=
(f_X11_isWithin M p1 (-1) (M 78 0)).bind fun x1 =>
if x1 = 0 then
(some (0, M))
else
bM (upM M 78 1 p1) fun M3 =>
some (1, M3)
set_option maxRecDepth 4000 in
theorem c_X11_known {E : EE} {sh : List (Nat × Nat)} {ex : Bool} {R : RM} {M : MM} {p1 : Int} (hE : Ext sh) (hL : Links R) : ∀ y, f_X11_known M p1 = some y → MetC E m_X11_known 0 0 [rV 0, iV p1] (sh, ex, R, M) (fun r w' => r = some (iV y.1) ∧ w' = (sh, ex, R, y.2)) := by
  intro y hy
  refine MetC.seg (o := f_X11_known M p1) (t := (fun K y => K (some (iV y.1)) (sh, ex, R, y.2))) (L := [some (rV 0), some (iV p1)]) (by decide) rfl (Nat.le_of_ble_eq_true rfl) ?_ hy ⟨rfl, rfl⟩
  unfold f_X11_known
  refine Seg.step (pc' := 1) (I_iload_n (i := 1) dX11_known_0 rfl rfl) ?_
  refine Seg.step (pc' := 2) (I_iconst dX11_known_1 ⟨by decide, by decide⟩) ?_
  refine Seg.step (pc' := 3) (I_aload_n (i := 0) dX11_known_2 rfl rfl) ?_
  refine Seg.step (pc' := 6) (I_getR cls11 (by decide) wf_11_52 (hE _ _ sk_11) rfl (lk_11_9 hL) dX11_known_3) ?_
  refine Seg.step (pc' := 9) (I_getI cls4 (by decide) wf_11_253 (hE _ _ sk_11_9) rfl dX11_known_6) ?_
  refine S_callS3 (md' := m_X11_isWithin) (fun y => some (iV y)) (fun y => (sh, ex, R, M)) mm_X11_isWithin wm_11_139 ⟨rfl, rfl, by decide, by decide, by decide, by decide⟩ (Nat.le_of_ble_eq_true rfl) dX11_known_9 (fun y hy => c_X11_isWithin hE hL y hy) (fun x1 => ?_)
  refine S_if_ne (tgt := 17) dX11_known_12 (by decide) (fun h2 => ?_) (fun h2 => ?_)
  · refine Seg.step (pc' := 16) (I_iconst dX11_known_15 ⟨by decide, by decide⟩) ?_
    exact S_zret dX11_known_16 rfl (by decide) (by decide) (by decide) (fun K hK => hK)
  refine Seg.step (pc' := 18) (I_aload_n (i := 0) dX11_known_17 rfl rfl) ?_
  refine Seg.step (pc' := 21) (I_getR cls11 (by decide) wf_11_52 (hE _ _ sk_11) rfl (lk_11_9 hL) dX11_known_18) ?_
  refine Seg.step (pc' := 22) (I_iload_n (i := 1) dX11_known_21 rfl rfl) ?_
  refine Seg.step (pc' := 25) (I_putI cls4 (by decide) wf_11_393 (hE _ _ sk_11_9) rfl rfl dX11_known_22) ?_
  refine S_bM fun M3 => ?_
  refine Seg.step (pc' := 26) (I_iconst dX11_known_25 ⟨by decide, by decide⟩) ?_
  exact S_zret dX11_known_26 rfl (by decide) (by decide) (by decide) (fun K hK => hK)
theorem dX11_isWornBy_0 : decode cX11_isWornBy 0 = .ok (.aload_n 0, 1) := by decide +kernel
theorem dX11_isWornBy_1 : decode cX11_isWornBy 1 = .ok (.getfield 46, 3) := by decide +kernel
theorem dX11_isWornBy_4 : decode cX11_isWornBy 4 = .ok (.aload_n 0, 1) := by decide +kernel
theorem dX11_isWornBy_5 : decode cX11_isWornBy 5 = .ok (.getfield 27, 3) := by decide +kernel
theorem dX11_isWornBy_8 : decode cX11_isWornBy 8 = .ok (.invokevirtual 100, 3) := by decide +kernel
theorem dX11_isWornBy_11 : decode cX11_isWornBy 11 = .ok (.aload_n 0, 1) := by decide +kernel
theorem dX11_isWornBy_12 : decode cX11_isWornBy 12 = .ok (.getfield 46, 3) := by decide +kernel
theorem dX11_isWornBy_15 : decode cX11_isWornBy 15 = .ok (.getfield 277, 3) := by decide +kernel
theorem dX11_isWornBy_18 : decode cX11_isWornBy 18 = .ok (.invokevirtual 281, 3) := by decide +kernel
theorem dX11_isWornBy_21 : decode cX11_isWornBy 21 = .ok (.aload_n 0, 1) := by decide +kernel
theorem dX11_isWornBy_22 : decode cX11_isWornBy 22 = .ok (.getfield 46, 3) := by decide +kernel
theorem dX11_isWornBy_25 : decode cX11_isWornBy 25 = .ok (.getfield 277, 3) := by decide +kernel
theorem dX11_isWornBy_28 : decode cX11_isWornBy 28 = .ok (.iload_n 1, 1) := by decide +kernel
theorem dX11_isWornBy_29 : decode cX11_isWornBy 29 = .ok (.putfield 402, 3) := by decide +kernel
theorem dX11_isWornBy_32 : decode cX11_isWornBy 32 = .ok (.aload_n 0, 1) := by decide +kernel
theorem dX11_isWornBy_33 : decode cX11_isWornBy 33 = .ok (.getfield 46, 3) := by decide +kernel
theorem dX11_isWornBy_36 : decode cX11_isWornBy 36 = .ok (.getfield 277, 3) := by decide +kernel
theorem dX11_isWornBy_39 : decode cX11_isWornBy 39 = .ok (.iload_n 2, 1) := by decide +kernel
theorem dX11_isWornBy_40 : decode cX11_isWornBy 40 = .ok (.putfield 405, 3) := by decide +kernel
theorem dX11_isWornBy_43 : decode cX11_isWornBy 43 = .ok (.aload_n 0, 1) := by decide +kernel
theorem dX11_isWornBy_44 : decode cX11_isWornBy 44 = .ok (.getfield 52, 3) := by decide +kernel
theorem dX11_isWornBy_47 : decode cX11_isWornBy 47 = .ok (.invokevirtual 408, 3) := by decide +kernel
theorem dX11_isWornBy_50 : decode cX11_isWornBy 50 = .ok (.istore_n 3, 1) := by decide +kernel
theorem dX11_isWornBy_51 : decode cX11_isWornBy 51 = .ok (.iconst 1, 1) := by decide +kernel
theorem dX11_isWornBy_52 : decode cX11_isWornBy 52 = .ok (.istore 4, 2) := by decide +kernel
theorem dX11_isWornBy_54 : decode cX11_isWornBy 54 = .ok (.iload 4, 2) := by decide +kernel
theorem dX11_isWornBy_56 : decode cX11_isWornBy 56 = .ok (.iload_n 3, 1) := by decide +kernel
theorem dX11_isWornBy_57 : decode cX11_isWornBy 57 = .ok (.if_icmp .gt 38, 3) := by decide +kernel
theorem dX11_isWornBy_60 : decode cX11_isWornBy 60 = .ok (.aload_n 0, 1) := by decide +kernel
theorem dX11_isWornBy_61 : decode cX11_isWornBy 61 = .ok (.getfield 46, 3) := by decide +kernel
theorem dX11_isWornBy_64 : decode cX11_isWornBy 64 = .ok (.iconst 1, 1) := by decide +kernel
theorem dX11_isWornBy_65 : decode cX11_isWornBy 65 = .ok (.invokevirtual 264, 3) := by decide +kernel
theorem dX11_isWornBy_68 : decode cX11_isWornBy 68 = .ok (.aload_n 0, 1) := by decide +kernel
theorem dX11_isWornBy_69 : decode cX11_isWornBy 69 = .ok (.getfield 52, 3) := by decide +kernel
theorem dX11_isWornBy_72 : decode cX11_isWornBy 72 = .ok (.iload 4, 2) := by decide +kernel
theorem dX11_isWornBy_74 : decode cX11_isWornBy 74 = .ok (.aload_n 0, 1) := by decide +kernel
theorem dX11_isWornBy_75 : decode cX11_isWornBy 75 = .ok (.getfield 46, 3) := by decide +kernel
theorem dX11_isWornBy_78 : decode cX11_isWornBy 78 = .ok (.getfield 226, 3) := by decide +kernel
theorem dX11_isWornBy_81 : decode cX11_isWornBy 81 = .ok (.invokevirtual 411, 3) := by decide +kernel
theorem dX11_isWornBy_84 : decode cX11_isWornBy 84 = .ok (.ifCond .ne 5, 3) := by decide +kernel
theorem dX11_isWornBy_87 : decode cX11_isWornBy 87 = .ok (.iconst 0, 1) := by decide +kernel
theorem dX11_isWornBy_88 : decode cX11_isWornBy 88 = .ok (.ireturn, 1) := by decide +kernel
theorem dX11_isWornBy_89 : decode cX11_isWornBy 89 = .ok (.iinc 4 1, 3) := by decide +kernel
theorem dX11_isWornBy_92 : decode cX11_isWornBy 92 = .ok (.goto (-38), 3) := by decide +kernel
theorem dX11_isWornBy_95 : decode cX11_isWornBy 95 = .ok (.iconst 1, 1) := by decide +kernel
theorem dX11_isWornBy_96 : decode cX11_isWornBy 96 = .ok (.ireturn, 1) := by decide +kernel
def f_X11_isWornBy (M : MM) (p1 : Int) (p2 : Int) : Option (Int × MM) :=
gH (M 0 3) fun b1 =>
(f_X0_begin M 70 b1).bind fun x2 =>
(f_X10_clear x2 71).bind fun x3 =>
bM (upM x3 71 7 p1) fun M4 =>
bM (upM M4 71 8 p2) fun M5 =>
(f_X4_longestKnown M5).bind fun x6 =>
lp (X := Int × MM) (Y := Int × MM) (fun x7 =>
if x6 < x7.1 then
(some (Sum.inr (1, x7.2)))
else
(f_X0_run x7.2 70 1).bind fun x9 =>
(f_X4_agrees x9 x7.1 (x9 70 3)).bind fun x10 =>
if x10 = 0 then
(some (Sum.inr (0, x9)))
else
some (Sum.inl (w32 (x7.1 + 1), x9))) FU (1, M5)
set_option maxRecDepth 4000 in
theorem c_X11_isWornBy {E : EE} {sh : List (Nat × Nat)} {R : RM} {M : MM} {p1 : Int} {p2 : Int} (hE : Ext sh) (hL : Links R) : ∀ y, f_X11_isWornBy M p1 p2 = some y → MetC E m_X11_isWornBy 0 0 [rV 0, iV p1, iV p2] (sh, false, R, M) (fun r w' => r = some (iV y.1) ∧ w' = (sh, false, R, y.2)) := by
  intro y hy
  refine MetC.seg (o := f_X11_isWornBy M p1 p2) (t := (fun K y => K (some (iV y.1)) (sh, false, R, y.2))) (L := [some (rV 0), some (iV p1), some (iV p2), none, none]) (by decide) rfl (Nat.le_of_ble_eq_true rfl) ?_ hy ⟨rfl, rfl⟩
  unfold f_X11_isWornBy
  refine Seg.step (pc' := 1) (I_aload_n (i := 0) dX11_isWornBy_0 rfl rfl) ?_
  refine Seg.step (pc' := 4) (I_getR cls11 (by decide) wf_11_46 (hE _ _ sk_11) rfl (lk_11_8 hL) dX11_isWornBy_1) ?_
  refine Seg.step (pc' := 5) (I_aload_n (i := 0) dX11_isWornBy_4 rfl rfl) ?_
  refine S_gH fun b1 hb1 zb1 => ?_
  refine Seg.step (pc' := 8) (I_getH cls11 (by decide) wf_11_27 (hE _ _ sk_11) rfl zb1 (hkp hb1) dX11_isWornBy_5) ?_
  refine S_callV1 (md' := m_X0_begin) (fun y => none) (fun y => (sh, false, R, y)) (hE _ _ sk_11_8) ⟨by decide, rfl⟩ mm_X0_begin wm_11_100 ⟨rfl, rfl, by decide, by decide, by decide, by decide⟩ (Nat.le_of_ble_eq_true rfl) dX11_isWornBy_8 (fun y hy => c_X0_begin hE hL sk_11_8 (hks hb1) y hy) (fun x2 => ?_)
  refine Seg.step (pc' := 12) (I_aload_n (i := 0) dX11_isWornBy_11 rfl rfl) ?_
  refine Seg.step (pc' := 15) (I_getR cls11 (by decide) wf_11_46 (hE _ _ sk_11) rfl (lk_11_8 hL) dX11_isWornBy_12) ?_
  refine Seg.step (pc' := 18) (I_getR cls0 (by decide) wf_11_277 (hE _ _ sk_11_8) rfl (lk_0_0 hL sk_11_8) dX11_isWornBy_15) ?_
  refine S_callV0 (md' := m_X10_clear) (fun y => none) (fun y => (sh, false, R, y)) (hE _ _ (sk_0_0 sk_11_8)) ⟨by decide, rfl⟩ mm_X10_clear wm_11_281 ⟨rfl, rfl, by decide, by decide, by decide, by decide⟩ (Nat.le_of_ble_eq_true rfl) dX11_isWornBy_18 (fun y hy => c_X10_clear hE hL (sk_0_0 sk_11_8) y hy) (fun x3 => ?_)
  refine Seg.step (pc' := 22) (I_aload_n (i := 0) dX11_isWornBy_21 rfl rfl) ?_
  refine Seg.step (pc' := 25) (I_getR cls11 (by decide) wf_11_46 (hE _ _ sk_11) rfl (lk_11_8 hL) dX11_isWornBy_22) ?_
  refine Seg.step (pc' := 28) (I_getR cls0 (by decide) wf_11_277 (hE _ _ sk_11_8) rfl (lk_0_0 hL sk_11_8) dX11_isWornBy_25) ?_
  refine Seg.step (pc' := 29) (I_iload_n (i := 1) dX11_isWornBy_28 rfl rfl) ?_
  refine Seg.step (pc' := 32) (I_putI cls10 (by decide) wf_11_402 (hE _ _ (sk_0_0 sk_11_8)) rfl rfl dX11_isWornBy_29) ?_
  refine S_bM fun M4 => ?_
  refine Seg.step (pc' := 33) (I_aload_n (i := 0) dX11_isWornBy_32 rfl rfl) ?_
  refine Seg.step (pc' := 36) (I_getR cls11 (by decide) wf_11_46 (hE _ _ sk_11) rfl (lk_11_8 hL) dX11_isWornBy_33) ?_
  refine Seg.step (pc' := 39) (I_getR cls0 (by decide) wf_11_277 (hE _ _ sk_11_8) rfl (lk_0_0 hL sk_11_8) dX11_isWornBy_36) ?_
  refine Seg.step (pc' := 40) (I_iload_n (i := 2) dX11_isWornBy_39 rfl rfl) ?_
  refine Seg.step (pc' := 43) (I_putI cls10 (by decide) wf_11_405 (hE _ _ (sk_0_0 sk_11_8)) rfl rfl dX11_isWornBy_40) ?_
  refine S_bM fun M5 => ?_
  refine Seg.step (pc' := 44) (I_aload_n (i := 0) dX11_isWornBy_43 rfl rfl) ?_
  refine Seg.step (pc' := 47) (I_getR cls11 (by decide) wf_11_52 (hE _ _ sk_11) rfl (lk_11_9 hL) dX11_isWornBy_44) ?_
  refine S_callV0 (md' := m_X4_longestKnown) (fun y => some (iV y)) (fun y => (sh, false, R, M5)) (hE _ _ sk_11_9) ⟨by decide, rfl⟩ mm_X4_longestKnown wm_11_408 ⟨rfl, rfl, by decide, by decide, by decide, by decide⟩ (Nat.le_of_ble_eq_true rfl) dX11_isWornBy_47 (fun y hy => c_X4_longestKnown hE hL y hy) (fun x6 => ?_)
  refine Seg.step (pc' := 51) (I_istore_n (i := 3) dX11_isWornBy_50 rfl (by decide) rfl) ?_
  refine Seg.step (pc' := 52) (I_iconst dX11_isWornBy_51 ⟨by decide, by decide⟩) ?_
  refine Seg.step (pc' := 54) (I_istore dX11_isWornBy_52 (by decide) rfl) ?_
  refine Seg.forget (Lle.ye (Lle.no (Lle.no (Lle.ye (Lle.ye (Lle.nil)))))) ?_
  refine S_loop (Y := Int × MM) (fun y => [some (rV 0), none, none, some (iV x6), some (iV y.1)]) (fun y => []) (fun y => (sh, false, R, y.2)) (fun x7 => ?_) FU (1, M5)
  refine Seg.step (pc' := 56) (I_iload dX11_isWornBy_54 rfl) ?_
  refine Seg.step (pc' := 57) (I_iload_n (i := 3) dX11_isWornBy_56 rfl rfl) ?_
  refine S_icmp_gt (tgt := 95) dX11_isWornBy_57 (by decide) (fun h8 => ?_) (fun h8 => ?_)
  · refine Seg.step (pc' := 96) (I_iconst dX11_isWornBy_95 ⟨by decide, by decide⟩) ?_
    exact S_zret dX11_isWornBy_96 rfl (by decide) (by decide) (by decide) (fun K hK => hK)
  refine Seg.step (pc' := 61) (I_aload_n (i := 0) dX11_isWornBy_60 rfl rfl) ?_
  refine Seg.step (pc' := 64) (I_getR cls11 (by decide) wf_11_46 (hE _ _ sk_11) rfl (lk_11_8 hL) dX11_isWornBy_61) ?_
  refine Seg.step (pc' := 65) (I_iconst dX11_isWornBy_64 ⟨by decide, by decide⟩) ?_
  refine S_callV1 (md' := m_X0_run) (fun y => none) (fun y => (sh, false, R, y)) (hE _ _ sk_11_8) ⟨by decide, rfl⟩ mm_X0_run wm_11_264 ⟨rfl, rfl, by decide, by decide, by decide, by decide⟩ (Nat.le_of_ble_eq_true rfl) dX11_isWornBy_65 (fun y hy => c_X0_run hE hL sk_11_8 y hy) (fun x9 => ?_)
  refine Seg.step (pc' := 69) (I_aload_n (i := 0) dX11_isWornBy_68 rfl rfl) ?_
  refine Seg.step (pc' := 72) (I_getR cls11 (by decide) wf_11_52 (hE _ _ sk_11) rfl (lk_11_9 hL) dX11_isWornBy_69) ?_
  refine Seg.step (pc' := 74) (I_iload dX11_isWornBy_72 rfl) ?_
  refine Seg.step (pc' := 75) (I_aload_n (i := 0) dX11_isWornBy_74 rfl rfl) ?_
  refine Seg.step (pc' := 78) (I_getR cls11 (by decide) wf_11_46 (hE _ _ sk_11) rfl (lk_11_8 hL) dX11_isWornBy_75) ?_
  refine Seg.step (pc' := 81) (I_getI cls0 (by decide) wf_11_226 (hE _ _ sk_11_8) rfl dX11_isWornBy_78) ?_
  refine S_callV2 (md' := m_X4_agrees) (fun y => some (iV y)) (fun y => (sh, false, R, x9)) (hE _ _ sk_11_9) ⟨by decide, rfl⟩ mm_X4_agrees wm_11_411 ⟨rfl, rfl, by decide, by decide, by decide, by decide⟩ (Nat.le_of_ble_eq_true rfl) dX11_isWornBy_81 (fun y hy => c_X4_agrees hE hL y hy) (fun x10 => ?_)
  refine S_if_ne (tgt := 89) dX11_isWornBy_84 (by decide) (fun h11 => ?_) (fun h11 => ?_)
  · refine Seg.step (pc' := 88) (I_iconst dX11_isWornBy_87 ⟨by decide, by decide⟩) ?_
    exact S_zret dX11_isWornBy_88 rfl (by decide) (by decide) (by decide) (fun K hK => hK)
  refine Seg.step (pc' := 92) (I_iinc dX11_isWornBy_89 rfl (by decide) rfl) ?_
  refine Seg.step (pc' := 54) (I_goto (tgt := 54) dX11_isWornBy_92 (by decide)) ?_
  exact S_arr (fun K hK => GG.forget (Lle.ye (Lle.no (Lle.no (Lle.ye (Lle.ye (Lle.nil)))))) hK)
theorem dX11_lately_0 : decode cX11_lately 0 = .ok (.aload_n 0, 1) := by decide +kernel
theorem dX11_lately_1 : decode cX11_lately 1 = .ok (.iload_n 1, 1) := by decide +kernel
theorem dX11_lately_2 : decode cX11_lately 2 = .ok (.invokevirtual 135, 3) := by decide +kernel
theorem dX11_lately_5 : decode cX11_lately 5 = .ok (.ifCond .ne 5, 3) := by decide +kernel
theorem dX11_lately_8 : decode cX11_lately 8 = .ok (.iconst (-1), 1) := by decide +kernel
theorem dX11_lately_9 : decode cX11_lately 9 = .ok (.ireturn, 1) := by decide +kernel
theorem dX11_lately_10 : decode cX11_lately 10 = .ok (.aload_n 0, 1) := by decide +kernel
theorem dX11_lately_11 : decode cX11_lately 11 = .ok (.getfield 52, 3) := by decide +kernel
theorem dX11_lately_14 : decode cX11_lately 14 = .ok (.invokevirtual 396, 3) := by decide +kernel
theorem dX11_lately_17 : decode cX11_lately 17 = .ok (.iconst 0, 1) := by decide +kernel
theorem dX11_lately_18 : decode cX11_lately 18 = .ok (.istore_n 2, 1) := by decide +kernel
theorem dX11_lately_19 : decode cX11_lately 19 = .ok (.iconst 0, 1) := by decide +kernel
theorem dX11_lately_20 : decode cX11_lately 20 = .ok (.istore_n 3, 1) := by decide +kernel
theorem dX11_lately_21 : decode cX11_lately 21 = .ok (.iload_n 3, 1) := by decide +kernel
theorem dX11_lately_22 : decode cX11_lately 22 = .ok (.iconst 5, 1) := by decide +kernel
theorem dX11_lately_23 : decode cX11_lately 23 = .ok (.if_icmp .gt 24, 3) := by decide +kernel
theorem dX11_lately_26 : decode cX11_lately 26 = .ok (.aload_n 0, 1) := by decide +kernel
theorem dX11_lately_27 : decode cX11_lately 27 = .ok (.iload_n 1, 1) := by decide +kernel
theorem dX11_lately_28 : decode cX11_lately 28 = .ok (.iload_n 3, 1) := by decide +kernel
theorem dX11_lately_29 : decode cX11_lately 29 = .ok (.invokevirtual 399, 3) := by decide +kernel
theorem dX11_lately_32 : decode cX11_lately 32 = .ok (.ifCond .eq 9, 3) := by decide +kernel
theorem dX11_lately_35 : decode cX11_lately 35 = .ok (.iload_n 2, 1) := by decide +kernel
theorem dX11_lately_36 : decode cX11_lately 36 = .ok (.iconst 1, 1) := by decide +kernel
theorem dX11_lately_37 : decode cX11_lately 37 = .ok (.iload_n 3, 1) := by decide +kernel
theorem dX11_lately_38 : decode cX11_lately 38 = .ok (.ishl, 1) := by decide +kernel
theorem dX11_lately_39 : decode cX11_lately 39 = .ok (.ior, 1) := by decide +kernel
theorem dX11_lately_40 : decode cX11_lately 40 = .ok (.istore_n 2, 1) := by decide +kernel
theorem dX11_lately_41 : decode cX11_lately 41 = .ok (.iinc 3 1, 3) := by decide +kernel
theorem dX11_lately_44 : decode cX11_lately 44 = .ok (.goto (-23), 3) := by decide +kernel
theorem dX11_lately_47 : decode cX11_lately 47 = .ok (.iload_n 2, 1) := by decide +kernel
theorem dX11_lately_48 : decode cX11_lately 48 = .ok (.ireturn, 1) := by decide +kernel
def f_X11_lately (M : MM) (p1 : Int) : Option (Int × MM) :=
(f_X11_isPerson M p1).bind fun x1 =>
if x1 = 0 then
(some ((-1), M))
else
(f_X4_ponder M).bind fun x3 =>
lp (X := Int × Int × MM) (Y := Int × MM) (fun x4 =>
if 5 < x4.2.1 then
(some (Sum.inr (x4.1, x4.2.2)))
else
(f_X11_isWornBy x4.2.2 p1 x4.2.1).bind fun x6 =>
((if x6.1 = 0 then
(some x4.1)
else
bI (or32 x4.1 (shl32 1 x4.2.1)) fun x8 =>
some x8) : Option (Int)).bind fun x9 =>
some (Sum.inl (x9, w32 (x4.2.1 + 1), x6.2))) FU (0, 0, x3)
set_option maxRecDepth 4000 in
theorem c_X11_lately {E : EE} {sh : List (Nat × Nat)} {R : RM} {M : MM} {p1 : Int} (hE : Ext sh) (hL : Links R) : ∀ y, f_X11_lately M p1 = some y → MetC E m_X11_lately 0 0 [rV 0, iV p1] (sh, false, R, M) (fun r w' => r = some (iV y.1) ∧ w' = (sh, false, R, y.2)) := by
  intro y hy
  refine MetC.seg (o := f_X11_lately M p1) (t := (fun K y => K (some (iV y.1)) (sh, false, R, y.2))) (L := [some (rV 0), some (iV p1), none, none]) (by decide) rfl (Nat.le_of_ble_eq_true rfl) ?_ hy ⟨rfl, rfl⟩
  unfold f_X11_lately
  refine Seg.step (pc' := 1) (I_aload_n (i := 0) dX11_lately_0 rfl rfl) ?_
  refine Seg.step (pc' := 2) (I_iload_n (i := 1) dX11_lately_1 rfl rfl) ?_
  refine S_callV1 (md' := m_X11_isPerson) (fun y => some (iV y)) (fun y => (sh, false, R, M)) (hE _ _ sk_11) ⟨by decide, rfl⟩ mm_X11_isPerson wm_11_135 ⟨rfl, rfl, by decide, by decide, by decide, by decide⟩ (Nat.le_of_ble_eq_true rfl) dX11_lately_2 (fun y hy => c_X11_isPerson hE hL y hy) (fun x1 => ?_)
  refine S_if_ne (tgt := 10) dX11_lately_5 (by decide) (fun h2 => ?_) (fun h2 => ?_)
  · refine Seg.step (pc' := 9) (I_iconst dX11_lately_8 ⟨by decide, by decide⟩) ?_
    exact S_iret dX11_lately_9 rfl (by decide) (by decide) (fun K hK => hK)
  refine Seg.step (pc' := 11) (I_aload_n (i := 0) dX11_lately_10 rfl rfl) ?_
  refine Seg.step (pc' := 14) (I_getR cls11 (by decide) wf_11_52 (hE _ _ sk_11) rfl (lk_11_9 hL) dX11_lately_11) ?_
  refine S_callV0 (md' := m_X4_ponder) (fun y => none) (fun y => (sh, false, R, y)) (hE _ _ sk_11_9) ⟨by decide, rfl⟩ mm_X4_ponder wm_11_396 ⟨rfl, rfl, by decide, by decide, by decide, by decide⟩ (Nat.le_of_ble_eq_true rfl) dX11_lately_14 (fun y hy => c_X4_ponder hE hL y hy) (fun x3 => ?_)
  refine Seg.step (pc' := 18) (I_iconst dX11_lately_17 ⟨by decide, by decide⟩) ?_
  refine Seg.step (pc' := 19) (I_istore_n (i := 2) dX11_lately_18 rfl (by decide) rfl) ?_
  refine Seg.step (pc' := 20) (I_iconst dX11_lately_19 ⟨by decide, by decide⟩) ?_
  refine Seg.step (pc' := 21) (I_istore_n (i := 3) dX11_lately_20 rfl (by decide) rfl) ?_
  refine Seg.forget (Lle.ye (Lle.ye (Lle.ye (Lle.ye (Lle.nil))))) ?_
  refine S_loop (Y := Int × Int × MM) (fun y => [some (rV 0), some (iV p1), some (iV y.1), some (iV y.2.1)]) (fun y => []) (fun y => (sh, false, R, y.2.2)) (fun x4 => ?_) FU (0, 0, x3)
  refine Seg.step (pc' := 22) (I_iload_n (i := 3) dX11_lately_21 rfl rfl) ?_
  refine Seg.step (pc' := 23) (I_iconst dX11_lately_22 ⟨by decide, by decide⟩) ?_
  refine S_icmp_gt (tgt := 47) dX11_lately_23 (by decide) (fun h5 => ?_) (fun h5 => ?_)
  · refine Seg.step (pc' := 48) (I_iload_n (i := 2) dX11_lately_47 rfl rfl) ?_
    exact S_iret dX11_lately_48 rfl (by decide) (by decide) (fun K hK => hK)
  refine Seg.step (pc' := 27) (I_aload_n (i := 0) dX11_lately_26 rfl rfl) ?_
  refine Seg.step (pc' := 28) (I_iload_n (i := 1) dX11_lately_27 rfl rfl) ?_
  refine Seg.step (pc' := 29) (I_iload_n (i := 3) dX11_lately_28 rfl rfl) ?_
  refine S_callV2 (md' := m_X11_isWornBy) (fun y => some (iV y.1)) (fun y => (sh, false, R, y.2)) (hE _ _ sk_11) ⟨by decide, rfl⟩ mm_X11_isWornBy wm_11_399 ⟨rfl, rfl, by decide, by decide, by decide, by decide⟩ (Nat.le_of_ble_eq_true rfl) dX11_lately_29 (fun y hy => c_X11_isWornBy hE hL y hy) (fun x6 => ?_)
  refine S_bind (Y := Int) (k' := 0) (n' := 0) 41 (fun y => [some (rV 0), some (iV p1), some (iV y), some (iV x4.2.1)]) (fun y => []) (fun y => (sh, false, R, x6.2)) ?_ (fun x9 => ?_)
  · refine S_if_eq (tgt := 41) dX11_lately_32 (by decide) (fun h7 => ?_) (fun h7 => ?_)
    · exact S_arr (fun K hK => GG.forget (Lle.ye (Lle.ye (Lle.ye (Lle.ye (Lle.nil))))) hK)
    refine Seg.step (pc' := 36) (I_iload_n (i := 2) dX11_lately_35 rfl rfl) ?_
    refine Seg.step (pc' := 37) (I_iconst dX11_lately_36 ⟨by decide, by decide⟩) ?_
    refine Seg.step (pc' := 38) (I_iload_n (i := 3) dX11_lately_37 rfl rfl) ?_
    refine Seg.step (pc' := 39) (I_ishl dX11_lately_38) ?_
    refine Seg.step (pc' := 40) (I_ior dX11_lately_39) ?_
    refine S_bI fun x8 => ?_
    refine Seg.step (pc' := 41) (I_istore_n (i := 2) dX11_lately_40 rfl (by decide) rfl) ?_
    exact S_arr (fun K hK => GG.forget (Lle.ye (Lle.ye (Lle.ye (Lle.ye (Lle.nil))))) hK)
  refine Seg.step (pc' := 44) (I_iinc dX11_lately_41 rfl (by decide) rfl) ?_
  refine Seg.step (pc' := 21) (I_goto (tgt := 21) dX11_lately_44 (by decide)) ?_
  exact S_arr (fun K hK => GG.forget (Lle.ye (Lle.ye (Lle.ye (Lle.ye (Lle.nil))))) hK)
