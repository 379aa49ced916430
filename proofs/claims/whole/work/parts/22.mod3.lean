theorem dX12_layStill_0 : decode cX12_layStill 0 = .ok (.aload_n 0, 1) := by decide +kernel
theorem dX12_layStill_1 : decode cX12_layStill 1 = .ok (.invokevirtual 430, 3) := by decide +kernel
theorem dX12_layStill_4 : decode cX12_layStill 4 = .ok (.aload_n 0, 1) := by decide +kernel
theorem dX12_layStill_5 : decode cX12_layStill 5 = .ok (.iconst 1, 1) := by decide +kernel
theorem dX12_layStill_6 : decode cX12_layStill 6 = .ok (.putfield 397, 3) := by decide +kernel
theorem dX12_layStill_9 : decode cX12_layStill 9 = .ok (.aload_n 0, 1) := by decide +kernel
theorem dX12_layStill_10 : decode cX12_layStill 10 = .ok (.getfield 112, 3) := by decide +kernel
theorem dX12_layStill_13 : decode cX12_layStill 13 = .ok (.iconst 1, 1) := by decide +kernel
theorem dX12_layStill_14 : decode cX12_layStill 14 = .ok (.iload_n 1, 1) := by decide +kernel
theorem dX12_layStill_15 : decode cX12_layStill 15 = .ok (.iastore, 1) := by decide +kernel
theorem dX12_layStill_16 : decode cX12_layStill 16 = .ok (.return_, 1) := by decide +kernel
def f_X12_layStill (M : MM) (p1 : Int) : Option (MM) :=
(f_X12_layTried M).bind fun x1 =>
bM (upM x1 88 69 1) fun M2 =>
bM (upM M2 121 1 p1) fun M3 =>
some M3
set_option maxRecDepth 4000 in
theorem c_X12_layStill {E : EE} {sh : List (Nat × Nat)} {ex : Bool} {R : RM} {M : MM} {p1 : Int} (hE : Ext sh) (hL : Links R) : ∀ y, f_X12_layStill M p1 = some y → MetC E m_X12_layStill 0 0 [rV 88, iV p1] (sh, ex, R, M) (fun r w' => r = none ∧ w' = (sh, ex, R, y)) := by
  intro y hy
  refine MetC.seg (o := f_X12_layStill M p1) (t := (fun K y => K (none) (sh, ex, R, y))) (L := [some (rV 88), some (iV p1)]) (by decide) rfl (Nat.le_of_ble_eq_true rfl) ?_ hy ⟨rfl, rfl⟩
  unfold f_X12_layStill
  refine Seg.step (pc' := 1) (I_aload_n (i := 0) dX12_layStill_0 rfl rfl) ?_
  refine S_callV0 (md' := m_X12_layTried) (fun y => none) (fun y => (sh, ex, R, y)) (hE _ _ sk_12) ⟨by decide, rfl⟩ mm_X12_layTried wm_12_430 ⟨rfl, rfl, by decide, by decide, by decide, by decide⟩ (Nat.le_of_ble_eq_true rfl) dX12_layStill_1 (fun y hy => c_X12_layTried hE hL y hy) (fun x1 => ?_)
  refine Seg.step (pc' := 5) (I_aload_n (i := 0) dX12_layStill_4 rfl rfl) ?_
  refine Seg.step (pc' := 6) (I_iconst dX12_layStill_5 ⟨by decide, by decide⟩) ?_
  refine Seg.step (pc' := 9) (I_putZ cls12 (by decide) wf_12_397 (hE _ _ sk_12) rfl rfl (by decide) dX12_layStill_6) ?_
  refine S_bM fun M2 => ?_
  refine Seg.step (pc' := 10) (I_aload_n (i := 0) dX12_layStill_9 rfl rfl) ?_
  refine Seg.step (pc' := 13) (I_getR cls12 (by decide) wf_12_112 (hE _ _ sk_12) rfl (lk_12_59 hL) dX12_layStill_10) ?_
  refine Seg.step (pc' := 14) (I_iconst dX12_layStill_13 ⟨by decide, by decide⟩) ?_
  refine Seg.step (pc' := 15) (I_iload_n (i := 1) dX12_layStill_14 rfl rfl) ?_
  refine Seg.step (pc' := 16) (I_iast (hE _ _ sk_12_59) ⟨by decide, by decide⟩ dX12_layStill_15) ?_
  refine S_bM fun M3 => ?_
  exact S_vret dX12_layStill_16 rfl (by decide) (by decide) (fun K hK => hK)
theorem dX12_isRoom_0 : decode cX12_isRoom 0 = .ok (.iload_n 1, 1) := by decide +kernel
theorem dX12_isRoom_1 : decode cX12_isRoom 1 = .ok (.ifCond .lt 15, 3) := by decide +kernel
theorem dX12_isRoom_4 : decode cX12_isRoom 4 = .ok (.iload_n 1, 1) := by decide +kernel
theorem dX12_isRoom_5 : decode cX12_isRoom 5 = .ok (.aload_n 0, 1) := by decide +kernel
theorem dX12_isRoom_6 : decode cX12_isRoom 6 = .ok (.getfield 255, 3) := by decide +kernel
theorem dX12_isRoom_9 : decode cX12_isRoom 9 = .ok (.if_icmp .ge 7, 3) := by decide +kernel
theorem dX12_isRoom_12 : decode cX12_isRoom 12 = .ok (.iconst 1, 1) := by decide +kernel
theorem dX12_isRoom_13 : decode cX12_isRoom 13 = .ok (.goto 4, 3) := by decide +kernel
theorem dX12_isRoom_16 : decode cX12_isRoom 16 = .ok (.iconst 0, 1) := by decide +kernel
theorem dX12_isRoom_17 : decode cX12_isRoom 17 = .ok (.ireturn, 1) := by decide +kernel
def f_X12_isRoom (M : MM) (p1 : Int) : Option (Int) :=
if p1 < 0 then
(some 0)
else
if p1 < (M 88 12) then
(some 1)
else
some 0
set_option maxRecDepth 4000 in
theorem c_X12_isRoom {E : EE} {sh : List (Nat × Nat)} {ex : Bool} {R : RM} {M : MM} {p1 : Int} (hE : Ext sh) (hL : Links R) : ∀ y, f_X12_isRoom M p1 = some y → MetC E m_X12_isRoom 0 0 [rV 88, iV p1] (sh, ex, R, M) (fun r w' => r = some (iV y) ∧ w' = (sh, ex, R, M)) := by
  intro y hy
  refine MetC.seg (o := f_X12_isRoom M p1) (t := (fun K y => K (some (iV y)) (sh, ex, R, M))) (L := [some (rV 88), some (iV p1)]) (by decide) rfl (Nat.le_of_ble_eq_true rfl) ?_ hy ⟨rfl, rfl⟩
  unfold f_X12_isRoom
  refine Seg.step (pc' := 1) (I_iload_n (i := 1) dX12_isRoom_0 rfl rfl) ?_
  refine S_if_lt (tgt := 16) dX12_isRoom_1 (by decide) (fun h1 => ?_) (fun h1 => ?_)
  · refine Seg.step (pc' := 17) (I_iconst dX12_isRoom_16 ⟨by decide, by decide⟩) ?_
    exact S_zret dX12_isRoom_17 rfl (by decide) (by decide) (by decide) (fun K hK => hK)
  refine Seg.step (pc' := 5) (I_iload_n (i := 1) dX12_isRoom_4 rfl rfl) ?_
  refine Seg.step (pc' := 6) (I_aload_n (i := 0) dX12_isRoom_5 rfl rfl) ?_
  refine Seg.step (pc' := 9) (I_getI cls12 (by decide) wf_12_255 (hE _ _ sk_12) rfl dX12_isRoom_6) ?_
  refine S_icmp_ge (tgt := 16) dX12_isRoom_9 (by decide) (fun h2 => ?_) (fun h2 => ?_)
  · refine Seg.step (pc' := 13) (I_iconst dX12_isRoom_12 ⟨by decide, by decide⟩) ?_
    refine Seg.step (pc' := 17) (I_goto (tgt := 17) dX12_isRoom_13 (by decide)) ?_
    exact S_zret dX12_isRoom_17 rfl (by decide) (by decide) (by decide) (fun K hK => hK)
  refine Seg.step (pc' := 17) (I_iconst dX12_isRoom_16 ⟨by decide, by decide⟩) ?_
  exact S_zret dX12_isRoom_17 rfl (by decide) (by decide) (by decide) (fun K hK => hK)
theorem dX12_isPerson_0 : decode cX12_isPerson 0 = .ok (.iload_n 1, 1) := by decide +kernel
theorem dX12_isPerson_1 : decode cX12_isPerson 1 = .ok (.ifCond .lt 15, 3) := by decide +kernel
theorem dX12_isPerson_4 : decode cX12_isPerson 4 = .ok (.iload_n 1, 1) := by decide +kernel
theorem dX12_isPerson_5 : decode cX12_isPerson 5 = .ok (.aload_n 0, 1) := by decide +kernel
theorem dX12_isPerson_6 : decode cX12_isPerson 6 = .ok (.getfield 258, 3) := by decide +kernel
theorem dX12_isPerson_9 : decode cX12_isPerson 9 = .ok (.if_icmp .ge 7, 3) := by decide +kernel
theorem dX12_isPerson_12 : decode cX12_isPerson 12 = .ok (.iconst 1, 1) := by decide +kernel
theorem dX12_isPerson_13 : decode cX12_isPerson 13 = .ok (.goto 4, 3) := by decide +kernel
theorem dX12_isPerson_16 : decode cX12_isPerson 16 = .ok (.iconst 0, 1) := by decide +kernel
theorem dX12_isPerson_17 : decode cX12_isPerson 17 = .ok (.ireturn, 1) := by decide +kernel
def f_X12_isPerson (M : MM) (p1 : Int) : Option (Int) :=
if p1 < 0 then
(some 0)
else
if p1 < (M 88 13) then
(some 1)
else
some 0
set_option maxRecDepth 4000 in
theorem c_X12_isPerson {E : EE} {sh : List (Nat × Nat)} {ex : Bool} {R : RM} {M : MM} {p1 : Int} (hE : Ext sh) (hL : Links R) : ∀ y, f_X12_isPerson M p1 = some y → MetC E m_X12_isPerson 0 0 [rV 88, iV p1] (sh, ex, R, M) (fun r w' => r = some (iV y) ∧ w' = (sh, ex, R, M)) := by
  intro y hy
  refine MetC.seg (o := f_X12_isPerson M p1) (t := (fun K y => K (some (iV y)) (sh, ex, R, M))) (L := [some (rV 88), some (iV p1)]) (by decide) rfl (Nat.le_of_ble_eq_true rfl) ?_ hy ⟨rfl, rfl⟩
  unfold f_X12_isPerson
  refine Seg.step (pc' := 1) (I_iload_n (i := 1) dX12_isPerson_0 rfl rfl) ?_
  refine S_if_lt (tgt := 16) dX12_isPerson_1 (by decide) (fun h1 => ?_) (fun h1 => ?_)
  · refine Seg.step (pc' := 17) (I_iconst dX12_isPerson_16 ⟨by decide, by decide⟩) ?_
    exact S_zret dX12_isPerson_17 rfl (by decide) (by decide) (by decide) (fun K hK => hK)
  refine Seg.step (pc' := 5) (I_iload_n (i := 1) dX12_isPerson_4 rfl rfl) ?_
  refine Seg.step (pc' := 6) (I_aload_n (i := 0) dX12_isPerson_5 rfl rfl) ?_
  refine Seg.step (pc' := 9) (I_getI cls12 (by decide) wf_12_258 (hE _ _ sk_12) rfl dX12_isPerson_6) ?_
  refine S_icmp_ge (tgt := 16) dX12_isPerson_9 (by decide) (fun h2 => ?_) (fun h2 => ?_)
  · refine Seg.step (pc' := 13) (I_iconst dX12_isPerson_12 ⟨by decide, by decide⟩) ?_
    refine Seg.step (pc' := 17) (I_goto (tgt := 17) dX12_isPerson_13 (by decide)) ?_
    exact S_zret dX12_isPerson_17 rfl (by decide) (by decide) (by decide) (fun K hK => hK)
  refine Seg.step (pc' := 17) (I_iconst dX12_isPerson_16 ⟨by decide, by decide⟩) ?_
  exact S_zret dX12_isPerson_17 rfl (by decide) (by decide) (by decide) (fun K hK => hK)
theorem dX12_isSet_0 : decode cX12_isSet 0 = .ok (.iload_n 0, 1) := by decide +kernel
theorem dX12_isSet_1 : decode cX12_isSet 1 = .ok (.iconst 5, 1) := by decide +kernel
theorem dX12_isSet_2 : decode cX12_isSet 2 = .ok (.bipush 30, 2) := by decide +kernel
theorem dX12_isSet_4 : decode cX12_isSet 4 = .ok (.invokestatic 220, 3) := by decide +kernel
theorem dX12_isSet_7 : decode cX12_isSet 7 = .ok (.ireturn, 1) := by decide +kernel
def f_X12_isSet (M : MM) (p1 : Int) : Option (Int) :=
(f_X12_isIn M p1 5 30).bind fun x1 =>
gd (x1 = 0 ∨ x1 = 1) <|
some x1
set_option maxRecDepth 4000 in
theorem c_X12_isSet {E : EE} {sh : List (Nat × Nat)} {ex : Bool} {R : RM} {M : MM} {p1 : Int} (hE : Ext sh) (hL : Links R) : ∀ y, f_X12_isSet M p1 = some y → MetC E m_X12_isSet 0 0 [iV p1] (sh, ex, R, M) (fun r w' => r = some (iV y) ∧ w' = (sh, ex, R, M)) := by
  intro y hy
  refine MetC.seg (o := f_X12_isSet M p1) (t := (fun K y => K (some (iV y)) (sh, ex, R, M))) (L := [some (iV p1)]) (by decide) rfl (Nat.le_of_ble_eq_true rfl) ?_ hy ⟨rfl, rfl⟩
  unfold f_X12_isSet
  refine Seg.step (pc' := 1) (I_iload_n (i := 0) dX12_isSet_0 rfl rfl) ?_
  refine Seg.step (pc' := 2) (I_iconst dX12_isSet_1 ⟨by decide, by decide⟩) ?_
  refine Seg.step (pc' := 4) (I_bipush dX12_isSet_2 (by decide) ⟨by decide, by decide⟩) ?_
  refine S_callS3 (md' := m_X12_isIn) (fun y => some (iV y)) (fun y => (sh, ex, R, M)) mm_X12_isIn wm_12_220 ⟨rfl, rfl, by decide, by decide, by decide, by decide⟩ (Nat.le_of_ble_eq_true rfl) dX12_isSet_4 (fun y hy => c_X12_isIn hE hL y hy) (fun x1 => ?_)
  refine S_gd fun h2 => ?_
  exact S_zret dX12_isSet_7 rfl h2 (by decide) (by decide) (fun K hK => hK)
theorem dX12_within_0 : decode cX12_within 0 = .ok (.iload_n 0, 1) := by decide +kernel
theorem dX12_within_1 : decode cX12_within 1 = .ok (.iload_n 1, 1) := by decide +kernel
theorem dX12_within_2 : decode cX12_within 2 = .ok (.if_icmp .ge 7, 3) := by decide +kernel
theorem dX12_within_5 : decode cX12_within 5 = .ok (.iload_n 1, 1) := by decide +kernel
theorem dX12_within_6 : decode cX12_within 6 = .ok (.goto 13, 3) := by decide +kernel
theorem dX12_within_9 : decode cX12_within 9 = .ok (.iload_n 0, 1) := by decide +kernel
theorem dX12_within_10 : decode cX12_within 10 = .ok (.iload_n 2, 1) := by decide +kernel
theorem dX12_within_11 : decode cX12_within 11 = .ok (.if_icmp .le 7, 3) := by decide +kernel
theorem dX12_within_14 : decode cX12_within 14 = .ok (.iload_n 2, 1) := by decide +kernel
theorem dX12_within_15 : decode cX12_within 15 = .ok (.goto 4, 3) := by decide +kernel
theorem dX12_within_18 : decode cX12_within 18 = .ok (.iload_n 0, 1) := by decide +kernel
theorem dX12_within_19 : decode cX12_within 19 = .ok (.ireturn, 1) := by decide +kernel
def f_X12_within (M : MM) (p1 : Int) (p2 : Int) (p3 : Int) : Option (Int) :=
if p1 < p2 then
(some p2)
else
if p3 < p1 then
(some p3)
else
some p1
set_option maxRecDepth 4000 in
theorem c_X12_within {E : EE} {sh : List (Nat × Nat)} {ex : Bool} {R : RM} {M : MM} {p1 : Int} {p2 : Int} {p3 : Int} (hE : Ext sh) (hL : Links R) : ∀ y, f_X12_within M p1 p2 p3 = some y → MetC E m_X12_within 0 0 [iV p1, iV p2, iV p3] (sh, ex, R, M) (fun r w' => r = some (iV y) ∧ w' = (sh, ex, R, M)) := by
  intro y hy
  refine MetC.seg (o := f_X12_within M p1 p2 p3) (t := (fun K y => K (some (iV y)) (sh, ex, R, M))) (L := [some (iV p1), some (iV p2), some (iV p3)]) (by decide) rfl (Nat.le_of_ble_eq_true rfl) ?_ hy ⟨rfl, rfl⟩
  unfold f_X12_within
  refine Seg.step (pc' := 1) (I_iload_n (i := 0) dX12_within_0 rfl rfl) ?_
  refine Seg.step (pc' := 2) (I_iload_n (i := 1) dX12_within_1 rfl rfl) ?_
  refine S_icmp_ge (tgt := 9) dX12_within_2 (by decide) (fun h1 => ?_) (fun h1 => ?_)
  · refine Seg.step (pc' := 6) (I_iload_n (i := 1) dX12_within_5 rfl rfl) ?_
    refine Seg.step (pc' := 19) (I_goto (tgt := 19) dX12_within_6 (by decide)) ?_
    exact S_iret dX12_within_19 rfl (by decide) (by decide) (fun K hK => hK)
  refine Seg.step (pc' := 10) (I_iload_n (i := 0) dX12_within_9 rfl rfl) ?_
  refine Seg.step (pc' := 11) (I_iload_n (i := 2) dX12_within_10 rfl rfl) ?_
  refine S_icmp_le (tgt := 18) dX12_within_11 (by decide) (fun h2 => ?_) (fun h2 => ?_)
  · refine Seg.step (pc' := 15) (I_iload_n (i := 2) dX12_within_14 rfl rfl) ?_
    refine Seg.step (pc' := 19) (I_goto (tgt := 19) dX12_within_15 (by decide)) ?_
    exact S_iret dX12_within_19 rfl (by decide) (by decide) (fun K hK => hK)
  refine Seg.step (pc' := 19) (I_iload_n (i := 0) dX12_within_18 rfl rfl) ?_
  exact S_iret dX12_within_19 rfl (by decide) (by decide) (fun K hK => hK)
theorem dX12_outOf_0 : decode cX12_outOf 0 = .ok (.aload_n 0, 1) := by decide +kernel
theorem dX12_outOf_1 : decode cX12_outOf 1 = .ok (.getfield 264, 3) := by decide +kernel
theorem dX12_outOf_4 : decode cX12_outOf 4 = .ok (.ifCond .ne 8, 3) := by decide +kernel
theorem dX12_outOf_7 : decode cX12_outOf 7 = .ok (.bipush 100, 2) := by decide +kernel
theorem dX12_outOf_9 : decode cX12_outOf 9 = .ok (.goto 14, 3) := by decide +kernel
theorem dX12_outOf_12 : decode cX12_outOf 12 = .ok (.aload_n 0, 1) := by decide +kernel
theorem dX12_outOf_13 : decode cX12_outOf 13 = .ok (.getfield 63, 3) := by decide +kernel
theorem dX12_outOf_16 : decode cX12_outOf 16 = .ok (.iload_n 1, 1) := by decide +kernel
theorem dX12_outOf_17 : decode cX12_outOf 17 = .ok (.aload_n 0, 1) := by decide +kernel
theorem dX12_outOf_18 : decode cX12_outOf 18 = .ok (.getfield 264, 3) := by decide +kernel
theorem dX12_outOf_21 : decode cX12_outOf 21 = .ok (.irem, 1) := by decide +kernel
theorem dX12_outOf_22 : decode cX12_outOf 22 = .ok (.iaload, 1) := by decide +kernel
theorem dX12_outOf_23 : decode cX12_outOf 23 = .ok (.istore_n 2, 1) := by decide +kernel
theorem dX12_outOf_24 : decode cX12_outOf 24 = .ok (.iload_n 2, 1) := by decide +kernel
theorem dX12_outOf_25 : decode cX12_outOf 25 = .ok (.aload_n 0, 1) := by decide +kernel
theorem dX12_outOf_26 : decode cX12_outOf 26 = .ok (.getfield 421, 3) := by decide +kernel
theorem dX12_outOf_29 : decode cX12_outOf 29 = .ok (.iadd, 1) := by decide +kernel
theorem dX12_outOf_30 : decode cX12_outOf 30 = .ok (.iconst 0, 1) := by decide +kernel
theorem dX12_outOf_31 : decode cX12_outOf 31 = .ok (.sipush 400, 3) := by decide +kernel
theorem dX12_outOf_34 : decode cX12_outOf 34 = .ok (.invokestatic 433, 3) := by decide +kernel
theorem dX12_outOf_37 : decode cX12_outOf 37 = .ok (.ireturn, 1) := by decide +kernel
def f_X12_outOf (M : MM) (p1 : Int) : Option (Int) :=
((if (M 88 15) = 0 then
(some 100)
else
gd (M 88 15 ≠ 0) <|
gd (0 ≤ w32 (Int.tmod p1 (M 88 15)) ∧ w32 (Int.tmod p1 (M 88 15)) < (16 : Int)) <|
some (M 105 (w32 (Int.tmod p1 (M 88 15))).toNat)) : Option (Int)).bind fun x4 =>
(f_X12_within M (w32 (x4 + (M 88 77))) 0 400).bind fun x5 =>
some x5
set_option maxRecDepth 4000 in
theorem c_X12_outOf {E : EE} {sh : List (Nat × Nat)} {ex : Bool} {R : RM} {M : MM} {p1 : Int} (hE : Ext sh) (hL : Links R) : ∀ y, f_X12_outOf M p1 = some y → MetC E m_X12_outOf 0 0 [rV 88, iV p1] (sh, ex, R, M) (fun r w' => r = some (iV y) ∧ w' = (sh, ex, R, M)) := by
  intro y hy
  refine MetC.seg (o := f_X12_outOf M p1) (t := (fun K y => K (some (iV y)) (sh, ex, R, M))) (L := [some (rV 88), some (iV p1), none]) (by decide) rfl (Nat.le_of_ble_eq_true rfl) ?_ hy ⟨rfl, rfl⟩
  unfold f_X12_outOf
  refine Seg.step (pc' := 1) (I_aload_n (i := 0) dX12_outOf_0 rfl rfl) ?_
  refine Seg.step (pc' := 4) (I_getI cls12 (by decide) wf_12_264 (hE _ _ sk_12) rfl dX12_outOf_1) ?_
  refine S_bind (Y := Int) (k' := 0) (n' := 0) 23 (fun y => [some (rV 88), none, none]) (fun y => [iV y]) (fun y => (sh, ex, R, M)) ?_ (fun x4 => ?_)
  · refine S_if_ne (tgt := 12) dX12_outOf_4 (by decide) (fun h1 => ?_) (fun h1 => ?_)
    · refine Seg.step (pc' := 9) (I_bipush dX12_outOf_7 (by decide) ⟨by decide, by decide⟩) ?_
      refine Seg.step (pc' := 23) (I_goto (tgt := 23) dX12_outOf_9 (by decide)) ?_
      exact S_arr (fun K hK => GG.forget (Lle.ye (Lle.no (Lle.no (Lle.nil)))) hK)
    refine Seg.step (pc' := 13) (I_aload_n (i := 0) dX12_outOf_12 rfl rfl) ?_
    refine Seg.step (pc' := 16) (I_getR cls12 (by decide) wf_12_63 (hE _ _ sk_12) rfl (lk_12_36 hL) dX12_outOf_13) ?_
    refine Seg.step (pc' := 17) (I_iload_n (i := 1) dX12_outOf_16 rfl rfl) ?_
    refine Seg.step (pc' := 18) (I_aload_n (i := 0) dX12_outOf_17 rfl rfl) ?_
    refine Seg.step (pc' := 21) (I_getI cls12 (by decide) wf_12_264 (hE _ _ sk_12) rfl dX12_outOf_18) ?_
    refine S_gd fun h2 => ?_
    refine Seg.step (pc' := 22) (I_irem dX12_outOf_21 h2) ?_
    refine S_gd fun h3 => ?_
    refine Seg.step (pc' := 23) (I_iald (hE _ _ sk_12_36) h3 dX12_outOf_22) ?_
    exact S_arr (fun K hK => GG.forget (Lle.ye (Lle.no (Lle.no (Lle.nil)))) hK)
  refine Seg.step (pc' := 24) (I_istore_n (i := 2) dX12_outOf_23 rfl (by decide) rfl) ?_
  refine Seg.step (pc' := 25) (I_iload_n (i := 2) dX12_outOf_24 rfl rfl) ?_
  refine Seg.step (pc' := 26) (I_aload_n (i := 0) dX12_outOf_25 rfl rfl) ?_
  refine Seg.step (pc' := 29) (I_getI cls12 (by decide) wf_12_421 (hE _ _ sk_12) rfl dX12_outOf_26) ?_
  refine Seg.step (pc' := 30) (I_iadd dX12_outOf_29) ?_
  refine Seg.step (pc' := 31) (I_iconst dX12_outOf_30 ⟨by decide, by decide⟩) ?_
  refine Seg.step (pc' := 34) (I_sipush dX12_outOf_31 (by decide) ⟨by decide, by decide⟩) ?_
  refine S_callS3 (md' := m_X12_within) (fun y => some (iV y)) (fun y => (sh, ex, R, M)) mm_X12_within wm_12_433 ⟨rfl, rfl, by decide, by decide, by decide, by decide⟩ (Nat.le_of_ble_eq_true rfl) dX12_outOf_34 (fun y hy => c_X12_within hE hL y hy) (fun x5 => ?_)
  exact S_iret dX12_outOf_37 rfl (by decide) (by decide) (fun K hK => hK)
theorem dX12_leakOf_0 : decode cX12_leakOf 0 = .ok (.iload_n 1, 1) := by decide +kernel
theorem dX12_leakOf_1 : decode cX12_leakOf 1 = .ok (.aload_n 0, 1) := by decide +kernel
theorem dX12_leakOf_2 : decode cX12_leakOf 2 = .ok (.getfield 412, 3) := by decide +kernel
theorem dX12_leakOf_5 : decode cX12_leakOf 5 = .ok (.if_icmp .ne 14, 3) := by decide +kernel
theorem dX12_leakOf_8 : decode cX12_leakOf 8 = .ok (.aload_n 0, 1) := by decide +kernel
theorem dX12_leakOf_9 : decode cX12_leakOf 9 = .ok (.getfield 33, 3) := by decide +kernel
theorem dX12_leakOf_12 : decode cX12_leakOf 12 = .ok (.iload_n 1, 1) := by decide +kernel
theorem dX12_leakOf_13 : decode cX12_leakOf 13 = .ok (.iaload, 1) := by decide +kernel
theorem dX12_leakOf_14 : decode cX12_leakOf 14 = .ok (.iconst 2, 1) := by decide +kernel
theorem dX12_leakOf_15 : decode cX12_leakOf 15 = .ok (.idiv, 1) := by decide +kernel
theorem dX12_leakOf_16 : decode cX12_leakOf 16 = .ok (.goto 9, 3) := by decide +kernel
theorem dX12_leakOf_19 : decode cX12_leakOf 19 = .ok (.aload_n 0, 1) := by decide +kernel
theorem dX12_leakOf_20 : decode cX12_leakOf 20 = .ok (.getfield 33, 3) := by decide +kernel
theorem dX12_leakOf_23 : decode cX12_leakOf 23 = .ok (.iload_n 1, 1) := by decide +kernel
theorem dX12_leakOf_24 : decode cX12_leakOf 24 = .ok (.iaload, 1) := by decide +kernel
theorem dX12_leakOf_25 : decode cX12_leakOf 25 = .ok (.ireturn, 1) := by decide +kernel
def f_X12_leakOf (M : MM) (p1 : Int) : Option (Int) :=
if p1 = (M 88 74) then
(gd (0 ≤ p1 ∧ p1 < (10 : Int)) <|
some (w32 (Int.tdiv (M 95 (p1).toNat) 2)))
else
gd (0 ≤ p1 ∧ p1 < (10 : Int)) <|
some (M 95 (p1).toNat)
set_option maxRecDepth 4000 in
theorem c_X12_leakOf {E : EE} {sh : List (Nat × Nat)} {ex : Bool} {R : RM} {M : MM} {p1 : Int} (hE : Ext sh) (hL : Links R) : ∀ y, f_X12_leakOf M p1 = some y → MetC E m_X12_leakOf 0 0 [rV 88, iV p1] (sh, ex, R, M) (fun r w' => r = some (iV y) ∧ w' = (sh, ex, R, M)) := by
  intro y hy
  refine MetC.seg (o := f_X12_leakOf M p1) (t := (fun K y => K (some (iV y)) (sh, ex, R, M))) (L := [some (rV 88), some (iV p1)]) (by decide) rfl (Nat.le_of_ble_eq_true rfl) ?_ hy ⟨rfl, rfl⟩
  unfold f_X12_leakOf
  refine Seg.step (pc' := 1) (I_iload_n (i := 1) dX12_leakOf_0 rfl rfl) ?_
  refine Seg.step (pc' := 2) (I_aload_n (i := 0) dX12_leakOf_1 rfl rfl) ?_
  refine Seg.step (pc' := 5) (I_getI cls12 (by decide) wf_12_412 (hE _ _ sk_12) rfl dX12_leakOf_2) ?_
  refine S_icmp_ne (tgt := 19) dX12_leakOf_5 (by decide) (fun h1 => ?_) (fun h1 => ?_)
  · refine Seg.step (pc' := 9) (I_aload_n (i := 0) dX12_leakOf_8 rfl rfl) ?_
    refine Seg.step (pc' := 12) (I_getR cls12 (by decide) wf_12_33 (hE _ _ sk_12) rfl (lk_12_26 hL) dX12_leakOf_9) ?_
    refine Seg.step (pc' := 13) (I_iload_n (i := 1) dX12_leakOf_12 rfl rfl) ?_
    refine S_gd fun h2 => ?_
    refine Seg.step (pc' := 14) (I_iald (hE _ _ sk_12_26) h2 dX12_leakOf_13) ?_
    refine Seg.step (pc' := 15) (I_iconst dX12_leakOf_14 ⟨by decide, by decide⟩) ?_
    refine Seg.step (pc' := 16) (I_idiv dX12_leakOf_15 (by decide)) ?_
    refine Seg.step (pc' := 25) (I_goto (tgt := 25) dX12_leakOf_16 (by decide)) ?_
    exact S_iret dX12_leakOf_25 rfl (by decide) (by decide) (fun K hK => hK)
  refine Seg.step (pc' := 20) (I_aload_n (i := 0) dX12_leakOf_19 rfl rfl) ?_
  refine Seg.step (pc' := 23) (I_getR cls12 (by decide) wf_12_33 (hE _ _ sk_12) rfl (lk_12_26 hL) dX12_leakOf_20) ?_
  refine Seg.step (pc' := 24) (I_iload_n (i := 1) dX12_leakOf_23 rfl rfl) ?_
  refine S_gd fun h3 => ?_
  refine Seg.step (pc' := 25) (I_iald (hE _ _ sk_12_26) h3 dX12_leakOf_24) ?_
  exact S_iret dX12_leakOf_25 rfl (by decide) (by decide) (fun K hK => hK)
theorem dX12_feltBy_0 : decode cX12_feltBy 0 = .ok (.aload_n 0, 1) := by decide +kernel
theorem dX12_feltBy_1 : decode cX12_feltBy 1 = .ok (.getfield 403, 3) := by decide +kernel
theorem dX12_feltBy_4 : decode cX12_feltBy 4 = .ok (.ifCond .eq 7, 3) := by decide +kernel
theorem dX12_feltBy_7 : decode cX12_feltBy 7 = .ok (.iconst 0, 1) := by decide +kernel
theorem dX12_feltBy_8 : decode cX12_feltBy 8 = .ok (.goto 24, 3) := by decide +kernel
theorem dX12_feltBy_11 : decode cX12_feltBy 11 = .ok (.iload_n 2, 1) := by decide +kernel
theorem dX12_feltBy_12 : decode cX12_feltBy 12 = .ok (.aload_n 0, 1) := by decide +kernel
theorem dX12_feltBy_13 : decode cX12_feltBy 13 = .ok (.getfield 415, 3) := by decide +kernel
theorem dX12_feltBy_16 : decode cX12_feltBy 16 = .ok (.if_icmp .ne 10, 3) := by decide +kernel
theorem dX12_feltBy_19 : decode cX12_feltBy 19 = .ok (.aload_n 0, 1) := by decide +kernel
theorem dX12_feltBy_20 : decode cX12_feltBy 20 = .ok (.getfield 418, 3) := by decide +kernel
theorem dX12_feltBy_23 : decode cX12_feltBy 23 = .ok (.goto 9, 3) := by decide +kernel
theorem dX12_feltBy_26 : decode cX12_feltBy 26 = .ok (.aload_n 0, 1) := by decide +kernel
theorem dX12_feltBy_27 : decode cX12_feltBy 27 = .ok (.getfield 48, 3) := by decide +kernel
theorem dX12_feltBy_30 : decode cX12_feltBy 30 = .ok (.iload_n 2, 1) := by decide +kernel
theorem dX12_feltBy_31 : decode cX12_feltBy 31 = .ok (.iaload, 1) := by decide +kernel
theorem dX12_feltBy_32 : decode cX12_feltBy 32 = .ok (.istore_n 3, 1) := by decide +kernel
theorem dX12_feltBy_33 : decode cX12_feltBy 33 = .ok (.aload_n 0, 1) := by decide +kernel
theorem dX12_feltBy_34 : decode cX12_feltBy 34 = .ok (.getfield 100, 3) := by decide +kernel
theorem dX12_feltBy_37 : decode cX12_feltBy 37 = .ok (.bipush 30, 2) := by decide +kernel
theorem dX12_feltBy_39 : decode cX12_feltBy 39 = .ok (.iload_n 1, 1) := by decide +kernel
theorem dX12_feltBy_40 : decode cX12_feltBy 40 = .ok (.imul, 1) := by decide +kernel
theorem dX12_feltBy_41 : decode cX12_feltBy 41 = .ok (.bipush 6, 2) := by decide +kernel
theorem dX12_feltBy_43 : decode cX12_feltBy 43 = .ok (.aload_n 0, 1) := by decide +kernel
theorem dX12_feltBy_44 : decode cX12_feltBy 44 = .ok (.getfield 42, 3) := by decide +kernel
theorem dX12_feltBy_47 : decode cX12_feltBy 47 = .ok (.iload_n 2, 1) := by decide +kernel
theorem dX12_feltBy_48 : decode cX12_feltBy 48 = .ok (.iaload, 1) := by decide +kernel
theorem dX12_feltBy_49 : decode cX12_feltBy 49 = .ok (.imul, 1) := by decide +kernel
theorem dX12_feltBy_50 : decode cX12_feltBy 50 = .ok (.iadd, 1) := by decide +kernel
theorem dX12_feltBy_51 : decode cX12_feltBy 51 = .ok (.iload_n 3, 1) := by decide +kernel
theorem dX12_feltBy_52 : decode cX12_feltBy 52 = .ok (.iadd, 1) := by decide +kernel
theorem dX12_feltBy_53 : decode cX12_feltBy 53 = .ok (.iaload, 1) := by decide +kernel
theorem dX12_feltBy_54 : decode cX12_feltBy 54 = .ok (.aload_n 0, 1) := by decide +kernel
theorem dX12_feltBy_55 : decode cX12_feltBy 55 = .ok (.getfield 109, 3) := by decide +kernel
theorem dX12_feltBy_58 : decode cX12_feltBy 58 = .ok (.iconst 5, 1) := by decide +kernel
theorem dX12_feltBy_59 : decode cX12_feltBy 59 = .ok (.iload_n 1, 1) := by decide +kernel
theorem dX12_feltBy_60 : decode cX12_feltBy 60 = .ok (.imul, 1) := by decide +kernel
theorem dX12_feltBy_61 : decode cX12_feltBy 61 = .ok (.iload_n 2, 1) := by decide +kernel
theorem dX12_feltBy_62 : decode cX12_feltBy 62 = .ok (.iadd, 1) := by decide +kernel
theorem dX12_feltBy_63 : decode cX12_feltBy 63 = .ok (.baload, 1) := by decide +kernel
theorem dX12_feltBy_64 : decode cX12_feltBy 64 = .ok (.ifCond .eq 8, 3) := by decide +kernel
theorem dX12_feltBy_67 : decode cX12_feltBy 67 = .ok (.bipush 20, 2) := by decide +kernel
theorem dX12_feltBy_69 : decode cX12_feltBy 69 = .ok (.goto 4, 3) := by decide +kernel
theorem dX12_feltBy_72 : decode cX12_feltBy 72 = .ok (.iconst 0, 1) := by decide +kernel
theorem dX12_feltBy_73 : decode cX12_feltBy 73 = .ok (.iadd, 1) := by decide +kernel
theorem dX12_feltBy_74 : decode cX12_feltBy 74 = .ok (.ireturn, 1) := by decide +kernel
def f_X12_feltBy (M : MM) (p1 : Int) (p2 : Int) : Option (Int) :=
((if (M 88 71) = 0 then
(if p2 = (M 88 75) then
(some (M 88 76))
else
gd (0 ≤ p2 ∧ p2 < (10 : Int)) <|
some (M 100 (p2).toNat))
else
some 0) : Option (Int)).bind fun x4 =>
gd (0 ≤ p2 ∧ p2 < (10 : Int)) <|
gd (0 ≤ w32 ((w32 ((w32 (30 * p1)) + (w32 (6 * (M 98 (p2).toNat))))) + x4) ∧ w32 ((w32 ((w32 (30 * p1)) + (w32 (6 * (M 98 (p2).toNat))))) + x4) < (60 : Int)) <|
gd (0 ≤ w32 ((w32 (5 * p1)) + p2) ∧ w32 ((w32 (5 * p1)) + p2) < (10 : Int)) <|
((if (M 120 (w32 ((w32 (5 * p1)) + p2)).toNat) = 0 then
(some 0)
else
some 20) : Option (Int)).bind fun x9 =>
some (w32 ((M 117 (w32 ((w32 ((w32 (30 * p1)) + (w32 (6 * (M 98 (p2).toNat))))) + x4)).toNat) + x9))
set_option maxRecDepth 4000 in
theorem c_X12_feltBy {E : EE} {sh : List (Nat × Nat)} {ex : Bool} {R : RM} {M : MM} {p1 : Int} {p2 : Int} (hE : Ext sh) (hL : Links R) : ∀ y, f_X12_feltBy M p1 p2 = some y → MetC E m_X12_feltBy 0 0 [rV 88, iV p1, iV p2] (sh, ex, R, M) (fun r w' => r = some (iV y) ∧ w' = (sh, ex, R, M)) := by
  intro y hy
  refine MetC.seg (o := f_X12_feltBy M p1 p2) (t := (fun K y => K (some (iV y)) (sh, ex, R, M))) (L := [some (rV 88), some (iV p1), some (iV p2), none]) (by decide) rfl (Nat.le_of_ble_eq_true rfl) ?_ hy ⟨rfl, rfl⟩
  unfold f_X12_feltBy
  refine Seg.step (pc' := 1) (I_aload_n (i := 0) dX12_feltBy_0 rfl rfl) ?_
  refine Seg.step (pc' := 4) (I_getZ cls12 (by decide) wf_12_403 (hE _ _ sk_12) rfl dX12_feltBy_1) ?_
  refine S_bind (Y := Int) (k' := 0) (n' := 0) 32 (fun y => [some (rV 88), some (iV p1), some (iV p2), none]) (fun y => [iV y]) (fun y => (sh, ex, R, M)) ?_ (fun x4 => ?_)
  · refine S_if_eq (tgt := 11) dX12_feltBy_4 (by decide) (fun h1 => ?_) (fun h1 => ?_)
    · refine Seg.step (pc' := 12) (I_iload_n (i := 2) dX12_feltBy_11 rfl rfl) ?_
      refine Seg.step (pc' := 13) (I_aload_n (i := 0) dX12_feltBy_12 rfl rfl) ?_
      refine Seg.step (pc' := 16) (I_getI cls12 (by decide) wf_12_415 (hE _ _ sk_12) rfl dX12_feltBy_13) ?_
      refine S_icmp_ne (tgt := 26) dX12_feltBy_16 (by decide) (fun h2 => ?_) (fun h2 => ?_)
      · refine Seg.step (pc' := 20) (I_aload_n (i := 0) dX12_feltBy_19 rfl rfl) ?_
        refine Seg.step (pc' := 23) (I_getI cls12 (by decide) wf_12_418 (hE _ _ sk_12) rfl dX12_feltBy_20) ?_
        refine Seg.step (pc' := 32) (I_goto (tgt := 32) dX12_feltBy_23 (by decide)) ?_
        exact S_arr (fun K hK => GG.forget (Lle.ye (Lle.ye (Lle.ye (Lle.no (Lle.nil))))) hK)
      refine Seg.step (pc' := 27) (I_aload_n (i := 0) dX12_feltBy_26 rfl rfl) ?_
      refine Seg.step (pc' := 30) (I_getR cls12 (by decide) wf_12_48 (hE _ _ sk_12) rfl (lk_12_31 hL) dX12_feltBy_27) ?_
      refine Seg.step (pc' := 31) (I_iload_n (i := 2) dX12_feltBy_30 rfl rfl) ?_
      refine S_gd fun h3 => ?_
      refine Seg.step (pc' := 32) (I_iald (hE _ _ sk_12_31) h3 dX12_feltBy_31) ?_
      exact S_arr (fun K hK => GG.forget (Lle.ye (Lle.ye (Lle.ye (Lle.no (Lle.nil))))) hK)
    refine Seg.step (pc' := 8) (I_iconst dX12_feltBy_7 ⟨by decide, by decide⟩) ?_
    refine Seg.step (pc' := 32) (I_goto (tgt := 32) dX12_feltBy_8 (by decide)) ?_
    exact S_arr (fun K hK => GG.forget (Lle.ye (Lle.ye (Lle.ye (Lle.no (Lle.nil))))) hK)
  refine Seg.step (pc' := 33) (I_istore_n (i := 3) dX12_feltBy_32 rfl (by decide) rfl) ?_
  refine Seg.step (pc' := 34) (I_aload_n (i := 0) dX12_feltBy_33 rfl rfl) ?_
  refine Seg.step (pc' := 37) (I_getR cls12 (by decide) wf_12_100 (hE _ _ sk_12) rfl (lk_12_55 hL) dX12_feltBy_34) ?_
  refine Seg.step (pc' := 39) (I_bipush dX12_feltBy_37 (by decide) ⟨by decide, by decide⟩) ?_
  refine Seg.step (pc' := 40) (I_iload_n (i := 1) dX12_feltBy_39 rfl rfl) ?_
  refine Seg.step (pc' := 41) (I_imul dX12_feltBy_40) ?_
  refine Seg.step (pc' := 43) (I_bipush dX12_feltBy_41 (by decide) ⟨by decide, by decide⟩) ?_
  refine Seg.step (pc' := 44) (I_aload_n (i := 0) dX12_feltBy_43 rfl rfl) ?_
  refine Seg.step (pc' := 47) (I_getR cls12 (by decide) wf_12_42 (hE _ _ sk_12) rfl (lk_12_29 hL) dX12_feltBy_44) ?_
  refine Seg.step (pc' := 48) (I_iload_n (i := 2) dX12_feltBy_47 rfl rfl) ?_
  refine S_gd fun h5 => ?_
  refine Seg.step (pc' := 49) (I_iald (hE _ _ sk_12_29) h5 dX12_feltBy_48) ?_
  refine Seg.step (pc' := 50) (I_imul dX12_feltBy_49) ?_
  refine Seg.step (pc' := 51) (I_iadd dX12_feltBy_50) ?_
  refine Seg.step (pc' := 52) (I_iload_n (i := 3) dX12_feltBy_51 rfl rfl) ?_
  refine Seg.step (pc' := 53) (I_iadd dX12_feltBy_52) ?_
  refine S_gd fun h6 => ?_
  refine Seg.step (pc' := 54) (I_iald (hE _ _ sk_12_55) h6 dX12_feltBy_53) ?_
  refine Seg.step (pc' := 55) (I_aload_n (i := 0) dX12_feltBy_54 rfl rfl) ?_
  refine Seg.step (pc' := 58) (I_getR cls12 (by decide) wf_12_109 (hE _ _ sk_12) rfl (lk_12_58 hL) dX12_feltBy_55) ?_
  refine Seg.step (pc' := 59) (I_iconst dX12_feltBy_58 ⟨by decide, by decide⟩) ?_
  refine Seg.step (pc' := 60) (I_iload_n (i := 1) dX12_feltBy_59 rfl rfl) ?_
  refine Seg.step (pc' := 61) (I_imul dX12_feltBy_60) ?_
  refine Seg.step (pc' := 62) (I_iload_n (i := 2) dX12_feltBy_61 rfl rfl) ?_
  refine Seg.step (pc' := 63) (I_iadd dX12_feltBy_62) ?_
  refine S_gd fun h7 => ?_
  refine Seg.step (pc' := 64) (I_zald (hE _ _ sk_12_58) h7 dX12_feltBy_63) ?_
  refine S_bind (Y := Int) (k' := 0) (n' := 0) 73 (fun y => [none, none, none, none]) (fun y => [iV y, iV (M 117 (w32 ((w32 ((w32 (30 * p1)) + (w32 (6 * (M 98 (p2).toNat))))) + x4)).toNat)]) (fun y => (sh, ex, R, M)) ?_ (fun x9 => ?_)
  · refine S_if_eq (tgt := 72) dX12_feltBy_64 (by decide) (fun h8 => ?_) (fun h8 => ?_)
    · refine Seg.step (pc' := 73) (I_iconst dX12_feltBy_72 ⟨by decide, by decide⟩) ?_
      exact S_arr (fun K hK => GG.forget (Lle.no (Lle.no (Lle.no (Lle.no (Lle.nil))))) hK)
    refine Seg.step (pc' := 69) (I_bipush dX12_feltBy_67 (by decide) ⟨by decide, by decide⟩) ?_
    refine Seg.step (pc' := 73) (I_goto (tgt := 73) dX12_feltBy_69 (by decide)) ?_
    exact S_arr (fun K hK => GG.forget (Lle.no (Lle.no (Lle.no (Lle.no (Lle.nil))))) hK)
  refine Seg.step (pc' := 74) (I_iadd dX12_feltBy_73) ?_
  exact S_iret dX12_feltBy_74 rfl (by decide) (by decide) (fun K hK => hK)
theorem dX12_isOn_0 : decode cX12_isOn 0 = .ok (.aload_n 0, 1) := by decide +kernel
theorem dX12_isOn_1 : decode cX12_isOn 1 = .ok (.getfield 255, 3) := by decide +kernel
theorem dX12_isOn_4 : decode cX12_isOn 4 = .ok (.ifCond .ne 5, 3) := by decide +kernel
theorem dX12_isOn_7 : decode cX12_isOn 7 = .ok (.iconst 0, 1) := by decide +kernel
theorem dX12_isOn_8 : decode cX12_isOn 8 = .ok (.ireturn, 1) := by decide +kernel
theorem dX12_isOn_9 : decode cX12_isOn 9 = .ok (.aload_n 0, 1) := by decide +kernel
theorem dX12_isOn_10 : decode cX12_isOn 10 = .ok (.getfield 97, 3) := by decide +kernel
theorem dX12_isOn_13 : decode cX12_isOn 13 = .ok (.iconst 5, 1) := by decide +kernel
theorem dX12_isOn_14 : decode cX12_isOn 14 = .ok (.iload_n 1, 1) := by decide +kernel
theorem dX12_isOn_15 : decode cX12_isOn 15 = .ok (.imul, 1) := by decide +kernel
theorem dX12_isOn_16 : decode cX12_isOn 16 = .ok (.aload_n 0, 1) := by decide +kernel
theorem dX12_isOn_17 : decode cX12_isOn 17 = .ok (.getfield 115, 3) := by decide +kernel
theorem dX12_isOn_20 : decode cX12_isOn 20 = .ok (.iload_n 1, 1) := by decide +kernel
theorem dX12_isOn_21 : decode cX12_isOn 21 = .ok (.iaload, 1) := by decide +kernel
theorem dX12_isOn_22 : decode cX12_isOn 22 = .ok (.iadd, 1) := by decide +kernel
theorem dX12_isOn_23 : decode cX12_isOn 23 = .ok (.iaload, 1) := by decide +kernel
theorem dX12_isOn_24 : decode cX12_isOn 24 = .ok (.aload_n 0, 1) := by decide +kernel
theorem dX12_isOn_25 : decode cX12_isOn 25 = .ok (.getfield 118, 3) := by decide +kernel
theorem dX12_isOn_28 : decode cX12_isOn 28 = .ok (.iload_n 1, 1) := by decide +kernel
theorem dX12_isOn_29 : decode cX12_isOn 29 = .ok (.baload, 1) := by decide +kernel
theorem dX12_isOn_30 : decode cX12_isOn 30 = .ok (.ifCond .eq 8, 3) := by decide +kernel
theorem dX12_isOn_33 : decode cX12_isOn 33 = .ok (.bipush 50, 2) := by decide +kernel
theorem dX12_isOn_35 : decode cX12_isOn 35 = .ok (.goto 4, 3) := by decide +kernel
theorem dX12_isOn_38 : decode cX12_isOn 38 = .ok (.iconst 0, 1) := by decide +kernel
theorem dX12_isOn_39 : decode cX12_isOn 39 = .ok (.iadd, 1) := by decide +kernel
theorem dX12_isOn_40 : decode cX12_isOn 40 = .ok (.bipush 10, 2) := by decide +kernel
theorem dX12_isOn_42 : decode cX12_isOn 42 = .ok (.aload_n 0, 1) := by decide +kernel
theorem dX12_isOn_43 : decode cX12_isOn 43 = .ok (.getfield 112, 3) := by decide +kernel
theorem dX12_isOn_46 : decode cX12_isOn 46 = .ok (.iload_n 1, 1) := by decide +kernel
theorem dX12_isOn_47 : decode cX12_isOn 47 = .ok (.iaload, 1) := by decide +kernel
theorem dX12_isOn_48 : decode cX12_isOn 48 = .ok (.imul, 1) := by decide +kernel
theorem dX12_isOn_49 : decode cX12_isOn 49 = .ok (.if_icmp .ge 7, 3) := by decide +kernel
theorem dX12_isOn_52 : decode cX12_isOn 52 = .ok (.iconst 1, 1) := by decide +kernel
theorem dX12_isOn_53 : decode cX12_isOn 53 = .ok (.goto 4, 3) := by decide +kernel
theorem dX12_isOn_56 : decode cX12_isOn 56 = .ok (.iconst 0, 1) := by decide +kernel
theorem dX12_isOn_57 : decode cX12_isOn 57 = .ok (.ireturn, 1) := by decide +kernel
def f_X12_isOn (M : MM) (p1 : Int) : Option (Int) :=
if (M 88 12) = 0 then
(some 0)
else
gd (0 ≤ p1 ∧ p1 < (2 : Int)) <|
gd (0 ≤ w32 ((w32 (5 * p1)) + (M 122 (p1).toNat)) ∧ w32 ((w32 (5 * p1)) + (M 122 (p1).toNat)) < (10 : Int)) <|
gd (0 ≤ p1 ∧ p1 < (2 : Int)) <|
((if (M 123 (p1).toNat) = 0 then
(some 0)
else
some 50) : Option (Int)).bind fun x6 =>
gd (0 ≤ p1 ∧ p1 < (2 : Int)) <|
if (w32 ((M 116 (w32 ((w32 (5 * p1)) + (M 122 (p1).toNat))).toNat) + x6)) < (w32 (10 * (M 121 (p1).toNat))) then
(some 1)
else
some 0
set_option maxRecDepth 4000 in
theorem c_X12_isOn {E : EE} {sh : List (Nat × Nat)} {ex : Bool} {R : RM} {M : MM} {p1 : Int} (hE : Ext sh) (hL : Links R) : ∀ y, f_X12_isOn M p1 = some y → MetC E m_X12_isOn 0 0 [rV 88, iV p1] (sh, ex, R, M) (fun r w' => r = some (iV y) ∧ w' = (sh, ex, R, M)) := by
  intro y hy
  refine MetC.seg (o := f_X12_isOn M p1) (t := (fun K y => K (some (iV y)) (sh, ex, R, M))) (L := [some (rV 88), some (iV p1)]) (by decide) rfl (Nat.le_of_ble_eq_true rfl) ?_ hy ⟨rfl, rfl⟩
  unfold f_X12_isOn
  refine Seg.step (pc' := 1) (I_aload_n (i := 0) dX12_isOn_0 rfl rfl) ?_
  refine Seg.step (pc' := 4) (I_getI cls12 (by decide) wf_12_255 (hE _ _ sk_12) rfl dX12_isOn_1) ?_
  refine S_if_ne (tgt := 9) dX12_isOn_4 (by decide) (fun h1 => ?_) (fun h1 => ?_)
  · refine Seg.step (pc' := 8) (I_iconst dX12_isOn_7 ⟨by decide, by decide⟩) ?_
    exact S_zret dX12_isOn_8 rfl (by decide) (by decide) (by decide) (fun K hK => hK)
  refine Seg.step (pc' := 10) (I_aload_n (i := 0) dX12_isOn_9 rfl rfl) ?_
  refine Seg.step (pc' := 13) (I_getR cls12 (by decide) wf_12_97 (hE _ _ sk_12) rfl (lk_12_54 hL) dX12_isOn_10) ?_
  refine Seg.step (pc' := 14) (I_iconst dX12_isOn_13 ⟨by decide, by decide⟩) ?_
  refine Seg.step (pc' := 15) (I_iload_n (i := 1) dX12_isOn_14 rfl rfl) ?_
  refine Seg.step (pc' := 16) (I_imul dX12_isOn_15) ?_
  refine Seg.step (pc' := 17) (I_aload_n (i := 0) dX12_isOn_16 rfl rfl) ?_
  refine Seg.step (pc' := 20) (I_getR cls12 (by decide) wf_12_115 (hE _ _ sk_12) rfl (lk_12_60 hL) dX12_isOn_17) ?_
  refine Seg.step (pc' := 21) (I_iload_n (i := 1) dX12_isOn_20 rfl rfl) ?_
  refine S_gd fun h2 => ?_
  refine Seg.step (pc' := 22) (I_iald (hE _ _ sk_12_60) h2 dX12_isOn_21) ?_
  refine Seg.step (pc' := 23) (I_iadd dX12_isOn_22) ?_
  refine S_gd fun h3 => ?_
  refine Seg.step (pc' := 24) (I_iald (hE _ _ sk_12_54) h3 dX12_isOn_23) ?_
  refine Seg.step (pc' := 25) (I_aload_n (i := 0) dX12_isOn_24 rfl rfl) ?_
  refine Seg.step (pc' := 28) (I_getR cls12 (by decide) wf_12_118 (hE _ _ sk_12) rfl (lk_12_61 hL) dX12_isOn_25) ?_
  refine Seg.step (pc' := 29) (I_iload_n (i := 1) dX12_isOn_28 rfl rfl) ?_
  refine S_gd fun h4 => ?_
  refine Seg.step (pc' := 30) (I_zald (hE _ _ sk_12_61) h4 dX12_isOn_29) ?_
  refine S_bind (Y := Int) (k' := 0) (n' := 0) 39 (fun y => [some (rV 88), some (iV p1)]) (fun y => [iV y, iV (M 116 (w32 ((w32 (5 * p1)) + (M 122 (p1).toNat))).toNat)]) (fun y => (sh, ex, R, M)) ?_ (fun x6 => ?_)
  · refine S_if_eq (tgt := 38) dX12_isOn_30 (by decide) (fun h5 => ?_) (fun h5 => ?_)
    · refine Seg.step (pc' := 39) (I_iconst dX12_isOn_38 ⟨by decide, by decide⟩) ?_
      exact S_arr (fun K hK => GG.forget (Lle.ye (Lle.ye (Lle.nil))) hK)
    refine Seg.step (pc' := 35) (I_bipush dX12_isOn_33 (by decide) ⟨by decide, by decide⟩) ?_
    refine Seg.step (pc' := 39) (I_goto (tgt := 39) dX12_isOn_35 (by decide)) ?_
    exact S_arr (fun K hK => GG.forget (Lle.ye (Lle.ye (Lle.nil))) hK)
  refine Seg.step (pc' := 40) (I_iadd dX12_isOn_39) ?_
  refine Seg.step (pc' := 42) (I_bipush dX12_isOn_40 (by decide) ⟨by decide, by decide⟩) ?_
  refine Seg.step (pc' := 43) (I_aload_n (i := 0) dX12_isOn_42 rfl rfl) ?_
  refine Seg.step (pc' := 46) (I_getR cls12 (by decide) wf_12_112 (hE _ _ sk_12) rfl (lk_12_59 hL) dX12_isOn_43) ?_
  refine Seg.step (pc' := 47) (I_iload_n (i := 1) dX12_isOn_46 rfl rfl) ?_
  refine S_gd fun h7 => ?_
  refine Seg.step (pc' := 48) (I_iald (hE _ _ sk_12_59) h7 dX12_isOn_47) ?_
  refine Seg.step (pc' := 49) (I_imul dX12_isOn_48) ?_
  refine S_icmp_ge (tgt := 56) dX12_isOn_49 (by decide) (fun h8 => ?_) (fun h8 => ?_)
  · refine Seg.step (pc' := 53) (I_iconst dX12_isOn_52 ⟨by decide, by decide⟩) ?_
    refine Seg.step (pc' := 57) (I_goto (tgt := 57) dX12_isOn_53 (by decide)) ?_
    exact S_zret dX12_isOn_57 rfl (by decide) (by decide) (by decide) (fun K hK => hK)
  refine Seg.step (pc' := 57) (I_iconst dX12_isOn_56 ⟨by decide, by decide⟩) ?_
  exact S_zret dX12_isOn_57 rfl (by decide) (by decide) (by decide) (fun K hK => hK)
theorem dX12_sunIn_0 : decode cX12_sunIn 0 = .ok (.iconst 0, 1) := by decide +kernel
theorem dX12_sunIn_1 : decode cX12_sunIn 1 = .ok (.istore_n 3, 1) := by decide +kernel
theorem dX12_sunIn_2 : decode cX12_sunIn 2 = .ok (.iconst 0, 1) := by decide +kernel
theorem dX12_sunIn_3 : decode cX12_sunIn 3 = .ok (.istore 4, 2) := by decide +kernel
theorem dX12_sunIn_5 : decode cX12_sunIn 5 = .ok (.iload 4, 2) := by decide +kernel
theorem dX12_sunIn_7 : decode cX12_sunIn 7 = .ok (.aload_n 0, 1) := by decide +kernel
theorem dX12_sunIn_8 : decode cX12_sunIn 8 = .ok (.getfield 261, 3) := by decide +kernel
theorem dX12_sunIn_11 : decode cX12_sunIn 11 = .ok (.if_icmp .ge 60, 3) := by decide +kernel
theorem dX12_sunIn_14 : decode cX12_sunIn 14 = .ok (.aload_n 0, 1) := by decide +kernel
theorem dX12_sunIn_15 : decode cX12_sunIn 15 = .ok (.getfield 400, 3) := by decide +kernel
theorem dX12_sunIn_18 : decode cX12_sunIn 18 = .ok (.ifCond .ne 53, 3) := by decide +kernel
theorem dX12_sunIn_21 : decode cX12_sunIn 21 = .ok (.iload_n 3, 1) := by decide +kernel
theorem dX12_sunIn_22 : decode cX12_sunIn 22 = .ok (.aload_n 0, 1) := by decide +kernel
theorem dX12_sunIn_23 : decode cX12_sunIn 23 = .ok (.getfield 54, 3) := by decide +kernel
theorem dX12_sunIn_26 : decode cX12_sunIn 26 = .ok (.iload 4, 2) := by decide +kernel
theorem dX12_sunIn_28 : decode cX12_sunIn 28 = .ok (.iaload, 1) := by decide +kernel
theorem dX12_sunIn_29 : decode cX12_sunIn 29 = .ok (.iload_n 2, 1) := by decide +kernel
theorem dX12_sunIn_30 : decode cX12_sunIn 30 = .ok (.if_icmp .ne 32, 3) := by decide +kernel
theorem dX12_sunIn_33 : decode cX12_sunIn 33 = .ok (.aload_n 0, 1) := by decide +kernel
theorem dX12_sunIn_34 : decode cX12_sunIn 34 = .ok (.getfield 57, 3) := by decide +kernel
theorem dX12_sunIn_37 : decode cX12_sunIn 37 = .ok (.iload 4, 2) := by decide +kernel
theorem dX12_sunIn_39 : decode cX12_sunIn 39 = .ok (.iaload, 1) := by decide +kernel
theorem dX12_sunIn_40 : decode cX12_sunIn 40 = .ok (.aload_n 0, 1) := by decide +kernel
theorem dX12_sunIn_41 : decode cX12_sunIn 41 = .ok (.getfield 130, 3) := by decide +kernel
theorem dX12_sunIn_44 : decode cX12_sunIn 44 = .ok (.iload_n 1, 1) := by decide +kernel
theorem dX12_sunIn_45 : decode cX12_sunIn 45 = .ok (.iaload, 1) := by decide +kernel
theorem dX12_sunIn_46 : decode cX12_sunIn 46 = .ok (.bipush 24, 2) := by decide +kernel
theorem dX12_sunIn_48 : decode cX12_sunIn 48 = .ok (.irem, 1) := by decide +kernel
theorem dX12_sunIn_49 : decode cX12_sunIn 49 = .ok (.if_icmp .ne 13, 3) := by decide +kernel
theorem dX12_sunIn_52 : decode cX12_sunIn 52 = .ok (.aload_n 0, 1) := by decide +kernel
theorem dX12_sunIn_53 : decode cX12_sunIn 53 = .ok (.getfield 60, 3) := by decide +kernel
theorem dX12_sunIn_56 : decode cX12_sunIn 56 = .ok (.iload 4, 2) := by decide +kernel
theorem dX12_sunIn_58 : decode cX12_sunIn 58 = .ok (.iaload, 1) := by decide +kernel
theorem dX12_sunIn_59 : decode cX12_sunIn 59 = .ok (.goto 4, 3) := by decide +kernel
theorem dX12_sunIn_62 : decode cX12_sunIn 62 = .ok (.iconst 0, 1) := by decide +kernel
theorem dX12_sunIn_63 : decode cX12_sunIn 63 = .ok (.iadd, 1) := by decide +kernel
theorem dX12_sunIn_64 : decode cX12_sunIn 64 = .ok (.istore_n 3, 1) := by decide +kernel
theorem dX12_sunIn_65 : decode cX12_sunIn 65 = .ok (.iinc 4 1, 3) := by decide +kernel
theorem dX12_sunIn_68 : decode cX12_sunIn 68 = .ok (.goto (-63), 3) := by decide +kernel
theorem dX12_sunIn_71 : decode cX12_sunIn 71 = .ok (.iload_n 3, 1) := by decide +kernel
theorem dX12_sunIn_72 : decode cX12_sunIn 72 = .ok (.ireturn, 1) := by decide +kernel
def f_X12_sunIn (M : MM) (p1 : Int) (p2 : Int) : Option (Int) :=
lp (X := Int × Int) (Y := Int) (fun x1 =>
if x1.2 < (M 88 14) then
(if (M 88 70) = 0 then
(gd (0 ≤ x1.2 ∧ x1.2 < (8 : Int)) <|
((if (M 102 (x1.2).toNat) = p2 then
(gd (0 ≤ x1.2 ∧ x1.2 < (8 : Int)) <|
gd (0 ≤ p1 ∧ p1 < (2 : Int)) <|
if (M 103 (x1.2).toNat) = (w32 (Int.tmod (M 127 (p1).toNat) 24)) then
(gd (0 ≤ x1.2 ∧ x1.2 < (8 : Int)) <|
some (M 104 (x1.2).toNat))
else
some 0)
else
some 0) : Option (Int)).bind fun x10 =>
bI (w32 (x1.1 + x10)) fun x11 =>
some (Sum.inl (x11, w32 (x1.2 + 1))))
else
some (Sum.inr x1.1))
else
some (Sum.inr x1.1)) FU (0, 0)
set_option maxRecDepth 4000 in
theorem c_X12_sunIn {E : EE} {sh : List (Nat × Nat)} {ex : Bool} {R : RM} {M : MM} {p1 : Int} {p2 : Int} (hE : Ext sh) (hL : Links R) : ∀ y, f_X12_sunIn M p1 p2 = some y → MetC E m_X12_sunIn 0 0 [rV 88, iV p1, iV p2] (sh, ex, R, M) (fun r w' => r = some (iV y) ∧ w' = (sh, ex, R, M)) := by
  intro y hy
  refine MetC.seg (o := f_X12_sunIn M p1 p2) (t := (fun K y => K (some (iV y)) (sh, ex, R, M))) (L := [some (rV 88), some (iV p1), some (iV p2), none, none]) (by decide) rfl (Nat.le_of_ble_eq_true rfl) ?_ hy ⟨rfl, rfl⟩
  unfold f_X12_sunIn
  refine Seg.step (pc' := 1) (I_iconst dX12_sunIn_0 ⟨by decide, by decide⟩) ?_
  refine Seg.step (pc' := 2) (I_istore_n (i := 3) dX12_sunIn_1 rfl (by decide) rfl) ?_
  refine Seg.step (pc' := 3) (I_iconst dX12_sunIn_2 ⟨by decide, by decide⟩) ?_
  refine Seg.step (pc' := 5) (I_istore dX12_sunIn_3 (by decide) rfl) ?_
  refine Seg.forget (Lle.ye (Lle.ye (Lle.ye (Lle.ye (Lle.ye (Lle.nil)))))) ?_
  refine S_loop (Y := Int × Int) (fun y => [some (rV 88), some (iV p1), some (iV p2), some (iV y.1), some (iV y.2)]) (fun y => []) (fun y => (sh, ex, R, M)) (fun x1 => ?_) FU (0, 0)
  refine Seg.step (pc' := 7) (I_iload dX12_sunIn_5 rfl) ?_
  refine Seg.step (pc' := 8) (I_aload_n (i := 0) dX12_sunIn_7 rfl rfl) ?_
  refine Seg.step (pc' := 11) (I_getI cls12 (by decide) wf_12_261 (hE _ _ sk_12) rfl dX12_sunIn_8) ?_
  refine S_icmp_ge (tgt := 71) dX12_sunIn_11 (by decide) (fun h2 => ?_) (fun h2 => ?_)
  · refine Seg.step (pc' := 15) (I_aload_n (i := 0) dX12_sunIn_14 rfl rfl) ?_
    refine Seg.step (pc' := 18) (I_getZ cls12 (by decide) wf_12_400 (hE _ _ sk_12) rfl dX12_sunIn_15) ?_
    refine S_if_ne (tgt := 71) dX12_sunIn_18 (by decide) (fun h3 => ?_) (fun h3 => ?_)
    · refine Seg.step (pc' := 22) (I_iload_n (i := 3) dX12_sunIn_21 rfl rfl) ?_
      refine Seg.step (pc' := 23) (I_aload_n (i := 0) dX12_sunIn_22 rfl rfl) ?_
      refine Seg.step (pc' := 26) (I_getR cls12 (by decide) wf_12_54 (hE _ _ sk_12) rfl (lk_12_33 hL) dX12_sunIn_23) ?_
      refine Seg.step (pc' := 28) (I_iload dX12_sunIn_26 rfl) ?_
      refine S_gd fun h4 => ?_
      refine Seg.step (pc' := 29) (I_iald (hE _ _ sk_12_33) h4 dX12_sunIn_28) ?_
      refine Seg.step (pc' := 30) (I_iload_n (i := 2) dX12_sunIn_29 rfl rfl) ?_
      refine S_bind (Y := Int) (k' := 0) (n' := 0) 63 (fun y => [some (rV 88), some (iV p1), some (iV p2), none, some (iV x1.2)]) (fun y => [iV y, iV x1.1]) (fun y => (sh, ex, R, M)) ?_ (fun x10 => ?_)
      · refine S_icmp_ne (tgt := 62) dX12_sunIn_30 (by decide) (fun h5 => ?_) (fun h5 => ?_)
        · refine Seg.step (pc' := 34) (I_aload_n (i := 0) dX12_sunIn_33 rfl rfl) ?_
          refine Seg.step (pc' := 37) (I_getR cls12 (by decide) wf_12_57 (hE _ _ sk_12) rfl (lk_12_34 hL) dX12_sunIn_34) ?_
          refine Seg.step (pc' := 39) (I_iload dX12_sunIn_37 rfl) ?_
          refine S_gd fun h6 => ?_
          refine Seg.step (pc' := 40) (I_iald (hE _ _ sk_12_34) h6 dX12_sunIn_39) ?_
          refine Seg.step (pc' := 41) (I_aload_n (i := 0) dX12_sunIn_40 rfl rfl) ?_
          refine Seg.step (pc' := 44) (I_getR cls12 (by decide) wf_12_130 (hE _ _ sk_12) rfl (lk_12_65 hL) dX12_sunIn_41) ?_
          refine Seg.step (pc' := 45) (I_iload_n (i := 1) dX12_sunIn_44 rfl rfl) ?_
          refine S_gd fun h7 => ?_
          refine Seg.step (pc' := 46) (I_iald (hE _ _ sk_12_65) h7 dX12_sunIn_45) ?_
          refine Seg.step (pc' := 48) (I_bipush dX12_sunIn_46 (by decide) ⟨by decide, by decide⟩) ?_
          refine Seg.step (pc' := 49) (I_irem dX12_sunIn_48 (by decide)) ?_
          refine S_icmp_ne (tgt := 62) dX12_sunIn_49 (by decide) (fun h8 => ?_) (fun h8 => ?_)
          · refine Seg.step (pc' := 53) (I_aload_n (i := 0) dX12_sunIn_52 rfl rfl) ?_
            refine Seg.step (pc' := 56) (I_getR cls12 (by decide) wf_12_60 (hE _ _ sk_12) rfl (lk_12_35 hL) dX12_sunIn_53) ?_
            refine Seg.step (pc' := 58) (I_iload dX12_sunIn_56 rfl) ?_
            refine S_gd fun h9 => ?_
            refine Seg.step (pc' := 59) (I_iald (hE _ _ sk_12_35) h9 dX12_sunIn_58) ?_
            refine Seg.step (pc' := 63) (I_goto (tgt := 63) dX12_sunIn_59 (by decide)) ?_
            exact S_arr (fun K hK => GG.forget (Lle.ye (Lle.ye (Lle.ye (Lle.no (Lle.ye (Lle.nil)))))) hK)
          refine Seg.step (pc' := 63) (I_iconst dX12_sunIn_62 ⟨by decide, by decide⟩) ?_
          exact S_arr (fun K hK => GG.forget (Lle.ye (Lle.ye (Lle.ye (Lle.no (Lle.ye (Lle.nil)))))) hK)
        refine Seg.step (pc' := 63) (I_iconst dX12_sunIn_62 ⟨by decide, by decide⟩) ?_
        exact S_arr (fun K hK => GG.forget (Lle.ye (Lle.ye (Lle.ye (Lle.no (Lle.ye (Lle.nil)))))) hK)
      refine Seg.step (pc' := 64) (I_iadd dX12_sunIn_63) ?_
      refine S_bI fun x11 => ?_
      refine Seg.step (pc' := 65) (I_istore_n (i := 3) dX12_sunIn_64 rfl (by decide) rfl) ?_
      refine Seg.step (pc' := 68) (I_iinc dX12_sunIn_65 rfl (by decide) rfl) ?_
      refine Seg.step (pc' := 5) (I_goto (tgt := 5) dX12_sunIn_68 (by decide)) ?_
      exact S_arr (fun K hK => GG.forget (Lle.ye (Lle.ye (Lle.ye (Lle.ye (Lle.ye (Lle.nil)))))) hK)
    refine Seg.step (pc' := 72) (I_iload_n (i := 3) dX12_sunIn_71 rfl rfl) ?_
    exact S_iret dX12_sunIn_72 rfl (by decide) (by decide) (fun K hK => hK)
  refine Seg.step (pc' := 72) (I_iload_n (i := 3) dX12_sunIn_71 rfl rfl) ?_
  exact S_iret dX12_sunIn_72 rfl (by decide) (by decide) (fun K hK => hK)
theorem dX12_layNames_0 : decode cX12_layNames 0 = .ok (.aload_n 0, 1) := by decide +kernel
theorem dX12_layNames_1 : decode cX12_layNames 1 = .ok (.getfield 90, 3) := by decide +kernel
theorem dX12_layNames_4 : decode cX12_layNames 4 = .ok (.iconst 0, 1) := by decide +kernel
theorem dX12_layNames_5 : decode cX12_layNames 5 = .ok (.aload_n 0, 1) := by decide +kernel
theorem dX12_layNames_6 : decode cX12_layNames 6 = .ok (.getfield 97, 3) := by decide +kernel
theorem dX12_layNames_9 : decode cX12_layNames 9 = .ok (.iconst 5, 1) := by decide +kernel
theorem dX12_layNames_10 : decode cX12_layNames 10 = .ok (.iload_n 1, 1) := by decide +kernel
theorem dX12_layNames_11 : decode cX12_layNames 11 = .ok (.imul, 1) := by decide +kernel
theorem dX12_layNames_12 : decode cX12_layNames 12 = .ok (.iload_n 2, 1) := by decide +kernel
theorem dX12_layNames_13 : decode cX12_layNames 13 = .ok (.iadd, 1) := by decide +kernel
theorem dX12_layNames_14 : decode cX12_layNames 14 = .ok (.iaload, 1) := by decide +kernel
theorem dX12_layNames_15 : decode cX12_layNames 15 = .ok (.i2l, 1) := by decide +kernel
theorem dX12_layNames_16 : decode cX12_layNames 16 = .ok (.lastore, 1) := by decide +kernel
theorem dX12_layNames_17 : decode cX12_layNames 17 = .ok (.aload_n 0, 1) := by decide +kernel
theorem dX12_layNames_18 : decode cX12_layNames 18 = .ok (.getfield 90, 3) := by decide +kernel
theorem dX12_layNames_21 : decode cX12_layNames 21 = .ok (.iconst 1, 1) := by decide +kernel
theorem dX12_layNames_22 : decode cX12_layNames 22 = .ok (.aload_n 0, 1) := by decide +kernel
theorem dX12_layNames_23 : decode cX12_layNames 23 = .ok (.aload_n 0, 1) := by decide +kernel
theorem dX12_layNames_24 : decode cX12_layNames 24 = .ok (.getfield 130, 3) := by decide +kernel
theorem dX12_layNames_27 : decode cX12_layNames 27 = .ok (.iload_n 1, 1) := by decide +kernel
theorem dX12_layNames_28 : decode cX12_layNames 28 = .ok (.iaload, 1) := by decide +kernel
theorem dX12_layNames_29 : decode cX12_layNames 29 = .ok (.invokevirtual 437, 3) := by decide +kernel
theorem dX12_layNames_32 : decode cX12_layNames 32 = .ok (.i2l, 1) := by decide +kernel
theorem dX12_layNames_33 : decode cX12_layNames 33 = .ok (.lastore, 1) := by decide +kernel
theorem dX12_layNames_34 : decode cX12_layNames 34 = .ok (.aload_n 0, 1) := by decide +kernel
theorem dX12_layNames_35 : decode cX12_layNames 35 = .ok (.getfield 90, 3) := by decide +kernel
theorem dX12_layNames_38 : decode cX12_layNames 38 = .ok (.iconst 2, 1) := by decide +kernel
theorem dX12_layNames_39 : decode cX12_layNames 39 = .ok (.iload_n 3, 1) := by decide +kernel
theorem dX12_layNames_40 : decode cX12_layNames 40 = .ok (.i2l, 1) := by decide +kernel
theorem dX12_layNames_41 : decode cX12_layNames 41 = .ok (.lastore, 1) := by decide +kernel
theorem dX12_layNames_42 : decode cX12_layNames 42 = .ok (.aload_n 0, 1) := by decide +kernel
theorem dX12_layNames_43 : decode cX12_layNames 43 = .ok (.getfield 90, 3) := by decide +kernel
theorem dX12_layNames_46 : decode cX12_layNames 46 = .ok (.iconst 3, 1) := by decide +kernel
theorem dX12_layNames_47 : decode cX12_layNames 47 = .ok (.iload 4, 2) := by decide +kernel
theorem dX12_layNames_49 : decode cX12_layNames 49 = .ok (.i2l, 1) := by decide +kernel
theorem dX12_layNames_50 : decode cX12_layNames 50 = .ok (.lastore, 1) := by decide +kernel
theorem dX12_layNames_51 : decode cX12_layNames 51 = .ok (.aload_n 0, 1) := by decide +kernel
theorem dX12_layNames_52 : decode cX12_layNames 52 = .ok (.getfield 90, 3) := by decide +kernel
theorem dX12_layNames_55 : decode cX12_layNames 55 = .ok (.iconst 4, 1) := by decide +kernel
theorem dX12_layNames_56 : decode cX12_layNames 56 = .ok (.bipush 10, 2) := by decide +kernel
theorem dX12_layNames_58 : decode cX12_layNames 58 = .ok (.aload_n 0, 1) := by decide +kernel
theorem dX12_layNames_59 : decode cX12_layNames 59 = .ok (.getfield 112, 3) := by decide +kernel
theorem dX12_layNames_62 : decode cX12_layNames 62 = .ok (.iload_n 1, 1) := by decide +kernel
theorem dX12_layNames_63 : decode cX12_layNames 63 = .ok (.iaload, 1) := by decide +kernel
theorem dX12_layNames_64 : decode cX12_layNames 64 = .ok (.imul, 1) := by decide +kernel
theorem dX12_layNames_65 : decode cX12_layNames 65 = .ok (.i2l, 1) := by decide +kernel
theorem dX12_layNames_66 : decode cX12_layNames 66 = .ok (.lastore, 1) := by decide +kernel
theorem dX12_layNames_67 : decode cX12_layNames 67 = .ok (.aload_n 0, 1) := by decide +kernel
theorem dX12_layNames_68 : decode cX12_layNames 68 = .ok (.getfield 90, 3) := by decide +kernel
theorem dX12_layNames_71 : decode cX12_layNames 71 = .ok (.iconst 5, 1) := by decide +kernel
theorem dX12_layNames_72 : decode cX12_layNames 72 = .ok (.aload_n 0, 1) := by decide +kernel
theorem dX12_layNames_73 : decode cX12_layNames 73 = .ok (.iload_n 2, 1) := by decide +kernel
theorem dX12_layNames_74 : decode cX12_layNames 74 = .ok (.invokevirtual 440, 3) := by decide +kernel
theorem dX12_layNames_77 : decode cX12_layNames 77 = .ok (.i2l, 1) := by decide +kernel
theorem dX12_layNames_78 : decode cX12_layNames 78 = .ok (.lastore, 1) := by decide +kernel
theorem dX12_layNames_79 : decode cX12_layNames 79 = .ok (.aload_n 0, 1) := by decide +kernel
theorem dX12_layNames_80 : decode cX12_layNames 80 = .ok (.getfield 90, 3) := by decide +kernel
theorem dX12_layNames_83 : decode cX12_layNames 83 = .ok (.bipush 6, 2) := by decide +kernel
theorem dX12_layNames_85 : decode cX12_layNames 85 = .ok (.aload_n 0, 1) := by decide +kernel
theorem dX12_layNames_86 : decode cX12_layNames 86 = .ok (.getfield 130, 3) := by decide +kernel
theorem dX12_layNames_89 : decode cX12_layNames 89 = .ok (.iload_n 1, 1) := by decide +kernel
theorem dX12_layNames_90 : decode cX12_layNames 90 = .ok (.iaload, 1) := by decide +kernel
theorem dX12_layNames_91 : decode cX12_layNames 91 = .ok (.bipush 24, 2) := by decide +kernel
theorem dX12_layNames_93 : decode cX12_layNames 93 = .ok (.irem, 1) := by decide +kernel
theorem dX12_layNames_94 : decode cX12_layNames 94 = .ok (.i2l, 1) := by decide +kernel
theorem dX12_layNames_95 : decode cX12_layNames 95 = .ok (.lastore, 1) := by decide +kernel
theorem dX12_layNames_96 : decode cX12_layNames 96 = .ok (.return_, 1) := by decide +kernel
def f_X12_layNames (M : MM) (p1 : Int) (p2 : Int) (p3 : Int) (p4 : Int) : Option (MM) :=
gd (0 ≤ w32 ((w32 (5 * p1)) + p2) ∧ w32 ((w32 (5 * p1)) + p2) < (10 : Int)) <|
bM (upM M 114 0 (M 116 (w32 ((w32 (5 * p1)) + p2)).toNat)) fun M2 =>
gd (0 ≤ p1 ∧ p1 < (2 : Int)) <|
(f_X12_outOf M2 (M2 127 (p1).toNat)).bind fun x4 =>
bM (upM M2 114 1 x4) fun M5 =>
bM (upM M5 114 2 p3) fun M6 =>
bM (upM M6 114 3 p4) fun M7 =>
gd (0 ≤ p1 ∧ p1 < (2 : Int)) <|
bM (upM M7 114 4 (w32 (10 * (M7 121 (p1).toNat)))) fun M9 =>
(f_X12_leakOf M9 p2).bind fun x10 =>
bM (upM M9 114 5 x10) fun M11 =>
gd (0 ≤ p1 ∧ p1 < (2 : Int)) <|
bM (upM M11 114 6 (w32 (Int.tmod (M11 127 (p1).toNat) 24))) fun M13 =>
some M13
set_option maxRecDepth 4000 in
theorem c_X12_layNames {E : EE} {sh : List (Nat × Nat)} {ex : Bool} {R : RM} {M : MM} {p1 : Int} {p2 : Int} {p3 : Int} {p4 : Int} (hE : Ext sh) (hL : Links R) : ∀ y, f_X12_layNames M p1 p2 p3 p4 = some y → MetC E m_X12_layNames 0 0 [rV 88, iV p1, iV p2, iV p3, iV p4] (sh, ex, R, M) (fun r w' => r = none ∧ w' = (sh, ex, R, y)) := by
  intro y hy
  refine MetC.seg (o := f_X12_layNames M p1 p2 p3 p4) (t := (fun K y => K (none) (sh, ex, R, y))) (L := [some (rV 88), some (iV p1), some (iV p2), some (iV p3), some (iV p4)]) (by decide) rfl (Nat.le_of_ble_eq_true rfl) ?_ hy ⟨rfl, rfl⟩
  unfold f_X12_layNames
  refine Seg.step (pc' := 1) (I_aload_n (i := 0) dX12_layNames_0 rfl rfl) ?_
  refine Seg.step (pc' := 4) (I_getR cls12 (by decide) wf_12_90 (hE _ _ sk_12) rfl (lk_12_51 hL) dX12_layNames_1) ?_
  refine Seg.step (pc' := 5) (I_iconst dX12_layNames_4 ⟨by decide, by decide⟩) ?_
  refine Seg.step (pc' := 6) (I_aload_n (i := 0) dX12_layNames_5 rfl rfl) ?_
  refine Seg.step (pc' := 9) (I_getR cls12 (by decide) wf_12_97 (hE _ _ sk_12) rfl (lk_12_54 hL) dX12_layNames_6) ?_
  refine Seg.step (pc' := 10) (I_iconst dX12_layNames_9 ⟨by decide, by decide⟩) ?_
  refine Seg.step (pc' := 11) (I_iload_n (i := 1) dX12_layNames_10 rfl rfl) ?_
  refine Seg.step (pc' := 12) (I_imul dX12_layNames_11) ?_
  refine Seg.step (pc' := 13) (I_iload_n (i := 2) dX12_layNames_12 rfl rfl) ?_
  refine Seg.step (pc' := 14) (I_iadd dX12_layNames_13) ?_
  refine S_gd fun h1 => ?_
  refine Seg.step (pc' := 15) (I_iald (hE _ _ sk_12_54) h1 dX12_layNames_14) ?_
  refine Seg.step (pc' := 16) (I_i2l dX12_layNames_15) ?_
  refine Seg.step (pc' := 17) (I_last (hE _ _ sk_12_51) ⟨by decide, by decide⟩ dX12_layNames_16) ?_
  refine S_bM fun M2 => ?_
  refine Seg.step (pc' := 18) (I_aload_n (i := 0) dX12_layNames_17 rfl rfl) ?_
  refine Seg.step (pc' := 21) (I_getR cls12 (by decide) wf_12_90 (hE _ _ sk_12) rfl (lk_12_51 hL) dX12_layNames_18) ?_
  refine Seg.step (pc' := 22) (I_iconst dX12_layNames_21 ⟨by decide, by decide⟩) ?_
  refine Seg.step (pc' := 23) (I_aload_n (i := 0) dX12_layNames_22 rfl rfl) ?_
  refine Seg.step (pc' := 24) (I_aload_n (i := 0) dX12_layNames_23 rfl rfl) ?_
  refine Seg.step (pc' := 27) (I_getR cls12 (by decide) wf_12_130 (hE _ _ sk_12) rfl (lk_12_65 hL) dX12_layNames_24) ?_
  refine Seg.step (pc' := 28) (I_iload_n (i := 1) dX12_layNames_27 rfl rfl) ?_
  refine S_gd fun h3 => ?_
  refine Seg.step (pc' := 29) (I_iald (hE _ _ sk_12_65) h3 dX12_layNames_28) ?_
  refine S_callV1 (md' := m_X12_outOf) (fun y => some (iV y)) (fun y => (sh, ex, R, M2)) (hE _ _ sk_12) ⟨by decide, rfl⟩ mm_X12_outOf wm_12_437 ⟨rfl, rfl, by decide, by decide, by decide, by decide⟩ (Nat.le_of_ble_eq_true rfl) dX12_layNames_29 (fun y hy => c_X12_outOf hE hL y hy) (fun x4 => ?_)
  refine Seg.step (pc' := 33) (I_i2l dX12_layNames_32) ?_
  refine Seg.step (pc' := 34) (I_last (hE _ _ sk_12_51) ⟨by decide, by decide⟩ dX12_layNames_33) ?_
  refine S_bM fun M5 => ?_
  refine Seg.step (pc' := 35) (I_aload_n (i := 0) dX12_layNames_34 rfl rfl) ?_
  refine Seg.step (pc' := 38) (I_getR cls12 (by decide) wf_12_90 (hE _ _ sk_12) rfl (lk_12_51 hL) dX12_layNames_35) ?_
  refine Seg.step (pc' := 39) (I_iconst dX12_layNames_38 ⟨by decide, by decide⟩) ?_
  refine Seg.step (pc' := 40) (I_iload_n (i := 3) dX12_layNames_39 rfl rfl) ?_
  refine Seg.step (pc' := 41) (I_i2l dX12_layNames_40) ?_
  refine Seg.step (pc' := 42) (I_last (hE _ _ sk_12_51) ⟨by decide, by decide⟩ dX12_layNames_41) ?_
  refine S_bM fun M6 => ?_
  refine Seg.step (pc' := 43) (I_aload_n (i := 0) dX12_layNames_42 rfl rfl) ?_
  refine Seg.step (pc' := 46) (I_getR cls12 (by decide) wf_12_90 (hE _ _ sk_12) rfl (lk_12_51 hL) dX12_layNames_43) ?_
  refine Seg.step (pc' := 47) (I_iconst dX12_layNames_46 ⟨by decide, by decide⟩) ?_
  refine Seg.step (pc' := 49) (I_iload dX12_layNames_47 rfl) ?_
  refine Seg.step (pc' := 50) (I_i2l dX12_layNames_49) ?_
  refine Seg.step (pc' := 51) (I_last (hE _ _ sk_12_51) ⟨by decide, by decide⟩ dX12_layNames_50) ?_
  refine S_bM fun M7 => ?_
  refine Seg.step (pc' := 52) (I_aload_n (i := 0) dX12_layNames_51 rfl rfl) ?_
  refine Seg.step (pc' := 55) (I_getR cls12 (by decide) wf_12_90 (hE _ _ sk_12) rfl (lk_12_51 hL) dX12_layNames_52) ?_
  refine Seg.step (pc' := 56) (I_iconst dX12_layNames_55 ⟨by decide, by decide⟩) ?_
  refine Seg.step (pc' := 58) (I_bipush dX12_layNames_56 (by decide) ⟨by decide, by decide⟩) ?_
  refine Seg.step (pc' := 59) (I_aload_n (i := 0) dX12_layNames_58 rfl rfl) ?_
  refine Seg.step (pc' := 62) (I_getR cls12 (by decide) wf_12_112 (hE _ _ sk_12) rfl (lk_12_59 hL) dX12_layNames_59) ?_
  refine Seg.step (pc' := 63) (I_iload_n (i := 1) dX12_layNames_62 rfl rfl) ?_
  refine S_gd fun h8 => ?_
  refine Seg.step (pc' := 64) (I_iald (hE _ _ sk_12_59) h8 dX12_layNames_63) ?_
  refine Seg.step (pc' := 65) (I_imul dX12_layNames_64) ?_
  refine Seg.step (pc' := 66) (I_i2l dX12_layNames_65) ?_
  refine Seg.step (pc' := 67) (I_last (hE _ _ sk_12_51) ⟨by decide, by decide⟩ dX12_layNames_66) ?_
  refine S_bM fun M9 => ?_
  refine Seg.step (pc' := 68) (I_aload_n (i := 0) dX12_layNames_67 rfl rfl) ?_
  refine Seg.step (pc' := 71) (I_getR cls12 (by decide) wf_12_90 (hE _ _ sk_12) rfl (lk_12_51 hL) dX12_layNames_68) ?_
  refine Seg.step (pc' := 72) (I_iconst dX12_layNames_71 ⟨by decide, by decide⟩) ?_
  refine Seg.step (pc' := 73) (I_aload_n (i := 0) dX12_layNames_72 rfl rfl) ?_
  refine Seg.step (pc' := 74) (I_iload_n (i := 2) dX12_layNames_73 rfl rfl) ?_
  refine S_callV1 (md' := m_X12_leakOf) (fun y => some (iV y)) (fun y => (sh, ex, R, M9)) (hE _ _ sk_12) ⟨by decide, rfl⟩ mm_X12_leakOf wm_12_440 ⟨rfl, rfl, by decide, by decide, by decide, by decide⟩ (Nat.le_of_ble_eq_true rfl) dX12_layNames_74 (fun y hy => c_X12_leakOf hE hL y hy) (fun x10 => ?_)
  refine Seg.step (pc' := 78) (I_i2l dX12_layNames_77) ?_
  refine Seg.step (pc' := 79) (I_last (hE _ _ sk_12_51) ⟨by decide, by decide⟩ dX12_layNames_78) ?_
  refine S_bM fun M11 => ?_
  refine Seg.step (pc' := 80) (I_aload_n (i := 0) dX12_layNames_79 rfl rfl) ?_
  refine Seg.step (pc' := 83) (I_getR cls12 (by decide) wf_12_90 (hE _ _ sk_12) rfl (lk_12_51 hL) dX12_layNames_80) ?_
  refine Seg.step (pc' := 85) (I_bipush dX12_layNames_83 (by decide) ⟨by decide, by decide⟩) ?_
  refine Seg.step (pc' := 86) (I_aload_n (i := 0) dX12_layNames_85 rfl rfl) ?_
  refine Seg.step (pc' := 89) (I_getR cls12 (by decide) wf_12_130 (hE _ _ sk_12) rfl (lk_12_65 hL) dX12_layNames_86) ?_
  refine Seg.step (pc' := 90) (I_iload_n (i := 1) dX12_layNames_89 rfl rfl) ?_
  refine S_gd fun h12 => ?_
  refine Seg.step (pc' := 91) (I_iald (hE _ _ sk_12_65) h12 dX12_layNames_90) ?_
  refine Seg.step (pc' := 93) (I_bipush dX12_layNames_91 (by decide) ⟨by decide, by decide⟩) ?_
  refine Seg.step (pc' := 94) (I_irem dX12_layNames_93 (by decide)) ?_
  refine Seg.step (pc' := 95) (I_i2l dX12_layNames_94) ?_
  refine Seg.step (pc' := 96) (I_last (hE _ _ sk_12_51) ⟨by decide, by decide⟩ dX12_layNames_95) ?_
  refine S_bM fun M13 => ?_
  exact S_vret dX12_layNames_96 rfl (by decide) (by decide) (fun K hK => hK)
theorem dX12_lawOf_0 : decode cX12_lawOf 0 = .ok (.aload_n 0, 1) := by decide +kernel
theorem dX12_lawOf_1 : decode cX12_lawOf 1 = .ok (.iconst 0, 1) := by decide +kernel
theorem dX12_lawOf_2 : decode cX12_lawOf 2 = .ok (.putfield 363, 3) := by decide +kernel
theorem dX12_lawOf_5 : decode cX12_lawOf 5 = .ok (.aload_n 0, 1) := by decide +kernel
theorem dX12_lawOf_6 : decode cX12_lawOf 6 = .ok (.getfield 69, 3) := by decide +kernel
theorem dX12_lawOf_9 : decode cX12_lawOf 9 = .ok (.iload_n 1, 1) := by decide +kernel
theorem dX12_lawOf_10 : decode cX12_lawOf 10 = .ok (.iaload, 1) := by decide +kernel
theorem dX12_lawOf_11 : decode cX12_lawOf 11 = .ok (.istore_n 2, 1) := by decide +kernel
theorem dX12_lawOf_12 : decode cX12_lawOf 12 = .ok (.iload_n 2, 1) := by decide +kernel
theorem dX12_lawOf_13 : decode cX12_lawOf 13 = .ok (.aload_n 0, 1) := by decide +kernel
theorem dX12_lawOf_14 : decode cX12_lawOf 14 = .ok (.getfield 72, 3) := by decide +kernel
theorem dX12_lawOf_17 : decode cX12_lawOf 17 = .ok (.iload_n 1, 1) := by decide +kernel
theorem dX12_lawOf_18 : decode cX12_lawOf 18 = .ok (.iaload, 1) := by decide +kernel
theorem dX12_lawOf_19 : decode cX12_lawOf 19 = .ok (.if_icmp .ge 20, 3) := by decide +kernel
theorem dX12_lawOf_22 : decode cX12_lawOf 22 = .ok (.aload_n 0, 1) := by decide +kernel
theorem dX12_lawOf_23 : decode cX12_lawOf 23 = .ok (.getfield 94, 3) := by decide +kernel
theorem dX12_lawOf_26 : decode cX12_lawOf 26 = .ok (.iload_n 2, 1) := by decide +kernel
theorem dX12_lawOf_27 : decode cX12_lawOf 27 = .ok (.aload_n 0, 1) := by decide +kernel
theorem dX12_lawOf_28 : decode cX12_lawOf 28 = .ok (.iload_n 2, 1) := by decide +kernel
theorem dX12_lawOf_29 : decode cX12_lawOf 29 = .ok (.invokevirtual 443, 3) := by decide +kernel
theorem dX12_lawOf_32 : decode cX12_lawOf 32 = .ok (.lastore, 1) := by decide +kernel
theorem dX12_lawOf_33 : decode cX12_lawOf 33 = .ok (.iinc 2 1, 3) := by decide +kernel
theorem dX12_lawOf_36 : decode cX12_lawOf 36 = .ok (.goto (-24), 3) := by decide +kernel
theorem dX12_lawOf_39 : decode cX12_lawOf 39 = .ok (.aload_n 0, 1) := by decide +kernel
theorem dX12_lawOf_40 : decode cX12_lawOf 40 = .ok (.getfield 363, 3) := by decide +kernel
theorem dX12_lawOf_43 : decode cX12_lawOf 43 = .ok (.ifCond .eq 7, 3) := by decide +kernel
theorem dX12_lawOf_46 : decode cX12_lawOf 46 = .ok (.lconst 0, 1) := by decide +kernel
theorem dX12_lawOf_47 : decode cX12_lawOf 47 = .ok (.goto 16, 3) := by decide +kernel
theorem dX12_lawOf_50 : decode cX12_lawOf 50 = .ok (.aload_n 0, 1) := by decide +kernel
theorem dX12_lawOf_51 : decode cX12_lawOf 51 = .ok (.getfield 94, 3) := by decide +kernel
theorem dX12_lawOf_54 : decode cX12_lawOf 54 = .ok (.aload_n 0, 1) := by decide +kernel
theorem dX12_lawOf_55 : decode cX12_lawOf 55 = .ok (.getfield 72, 3) := by decide +kernel
theorem dX12_lawOf_58 : decode cX12_lawOf 58 = .ok (.iload_n 1, 1) := by decide +kernel
theorem dX12_lawOf_59 : decode cX12_lawOf 59 = .ok (.iaload, 1) := by decide +kernel
theorem dX12_lawOf_60 : decode cX12_lawOf 60 = .ok (.iconst 1, 1) := by decide +kernel
theorem dX12_lawOf_61 : decode cX12_lawOf 61 = .ok (.isub, 1) := by decide +kernel
theorem dX12_lawOf_62 : decode cX12_lawOf 62 = .ok (.laload, 1) := by decide +kernel
theorem dX12_lawOf_63 : decode cX12_lawOf 63 = .ok (.lreturn, 1) := by decide +kernel
def f_X12_lawOf (M : MM) (p1 : Int) : Option (Int × MM) :=
bM (upM M 88 53 0) fun M1 =>
gd (0 ≤ p1 ∧ p1 < (6 : Int)) <|
bI (M1 107 (p1).toNat) fun x3 =>
(lp (X := Int × MM) (Y := MM) (fun x4 =>
gd (0 ≤ p1 ∧ p1 < (6 : Int)) <|
if x4.1 < (x4.2 108 (p1).toNat) then
((f_X12_valueOf x4.2 x4.1).bind fun x7 =>
gd (0 ≤ x4.1 ∧ x4.1 < (64 : Int)) <|
bM (upM x7.2 115 (x4.1).toNat x7.1) fun M9 =>
some (Sum.inl (w32 (x4.1 + 1), M9)))
else
some (Sum.inr x4.2)) FU (x3, M1)).bind fun x10 =>
if (x10 88 53) = 0 then
(gd (0 ≤ p1 ∧ p1 < (6 : Int)) <|
gd (0 ≤ w32 ((x10 108 (p1).toNat) - 1) ∧ w32 ((x10 108 (p1).toNat) - 1) < (64 : Int)) <|
some (x10 115 (w32 ((x10 108 (p1).toNat) - 1)).toNat, x10))
else
some (0, x10)
set_option maxRecDepth 4000 in
theorem c_X12_lawOf {E : EE} {sh : List (Nat × Nat)} {ex : Bool} {R : RM} {M : MM} {p1 : Int} (hE : Ext sh) (hL : Links R) : ∀ y, f_X12_lawOf M p1 = some y → MetC E m_X12_lawOf 0 0 [rV 88, iV p1] (sh, ex, R, M) (fun r w' => r = some (jV y.1) ∧ w' = (sh, ex, R, y.2)) := by
  intro y hy
  refine MetC.seg (o := f_X12_lawOf M p1) (t := (fun K y => K (some (jV y.1)) (sh, ex, R, y.2))) (L := [some (rV 88), some (iV p1), none]) (by decide) rfl (Nat.le_of_ble_eq_true rfl) ?_ hy ⟨rfl, rfl⟩
  unfold f_X12_lawOf
  refine Seg.step (pc' := 1) (I_aload_n (i := 0) dX12_lawOf_0 rfl rfl) ?_
  refine Seg.step (pc' := 2) (I_iconst dX12_lawOf_1 ⟨by decide, by decide⟩) ?_
  refine Seg.step (pc' := 5) (I_putZ cls12 (by decide) wf_12_363 (hE _ _ sk_12) rfl rfl (by decide) dX12_lawOf_2) ?_
  refine S_bM fun M1 => ?_
  refine Seg.step (pc' := 6) (I_aload_n (i := 0) dX12_lawOf_5 rfl rfl) ?_
  refine Seg.step (pc' := 9) (I_getR cls12 (by decide) wf_12_69 (hE _ _ sk_12) rfl (lk_12_38 hL) dX12_lawOf_6) ?_
  refine Seg.step (pc' := 10) (I_iload_n (i := 1) dX12_lawOf_9 rfl rfl) ?_
  refine S_gd fun h2 => ?_
  refine Seg.step (pc' := 11) (I_iald (hE _ _ sk_12_38) h2 dX12_lawOf_10) ?_
  refine S_bI fun x3 => ?_
  refine Seg.step (pc' := 12) (I_istore_n (i := 2) dX12_lawOf_11 rfl (by decide) rfl) ?_
  refine Seg.forget (Lle.ye (Lle.ye (Lle.ye (Lle.nil)))) ?_
  refine S_bind (Y := MM) (k' := 0) (n' := 0) 39 (fun y => [some (rV 88), some (iV p1), none]) (fun y => []) (fun y => (sh, ex, R, y)) (S_loop (Y := Int × MM) (fun y => [some (rV 88), some (iV p1), some (iV y.1)]) (fun y => []) (fun y => (sh, ex, R, y.2)) (fun x4 => ?_) FU (x3, M1)) (fun x10 => ?_)
  · refine Seg.step (pc' := 13) (I_iload_n (i := 2) dX12_lawOf_12 rfl rfl) ?_
    refine Seg.step (pc' := 14) (I_aload_n (i := 0) dX12_lawOf_13 rfl rfl) ?_
    refine Seg.step (pc' := 17) (I_getR cls12 (by decide) wf_12_72 (hE _ _ sk_12) rfl (lk_12_39 hL) dX12_lawOf_14) ?_
    refine Seg.step (pc' := 18) (I_iload_n (i := 1) dX12_lawOf_17 rfl rfl) ?_
    refine S_gd fun h5 => ?_
    refine Seg.step (pc' := 19) (I_iald (hE _ _ sk_12_39) h5 dX12_lawOf_18) ?_
    refine S_icmp_ge (tgt := 39) dX12_lawOf_19 (by decide) (fun h6 => ?_) (fun h6 => ?_)
    · refine Seg.step (pc' := 23) (I_aload_n (i := 0) dX12_lawOf_22 rfl rfl) ?_
      refine Seg.step (pc' := 26) (I_getR cls12 (by decide) wf_12_94 (hE _ _ sk_12) rfl (lk_12_52 hL) dX12_lawOf_23) ?_
      refine Seg.step (pc' := 27) (I_iload_n (i := 2) dX12_lawOf_26 rfl rfl) ?_
      refine Seg.step (pc' := 28) (I_aload_n (i := 0) dX12_lawOf_27 rfl rfl) ?_
      refine Seg.step (pc' := 29) (I_iload_n (i := 2) dX12_lawOf_28 rfl rfl) ?_
      refine S_callV1 (md' := m_X12_valueOf) (fun y => some (jV y.1)) (fun y => (sh, ex, R, y.2)) (hE _ _ sk_12) ⟨by decide, rfl⟩ mm_X12_valueOf wm_12_443 ⟨rfl, rfl, by decide, by decide, by decide, by decide⟩ (Nat.le_of_ble_eq_true rfl) dX12_lawOf_29 (fun y hy => c_X12_valueOf hE hL y hy) (fun x7 => ?_)
      refine S_gd fun h8 => ?_
      refine Seg.step (pc' := 33) (I_last (hE _ _ sk_12_52) h8 dX12_lawOf_32) ?_
      refine S_bM fun M9 => ?_
      refine Seg.step (pc' := 36) (I_iinc dX12_lawOf_33 rfl (by decide) rfl) ?_
      refine Seg.step (pc' := 12) (I_goto (tgt := 12) dX12_lawOf_36 (by decide)) ?_
      exact S_arr (fun K hK => GG.forget (Lle.ye (Lle.ye (Lle.ye (Lle.nil)))) hK)
    exact S_arr (fun K hK => GG.forget (Lle.ye (Lle.ye (Lle.no (Lle.nil)))) hK)
  refine Seg.step (pc' := 40) (I_aload_n (i := 0) dX12_lawOf_39 rfl rfl) ?_
  refine Seg.step (pc' := 43) (I_getZ cls12 (by decide) wf_12_363 (hE _ _ sk_12) rfl dX12_lawOf_40) ?_
  refine S_if_eq (tgt := 50) dX12_lawOf_43 (by decide) (fun h11 => ?_) (fun h11 => ?_)
  · refine Seg.step (pc' := 51) (I_aload_n (i := 0) dX12_lawOf_50 rfl rfl) ?_
    refine Seg.step (pc' := 54) (I_getR cls12 (by decide) wf_12_94 (hE _ _ sk_12) rfl (lk_12_52 hL) dX12_lawOf_51) ?_
    refine Seg.step (pc' := 55) (I_aload_n (i := 0) dX12_lawOf_54 rfl rfl) ?_
    refine Seg.step (pc' := 58) (I_getR cls12 (by decide) wf_12_72 (hE _ _ sk_12) rfl (lk_12_39 hL) dX12_lawOf_55) ?_
    refine Seg.step (pc' := 59) (I_iload_n (i := 1) dX12_lawOf_58 rfl rfl) ?_
    refine S_gd fun h12 => ?_
    refine Seg.step (pc' := 60) (I_iald (hE _ _ sk_12_39) h12 dX12_lawOf_59) ?_
    refine Seg.step (pc' := 61) (I_iconst dX12_lawOf_60 ⟨by decide, by decide⟩) ?_
    refine Seg.step (pc' := 62) (I_isub dX12_lawOf_61) ?_
    refine S_gd fun h13 => ?_
    refine Seg.step (pc' := 63) (I_lald (hE _ _ sk_12_52) h13 dX12_lawOf_62) ?_
    exact S_lret dX12_lawOf_63 rfl (by decide) (by decide) (fun K hK => hK)
  refine Seg.step (pc' := 47) (I_lconst (z := 0) dX12_lawOf_46 (by decide) ⟨by decide, by decide⟩) ?_
  refine Seg.step (pc' := 63) (I_goto (tgt := 63) dX12_lawOf_47 (by decide)) ?_
  exact S_lret dX12_lawOf_63 rfl (by decide) (by decide) (fun K hK => hK)
theorem dX12_boundLaw_0 : decode cX12_boundLaw 0 = .ok (.aload_n 0, 1) := by decide +kernel
theorem dX12_boundLaw_1 : decode cX12_boundLaw 1 = .ok (.getfield 66, 3) := by decide +kernel
theorem dX12_boundLaw_4 : decode cX12_boundLaw 4 = .ok (.iload_n 1, 1) := by decide +kernel
theorem dX12_boundLaw_5 : decode cX12_boundLaw 5 = .ok (.baload, 1) := by decide +kernel
theorem dX12_boundLaw_6 : decode cX12_boundLaw 6 = .ok (.ifCond .ne 5, 3) := by decide +kernel
theorem dX12_boundLaw_9 : decode cX12_boundLaw 9 = .ok (.iload_n 2, 1) := by decide +kernel
theorem dX12_boundLaw_10 : decode cX12_boundLaw 10 = .ok (.ireturn, 1) := by decide +kernel
theorem dX12_boundLaw_11 : decode cX12_boundLaw 11 = .ok (.aload_n 0, 1) := by decide +kernel
theorem dX12_boundLaw_12 : decode cX12_boundLaw 12 = .ok (.iload_n 1, 1) := by decide +kernel
theorem dX12_boundLaw_13 : decode cX12_boundLaw 13 = .ok (.invokevirtual 447, 3) := by decide +kernel
theorem dX12_boundLaw_16 : decode cX12_boundLaw 16 = .ok (.lstore 5, 2) := by decide +kernel
theorem dX12_boundLaw_18 : decode cX12_boundLaw 18 = .ok (.aload_n 0, 1) := by decide +kernel
theorem dX12_boundLaw_19 : decode cX12_boundLaw 19 = .ok (.getfield 363, 3) := by decide +kernel
theorem dX12_boundLaw_22 : decode cX12_boundLaw 22 = .ok (.ifCond .eq 5, 3) := by decide +kernel
theorem dX12_boundLaw_25 : decode cX12_boundLaw 25 = .ok (.iload_n 2, 1) := by decide +kernel
theorem dX12_boundLaw_26 : decode cX12_boundLaw 26 = .ok (.ireturn, 1) := by decide +kernel
theorem dX12_boundLaw_27 : decode cX12_boundLaw 27 = .ok (.lload 5, 2) := by decide +kernel
theorem dX12_boundLaw_29 : decode cX12_boundLaw 29 = .ok (.iload_n 3, 1) := by decide +kernel
theorem dX12_boundLaw_30 : decode cX12_boundLaw 30 = .ok (.i2l, 1) := by decide +kernel
theorem dX12_boundLaw_31 : decode cX12_boundLaw 31 = .ok (.lcmp, 1) := by decide +kernel
theorem dX12_boundLaw_32 : decode cX12_boundLaw 32 = .ok (.ifCond .ge 7, 3) := by decide +kernel
theorem dX12_boundLaw_35 : decode cX12_boundLaw 35 = .ok (.iload_n 3, 1) := by decide +kernel
theorem dX12_boundLaw_36 : decode cX12_boundLaw 36 = .ok (.goto 20, 3) := by decide +kernel
theorem dX12_boundLaw_39 : decode cX12_boundLaw 39 = .ok (.lload 5, 2) := by decide +kernel
theorem dX12_boundLaw_41 : decode cX12_boundLaw 41 = .ok (.iload 4, 2) := by decide +kernel
theorem dX12_boundLaw_43 : decode cX12_boundLaw 43 = .ok (.i2l, 1) := by decide +kernel
theorem dX12_boundLaw_44 : decode cX12_boundLaw 44 = .ok (.lcmp, 1) := by decide +kernel
theorem dX12_boundLaw_45 : decode cX12_boundLaw 45 = .ok (.ifCond .le 8, 3) := by decide +kernel
theorem dX12_boundLaw_48 : decode cX12_boundLaw 48 = .ok (.iload 4, 2) := by decide +kernel
theorem dX12_boundLaw_50 : decode cX12_boundLaw 50 = .ok (.goto 6, 3) := by decide +kernel
theorem dX12_boundLaw_53 : decode cX12_boundLaw 53 = .ok (.lload 5, 2) := by decide +kernel
theorem dX12_boundLaw_55 : decode cX12_boundLaw 55 = .ok (.l2i, 1) := by decide +kernel
theorem dX12_boundLaw_56 : decode cX12_boundLaw 56 = .ok (.ireturn, 1) := by decide +kernel
def f_X12_boundLaw (M : MM) (p1 : Int) (p2 : Int) (p3 : Int) (p4 : Int) : Option (Int × MM) :=
gd (0 ≤ p1 ∧ p1 < (6 : Int)) <|
if (M 106 (p1).toNat) = 0 then
(some (p2, M))
else
(f_X12_lawOf M p1).bind fun x3 =>
if (x3.2 88 53) = 0 then
(if (cmpI x3.1 p3) < 0 then
(some (p3, x3.2))
else
if 0 < (cmpI x3.1 p4) then
(some (p4, x3.2))
else
some (w32 x3.1, x3.2))
else
some (p2, x3.2)
set_option maxRecDepth 4000 in
theorem c_X12_boundLaw {E : EE} {sh : List (Nat × Nat)} {ex : Bool} {R : RM} {M : MM} {p1 : Int} {p2 : Int} {p3 : Int} {p4 : Int} (hE : Ext sh) (hL : Links R) : ∀ y, f_X12_boundLaw M p1 p2 p3 p4 = some y → MetC E m_X12_boundLaw 0 0 [rV 88, iV p1, iV p2, iV p3, iV p4] (sh, ex, R, M) (fun r w' => r = some (iV y.1) ∧ w' = (sh, ex, R, y.2)) := by
  intro y hy
  refine MetC.seg (o := f_X12_boundLaw M p1 p2 p3 p4) (t := (fun K y => K (some (iV y.1)) (sh, ex, R, y.2))) (L := [some (rV 88), some (iV p1), some (iV p2), some (iV p3), some (iV p4), none, none]) (by decide) rfl (Nat.le_of_ble_eq_true rfl) ?_ hy ⟨rfl, rfl⟩
  unfold f_X12_boundLaw
  refine Seg.step (pc' := 1) (I_aload_n (i := 0) dX12_boundLaw_0 rfl rfl) ?_
  refine Seg.step (pc' := 4) (I_getR cls12 (by decide) wf_12_66 (hE _ _ sk_12) rfl (lk_12_37 hL) dX12_boundLaw_1) ?_
  refine Seg.step (pc' := 5) (I_iload_n (i := 1) dX12_boundLaw_4 rfl rfl) ?_
  refine S_gd fun h1 => ?_
  refine Seg.step (pc' := 6) (I_zald (hE _ _ sk_12_37) h1 dX12_boundLaw_5) ?_
  refine S_if_ne (tgt := 11) dX12_boundLaw_6 (by decide) (fun h2 => ?_) (fun h2 => ?_)
  · refine Seg.step (pc' := 10) (I_iload_n (i := 2) dX12_boundLaw_9 rfl rfl) ?_
    exact S_iret dX12_boundLaw_10 rfl (by decide) (by decide) (fun K hK => hK)
  refine Seg.step (pc' := 12) (I_aload_n (i := 0) dX12_boundLaw_11 rfl rfl) ?_
  refine Seg.step (pc' := 13) (I_iload_n (i := 1) dX12_boundLaw_12 rfl rfl) ?_
  refine S_callV1 (md' := m_X12_lawOf) (fun y => some (jV y.1)) (fun y => (sh, ex, R, y.2)) (hE _ _ sk_12) ⟨by decide, rfl⟩ mm_X12_lawOf wm_12_447 ⟨rfl, rfl, by decide, by decide, by decide, by decide⟩ (Nat.le_of_ble_eq_true rfl) dX12_boundLaw_13 (fun y hy => c_X12_lawOf hE hL y hy) (fun x3 => ?_)
  refine Seg.step (pc' := 18) (I_lstore dX12_boundLaw_16 (by decide) rfl) ?_
  refine Seg.step (pc' := 19) (I_aload_n (i := 0) dX12_boundLaw_18 rfl rfl) ?_
  refine Seg.step (pc' := 22) (I_getZ cls12 (by decide) wf_12_363 (hE _ _ sk_12) rfl dX12_boundLaw_19) ?_
  refine S_if_eq (tgt := 27) dX12_boundLaw_22 (by decide) (fun h4 => ?_) (fun h4 => ?_)
  · refine Seg.step (pc' := 29) (I_lload dX12_boundLaw_27 rfl) ?_
    refine Seg.step (pc' := 30) (I_iload_n (i := 3) dX12_boundLaw_29 rfl rfl) ?_
    refine Seg.step (pc' := 31) (I_i2l dX12_boundLaw_30) ?_
    refine Seg.step (pc' := 32) (I_lcmp dX12_boundLaw_31) ?_
    refine S_if_ge (tgt := 39) dX12_boundLaw_32 (by decide) (fun h5 => ?_) (fun h5 => ?_)
    · refine Seg.step (pc' := 36) (I_iload_n (i := 3) dX12_boundLaw_35 rfl rfl) ?_
      refine Seg.step (pc' := 56) (I_goto (tgt := 56) dX12_boundLaw_36 (by decide)) ?_
      exact S_iret dX12_boundLaw_56 rfl (by decide) (by decide) (fun K hK => hK)
    refine Seg.step (pc' := 41) (I_lload dX12_boundLaw_39 rfl) ?_
    refine Seg.step (pc' := 43) (I_iload dX12_boundLaw_41 rfl) ?_
    refine Seg.step (pc' := 44) (I_i2l dX12_boundLaw_43) ?_
    refine Seg.step (pc' := 45) (I_lcmp dX12_boundLaw_44) ?_
    refine S_if_le (tgt := 53) dX12_boundLaw_45 (by decide) (fun h6 => ?_) (fun h6 => ?_)
    · refine Seg.step (pc' := 50) (I_iload dX12_boundLaw_48 rfl) ?_
      refine Seg.step (pc' := 56) (I_goto (tgt := 56) dX12_boundLaw_50 (by decide)) ?_
      exact S_iret dX12_boundLaw_56 rfl (by decide) (by decide) (fun K hK => hK)
    refine Seg.step (pc' := 55) (I_lload dX12_boundLaw_53 rfl) ?_
    refine Seg.step (pc' := 56) (I_l2i dX12_boundLaw_55) ?_
    exact S_iret dX12_boundLaw_56 rfl (by decide) (by decide) (fun K hK => hK)
  refine Seg.step (pc' := 26) (I_iload_n (i := 2) dX12_boundLaw_25 rfl rfl) ?_
  exact S_iret dX12_boundLaw_26 rfl (by decide) (by decide) (fun K hK => hK)
theorem dX12_loses_0 : decode cX12_loses 0 = .ok (.aload_n 0, 1) := by decide +kernel
theorem dX12_loses_1 : decode cX12_loses 1 = .ok (.getfield 406, 3) := by decide +kernel
theorem dX12_loses_4 : decode cX12_loses 4 = .ok (.ifCond .eq 5, 3) := by decide +kernel
theorem dX12_loses_7 : decode cX12_loses 7 = .ok (.iconst 0, 1) := by decide +kernel
theorem dX12_loses_8 : decode cX12_loses 8 = .ok (.ireturn, 1) := by decide +kernel
theorem dX12_loses_9 : decode cX12_loses 9 = .ok (.aload_n 0, 1) := by decide +kernel
theorem dX12_loses_10 : decode cX12_loses 10 = .ok (.getfield 97, 3) := by decide +kernel
theorem dX12_loses_13 : decode cX12_loses 13 = .ok (.iconst 5, 1) := by decide +kernel
theorem dX12_loses_14 : decode cX12_loses 14 = .ok (.iload_n 1, 1) := by decide +kernel
theorem dX12_loses_15 : decode cX12_loses 15 = .ok (.imul, 1) := by decide +kernel
theorem dX12_loses_16 : decode cX12_loses 16 = .ok (.iload_n 2, 1) := by decide +kernel
theorem dX12_loses_17 : decode cX12_loses 17 = .ok (.iadd, 1) := by decide +kernel
theorem dX12_loses_18 : decode cX12_loses 18 = .ok (.iaload, 1) := by decide +kernel
theorem dX12_loses_19 : decode cX12_loses 19 = .ok (.aload_n 0, 1) := by decide +kernel
theorem dX12_loses_20 : decode cX12_loses 20 = .ok (.aload_n 0, 1) := by decide +kernel
theorem dX12_loses_21 : decode cX12_loses 21 = .ok (.getfield 130, 3) := by decide +kernel
theorem dX12_loses_24 : decode cX12_loses 24 = .ok (.iload_n 1, 1) := by decide +kernel
theorem dX12_loses_25 : decode cX12_loses 25 = .ok (.iaload, 1) := by decide +kernel
theorem dX12_loses_26 : decode cX12_loses 26 = .ok (.invokevirtual 437, 3) := by decide +kernel
theorem dX12_loses_29 : decode cX12_loses 29 = .ok (.isub, 1) := by decide +kernel
theorem dX12_loses_30 : decode cX12_loses 30 = .ok (.aload_n 0, 1) := by decide +kernel
theorem dX12_loses_31 : decode cX12_loses 31 = .ok (.iload_n 2, 1) := by decide +kernel
theorem dX12_loses_32 : decode cX12_loses 32 = .ok (.invokevirtual 440, 3) := by decide +kernel
theorem dX12_loses_35 : decode cX12_loses 35 = .ok (.imul, 1) := by decide +kernel
theorem dX12_loses_36 : decode cX12_loses 36 = .ok (.bipush 100, 2) := by decide +kernel
theorem dX12_loses_38 : decode cX12_loses 38 = .ok (.idiv, 1) := by decide +kernel
theorem dX12_loses_39 : decode cX12_loses 39 = .ok (.istore_n 3, 1) := by decide +kernel
theorem dX12_loses_40 : decode cX12_loses 40 = .ok (.aload_n 0, 1) := by decide +kernel
theorem dX12_loses_41 : decode cX12_loses 41 = .ok (.iload_n 1, 1) := by decide +kernel
theorem dX12_loses_42 : decode cX12_loses 42 = .ok (.iload_n 2, 1) := by decide +kernel
theorem dX12_loses_43 : decode cX12_loses 43 = .ok (.iconst 0, 1) := by decide +kernel
theorem dX12_loses_44 : decode cX12_loses 44 = .ok (.iconst 0, 1) := by decide +kernel
theorem dX12_loses_45 : decode cX12_loses 45 = .ok (.invokevirtual 450, 3) := by decide +kernel
theorem dX12_loses_48 : decode cX12_loses 48 = .ok (.aload_n 0, 1) := by decide +kernel
theorem dX12_loses_49 : decode cX12_loses 49 = .ok (.iconst 0, 1) := by decide +kernel
theorem dX12_loses_50 : decode cX12_loses 50 = .ok (.iload_n 3, 1) := by decide +kernel
theorem dX12_loses_51 : decode cX12_loses 51 = .ok (.sipush (-400), 3) := by decide +kernel
theorem dX12_loses_54 : decode cX12_loses 54 = .ok (.sipush 400, 3) := by decide +kernel
theorem dX12_loses_57 : decode cX12_loses 57 = .ok (.invokestatic 433, 3) := by decide +kernel
theorem dX12_loses_60 : decode cX12_loses 60 = .ok (.sipush (-400), 3) := by decide +kernel
theorem dX12_loses_63 : decode cX12_loses 63 = .ok (.sipush 400, 3) := by decide +kernel
theorem dX12_loses_66 : decode cX12_loses 66 = .ok (.invokevirtual 454, 3) := by decide +kernel
theorem dX12_loses_69 : decode cX12_loses 69 = .ok (.ireturn, 1) := by decide +kernel
def f_X12_loses (M : MM) (p1 : Int) (p2 : Int) : Option (Int × MM) :=
if (M 88 72) = 0 then
(gd (0 ≤ w32 ((w32 (5 * p1)) + p2) ∧ w32 ((w32 (5 * p1)) + p2) < (10 : Int)) <|
gd (0 ≤ p1 ∧ p1 < (2 : Int)) <|
(f_X12_outOf M (M 127 (p1).toNat)).bind fun x4 =>
(f_X12_leakOf M p2).bind fun x5 =>
bI (w32 (Int.tdiv (w32 ((w32 ((M 116 (w32 ((w32 (5 * p1)) + p2)).toNat) - x4)) * x5)) 100)) fun x6 =>
(f_X12_layNames M p1 p2 0 0).bind fun x7 =>
(f_X12_within x7 x6 (-400) 400).bind fun x8 =>
(f_X12_boundLaw x7 0 x8 (-400) 400).bind fun x9 =>
some (x9.1, x9.2))
else
some (0, M)
set_option maxRecDepth 4000 in
theorem c_X12_loses {E : EE} {sh : List (Nat × Nat)} {ex : Bool} {R : RM} {M : MM} {p1 : Int} {p2 : Int} (hE : Ext sh) (hL : Links R) : ∀ y, f_X12_loses M p1 p2 = some y → MetC E m_X12_loses 0 0 [rV 88, iV p1, iV p2] (sh, ex, R, M) (fun r w' => r = some (iV y.1) ∧ w' = (sh, ex, R, y.2)) := by
  intro y hy
  refine MetC.seg (o := f_X12_loses M p1 p2) (t := (fun K y => K (some (iV y.1)) (sh, ex, R, y.2))) (L := [some (rV 88), some (iV p1), some (iV p2), none]) (by decide) rfl (Nat.le_of_ble_eq_true rfl) ?_ hy ⟨rfl, rfl⟩
  unfold f_X12_loses
  refine Seg.step (pc' := 1) (I_aload_n (i := 0) dX12_loses_0 rfl rfl) ?_
  refine Seg.step (pc' := 4) (I_getZ cls12 (by decide) wf_12_406 (hE _ _ sk_12) rfl dX12_loses_1) ?_
  refine S_if_eq (tgt := 9) dX12_loses_4 (by decide) (fun h1 => ?_) (fun h1 => ?_)
  · refine Seg.step (pc' := 10) (I_aload_n (i := 0) dX12_loses_9 rfl rfl) ?_
    refine Seg.step (pc' := 13) (I_getR cls12 (by decide) wf_12_97 (hE _ _ sk_12) rfl (lk_12_54 hL) dX12_loses_10) ?_
    refine Seg.step (pc' := 14) (I_iconst dX12_loses_13 ⟨by decide, by decide⟩) ?_
    refine Seg.step (pc' := 15) (I_iload_n (i := 1) dX12_loses_14 rfl rfl) ?_
    refine Seg.step (pc' := 16) (I_imul dX12_loses_15) ?_
    refine Seg.step (pc' := 17) (I_iload_n (i := 2) dX12_loses_16 rfl rfl) ?_
    refine Seg.step (pc' := 18) (I_iadd dX12_loses_17) ?_
    refine S_gd fun h2 => ?_
    refine Seg.step (pc' := 19) (I_iald (hE _ _ sk_12_54) h2 dX12_loses_18) ?_
    refine Seg.step (pc' := 20) (I_aload_n (i := 0) dX12_loses_19 rfl rfl) ?_
    refine Seg.step (pc' := 21) (I_aload_n (i := 0) dX12_loses_20 rfl rfl) ?_
    refine Seg.step (pc' := 24) (I_getR cls12 (by decide) wf_12_130 (hE _ _ sk_12) rfl (lk_12_65 hL) dX12_loses_21) ?_
    refine Seg.step (pc' := 25) (I_iload_n (i := 1) dX12_loses_24 rfl rfl) ?_
    refine S_gd fun h3 => ?_
    refine Seg.step (pc' := 26) (I_iald (hE _ _ sk_12_65) h3 dX12_loses_25) ?_
    refine S_callV1 (md' := m_X12_outOf) (fun y => some (iV y)) (fun y => (sh, ex, R, M)) (hE _ _ sk_12) ⟨by decide, rfl⟩ mm_X12_outOf wm_12_437 ⟨rfl, rfl, by decide, by decide, by decide, by decide⟩ (Nat.le_of_ble_eq_true rfl) dX12_loses_26 (fun y hy => c_X12_outOf hE hL y hy) (fun x4 => ?_)
    refine Seg.step (pc' := 30) (I_isub dX12_loses_29) ?_
    refine Seg.step (pc' := 31) (I_aload_n (i := 0) dX12_loses_30 rfl rfl) ?_
    refine Seg.step (pc' := 32) (I_iload_n (i := 2) dX12_loses_31 rfl rfl) ?_
    refine S_callV1 (md' := m_X12_leakOf) (fun y => some (iV y)) (fun y => (sh, ex, R, M)) (hE _ _ sk_12) ⟨by decide, rfl⟩ mm_X12_leakOf wm_12_440 ⟨rfl, rfl, by decide, by decide, by decide, by decide⟩ (Nat.le_of_ble_eq_true rfl) dX12_loses_32 (fun y hy => c_X12_leakOf hE hL y hy) (fun x5 => ?_)
    refine Seg.step (pc' := 36) (I_imul dX12_loses_35) ?_
    refine Seg.step (pc' := 38) (I_bipush dX12_loses_36 (by decide) ⟨by decide, by decide⟩) ?_
    refine Seg.step (pc' := 39) (I_idiv dX12_loses_38 (by decide)) ?_
    refine S_bI fun x6 => ?_
    refine Seg.step (pc' := 40) (I_istore_n (i := 3) dX12_loses_39 rfl (by decide) rfl) ?_
    refine Seg.step (pc' := 41) (I_aload_n (i := 0) dX12_loses_40 rfl rfl) ?_
    refine Seg.step (pc' := 42) (I_iload_n (i := 1) dX12_loses_41 rfl rfl) ?_
    refine Seg.step (pc' := 43) (I_iload_n (i := 2) dX12_loses_42 rfl rfl) ?_
    refine Seg.step (pc' := 44) (I_iconst dX12_loses_43 ⟨by decide, by decide⟩) ?_
    refine Seg.step (pc' := 45) (I_iconst dX12_loses_44 ⟨by decide, by decide⟩) ?_
    refine S_callV4 (md' := m_X12_layNames) (fun y => none) (fun y => (sh, ex, R, y)) (hE _ _ sk_12) ⟨by decide, rfl⟩ mm_X12_layNames wm_12_450 ⟨rfl, rfl, by decide, by decide, by decide, by decide⟩ (Nat.le_of_ble_eq_true rfl) dX12_loses_45 (fun y hy => c_X12_layNames hE hL y hy) (fun x7 => ?_)
    refine Seg.step (pc' := 49) (I_aload_n (i := 0) dX12_loses_48 rfl rfl) ?_
    refine Seg.step (pc' := 50) (I_iconst dX12_loses_49 ⟨by decide, by decide⟩) ?_
    refine Seg.step (pc' := 51) (I_iload_n (i := 3) dX12_loses_50 rfl rfl) ?_
    refine Seg.step (pc' := 54) (I_sipush dX12_loses_51 (by decide) ⟨by decide, by decide⟩) ?_
    refine Seg.step (pc' := 57) (I_sipush dX12_loses_54 (by decide) ⟨by decide, by decide⟩) ?_
    refine S_callS3 (md' := m_X12_within) (fun y => some (iV y)) (fun y => (sh, ex, R, x7)) mm_X12_within wm_12_433 ⟨rfl, rfl, by decide, by decide, by decide, by decide⟩ (Nat.le_of_ble_eq_true rfl) dX12_loses_57 (fun y hy => c_X12_within hE hL y hy) (fun x8 => ?_)
    refine Seg.step (pc' := 63) (I_sipush dX12_loses_60 (by decide) ⟨by decide, by decide⟩) ?_
    refine Seg.step (pc' := 66) (I_sipush dX12_loses_63 (by decide) ⟨by decide, by decide⟩) ?_
    refine S_callV4 (md' := m_X12_boundLaw) (fun y => some (iV y.1)) (fun y => (sh, ex, R, y.2)) (hE _ _ sk_12) ⟨by decide, rfl⟩ mm_X12_boundLaw wm_12_454 ⟨rfl, rfl, by decide, by decide, by decide, by decide⟩ (Nat.le_of_ble_eq_true rfl) dX12_loses_66 (fun y hy => c_X12_boundLaw hE hL y hy) (fun x9 => ?_)
    exact S_iret dX12_loses_69 rfl (by decide) (by decide) (fun K hK => hK)
  refine Seg.step (pc' := 8) (I_iconst dX12_loses_7 ⟨by decide, by decide⟩) ?_
  exact S_iret dX12_loses_8 rfl (by decide) (by decide) (fun K hK => hK)
theorem dX12_turnOf_0 : decode cX12_turnOf 0 = .ok (.aload_n 0, 1) := by decide +kernel
theorem dX12_turnOf_1 : decode cX12_turnOf 1 = .ok (.iload_n 1, 1) := by decide +kernel
theorem dX12_turnOf_2 : decode cX12_turnOf 2 = .ok (.iload_n 2, 1) := by decide +kernel
theorem dX12_turnOf_3 : decode cX12_turnOf 3 = .ok (.invokevirtual 458, 3) := by decide +kernel
theorem dX12_turnOf_6 : decode cX12_turnOf 6 = .ok (.istore_n 3, 1) := by decide +kernel
theorem dX12_turnOf_7 : decode cX12_turnOf 7 = .ok (.bipush 10, 2) := by decide +kernel
theorem dX12_turnOf_9 : decode cX12_turnOf 9 = .ok (.aload_n 0, 1) := by decide +kernel
theorem dX12_turnOf_10 : decode cX12_turnOf 10 = .ok (.getfield 45, 3) := by decide +kernel
theorem dX12_turnOf_13 : decode cX12_turnOf 13 = .ok (.iload_n 2, 1) := by decide +kernel
theorem dX12_turnOf_14 : decode cX12_turnOf 14 = .ok (.iaload, 1) := by decide +kernel
theorem dX12_turnOf_15 : decode cX12_turnOf 15 = .ok (.imul, 1) := by decide +kernel
theorem dX12_turnOf_16 : decode cX12_turnOf 16 = .ok (.istore 4, 2) := by decide +kernel
theorem dX12_turnOf_18 : decode cX12_turnOf 18 = .ok (.aload_n 0, 1) := by decide +kernel
theorem dX12_turnOf_19 : decode cX12_turnOf 19 = .ok (.iload_n 1, 1) := by decide +kernel
theorem dX12_turnOf_20 : decode cX12_turnOf 20 = .ok (.aload_n 0, 1) := by decide +kernel
theorem dX12_turnOf_21 : decode cX12_turnOf 21 = .ok (.getfield 42, 3) := by decide +kernel
theorem dX12_turnOf_24 : decode cX12_turnOf 24 = .ok (.iload_n 2, 1) := by decide +kernel
theorem dX12_turnOf_25 : decode cX12_turnOf 25 = .ok (.iaload, 1) := by decide +kernel
theorem dX12_turnOf_26 : decode cX12_turnOf 26 = .ok (.iload_n 3, 1) := by decide +kernel
theorem dX12_turnOf_27 : decode cX12_turnOf 27 = .ok (.iload 4, 2) := by decide +kernel
theorem dX12_turnOf_29 : decode cX12_turnOf 29 = .ok (.invokevirtual 450, 3) := by decide +kernel
theorem dX12_turnOf_32 : decode cX12_turnOf 32 = .ok (.aload_n 0, 1) := by decide +kernel
theorem dX12_turnOf_33 : decode cX12_turnOf 33 = .ok (.iconst 1, 1) := by decide +kernel
theorem dX12_turnOf_34 : decode cX12_turnOf 34 = .ok (.iload_n 3, 1) := by decide +kernel
theorem dX12_turnOf_35 : decode cX12_turnOf 35 = .ok (.iload 4, 2) := by decide +kernel
theorem dX12_turnOf_37 : decode cX12_turnOf 37 = .ok (.iconst 5, 1) := by decide +kernel
theorem dX12_turnOf_38 : decode cX12_turnOf 38 = .ok (.isub, 1) := by decide +kernel
theorem dX12_turnOf_39 : decode cX12_turnOf 39 = .ok (.if_icmp .ge 7, 3) := by decide +kernel
theorem dX12_turnOf_42 : decode cX12_turnOf 42 = .ok (.iconst 1, 1) := by decide +kernel
theorem dX12_turnOf_43 : decode cX12_turnOf 43 = .ok (.goto 16, 3) := by decide +kernel
theorem dX12_turnOf_46 : decode cX12_turnOf 46 = .ok (.iload_n 3, 1) := by decide +kernel
theorem dX12_turnOf_47 : decode cX12_turnOf 47 = .ok (.iload 4, 2) := by decide +kernel
theorem dX12_turnOf_49 : decode cX12_turnOf 49 = .ok (.iconst 5, 1) := by decide +kernel
theorem dX12_turnOf_50 : decode cX12_turnOf 50 = .ok (.iadd, 1) := by decide +kernel
theorem dX12_turnOf_51 : decode cX12_turnOf 51 = .ok (.if_icmp .le 7, 3) := by decide +kernel
theorem dX12_turnOf_54 : decode cX12_turnOf 54 = .ok (.iconst (-1), 1) := by decide +kernel
theorem dX12_turnOf_55 : decode cX12_turnOf 55 = .ok (.goto 4, 3) := by decide +kernel
theorem dX12_turnOf_58 : decode cX12_turnOf 58 = .ok (.iconst 0, 1) := by decide +kernel
theorem dX12_turnOf_59 : decode cX12_turnOf 59 = .ok (.bipush (-9), 2) := by decide +kernel
theorem dX12_turnOf_61 : decode cX12_turnOf 61 = .ok (.bipush 9, 2) := by decide +kernel
theorem dX12_turnOf_63 : decode cX12_turnOf 63 = .ok (.invokevirtual 454, 3) := by decide +kernel
theorem dX12_turnOf_66 : decode cX12_turnOf 66 = .ok (.ireturn, 1) := by decide +kernel
def f_X12_turnOf (M : MM) (p1 : Int) (p2 : Int) : Option (Int × MM) :=
(f_X12_feltBy M p1 p2).bind fun x1 =>
gd (0 ≤ p2 ∧ p2 < (10 : Int)) <|
bI (w32 (10 * (M 99 (p2).toNat))) fun x3 =>
gd (0 ≤ p2 ∧ p2 < (10 : Int)) <|
(f_X12_layNames M p1 (M 98 (p2).toNat) x1 x3).bind fun x5 =>
((if x1 < (w32 (x3 - 5)) then
(some 1)
else
if (w32 (x3 + 5)) < x1 then
(some (-1))
else
some 0) : Option (Int)).bind fun x8 =>
(f_X12_boundLaw x5 1 x8 (-9) 9).bind fun x9 =>
some (x9.1, x9.2)
set_option maxRecDepth 4000 in
theorem c_X12_turnOf {E : EE} {sh : List (Nat × Nat)} {ex : Bool} {R : RM} {M : MM} {p1 : Int} {p2 : Int} (hE : Ext sh) (hL : Links R) : ∀ y, f_X12_turnOf M p1 p2 = some y → MetC E m_X12_turnOf 0 0 [rV 88, iV p1, iV p2] (sh, ex, R, M) (fun r w' => r = some (iV y.1) ∧ w' = (sh, ex, R, y.2)) := by
  intro y hy
  refine MetC.seg (o := f_X12_turnOf M p1 p2) (t := (fun K y => K (some (iV y.1)) (sh, ex, R, y.2))) (L := [some (rV 88), some (iV p1), some (iV p2), none, none]) (by decide) rfl (Nat.le_of_ble_eq_true rfl) ?_ hy ⟨rfl, rfl⟩
  unfold f_X12_turnOf
  refine Seg.step (pc' := 1) (I_aload_n (i := 0) dX12_turnOf_0 rfl rfl) ?_
  refine Seg.step (pc' := 2) (I_iload_n (i := 1) dX12_turnOf_1 rfl rfl) ?_
  refine Seg.step (pc' := 3) (I_iload_n (i := 2) dX12_turnOf_2 rfl rfl) ?_
  refine S_callV2 (md' := m_X12_feltBy) (fun y => some (iV y)) (fun y => (sh, ex, R, M)) (hE _ _ sk_12) ⟨by decide, rfl⟩ mm_X12_feltBy wm_12_458 ⟨rfl, rfl, by decide, by decide, by decide, by decide⟩ (Nat.le_of_ble_eq_true rfl) dX12_turnOf_3 (fun y hy => c_X12_feltBy hE hL y hy) (fun x1 => ?_)
  refine Seg.step (pc' := 7) (I_istore_n (i := 3) dX12_turnOf_6 rfl (by decide) rfl) ?_
  refine Seg.step (pc' := 9) (I_bipush dX12_turnOf_7 (by decide) ⟨by decide, by decide⟩) ?_
  refine Seg.step (pc' := 10) (I_aload_n (i := 0) dX12_turnOf_9 rfl rfl) ?_
  refine Seg.step (pc' := 13) (I_getR cls12 (by decide) wf_12_45 (hE _ _ sk_12) rfl (lk_12_30 hL) dX12_turnOf_10) ?_
  refine Seg.step (pc' := 14) (I_iload_n (i := 2) dX12_turnOf_13 rfl rfl) ?_
  refine S_gd fun h2 => ?_
  refine Seg.step (pc' := 15) (I_iald (hE _ _ sk_12_30) h2 dX12_turnOf_14) ?_
  refine Seg.step (pc' := 16) (I_imul dX12_turnOf_15) ?_
  refine S_bI fun x3 => ?_
  refine Seg.step (pc' := 18) (I_istore dX12_turnOf_16 (by decide) rfl) ?_
  refine Seg.step (pc' := 19) (I_aload_n (i := 0) dX12_turnOf_18 rfl rfl) ?_
  refine Seg.step (pc' := 20) (I_iload_n (i := 1) dX12_turnOf_19 rfl rfl) ?_
  refine Seg.step (pc' := 21) (I_aload_n (i := 0) dX12_turnOf_20 rfl rfl) ?_
  refine Seg.step (pc' := 24) (I_getR cls12 (by decide) wf_12_42 (hE _ _ sk_12) rfl (lk_12_29 hL) dX12_turnOf_21) ?_
  refine Seg.step (pc' := 25) (I_iload_n (i := 2) dX12_turnOf_24 rfl rfl) ?_
  refine S_gd fun h4 => ?_
  refine Seg.step (pc' := 26) (I_iald (hE _ _ sk_12_29) h4 dX12_turnOf_25) ?_
  refine Seg.step (pc' := 27) (I_iload_n (i := 3) dX12_turnOf_26 rfl rfl) ?_
  refine Seg.step (pc' := 29) (I_iload dX12_turnOf_27 rfl) ?_
  refine S_callV4 (md' := m_X12_layNames) (fun y => none) (fun y => (sh, ex, R, y)) (hE _ _ sk_12) ⟨by decide, rfl⟩ mm_X12_layNames wm_12_450 ⟨rfl, rfl, by decide, by decide, by decide, by decide⟩ (Nat.le_of_ble_eq_true rfl) dX12_turnOf_29 (fun y hy => c_X12_layNames hE hL y hy) (fun x5 => ?_)
  refine Seg.step (pc' := 33) (I_aload_n (i := 0) dX12_turnOf_32 rfl rfl) ?_
  refine Seg.step (pc' := 34) (I_iconst dX12_turnOf_33 ⟨by decide, by decide⟩) ?_
  refine Seg.step (pc' := 35) (I_iload_n (i := 3) dX12_turnOf_34 rfl rfl) ?_
  refine Seg.step (pc' := 37) (I_iload dX12_turnOf_35 rfl) ?_
  refine Seg.step (pc' := 38) (I_iconst dX12_turnOf_37 ⟨by decide, by decide⟩) ?_
  refine Seg.step (pc' := 39) (I_isub dX12_turnOf_38) ?_
  refine S_bind (Y := Int) (k' := 0) (n' := 0) 59 (fun y => [none, none, none, none, none]) (fun y => [iV y, iV 1, rV 88]) (fun y => (sh, ex, R, x5)) ?_ (fun x8 => ?_)
  · refine S_icmp_ge (tgt := 46) dX12_turnOf_39 (by decide) (fun h6 => ?_) (fun h6 => ?_)
    · refine Seg.step (pc' := 43) (I_iconst dX12_turnOf_42 ⟨by decide, by decide⟩) ?_
      refine Seg.step (pc' := 59) (I_goto (tgt := 59) dX12_turnOf_43 (by decide)) ?_
      exact S_arr (fun K hK => GG.forget (Lle.no (Lle.no (Lle.no (Lle.no (Lle.no (Lle.nil)))))) hK)
    refine Seg.step (pc' := 47) (I_iload_n (i := 3) dX12_turnOf_46 rfl rfl) ?_
    refine Seg.step (pc' := 49) (I_iload dX12_turnOf_47 rfl) ?_
    refine Seg.step (pc' := 50) (I_iconst dX12_turnOf_49 ⟨by decide, by decide⟩) ?_
    refine Seg.step (pc' := 51) (I_iadd dX12_turnOf_50) ?_
    refine S_icmp_le (tgt := 58) dX12_turnOf_51 (by decide) (fun h7 => ?_) (fun h7 => ?_)
    · refine Seg.step (pc' := 55) (I_iconst dX12_turnOf_54 ⟨by decide, by decide⟩) ?_
      refine Seg.step (pc' := 59) (I_goto (tgt := 59) dX12_turnOf_55 (by decide)) ?_
      exact S_arr (fun K hK => GG.forget (Lle.no (Lle.no (Lle.no (Lle.no (Lle.no (Lle.nil)))))) hK)
    refine Seg.step (pc' := 59) (I_iconst dX12_turnOf_58 ⟨by decide, by decide⟩) ?_
    exact S_arr (fun K hK => GG.forget (Lle.no (Lle.no (Lle.no (Lle.no (Lle.no (Lle.nil)))))) hK)
  refine Seg.step (pc' := 61) (I_bipush dX12_turnOf_59 (by decide) ⟨by decide, by decide⟩) ?_
  refine Seg.step (pc' := 63) (I_bipush dX12_turnOf_61 (by decide) ⟨by decide, by decide⟩) ?_
  refine S_callV4 (md' := m_X12_boundLaw) (fun y => some (iV y.1)) (fun y => (sh, ex, R, y.2)) (hE _ _ sk_12) ⟨by decide, rfl⟩ mm_X12_boundLaw wm_12_454 ⟨rfl, rfl, by decide, by decide, by decide, by decide⟩ (Nat.le_of_ble_eq_true rfl) dX12_turnOf_63 (fun y hy => c_X12_boundLaw hE hL y hy) (fun x9 => ?_)
  exact S_iret dX12_turnOf_66 rfl (by decide) (by decide) (fun K hK => hK)
theorem dX12_crossOf_0 : decode cX12_crossOf 0 = .ok (.aload_n 0, 1) := by decide +kernel
theorem dX12_crossOf_1 : decode cX12_crossOf 1 = .ok (.iload_n 1, 1) := by decide +kernel
theorem dX12_crossOf_2 : decode cX12_crossOf 2 = .ok (.iload_n 2, 1) := by decide +kernel
theorem dX12_crossOf_3 : decode cX12_crossOf 3 = .ok (.invokevirtual 458, 3) := by decide +kernel
theorem dX12_crossOf_6 : decode cX12_crossOf 6 = .ok (.istore_n 3, 1) := by decide +kernel
theorem dX12_crossOf_7 : decode cX12_crossOf 7 = .ok (.bipush 10, 2) := by decide +kernel
theorem dX12_crossOf_9 : decode cX12_crossOf 9 = .ok (.aload_n 0, 1) := by decide +kernel
theorem dX12_crossOf_10 : decode cX12_crossOf 10 = .ok (.getfield 45, 3) := by decide +kernel
theorem dX12_crossOf_13 : decode cX12_crossOf 13 = .ok (.iload_n 2, 1) := by decide +kernel
theorem dX12_crossOf_14 : decode cX12_crossOf 14 = .ok (.iaload, 1) := by decide +kernel
theorem dX12_crossOf_15 : decode cX12_crossOf 15 = .ok (.imul, 1) := by decide +kernel
theorem dX12_crossOf_16 : decode cX12_crossOf 16 = .ok (.istore 4, 2) := by decide +kernel
theorem dX12_crossOf_18 : decode cX12_crossOf 18 = .ok (.aload_n 0, 1) := by decide +kernel
theorem dX12_crossOf_19 : decode cX12_crossOf 19 = .ok (.iload_n 1, 1) := by decide +kernel
theorem dX12_crossOf_20 : decode cX12_crossOf 20 = .ok (.aload_n 0, 1) := by decide +kernel
theorem dX12_crossOf_21 : decode cX12_crossOf 21 = .ok (.getfield 42, 3) := by decide +kernel
theorem dX12_crossOf_24 : decode cX12_crossOf 24 = .ok (.iload_n 2, 1) := by decide +kernel
theorem dX12_crossOf_25 : decode cX12_crossOf 25 = .ok (.iaload, 1) := by decide +kernel
theorem dX12_crossOf_26 : decode cX12_crossOf 26 = .ok (.iload_n 3, 1) := by decide +kernel
theorem dX12_crossOf_27 : decode cX12_crossOf 27 = .ok (.iload 4, 2) := by decide +kernel
theorem dX12_crossOf_29 : decode cX12_crossOf 29 = .ok (.invokevirtual 450, 3) := by decide +kernel
theorem dX12_crossOf_32 : decode cX12_crossOf 32 = .ok (.aload_n 0, 1) := by decide +kernel
theorem dX12_crossOf_33 : decode cX12_crossOf 33 = .ok (.iconst 2, 1) := by decide +kernel
theorem dX12_crossOf_34 : decode cX12_crossOf 34 = .ok (.iload_n 3, 1) := by decide +kernel
theorem dX12_crossOf_35 : decode cX12_crossOf 35 = .ok (.iload 4, 2) := by decide +kernel
theorem dX12_crossOf_37 : decode cX12_crossOf 37 = .ok (.if_icmp .le 10, 3) := by decide +kernel
theorem dX12_crossOf_40 : decode cX12_crossOf 40 = .ok (.iload_n 3, 1) := by decide +kernel
theorem dX12_crossOf_41 : decode cX12_crossOf 41 = .ok (.iload 4, 2) := by decide +kernel
theorem dX12_crossOf_43 : decode cX12_crossOf 43 = .ok (.isub, 1) := by decide +kernel
theorem dX12_crossOf_44 : decode cX12_crossOf 44 = .ok (.goto 7, 3) := by decide +kernel
theorem dX12_crossOf_47 : decode cX12_crossOf 47 = .ok (.iload 4, 2) := by decide +kernel
theorem dX12_crossOf_49 : decode cX12_crossOf 49 = .ok (.iload_n 3, 1) := by decide +kernel
theorem dX12_crossOf_50 : decode cX12_crossOf 50 = .ok (.isub, 1) := by decide +kernel
theorem dX12_crossOf_51 : decode cX12_crossOf 51 = .ok (.bipush 10, 2) := by decide +kernel
theorem dX12_crossOf_53 : decode cX12_crossOf 53 = .ok (.idiv, 1) := by decide +kernel
theorem dX12_crossOf_54 : decode cX12_crossOf 54 = .ok (.iconst 0, 1) := by decide +kernel
theorem dX12_crossOf_55 : decode cX12_crossOf 55 = .ok (.sipush 999, 3) := by decide +kernel
theorem dX12_crossOf_58 : decode cX12_crossOf 58 = .ok (.invokevirtual 454, 3) := by decide +kernel
theorem dX12_crossOf_61 : decode cX12_crossOf 61 = .ok (.ireturn, 1) := by decide +kernel
def f_X12_crossOf (M : MM) (p1 : Int) (p2 : Int) : Option (Int × MM) :=
(f_X12_feltBy M p1 p2).bind fun x1 =>
gd (0 ≤ p2 ∧ p2 < (10 : Int)) <|
bI (w32 (10 * (M 99 (p2).toNat))) fun x3 =>
gd (0 ≤ p2 ∧ p2 < (10 : Int)) <|
(f_X12_layNames M p1 (M 98 (p2).toNat) x1 x3).bind fun x5 =>
((if x3 < x1 then
(some (w32 (x1 - x3)))
else
some (w32 (x3 - x1))) : Option (Int)).bind fun x7 =>
(f_X12_boundLaw x5 2 (w32 (Int.tdiv x7 10)) 0 999).bind fun x8 =>
some (x8.1, x8.2)
set_option maxRecDepth 4000 in
theorem c_X12_crossOf {E : EE} {sh : List (Nat × Nat)} {ex : Bool} {R : RM} {M : MM} {p1 : Int} {p2 : Int} (hE : Ext sh) (hL : Links R) : ∀ y, f_X12_crossOf M p1 p2 = some y → MetC E m_X12_crossOf 0 0 [rV 88, iV p1, iV p2] (sh, ex, R, M) (fun r w' => r = some (iV y.1) ∧ w' = (sh, ex, R, y.2)) := by
  intro y hy
  refine MetC.seg (o := f_X12_crossOf M p1 p2) (t := (fun K y => K (some (iV y.1)) (sh, ex, R, y.2))) (L := [some (rV 88), some (iV p1), some (iV p2), none, none]) (by decide) rfl (Nat.le_of_ble_eq_true rfl) ?_ hy ⟨rfl, rfl⟩
  unfold f_X12_crossOf
  refine Seg.step (pc' := 1) (I_aload_n (i := 0) dX12_crossOf_0 rfl rfl) ?_
  refine Seg.step (pc' := 2) (I_iload_n (i := 1) dX12_crossOf_1 rfl rfl) ?_
  refine Seg.step (pc' := 3) (I_iload_n (i := 2) dX12_crossOf_2 rfl rfl) ?_
  refine S_callV2 (md' := m_X12_feltBy) (fun y => some (iV y)) (fun y => (sh, ex, R, M)) (hE _ _ sk_12) ⟨by decide, rfl⟩ mm_X12_feltBy wm_12_458 ⟨rfl, rfl, by decide, by decide, by decide, by decide⟩ (Nat.le_of_ble_eq_true rfl) dX12_crossOf_3 (fun y hy => c_X12_feltBy hE hL y hy) (fun x1 => ?_)
  refine Seg.step (pc' := 7) (I_istore_n (i := 3) dX12_crossOf_6 rfl (by decide) rfl) ?_
  refine Seg.step (pc' := 9) (I_bipush dX12_crossOf_7 (by decide) ⟨by decide, by decide⟩) ?_
  refine Seg.step (pc' := 10) (I_aload_n (i := 0) dX12_crossOf_9 rfl rfl) ?_
  refine Seg.step (pc' := 13) (I_getR cls12 (by decide) wf_12_45 (hE _ _ sk_12) rfl (lk_12_30 hL) dX12_crossOf_10) ?_
  refine Seg.step (pc' := 14) (I_iload_n (i := 2) dX12_crossOf_13 rfl rfl) ?_
  refine S_gd fun h2 => ?_
  refine Seg.step (pc' := 15) (I_iald (hE _ _ sk_12_30) h2 dX12_crossOf_14) ?_
  refine Seg.step (pc' := 16) (I_imul dX12_crossOf_15) ?_
  refine S_bI fun x3 => ?_
  refine Seg.step (pc' := 18) (I_istore dX12_crossOf_16 (by decide) rfl) ?_
  refine Seg.step (pc' := 19) (I_aload_n (i := 0) dX12_crossOf_18 rfl rfl) ?_
  refine Seg.step (pc' := 20) (I_iload_n (i := 1) dX12_crossOf_19 rfl rfl) ?_
  refine Seg.step (pc' := 21) (I_aload_n (i := 0) dX12_crossOf_20 rfl rfl) ?_
  refine Seg.step (pc' := 24) (I_getR cls12 (by decide) wf_12_42 (hE _ _ sk_12) rfl (lk_12_29 hL) dX12_crossOf_21) ?_
  refine Seg.step (pc' := 25) (I_iload_n (i := 2) dX12_crossOf_24 rfl rfl) ?_
  refine S_gd fun h4 => ?_
  refine Seg.step (pc' := 26) (I_iald (hE _ _ sk_12_29) h4 dX12_crossOf_25) ?_
  refine Seg.step (pc' := 27) (I_iload_n (i := 3) dX12_crossOf_26 rfl rfl) ?_
  refine Seg.step (pc' := 29) (I_iload dX12_crossOf_27 rfl) ?_
  refine S_callV4 (md' := m_X12_layNames) (fun y => none) (fun y => (sh, ex, R, y)) (hE _ _ sk_12) ⟨by decide, rfl⟩ mm_X12_layNames wm_12_450 ⟨rfl, rfl, by decide, by decide, by decide, by decide⟩ (Nat.le_of_ble_eq_true rfl) dX12_crossOf_29 (fun y hy => c_X12_layNames hE hL y hy) (fun x5 => ?_)
  refine Seg.step (pc' := 33) (I_aload_n (i := 0) dX12_crossOf_32 rfl rfl) ?_
  refine Seg.step (pc' := 34) (I_iconst dX12_crossOf_33 ⟨by decide, by decide⟩) ?_
  refine Seg.step (pc' := 35) (I_iload_n (i := 3) dX12_crossOf_34 rfl rfl) ?_
  refine Seg.step (pc' := 37) (I_iload dX12_crossOf_35 rfl) ?_
  refine S_bind (Y := Int) (k' := 0) (n' := 0) 51 (fun y => [none, none, none, none, none]) (fun y => [iV y, iV 2, rV 88]) (fun y => (sh, ex, R, x5)) ?_ (fun x7 => ?_)
  · refine S_icmp_le (tgt := 47) dX12_crossOf_37 (by decide) (fun h6 => ?_) (fun h6 => ?_)
    · refine Seg.step (pc' := 41) (I_iload_n (i := 3) dX12_crossOf_40 rfl rfl) ?_
      refine Seg.step (pc' := 43) (I_iload dX12_crossOf_41 rfl) ?_
      refine Seg.step (pc' := 44) (I_isub dX12_crossOf_43) ?_
      refine Seg.step (pc' := 51) (I_goto (tgt := 51) dX12_crossOf_44 (by decide)) ?_
      exact S_arr (fun K hK => GG.forget (Lle.no (Lle.no (Lle.no (Lle.no (Lle.no (Lle.nil)))))) hK)
    refine Seg.step (pc' := 49) (I_iload dX12_crossOf_47 rfl) ?_
    refine Seg.step (pc' := 50) (I_iload_n (i := 3) dX12_crossOf_49 rfl rfl) ?_
    refine Seg.step (pc' := 51) (I_isub dX12_crossOf_50) ?_
    exact S_arr (fun K hK => GG.forget (Lle.no (Lle.no (Lle.no (Lle.no (Lle.no (Lle.nil)))))) hK)
  refine Seg.step (pc' := 53) (I_bipush dX12_crossOf_51 (by decide) ⟨by decide, by decide⟩) ?_
  refine Seg.step (pc' := 54) (I_idiv dX12_crossOf_53 (by decide)) ?_
  refine Seg.step (pc' := 55) (I_iconst dX12_crossOf_54 ⟨by decide, by decide⟩) ?_
  refine Seg.step (pc' := 58) (I_sipush dX12_crossOf_55 (by decide) ⟨by decide, by decide⟩) ?_
  refine S_callV4 (md' := m_X12_boundLaw) (fun y => some (iV y.1)) (fun y => (sh, ex, R, y.2)) (hE _ _ sk_12) ⟨by decide, rfl⟩ mm_X12_boundLaw wm_12_454 ⟨rfl, rfl, by decide, by decide, by decide, by decide⟩ (Nat.le_of_ble_eq_true rfl) dX12_crossOf_58 (fun y hy => c_X12_boundLaw hE hL y hy) (fun x8 => ?_)
  exact S_iret dX12_crossOf_61 rfl (by decide) (by decide) (fun K hK => hK)
theorem dX12_turned_0 : decode cX12_turned 0 = .ok (.iload_n 3, 1) := by decide +kernel
theorem dX12_turned_1 : decode cX12_turned 1 = .ok (.aload_n 0, 1) := by decide +kernel
theorem dX12_turned_2 : decode cX12_turned 2 = .ok (.getfield 112, 3) := by decide +kernel
theorem dX12_turned_5 : decode cX12_turned 5 = .ok (.iload_n 1, 1) := by decide +kernel
theorem dX12_turned_6 : decode cX12_turned 6 = .ok (.iaload, 1) := by decide +kernel
theorem dX12_turned_7 : decode cX12_turned 7 = .ok (.if_icmp .le 7, 3) := by decide +kernel
theorem dX12_turned_10 : decode cX12_turned 10 = .ok (.iconst 1, 1) := by decide +kernel
theorem dX12_turned_11 : decode cX12_turned 11 = .ok (.goto 4, 3) := by decide +kernel
theorem dX12_turned_14 : decode cX12_turned 14 = .ok (.iconst (-1), 1) := by decide +kernel
theorem dX12_turned_15 : decode cX12_turned 15 = .ok (.istore 4, 2) := by decide +kernel
theorem dX12_turned_17 : decode cX12_turned 17 = .ok (.aload_n 0, 1) := by decide +kernel
theorem dX12_turned_18 : decode cX12_turned 18 = .ok (.getfield 112, 3) := by decide +kernel
theorem dX12_turned_21 : decode cX12_turned 21 = .ok (.iload_n 1, 1) := by decide +kernel
theorem dX12_turned_22 : decode cX12_turned 22 = .ok (.iload_n 3, 1) := by decide +kernel
theorem dX12_turned_23 : decode cX12_turned 23 = .ok (.iastore, 1) := by decide +kernel
theorem dX12_turned_24 : decode cX12_turned 24 = .ok (.aload_n 0, 1) := by decide +kernel
theorem dX12_turned_25 : decode cX12_turned 25 = .ok (.getfield 127, 3) := by decide +kernel
theorem dX12_turned_28 : decode cX12_turned 28 = .ok (.iload_n 1, 1) := by decide +kernel
theorem dX12_turned_29 : decode cX12_turned 29 = .ok (.dup2, 1) := by decide +kernel
theorem dX12_turned_30 : decode cX12_turned 30 = .ok (.iaload, 1) := by decide +kernel
theorem dX12_turned_31 : decode cX12_turned 31 = .ok (.iconst 1, 1) := by decide +kernel
theorem dX12_turned_32 : decode cX12_turned 32 = .ok (.iadd, 1) := by decide +kernel
theorem dX12_turned_33 : decode cX12_turned 33 = .ok (.iastore, 1) := by decide +kernel
theorem dX12_turned_34 : decode cX12_turned 34 = .ok (.aload_n 0, 1) := by decide +kernel
theorem dX12_turned_35 : decode cX12_turned 35 = .ok (.getfield 106, 3) := by decide +kernel
theorem dX12_turned_38 : decode cX12_turned 38 = .ok (.iconst 5, 1) := by decide +kernel
theorem dX12_turned_39 : decode cX12_turned 39 = .ok (.iload_n 1, 1) := by decide +kernel
theorem dX12_turned_40 : decode cX12_turned 40 = .ok (.imul, 1) := by decide +kernel
theorem dX12_turned_41 : decode cX12_turned 41 = .ok (.iload_n 2, 1) := by decide +kernel
theorem dX12_turned_42 : decode cX12_turned 42 = .ok (.iadd, 1) := by decide +kernel
theorem dX12_turned_43 : decode cX12_turned 43 = .ok (.dup2, 1) := by decide +kernel
theorem dX12_turned_44 : decode cX12_turned 44 = .ok (.iaload, 1) := by decide +kernel
theorem dX12_turned_45 : decode cX12_turned 45 = .ok (.iconst 1, 1) := by decide +kernel
theorem dX12_turned_46 : decode cX12_turned 46 = .ok (.iadd, 1) := by decide +kernel
theorem dX12_turned_47 : decode cX12_turned 47 = .ok (.iastore, 1) := by decide +kernel
theorem dX12_turned_48 : decode cX12_turned 48 = .ok (.aload_n 0, 1) := by decide +kernel
theorem dX12_turned_49 : decode cX12_turned 49 = .ok (.dup, 1) := by decide +kernel
theorem dX12_turned_50 : decode cX12_turned 50 = .ok (.getfield 427, 3) := by decide +kernel
theorem dX12_turned_53 : decode cX12_turned 53 = .ok (.aload_n 0, 1) := by decide +kernel
theorem dX12_turned_54 : decode cX12_turned 54 = .ok (.getfield 424, 3) := by decide +kernel
theorem dX12_turned_57 : decode cX12_turned 57 = .ok (.ifCond .eq 16, 3) := by decide +kernel
theorem dX12_turned_60 : decode cX12_turned 60 = .ok (.aload_n 0, 1) := by decide +kernel
theorem dX12_turned_61 : decode cX12_turned 61 = .ok (.getfield 424, 3) := by decide +kernel
theorem dX12_turned_64 : decode cX12_turned 64 = .ok (.iload 4, 2) := by decide +kernel
theorem dX12_turned_66 : decode cX12_turned 66 = .ok (.if_icmp .eq 7, 3) := by decide +kernel
theorem dX12_turned_69 : decode cX12_turned 69 = .ok (.iconst 1, 1) := by decide +kernel
theorem dX12_turned_70 : decode cX12_turned 70 = .ok (.goto 4, 3) := by decide +kernel
theorem dX12_turned_73 : decode cX12_turned 73 = .ok (.iconst 0, 1) := by decide +kernel
theorem dX12_turned_74 : decode cX12_turned 74 = .ok (.iadd, 1) := by decide +kernel
theorem dX12_turned_75 : decode cX12_turned 75 = .ok (.putfield 427, 3) := by decide +kernel
theorem dX12_turned_78 : decode cX12_turned 78 = .ok (.aload_n 0, 1) := by decide +kernel
theorem dX12_turned_79 : decode cX12_turned 79 = .ok (.iload 4, 2) := by decide +kernel
theorem dX12_turned_81 : decode cX12_turned 81 = .ok (.putfield 424, 3) := by decide +kernel
theorem dX12_turned_84 : decode cX12_turned 84 = .ok (.iload_n 1, 1) := by decide +kernel
theorem dX12_turned_85 : decode cX12_turned 85 = .ok (.iconst 1, 1) := by decide +kernel
theorem dX12_turned_86 : decode cX12_turned 86 = .ok (.if_icmp .ne 4, 3) := by decide +kernel
theorem dX12_turned_89 : decode cX12_turned 89 = .ok (.return_, 1) := by decide +kernel
theorem dX12_turned_90 : decode cX12_turned 90 = .ok (.aload_n 0, 1) := by decide +kernel
theorem dX12_turned_91 : decode cX12_turned 91 = .ok (.getfield 133, 3) := by decide +kernel
theorem dX12_turned_94 : decode cX12_turned 94 = .ok (.aload_n 0, 1) := by decide +kernel
theorem dX12_turned_95 : decode cX12_turned 95 = .ok (.getfield 130, 3) := by decide +kernel
theorem dX12_turned_98 : decode cX12_turned 98 = .ok (.iload_n 1, 1) := by decide +kernel
theorem dX12_turned_99 : decode cX12_turned 99 = .ok (.iaload, 1) := by decide +kernel
theorem dX12_turned_100 : decode cX12_turned 100 = .ok (.bipush 24, 2) := by decide +kernel
theorem dX12_turned_102 : decode cX12_turned 102 = .ok (.irem, 1) := by decide +kernel
theorem dX12_turned_103 : decode cX12_turned 103 = .ok (.dup2, 1) := by decide +kernel
theorem dX12_turned_104 : decode cX12_turned 104 = .ok (.iaload, 1) := by decide +kernel
theorem dX12_turned_105 : decode cX12_turned 105 = .ok (.iload_n 3, 1) := by decide +kernel
theorem dX12_turned_106 : decode cX12_turned 106 = .ok (.iadd, 1) := by decide +kernel
theorem dX12_turned_107 : decode cX12_turned 107 = .ok (.iastore, 1) := by decide +kernel
theorem dX12_turned_108 : decode cX12_turned 108 = .ok (.aload_n 0, 1) := by decide +kernel
theorem dX12_turned_109 : decode cX12_turned 109 = .ok (.getfield 136, 3) := by decide +kernel
theorem dX12_turned_112 : decode cX12_turned 112 = .ok (.aload_n 0, 1) := by decide +kernel
theorem dX12_turned_113 : decode cX12_turned 113 = .ok (.getfield 130, 3) := by decide +kernel
theorem dX12_turned_116 : decode cX12_turned 116 = .ok (.iload_n 1, 1) := by decide +kernel
theorem dX12_turned_117 : decode cX12_turned 117 = .ok (.iaload, 1) := by decide +kernel
theorem dX12_turned_118 : decode cX12_turned 118 = .ok (.bipush 24, 2) := by decide +kernel
theorem dX12_turned_120 : decode cX12_turned 120 = .ok (.irem, 1) := by decide +kernel
theorem dX12_turned_121 : decode cX12_turned 121 = .ok (.dup2, 1) := by decide +kernel
theorem dX12_turned_122 : decode cX12_turned 122 = .ok (.iaload, 1) := by decide +kernel
theorem dX12_turned_123 : decode cX12_turned 123 = .ok (.iconst 1, 1) := by decide +kernel
theorem dX12_turned_124 : decode cX12_turned 124 = .ok (.iadd, 1) := by decide +kernel
theorem dX12_turned_125 : decode cX12_turned 125 = .ok (.iastore, 1) := by decide +kernel
theorem dX12_turned_126 : decode cX12_turned 126 = .ok (.return_, 1) := by decide +kernel
def f_X12_turned (M : MM) (p1 : Int) (p2 : Int) (p3 : Int) : Option (MM) :=
gd (0 ≤ p1 ∧ p1 < (2 : Int)) <|
((if (M 121 (p1).toNat) < p3 then
(some 1)
else
some (-1)) : Option (Int)).bind fun x3 =>
gd (0 ≤ p1 ∧ p1 < (2 : Int)) <|
bM (upM M 121 (p1).toNat p3) fun M5 =>
gd (0 ≤ p1 ∧ p1 < (2 : Int)) <|
gd (0 ≤ p1 ∧ p1 < (2 : Int)) <|
bM (upM M5 126 (p1).toNat (w32 ((M5 126 (p1).toNat) + 1))) fun M8 =>
gd (0 ≤ w32 ((w32 (5 * p1)) + p2) ∧ w32 ((w32 (5 * p1)) + p2) < (10 : Int)) <|
gd (0 ≤ w32 ((w32 (5 * p1)) + p2) ∧ w32 ((w32 (5 * p1)) + p2) < (10 : Int)) <|
bM (upM M8 119 (w32 ((w32 (5 * p1)) + p2)).toNat (w32 ((M8 119 (w32 ((w32 (5 * p1)) + p2)).toNat) + 1))) fun M11 =>
((if (M11 88 78) = 0 then
(some 0)
else
if (M11 88 78) = x3 then
(some 0)
else
some 1) : Option (Int)).bind fun x14 =>
bM (upM M11 88 79 (w32 ((M11 88 79) + x14))) fun M15 =>
bM (upM M15 88 78 x3) fun M16 =>
if p1 = 1 then
(some M16)
else
gd (0 ≤ p1 ∧ p1 < (2 : Int)) <|
gd (0 ≤ w32 (Int.tmod (M16 127 (p1).toNat) 24) ∧ w32 (Int.tmod (M16 127 (p1).toNat) 24) < (24 : Int)) <|
gd (0 ≤ w32 (Int.tmod (M16 127 (p1).toNat) 24) ∧ w32 (Int.tmod (M16 127 (p1).toNat) 24) < (24 : Int)) <|
bM (upM M16 128 (w32 (Int.tmod (M16 127 (p1).toNat) 24)).toNat (w32 ((M16 128 (w32 (Int.tmod (M16 127 (p1).toNat) 24)).toNat) + p3))) fun M21 =>
gd (0 ≤ p1 ∧ p1 < (2 : Int)) <|
gd (0 ≤ w32 (Int.tmod (M21 127 (p1).toNat) 24) ∧ w32 (Int.tmod (M21 127 (p1).toNat) 24) < (24 : Int)) <|
gd (0 ≤ w32 (Int.tmod (M21 127 (p1).toNat) 24) ∧ w32 (Int.tmod (M21 127 (p1).toNat) 24) < (24 : Int)) <|
bM (upM M21 129 (w32 (Int.tmod (M21 127 (p1).toNat) 24)).toNat (w32 ((M21 129 (w32 (Int.tmod (M21 127 (p1).toNat) 24)).toNat) + 1))) fun M25 =>
some M25
set_option maxRecDepth 4000 in
theorem c_X12_turned {E : EE} {sh : List (Nat × Nat)} {ex : Bool} {R : RM} {M : MM} {p1 : Int} {p2 : Int} {p3 : Int} (hE : Ext sh) (hL : Links R) : ∀ y, f_X12_turned M p1 p2 p3 = some y → MetC E m_X12_turned 0 0 [rV 88, iV p1, iV p2, iV p3] (sh, ex, R, M) (fun r w' => r = none ∧ w' = (sh, ex, R, y)) := by
  intro y hy
  refine MetC.seg (o := f_X12_turned M p1 p2 p3) (t := (fun K y => K (none) (sh, ex, R, y))) (L := [some (rV 88), some (iV p1), some (iV p2), some (iV p3), none]) (by decide) rfl (Nat.le_of_ble_eq_true rfl) ?_ hy ⟨rfl, rfl⟩
  unfold f_X12_turned
  refine Seg.step (pc' := 1) (I_iload_n (i := 3) dX12_turned_0 rfl rfl) ?_
  refine Seg.step (pc' := 2) (I_aload_n (i := 0) dX12_turned_1 rfl rfl) ?_
  refine Seg.step (pc' := 5) (I_getR cls12 (by decide) wf_12_112 (hE _ _ sk_12) rfl (lk_12_59 hL) dX12_turned_2) ?_
  refine Seg.step (pc' := 6) (I_iload_n (i := 1) dX12_turned_5 rfl rfl) ?_
  refine S_gd fun h1 => ?_
  refine Seg.step (pc' := 7) (I_iald (hE _ _ sk_12_59) h1 dX12_turned_6) ?_
  refine S_bind (Y := Int) (k' := 0) (n' := 0) 15 (fun y => [some (rV 88), some (iV p1), some (iV p2), some (iV p3), none]) (fun y => [iV y]) (fun y => (sh, ex, R, M)) ?_ (fun x3 => ?_)
  · refine S_icmp_le (tgt := 14) dX12_turned_7 (by decide) (fun h2 => ?_) (fun h2 => ?_)
    · refine Seg.step (pc' := 11) (I_iconst dX12_turned_10 ⟨by decide, by decide⟩) ?_
      refine Seg.step (pc' := 15) (I_goto (tgt := 15) dX12_turned_11 (by decide)) ?_
      exact S_arr (fun K hK => GG.forget (Lle.ye (Lle.ye (Lle.ye (Lle.ye (Lle.no (Lle.nil)))))) hK)
    refine Seg.step (pc' := 15) (I_iconst dX12_turned_14 ⟨by decide, by decide⟩) ?_
    exact S_arr (fun K hK => GG.forget (Lle.ye (Lle.ye (Lle.ye (Lle.ye (Lle.no (Lle.nil)))))) hK)
  refine Seg.step (pc' := 17) (I_istore dX12_turned_15 (by decide) rfl) ?_
  refine Seg.step (pc' := 18) (I_aload_n (i := 0) dX12_turned_17 rfl rfl) ?_
  refine Seg.step (pc' := 21) (I_getR cls12 (by decide) wf_12_112 (hE _ _ sk_12) rfl (lk_12_59 hL) dX12_turned_18) ?_
  refine Seg.step (pc' := 22) (I_iload_n (i := 1) dX12_turned_21 rfl rfl) ?_
  refine Seg.step (pc' := 23) (I_iload_n (i := 3) dX12_turned_22 rfl rfl) ?_
  refine S_gd fun h4 => ?_
  refine Seg.step (pc' := 24) (I_iast (hE _ _ sk_12_59) h4 dX12_turned_23) ?_
  refine S_bM fun M5 => ?_
  refine Seg.step (pc' := 25) (I_aload_n (i := 0) dX12_turned_24 rfl rfl) ?_
  refine Seg.step (pc' := 28) (I_getR cls12 (by decide) wf_12_127 (hE _ _ sk_12) rfl (lk_12_64 hL) dX12_turned_25) ?_
  refine Seg.step (pc' := 29) (I_iload_n (i := 1) dX12_turned_28 rfl rfl) ?_
  refine Seg.step (pc' := 30) (I_dup2 dX12_turned_29 (fun _ h => by cases h) (fun _ h => by cases h)) ?_
  refine S_gd fun h6 => ?_
  refine Seg.step (pc' := 31) (I_iald (hE _ _ sk_12_64) h6 dX12_turned_30) ?_
  refine Seg.step (pc' := 32) (I_iconst dX12_turned_31 ⟨by decide, by decide⟩) ?_
  refine Seg.step (pc' := 33) (I_iadd dX12_turned_32) ?_
  refine S_gd fun h7 => ?_
  refine Seg.step (pc' := 34) (I_iast (hE _ _ sk_12_64) h7 dX12_turned_33) ?_
  refine S_bM fun M8 => ?_
  refine Seg.step (pc' := 35) (I_aload_n (i := 0) dX12_turned_34 rfl rfl) ?_
  refine Seg.step (pc' := 38) (I_getR cls12 (by decide) wf_12_106 (hE _ _ sk_12) rfl (lk_12_57 hL) dX12_turned_35) ?_
  refine Seg.step (pc' := 39) (I_iconst dX12_turned_38 ⟨by decide, by decide⟩) ?_
  refine Seg.step (pc' := 40) (I_iload_n (i := 1) dX12_turned_39 rfl rfl) ?_
  refine Seg.step (pc' := 41) (I_imul dX12_turned_40) ?_
  refine Seg.step (pc' := 42) (I_iload_n (i := 2) dX12_turned_41 rfl rfl) ?_
  refine Seg.step (pc' := 43) (I_iadd dX12_turned_42) ?_
  refine Seg.step (pc' := 44) (I_dup2 dX12_turned_43 (fun _ h => by cases h) (fun _ h => by cases h)) ?_
  refine S_gd fun h9 => ?_
  refine Seg.step (pc' := 45) (I_iald (hE _ _ sk_12_57) h9 dX12_turned_44) ?_
  refine Seg.step (pc' := 46) (I_iconst dX12_turned_45 ⟨by decide, by decide⟩) ?_
  refine Seg.step (pc' := 47) (I_iadd dX12_turned_46) ?_
  refine S_gd fun h10 => ?_
  refine Seg.step (pc' := 48) (I_iast (hE _ _ sk_12_57) h10 dX12_turned_47) ?_
  refine S_bM fun M11 => ?_
  refine Seg.step (pc' := 49) (I_aload_n (i := 0) dX12_turned_48 rfl rfl) ?_
  refine Seg.step (pc' := 50) (I_dup dX12_turned_49 (fun _ h => by cases h)) ?_
  refine Seg.step (pc' := 53) (I_getI cls12 (by decide) wf_12_427 (hE _ _ sk_12) rfl dX12_turned_50) ?_
  refine Seg.step (pc' := 54) (I_aload_n (i := 0) dX12_turned_53 rfl rfl) ?_
  refine Seg.step (pc' := 57) (I_getI cls12 (by decide) wf_12_424 (hE _ _ sk_12) rfl dX12_turned_54) ?_
  refine S_bind (Y := Int) (k' := 0) (n' := 0) 74 (fun y => [some (rV 88), some (iV p1), none, some (iV p3), some (iV x3)]) (fun y => [iV y, iV (M11 88 79), rV 88]) (fun y => (sh, ex, R, M11)) ?_ (fun x14 => ?_)
  · refine S_if_eq (tgt := 73) dX12_turned_57 (by decide) (fun h12 => ?_) (fun h12 => ?_)
    · refine Seg.step (pc' := 74) (I_iconst dX12_turned_73 ⟨by decide, by decide⟩) ?_
      exact S_arr (fun K hK => GG.forget (Lle.ye (Lle.ye (Lle.no (Lle.ye (Lle.ye (Lle.nil)))))) hK)
    refine Seg.step (pc' := 61) (I_aload_n (i := 0) dX12_turned_60 rfl rfl) ?_
    refine Seg.step (pc' := 64) (I_getI cls12 (by decide) wf_12_424 (hE _ _ sk_12) rfl dX12_turned_61) ?_
    refine Seg.step (pc' := 66) (I_iload dX12_turned_64 rfl) ?_
    refine S_icmp_eq (tgt := 73) dX12_turned_66 (by decide) (fun h13 => ?_) (fun h13 => ?_)
    · refine Seg.step (pc' := 74) (I_iconst dX12_turned_73 ⟨by decide, by decide⟩) ?_
      exact S_arr (fun K hK => GG.forget (Lle.ye (Lle.ye (Lle.no (Lle.ye (Lle.ye (Lle.nil)))))) hK)
    refine Seg.step (pc' := 70) (I_iconst dX12_turned_69 ⟨by decide, by decide⟩) ?_
    refine Seg.step (pc' := 74) (I_goto (tgt := 74) dX12_turned_70 (by decide)) ?_
    exact S_arr (fun K hK => GG.forget (Lle.ye (Lle.ye (Lle.no (Lle.ye (Lle.ye (Lle.nil)))))) hK)
  refine Seg.step (pc' := 75) (I_iadd dX12_turned_74) ?_
  refine Seg.step (pc' := 78) (I_putI cls12 (by decide) wf_12_427 (hE _ _ sk_12) rfl rfl dX12_turned_75) ?_
  refine S_bM fun M15 => ?_
  refine Seg.step (pc' := 79) (I_aload_n (i := 0) dX12_turned_78 rfl rfl) ?_
  refine Seg.step (pc' := 81) (I_iload dX12_turned_79 rfl) ?_
  refine Seg.step (pc' := 84) (I_putI cls12 (by decide) wf_12_424 (hE _ _ sk_12) rfl rfl dX12_turned_81) ?_
  refine S_bM fun M16 => ?_
  refine Seg.step (pc' := 85) (I_iload_n (i := 1) dX12_turned_84 rfl rfl) ?_
  refine Seg.step (pc' := 86) (I_iconst dX12_turned_85 ⟨by decide, by decide⟩) ?_
  refine S_icmp_ne (tgt := 90) dX12_turned_86 (by decide) (fun h17 => ?_) (fun h17 => ?_)
  · exact S_vret dX12_turned_89 rfl (by decide) (by decide) (fun K hK => hK)
  refine Seg.step (pc' := 91) (I_aload_n (i := 0) dX12_turned_90 rfl rfl) ?_
  refine Seg.step (pc' := 94) (I_getR cls12 (by decide) wf_12_133 (hE _ _ sk_12) rfl (lk_12_66 hL) dX12_turned_91) ?_
  refine Seg.step (pc' := 95) (I_aload_n (i := 0) dX12_turned_94 rfl rfl) ?_
  refine Seg.step (pc' := 98) (I_getR cls12 (by decide) wf_12_130 (hE _ _ sk_12) rfl (lk_12_65 hL) dX12_turned_95) ?_
  refine Seg.step (pc' := 99) (I_iload_n (i := 1) dX12_turned_98 rfl rfl) ?_
  refine S_gd fun h18 => ?_
  refine Seg.step (pc' := 100) (I_iald (hE _ _ sk_12_65) h18 dX12_turned_99) ?_
  refine Seg.step (pc' := 102) (I_bipush dX12_turned_100 (by decide) ⟨by decide, by decide⟩) ?_
  refine Seg.step (pc' := 103) (I_irem dX12_turned_102 (by decide)) ?_
  refine Seg.step (pc' := 104) (I_dup2 dX12_turned_103 (fun _ h => by cases h) (fun _ h => by cases h)) ?_
  refine S_gd fun h19 => ?_
  refine Seg.step (pc' := 105) (I_iald (hE _ _ sk_12_66) h19 dX12_turned_104) ?_
  refine Seg.step (pc' := 106) (I_iload_n (i := 3) dX12_turned_105 rfl rfl) ?_
  refine Seg.step (pc' := 107) (I_iadd dX12_turned_106) ?_
  refine S_gd fun h20 => ?_
  refine Seg.step (pc' := 108) (I_iast (hE _ _ sk_12_66) h20 dX12_turned_107) ?_
  refine S_bM fun M21 => ?_
  refine Seg.step (pc' := 109) (I_aload_n (i := 0) dX12_turned_108 rfl rfl) ?_
  refine Seg.step (pc' := 112) (I_getR cls12 (by decide) wf_12_136 (hE _ _ sk_12) rfl (lk_12_67 hL) dX12_turned_109) ?_
  refine Seg.step (pc' := 113) (I_aload_n (i := 0) dX12_turned_112 rfl rfl) ?_
  refine Seg.step (pc' := 116) (I_getR cls12 (by decide) wf_12_130 (hE _ _ sk_12) rfl (lk_12_65 hL) dX12_turned_113) ?_
  refine Seg.step (pc' := 117) (I_iload_n (i := 1) dX12_turned_116 rfl rfl) ?_
  refine S_gd fun h22 => ?_
  refine Seg.step (pc' := 118) (I_iald (hE _ _ sk_12_65) h22 dX12_turned_117) ?_
  refine Seg.step (pc' := 120) (I_bipush dX12_turned_118 (by decide) ⟨by decide, by decide⟩) ?_
  refine Seg.step (pc' := 121) (I_irem dX12_turned_120 (by decide)) ?_
  refine Seg.step (pc' := 122) (I_dup2 dX12_turned_121 (fun _ h => by cases h) (fun _ h => by cases h)) ?_
  refine S_gd fun h23 => ?_
  refine Seg.step (pc' := 123) (I_iald (hE _ _ sk_12_67) h23 dX12_turned_122) ?_
  refine Seg.step (pc' := 124) (I_iconst dX12_turned_123 ⟨by decide, by decide⟩) ?_
  refine Seg.step (pc' := 125) (I_iadd dX12_turned_124) ?_
  refine S_gd fun h24 => ?_
  refine Seg.step (pc' := 126) (I_iast (hE _ _ sk_12_67) h24 dX12_turned_125) ?_
  refine S_bM fun M25 => ?_
  exact S_vret dX12_turned_126 rfl (by decide) (by decide) (fun K hK => hK)
theorem dX12_goOn_0 : decode cX12_goOn 0 = .ok (.aload_n 0, 1) := by decide +kernel
theorem dX12_goOn_1 : decode cX12_goOn 1 = .ok (.iload_n 1, 1) := by decide +kernel
theorem dX12_goOn_2 : decode cX12_goOn 2 = .ok (.invokevirtual 461, 3) := by decide +kernel
theorem dX12_goOn_5 : decode cX12_goOn 5 = .ok (.istore_n 2, 1) := by decide +kernel
theorem dX12_goOn_6 : decode cX12_goOn 6 = .ok (.aload_n 0, 1) := by decide +kernel
theorem dX12_goOn_7 : decode cX12_goOn 7 = .ok (.getfield 121, 3) := by decide +kernel
theorem dX12_goOn_10 : decode cX12_goOn 10 = .ok (.iload_n 1, 1) := by decide +kernel
theorem dX12_goOn_11 : decode cX12_goOn 11 = .ok (.dup2, 1) := by decide +kernel
theorem dX12_goOn_12 : decode cX12_goOn 12 = .ok (.iaload, 1) := by decide +kernel
theorem dX12_goOn_13 : decode cX12_goOn 13 = .ok (.iload_n 2, 1) := by decide +kernel
theorem dX12_goOn_14 : decode cX12_goOn 14 = .ok (.ifCond .eq 12, 3) := by decide +kernel
theorem dX12_goOn_17 : decode cX12_goOn 17 = .ok (.aload_n 0, 1) := by decide +kernel
theorem dX12_goOn_18 : decode cX12_goOn 18 = .ok (.getfield 24, 3) := by decide +kernel
theorem dX12_goOn_21 : decode cX12_goOn 21 = .ok (.iconst 2, 1) := by decide +kernel
theorem dX12_goOn_22 : decode cX12_goOn 22 = .ok (.iaload, 1) := by decide +kernel
theorem dX12_goOn_23 : decode cX12_goOn 23 = .ok (.goto 4, 3) := by decide +kernel
theorem dX12_goOn_26 : decode cX12_goOn 26 = .ok (.iconst 0, 1) := by decide +kernel
theorem dX12_goOn_27 : decode cX12_goOn 27 = .ok (.iadd, 1) := by decide +kernel
theorem dX12_goOn_28 : decode cX12_goOn 28 = .ok (.iastore, 1) := by decide +kernel
theorem dX12_goOn_29 : decode cX12_goOn 29 = .ok (.aload_n 0, 1) := by decide +kernel
theorem dX12_goOn_30 : decode cX12_goOn 30 = .ok (.getfield 124, 3) := by decide +kernel
theorem dX12_goOn_33 : decode cX12_goOn 33 = .ok (.iload_n 1, 1) := by decide +kernel
theorem dX12_goOn_34 : decode cX12_goOn 34 = .ok (.dup2, 1) := by decide +kernel
theorem dX12_goOn_35 : decode cX12_goOn 35 = .ok (.iaload, 1) := by decide +kernel
theorem dX12_goOn_36 : decode cX12_goOn 36 = .ok (.iload_n 2, 1) := by decide +kernel
theorem dX12_goOn_37 : decode cX12_goOn 37 = .ok (.ifCond .eq 7, 3) := by decide +kernel
theorem dX12_goOn_40 : decode cX12_goOn 40 = .ok (.iconst 1, 1) := by decide +kernel
theorem dX12_goOn_41 : decode cX12_goOn 41 = .ok (.goto 4, 3) := by decide +kernel
theorem dX12_goOn_44 : decode cX12_goOn 44 = .ok (.iconst 0, 1) := by decide +kernel
theorem dX12_goOn_45 : decode cX12_goOn 45 = .ok (.iadd, 1) := by decide +kernel
theorem dX12_goOn_46 : decode cX12_goOn 46 = .ok (.iastore, 1) := by decide +kernel
theorem dX12_goOn_47 : decode cX12_goOn 47 = .ok (.iconst 0, 1) := by decide +kernel
theorem dX12_goOn_48 : decode cX12_goOn 48 = .ok (.istore_n 3, 1) := by decide +kernel
theorem dX12_goOn_49 : decode cX12_goOn 49 = .ok (.iload_n 3, 1) := by decide +kernel
theorem dX12_goOn_50 : decode cX12_goOn 50 = .ok (.aload_n 0, 1) := by decide +kernel
theorem dX12_goOn_51 : decode cX12_goOn 51 = .ok (.getfield 255, 3) := by decide +kernel
theorem dX12_goOn_54 : decode cX12_goOn 54 = .ok (.if_icmp .ge 21, 3) := by decide +kernel
theorem dX12_goOn_57 : decode cX12_goOn 57 = .ok (.aload_n 0, 1) := by decide +kernel
theorem dX12_goOn_58 : decode cX12_goOn 58 = .ok (.getfield 139, 3) := by decide +kernel
theorem dX12_goOn_61 : decode cX12_goOn 61 = .ok (.iload_n 3, 1) := by decide +kernel
theorem dX12_goOn_62 : decode cX12_goOn 62 = .ok (.aload_n 0, 1) := by decide +kernel
theorem dX12_goOn_63 : decode cX12_goOn 63 = .ok (.iload_n 1, 1) := by decide +kernel
theorem dX12_goOn_64 : decode cX12_goOn 64 = .ok (.iload_n 3, 1) := by decide +kernel
theorem dX12_goOn_65 : decode cX12_goOn 65 = .ok (.invokevirtual 464, 3) := by decide +kernel
theorem dX12_goOn_68 : decode cX12_goOn 68 = .ok (.iastore, 1) := by decide +kernel
theorem dX12_goOn_69 : decode cX12_goOn 69 = .ok (.iinc 3 1, 3) := by decide +kernel
theorem dX12_goOn_72 : decode cX12_goOn 72 = .ok (.goto (-23), 3) := by decide +kernel
theorem dX12_goOn_75 : decode cX12_goOn 75 = .ok (.iconst 0, 1) := by decide +kernel
theorem dX12_goOn_76 : decode cX12_goOn 76 = .ok (.istore_n 3, 1) := by decide +kernel
theorem dX12_goOn_77 : decode cX12_goOn 77 = .ok (.iload_n 3, 1) := by decide +kernel
theorem dX12_goOn_78 : decode cX12_goOn 78 = .ok (.aload_n 0, 1) := by decide +kernel
theorem dX12_goOn_79 : decode cX12_goOn 79 = .ok (.getfield 255, 3) := by decide +kernel
theorem dX12_goOn_82 : decode cX12_goOn 82 = .ok (.if_icmp .ge 143, 3) := by decide +kernel
theorem dX12_goOn_85 : decode cX12_goOn 85 = .ok (.aload_n 0, 1) := by decide +kernel
theorem dX12_goOn_86 : decode cX12_goOn 86 = .ok (.getfield 97, 3) := by decide +kernel
theorem dX12_goOn_89 : decode cX12_goOn 89 = .ok (.iconst 5, 1) := by decide +kernel
theorem dX12_goOn_90 : decode cX12_goOn 90 = .ok (.iload_n 1, 1) := by decide +kernel
theorem dX12_goOn_91 : decode cX12_goOn 91 = .ok (.imul, 1) := by decide +kernel
theorem dX12_goOn_92 : decode cX12_goOn 92 = .ok (.iload_n 3, 1) := by decide +kernel
theorem dX12_goOn_93 : decode cX12_goOn 93 = .ok (.iadd, 1) := by decide +kernel
theorem dX12_goOn_94 : decode cX12_goOn 94 = .ok (.iaload, 1) := by decide +kernel
theorem dX12_goOn_95 : decode cX12_goOn 95 = .ok (.iload_n 2, 1) := by decide +kernel
theorem dX12_goOn_96 : decode cX12_goOn 96 = .ok (.ifCond .eq 12, 3) := by decide +kernel
theorem dX12_goOn_99 : decode cX12_goOn 99 = .ok (.aload_n 0, 1) := by decide +kernel
theorem dX12_goOn_100 : decode cX12_goOn 100 = .ok (.getfield 36, 3) := by decide +kernel
theorem dX12_goOn_103 : decode cX12_goOn 103 = .ok (.iload_n 3, 1) := by decide +kernel
theorem dX12_goOn_104 : decode cX12_goOn 104 = .ok (.iaload, 1) := by decide +kernel
theorem dX12_goOn_105 : decode cX12_goOn 105 = .ok (.goto 4, 3) := by decide +kernel
theorem dX12_goOn_108 : decode cX12_goOn 108 = .ok (.iconst 0, 1) := by decide +kernel
theorem dX12_goOn_109 : decode cX12_goOn 109 = .ok (.iadd, 1) := by decide +kernel
theorem dX12_goOn_110 : decode cX12_goOn 110 = .ok (.aload_n 0, 1) := by decide +kernel
theorem dX12_goOn_111 : decode cX12_goOn 111 = .ok (.iload_n 1, 1) := by decide +kernel
theorem dX12_goOn_112 : decode cX12_goOn 112 = .ok (.iload_n 3, 1) := by decide +kernel
theorem dX12_goOn_113 : decode cX12_goOn 113 = .ok (.invokevirtual 467, 3) := by decide +kernel
theorem dX12_goOn_116 : decode cX12_goOn 116 = .ok (.iadd, 1) := by decide +kernel
theorem dX12_goOn_117 : decode cX12_goOn 117 = .ok (.aload_n 0, 1) := by decide +kernel
theorem dX12_goOn_118 : decode cX12_goOn 118 = .ok (.getfield 139, 3) := by decide +kernel
theorem dX12_goOn_121 : decode cX12_goOn 121 = .ok (.iload_n 3, 1) := by decide +kernel
theorem dX12_goOn_122 : decode cX12_goOn 122 = .ok (.iaload, 1) := by decide +kernel
theorem dX12_goOn_123 : decode cX12_goOn 123 = .ok (.isub, 1) := by decide +kernel
theorem dX12_goOn_124 : decode cX12_goOn 124 = .ok (.istore 4, 2) := by decide +kernel
theorem dX12_goOn_126 : decode cX12_goOn 126 = .ok (.aload_n 0, 1) := by decide +kernel
theorem dX12_goOn_127 : decode cX12_goOn 127 = .ok (.getfield 97, 3) := by decide +kernel
theorem dX12_goOn_130 : decode cX12_goOn 130 = .ok (.iconst 5, 1) := by decide +kernel
theorem dX12_goOn_131 : decode cX12_goOn 131 = .ok (.iload_n 1, 1) := by decide +kernel
theorem dX12_goOn_132 : decode cX12_goOn 132 = .ok (.imul, 1) := by decide +kernel
theorem dX12_goOn_133 : decode cX12_goOn 133 = .ok (.iload_n 3, 1) := by decide +kernel
theorem dX12_goOn_134 : decode cX12_goOn 134 = .ok (.iadd, 1) := by decide +kernel
theorem dX12_goOn_135 : decode cX12_goOn 135 = .ok (.iload 4, 2) := by decide +kernel
theorem dX12_goOn_137 : decode cX12_goOn 137 = .ok (.iconst 0, 1) := by decide +kernel
theorem dX12_goOn_138 : decode cX12_goOn 138 = .ok (.sipush 600, 3) := by decide +kernel
theorem dX12_goOn_141 : decode cX12_goOn 141 = .ok (.invokestatic 433, 3) := by decide +kernel
theorem dX12_goOn_144 : decode cX12_goOn 144 = .ok (.iastore, 1) := by decide +kernel
theorem dX12_goOn_145 : decode cX12_goOn 145 = .ok (.iconst 5, 1) := by decide +kernel
theorem dX12_goOn_146 : decode cX12_goOn 146 = .ok (.istore 5, 2) := by decide +kernel
theorem dX12_goOn_148 : decode cX12_goOn 148 = .ok (.iload 5, 2) := by decide +kernel
theorem dX12_goOn_150 : decode cX12_goOn 150 = .ok (.ifCond .le 45, 3) := by decide +kernel
theorem dX12_goOn_153 : decode cX12_goOn 153 = .ok (.aload_n 0, 1) := by decide +kernel
theorem dX12_goOn_154 : decode cX12_goOn 154 = .ok (.getfield 100, 3) := by decide +kernel
theorem dX12_goOn_157 : decode cX12_goOn 157 = .ok (.bipush 30, 2) := by decide +kernel
theorem dX12_goOn_159 : decode cX12_goOn 159 = .ok (.iload_n 1, 1) := by decide +kernel
theorem dX12_goOn_160 : decode cX12_goOn 160 = .ok (.imul, 1) := by decide +kernel
theorem dX12_goOn_161 : decode cX12_goOn 161 = .ok (.bipush 6, 2) := by decide +kernel
theorem dX12_goOn_163 : decode cX12_goOn 163 = .ok (.iload_n 3, 1) := by decide +kernel
theorem dX12_goOn_164 : decode cX12_goOn 164 = .ok (.imul, 1) := by decide +kernel
theorem dX12_goOn_165 : decode cX12_goOn 165 = .ok (.iadd, 1) := by decide +kernel
theorem dX12_goOn_166 : decode cX12_goOn 166 = .ok (.iload 5, 2) := by decide +kernel
theorem dX12_goOn_168 : decode cX12_goOn 168 = .ok (.iadd, 1) := by decide +kernel
theorem dX12_goOn_169 : decode cX12_goOn 169 = .ok (.aload_n 0, 1) := by decide +kernel
theorem dX12_goOn_170 : decode cX12_goOn 170 = .ok (.getfield 100, 3) := by decide +kernel
theorem dX12_goOn_173 : decode cX12_goOn 173 = .ok (.bipush 30, 2) := by decide +kernel
theorem dX12_goOn_175 : decode cX12_goOn 175 = .ok (.iload_n 1, 1) := by decide +kernel
theorem dX12_goOn_176 : decode cX12_goOn 176 = .ok (.imul, 1) := by decide +kernel
theorem dX12_goOn_177 : decode cX12_goOn 177 = .ok (.bipush 6, 2) := by decide +kernel
theorem dX12_goOn_179 : decode cX12_goOn 179 = .ok (.iload_n 3, 1) := by decide +kernel
theorem dX12_goOn_180 : decode cX12_goOn 180 = .ok (.imul, 1) := by decide +kernel
theorem dX12_goOn_181 : decode cX12_goOn 181 = .ok (.iadd, 1) := by decide +kernel
theorem dX12_goOn_182 : decode cX12_goOn 182 = .ok (.iload 5, 2) := by decide +kernel
theorem dX12_goOn_184 : decode cX12_goOn 184 = .ok (.iadd, 1) := by decide +kernel
theorem dX12_goOn_185 : decode cX12_goOn 185 = .ok (.iconst 1, 1) := by decide +kernel
theorem dX12_goOn_186 : decode cX12_goOn 186 = .ok (.isub, 1) := by decide +kernel
theorem dX12_goOn_187 : decode cX12_goOn 187 = .ok (.iaload, 1) := by decide +kernel
theorem dX12_goOn_188 : decode cX12_goOn 188 = .ok (.iastore, 1) := by decide +kernel
theorem dX12_goOn_189 : decode cX12_goOn 189 = .ok (.iinc 5 (-1), 3) := by decide +kernel
theorem dX12_goOn_192 : decode cX12_goOn 192 = .ok (.goto (-44), 3) := by decide +kernel
theorem dX12_goOn_195 : decode cX12_goOn 195 = .ok (.aload_n 0, 1) := by decide +kernel
theorem dX12_goOn_196 : decode cX12_goOn 196 = .ok (.getfield 100, 3) := by decide +kernel
theorem dX12_goOn_199 : decode cX12_goOn 199 = .ok (.bipush 30, 2) := by decide +kernel
theorem dX12_goOn_201 : decode cX12_goOn 201 = .ok (.iload_n 1, 1) := by decide +kernel
theorem dX12_goOn_202 : decode cX12_goOn 202 = .ok (.imul, 1) := by decide +kernel
theorem dX12_goOn_203 : decode cX12_goOn 203 = .ok (.bipush 6, 2) := by decide +kernel
theorem dX12_goOn_205 : decode cX12_goOn 205 = .ok (.iload_n 3, 1) := by decide +kernel
theorem dX12_goOn_206 : decode cX12_goOn 206 = .ok (.imul, 1) := by decide +kernel
theorem dX12_goOn_207 : decode cX12_goOn 207 = .ok (.iadd, 1) := by decide +kernel
theorem dX12_goOn_208 : decode cX12_goOn 208 = .ok (.aload_n 0, 1) := by decide +kernel
theorem dX12_goOn_209 : decode cX12_goOn 209 = .ok (.getfield 97, 3) := by decide +kernel
theorem dX12_goOn_212 : decode cX12_goOn 212 = .ok (.iconst 5, 1) := by decide +kernel
theorem dX12_goOn_213 : decode cX12_goOn 213 = .ok (.iload_n 1, 1) := by decide +kernel
theorem dX12_goOn_214 : decode cX12_goOn 214 = .ok (.imul, 1) := by decide +kernel
theorem dX12_goOn_215 : decode cX12_goOn 215 = .ok (.iload_n 3, 1) := by decide +kernel
theorem dX12_goOn_216 : decode cX12_goOn 216 = .ok (.iadd, 1) := by decide +kernel
theorem dX12_goOn_217 : decode cX12_goOn 217 = .ok (.iaload, 1) := by decide +kernel
theorem dX12_goOn_218 : decode cX12_goOn 218 = .ok (.iastore, 1) := by decide +kernel
theorem dX12_goOn_219 : decode cX12_goOn 219 = .ok (.iinc 3 1, 3) := by decide +kernel
theorem dX12_goOn_222 : decode cX12_goOn 222 = .ok (.goto (-145), 3) := by decide +kernel
theorem dX12_goOn_225 : decode cX12_goOn 225 = .ok (.iconst 0, 1) := by decide +kernel
theorem dX12_goOn_226 : decode cX12_goOn 226 = .ok (.istore_n 3, 1) := by decide +kernel
theorem dX12_goOn_227 : decode cX12_goOn 227 = .ok (.iload_n 3, 1) := by decide +kernel
theorem dX12_goOn_228 : decode cX12_goOn 228 = .ok (.aload_n 0, 1) := by decide +kernel
theorem dX12_goOn_229 : decode cX12_goOn 229 = .ok (.getfield 258, 3) := by decide +kernel
theorem dX12_goOn_232 : decode cX12_goOn 232 = .ok (.if_icmp .ge 89, 3) := by decide +kernel
theorem dX12_goOn_235 : decode cX12_goOn 235 = .ok (.aload_n 0, 1) := by decide +kernel
theorem dX12_goOn_236 : decode cX12_goOn 236 = .ok (.getfield 397, 3) := by decide +kernel
theorem dX12_goOn_239 : decode cX12_goOn 239 = .ok (.ifCond .ne 82, 3) := by decide +kernel
theorem dX12_goOn_242 : decode cX12_goOn 242 = .ok (.iload_n 3, 1) := by decide +kernel
theorem dX12_goOn_243 : decode cX12_goOn 243 = .ok (.aload_n 0, 1) := by decide +kernel
theorem dX12_goOn_244 : decode cX12_goOn 244 = .ok (.getfield 409, 3) := by decide +kernel
theorem dX12_goOn_247 : decode cX12_goOn 247 = .ok (.if_icmp .eq 68, 3) := by decide +kernel
theorem dX12_goOn_250 : decode cX12_goOn 250 = .ok (.aload_n 0, 1) := by decide +kernel
theorem dX12_goOn_251 : decode cX12_goOn 251 = .ok (.getfield 51, 3) := by decide +kernel
theorem dX12_goOn_254 : decode cX12_goOn 254 = .ok (.iload_n 3, 1) := by decide +kernel
theorem dX12_goOn_255 : decode cX12_goOn 255 = .ok (.iaload, 1) := by decide +kernel
theorem dX12_goOn_256 : decode cX12_goOn 256 = .ok (.aload_n 0, 1) := by decide +kernel
theorem dX12_goOn_257 : decode cX12_goOn 257 = .ok (.getfield 130, 3) := by decide +kernel
theorem dX12_goOn_260 : decode cX12_goOn 260 = .ok (.iload_n 1, 1) := by decide +kernel
theorem dX12_goOn_261 : decode cX12_goOn 261 = .ok (.iaload, 1) := by decide +kernel
theorem dX12_goOn_262 : decode cX12_goOn 262 = .ok (.bipush 24, 2) := by decide +kernel
theorem dX12_goOn_264 : decode cX12_goOn 264 = .ok (.irem, 1) := by decide +kernel
theorem dX12_goOn_265 : decode cX12_goOn 265 = .ok (.if_icmp .eq 6, 3) := by decide +kernel
theorem dX12_goOn_268 : decode cX12_goOn 268 = .ok (.goto 47, 3) := by decide +kernel
theorem dX12_goOn_271 : decode cX12_goOn 271 = .ok (.aload_n 0, 1) := by decide +kernel
theorem dX12_goOn_272 : decode cX12_goOn 272 = .ok (.iload_n 1, 1) := by decide +kernel
theorem dX12_goOn_273 : decode cX12_goOn 273 = .ok (.iload_n 3, 1) := by decide +kernel
theorem dX12_goOn_274 : decode cX12_goOn 274 = .ok (.invokevirtual 470, 3) := by decide +kernel
theorem dX12_goOn_277 : decode cX12_goOn 277 = .ok (.istore 4, 2) := by decide +kernel
theorem dX12_goOn_279 : decode cX12_goOn 279 = .ok (.aload_n 0, 1) := by decide +kernel
theorem dX12_goOn_280 : decode cX12_goOn 280 = .ok (.getfield 112, 3) := by decide +kernel
theorem dX12_goOn_283 : decode cX12_goOn 283 = .ok (.iload_n 1, 1) := by decide +kernel
theorem dX12_goOn_284 : decode cX12_goOn 284 = .ok (.iaload, 1) := by decide +kernel
theorem dX12_goOn_285 : decode cX12_goOn 285 = .ok (.iload 4, 2) := by decide +kernel
theorem dX12_goOn_287 : decode cX12_goOn 287 = .ok (.iadd, 1) := by decide +kernel
theorem dX12_goOn_288 : decode cX12_goOn 288 = .ok (.iconst 5, 1) := by decide +kernel
theorem dX12_goOn_289 : decode cX12_goOn 289 = .ok (.bipush 30, 2) := by decide +kernel
theorem dX12_goOn_291 : decode cX12_goOn 291 = .ok (.invokestatic 433, 3) := by decide +kernel
theorem dX12_goOn_294 : decode cX12_goOn 294 = .ok (.istore 5, 2) := by decide +kernel
theorem dX12_goOn_296 : decode cX12_goOn 296 = .ok (.iload 5, 2) := by decide +kernel
theorem dX12_goOn_298 : decode cX12_goOn 298 = .ok (.aload_n 0, 1) := by decide +kernel
theorem dX12_goOn_299 : decode cX12_goOn 299 = .ok (.getfield 112, 3) := by decide +kernel
theorem dX12_goOn_302 : decode cX12_goOn 302 = .ok (.iload_n 1, 1) := by decide +kernel
theorem dX12_goOn_303 : decode cX12_goOn 303 = .ok (.iaload, 1) := by decide +kernel
theorem dX12_goOn_304 : decode cX12_goOn 304 = .ok (.if_icmp .eq 11, 3) := by decide +kernel
theorem dX12_goOn_307 : decode cX12_goOn 307 = .ok (.aload_n 0, 1) := by decide +kernel
theorem dX12_goOn_308 : decode cX12_goOn 308 = .ok (.iload_n 1, 1) := by decide +kernel
theorem dX12_goOn_309 : decode cX12_goOn 309 = .ok (.iload_n 3, 1) := by decide +kernel
theorem dX12_goOn_310 : decode cX12_goOn 310 = .ok (.iload 5, 2) := by decide +kernel
theorem dX12_goOn_312 : decode cX12_goOn 312 = .ok (.invokevirtual 473, 3) := by decide +kernel
theorem dX12_goOn_315 : decode cX12_goOn 315 = .ok (.iinc 3 1, 3) := by decide +kernel
theorem dX12_goOn_318 : decode cX12_goOn 318 = .ok (.goto (-91), 3) := by decide +kernel
theorem dX12_goOn_321 : decode cX12_goOn 321 = .ok (.iconst 0, 1) := by decide +kernel
theorem dX12_goOn_322 : decode cX12_goOn 322 = .ok (.istore_n 3, 1) := by decide +kernel
theorem dX12_goOn_323 : decode cX12_goOn 323 = .ok (.iload_n 3, 1) := by decide +kernel
theorem dX12_goOn_324 : decode cX12_goOn 324 = .ok (.aload_n 0, 1) := by decide +kernel
theorem dX12_goOn_325 : decode cX12_goOn 325 = .ok (.getfield 258, 3) := by decide +kernel
theorem dX12_goOn_328 : decode cX12_goOn 328 = .ok (.if_icmp .ge 43, 3) := by decide +kernel
theorem dX12_goOn_331 : decode cX12_goOn 331 = .ok (.iload_n 3, 1) := by decide +kernel
theorem dX12_goOn_332 : decode cX12_goOn 332 = .ok (.aload_n 0, 1) := by decide +kernel
theorem dX12_goOn_333 : decode cX12_goOn 333 = .ok (.getfield 409, 3) := by decide +kernel
theorem dX12_goOn_336 : decode cX12_goOn 336 = .ok (.if_icmp .ne 6, 3) := by decide +kernel
theorem dX12_goOn_339 : decode cX12_goOn 339 = .ok (.goto 26, 3) := by decide +kernel
theorem dX12_goOn_342 : decode cX12_goOn 342 = .ok (.aload_n 0, 1) := by decide +kernel
theorem dX12_goOn_343 : decode cX12_goOn 343 = .ok (.iload_n 1, 1) := by decide +kernel
theorem dX12_goOn_344 : decode cX12_goOn 344 = .ok (.iload_n 3, 1) := by decide +kernel
theorem dX12_goOn_345 : decode cX12_goOn 345 = .ok (.invokevirtual 476, 3) := by decide +kernel
theorem dX12_goOn_348 : decode cX12_goOn 348 = .ok (.istore 4, 2) := by decide +kernel
theorem dX12_goOn_350 : decode cX12_goOn 350 = .ok (.aload_n 0, 1) := by decide +kernel
theorem dX12_goOn_351 : decode cX12_goOn 351 = .ok (.getfield 103, 3) := by decide +kernel
theorem dX12_goOn_354 : decode cX12_goOn 354 = .ok (.iconst 5, 1) := by decide +kernel
theorem dX12_goOn_355 : decode cX12_goOn 355 = .ok (.iload_n 1, 1) := by decide +kernel
theorem dX12_goOn_356 : decode cX12_goOn 356 = .ok (.imul, 1) := by decide +kernel
theorem dX12_goOn_357 : decode cX12_goOn 357 = .ok (.iload_n 3, 1) := by decide +kernel
theorem dX12_goOn_358 : decode cX12_goOn 358 = .ok (.iadd, 1) := by decide +kernel
theorem dX12_goOn_359 : decode cX12_goOn 359 = .ok (.dup2, 1) := by decide +kernel
theorem dX12_goOn_360 : decode cX12_goOn 360 = .ok (.iaload, 1) := by decide +kernel
theorem dX12_goOn_361 : decode cX12_goOn 361 = .ok (.iload 4, 2) := by decide +kernel
theorem dX12_goOn_363 : decode cX12_goOn 363 = .ok (.iadd, 1) := by decide +kernel
theorem dX12_goOn_364 : decode cX12_goOn 364 = .ok (.iastore, 1) := by decide +kernel
theorem dX12_goOn_365 : decode cX12_goOn 365 = .ok (.iinc 3 1, 3) := by decide +kernel
theorem dX12_goOn_368 : decode cX12_goOn 368 = .ok (.goto (-45), 3) := by decide +kernel
theorem dX12_goOn_371 : decode cX12_goOn 371 = .ok (.aload_n 0, 1) := by decide +kernel
theorem dX12_goOn_372 : decode cX12_goOn 372 = .ok (.getfield 130, 3) := by decide +kernel
theorem dX12_goOn_375 : decode cX12_goOn 375 = .ok (.iload_n 1, 1) := by decide +kernel
theorem dX12_goOn_376 : decode cX12_goOn 376 = .ok (.dup2, 1) := by decide +kernel
theorem dX12_goOn_377 : decode cX12_goOn 377 = .ok (.iaload, 1) := by decide +kernel
theorem dX12_goOn_378 : decode cX12_goOn 378 = .ok (.iconst 1, 1) := by decide +kernel
theorem dX12_goOn_379 : decode cX12_goOn 379 = .ok (.iadd, 1) := by decide +kernel
theorem dX12_goOn_380 : decode cX12_goOn 380 = .ok (.iastore, 1) := by decide +kernel
theorem dX12_goOn_381 : decode cX12_goOn 381 = .ok (.return_, 1) := by decide +kernel
def f_X12_goOn (M : MM) (p1 : Int) : Option (MM) :=
(f_X12_isOn M p1).bind fun x1 =>
gd (0 ≤ p1 ∧ p1 < (2 : Int)) <|
((if x1 = 0 then
(some 0)
else
some (M 92 2)) : Option (Int)).bind fun x4 =>
gd (0 ≤ p1 ∧ p1 < (2 : Int)) <|
bM (upM M 124 (p1).toNat (w32 ((M 124 (p1).toNat) + x4))) fun M6 =>
gd (0 ≤ p1 ∧ p1 < (2 : Int)) <|
((if x1 = 0 then
(some 0)
else
some 1) : Option (Int)).bind fun x9 =>
gd (0 ≤ p1 ∧ p1 < (2 : Int)) <|
bM (upM M6 125 (p1).toNat (w32 ((M6 125 (p1).toNat) + x9))) fun M11 =>
(lp (X := Int × MM) (Y := MM) (fun x12 =>
if x12.1 < (x12.2 88 12) then
((f_X12_loses x12.2 p1 x12.1).bind fun x14 =>
gd (0 ≤ x12.1 ∧ x12.1 < (5 : Int)) <|
bM (upM x14.2 130 (x12.1).toNat x14.1) fun M16 =>
some (Sum.inl (w32 (x12.1 + 1), M16)))
else
some (Sum.inr x12.2)) FU (0, M11)).bind fun x17 =>
(lp (X := Int × MM) (Y := MM) (fun x18 =>
if x18.1 < (x18.2 88 12) then
(gd (0 ≤ w32 ((w32 (5 * p1)) + x18.1) ∧ w32 ((w32 (5 * p1)) + x18.1) < (10 : Int)) <|
((if x1 = 0 then
(some 0)
else
gd (0 ≤ x18.1 ∧ x18.1 < (10 : Int)) <|
some (x18.2 96 (x18.1).toNat)) : Option (Int)).bind fun x23 =>
(f_X12_sunIn x18.2 p1 x18.1).bind fun x24 =>
gd (0 ≤ x18.1 ∧ x18.1 < (5 : Int)) <|
bI (w32 ((w32 ((w32 ((x18.2 116 (w32 ((w32 (5 * p1)) + x18.1)).toNat) + x23)) + x24)) - (x18.2 130 (x18.1).toNat))) fun x26 =>
(f_X12_within x18.2 x26 0 600).bind fun x27 =>
gd (0 ≤ w32 ((w32 (5 * p1)) + x18.1) ∧ w32 ((w32 (5 * p1)) + x18.1) < (10 : Int)) <|
bM (upM x18.2 116 (w32 ((w32 (5 * p1)) + x18.1)).toNat x27) fun M29 =>
(lp (X := Int × MM) (Y := MM) (fun x30 =>
if 0 < x30.1 then
(gd (0 ≤ w32 ((w32 ((w32 ((w32 (30 * p1)) + (w32 (6 * x18.1)))) + x30.1)) - 1) ∧ w32 ((w32 ((w32 ((w32 (30 * p1)) + (w32 (6 * x18.1)))) + x30.1)) - 1) < (60 : Int)) <|
gd (0 ≤ w32 ((w32 ((w32 (30 * p1)) + (w32 (6 * x18.1)))) + x30.1) ∧ w32 ((w32 ((w32 (30 * p1)) + (w32 (6 * x18.1)))) + x30.1) < (60 : Int)) <|
bM (upM x30.2 117 (w32 ((w32 ((w32 (30 * p1)) + (w32 (6 * x18.1)))) + x30.1)).toNat (x30.2 117 (w32 ((w32 ((w32 ((w32 (30 * p1)) + (w32 (6 * x18.1)))) + x30.1)) - 1)).toNat)) fun M34 =>
some (Sum.inl (w32 (x30.1 + (-1)), M34)))
else
some (Sum.inr x30.2)) FU (5, M29)).bind fun x35 =>
gd (0 ≤ w32 ((w32 (5 * p1)) + x18.1) ∧ w32 ((w32 (5 * p1)) + x18.1) < (10 : Int)) <|
gd (0 ≤ w32 ((w32 (30 * p1)) + (w32 (6 * x18.1))) ∧ w32 ((w32 (30 * p1)) + (w32 (6 * x18.1))) < (60 : Int)) <|
bM (upM x35 117 (w32 ((w32 (30 * p1)) + (w32 (6 * x18.1)))).toNat (x35 116 (w32 ((w32 (5 * p1)) + x18.1)).toNat)) fun M38 =>
some (Sum.inl (w32 (x18.1 + 1), M38)))
else
some (Sum.inr x18.2)) FU (0, x17)).bind fun x39 =>
(lp (X := Int × MM) (Y := MM) (fun x40 =>
if x40.1 < (x40.2 88 13) then
(if (x40.2 88 69) = 0 then
(((if x40.1 = (x40.2 88 73) then
(some x40.2)
else
gd (0 ≤ x40.1 ∧ x40.1 < (10 : Int)) <|
gd (0 ≤ p1 ∧ p1 < (2 : Int)) <|
if (x40.2 101 (x40.1).toNat) = (w32 (Int.tmod (x40.2 127 (p1).toNat) 24)) then
((f_X12_turnOf x40.2 p1 x40.1).bind fun x47 =>
gd (0 ≤ p1 ∧ p1 < (2 : Int)) <|
(f_X12_within x47.2 (w32 ((x47.2 121 (p1).toNat) + x47.1)) 5 30).bind fun x49 =>
gd (0 ≤ p1 ∧ p1 < (2 : Int)) <|
if x49 = (x47.2 121 (p1).toNat) then
(some x47.2)
else
(f_X12_turned x47.2 p1 x40.1 x49).bind fun x52 =>
some x52)
else
some x40.2) : Option (MM)).bind fun x53 =>
some (Sum.inl (w32 (x40.1 + 1), x53)))
else
some (Sum.inr x40.2))
else
some (Sum.inr x40.2)) FU (0, x39)).bind fun x54 =>
(lp (X := Int × MM) (Y := MM) (fun x55 =>
if x55.1 < (x55.2 88 13) then
(((if x55.1 = (x55.2 88 73) then
(some x55.2)
else
(f_X12_crossOf x55.2 p1 x55.1).bind fun x58 =>
gd (0 ≤ w32 ((w32 (5 * p1)) + x55.1) ∧ w32 ((w32 (5 * p1)) + x55.1) < (10 : Int)) <|
gd (0 ≤ w32 ((w32 (5 * p1)) + x55.1) ∧ w32 ((w32 (5 * p1)) + x55.1) < (10 : Int)) <|
bM (upM x58.2 118 (w32 ((w32 (5 * p1)) + x55.1)).toNat (w32 ((x58.2 118 (w32 ((w32 (5 * p1)) + x55.1)).toNat) + x58.1))) fun M61 =>
some M61) : Option (MM)).bind fun x62 =>
some (Sum.inl (w32 (x55.1 + 1), x62)))
else
some (Sum.inr x55.2)) FU (0, x54)).bind fun x63 =>
gd (0 ≤ p1 ∧ p1 < (2 : Int)) <|
gd (0 ≤ p1 ∧ p1 < (2 : Int)) <|
bM (upM x63 127 (p1).toNat (w32 ((x63 127 (p1).toNat) + 1))) fun M66 =>
some M66
set_option maxRecDepth 4000 in
theorem c_X12_goOn {E : EE} {sh : List (Nat × Nat)} {ex : Bool} {R : RM} {M : MM} {p1 : Int} (hE : Ext sh) (hL : Links R) : ∀ y, f_X12_goOn M p1 = some y → MetC E m_X12_goOn 0 0 [rV 88, iV p1] (sh, ex, R, M) (fun r w' => r = none ∧ w' = (sh, ex, R, y)) := by
  intro y hy
  refine MetC.seg (o := f_X12_goOn M p1) (t := (fun K y => K (none) (sh, ex, R, y))) (L := [some (rV 88), some (iV p1), none, none, none, none]) (by decide) rfl (Nat.le_of_ble_eq_true rfl) ?_ hy ⟨rfl, rfl⟩
  unfold f_X12_goOn
  refine Seg.step (pc' := 1) (I_aload_n (i := 0) dX12_goOn_0 rfl rfl) ?_
  refine Seg.step (pc' := 2) (I_iload_n (i := 1) dX12_goOn_1 rfl rfl) ?_
  refine S_callV1 (md' := m_X12_isOn) (fun y => some (iV y)) (fun y => (sh, ex, R, M)) (hE _ _ sk_12) ⟨by decide, rfl⟩ mm_X12_isOn wm_12_461 ⟨rfl, rfl, by decide, by decide, by decide, by decide⟩ (Nat.le_of_ble_eq_true rfl) dX12_goOn_2 (fun y hy => c_X12_isOn hE hL y hy) (fun x1 => ?_)
  refine Seg.step (pc' := 6) (I_istore_n (i := 2) dX12_goOn_5 rfl (by decide) rfl) ?_
  refine Seg.step (pc' := 7) (I_aload_n (i := 0) dX12_goOn_6 rfl rfl) ?_
  refine Seg.step (pc' := 10) (I_getR cls12 (by decide) wf_12_121 (hE _ _ sk_12) rfl (lk_12_62 hL) dX12_goOn_7) ?_
  refine Seg.step (pc' := 11) (I_iload_n (i := 1) dX12_goOn_10 rfl rfl) ?_
  refine Seg.step (pc' := 12) (I_dup2 dX12_goOn_11 (fun _ h => by cases h) (fun _ h => by cases h)) ?_
  refine S_gd fun h2 => ?_
  refine Seg.step (pc' := 13) (I_iald (hE _ _ sk_12_62) h2 dX12_goOn_12) ?_
  refine Seg.step (pc' := 14) (I_iload_n (i := 2) dX12_goOn_13 rfl rfl) ?_
  refine S_bind (Y := Int) (k' := 0) (n' := 0) 27 (fun y => [some (rV 88), some (iV p1), some (iV x1), none, none, none]) (fun y => [iV y, iV (M 124 (p1).toNat), iV p1, rV 124]) (fun y => (sh, ex, R, M)) ?_ (fun x4 => ?_)
  · refine S_if_eq (tgt := 26) dX12_goOn_14 (by decide) (fun h3 => ?_) (fun h3 => ?_)
    · refine Seg.step (pc' := 27) (I_iconst dX12_goOn_26 ⟨by decide, by decide⟩) ?_
      exact S_arr (fun K hK => GG.forget (Lle.ye (Lle.ye (Lle.ye (Lle.no (Lle.no (Lle.no (Lle.nil))))))) hK)
    refine Seg.step (pc' := 18) (I_aload_n (i := 0) dX12_goOn_17 rfl rfl) ?_
    refine Seg.step (pc' := 21) (I_getR cls12 (by decide) wf_12_24 (hE _ _ sk_12) rfl (lk_12_23 hL) dX12_goOn_18) ?_
    refine Seg.step (pc' := 22) (I_iconst dX12_goOn_21 ⟨by decide, by decide⟩) ?_
    refine Seg.step (pc' := 23) (I_iald (hE _ _ sk_12_23) ⟨by decide, by decide⟩ dX12_goOn_22) ?_
    refine Seg.step (pc' := 27) (I_goto (tgt := 27) dX12_goOn_23 (by decide)) ?_
    exact S_arr (fun K hK => GG.forget (Lle.ye (Lle.ye (Lle.ye (Lle.no (Lle.no (Lle.no (Lle.nil))))))) hK)
  refine Seg.step (pc' := 28) (I_iadd dX12_goOn_27) ?_
  refine S_gd fun h5 => ?_
  refine Seg.step (pc' := 29) (I_iast (hE _ _ sk_12_62) h5 dX12_goOn_28) ?_
  refine S_bM fun M6 => ?_
  refine Seg.step (pc' := 30) (I_aload_n (i := 0) dX12_goOn_29 rfl rfl) ?_
  refine Seg.step (pc' := 33) (I_getR cls12 (by decide) wf_12_124 (hE _ _ sk_12) rfl (lk_12_63 hL) dX12_goOn_30) ?_
  refine Seg.step (pc' := 34) (I_iload_n (i := 1) dX12_goOn_33 rfl rfl) ?_
  refine Seg.step (pc' := 35) (I_dup2 dX12_goOn_34 (fun _ h => by cases h) (fun _ h => by cases h)) ?_
  refine S_gd fun h7 => ?_
  refine Seg.step (pc' := 36) (I_iald (hE _ _ sk_12_63) h7 dX12_goOn_35) ?_
  refine Seg.step (pc' := 37) (I_iload_n (i := 2) dX12_goOn_36 rfl rfl) ?_
  refine S_bind (Y := Int) (k' := 0) (n' := 0) 45 (fun y => [some (rV 88), some (iV p1), some (iV x1), none, none, none]) (fun y => [iV y, iV (M6 125 (p1).toNat), iV p1, rV 125]) (fun y => (sh, ex, R, M6)) ?_ (fun x9 => ?_)
  · refine S_if_eq (tgt := 44) dX12_goOn_37 (by decide) (fun h8 => ?_) (fun h8 => ?_)
    · refine Seg.step (pc' := 45) (I_iconst dX12_goOn_44 ⟨by decide, by decide⟩) ?_
      exact S_arr (fun K hK => GG.forget (Lle.ye (Lle.ye (Lle.ye (Lle.no (Lle.no (Lle.no (Lle.nil))))))) hK)
    refine Seg.step (pc' := 41) (I_iconst dX12_goOn_40 ⟨by decide, by decide⟩) ?_
    refine Seg.step (pc' := 45) (I_goto (tgt := 45) dX12_goOn_41 (by decide)) ?_
    exact S_arr (fun K hK => GG.forget (Lle.ye (Lle.ye (Lle.ye (Lle.no (Lle.no (Lle.no (Lle.nil))))))) hK)
  refine Seg.step (pc' := 46) (I_iadd dX12_goOn_45) ?_
  refine S_gd fun h10 => ?_
  refine Seg.step (pc' := 47) (I_iast (hE _ _ sk_12_63) h10 dX12_goOn_46) ?_
  refine S_bM fun M11 => ?_
  refine Seg.step (pc' := 48) (I_iconst dX12_goOn_47 ⟨by decide, by decide⟩) ?_
  refine Seg.step (pc' := 49) (I_istore_n (i := 3) dX12_goOn_48 rfl (by decide) rfl) ?_
  refine Seg.forget (Lle.ye (Lle.ye (Lle.ye (Lle.ye (Lle.no (Lle.no (Lle.nil))))))) ?_
  refine S_bind (Y := MM) (k' := 0) (n' := 0) 75 (fun y => [some (rV 88), some (iV p1), some (iV x1), none, none, none]) (fun y => []) (fun y => (sh, ex, R, y)) (S_loop (Y := Int × MM) (fun y => [some (rV 88), some (iV p1), some (iV x1), some (iV y.1), none, none]) (fun y => []) (fun y => (sh, ex, R, y.2)) (fun x12 => ?_) FU (0, M11)) (fun x17 => ?_)
  · refine Seg.step (pc' := 50) (I_iload_n (i := 3) dX12_goOn_49 rfl rfl) ?_
    refine Seg.step (pc' := 51) (I_aload_n (i := 0) dX12_goOn_50 rfl rfl) ?_
    refine Seg.step (pc' := 54) (I_getI cls12 (by decide) wf_12_255 (hE _ _ sk_12) rfl dX12_goOn_51) ?_
    refine S_icmp_ge (tgt := 75) dX12_goOn_54 (by decide) (fun h13 => ?_) (fun h13 => ?_)
    · refine Seg.step (pc' := 58) (I_aload_n (i := 0) dX12_goOn_57 rfl rfl) ?_
      refine Seg.step (pc' := 61) (I_getR cls12 (by decide) wf_12_139 (hE _ _ sk_12) rfl (lk_12_68 hL) dX12_goOn_58) ?_
      refine Seg.step (pc' := 62) (I_iload_n (i := 3) dX12_goOn_61 rfl rfl) ?_
      refine Seg.step (pc' := 63) (I_aload_n (i := 0) dX12_goOn_62 rfl rfl) ?_
      refine Seg.step (pc' := 64) (I_iload_n (i := 1) dX12_goOn_63 rfl rfl) ?_
      refine Seg.step (pc' := 65) (I_iload_n (i := 3) dX12_goOn_64 rfl rfl) ?_
      refine S_callV2 (md' := m_X12_loses) (fun y => some (iV y.1)) (fun y => (sh, ex, R, y.2)) (hE _ _ sk_12) ⟨by decide, rfl⟩ mm_X12_loses wm_12_464 ⟨rfl, rfl, by decide, by decide, by decide, by decide⟩ (Nat.le_of_ble_eq_true rfl) dX12_goOn_65 (fun y hy => c_X12_loses hE hL y hy) (fun x14 => ?_)
      refine S_gd fun h15 => ?_
      refine Seg.step (pc' := 69) (I_iast (hE _ _ sk_12_68) h15 dX12_goOn_68) ?_
      refine S_bM fun M16 => ?_
      refine Seg.step (pc' := 72) (I_iinc dX12_goOn_69 rfl (by decide) rfl) ?_
      refine Seg.step (pc' := 49) (I_goto (tgt := 49) dX12_goOn_72 (by decide)) ?_
      exact S_arr (fun K hK => GG.forget (Lle.ye (Lle.ye (Lle.ye (Lle.ye (Lle.no (Lle.no (Lle.nil))))))) hK)
    exact S_arr (fun K hK => GG.forget (Lle.ye (Lle.ye (Lle.ye (Lle.no (Lle.no (Lle.no (Lle.nil))))))) hK)
  refine Seg.step (pc' := 76) (I_iconst dX12_goOn_75 ⟨by decide, by decide⟩) ?_
  refine Seg.step (pc' := 77) (I_istore_n (i := 3) dX12_goOn_76 rfl (by decide) rfl) ?_
  refine Seg.forget (Lle.ye (Lle.ye (Lle.ye (Lle.ye (Lle.no (Lle.no (Lle.nil))))))) ?_
  refine S_bind (Y := MM) (k' := 0) (n' := 0) 225 (fun y => [some (rV 88), some (iV p1), none, none, none, none]) (fun y => []) (fun y => (sh, ex, R, y)) (S_loop (Y := Int × MM) (fun y => [some (rV 88), some (iV p1), some (iV x1), some (iV y.1), none, none]) (fun y => []) (fun y => (sh, ex, R, y.2)) (fun x18 => ?_) FU (0, x17)) (fun x39 => ?_)
  · refine Seg.step (pc' := 78) (I_iload_n (i := 3) dX12_goOn_77 rfl rfl) ?_
    refine Seg.step (pc' := 79) (I_aload_n (i := 0) dX12_goOn_78 rfl rfl) ?_
    refine Seg.step (pc' := 82) (I_getI cls12 (by decide) wf_12_255 (hE _ _ sk_12) rfl dX12_goOn_79) ?_
    refine S_icmp_ge (tgt := 225) dX12_goOn_82 (by decide) (fun h19 => ?_) (fun h19 => ?_)
    · refine Seg.step (pc' := 86) (I_aload_n (i := 0) dX12_goOn_85 rfl rfl) ?_
      refine Seg.step (pc' := 89) (I_getR cls12 (by decide) wf_12_97 (hE _ _ sk_12) rfl (lk_12_54 hL) dX12_goOn_86) ?_
      refine Seg.step (pc' := 90) (I_iconst dX12_goOn_89 ⟨by decide, by decide⟩) ?_
      refine Seg.step (pc' := 91) (I_iload_n (i := 1) dX12_goOn_90 rfl rfl) ?_
      refine Seg.step (pc' := 92) (I_imul dX12_goOn_91) ?_
      refine Seg.step (pc' := 93) (I_iload_n (i := 3) dX12_goOn_92 rfl rfl) ?_
      refine Seg.step (pc' := 94) (I_iadd dX12_goOn_93) ?_
      refine S_gd fun h20 => ?_
      refine Seg.step (pc' := 95) (I_iald (hE _ _ sk_12_54) h20 dX12_goOn_94) ?_
      refine Seg.step (pc' := 96) (I_iload_n (i := 2) dX12_goOn_95 rfl rfl) ?_
      refine S_bind (Y := Int) (k' := 0) (n' := 0) 109 (fun y => [some (rV 88), some (iV p1), some (iV x1), some (iV x18.1), none, none]) (fun y => [iV y, iV (x18.2 116 (w32 ((w32 (5 * p1)) + x18.1)).toNat)]) (fun y => (sh, ex, R, x18.2)) ?_ (fun x23 => ?_)
      · refine S_if_eq (tgt := 108) dX12_goOn_96 (by decide) (fun h21 => ?_) (fun h21 => ?_)
        · refine Seg.step (pc' := 109) (I_iconst dX12_goOn_108 ⟨by decide, by decide⟩) ?_
          exact S_arr (fun K hK => GG.forget (Lle.ye (Lle.ye (Lle.ye (Lle.ye (Lle.no (Lle.no (Lle.nil))))))) hK)
        refine Seg.step (pc' := 100) (I_aload_n (i := 0) dX12_goOn_99 rfl rfl) ?_
        refine Seg.step (pc' := 103) (I_getR cls12 (by decide) wf_12_36 (hE _ _ sk_12) rfl (lk_12_27 hL) dX12_goOn_100) ?_
        refine Seg.step (pc' := 104) (I_iload_n (i := 3) dX12_goOn_103 rfl rfl) ?_
        refine S_gd fun h22 => ?_
        refine Seg.step (pc' := 105) (I_iald (hE _ _ sk_12_27) h22 dX12_goOn_104) ?_
        refine Seg.step (pc' := 109) (I_goto (tgt := 109) dX12_goOn_105 (by decide)) ?_
        exact S_arr (fun K hK => GG.forget (Lle.ye (Lle.ye (Lle.ye (Lle.ye (Lle.no (Lle.no (Lle.nil))))))) hK)
      refine Seg.step (pc' := 110) (I_iadd dX12_goOn_109) ?_
      refine Seg.step (pc' := 111) (I_aload_n (i := 0) dX12_goOn_110 rfl rfl) ?_
      refine Seg.step (pc' := 112) (I_iload_n (i := 1) dX12_goOn_111 rfl rfl) ?_
      refine Seg.step (pc' := 113) (I_iload_n (i := 3) dX12_goOn_112 rfl rfl) ?_
      refine S_callV2 (md' := m_X12_sunIn) (fun y => some (iV y)) (fun y => (sh, ex, R, x18.2)) (hE _ _ sk_12) ⟨by decide, rfl⟩ mm_X12_sunIn wm_12_467 ⟨rfl, rfl, by decide, by decide, by decide, by decide⟩ (Nat.le_of_ble_eq_true rfl) dX12_goOn_113 (fun y hy => c_X12_sunIn hE hL y hy) (fun x24 => ?_)
      refine Seg.step (pc' := 117) (I_iadd dX12_goOn_116) ?_
      refine Seg.step (pc' := 118) (I_aload_n (i := 0) dX12_goOn_117 rfl rfl) ?_
      refine Seg.step (pc' := 121) (I_getR cls12 (by decide) wf_12_139 (hE _ _ sk_12) rfl (lk_12_68 hL) dX12_goOn_118) ?_
      refine Seg.step (pc' := 122) (I_iload_n (i := 3) dX12_goOn_121 rfl rfl) ?_
      refine S_gd fun h25 => ?_
      refine Seg.step (pc' := 123) (I_iald (hE _ _ sk_12_68) h25 dX12_goOn_122) ?_
      refine Seg.step (pc' := 124) (I_isub dX12_goOn_123) ?_
      refine S_bI fun x26 => ?_
      refine Seg.step (pc' := 126) (I_istore dX12_goOn_124 (by decide) rfl) ?_
      refine Seg.step (pc' := 127) (I_aload_n (i := 0) dX12_goOn_126 rfl rfl) ?_
      refine Seg.step (pc' := 130) (I_getR cls12 (by decide) wf_12_97 (hE _ _ sk_12) rfl (lk_12_54 hL) dX12_goOn_127) ?_
      refine Seg.step (pc' := 131) (I_iconst dX12_goOn_130 ⟨by decide, by decide⟩) ?_
      refine Seg.step (pc' := 132) (I_iload_n (i := 1) dX12_goOn_131 rfl rfl) ?_
      refine Seg.step (pc' := 133) (I_imul dX12_goOn_132) ?_
      refine Seg.step (pc' := 134) (I_iload_n (i := 3) dX12_goOn_133 rfl rfl) ?_
      refine Seg.step (pc' := 135) (I_iadd dX12_goOn_134) ?_
      refine Seg.step (pc' := 137) (I_iload dX12_goOn_135 rfl) ?_
      refine Seg.step (pc' := 138) (I_iconst dX12_goOn_137 ⟨by decide, by decide⟩) ?_
      refine Seg.step (pc' := 141) (I_sipush dX12_goOn_138 (by decide) ⟨by decide, by decide⟩) ?_
      refine S_callS3 (md' := m_X12_within) (fun y => some (iV y)) (fun y => (sh, ex, R, x18.2)) mm_X12_within wm_12_433 ⟨rfl, rfl, by decide, by decide, by decide, by decide⟩ (Nat.le_of_ble_eq_true rfl) dX12_goOn_141 (fun y hy => c_X12_within hE hL y hy) (fun x27 => ?_)
      refine S_gd fun h28 => ?_
      refine Seg.step (pc' := 145) (I_iast (hE _ _ sk_12_54) h28 dX12_goOn_144) ?_
      refine S_bM fun M29 => ?_
      refine Seg.step (pc' := 146) (I_iconst dX12_goOn_145 ⟨by decide, by decide⟩) ?_
      refine Seg.step (pc' := 148) (I_istore dX12_goOn_146 (by decide) rfl) ?_
      refine Seg.forget (Lle.ye (Lle.ye (Lle.ye (Lle.ye (Lle.no (Lle.ye (Lle.nil))))))) ?_
      refine S_bind (Y := MM) (k' := 0) (n' := 0) 195 (fun y => [some (rV 88), some (iV p1), some (iV x1), some (iV x18.1), none, none]) (fun y => []) (fun y => (sh, ex, R, y)) (S_loop (Y := Int × MM) (fun y => [some (rV 88), some (iV p1), some (iV x1), some (iV x18.1), none, some (iV y.1)]) (fun y => []) (fun y => (sh, ex, R, y.2)) (fun x30 => ?_) FU (5, M29)) (fun x35 => ?_)
      · refine Seg.step (pc' := 150) (I_iload dX12_goOn_148 rfl) ?_
        refine S_if_le (tgt := 195) dX12_goOn_150 (by decide) (fun h31 => ?_) (fun h31 => ?_)
        · refine Seg.step (pc' := 154) (I_aload_n (i := 0) dX12_goOn_153 rfl rfl) ?_
          refine Seg.step (pc' := 157) (I_getR cls12 (by decide) wf_12_100 (hE _ _ sk_12) rfl (lk_12_55 hL) dX12_goOn_154) ?_
          refine Seg.step (pc' := 159) (I_bipush dX12_goOn_157 (by decide) ⟨by decide, by decide⟩) ?_
          refine Seg.step (pc' := 160) (I_iload_n (i := 1) dX12_goOn_159 rfl rfl) ?_
          refine Seg.step (pc' := 161) (I_imul dX12_goOn_160) ?_
          refine Seg.step (pc' := 163) (I_bipush dX12_goOn_161 (by decide) ⟨by decide, by decide⟩) ?_
          refine Seg.step (pc' := 164) (I_iload_n (i := 3) dX12_goOn_163 rfl rfl) ?_
          refine Seg.step (pc' := 165) (I_imul dX12_goOn_164) ?_
          refine Seg.step (pc' := 166) (I_iadd dX12_goOn_165) ?_
          refine Seg.step (pc' := 168) (I_iload dX12_goOn_166 rfl) ?_
          refine Seg.step (pc' := 169) (I_iadd dX12_goOn_168) ?_
          refine Seg.step (pc' := 170) (I_aload_n (i := 0) dX12_goOn_169 rfl rfl) ?_
          refine Seg.step (pc' := 173) (I_getR cls12 (by decide) wf_12_100 (hE _ _ sk_12) rfl (lk_12_55 hL) dX12_goOn_170) ?_
          refine Seg.step (pc' := 175) (I_bipush dX12_goOn_173 (by decide) ⟨by decide, by decide⟩) ?_
          refine Seg.step (pc' := 176) (I_iload_n (i := 1) dX12_goOn_175 rfl rfl) ?_
          refine Seg.step (pc' := 177) (I_imul dX12_goOn_176) ?_
          refine Seg.step (pc' := 179) (I_bipush dX12_goOn_177 (by decide) ⟨by decide, by decide⟩) ?_
          refine Seg.step (pc' := 180) (I_iload_n (i := 3) dX12_goOn_179 rfl rfl) ?_
          refine Seg.step (pc' := 181) (I_imul dX12_goOn_180) ?_
          refine Seg.step (pc' := 182) (I_iadd dX12_goOn_181) ?_
          refine Seg.step (pc' := 184) (I_iload dX12_goOn_182 rfl) ?_
          refine Seg.step (pc' := 185) (I_iadd dX12_goOn_184) ?_
          refine Seg.step (pc' := 186) (I_iconst dX12_goOn_185 ⟨by decide, by decide⟩) ?_
          refine Seg.step (pc' := 187) (I_isub dX12_goOn_186) ?_
          refine S_gd fun h32 => ?_
          refine Seg.step (pc' := 188) (I_iald (hE _ _ sk_12_55) h32 dX12_goOn_187) ?_
          refine S_gd fun h33 => ?_
          refine Seg.step (pc' := 189) (I_iast (hE _ _ sk_12_55) h33 dX12_goOn_188) ?_
          refine S_bM fun M34 => ?_
          refine Seg.step (pc' := 192) (I_iinc dX12_goOn_189 rfl (by decide) rfl) ?_
          refine Seg.step (pc' := 148) (I_goto (tgt := 148) dX12_goOn_192 (by decide)) ?_
          exact S_arr (fun K hK => GG.forget (Lle.ye (Lle.ye (Lle.ye (Lle.ye (Lle.no (Lle.ye (Lle.nil))))))) hK)
        exact S_arr (fun K hK => GG.forget (Lle.ye (Lle.ye (Lle.ye (Lle.ye (Lle.no (Lle.no (Lle.nil))))))) hK)
      refine Seg.step (pc' := 196) (I_aload_n (i := 0) dX12_goOn_195 rfl rfl) ?_
      refine Seg.step (pc' := 199) (I_getR cls12 (by decide) wf_12_100 (hE _ _ sk_12) rfl (lk_12_55 hL) dX12_goOn_196) ?_
      refine Seg.step (pc' := 201) (I_bipush dX12_goOn_199 (by decide) ⟨by decide, by decide⟩) ?_
      refine Seg.step (pc' := 202) (I_iload_n (i := 1) dX12_goOn_201 rfl rfl) ?_
      refine Seg.step (pc' := 203) (I_imul dX12_goOn_202) ?_
      refine Seg.step (pc' := 205) (I_bipush dX12_goOn_203 (by decide) ⟨by decide, by decide⟩) ?_
      refine Seg.step (pc' := 206) (I_iload_n (i := 3) dX12_goOn_205 rfl rfl) ?_
      refine Seg.step (pc' := 207) (I_imul dX12_goOn_206) ?_
      refine Seg.step (pc' := 208) (I_iadd dX12_goOn_207) ?_
      refine Seg.step (pc' := 209) (I_aload_n (i := 0) dX12_goOn_208 rfl rfl) ?_
      refine Seg.step (pc' := 212) (I_getR cls12 (by decide) wf_12_97 (hE _ _ sk_12) rfl (lk_12_54 hL) dX12_goOn_209) ?_
      refine Seg.step (pc' := 213) (I_iconst dX12_goOn_212 ⟨by decide, by decide⟩) ?_
      refine Seg.step (pc' := 214) (I_iload_n (i := 1) dX12_goOn_213 rfl rfl) ?_
      refine Seg.step (pc' := 215) (I_imul dX12_goOn_214) ?_
      refine Seg.step (pc' := 216) (I_iload_n (i := 3) dX12_goOn_215 rfl rfl) ?_
      refine Seg.step (pc' := 217) (I_iadd dX12_goOn_216) ?_
      refine S_gd fun h36 => ?_
      refine Seg.step (pc' := 218) (I_iald (hE _ _ sk_12_54) h36 dX12_goOn_217) ?_
      refine S_gd fun h37 => ?_
      refine Seg.step (pc' := 219) (I_iast (hE _ _ sk_12_55) h37 dX12_goOn_218) ?_
      refine S_bM fun M38 => ?_
      refine Seg.step (pc' := 222) (I_iinc dX12_goOn_219 rfl (by decide) rfl) ?_
      refine Seg.step (pc' := 77) (I_goto (tgt := 77) dX12_goOn_222 (by decide)) ?_
      exact S_arr (fun K hK => GG.forget (Lle.ye (Lle.ye (Lle.ye (Lle.ye (Lle.no (Lle.no (Lle.nil))))))) hK)
    exact S_arr (fun K hK => GG.forget (Lle.ye (Lle.ye (Lle.no (Lle.no (Lle.no (Lle.no (Lle.nil))))))) hK)
  refine Seg.step (pc' := 226) (I_iconst dX12_goOn_225 ⟨by decide, by decide⟩) ?_
  refine Seg.step (pc' := 227) (I_istore_n (i := 3) dX12_goOn_226 rfl (by decide) rfl) ?_
  refine Seg.forget (Lle.ye (Lle.ye (Lle.no (Lle.ye (Lle.no (Lle.no (Lle.nil))))))) ?_
  refine S_bind (Y := MM) (k' := 0) (n' := 0) 321 (fun y => [some (rV 88), some (iV p1), none, none, none, none]) (fun y => []) (fun y => (sh, ex, R, y)) (S_loop (Y := Int × MM) (fun y => [some (rV 88), some (iV p1), none, some (iV y.1), none, none]) (fun y => []) (fun y => (sh, ex, R, y.2)) (fun x40 => ?_) FU (0, x39)) (fun x54 => ?_)
  · refine Seg.step (pc' := 228) (I_iload_n (i := 3) dX12_goOn_227 rfl rfl) ?_
    refine Seg.step (pc' := 229) (I_aload_n (i := 0) dX12_goOn_228 rfl rfl) ?_
    refine Seg.step (pc' := 232) (I_getI cls12 (by decide) wf_12_258 (hE _ _ sk_12) rfl dX12_goOn_229) ?_
    refine S_icmp_ge (tgt := 321) dX12_goOn_232 (by decide) (fun h41 => ?_) (fun h41 => ?_)
    · refine Seg.step (pc' := 236) (I_aload_n (i := 0) dX12_goOn_235 rfl rfl) ?_
      refine Seg.step (pc' := 239) (I_getZ cls12 (by decide) wf_12_397 (hE _ _ sk_12) rfl dX12_goOn_236) ?_
      refine S_if_ne (tgt := 321) dX12_goOn_239 (by decide) (fun h42 => ?_) (fun h42 => ?_)
      · refine Seg.step (pc' := 243) (I_iload_n (i := 3) dX12_goOn_242 rfl rfl) ?_
        refine Seg.step (pc' := 244) (I_aload_n (i := 0) dX12_goOn_243 rfl rfl) ?_
        refine Seg.step (pc' := 247) (I_getI cls12 (by decide) wf_12_409 (hE _ _ sk_12) rfl dX12_goOn_244) ?_
        refine S_bind (Y := MM) (k' := 0) (n' := 0) 315 (fun y => [some (rV 88), some (iV p1), none, some (iV x40.1), none, none]) (fun y => []) (fun y => (sh, ex, R, y)) ?_ (fun x53 => ?_)
        · refine S_icmp_eq (tgt := 315) dX12_goOn_247 (by decide) (fun h43 => ?_) (fun h43 => ?_)
          · exact S_arr (fun K hK => GG.forget (Lle.ye (Lle.ye (Lle.no (Lle.ye (Lle.no (Lle.no (Lle.nil))))))) hK)
          refine Seg.step (pc' := 251) (I_aload_n (i := 0) dX12_goOn_250 rfl rfl) ?_
          refine Seg.step (pc' := 254) (I_getR cls12 (by decide) wf_12_51 (hE _ _ sk_12) rfl (lk_12_32 hL) dX12_goOn_251) ?_
          refine Seg.step (pc' := 255) (I_iload_n (i := 3) dX12_goOn_254 rfl rfl) ?_
          refine S_gd fun h44 => ?_
          refine Seg.step (pc' := 256) (I_iald (hE _ _ sk_12_32) h44 dX12_goOn_255) ?_
          refine Seg.step (pc' := 257) (I_aload_n (i := 0) dX12_goOn_256 rfl rfl) ?_
          refine Seg.step (pc' := 260) (I_getR cls12 (by decide) wf_12_130 (hE _ _ sk_12) rfl (lk_12_65 hL) dX12_goOn_257) ?_
          refine Seg.step (pc' := 261) (I_iload_n (i := 1) dX12_goOn_260 rfl rfl) ?_
          refine S_gd fun h45 => ?_
          refine Seg.step (pc' := 262) (I_iald (hE _ _ sk_12_65) h45 dX12_goOn_261) ?_
          refine Seg.step (pc' := 264) (I_bipush dX12_goOn_262 (by decide) ⟨by decide, by decide⟩) ?_
          refine Seg.step (pc' := 265) (I_irem dX12_goOn_264 (by decide)) ?_
          refine S_icmp_eq (tgt := 271) dX12_goOn_265 (by decide) (fun h46 => ?_) (fun h46 => ?_)
          · refine Seg.step (pc' := 272) (I_aload_n (i := 0) dX12_goOn_271 rfl rfl) ?_
            refine Seg.step (pc' := 273) (I_iload_n (i := 1) dX12_goOn_272 rfl rfl) ?_
            refine Seg.step (pc' := 274) (I_iload_n (i := 3) dX12_goOn_273 rfl rfl) ?_
            refine S_callV2 (md' := m_X12_turnOf) (fun y => some (iV y.1)) (fun y => (sh, ex, R, y.2)) (hE _ _ sk_12) ⟨by decide, rfl⟩ mm_X12_turnOf wm_12_470 ⟨rfl, rfl, by decide, by decide, by decide, by decide⟩ (Nat.le_of_ble_eq_true rfl) dX12_goOn_274 (fun y hy => c_X12_turnOf hE hL y hy) (fun x47 => ?_)
            refine Seg.step (pc' := 279) (I_istore dX12_goOn_277 (by decide) rfl) ?_
            refine Seg.step (pc' := 280) (I_aload_n (i := 0) dX12_goOn_279 rfl rfl) ?_
            refine Seg.step (pc' := 283) (I_getR cls12 (by decide) wf_12_112 (hE _ _ sk_12) rfl (lk_12_59 hL) dX12_goOn_280) ?_
            refine Seg.step (pc' := 284) (I_iload_n (i := 1) dX12_goOn_283 rfl rfl) ?_
            refine S_gd fun h48 => ?_
            refine Seg.step (pc' := 285) (I_iald (hE _ _ sk_12_59) h48 dX12_goOn_284) ?_
            refine Seg.step (pc' := 287) (I_iload dX12_goOn_285 rfl) ?_
            refine Seg.step (pc' := 288) (I_iadd dX12_goOn_287) ?_
            refine Seg.step (pc' := 289) (I_iconst dX12_goOn_288 ⟨by decide, by decide⟩) ?_
            refine Seg.step (pc' := 291) (I_bipush dX12_goOn_289 (by decide) ⟨by decide, by decide⟩) ?_
            refine S_callS3 (md' := m_X12_within) (fun y => some (iV y)) (fun y => (sh, ex, R, x47.2)) mm_X12_within wm_12_433 ⟨rfl, rfl, by decide, by decide, by decide, by decide⟩ (Nat.le_of_ble_eq_true rfl) dX12_goOn_291 (fun y hy => c_X12_within hE hL y hy) (fun x49 => ?_)
            refine Seg.step (pc' := 296) (I_istore dX12_goOn_294 (by decide) rfl) ?_
            refine Seg.step (pc' := 298) (I_iload dX12_goOn_296 rfl) ?_
            refine Seg.step (pc' := 299) (I_aload_n (i := 0) dX12_goOn_298 rfl rfl) ?_
            refine Seg.step (pc' := 302) (I_getR cls12 (by decide) wf_12_112 (hE _ _ sk_12) rfl (lk_12_59 hL) dX12_goOn_299) ?_
            refine Seg.step (pc' := 303) (I_iload_n (i := 1) dX12_goOn_302 rfl rfl) ?_
            refine S_gd fun h50 => ?_
            refine Seg.step (pc' := 304) (I_iald (hE _ _ sk_12_59) h50 dX12_goOn_303) ?_
            refine S_icmp_eq (tgt := 315) dX12_goOn_304 (by decide) (fun h51 => ?_) (fun h51 => ?_)
            · exact S_arr (fun K hK => GG.forget (Lle.ye (Lle.ye (Lle.no (Lle.ye (Lle.no (Lle.no (Lle.nil))))))) hK)
            refine Seg.step (pc' := 308) (I_aload_n (i := 0) dX12_goOn_307 rfl rfl) ?_
            refine Seg.step (pc' := 309) (I_iload_n (i := 1) dX12_goOn_308 rfl rfl) ?_
            refine Seg.step (pc' := 310) (I_iload_n (i := 3) dX12_goOn_309 rfl rfl) ?_
            refine Seg.step (pc' := 312) (I_iload dX12_goOn_310 rfl) ?_
            refine S_callV3 (md' := m_X12_turned) (fun y => none) (fun y => (sh, ex, R, y)) (hE _ _ sk_12) ⟨by decide, rfl⟩ mm_X12_turned wm_12_473 ⟨rfl, rfl, by decide, by decide, by decide, by decide⟩ (Nat.le_of_ble_eq_true rfl) dX12_goOn_312 (fun y hy => c_X12_turned hE hL y hy) (fun x52 => ?_)
            exact S_arr (fun K hK => GG.forget (Lle.ye (Lle.ye (Lle.no (Lle.ye (Lle.no (Lle.no (Lle.nil))))))) hK)
          refine Seg.step (pc' := 315) (I_goto (tgt := 315) dX12_goOn_268 (by decide)) ?_
          exact S_arr (fun K hK => GG.forget (Lle.ye (Lle.ye (Lle.no (Lle.ye (Lle.no (Lle.no (Lle.nil))))))) hK)
        refine Seg.step (pc' := 318) (I_iinc dX12_goOn_315 rfl (by decide) rfl) ?_
        refine Seg.step (pc' := 227) (I_goto (tgt := 227) dX12_goOn_318 (by decide)) ?_
        exact S_arr (fun K hK => GG.forget (Lle.ye (Lle.ye (Lle.no (Lle.ye (Lle.no (Lle.no (Lle.nil))))))) hK)
      exact S_arr (fun K hK => GG.forget (Lle.ye (Lle.ye (Lle.no (Lle.no (Lle.no (Lle.no (Lle.nil))))))) hK)
    exact S_arr (fun K hK => GG.forget (Lle.ye (Lle.ye (Lle.no (Lle.no (Lle.no (Lle.no (Lle.nil))))))) hK)
  refine Seg.step (pc' := 322) (I_iconst dX12_goOn_321 ⟨by decide, by decide⟩) ?_
  refine Seg.step (pc' := 323) (I_istore_n (i := 3) dX12_goOn_322 rfl (by decide) rfl) ?_
  refine Seg.forget (Lle.ye (Lle.ye (Lle.no (Lle.ye (Lle.no (Lle.no (Lle.nil))))))) ?_
  refine S_bind (Y := MM) (k' := 0) (n' := 0) 371 (fun y => [some (rV 88), some (iV p1), none, none, none, none]) (fun y => []) (fun y => (sh, ex, R, y)) (S_loop (Y := Int × MM) (fun y => [some (rV 88), some (iV p1), none, some (iV y.1), none, none]) (fun y => []) (fun y => (sh, ex, R, y.2)) (fun x55 => ?_) FU (0, x54)) (fun x63 => ?_)
  · refine Seg.step (pc' := 324) (I_iload_n (i := 3) dX12_goOn_323 rfl rfl) ?_
    refine Seg.step (pc' := 325) (I_aload_n (i := 0) dX12_goOn_324 rfl rfl) ?_
    refine Seg.step (pc' := 328) (I_getI cls12 (by decide) wf_12_258 (hE _ _ sk_12) rfl dX12_goOn_325) ?_
    refine S_icmp_ge (tgt := 371) dX12_goOn_328 (by decide) (fun h56 => ?_) (fun h56 => ?_)
    · refine Seg.step (pc' := 332) (I_iload_n (i := 3) dX12_goOn_331 rfl rfl) ?_
      refine Seg.step (pc' := 333) (I_aload_n (i := 0) dX12_goOn_332 rfl rfl) ?_
      refine Seg.step (pc' := 336) (I_getI cls12 (by decide) wf_12_409 (hE _ _ sk_12) rfl dX12_goOn_333) ?_
      refine S_bind (Y := MM) (k' := 0) (n' := 0) 365 (fun y => [some (rV 88), some (iV p1), none, some (iV x55.1), none, none]) (fun y => []) (fun y => (sh, ex, R, y)) ?_ (fun x62 => ?_)
      · refine S_icmp_ne (tgt := 342) dX12_goOn_336 (by decide) (fun h57 => ?_) (fun h57 => ?_)
        · refine Seg.step (pc' := 365) (I_goto (tgt := 365) dX12_goOn_339 (by decide)) ?_
          exact S_arr (fun K hK => GG.forget (Lle.ye (Lle.ye (Lle.no (Lle.ye (Lle.no (Lle.no (Lle.nil))))))) hK)
        refine Seg.step (pc' := 343) (I_aload_n (i := 0) dX12_goOn_342 rfl rfl) ?_
        refine Seg.step (pc' := 344) (I_iload_n (i := 1) dX12_goOn_343 rfl rfl) ?_
        refine Seg.step (pc' := 345) (I_iload_n (i := 3) dX12_goOn_344 rfl rfl) ?_
        refine S_callV2 (md' := m_X12_crossOf) (fun y => some (iV y.1)) (fun y => (sh, ex, R, y.2)) (hE _ _ sk_12) ⟨by decide, rfl⟩ mm_X12_crossOf wm_12_476 ⟨rfl, rfl, by decide, by decide, by decide, by decide⟩ (Nat.le_of_ble_eq_true rfl) dX12_goOn_345 (fun y hy => c_X12_crossOf hE hL y hy) (fun x58 => ?_)
        refine Seg.step (pc' := 350) (I_istore dX12_goOn_348 (by decide) rfl) ?_
        refine Seg.step (pc' := 351) (I_aload_n (i := 0) dX12_goOn_350 rfl rfl) ?_
        refine Seg.step (pc' := 354) (I_getR cls12 (by decide) wf_12_103 (hE _ _ sk_12) rfl (lk_12_56 hL) dX12_goOn_351) ?_
        refine Seg.step (pc' := 355) (I_iconst dX12_goOn_354 ⟨by decide, by decide⟩) ?_
        refine Seg.step (pc' := 356) (I_iload_n (i := 1) dX12_goOn_355 rfl rfl) ?_
        refine Seg.step (pc' := 357) (I_imul dX12_goOn_356) ?_
        refine Seg.step (pc' := 358) (I_iload_n (i := 3) dX12_goOn_357 rfl rfl) ?_
        refine Seg.step (pc' := 359) (I_iadd dX12_goOn_358) ?_
        refine Seg.step (pc' := 360) (I_dup2 dX12_goOn_359 (fun _ h => by cases h) (fun _ h => by cases h)) ?_
        refine S_gd fun h59 => ?_
        refine Seg.step (pc' := 361) (I_iald (hE _ _ sk_12_56) h59 dX12_goOn_360) ?_
        refine Seg.step (pc' := 363) (I_iload dX12_goOn_361 rfl) ?_
        refine Seg.step (pc' := 364) (I_iadd dX12_goOn_363) ?_
        refine S_gd fun h60 => ?_
        refine Seg.step (pc' := 365) (I_iast (hE _ _ sk_12_56) h60 dX12_goOn_364) ?_
        refine S_bM fun M61 => ?_
        exact S_arr (fun K hK => GG.forget (Lle.ye (Lle.ye (Lle.no (Lle.ye (Lle.no (Lle.no (Lle.nil))))))) hK)
      refine Seg.step (pc' := 368) (I_iinc dX12_goOn_365 rfl (by decide) rfl) ?_
      refine Seg.step (pc' := 323) (I_goto (tgt := 323) dX12_goOn_368 (by decide)) ?_
      exact S_arr (fun K hK => GG.forget (Lle.ye (Lle.ye (Lle.no (Lle.ye (Lle.no (Lle.no (Lle.nil))))))) hK)
    exact S_arr (fun K hK => GG.forget (Lle.ye (Lle.ye (Lle.no (Lle.no (Lle.no (Lle.no (Lle.nil))))))) hK)
  refine Seg.step (pc' := 372) (I_aload_n (i := 0) dX12_goOn_371 rfl rfl) ?_
  refine Seg.step (pc' := 375) (I_getR cls12 (by decide) wf_12_130 (hE _ _ sk_12) rfl (lk_12_65 hL) dX12_goOn_372) ?_
  refine Seg.step (pc' := 376) (I_iload_n (i := 1) dX12_goOn_375 rfl rfl) ?_
  refine Seg.step (pc' := 377) (I_dup2 dX12_goOn_376 (fun _ h => by cases h) (fun _ h => by cases h)) ?_
  refine S_gd fun h64 => ?_
  refine Seg.step (pc' := 378) (I_iald (hE _ _ sk_12_65) h64 dX12_goOn_377) ?_
  refine Seg.step (pc' := 379) (I_iconst dX12_goOn_378 ⟨by decide, by decide⟩) ?_
  refine Seg.step (pc' := 380) (I_iadd dX12_goOn_379) ?_
  refine S_gd fun h65 => ?_
  refine Seg.step (pc' := 381) (I_iast (hE _ _ sk_12_65) h65 dX12_goOn_380) ?_
  refine S_bM fun M66 => ?_
  exact S_vret dX12_goOn_381 rfl (by decide) (by decide) (fun K hK => hK)
theorem dX12_goMany_0 : decode cX12_goMany 0 = .ok (.iconst 0, 1) := by decide +kernel
theorem dX12_goMany_1 : decode cX12_goMany 1 = .ok (.istore_n 2, 1) := by decide +kernel
theorem dX12_goMany_2 : decode cX12_goMany 2 = .ok (.iload_n 2, 1) := by decide +kernel
theorem dX12_goMany_3 : decode cX12_goMany 3 = .ok (.iload_n 1, 1) := by decide +kernel
theorem dX12_goMany_4 : decode cX12_goMany 4 = .ok (.if_icmp .ge 14, 3) := by decide +kernel
theorem dX12_goMany_7 : decode cX12_goMany 7 = .ok (.aload_n 0, 1) := by decide +kernel
theorem dX12_goMany_8 : decode cX12_goMany 8 = .ok (.iconst 1, 1) := by decide +kernel
theorem dX12_goMany_9 : decode cX12_goMany 9 = .ok (.invokevirtual 479, 3) := by decide +kernel
theorem dX12_goMany_12 : decode cX12_goMany 12 = .ok (.iinc 2 1, 3) := by decide +kernel
theorem dX12_goMany_15 : decode cX12_goMany 15 = .ok (.goto (-13), 3) := by decide +kernel
theorem dX12_goMany_18 : decode cX12_goMany 18 = .ok (.return_, 1) := by decide +kernel
def f_X12_goMany (M : MM) (p1 : Int) : Option (MM) :=
lp (X := Int × MM) (Y := MM) (fun x1 =>
if x1.1 < p1 then
((f_X12_goOn x1.2 1).bind fun x3 =>
some (Sum.inl (w32 (x1.1 + 1), x3)))
else
some (Sum.inr x1.2)) FU (0, M)
set_option maxRecDepth 4000 in
theorem c_X12_goMany {E : EE} {sh : List (Nat × Nat)} {ex : Bool} {R : RM} {M : MM} {p1 : Int} (hE : Ext sh) (hL : Links R) : ∀ y, f_X12_goMany M p1 = some y → MetC E m_X12_goMany 0 0 [rV 88, iV p1] (sh, ex, R, M) (fun r w' => r = none ∧ w' = (sh, ex, R, y)) := by
  intro y hy
  refine MetC.seg (o := f_X12_goMany M p1) (t := (fun K y => K (none) (sh, ex, R, y))) (L := [some (rV 88), some (iV p1), none]) (by decide) rfl (Nat.le_of_ble_eq_true rfl) ?_ hy ⟨rfl, rfl⟩
  unfold f_X12_goMany
  refine Seg.step (pc' := 1) (I_iconst dX12_goMany_0 ⟨by decide, by decide⟩) ?_
  refine Seg.step (pc' := 2) (I_istore_n (i := 2) dX12_goMany_1 rfl (by decide) rfl) ?_
  refine Seg.forget (Lle.ye (Lle.ye (Lle.ye (Lle.nil)))) ?_
  refine S_loop (Y := Int × MM) (fun y => [some (rV 88), some (iV p1), some (iV y.1)]) (fun y => []) (fun y => (sh, ex, R, y.2)) (fun x1 => ?_) FU (0, M)
  refine Seg.step (pc' := 3) (I_iload_n (i := 2) dX12_goMany_2 rfl rfl) ?_
  refine Seg.step (pc' := 4) (I_iload_n (i := 1) dX12_goMany_3 rfl rfl) ?_
  refine S_icmp_ge (tgt := 18) dX12_goMany_4 (by decide) (fun h2 => ?_) (fun h2 => ?_)
  · refine Seg.step (pc' := 8) (I_aload_n (i := 0) dX12_goMany_7 rfl rfl) ?_
    refine Seg.step (pc' := 9) (I_iconst dX12_goMany_8 ⟨by decide, by decide⟩) ?_
    refine S_callV1 (md' := m_X12_goOn) (fun y => none) (fun y => (sh, ex, R, y)) (hE _ _ sk_12) ⟨by decide, rfl⟩ mm_X12_goOn wm_12_479 ⟨rfl, rfl, by decide, by decide, by decide, by decide⟩ (Nat.le_of_ble_eq_true rfl) dX12_goMany_9 (fun y hy => c_X12_goOn hE hL y hy) (fun x3 => ?_)
    refine Seg.step (pc' := 15) (I_iinc dX12_goMany_12 rfl (by decide) rfl) ?_
    refine Seg.step (pc' := 2) (I_goto (tgt := 2) dX12_goMany_15 (by decide)) ?_
    exact S_arr (fun K hK => GG.forget (Lle.ye (Lle.ye (Lle.ye (Lle.nil)))) hK)
  exact S_vret dX12_goMany_18 rfl (by decide) (by decide) (fun K hK => hK)
theorem dX12_crossMore_0 : decode cX12_crossMore 0 = .ok (.iconst 0, 1) := by decide +kernel
theorem dX12_crossMore_1 : decode cX12_crossMore 1 = .ok (.istore_n 1, 1) := by decide +kernel
theorem dX12_crossMore_2 : decode cX12_crossMore 2 = .ok (.iconst 0, 1) := by decide +kernel
theorem dX12_crossMore_3 : decode cX12_crossMore 3 = .ok (.istore_n 2, 1) := by decide +kernel
theorem dX12_crossMore_4 : decode cX12_crossMore 4 = .ok (.iload_n 2, 1) := by decide +kernel
theorem dX12_crossMore_5 : decode cX12_crossMore 5 = .ok (.aload_n 0, 1) := by decide +kernel
theorem dX12_crossMore_6 : decode cX12_crossMore 6 = .ok (.getfield 258, 3) := by decide +kernel
theorem dX12_crossMore_9 : decode cX12_crossMore 9 = .ok (.if_icmp .ge 27, 3) := by decide +kernel
theorem dX12_crossMore_12 : decode cX12_crossMore 12 = .ok (.iload_n 1, 1) := by decide +kernel
theorem dX12_crossMore_13 : decode cX12_crossMore 13 = .ok (.aload_n 0, 1) := by decide +kernel
theorem dX12_crossMore_14 : decode cX12_crossMore 14 = .ok (.getfield 103, 3) := by decide +kernel
theorem dX12_crossMore_17 : decode cX12_crossMore 17 = .ok (.iconst 5, 1) := by decide +kernel
theorem dX12_crossMore_18 : decode cX12_crossMore 18 = .ok (.iload_n 2, 1) := by decide +kernel
theorem dX12_crossMore_19 : decode cX12_crossMore 19 = .ok (.iadd, 1) := by decide +kernel
theorem dX12_crossMore_20 : decode cX12_crossMore 20 = .ok (.iaload, 1) := by decide +kernel
theorem dX12_crossMore_21 : decode cX12_crossMore 21 = .ok (.aload_n 0, 1) := by decide +kernel
theorem dX12_crossMore_22 : decode cX12_crossMore 22 = .ok (.getfield 103, 3) := by decide +kernel
theorem dX12_crossMore_25 : decode cX12_crossMore 25 = .ok (.iload_n 2, 1) := by decide +kernel
theorem dX12_crossMore_26 : decode cX12_crossMore 26 = .ok (.iaload, 1) := by decide +kernel
theorem dX12_crossMore_27 : decode cX12_crossMore 27 = .ok (.isub, 1) := by decide +kernel
theorem dX12_crossMore_28 : decode cX12_crossMore 28 = .ok (.iadd, 1) := by decide +kernel
theorem dX12_crossMore_29 : decode cX12_crossMore 29 = .ok (.istore_n 1, 1) := by decide +kernel
theorem dX12_crossMore_30 : decode cX12_crossMore 30 = .ok (.iinc 2 1, 3) := by decide +kernel
theorem dX12_crossMore_33 : decode cX12_crossMore 33 = .ok (.goto (-29), 3) := by decide +kernel
theorem dX12_crossMore_36 : decode cX12_crossMore 36 = .ok (.iload_n 1, 1) := by decide +kernel
theorem dX12_crossMore_37 : decode cX12_crossMore 37 = .ok (.ireturn, 1) := by decide +kernel
def f_X12_crossMore (M : MM)  : Option (Int) :=
lp (X := Int × Int) (Y := Int) (fun x1 =>
if x1.2 < (M 88 13) then
(gd (0 ≤ w32 (5 + x1.2) ∧ w32 (5 + x1.2) < (10 : Int)) <|
gd (0 ≤ x1.2 ∧ x1.2 < (10 : Int)) <|
bI (w32 (x1.1 + (w32 ((M 118 (w32 (5 + x1.2)).toNat) - (M 118 (x1.2).toNat))))) fun x5 =>
some (Sum.inl (x5, w32 (x1.2 + 1))))
else
some (Sum.inr x1.1)) FU (0, 0)
set_option maxRecDepth 4000 in
theorem c_X12_crossMore {E : EE} {sh : List (Nat × Nat)} {ex : Bool} {R : RM} {M : MM}  (hE : Ext sh) (hL : Links R) : ∀ y, f_X12_crossMore M = some y → MetC E m_X12_crossMore 0 0 [rV 88] (sh, ex, R, M) (fun r w' => r = some (iV y) ∧ w' = (sh, ex, R, M)) := by
  intro y hy
  refine MetC.seg (o := f_X12_crossMore M) (t := (fun K y => K (some (iV y)) (sh, ex, R, M))) (L := [some (rV 88), none, none]) (by decide) rfl (Nat.le_of_ble_eq_true rfl) ?_ hy ⟨rfl, rfl⟩
  unfold f_X12_crossMore
  refine Seg.step (pc' := 1) (I_iconst dX12_crossMore_0 ⟨by decide, by decide⟩) ?_
  refine Seg.step (pc' := 2) (I_istore_n (i := 1) dX12_crossMore_1 rfl (by decide) rfl) ?_
  refine Seg.step (pc' := 3) (I_iconst dX12_crossMore_2 ⟨by decide, by decide⟩) ?_
  refine Seg.step (pc' := 4) (I_istore_n (i := 2) dX12_crossMore_3 rfl (by decide) rfl) ?_
  refine Seg.forget (Lle.ye (Lle.ye (Lle.ye (Lle.nil)))) ?_
  refine S_loop (Y := Int × Int) (fun y => [some (rV 88), some (iV y.1), some (iV y.2)]) (fun y => []) (fun y => (sh, ex, R, M)) (fun x1 => ?_) FU (0, 0)
  refine Seg.step (pc' := 5) (I_iload_n (i := 2) dX12_crossMore_4 rfl rfl) ?_
  refine Seg.step (pc' := 6) (I_aload_n (i := 0) dX12_crossMore_5 rfl rfl) ?_
  refine Seg.step (pc' := 9) (I_getI cls12 (by decide) wf_12_258 (hE _ _ sk_12) rfl dX12_crossMore_6) ?_
  refine S_icmp_ge (tgt := 36) dX12_crossMore_9 (by decide) (fun h2 => ?_) (fun h2 => ?_)
  · refine Seg.step (pc' := 13) (I_iload_n (i := 1) dX12_crossMore_12 rfl rfl) ?_
    refine Seg.step (pc' := 14) (I_aload_n (i := 0) dX12_crossMore_13 rfl rfl) ?_
    refine Seg.step (pc' := 17) (I_getR cls12 (by decide) wf_12_103 (hE _ _ sk_12) rfl (lk_12_56 hL) dX12_crossMore_14) ?_
    refine Seg.step (pc' := 18) (I_iconst dX12_crossMore_17 ⟨by decide, by decide⟩) ?_
    refine Seg.step (pc' := 19) (I_iload_n (i := 2) dX12_crossMore_18 rfl rfl) ?_
    refine Seg.step (pc' := 20) (I_iadd dX12_crossMore_19) ?_
    refine S_gd fun h3 => ?_
    refine Seg.step (pc' := 21) (I_iald (hE _ _ sk_12_56) h3 dX12_crossMore_20) ?_
    refine Seg.step (pc' := 22) (I_aload_n (i := 0) dX12_crossMore_21 rfl rfl) ?_
    refine Seg.step (pc' := 25) (I_getR cls12 (by decide) wf_12_103 (hE _ _ sk_12) rfl (lk_12_56 hL) dX12_crossMore_22) ?_
    refine Seg.step (pc' := 26) (I_iload_n (i := 2) dX12_crossMore_25 rfl rfl) ?_
    refine S_gd fun h4 => ?_
    refine Seg.step (pc' := 27) (I_iald (hE _ _ sk_12_56) h4 dX12_crossMore_26) ?_
    refine Seg.step (pc' := 28) (I_isub dX12_crossMore_27) ?_
    refine Seg.step (pc' := 29) (I_iadd dX12_crossMore_28) ?_
    refine S_bI fun x5 => ?_
    refine Seg.step (pc' := 30) (I_istore_n (i := 1) dX12_crossMore_29 rfl (by decide) rfl) ?_
    refine Seg.step (pc' := 33) (I_iinc dX12_crossMore_30 rfl (by decide) rfl) ?_
    refine Seg.step (pc' := 4) (I_goto (tgt := 4) dX12_crossMore_33 (by decide)) ?_
    exact S_arr (fun K hK => GG.forget (Lle.ye (Lle.ye (Lle.ye (Lle.nil)))) hK)
  refine Seg.step (pc' := 37) (I_iload_n (i := 1) dX12_crossMore_36 rfl rfl) ?_
  exact S_iret dX12_crossMore_37 rfl (by decide) (by decide) (fun K hK => hK)
theorem dX12_fails_0 : decode cX12_fails 0 = .ok (.aload_n 0, 1) := by decide +kernel
theorem dX12_fails_1 : decode cX12_fails 1 = .ok (.iload_n 1, 1) := by decide +kernel
theorem dX12_fails_2 : decode cX12_fails 2 = .ok (.putfield 175, 3) := by decide +kernel
theorem dX12_fails_5 : decode cX12_fails 5 = .ok (.iconst 0, 1) := by decide +kernel
theorem dX12_fails_6 : decode cX12_fails 6 = .ok (.ireturn, 1) := by decide +kernel
def f_X12_fails (M : MM) (p1 : Int) : Option (Int × MM) :=
bM (upM M 88 2 p1) fun M1 =>
some (0, M1)
set_option maxRecDepth 4000 in
theorem c_X12_fails {E : EE} {sh : List (Nat × Nat)} {ex : Bool} {R : RM} {M : MM} {p1 : Int} (hE : Ext sh) (hL : Links R) : ∀ y, f_X12_fails M p1 = some y → MetC E m_X12_fails 0 0 [rV 88, iV p1] (sh, ex, R, M) (fun r w' => r = some (iV y.1) ∧ w' = (sh, ex, R, y.2)) := by
  intro y hy
  refine MetC.seg (o := f_X12_fails M p1) (t := (fun K y => K (some (iV y.1)) (sh, ex, R, y.2))) (L := [some (rV 88), some (iV p1)]) (by decide) rfl (Nat.le_of_ble_eq_true rfl) ?_ hy ⟨rfl, rfl⟩
  unfold f_X12_fails
  refine Seg.step (pc' := 1) (I_aload_n (i := 0) dX12_fails_0 rfl rfl) ?_
  refine Seg.step (pc' := 2) (I_iload_n (i := 1) dX12_fails_1 rfl rfl) ?_
  refine Seg.step (pc' := 5) (I_putI cls12 (by decide) wf_12_175 (hE _ _ sk_12) rfl rfl dX12_fails_2) ?_
  refine S_bM fun M1 => ?_
  refine Seg.step (pc' := 6) (I_iconst dX12_fails_5 ⟨by decide, by decide⟩) ?_
  exact S_iret dX12_fails_6 rfl (by decide) (by decide) (fun K hK => hK)
theorem dX12_person_0 : decode cX12_person 0 = .ok (.aload_n 0, 1) := by decide +kernel
theorem dX12_person_1 : decode cX12_person 1 = .ok (.iconst 0, 1) := by decide +kernel
theorem dX12_person_2 : decode cX12_person 2 = .ok (.putfield 175, 3) := by decide +kernel
theorem dX12_person_5 : decode cX12_person 5 = .ok (.aload_n 0, 1) := by decide +kernel
theorem dX12_person_6 : decode cX12_person 6 = .ok (.iload_n 1, 1) := by decide +kernel
theorem dX12_person_7 : decode cX12_person 7 = .ok (.invokevirtual 482, 3) := by decide +kernel
theorem dX12_person_10 : decode cX12_person 10 = .ok (.ifCond .ne 9, 3) := by decide +kernel
theorem dX12_person_13 : decode cX12_person 13 = .ok (.aload_n 0, 1) := by decide +kernel
theorem dX12_person_14 : decode cX12_person 14 = .ok (.iconst 1, 1) := by decide +kernel
theorem dX12_person_15 : decode cX12_person 15 = .ok (.invokevirtual 485, 3) := by decide +kernel
theorem dX12_person_18 : decode cX12_person 18 = .ok (.ireturn, 1) := by decide +kernel
theorem dX12_person_19 : decode cX12_person 19 = .ok (.aload_n 0, 1) := by decide +kernel
theorem dX12_person_20 : decode cX12_person 20 = .ok (.invokevirtual 385, 3) := by decide +kernel
theorem dX12_person_23 : decode cX12_person 23 = .ok (.iload_n 2, 1) := by decide +kernel
theorem dX12_person_24 : decode cX12_person 24 = .ok (.tableswitch 101 0 6 #[44, 51, 58, 65, 72, 79, 86], 44) := by decide +kernel
theorem dX12_person_68 : decode cX12_person 68 = .ok (.aload_n 0, 1) := by decide +kernel
theorem dX12_person_69 : decode cX12_person 69 = .ok (.getfield 42, 3) := by decide +kernel
theorem dX12_person_72 : decode cX12_person 72 = .ok (.iload_n 1, 1) := by decide +kernel
theorem dX12_person_73 : decode cX12_person 73 = .ok (.iaload, 1) := by decide +kernel
theorem dX12_person_74 : decode cX12_person 74 = .ok (.ireturn, 1) := by decide +kernel
theorem dX12_person_75 : decode cX12_person 75 = .ok (.aload_n 0, 1) := by decide +kernel
theorem dX12_person_76 : decode cX12_person 76 = .ok (.getfield 45, 3) := by decide +kernel
theorem dX12_person_79 : decode cX12_person 79 = .ok (.iload_n 1, 1) := by decide +kernel
theorem dX12_person_80 : decode cX12_person 80 = .ok (.iaload, 1) := by decide +kernel
theorem dX12_person_81 : decode cX12_person 81 = .ok (.ireturn, 1) := by decide +kernel
theorem dX12_person_82 : decode cX12_person 82 = .ok (.aload_n 0, 1) := by decide +kernel
theorem dX12_person_83 : decode cX12_person 83 = .ok (.getfield 48, 3) := by decide +kernel
theorem dX12_person_86 : decode cX12_person 86 = .ok (.iload_n 1, 1) := by decide +kernel
theorem dX12_person_87 : decode cX12_person 87 = .ok (.iaload, 1) := by decide +kernel
theorem dX12_person_88 : decode cX12_person 88 = .ok (.ireturn, 1) := by decide +kernel
theorem dX12_person_89 : decode cX12_person 89 = .ok (.aload_n 0, 1) := by decide +kernel
theorem dX12_person_90 : decode cX12_person 90 = .ok (.getfield 51, 3) := by decide +kernel
theorem dX12_person_93 : decode cX12_person 93 = .ok (.iload_n 1, 1) := by decide +kernel
theorem dX12_person_94 : decode cX12_person 94 = .ok (.iaload, 1) := by decide +kernel
theorem dX12_person_95 : decode cX12_person 95 = .ok (.ireturn, 1) := by decide +kernel
theorem dX12_person_96 : decode cX12_person 96 = .ok (.aload_n 0, 1) := by decide +kernel
theorem dX12_person_97 : decode cX12_person 97 = .ok (.iconst 0, 1) := by decide +kernel
theorem dX12_person_98 : decode cX12_person 98 = .ok (.iload_n 1, 1) := by decide +kernel
theorem dX12_person_99 : decode cX12_person 99 = .ok (.invokevirtual 458, 3) := by decide +kernel
theorem dX12_person_102 : decode cX12_person 102 = .ok (.ireturn, 1) := by decide +kernel
theorem dX12_person_103 : decode cX12_person 103 = .ok (.aload_n 0, 1) := by decide +kernel
theorem dX12_person_104 : decode cX12_person 104 = .ok (.getfield 103, 3) := by decide +kernel
theorem dX12_person_107 : decode cX12_person 107 = .ok (.iload_n 1, 1) := by decide +kernel
theorem dX12_person_108 : decode cX12_person 108 = .ok (.iaload, 1) := by decide +kernel
theorem dX12_person_109 : decode cX12_person 109 = .ok (.ireturn, 1) := by decide +kernel
theorem dX12_person_110 : decode cX12_person 110 = .ok (.aload_n 0, 1) := by decide +kernel
theorem dX12_person_111 : decode cX12_person 111 = .ok (.getfield 109, 3) := by decide +kernel
theorem dX12_person_114 : decode cX12_person 114 = .ok (.iload_n 1, 1) := by decide +kernel
theorem dX12_person_115 : decode cX12_person 115 = .ok (.baload, 1) := by decide +kernel
theorem dX12_person_116 : decode cX12_person 116 = .ok (.ifCond .eq 7, 3) := by decide +kernel
theorem dX12_person_119 : decode cX12_person 119 = .ok (.iconst 1, 1) := by decide +kernel
theorem dX12_person_120 : decode cX12_person 120 = .ok (.goto 4, 3) := by decide +kernel
theorem dX12_person_123 : decode cX12_person 123 = .ok (.iconst 0, 1) := by decide +kernel
theorem dX12_person_124 : decode cX12_person 124 = .ok (.ireturn, 1) := by decide +kernel
theorem dX12_person_125 : decode cX12_person 125 = .ok (.aload_n 0, 1) := by decide +kernel
theorem dX12_person_126 : decode cX12_person 126 = .ok (.iconst 2, 1) := by decide +kernel
theorem dX12_person_127 : decode cX12_person 127 = .ok (.invokevirtual 485, 3) := by decide +kernel
theorem dX12_person_130 : decode cX12_person 130 = .ok (.ireturn, 1) := by decide +kernel
def f_X12_person (M : MM) (p1 : Int) (p2 : Int) : Option (Int × MM) :=
bM (upM M 88 2 0) fun M1 =>
(f_X12_isPerson M1 p1).bind fun x2 =>
if x2 = 0 then
((f_X12_fails M1 1).bind fun x4 =>
some (x4.1, x4.2))
else
(f_X12_plainTried M1).bind fun x5 =>
if p2 = 0 then
(gd (0 ≤ p1 ∧ p1 < (10 : Int)) <|
some (x5 98 (p1).toNat, x5))
else
if p2 = 1 then
(gd (0 ≤ p1 ∧ p1 < (10 : Int)) <|
some (x5 99 (p1).toNat, x5))
else
if p2 = 2 then
(gd (0 ≤ p1 ∧ p1 < (10 : Int)) <|
some (x5 100 (p1).toNat, x5))
else
if p2 = 3 then
(gd (0 ≤ p1 ∧ p1 < (10 : Int)) <|
some (x5 101 (p1).toNat, x5))
else
if p2 = 4 then
((f_X12_feltBy x5 0 p1).bind fun x15 =>
some (x15, x5))
else
if p2 = 5 then
(gd (0 ≤ p1 ∧ p1 < (10 : Int)) <|
some (x5 118 (p1).toNat, x5))
else
if p2 = 6 then
(gd (0 ≤ p1 ∧ p1 < (10 : Int)) <|
if (x5 120 (p1).toNat) = 0 then
(some (0, x5))
else
some (1, x5))
else
(f_X12_fails x5 2).bind fun x21 =>
some (x21.1, x21.2)
set_option maxRecDepth 4000 in
theorem c_X12_person {E : EE} {sh : List (Nat × Nat)} {ex : Bool} {R : RM} {M : MM} {p1 : Int} {p2 : Int} (hE : Ext sh) (hL : Links R) : ∀ y, f_X12_person M p1 p2 = some y → MetC E m_X12_person 0 0 [rV 88, iV p1, iV p2] (sh, ex, R, M) (fun r w' => r = some (iV y.1) ∧ w' = (sh, ex, R, y.2)) := by
  intro y hy
  refine MetC.seg (o := f_X12_person M p1 p2) (t := (fun K y => K (some (iV y.1)) (sh, ex, R, y.2))) (L := [some (rV 88), some (iV p1), some (iV p2)]) (by decide) rfl (Nat.le_of_ble_eq_true rfl) ?_ hy ⟨rfl, rfl⟩
  unfold f_X12_person
  refine Seg.step (pc' := 1) (I_aload_n (i := 0) dX12_person_0 rfl rfl) ?_
  refine Seg.step (pc' := 2) (I_iconst dX12_person_1 ⟨by decide, by decide⟩) ?_
  refine Seg.step (pc' := 5) (I_putI cls12 (by decide) wf_12_175 (hE _ _ sk_12) rfl rfl dX12_person_2) ?_
  refine S_bM fun M1 => ?_
  refine Seg.step (pc' := 6) (I_aload_n (i := 0) dX12_person_5 rfl rfl) ?_
  refine Seg.step (pc' := 7) (I_iload_n (i := 1) dX12_person_6 rfl rfl) ?_
  refine S_callV1 (md' := m_X12_isPerson) (fun y => some (iV y)) (fun y => (sh, ex, R, M1)) (hE _ _ sk_12) ⟨by decide, rfl⟩ mm_X12_isPerson wm_12_482 ⟨rfl, rfl, by decide, by decide, by decide, by decide⟩ (Nat.le_of_ble_eq_true rfl) dX12_person_7 (fun y hy => c_X12_isPerson hE hL y hy) (fun x2 => ?_)
  refine S_if_ne (tgt := 19) dX12_person_10 (by decide) (fun h3 => ?_) (fun h3 => ?_)
  · refine Seg.step (pc' := 14) (I_aload_n (i := 0) dX12_person_13 rfl rfl) ?_
    refine Seg.step (pc' := 15) (I_iconst dX12_person_14 ⟨by decide, by decide⟩) ?_
    refine S_callV1 (md' := m_X12_fails) (fun y => some (iV y.1)) (fun y => (sh, ex, R, y.2)) (hE _ _ sk_12) ⟨by decide, rfl⟩ mm_X12_fails wm_12_485 ⟨rfl, rfl, by decide, by decide, by decide, by decide⟩ (Nat.le_of_ble_eq_true rfl) dX12_person_15 (fun y hy => c_X12_fails hE hL y hy) (fun x4 => ?_)
    exact S_iret dX12_person_18 rfl (by decide) (by decide) (fun K hK => hK)
  refine Seg.step (pc' := 20) (I_aload_n (i := 0) dX12_person_19 rfl rfl) ?_
  refine S_callV0 (md' := m_X12_plainTried) (fun y => none) (fun y => (sh, ex, R, y)) (hE _ _ sk_12) ⟨by decide, rfl⟩ mm_X12_plainTried wm_12_385 ⟨rfl, rfl, by decide, by decide, by decide, by decide⟩ (Nat.le_of_ble_eq_true rfl) dX12_person_20 (fun y hy => c_X12_plainTried hE hL y hy) (fun x5 => ?_)
  refine Seg.step (pc' := 24) (I_iload_n (i := 2) dX12_person_23 rfl rfl) ?_
  refine S_ite (fun h6 => ?_) (fun h6 => ?_)
  · refine Seg.step (I_tsw (v := 0) (off := 44) (tgt := 68) dX12_person_24 h6 (by decide) rfl (by decide)) ?_
    refine Seg.step (pc' := 69) (I_aload_n (i := 0) dX12_person_68 rfl rfl) ?_
    refine Seg.step (pc' := 72) (I_getR cls12 (by decide) wf_12_42 (hE _ _ sk_12) rfl (lk_12_29 hL) dX12_person_69) ?_
    refine Seg.step (pc' := 73) (I_iload_n (i := 1) dX12_person_72 rfl rfl) ?_
    refine S_gd fun h7 => ?_
    refine Seg.step (pc' := 74) (I_iald (hE _ _ sk_12_29) h7 dX12_person_73) ?_
    exact S_iret dX12_person_74 rfl (by decide) (by decide) (fun K hK => hK)
  refine S_ite (fun h8 => ?_) (fun h8 => ?_)
  · refine Seg.step (I_tsw (v := 1) (off := 51) (tgt := 75) dX12_person_24 h8 (by decide) rfl (by decide)) ?_
    refine Seg.step (pc' := 76) (I_aload_n (i := 0) dX12_person_75 rfl rfl) ?_
    refine Seg.step (pc' := 79) (I_getR cls12 (by decide) wf_12_45 (hE _ _ sk_12) rfl (lk_12_30 hL) dX12_person_76) ?_
    refine Seg.step (pc' := 80) (I_iload_n (i := 1) dX12_person_79 rfl rfl) ?_
    refine S_gd fun h9 => ?_
    refine Seg.step (pc' := 81) (I_iald (hE _ _ sk_12_30) h9 dX12_person_80) ?_
    exact S_iret dX12_person_81 rfl (by decide) (by decide) (fun K hK => hK)
  refine S_ite (fun h10 => ?_) (fun h10 => ?_)
  · refine Seg.step (I_tsw (v := 2) (off := 58) (tgt := 82) dX12_person_24 h10 (by decide) rfl (by decide)) ?_
    refine Seg.step (pc' := 83) (I_aload_n (i := 0) dX12_person_82 rfl rfl) ?_
    refine Seg.step (pc' := 86) (I_getR cls12 (by decide) wf_12_48 (hE _ _ sk_12) rfl (lk_12_31 hL) dX12_person_83) ?_
    refine Seg.step (pc' := 87) (I_iload_n (i := 1) dX12_person_86 rfl rfl) ?_
    refine S_gd fun h11 => ?_
    refine Seg.step (pc' := 88) (I_iald (hE _ _ sk_12_31) h11 dX12_person_87) ?_
    exact S_iret dX12_person_88 rfl (by decide) (by decide) (fun K hK => hK)
  refine S_ite (fun h12 => ?_) (fun h12 => ?_)
  · refine Seg.step (I_tsw (v := 3) (off := 65) (tgt := 89) dX12_person_24 h12 (by decide) rfl (by decide)) ?_
    refine Seg.step (pc' := 90) (I_aload_n (i := 0) dX12_person_89 rfl rfl) ?_
    refine Seg.step (pc' := 93) (I_getR cls12 (by decide) wf_12_51 (hE _ _ sk_12) rfl (lk_12_32 hL) dX12_person_90) ?_
    refine Seg.step (pc' := 94) (I_iload_n (i := 1) dX12_person_93 rfl rfl) ?_
    refine S_gd fun h13 => ?_
    refine Seg.step (pc' := 95) (I_iald (hE _ _ sk_12_32) h13 dX12_person_94) ?_
    exact S_iret dX12_person_95 rfl (by decide) (by decide) (fun K hK => hK)
  refine S_ite (fun h14 => ?_) (fun h14 => ?_)
  · refine Seg.step (I_tsw (v := 4) (off := 72) (tgt := 96) dX12_person_24 h14 (by decide) rfl (by decide)) ?_
    refine Seg.step (pc' := 97) (I_aload_n (i := 0) dX12_person_96 rfl rfl) ?_
    refine Seg.step (pc' := 98) (I_iconst dX12_person_97 ⟨by decide, by decide⟩) ?_
    refine Seg.step (pc' := 99) (I_iload_n (i := 1) dX12_person_98 rfl rfl) ?_
    refine S_callV2 (md' := m_X12_feltBy) (fun y => some (iV y)) (fun y => (sh, ex, R, x5)) (hE _ _ sk_12) ⟨by decide, rfl⟩ mm_X12_feltBy wm_12_458 ⟨rfl, rfl, by decide, by decide, by decide, by decide⟩ (Nat.le_of_ble_eq_true rfl) dX12_person_99 (fun y hy => c_X12_feltBy hE hL y hy) (fun x15 => ?_)
    exact S_iret dX12_person_102 rfl (by decide) (by decide) (fun K hK => hK)
  refine S_ite (fun h16 => ?_) (fun h16 => ?_)
  · refine Seg.step (I_tsw (v := 5) (off := 79) (tgt := 103) dX12_person_24 h16 (by decide) rfl (by decide)) ?_
    refine Seg.step (pc' := 104) (I_aload_n (i := 0) dX12_person_103 rfl rfl) ?_
    refine Seg.step (pc' := 107) (I_getR cls12 (by decide) wf_12_103 (hE _ _ sk_12) rfl (lk_12_56 hL) dX12_person_104) ?_
    refine Seg.step (pc' := 108) (I_iload_n (i := 1) dX12_person_107 rfl rfl) ?_
    refine S_gd fun h17 => ?_
    refine Seg.step (pc' := 109) (I_iald (hE _ _ sk_12_56) h17 dX12_person_108) ?_
    exact S_iret dX12_person_109 rfl (by decide) (by decide) (fun K hK => hK)
  refine S_ite (fun h18 => ?_) (fun h18 => ?_)
  · refine Seg.step (I_tsw (v := 6) (off := 86) (tgt := 110) dX12_person_24 h18 (by decide) rfl (by decide)) ?_
    refine Seg.step (pc' := 111) (I_aload_n (i := 0) dX12_person_110 rfl rfl) ?_
    refine Seg.step (pc' := 114) (I_getR cls12 (by decide) wf_12_109 (hE _ _ sk_12) rfl (lk_12_58 hL) dX12_person_111) ?_
    refine Seg.step (pc' := 115) (I_iload_n (i := 1) dX12_person_114 rfl rfl) ?_
    refine S_gd fun h19 => ?_
    refine Seg.step (pc' := 116) (I_zald (hE _ _ sk_12_58) h19 dX12_person_115) ?_
    refine S_if_eq (tgt := 123) dX12_person_116 (by decide) (fun h20 => ?_) (fun h20 => ?_)
    · refine Seg.step (pc' := 124) (I_iconst dX12_person_123 ⟨by decide, by decide⟩) ?_
      exact S_iret dX12_person_124 rfl (by decide) (by decide) (fun K hK => hK)
    refine Seg.step (pc' := 120) (I_iconst dX12_person_119 ⟨by decide, by decide⟩) ?_
    refine Seg.step (pc' := 124) (I_goto (tgt := 124) dX12_person_120 (by decide)) ?_
    exact S_iret dX12_person_124 rfl (by decide) (by decide) (fun K hK => hK)
  refine Seg.step (I_tswd (tgt := 125) dX12_person_24 (by omega) (by decide)) ?_
  refine Seg.step (pc' := 126) (I_aload_n (i := 0) dX12_person_125 rfl rfl) ?_
  refine Seg.step (pc' := 127) (I_iconst dX12_person_126 ⟨by decide, by decide⟩) ?_
  refine S_callV1 (md' := m_X12_fails) (fun y => some (iV y.1)) (fun y => (sh, ex, R, y.2)) (hE _ _ sk_12) ⟨by decide, rfl⟩ mm_X12_fails wm_12_485 ⟨rfl, rfl, by decide, by decide, by decide, by decide⟩ (Nat.le_of_ble_eq_true rfl) dX12_person_127 (fun y hy => c_X12_fails hE hL y hy) (fun x21 => ?_)
  exact S_iret dX12_person_130 rfl (by decide) (by decide) (fun K hK => hK)
theorem dX12_room_0 : decode cX12_room 0 = .ok (.aload_n 0, 1) := by decide +kernel
theorem dX12_room_1 : decode cX12_room 1 = .ok (.iconst 0, 1) := by decide +kernel
theorem dX12_room_2 : decode cX12_room 2 = .ok (.putfield 175, 3) := by decide +kernel
theorem dX12_room_5 : decode cX12_room 5 = .ok (.aload_n 0, 1) := by decide +kernel
theorem dX12_room_6 : decode cX12_room 6 = .ok (.iload_n 1, 1) := by decide +kernel
theorem dX12_room_7 : decode cX12_room 7 = .ok (.invokevirtual 488, 3) := by decide +kernel
theorem dX12_room_10 : decode cX12_room 10 = .ok (.ifCond .ne 5, 3) := by decide +kernel
theorem dX12_room_13 : decode cX12_room 13 = .ok (.iconst (-1), 1) := by decide +kernel
theorem dX12_room_14 : decode cX12_room 14 = .ok (.ireturn, 1) := by decide +kernel
theorem dX12_room_15 : decode cX12_room 15 = .ok (.aload_n 0, 1) := by decide +kernel
theorem dX12_room_16 : decode cX12_room 16 = .ok (.invokevirtual 385, 3) := by decide +kernel
theorem dX12_room_19 : decode cX12_room 19 = .ok (.iload_n 2, 1) := by decide +kernel
theorem dX12_room_20 : decode cX12_room 20 = .ok (.ifCond .ne 12, 3) := by decide +kernel
theorem dX12_room_23 : decode cX12_room 23 = .ok (.aload_n 0, 1) := by decide +kernel
theorem dX12_room_24 : decode cX12_room 24 = .ok (.getfield 97, 3) := by decide +kernel
theorem dX12_room_27 : decode cX12_room 27 = .ok (.iload_n 1, 1) := by decide +kernel
theorem dX12_room_28 : decode cX12_room 28 = .ok (.iaload, 1) := by decide +kernel
theorem dX12_room_29 : decode cX12_room 29 = .ok (.goto 46, 3) := by decide +kernel
theorem dX12_room_32 : decode cX12_room 32 = .ok (.iload_n 2, 1) := by decide +kernel
theorem dX12_room_33 : decode cX12_room 33 = .ok (.iconst 1, 1) := by decide +kernel
theorem dX12_room_34 : decode cX12_room 34 = .ok (.if_icmp .ne 12, 3) := by decide +kernel
theorem dX12_room_37 : decode cX12_room 37 = .ok (.aload_n 0, 1) := by decide +kernel
theorem dX12_room_38 : decode cX12_room 38 = .ok (.getfield 33, 3) := by decide +kernel
theorem dX12_room_41 : decode cX12_room 41 = .ok (.iload_n 1, 1) := by decide +kernel
theorem dX12_room_42 : decode cX12_room 42 = .ok (.iaload, 1) := by decide +kernel
theorem dX12_room_43 : decode cX12_room 43 = .ok (.goto 32, 3) := by decide +kernel
theorem dX12_room_46 : decode cX12_room 46 = .ok (.iload_n 2, 1) := by decide +kernel
theorem dX12_room_47 : decode cX12_room 47 = .ok (.iconst 2, 1) := by decide +kernel
theorem dX12_room_48 : decode cX12_room 48 = .ok (.if_icmp .ne 12, 3) := by decide +kernel
theorem dX12_room_51 : decode cX12_room 51 = .ok (.aload_n 0, 1) := by decide +kernel
theorem dX12_room_52 : decode cX12_room 52 = .ok (.getfield 36, 3) := by decide +kernel
theorem dX12_room_55 : decode cX12_room 55 = .ok (.iload_n 1, 1) := by decide +kernel
theorem dX12_room_56 : decode cX12_room 56 = .ok (.iaload, 1) := by decide +kernel
theorem dX12_room_57 : decode cX12_room 57 = .ok (.goto 18, 3) := by decide +kernel
theorem dX12_room_60 : decode cX12_room 60 = .ok (.iload_n 2, 1) := by decide +kernel
theorem dX12_room_61 : decode cX12_room 61 = .ok (.iconst 3, 1) := by decide +kernel
theorem dX12_room_62 : decode cX12_room 62 = .ok (.if_icmp .ne 12, 3) := by decide +kernel
theorem dX12_room_65 : decode cX12_room 65 = .ok (.aload_n 0, 1) := by decide +kernel
theorem dX12_room_66 : decode cX12_room 66 = .ok (.iconst 0, 1) := by decide +kernel
theorem dX12_room_67 : decode cX12_room 67 = .ok (.iload_n 1, 1) := by decide +kernel
theorem dX12_room_68 : decode cX12_room 68 = .ok (.invokevirtual 467, 3) := by decide +kernel
theorem dX12_room_71 : decode cX12_room 71 = .ok (.goto 4, 3) := by decide +kernel
theorem dX12_room_74 : decode cX12_room 74 = .ok (.iconst (-1), 1) := by decide +kernel
theorem dX12_room_75 : decode cX12_room 75 = .ok (.ireturn, 1) := by decide +kernel
def f_X12_room (M : MM) (p1 : Int) (p2 : Int) : Option (Int × MM) :=
bM (upM M 88 2 0) fun M1 =>
(f_X12_isRoom M1 p1).bind fun x2 =>
if x2 = 0 then
(some ((-1), M1))
else
(f_X12_plainTried M1).bind fun x4 =>
if p2 = 0 then
(gd (0 ≤ p1 ∧ p1 < (10 : Int)) <|
some (x4 116 (p1).toNat, x4))
else
if p2 = 1 then
(gd (0 ≤ p1 ∧ p1 < (10 : Int)) <|
some (x4 95 (p1).toNat, x4))
else
if p2 = 2 then
(gd (0 ≤ p1 ∧ p1 < (10 : Int)) <|
some (x4 96 (p1).toNat, x4))
else
if p2 = 3 then
((f_X12_sunIn x4 0 p1).bind fun x12 =>
some (x12, x4))
else
some ((-1), x4)
set_option maxRecDepth 4000 in
theorem c_X12_room {E : EE} {sh : List (Nat × Nat)} {ex : Bool} {R : RM} {M : MM} {p1 : Int} {p2 : Int} (hE : Ext sh) (hL : Links R) : ∀ y, f_X12_room M p1 p2 = some y → MetC E m_X12_room 0 0 [rV 88, iV p1, iV p2] (sh, ex, R, M) (fun r w' => r = some (iV y.1) ∧ w' = (sh, ex, R, y.2)) := by
  intro y hy
  refine MetC.seg (o := f_X12_room M p1 p2) (t := (fun K y => K (some (iV y.1)) (sh, ex, R, y.2))) (L := [some (rV 88), some (iV p1), some (iV p2)]) (by decide) rfl (Nat.le_of_ble_eq_true rfl) ?_ hy ⟨rfl, rfl⟩
  unfold f_X12_room
  refine Seg.step (pc' := 1) (I_aload_n (i := 0) dX12_room_0 rfl rfl) ?_
  refine Seg.step (pc' := 2) (I_iconst dX12_room_1 ⟨by decide, by decide⟩) ?_
  refine Seg.step (pc' := 5) (I_putI cls12 (by decide) wf_12_175 (hE _ _ sk_12) rfl rfl dX12_room_2) ?_
  refine S_bM fun M1 => ?_
  refine Seg.step (pc' := 6) (I_aload_n (i := 0) dX12_room_5 rfl rfl) ?_
  refine Seg.step (pc' := 7) (I_iload_n (i := 1) dX12_room_6 rfl rfl) ?_
  refine S_callV1 (md' := m_X12_isRoom) (fun y => some (iV y)) (fun y => (sh, ex, R, M1)) (hE _ _ sk_12) ⟨by decide, rfl⟩ mm_X12_isRoom wm_12_488 ⟨rfl, rfl, by decide, by decide, by decide, by decide⟩ (Nat.le_of_ble_eq_true rfl) dX12_room_7 (fun y hy => c_X12_isRoom hE hL y hy) (fun x2 => ?_)
  refine S_if_ne (tgt := 15) dX12_room_10 (by decide) (fun h3 => ?_) (fun h3 => ?_)
  · refine Seg.step (pc' := 14) (I_iconst dX12_room_13 ⟨by decide, by decide⟩) ?_
    exact S_iret dX12_room_14 rfl (by decide) (by decide) (fun K hK => hK)
  refine Seg.step (pc' := 16) (I_aload_n (i := 0) dX12_room_15 rfl rfl) ?_
  refine S_callV0 (md' := m_X12_plainTried) (fun y => none) (fun y => (sh, ex, R, y)) (hE _ _ sk_12) ⟨by decide, rfl⟩ mm_X12_plainTried wm_12_385 ⟨rfl, rfl, by decide, by decide, by decide, by decide⟩ (Nat.le_of_ble_eq_true rfl) dX12_room_16 (fun y hy => c_X12_plainTried hE hL y hy) (fun x4 => ?_)
  refine Seg.step (pc' := 20) (I_iload_n (i := 2) dX12_room_19 rfl rfl) ?_
  refine S_if_ne (tgt := 32) dX12_room_20 (by decide) (fun h5 => ?_) (fun h5 => ?_)
  · refine Seg.step (pc' := 24) (I_aload_n (i := 0) dX12_room_23 rfl rfl) ?_
    refine Seg.step (pc' := 27) (I_getR cls12 (by decide) wf_12_97 (hE _ _ sk_12) rfl (lk_12_54 hL) dX12_room_24) ?_
    refine Seg.step (pc' := 28) (I_iload_n (i := 1) dX12_room_27 rfl rfl) ?_
    refine S_gd fun h6 => ?_
    refine Seg.step (pc' := 29) (I_iald (hE _ _ sk_12_54) h6 dX12_room_28) ?_
    refine Seg.step (pc' := 75) (I_goto (tgt := 75) dX12_room_29 (by decide)) ?_
    exact S_iret dX12_room_75 rfl (by decide) (by decide) (fun K hK => hK)
  refine Seg.step (pc' := 33) (I_iload_n (i := 2) dX12_room_32 rfl rfl) ?_
  refine Seg.step (pc' := 34) (I_iconst dX12_room_33 ⟨by decide, by decide⟩) ?_
  refine S_icmp_ne (tgt := 46) dX12_room_34 (by decide) (fun h7 => ?_) (fun h7 => ?_)
  · refine Seg.step (pc' := 38) (I_aload_n (i := 0) dX12_room_37 rfl rfl) ?_
    refine Seg.step (pc' := 41) (I_getR cls12 (by decide) wf_12_33 (hE _ _ sk_12) rfl (lk_12_26 hL) dX12_room_38) ?_
    refine Seg.step (pc' := 42) (I_iload_n (i := 1) dX12_room_41 rfl rfl) ?_
    refine S_gd fun h8 => ?_
    refine Seg.step (pc' := 43) (I_iald (hE _ _ sk_12_26) h8 dX12_room_42) ?_
    refine Seg.step (pc' := 75) (I_goto (tgt := 75) dX12_room_43 (by decide)) ?_
    exact S_iret dX12_room_75 rfl (by decide) (by decide) (fun K hK => hK)
  refine Seg.step (pc' := 47) (I_iload_n (i := 2) dX12_room_46 rfl rfl) ?_
  refine Seg.step (pc' := 48) (I_iconst dX12_room_47 ⟨by decide, by decide⟩) ?_
  refine S_icmp_ne (tgt := 60) dX12_room_48 (by decide) (fun h9 => ?_) (fun h9 => ?_)
  · refine Seg.step (pc' := 52) (I_aload_n (i := 0) dX12_room_51 rfl rfl) ?_
    refine Seg.step (pc' := 55) (I_getR cls12 (by decide) wf_12_36 (hE _ _ sk_12) rfl (lk_12_27 hL) dX12_room_52) ?_
    refine Seg.step (pc' := 56) (I_iload_n (i := 1) dX12_room_55 rfl rfl) ?_
    refine S_gd fun h10 => ?_
    refine Seg.step (pc' := 57) (I_iald (hE _ _ sk_12_27) h10 dX12_room_56) ?_
    refine Seg.step (pc' := 75) (I_goto (tgt := 75) dX12_room_57 (by decide)) ?_
    exact S_iret dX12_room_75 rfl (by decide) (by decide) (fun K hK => hK)
  refine Seg.step (pc' := 61) (I_iload_n (i := 2) dX12_room_60 rfl rfl) ?_
  refine Seg.step (pc' := 62) (I_iconst dX12_room_61 ⟨by decide, by decide⟩) ?_
  refine S_icmp_ne (tgt := 74) dX12_room_62 (by decide) (fun h11 => ?_) (fun h11 => ?_)
  · refine Seg.step (pc' := 66) (I_aload_n (i := 0) dX12_room_65 rfl rfl) ?_
    refine Seg.step (pc' := 67) (I_iconst dX12_room_66 ⟨by decide, by decide⟩) ?_
    refine Seg.step (pc' := 68) (I_iload_n (i := 1) dX12_room_67 rfl rfl) ?_
    refine S_callV2 (md' := m_X12_sunIn) (fun y => some (iV y)) (fun y => (sh, ex, R, x4)) (hE _ _ sk_12) ⟨by decide, rfl⟩ mm_X12_sunIn wm_12_467 ⟨rfl, rfl, by decide, by decide, by decide, by decide⟩ (Nat.le_of_ble_eq_true rfl) dX12_room_68 (fun y hy => c_X12_sunIn hE hL y hy) (fun x12 => ?_)
    refine Seg.step (pc' := 75) (I_goto (tgt := 75) dX12_room_71 (by decide)) ?_
    exact S_iret dX12_room_75 rfl (by decide) (by decide) (fun K hK => hK)
  refine Seg.step (pc' := 75) (I_iconst dX12_room_74 ⟨by decide, by decide⟩) ?_
  exact S_iret dX12_room_75 rfl (by decide) (by decide) (fun K hK => hK)
theorem dX12_out_0 : decode cX12_out 0 = .ok (.aload_n 0, 1) := by decide +kernel
theorem dX12_out_1 : decode cX12_out 1 = .ok (.iconst 0, 1) := by decide +kernel
theorem dX12_out_2 : decode cX12_out 2 = .ok (.putfield 175, 3) := by decide +kernel
theorem dX12_out_5 : decode cX12_out 5 = .ok (.aload_n 0, 1) := by decide +kernel
theorem dX12_out_6 : decode cX12_out 6 = .ok (.invokevirtual 385, 3) := by decide +kernel
theorem dX12_out_9 : decode cX12_out 9 = .ok (.iload_n 1, 1) := by decide +kernel
theorem dX12_out_10 : decode cX12_out 10 = .ok (.iconst 0, 1) := by decide +kernel
theorem dX12_out_11 : decode cX12_out 11 = .ok (.sipush 9999, 3) := by decide +kernel
theorem dX12_out_14 : decode cX12_out 14 = .ok (.invokestatic 220, 3) := by decide +kernel
theorem dX12_out_17 : decode cX12_out 17 = .ok (.ifCond .eq 11, 3) := by decide +kernel
theorem dX12_out_20 : decode cX12_out 20 = .ok (.aload_n 0, 1) := by decide +kernel
theorem dX12_out_21 : decode cX12_out 21 = .ok (.iload_n 1, 1) := by decide +kernel
theorem dX12_out_22 : decode cX12_out 22 = .ok (.invokevirtual 437, 3) := by decide +kernel
theorem dX12_out_25 : decode cX12_out 25 = .ok (.goto 4, 3) := by decide +kernel
theorem dX12_out_28 : decode cX12_out 28 = .ok (.iconst (-1), 1) := by decide +kernel
theorem dX12_out_29 : decode cX12_out 29 = .ok (.ireturn, 1) := by decide +kernel
def f_X12_out (M : MM) (p1 : Int) : Option (Int × MM) :=
bM (upM M 88 2 0) fun M1 =>
(f_X12_plainTried M1).bind fun x2 =>
(f_X12_isIn x2 p1 0 9999).bind fun x3 =>
if x3 = 0 then
(some ((-1), x2))
else
(f_X12_outOf x2 p1).bind fun x5 =>
some (x5, x2)
set_option maxRecDepth 4000 in
theorem c_X12_out {E : EE} {sh : List (Nat × Nat)} {ex : Bool} {R : RM} {M : MM} {p1 : Int} (hE : Ext sh) (hL : Links R) : ∀ y, f_X12_out M p1 = some y → MetC E m_X12_out 0 0 [rV 88, iV p1] (sh, ex, R, M) (fun r w' => r = some (iV y.1) ∧ w' = (sh, ex, R, y.2)) := by
  intro y hy
  refine MetC.seg (o := f_X12_out M p1) (t := (fun K y => K (some (iV y.1)) (sh, ex, R, y.2))) (L := [some (rV 88), some (iV p1)]) (by decide) rfl (Nat.le_of_ble_eq_true rfl) ?_ hy ⟨rfl, rfl⟩
  unfold f_X12_out
  refine Seg.step (pc' := 1) (I_aload_n (i := 0) dX12_out_0 rfl rfl) ?_
  refine Seg.step (pc' := 2) (I_iconst dX12_out_1 ⟨by decide, by decide⟩) ?_
  refine Seg.step (pc' := 5) (I_putI cls12 (by decide) wf_12_175 (hE _ _ sk_12) rfl rfl dX12_out_2) ?_
  refine S_bM fun M1 => ?_
  refine Seg.step (pc' := 6) (I_aload_n (i := 0) dX12_out_5 rfl rfl) ?_
  refine S_callV0 (md' := m_X12_plainTried) (fun y => none) (fun y => (sh, ex, R, y)) (hE _ _ sk_12) ⟨by decide, rfl⟩ mm_X12_plainTried wm_12_385 ⟨rfl, rfl, by decide, by decide, by decide, by decide⟩ (Nat.le_of_ble_eq_true rfl) dX12_out_6 (fun y hy => c_X12_plainTried hE hL y hy) (fun x2 => ?_)
  refine Seg.step (pc' := 10) (I_iload_n (i := 1) dX12_out_9 rfl rfl) ?_
  refine Seg.step (pc' := 11) (I_iconst dX12_out_10 ⟨by decide, by decide⟩) ?_
  refine Seg.step (pc' := 14) (I_sipush dX12_out_11 (by decide) ⟨by decide, by decide⟩) ?_
  refine S_callS3 (md' := m_X12_isIn) (fun y => some (iV y)) (fun y => (sh, ex, R, x2)) mm_X12_isIn wm_12_220 ⟨rfl, rfl, by decide, by decide, by decide, by decide⟩ (Nat.le_of_ble_eq_true rfl) dX12_out_14 (fun y hy => c_X12_isIn hE hL y hy) (fun x3 => ?_)
  refine S_if_eq (tgt := 28) dX12_out_17 (by decide) (fun h4 => ?_) (fun h4 => ?_)
  · refine Seg.step (pc' := 29) (I_iconst dX12_out_28 ⟨by decide, by decide⟩) ?_
    exact S_iret dX12_out_29 rfl (by decide) (by decide) (fun K hK => hK)
  refine Seg.step (pc' := 21) (I_aload_n (i := 0) dX12_out_20 rfl rfl) ?_
  refine Seg.step (pc' := 22) (I_iload_n (i := 1) dX12_out_21 rfl rfl) ?_
  refine S_callV1 (md' := m_X12_outOf) (fun y => some (iV y)) (fun y => (sh, ex, R, x2)) (hE _ _ sk_12) ⟨by decide, rfl⟩ mm_X12_outOf wm_12_437 ⟨rfl, rfl, by decide, by decide, by decide, by decide⟩ (Nat.le_of_ble_eq_true rfl) dX12_out_22 (fun y hy => c_X12_outOf hE hL y hy) (fun x5 => ?_)
  refine Seg.step (pc' := 29) (I_goto (tgt := 29) dX12_out_25 (by decide)) ?_
  exact S_iret dX12_out_29 rfl (by decide) (by decide) (fun K hK => hK)
theorem dX12_law_0 : decode cX12_law 0 = .ok (.aload_n 0, 1) := by decide +kernel
theorem dX12_law_1 : decode cX12_law 1 = .ok (.iconst 0, 1) := by decide +kernel
theorem dX12_law_2 : decode cX12_law 2 = .ok (.putfield 175, 3) := by decide +kernel
theorem dX12_law_5 : decode cX12_law 5 = .ok (.iload_n 1, 1) := by decide +kernel
theorem dX12_law_6 : decode cX12_law 6 = .ok (.iconst 0, 1) := by decide +kernel
theorem dX12_law_7 : decode cX12_law 7 = .ok (.iconst 2, 1) := by decide +kernel
theorem dX12_law_8 : decode cX12_law 8 = .ok (.invokestatic 220, 3) := by decide +kernel
theorem dX12_law_11 : decode cX12_law 11 = .ok (.ifCond .eq 35, 3) := by decide +kernel
theorem dX12_law_14 : decode cX12_law 14 = .ok (.aload_n 0, 1) := by decide +kernel
theorem dX12_law_15 : decode cX12_law 15 = .ok (.getfield 66, 3) := by decide +kernel
theorem dX12_law_18 : decode cX12_law 18 = .ok (.iload_n 1, 1) := by decide +kernel
theorem dX12_law_19 : decode cX12_law 19 = .ok (.baload, 1) := by decide +kernel
theorem dX12_law_20 : decode cX12_law 20 = .ok (.ifCond .eq 26, 3) := by decide +kernel
theorem dX12_law_23 : decode cX12_law 23 = .ok (.iload_n 1, 1) := by decide +kernel
theorem dX12_law_24 : decode cX12_law 24 = .ok (.ifCond .ne 14, 3) := by decide +kernel
theorem dX12_law_27 : decode cX12_law 27 = .ok (.aload_n 0, 1) := by decide +kernel
theorem dX12_law_28 : decode cX12_law 28 = .ok (.iload_n 2, 1) := by decide +kernel
theorem dX12_law_29 : decode cX12_law 29 = .ok (.invokevirtual 488, 3) := by decide +kernel
theorem dX12_law_32 : decode cX12_law 32 = .ok (.ifCond .ne 18, 3) := by decide +kernel
theorem dX12_law_35 : decode cX12_law 35 = .ok (.goto 11, 3) := by decide +kernel
theorem dX12_law_38 : decode cX12_law 38 = .ok (.aload_n 0, 1) := by decide +kernel
theorem dX12_law_39 : decode cX12_law 39 = .ok (.iload_n 2, 1) := by decide +kernel
theorem dX12_law_40 : decode cX12_law 40 = .ok (.invokevirtual 482, 3) := by decide +kernel
theorem dX12_law_43 : decode cX12_law 43 = .ok (.ifCond .ne 7, 3) := by decide +kernel
theorem dX12_law_46 : decode cX12_law 46 = .ok (.ldc2_w 491, 3) := by decide +kernel
theorem dX12_law_49 : decode cX12_law 49 = .ok (.lreturn, 1) := by decide +kernel
theorem dX12_law_50 : decode cX12_law 50 = .ok (.aload_n 0, 1) := by decide +kernel
theorem dX12_law_51 : decode cX12_law 51 = .ok (.invokevirtual 385, 3) := by decide +kernel
theorem dX12_law_54 : decode cX12_law 54 = .ok (.iload_n 1, 1) := by decide +kernel
theorem dX12_law_55 : decode cX12_law 55 = .ok (.ifCond .ne 14, 3) := by decide +kernel
theorem dX12_law_58 : decode cX12_law 58 = .ok (.aload_n 0, 1) := by decide +kernel
theorem dX12_law_59 : decode cX12_law 59 = .ok (.iconst 0, 1) := by decide +kernel
theorem dX12_law_60 : decode cX12_law 60 = .ok (.iload_n 2, 1) := by decide +kernel
theorem dX12_law_61 : decode cX12_law 61 = .ok (.iconst 0, 1) := by decide +kernel
theorem dX12_law_62 : decode cX12_law 62 = .ok (.iconst 0, 1) := by decide +kernel
theorem dX12_law_63 : decode cX12_law 63 = .ok (.invokevirtual 450, 3) := by decide +kernel
theorem dX12_law_66 : decode cX12_law 66 = .ok (.goto 29, 3) := by decide +kernel
theorem dX12_law_69 : decode cX12_law 69 = .ok (.aload_n 0, 1) := by decide +kernel
theorem dX12_law_70 : decode cX12_law 70 = .ok (.iconst 0, 1) := by decide +kernel
theorem dX12_law_71 : decode cX12_law 71 = .ok (.aload_n 0, 1) := by decide +kernel
theorem dX12_law_72 : decode cX12_law 72 = .ok (.getfield 42, 3) := by decide +kernel
theorem dX12_law_75 : decode cX12_law 75 = .ok (.iload_n 2, 1) := by decide +kernel
theorem dX12_law_76 : decode cX12_law 76 = .ok (.iaload, 1) := by decide +kernel
theorem dX12_law_77 : decode cX12_law 77 = .ok (.aload_n 0, 1) := by decide +kernel
theorem dX12_law_78 : decode cX12_law 78 = .ok (.iconst 0, 1) := by decide +kernel
theorem dX12_law_79 : decode cX12_law 79 = .ok (.iload_n 2, 1) := by decide +kernel
theorem dX12_law_80 : decode cX12_law 80 = .ok (.invokevirtual 458, 3) := by decide +kernel
theorem dX12_law_83 : decode cX12_law 83 = .ok (.bipush 10, 2) := by decide +kernel
theorem dX12_law_85 : decode cX12_law 85 = .ok (.aload_n 0, 1) := by decide +kernel
theorem dX12_law_86 : decode cX12_law 86 = .ok (.getfield 45, 3) := by decide +kernel
theorem dX12_law_89 : decode cX12_law 89 = .ok (.iload_n 2, 1) := by decide +kernel
theorem dX12_law_90 : decode cX12_law 90 = .ok (.iaload, 1) := by decide +kernel
theorem dX12_law_91 : decode cX12_law 91 = .ok (.imul, 1) := by decide +kernel
theorem dX12_law_92 : decode cX12_law 92 = .ok (.invokevirtual 450, 3) := by decide +kernel
theorem dX12_law_95 : decode cX12_law 95 = .ok (.aload_n 0, 1) := by decide +kernel
theorem dX12_law_96 : decode cX12_law 96 = .ok (.iload_n 1, 1) := by decide +kernel
theorem dX12_law_97 : decode cX12_law 97 = .ok (.invokevirtual 447, 3) := by decide +kernel
theorem dX12_law_100 : decode cX12_law 100 = .ok (.lstore_n 3, 1) := by decide +kernel
theorem dX12_law_101 : decode cX12_law 101 = .ok (.aload_n 0, 1) := by decide +kernel
theorem dX12_law_102 : decode cX12_law 102 = .ok (.getfield 363, 3) := by decide +kernel
theorem dX12_law_105 : decode cX12_law 105 = .ok (.ifCond .eq 9, 3) := by decide +kernel
theorem dX12_law_108 : decode cX12_law 108 = .ok (.ldc2_w 491, 3) := by decide +kernel
theorem dX12_law_111 : decode cX12_law 111 = .ok (.goto 4, 3) := by decide +kernel
theorem dX12_law_114 : decode cX12_law 114 = .ok (.lload_n 3, 1) := by decide +kernel
theorem dX12_law_115 : decode cX12_law 115 = .ok (.lreturn, 1) := by decide +kernel
def f_X12_law (M : MM) (p1 : Int) (p2 : Int) : Option (Int × MM) :=
bM (upM M 88 2 0) fun M1 =>
(f_X12_isIn M1 p1 0 2).bind fun x2 =>
if x2 = 0 then
(some ((-9223372036854775808), M1))
else
gd (0 ≤ p1 ∧ p1 < (6 : Int)) <|
if (M1 106 (p1).toNat) = 0 then
(some ((-9223372036854775808), M1))
else
bS ((if p1 = 0 then
((f_X12_isRoom M1 p2).bind fun x7 =>
if x7 = 0 then
(some (Sum.inr ((-9223372036854775808), M1)))
else
some (Sum.inl ()))
else
(f_X12_isPerson M1 p2).bind fun x9 =>
if x9 = 0 then
(some (Sum.inr ((-9223372036854775808), M1)))
else
some (Sum.inl ())) : Option ((Unit) ⊕ (Int × MM))) (fun x11 =>
(f_X12_plainTried M1).bind fun x12 =>
((if p1 = 0 then
((f_X12_layNames x12 0 p2 0 0).bind fun x14 =>
some x14)
else
gd (0 ≤ p2 ∧ p2 < (10 : Int)) <|
(f_X12_feltBy x12 0 p2).bind fun x16 =>
gd (0 ≤ p2 ∧ p2 < (10 : Int)) <|
(f_X12_layNames x12 0 (x12 98 (p2).toNat) x16 (w32 (10 * (x12 99 (p2).toNat)))).bind fun x18 =>
some x18) : Option (MM)).bind fun x19 =>
(f_X12_lawOf x19 p1).bind fun x20 =>
if (x20.2 88 53) = 0 then
(some (x20.1, x20.2))
else
some ((-9223372036854775808), x20.2)) (fun r => r)
set_option maxRecDepth 4000 in
theorem c_X12_law {E : EE} {sh : List (Nat × Nat)} {ex : Bool} {R : RM} {M : MM} {p1 : Int} {p2 : Int} (hE : Ext sh) (hL : Links R) : ∀ y, f_X12_law M p1 p2 = some y → MetC E m_X12_law 0 0 [rV 88, iV p1, iV p2] (sh, ex, R, M) (fun r w' => r = some (jV y.1) ∧ w' = (sh, ex, R, y.2)) := by
  intro y hy
  refine MetC.seg (o := f_X12_law M p1 p2) (t := (fun K y => K (some (jV y.1)) (sh, ex, R, y.2))) (L := [some (rV 88), some (iV p1), some (iV p2), none, none]) (by decide) rfl (Nat.le_of_ble_eq_true rfl) ?_ hy ⟨rfl, rfl⟩
  unfold f_X12_law
  refine Seg.step (pc' := 1) (I_aload_n (i := 0) dX12_law_0 rfl rfl) ?_
  refine Seg.step (pc' := 2) (I_iconst dX12_law_1 ⟨by decide, by decide⟩) ?_
  refine Seg.step (pc' := 5) (I_putI cls12 (by decide) wf_12_175 (hE _ _ sk_12) rfl rfl dX12_law_2) ?_
  refine S_bM fun M1 => ?_
  refine Seg.step (pc' := 6) (I_iload_n (i := 1) dX12_law_5 rfl rfl) ?_
  refine Seg.step (pc' := 7) (I_iconst dX12_law_6 ⟨by decide, by decide⟩) ?_
  refine Seg.step (pc' := 8) (I_iconst dX12_law_7 ⟨by decide, by decide⟩) ?_
  refine S_callS3 (md' := m_X12_isIn) (fun y => some (iV y)) (fun y => (sh, ex, R, M1)) mm_X12_isIn wm_12_220 ⟨rfl, rfl, by decide, by decide, by decide, by decide⟩ (Nat.le_of_ble_eq_true rfl) dX12_law_8 (fun y hy => c_X12_isIn hE hL y hy) (fun x2 => ?_)
  refine S_if_eq (tgt := 46) dX12_law_11 (by decide) (fun h3 => ?_) (fun h3 => ?_)
  · refine Seg.step (pc' := 49) (I_ldc2 (z := -9223372036854775808) dX12_law_46 wk_12_491 ⟨by decide, by decide⟩) ?_
    exact S_lret dX12_law_49 rfl (by decide) (by decide) (fun K hK => hK)
  refine Seg.step (pc' := 15) (I_aload_n (i := 0) dX12_law_14 rfl rfl) ?_
  refine Seg.step (pc' := 18) (I_getR cls12 (by decide) wf_12_66 (hE _ _ sk_12) rfl (lk_12_37 hL) dX12_law_15) ?_
  refine Seg.step (pc' := 19) (I_iload_n (i := 1) dX12_law_18 rfl rfl) ?_
  refine S_gd fun h4 => ?_
  refine Seg.step (pc' := 20) (I_zald (hE _ _ sk_12_37) h4 dX12_law_19) ?_
  refine S_if_eq (tgt := 46) dX12_law_20 (by decide) (fun h5 => ?_) (fun h5 => ?_)
  · refine Seg.step (pc' := 49) (I_ldc2 (z := -9223372036854775808) dX12_law_46 wk_12_491 ⟨by decide, by decide⟩) ?_
    exact S_lret dX12_law_49 rfl (by decide) (by decide) (fun K hK => hK)
  refine Seg.step (pc' := 24) (I_iload_n (i := 1) dX12_law_23 rfl rfl) ?_
  refine S_bind2 (Y := Unit) (k' := 0) (n' := 0) 50 (fun y => [some (rV 88), some (iV p1), some (iV p2), none, none]) (fun y => []) (fun y => (sh, ex, R, M1)) ?_ (fun x11 => ?_)
  · refine S_if_ne (tgt := 38) dX12_law_24 (by decide) (fun h6 => ?_) (fun h6 => ?_)
    · refine Seg.step (pc' := 28) (I_aload_n (i := 0) dX12_law_27 rfl rfl) ?_
      refine Seg.step (pc' := 29) (I_iload_n (i := 2) dX12_law_28 rfl rfl) ?_
      refine S_callV1 (md' := m_X12_isRoom) (fun y => some (iV y)) (fun y => (sh, ex, R, M1)) (hE _ _ sk_12) ⟨by decide, rfl⟩ mm_X12_isRoom wm_12_488 ⟨rfl, rfl, by decide, by decide, by decide, by decide⟩ (Nat.le_of_ble_eq_true rfl) dX12_law_29 (fun y hy => c_X12_isRoom hE hL y hy) (fun x7 => ?_)
      refine S_if_ne (tgt := 50) dX12_law_32 (by decide) (fun h8 => ?_) (fun h8 => ?_)
      · refine Seg.step (pc' := 46) (I_goto (tgt := 46) dX12_law_35 (by decide)) ?_
        refine Seg.step (pc' := 49) (I_ldc2 (z := -9223372036854775808) dX12_law_46 wk_12_491 ⟨by decide, by decide⟩) ?_
        exact S_lret dX12_law_49 rfl (by decide) (by decide) (fun K hK => hK)
      exact S_arr (fun K hK => GG.forget (Lle.ye (Lle.ye (Lle.ye (Lle.no (Lle.no (Lle.nil)))))) hK)
    refine Seg.step (pc' := 39) (I_aload_n (i := 0) dX12_law_38 rfl rfl) ?_
    refine Seg.step (pc' := 40) (I_iload_n (i := 2) dX12_law_39 rfl rfl) ?_
    refine S_callV1 (md' := m_X12_isPerson) (fun y => some (iV y)) (fun y => (sh, ex, R, M1)) (hE _ _ sk_12) ⟨by decide, rfl⟩ mm_X12_isPerson wm_12_482 ⟨rfl, rfl, by decide, by decide, by decide, by decide⟩ (Nat.le_of_ble_eq_true rfl) dX12_law_40 (fun y hy => c_X12_isPerson hE hL y hy) (fun x9 => ?_)
    refine S_if_ne (tgt := 50) dX12_law_43 (by decide) (fun h10 => ?_) (fun h10 => ?_)
    · refine Seg.step (pc' := 49) (I_ldc2 (z := -9223372036854775808) dX12_law_46 wk_12_491 ⟨by decide, by decide⟩) ?_
      exact S_lret dX12_law_49 rfl (by decide) (by decide) (fun K hK => hK)
    exact S_arr (fun K hK => GG.forget (Lle.ye (Lle.ye (Lle.ye (Lle.no (Lle.no (Lle.nil)))))) hK)
  refine Seg.step (pc' := 51) (I_aload_n (i := 0) dX12_law_50 rfl rfl) ?_
  refine S_callV0 (md' := m_X12_plainTried) (fun y => none) (fun y => (sh, ex, R, y)) (hE _ _ sk_12) ⟨by decide, rfl⟩ mm_X12_plainTried wm_12_385 ⟨rfl, rfl, by decide, by decide, by decide, by decide⟩ (Nat.le_of_ble_eq_true rfl) dX12_law_51 (fun y hy => c_X12_plainTried hE hL y hy) (fun x12 => ?_)
  refine Seg.step (pc' := 55) (I_iload_n (i := 1) dX12_law_54 rfl rfl) ?_
  refine S_bind (Y := MM) (k' := 0) (n' := 0) 95 (fun y => [some (rV 88), some (iV p1), none, none, none]) (fun y => []) (fun y => (sh, ex, R, y)) ?_ (fun x19 => ?_)
  · refine S_if_ne (tgt := 69) dX12_law_55 (by decide) (fun h13 => ?_) (fun h13 => ?_)
    · refine Seg.step (pc' := 59) (I_aload_n (i := 0) dX12_law_58 rfl rfl) ?_
      refine Seg.step (pc' := 60) (I_iconst dX12_law_59 ⟨by decide, by decide⟩) ?_
      refine Seg.step (pc' := 61) (I_iload_n (i := 2) dX12_law_60 rfl rfl) ?_
      refine Seg.step (pc' := 62) (I_iconst dX12_law_61 ⟨by decide, by decide⟩) ?_
      refine Seg.step (pc' := 63) (I_iconst dX12_law_62 ⟨by decide, by decide⟩) ?_
      refine S_callV4 (md' := m_X12_layNames) (fun y => none) (fun y => (sh, ex, R, y)) (hE _ _ sk_12) ⟨by decide, rfl⟩ mm_X12_layNames wm_12_450 ⟨rfl, rfl, by decide, by decide, by decide, by decide⟩ (Nat.le_of_ble_eq_true rfl) dX12_law_63 (fun y hy => c_X12_layNames hE hL y hy) (fun x14 => ?_)
      refine Seg.step (pc' := 95) (I_goto (tgt := 95) dX12_law_66 (by decide)) ?_
      exact S_arr (fun K hK => GG.forget (Lle.ye (Lle.ye (Lle.no (Lle.no (Lle.no (Lle.nil)))))) hK)
    refine Seg.step (pc' := 70) (I_aload_n (i := 0) dX12_law_69 rfl rfl) ?_
    refine Seg.step (pc' := 71) (I_iconst dX12_law_70 ⟨by decide, by decide⟩) ?_
    refine Seg.step (pc' := 72) (I_aload_n (i := 0) dX12_law_71 rfl rfl) ?_
    refine Seg.step (pc' := 75) (I_getR cls12 (by decide) wf_12_42 (hE _ _ sk_12) rfl (lk_12_29 hL) dX12_law_72) ?_
    refine Seg.step (pc' := 76) (I_iload_n (i := 2) dX12_law_75 rfl rfl) ?_
    refine S_gd fun h15 => ?_
    refine Seg.step (pc' := 77) (I_iald (hE _ _ sk_12_29) h15 dX12_law_76) ?_
    refine Seg.step (pc' := 78) (I_aload_n (i := 0) dX12_law_77 rfl rfl) ?_
    refine Seg.step (pc' := 79) (I_iconst dX12_law_78 ⟨by decide, by decide⟩) ?_
    refine Seg.step (pc' := 80) (I_iload_n (i := 2) dX12_law_79 rfl rfl) ?_
    refine S_callV2 (md' := m_X12_feltBy) (fun y => some (iV y)) (fun y => (sh, ex, R, x12)) (hE _ _ sk_12) ⟨by decide, rfl⟩ mm_X12_feltBy wm_12_458 ⟨rfl, rfl, by decide, by decide, by decide, by decide⟩ (Nat.le_of_ble_eq_true rfl) dX12_law_80 (fun y hy => c_X12_feltBy hE hL y hy) (fun x16 => ?_)
    refine Seg.step (pc' := 85) (I_bipush dX12_law_83 (by decide) ⟨by decide, by decide⟩) ?_
    refine Seg.step (pc' := 86) (I_aload_n (i := 0) dX12_law_85 rfl rfl) ?_
    refine Seg.step (pc' := 89) (I_getR cls12 (by decide) wf_12_45 (hE _ _ sk_12) rfl (lk_12_30 hL) dX12_law_86) ?_
    refine Seg.step (pc' := 90) (I_iload_n (i := 2) dX12_law_89 rfl rfl) ?_
    refine S_gd fun h17 => ?_
    refine Seg.step (pc' := 91) (I_iald (hE _ _ sk_12_30) h17 dX12_law_90) ?_
    refine Seg.step (pc' := 92) (I_imul dX12_law_91) ?_
    refine S_callV4 (md' := m_X12_layNames) (fun y => none) (fun y => (sh, ex, R, y)) (hE _ _ sk_12) ⟨by decide, rfl⟩ mm_X12_layNames wm_12_450 ⟨rfl, rfl, by decide, by decide, by decide, by decide⟩ (Nat.le_of_ble_eq_true rfl) dX12_law_92 (fun y hy => c_X12_layNames hE hL y hy) (fun x18 => ?_)
    exact S_arr (fun K hK => GG.forget (Lle.ye (Lle.ye (Lle.no (Lle.no (Lle.no (Lle.nil)))))) hK)
  refine Seg.step (pc' := 96) (I_aload_n (i := 0) dX12_law_95 rfl rfl) ?_
  refine Seg.step (pc' := 97) (I_iload_n (i := 1) dX12_law_96 rfl rfl) ?_
  refine S_callV1 (md' := m_X12_lawOf) (fun y => some (jV y.1)) (fun y => (sh, ex, R, y.2)) (hE _ _ sk_12) ⟨by decide, rfl⟩ mm_X12_lawOf wm_12_447 ⟨rfl, rfl, by decide, by decide, by decide, by decide⟩ (Nat.le_of_ble_eq_true rfl) dX12_law_97 (fun y hy => c_X12_lawOf hE hL y hy) (fun x20 => ?_)
  refine Seg.step (pc' := 101) (I_lstore_n (i := 3) dX12_law_100 rfl (by decide) rfl) ?_
  refine Seg.step (pc' := 102) (I_aload_n (i := 0) dX12_law_101 rfl rfl) ?_
  refine Seg.step (pc' := 105) (I_getZ cls12 (by decide) wf_12_363 (hE _ _ sk_12) rfl dX12_law_102) ?_
  refine S_if_eq (tgt := 114) dX12_law_105 (by decide) (fun h21 => ?_) (fun h21 => ?_)
  · refine Seg.step (pc' := 115) (I_lload_n (i := 3) dX12_law_114 rfl rfl) ?_
    exact S_lret dX12_law_115 rfl (by decide) (by decide) (fun K hK => hK)
  refine Seg.step (pc' := 111) (I_ldc2 (z := -9223372036854775808) dX12_law_108 wk_12_491 ⟨by decide, by decide⟩) ?_
  refine Seg.step (pc' := 115) (I_goto (tgt := 115) dX12_law_111 (by decide)) ?_
  exact S_lret dX12_law_115 rfl (by decide) (by decide) (fun K hK => hK)
theorem dX12_put_0 : decode cX12_put 0 = .ok (.aload_n 1, 1) := by decide +kernel
theorem dX12_put_1 : decode cX12_put 1 = .ok (.iload_n 2, 1) := by decide +kernel
theorem dX12_put_2 : decode cX12_put 2 = .ok (.aload_n 0, 1) := by decide +kernel
theorem dX12_put_3 : decode cX12_put 3 = .ok (.getfield 112, 3) := by decide +kernel
theorem dX12_put_6 : decode cX12_put 6 = .ok (.iconst 0, 1) := by decide +kernel
theorem dX12_put_7 : decode cX12_put 7 = .ok (.iaload, 1) := by decide +kernel
theorem dX12_put_8 : decode cX12_put 8 = .ok (.iastore, 1) := by decide +kernel
theorem dX12_put_9 : decode cX12_put 9 = .ok (.aload_n 1, 1) := by decide +kernel
theorem dX12_put_10 : decode cX12_put 10 = .ok (.iload_n 2, 1) := by decide +kernel
theorem dX12_put_11 : decode cX12_put 11 = .ok (.iconst 1, 1) := by decide +kernel
theorem dX12_put_12 : decode cX12_put 12 = .ok (.iadd, 1) := by decide +kernel
theorem dX12_put_13 : decode cX12_put 13 = .ok (.aload_n 0, 1) := by decide +kernel
theorem dX12_put_14 : decode cX12_put 14 = .ok (.getfield 115, 3) := by decide +kernel
theorem dX12_put_17 : decode cX12_put 17 = .ok (.iconst 0, 1) := by decide +kernel
theorem dX12_put_18 : decode cX12_put 18 = .ok (.iaload, 1) := by decide +kernel
theorem dX12_put_19 : decode cX12_put 19 = .ok (.iastore, 1) := by decide +kernel
theorem dX12_put_20 : decode cX12_put 20 = .ok (.aload_n 1, 1) := by decide +kernel
theorem dX12_put_21 : decode cX12_put 21 = .ok (.iload_n 2, 1) := by decide +kernel
theorem dX12_put_22 : decode cX12_put 22 = .ok (.iconst 2, 1) := by decide +kernel
theorem dX12_put_23 : decode cX12_put 23 = .ok (.iadd, 1) := by decide +kernel
theorem dX12_put_24 : decode cX12_put 24 = .ok (.aload_n 0, 1) := by decide +kernel
theorem dX12_put_25 : decode cX12_put 25 = .ok (.getfield 118, 3) := by decide +kernel
theorem dX12_put_28 : decode cX12_put 28 = .ok (.iconst 0, 1) := by decide +kernel
theorem dX12_put_29 : decode cX12_put 29 = .ok (.baload, 1) := by decide +kernel
theorem dX12_put_30 : decode cX12_put 30 = .ok (.ifCond .eq 7, 3) := by decide +kernel
theorem dX12_put_33 : decode cX12_put 33 = .ok (.iconst 1, 1) := by decide +kernel
theorem dX12_put_34 : decode cX12_put 34 = .ok (.goto 4, 3) := by decide +kernel
theorem dX12_put_37 : decode cX12_put 37 = .ok (.iconst 0, 1) := by decide +kernel
theorem dX12_put_38 : decode cX12_put 38 = .ok (.iastore, 1) := by decide +kernel
theorem dX12_put_39 : decode cX12_put 39 = .ok (.iconst 0, 1) := by decide +kernel
theorem dX12_put_40 : decode cX12_put 40 = .ok (.istore_n 3, 1) := by decide +kernel
theorem dX12_put_41 : decode cX12_put 41 = .ok (.iload_n 3, 1) := by decide +kernel
theorem dX12_put_42 : decode cX12_put 42 = .ok (.iconst 5, 1) := by decide +kernel
theorem dX12_put_43 : decode cX12_put 43 = .ok (.if_icmp .ge 30, 3) := by decide +kernel
theorem dX12_put_46 : decode cX12_put 46 = .ok (.aload_n 1, 1) := by decide +kernel
theorem dX12_put_47 : decode cX12_put 47 = .ok (.iload_n 2, 1) := by decide +kernel
theorem dX12_put_48 : decode cX12_put 48 = .ok (.iconst 3, 1) := by decide +kernel
theorem dX12_put_49 : decode cX12_put 49 = .ok (.iadd, 1) := by decide +kernel
theorem dX12_put_50 : decode cX12_put 50 = .ok (.iload_n 3, 1) := by decide +kernel
theorem dX12_put_51 : decode cX12_put 51 = .ok (.iadd, 1) := by decide +kernel
theorem dX12_put_52 : decode cX12_put 52 = .ok (.aload_n 0, 1) := by decide +kernel
theorem dX12_put_53 : decode cX12_put 53 = .ok (.getfield 109, 3) := by decide +kernel
theorem dX12_put_56 : decode cX12_put 56 = .ok (.iload_n 3, 1) := by decide +kernel
theorem dX12_put_57 : decode cX12_put 57 = .ok (.baload, 1) := by decide +kernel
theorem dX12_put_58 : decode cX12_put 58 = .ok (.ifCond .eq 7, 3) := by decide +kernel
theorem dX12_put_61 : decode cX12_put 61 = .ok (.iconst 1, 1) := by decide +kernel
theorem dX12_put_62 : decode cX12_put 62 = .ok (.goto 4, 3) := by decide +kernel
theorem dX12_put_65 : decode cX12_put 65 = .ok (.iconst 0, 1) := by decide +kernel
theorem dX12_put_66 : decode cX12_put 66 = .ok (.iastore, 1) := by decide +kernel
theorem dX12_put_67 : decode cX12_put 67 = .ok (.iinc 3 1, 3) := by decide +kernel
theorem dX12_put_70 : decode cX12_put 70 = .ok (.goto (-29), 3) := by decide +kernel
theorem dX12_put_73 : decode cX12_put 73 = .ok (.return_, 1) := by decide +kernel
def f_X12_put (M : MM) (a1 n1 : Nat) (p2 : Int) : Option (MM) :=
gd (0 ≤ p2 ∧ p2 < (n1 : Int)) <|
bM (upM M a1 (p2).toNat (M 121 0)) fun M2 =>
gd (0 ≤ w32 (p2 + 1) ∧ w32 (p2 + 1) < (n1 : Int)) <|
bM (upM M2 a1 (w32 (p2 + 1)).toNat (M2 122 0)) fun M4 =>
((if (M4 123 0) = 0 then
(some 0)
else
some 1) : Option (Int)).bind fun x6 =>
gd (0 ≤ w32 (p2 + 2) ∧ w32 (p2 + 2) < (n1 : Int)) <|
bM (upM M4 a1 (w32 (p2 + 2)).toNat x6) fun M8 =>
lp (X := Int × MM) (Y := MM) (fun x9 =>
if x9.1 < 5 then
(gd (0 ≤ x9.1 ∧ x9.1 < (10 : Int)) <|
((if (x9.2 120 (x9.1).toNat) = 0 then
(some 0)
else
some 1) : Option (Int)).bind fun x13 =>
gd (0 ≤ w32 ((w32 (p2 + 3)) + x9.1) ∧ w32 ((w32 (p2 + 3)) + x9.1) < (n1 : Int)) <|
bM (upM x9.2 a1 (w32 ((w32 (p2 + 3)) + x9.1)).toNat x13) fun M15 =>
some (Sum.inl (w32 (x9.1 + 1), M15)))
else
some (Sum.inr x9.2)) FU (0, M8)
set_option maxRecDepth 4000 in
theorem c_X12_put {E : EE} {sh : List (Nat × Nat)} {ex : Bool} {R : RM} {M : MM} {a1 n1 : Nat} {p2 : Int} (hE : Ext sh) (hL : Links R) (hs1 : SH0[a1]? = some (50, n1)) : ∀ y, f_X12_put M a1 n1 p2 = some y → MetC E m_X12_put 0 0 [rV 88, rV a1, iV p2] (sh, ex, R, M) (fun r w' => r = none ∧ w' = (sh, ex, R, y)) := by
  intro y hy
  refine MetC.seg (o := f_X12_put M a1 n1 p2) (t := (fun K y => K (none) (sh, ex, R, y))) (L := [some (rV 88), some (rV a1), some (iV p2), none]) (by decide) rfl (Nat.le_of_ble_eq_true rfl) ?_ hy ⟨rfl, rfl⟩
  unfold f_X12_put
  refine Seg.step (pc' := 1) (I_aload_n (i := 1) dX12_put_0 rfl rfl) ?_
  refine Seg.step (pc' := 2) (I_iload_n (i := 2) dX12_put_1 rfl rfl) ?_
  refine Seg.step (pc' := 3) (I_aload_n (i := 0) dX12_put_2 rfl rfl) ?_
  refine Seg.step (pc' := 6) (I_getR cls12 (by decide) wf_12_112 (hE _ _ sk_12) rfl (lk_12_59 hL) dX12_put_3) ?_
  refine Seg.step (pc' := 7) (I_iconst dX12_put_6 ⟨by decide, by decide⟩) ?_
  refine Seg.step (pc' := 8) (I_iald (hE _ _ sk_12_59) ⟨by decide, by decide⟩ dX12_put_7) ?_
  refine S_gd fun h1 => ?_
  refine Seg.step (pc' := 9) (I_iast (hE _ _ hs1) h1 dX12_put_8) ?_
  refine S_bM fun M2 => ?_
  refine Seg.step (pc' := 10) (I_aload_n (i := 1) dX12_put_9 rfl rfl) ?_
  refine Seg.step (pc' := 11) (I_iload_n (i := 2) dX12_put_10 rfl rfl) ?_
  refine Seg.step (pc' := 12) (I_iconst dX12_put_11 ⟨by decide, by decide⟩) ?_
  refine Seg.step (pc' := 13) (I_iadd dX12_put_12) ?_
  refine Seg.step (pc' := 14) (I_aload_n (i := 0) dX12_put_13 rfl rfl) ?_
  refine Seg.step (pc' := 17) (I_getR cls12 (by decide) wf_12_115 (hE _ _ sk_12) rfl (lk_12_60 hL) dX12_put_14) ?_
  refine Seg.step (pc' := 18) (I_iconst dX12_put_17 ⟨by decide, by decide⟩) ?_
  refine Seg.step (pc' := 19) (I_iald (hE _ _ sk_12_60) ⟨by decide, by decide⟩ dX12_put_18) ?_
  refine S_gd fun h3 => ?_
  refine Seg.step (pc' := 20) (I_iast (hE _ _ hs1) h3 dX12_put_19) ?_
  refine S_bM fun M4 => ?_
  refine Seg.step (pc' := 21) (I_aload_n (i := 1) dX12_put_20 rfl rfl) ?_
  refine Seg.step (pc' := 22) (I_iload_n (i := 2) dX12_put_21 rfl rfl) ?_
  refine Seg.step (pc' := 23) (I_iconst dX12_put_22 ⟨by decide, by decide⟩) ?_
  refine Seg.step (pc' := 24) (I_iadd dX12_put_23) ?_
  refine Seg.step (pc' := 25) (I_aload_n (i := 0) dX12_put_24 rfl rfl) ?_
  refine Seg.step (pc' := 28) (I_getR cls12 (by decide) wf_12_118 (hE _ _ sk_12) rfl (lk_12_61 hL) dX12_put_25) ?_
  refine Seg.step (pc' := 29) (I_iconst dX12_put_28 ⟨by decide, by decide⟩) ?_
  refine Seg.step (pc' := 30) (I_zald (hE _ _ sk_12_61) ⟨by decide, by decide⟩ dX12_put_29) ?_
  refine S_bind (Y := Int) (k' := 0) (n' := 0) 38 (fun y => [some (rV 88), some (rV a1), some (iV p2), none]) (fun y => [iV y, iV (w32 (p2 + 2)), rV a1]) (fun y => (sh, ex, R, M4)) ?_ (fun x6 => ?_)
  · refine S_if_eq (tgt := 37) dX12_put_30 (by decide) (fun h5 => ?_) (fun h5 => ?_)
    · refine Seg.step (pc' := 38) (I_iconst dX12_put_37 ⟨by decide, by decide⟩) ?_
      exact S_arr (fun K hK => GG.forget (Lle.ye (Lle.ye (Lle.ye (Lle.no (Lle.nil))))) hK)
    refine Seg.step (pc' := 34) (I_iconst dX12_put_33 ⟨by decide, by decide⟩) ?_
    refine Seg.step (pc' := 38) (I_goto (tgt := 38) dX12_put_34 (by decide)) ?_
    exact S_arr (fun K hK => GG.forget (Lle.ye (Lle.ye (Lle.ye (Lle.no (Lle.nil))))) hK)
  refine S_gd fun h7 => ?_
  refine Seg.step (pc' := 39) (I_iast (hE _ _ hs1) h7 dX12_put_38) ?_
  refine S_bM fun M8 => ?_
  refine Seg.step (pc' := 40) (I_iconst dX12_put_39 ⟨by decide, by decide⟩) ?_
  refine Seg.step (pc' := 41) (I_istore_n (i := 3) dX12_put_40 rfl (by decide) rfl) ?_
  refine Seg.forget (Lle.ye (Lle.ye (Lle.ye (Lle.ye (Lle.nil))))) ?_
  refine S_loop (Y := Int × MM) (fun y => [some (rV 88), some (rV a1), some (iV p2), some (iV y.1)]) (fun y => []) (fun y => (sh, ex, R, y.2)) (fun x9 => ?_) FU (0, M8)
  refine Seg.step (pc' := 42) (I_iload_n (i := 3) dX12_put_41 rfl rfl) ?_
  refine Seg.step (pc' := 43) (I_iconst dX12_put_42 ⟨by decide, by decide⟩) ?_
  refine S_icmp_ge (tgt := 73) dX12_put_43 (by decide) (fun h10 => ?_) (fun h10 => ?_)
  · refine Seg.step (pc' := 47) (I_aload_n (i := 1) dX12_put_46 rfl rfl) ?_
    refine Seg.step (pc' := 48) (I_iload_n (i := 2) dX12_put_47 rfl rfl) ?_
    refine Seg.step (pc' := 49) (I_iconst dX12_put_48 ⟨by decide, by decide⟩) ?_
    refine Seg.step (pc' := 50) (I_iadd dX12_put_49) ?_
    refine Seg.step (pc' := 51) (I_iload_n (i := 3) dX12_put_50 rfl rfl) ?_
    refine Seg.step (pc' := 52) (I_iadd dX12_put_51) ?_
    refine Seg.step (pc' := 53) (I_aload_n (i := 0) dX12_put_52 rfl rfl) ?_
    refine Seg.step (pc' := 56) (I_getR cls12 (by decide) wf_12_109 (hE _ _ sk_12) rfl (lk_12_58 hL) dX12_put_53) ?_
    refine Seg.step (pc' := 57) (I_iload_n (i := 3) dX12_put_56 rfl rfl) ?_
    refine S_gd fun h11 => ?_
    refine Seg.step (pc' := 58) (I_zald (hE _ _ sk_12_58) h11 dX12_put_57) ?_
    refine S_bind (Y := Int) (k' := 0) (n' := 0) 66 (fun y => [some (rV 88), some (rV a1), some (iV p2), some (iV x9.1)]) (fun y => [iV y, iV (w32 ((w32 (p2 + 3)) + x9.1)), rV a1]) (fun y => (sh, ex, R, x9.2)) ?_ (fun x13 => ?_)
    · refine S_if_eq (tgt := 65) dX12_put_58 (by decide) (fun h12 => ?_) (fun h12 => ?_)
      · refine Seg.step (pc' := 66) (I_iconst dX12_put_65 ⟨by decide, by decide⟩) ?_
        exact S_arr (fun K hK => GG.forget (Lle.ye (Lle.ye (Lle.ye (Lle.ye (Lle.nil))))) hK)
      refine Seg.step (pc' := 62) (I_iconst dX12_put_61 ⟨by decide, by decide⟩) ?_
      refine Seg.step (pc' := 66) (I_goto (tgt := 66) dX12_put_62 (by decide)) ?_
      exact S_arr (fun K hK => GG.forget (Lle.ye (Lle.ye (Lle.ye (Lle.ye (Lle.nil))))) hK)
    refine S_gd fun h14 => ?_
    refine Seg.step (pc' := 67) (I_iast (hE _ _ hs1) h14 dX12_put_66) ?_
    refine S_bM fun M15 => ?_
    refine Seg.step (pc' := 70) (I_iinc dX12_put_67 rfl (by decide) rfl) ?_
    refine Seg.step (pc' := 41) (I_goto (tgt := 41) dX12_put_70 (by decide)) ?_
    exact S_arr (fun K hK => GG.forget (Lle.ye (Lle.ye (Lle.ye (Lle.ye (Lle.nil))))) hK)
  exact S_vret dX12_put_73 rfl (by decide) (by decide) (fun K hK => hK)
theorem dX12_remember_0 : decode cX12_remember 0 = .ok (.aload_n 0, 1) := by decide +kernel
theorem dX12_remember_1 : decode cX12_remember 1 = .ok (.getfield 391, 3) := by decide +kernel
theorem dX12_remember_4 : decode cX12_remember 4 = .ok (.bipush 20, 2) := by decide +kernel
theorem dX12_remember_6 : decode cX12_remember 6 = .ok (.if_icmp .ne 43, 3) := by decide +kernel
theorem dX12_remember_9 : decode cX12_remember 9 = .ok (.iconst 0, 1) := by decide +kernel
theorem dX12_remember_10 : decode cX12_remember 10 = .ok (.istore_n 1, 1) := by decide +kernel
theorem dX12_remember_11 : decode cX12_remember 11 = .ok (.iload_n 1, 1) := by decide +kernel
theorem dX12_remember_12 : decode cX12_remember 12 = .ok (.sipush 152, 3) := by decide +kernel
theorem dX12_remember_15 : decode cX12_remember 15 = .ok (.if_icmp .ge 24, 3) := by decide +kernel
theorem dX12_remember_18 : decode cX12_remember 18 = .ok (.aload_n 0, 1) := by decide +kernel
theorem dX12_remember_19 : decode cX12_remember 19 = .ok (.getfield 151, 3) := by decide +kernel
theorem dX12_remember_22 : decode cX12_remember 22 = .ok (.iload_n 1, 1) := by decide +kernel
theorem dX12_remember_23 : decode cX12_remember 23 = .ok (.aload_n 0, 1) := by decide +kernel
theorem dX12_remember_24 : decode cX12_remember 24 = .ok (.getfield 151, 3) := by decide +kernel
theorem dX12_remember_27 : decode cX12_remember 27 = .ok (.iload_n 1, 1) := by decide +kernel
theorem dX12_remember_28 : decode cX12_remember 28 = .ok (.bipush 8, 2) := by decide +kernel
theorem dX12_remember_30 : decode cX12_remember 30 = .ok (.iadd, 1) := by decide +kernel
theorem dX12_remember_31 : decode cX12_remember 31 = .ok (.iaload, 1) := by decide +kernel
theorem dX12_remember_32 : decode cX12_remember 32 = .ok (.iastore, 1) := by decide +kernel
theorem dX12_remember_33 : decode cX12_remember 33 = .ok (.iinc 1 1, 3) := by decide +kernel
theorem dX12_remember_36 : decode cX12_remember 36 = .ok (.goto (-25), 3) := by decide +kernel
theorem dX12_remember_39 : decode cX12_remember 39 = .ok (.aload_n 0, 1) := by decide +kernel
theorem dX12_remember_40 : decode cX12_remember 40 = .ok (.dup, 1) := by decide +kernel
theorem dX12_remember_41 : decode cX12_remember 41 = .ok (.getfield 391, 3) := by decide +kernel
theorem dX12_remember_44 : decode cX12_remember 44 = .ok (.iconst 1, 1) := by decide +kernel
theorem dX12_remember_45 : decode cX12_remember 45 = .ok (.isub, 1) := by decide +kernel
theorem dX12_remember_46 : decode cX12_remember 46 = .ok (.putfield 391, 3) := by decide +kernel
theorem dX12_remember_49 : decode cX12_remember 49 = .ok (.aload_n 0, 1) := by decide +kernel
theorem dX12_remember_50 : decode cX12_remember 50 = .ok (.aload_n 0, 1) := by decide +kernel
theorem dX12_remember_51 : decode cX12_remember 51 = .ok (.getfield 151, 3) := by decide +kernel
theorem dX12_remember_54 : decode cX12_remember 54 = .ok (.bipush 8, 2) := by decide +kernel
theorem dX12_remember_56 : decode cX12_remember 56 = .ok (.aload_n 0, 1) := by decide +kernel
theorem dX12_remember_57 : decode cX12_remember 57 = .ok (.getfield 391, 3) := by decide +kernel
theorem dX12_remember_60 : decode cX12_remember 60 = .ok (.imul, 1) := by decide +kernel
theorem dX12_remember_61 : decode cX12_remember 61 = .ok (.invokevirtual 560, 3) := by decide +kernel
theorem dX12_remember_64 : decode cX12_remember 64 = .ok (.aload_n 0, 1) := by decide +kernel
theorem dX12_remember_65 : decode cX12_remember 65 = .ok (.dup, 1) := by decide +kernel
theorem dX12_remember_66 : decode cX12_remember 66 = .ok (.getfield 391, 3) := by decide +kernel
theorem dX12_remember_69 : decode cX12_remember 69 = .ok (.iconst 1, 1) := by decide +kernel
theorem dX12_remember_70 : decode cX12_remember 70 = .ok (.iadd, 1) := by decide +kernel
theorem dX12_remember_71 : decode cX12_remember 71 = .ok (.putfield 391, 3) := by decide +kernel
theorem dX12_remember_74 : decode cX12_remember 74 = .ok (.return_, 1) := by decide +kernel
def f_X12_remember (M : MM)  : Option (MM) :=
((if (M 88 85) = 20 then
((lp (X := Int × MM) (Y := MM) (fun x2 =>
if x2.1 < 152 then
(gd (0 ≤ w32 (x2.1 + 8) ∧ w32 (x2.1 + 8) < (160 : Int)) <|
gd (0 ≤ x2.1 ∧ x2.1 < (160 : Int)) <|
bM (upM x2.2 133 (x2.1).toNat (x2.2 133 (w32 (x2.1 + 8)).toNat)) fun M6 =>
some (Sum.inl (w32 (x2.1 + 1), M6)))
else
some (Sum.inr x2.2)) FU (0, M)).bind fun x7 =>
bM (upM x7 88 85 (w32 ((x7 88 85) - 1))) fun M8 =>
some M8)
else
some M) : Option (MM)).bind fun x9 =>
(f_X12_put x9 133 160 (w32 (8 * (x9 88 85)))).bind fun x10 =>
bM (upM x10 88 85 (w32 ((x10 88 85) + 1))) fun M11 =>
some M11
set_option maxRecDepth 4000 in
theorem c_X12_remember {E : EE} {sh : List (Nat × Nat)} {ex : Bool} {R : RM} {M : MM}  (hE : Ext sh) (hL : Links R) : ∀ y, f_X12_remember M = some y → MetC E m_X12_remember 0 0 [rV 88] (sh, ex, R, M) (fun r w' => r = none ∧ w' = (sh, ex, R, y)) := by
  intro y hy
  refine MetC.seg (o := f_X12_remember M) (t := (fun K y => K (none) (sh, ex, R, y))) (L := [some (rV 88), none]) (by decide) rfl (Nat.le_of_ble_eq_true rfl) ?_ hy ⟨rfl, rfl⟩
  unfold f_X12_remember
  refine Seg.step (pc' := 1) (I_aload_n (i := 0) dX12_remember_0 rfl rfl) ?_
  refine Seg.step (pc' := 4) (I_getI cls12 (by decide) wf_12_391 (hE _ _ sk_12) rfl dX12_remember_1) ?_
  refine Seg.step (pc' := 6) (I_bipush dX12_remember_4 (by decide) ⟨by decide, by decide⟩) ?_
  refine S_bind (Y := MM) (k' := 0) (n' := 0) 49 (fun y => [some (rV 88), none]) (fun y => []) (fun y => (sh, ex, R, y)) ?_ (fun x9 => ?_)
  · refine S_icmp_ne (tgt := 49) dX12_remember_6 (by decide) (fun h1 => ?_) (fun h1 => ?_)
    · refine Seg.step (pc' := 10) (I_iconst dX12_remember_9 ⟨by decide, by decide⟩) ?_
      refine Seg.step (pc' := 11) (I_istore_n (i := 1) dX12_remember_10 rfl (by decide) rfl) ?_
      refine Seg.forget (Lle.ye (Lle.ye (Lle.nil))) ?_
      refine S_bind (Y := MM) (k' := 0) (n' := 0) 39 (fun y => [some (rV 88), none]) (fun y => []) (fun y => (sh, ex, R, y)) (S_loop (Y := Int × MM) (fun y => [some (rV 88), some (iV y.1)]) (fun y => []) (fun y => (sh, ex, R, y.2)) (fun x2 => ?_) FU (0, M)) (fun x7 => ?_)
      · refine Seg.step (pc' := 12) (I_iload_n (i := 1) dX12_remember_11 rfl rfl) ?_
        refine Seg.step (pc' := 15) (I_sipush dX12_remember_12 (by decide) ⟨by decide, by decide⟩) ?_
        refine S_icmp_ge (tgt := 39) dX12_remember_15 (by decide) (fun h3 => ?_) (fun h3 => ?_)
        · refine Seg.step (pc' := 19) (I_aload_n (i := 0) dX12_remember_18 rfl rfl) ?_
          refine Seg.step (pc' := 22) (I_getR cls12 (by decide) wf_12_151 (hE _ _ sk_12) rfl (lk_12_86 hL) dX12_remember_19) ?_
          refine Seg.step (pc' := 23) (I_iload_n (i := 1) dX12_remember_22 rfl rfl) ?_
          refine Seg.step (pc' := 24) (I_aload_n (i := 0) dX12_remember_23 rfl rfl) ?_
          refine Seg.step (pc' := 27) (I_getR cls12 (by decide) wf_12_151 (hE _ _ sk_12) rfl (lk_12_86 hL) dX12_remember_24) ?_
          refine Seg.step (pc' := 28) (I_iload_n (i := 1) dX12_remember_27 rfl rfl) ?_
          refine Seg.step (pc' := 30) (I_bipush dX12_remember_28 (by decide) ⟨by decide, by decide⟩) ?_
          refine Seg.step (pc' := 31) (I_iadd dX12_remember_30) ?_
          refine S_gd fun h4 => ?_
          refine Seg.step (pc' := 32) (I_iald (hE _ _ sk_12_86) h4 dX12_remember_31) ?_
          refine S_gd fun h5 => ?_
          refine Seg.step (pc' := 33) (I_iast (hE _ _ sk_12_86) h5 dX12_remember_32) ?_
          refine S_bM fun M6 => ?_
          refine Seg.step (pc' := 36) (I_iinc dX12_remember_33 rfl (by decide) rfl) ?_
          refine Seg.step (pc' := 11) (I_goto (tgt := 11) dX12_remember_36 (by decide)) ?_
          exact S_arr (fun K hK => GG.forget (Lle.ye (Lle.ye (Lle.nil))) hK)
        exact S_arr (fun K hK => GG.forget (Lle.ye (Lle.no (Lle.nil))) hK)
      refine Seg.step (pc' := 40) (I_aload_n (i := 0) dX12_remember_39 rfl rfl) ?_
      refine Seg.step (pc' := 41) (I_dup dX12_remember_40 (fun _ h => by cases h)) ?_
      refine Seg.step (pc' := 44) (I_getI cls12 (by decide) wf_12_391 (hE _ _ sk_12) rfl dX12_remember_41) ?_
      refine Seg.step (pc' := 45) (I_iconst dX12_remember_44 ⟨by decide, by decide⟩) ?_
      refine Seg.step (pc' := 46) (I_isub dX12_remember_45) ?_
      refine Seg.step (pc' := 49) (I_putI cls12 (by decide) wf_12_391 (hE _ _ sk_12) rfl rfl dX12_remember_46) ?_
      refine S_bM fun M8 => ?_
      exact S_arr (fun K hK => GG.forget (Lle.ye (Lle.no (Lle.nil))) hK)
    exact S_arr (fun K hK => GG.forget (Lle.ye (Lle.no (Lle.nil))) hK)
  refine Seg.step (pc' := 50) (I_aload_n (i := 0) dX12_remember_49 rfl rfl) ?_
  refine Seg.step (pc' := 51) (I_aload_n (i := 0) dX12_remember_50 rfl rfl) ?_
  refine Seg.step (pc' := 54) (I_getR cls12 (by decide) wf_12_151 (hE _ _ sk_12) rfl (lk_12_86 hL) dX12_remember_51) ?_
  refine Seg.step (pc' := 56) (I_bipush dX12_remember_54 (by decide) ⟨by decide, by decide⟩) ?_
  refine Seg.step (pc' := 57) (I_aload_n (i := 0) dX12_remember_56 rfl rfl) ?_
  refine Seg.step (pc' := 60) (I_getI cls12 (by decide) wf_12_391 (hE _ _ sk_12) rfl dX12_remember_57) ?_
  refine Seg.step (pc' := 61) (I_imul dX12_remember_60) ?_
  refine S_callV2 (md' := m_X12_put) (fun y => none) (fun y => (sh, ex, R, y)) (hE _ _ sk_12) ⟨by decide, rfl⟩ mm_X12_put wm_12_560 ⟨rfl, rfl, by decide, by decide, by decide, by decide⟩ (Nat.le_of_ble_eq_true rfl) dX12_remember_61 (fun y hy => c_X12_put hE hL sk_12_86 y hy) (fun x10 => ?_)
  refine Seg.step (pc' := 65) (I_aload_n (i := 0) dX12_remember_64 rfl rfl) ?_
  refine Seg.step (pc' := 66) (I_dup dX12_remember_65 (fun _ h => by cases h)) ?_
  refine Seg.step (pc' := 69) (I_getI cls12 (by decide) wf_12_391 (hE _ _ sk_12) rfl dX12_remember_66) ?_
  refine Seg.step (pc' := 70) (I_iconst dX12_remember_69 ⟨by decide, by decide⟩) ?_
  refine Seg.step (pc' := 71) (I_iadd dX12_remember_70) ?_
  refine Seg.step (pc' := 74) (I_putI cls12 (by decide) wf_12_391 (hE _ _ sk_12) rfl rfl dX12_remember_71) ?_
  refine S_bM fun M11 => ?_
  exact S_vret dX12_remember_74 rfl (by decide) (by decide) (fun K hK => hK)
theorem dX12_set_0 : decode cX12_set 0 = .ok (.aload_n 0, 1) := by decide +kernel
theorem dX12_set_1 : decode cX12_set 1 = .ok (.iconst 0, 1) := by decide +kernel
theorem dX12_set_2 : decode cX12_set 2 = .ok (.putfield 175, 3) := by decide +kernel
theorem dX12_set_5 : decode cX12_set 5 = .ok (.iload_n 1, 1) := by decide +kernel
theorem dX12_set_6 : decode cX12_set 6 = .ok (.invokestatic 493, 3) := by decide +kernel
theorem dX12_set_9 : decode cX12_set 9 = .ok (.ifCond .eq 13, 3) := by decide +kernel
theorem dX12_set_12 : decode cX12_set 12 = .ok (.aload_n 0, 1) := by decide +kernel
theorem dX12_set_13 : decode cX12_set 13 = .ok (.getfield 112, 3) := by decide +kernel
theorem dX12_set_16 : decode cX12_set 16 = .ok (.iconst 0, 1) := by decide +kernel
theorem dX12_set_17 : decode cX12_set 17 = .ok (.iaload, 1) := by decide +kernel
theorem dX12_set_18 : decode cX12_set 18 = .ok (.iload_n 1, 1) := by decide +kernel
theorem dX12_set_19 : decode cX12_set 19 = .ok (.if_icmp .ne 5, 3) := by decide +kernel
theorem dX12_set_22 : decode cX12_set 22 = .ok (.iconst 0, 1) := by decide +kernel
theorem dX12_set_23 : decode cX12_set 23 = .ok (.ireturn, 1) := by decide +kernel
theorem dX12_set_24 : decode cX12_set 24 = .ok (.aload_n 0, 1) := by decide +kernel
theorem dX12_set_25 : decode cX12_set 25 = .ok (.invokevirtual 496, 3) := by decide +kernel
theorem dX12_set_28 : decode cX12_set 28 = .ok (.aload_n 0, 1) := by decide +kernel
theorem dX12_set_29 : decode cX12_set 29 = .ok (.getfield 112, 3) := by decide +kernel
theorem dX12_set_32 : decode cX12_set 32 = .ok (.iconst 0, 1) := by decide +kernel
theorem dX12_set_33 : decode cX12_set 33 = .ok (.iload_n 1, 1) := by decide +kernel
theorem dX12_set_34 : decode cX12_set 34 = .ok (.iastore, 1) := by decide +kernel
theorem dX12_set_35 : decode cX12_set 35 = .ok (.iconst 1, 1) := by decide +kernel
theorem dX12_set_36 : decode cX12_set 36 = .ok (.ireturn, 1) := by decide +kernel
def f_X12_set (M : MM) (p1 : Int) : Option (Int × MM) :=
bM (upM M 88 2 0) fun M1 =>
(f_X12_isSet M1 p1).bind fun x2 =>
if x2 = 0 then
(some (0, M1))
else
if (M1 121 0) = p1 then
(some (0, M1))
else
(f_X12_remember M1).bind fun x5 =>
bM (upM x5 121 0 p1) fun M6 =>
some (1, M6)
set_option maxRecDepth 4000 in
theorem c_X12_set {E : EE} {sh : List (Nat × Nat)} {ex : Bool} {R : RM} {M : MM} {p1 : Int} (hE : Ext sh) (hL : Links R) : ∀ y, f_X12_set M p1 = some y → MetC E m_X12_set 0 0 [rV 88, iV p1] (sh, ex, R, M) (fun r w' => r = some (iV y.1) ∧ w' = (sh, ex, R, y.2)) := by
  intro y hy
  refine MetC.seg (o := f_X12_set M p1) (t := (fun K y => K (some (iV y.1)) (sh, ex, R, y.2))) (L := [some (rV 88), some (iV p1)]) (by decide) rfl (Nat.le_of_ble_eq_true rfl) ?_ hy ⟨rfl, rfl⟩
  unfold f_X12_set
  refine Seg.step (pc' := 1) (I_aload_n (i := 0) dX12_set_0 rfl rfl) ?_
  refine Seg.step (pc' := 2) (I_iconst dX12_set_1 ⟨by decide, by decide⟩) ?_
  refine Seg.step (pc' := 5) (I_putI cls12 (by decide) wf_12_175 (hE _ _ sk_12) rfl rfl dX12_set_2) ?_
  refine S_bM fun M1 => ?_
  refine Seg.step (pc' := 6) (I_iload_n (i := 1) dX12_set_5 rfl rfl) ?_
  refine S_callS1 (md' := m_X12_isSet) (fun y => some (iV y)) (fun y => (sh, ex, R, M1)) mm_X12_isSet wm_12_493 ⟨rfl, rfl, by decide, by decide, by decide, by decide⟩ (Nat.le_of_ble_eq_true rfl) dX12_set_6 (fun y hy => c_X12_isSet hE hL y hy) (fun x2 => ?_)
  refine S_if_eq (tgt := 22) dX12_set_9 (by decide) (fun h3 => ?_) (fun h3 => ?_)
  · refine Seg.step (pc' := 23) (I_iconst dX12_set_22 ⟨by decide, by decide⟩) ?_
    exact S_zret dX12_set_23 rfl (by decide) (by decide) (by decide) (fun K hK => hK)
  refine Seg.step (pc' := 13) (I_aload_n (i := 0) dX12_set_12 rfl rfl) ?_
  refine Seg.step (pc' := 16) (I_getR cls12 (by decide) wf_12_112 (hE _ _ sk_12) rfl (lk_12_59 hL) dX12_set_13) ?_
  refine Seg.step (pc' := 17) (I_iconst dX12_set_16 ⟨by decide, by decide⟩) ?_
  refine Seg.step (pc' := 18) (I_iald (hE _ _ sk_12_59) ⟨by decide, by decide⟩ dX12_set_17) ?_
  refine Seg.step (pc' := 19) (I_iload_n (i := 1) dX12_set_18 rfl rfl) ?_
  refine S_icmp_ne (tgt := 24) dX12_set_19 (by decide) (fun h4 => ?_) (fun h4 => ?_)
  · refine Seg.step (pc' := 23) (I_iconst dX12_set_22 ⟨by decide, by decide⟩) ?_
    exact S_zret dX12_set_23 rfl (by decide) (by decide) (by decide) (fun K hK => hK)
  refine Seg.step (pc' := 25) (I_aload_n (i := 0) dX12_set_24 rfl rfl) ?_
  refine S_callV0 (md' := m_X12_remember) (fun y => none) (fun y => (sh, ex, R, y)) (hE _ _ sk_12) ⟨by decide, rfl⟩ mm_X12_remember wm_12_496 ⟨rfl, rfl, by decide, by decide, by decide, by decide⟩ (Nat.le_of_ble_eq_true rfl) dX12_set_25 (fun y hy => c_X12_remember hE hL y hy) (fun x5 => ?_)
  refine Seg.step (pc' := 29) (I_aload_n (i := 0) dX12_set_28 rfl rfl) ?_
  refine Seg.step (pc' := 32) (I_getR cls12 (by decide) wf_12_112 (hE _ _ sk_12) rfl (lk_12_59 hL) dX12_set_29) ?_
  refine Seg.step (pc' := 33) (I_iconst dX12_set_32 ⟨by decide, by decide⟩) ?_
  refine Seg.step (pc' := 34) (I_iload_n (i := 1) dX12_set_33 rfl rfl) ?_
  refine Seg.step (pc' := 35) (I_iast (hE _ _ sk_12_59) ⟨by decide, by decide⟩ dX12_set_34) ?_
  refine S_bM fun M6 => ?_
  refine Seg.step (pc' := 36) (I_iconst dX12_set_35 ⟨by decide, by decide⟩) ?_
  exact S_zret dX12_set_36 rfl (by decide) (by decide) (by decide) (fun K hK => hK)
theorem dX12_hang_0 : decode cX12_hang 0 = .ok (.aload_n 0, 1) := by decide +kernel
theorem dX12_hang_1 : decode cX12_hang 1 = .ok (.iconst 0, 1) := by decide +kernel
theorem dX12_hang_2 : decode cX12_hang 2 = .ok (.putfield 175, 3) := by decide +kernel
theorem dX12_hang_5 : decode cX12_hang 5 = .ok (.aload_n 0, 1) := by decide +kernel
theorem dX12_hang_6 : decode cX12_hang 6 = .ok (.iload_n 1, 1) := by decide +kernel
theorem dX12_hang_7 : decode cX12_hang 7 = .ok (.invokevirtual 488, 3) := by decide +kernel
theorem dX12_hang_10 : decode cX12_hang 10 = .ok (.ifCond .eq 13, 3) := by decide +kernel
theorem dX12_hang_13 : decode cX12_hang 13 = .ok (.aload_n 0, 1) := by decide +kernel
theorem dX12_hang_14 : decode cX12_hang 14 = .ok (.getfield 115, 3) := by decide +kernel
theorem dX12_hang_17 : decode cX12_hang 17 = .ok (.iconst 0, 1) := by decide +kernel
theorem dX12_hang_18 : decode cX12_hang 18 = .ok (.iaload, 1) := by decide +kernel
theorem dX12_hang_19 : decode cX12_hang 19 = .ok (.iload_n 1, 1) := by decide +kernel
theorem dX12_hang_20 : decode cX12_hang 20 = .ok (.if_icmp .ne 5, 3) := by decide +kernel
theorem dX12_hang_23 : decode cX12_hang 23 = .ok (.iconst 0, 1) := by decide +kernel
theorem dX12_hang_24 : decode cX12_hang 24 = .ok (.ireturn, 1) := by decide +kernel
theorem dX12_hang_25 : decode cX12_hang 25 = .ok (.aload_n 0, 1) := by decide +kernel
theorem dX12_hang_26 : decode cX12_hang 26 = .ok (.invokevirtual 496, 3) := by decide +kernel
theorem dX12_hang_29 : decode cX12_hang 29 = .ok (.aload_n 0, 1) := by decide +kernel
theorem dX12_hang_30 : decode cX12_hang 30 = .ok (.getfield 115, 3) := by decide +kernel
theorem dX12_hang_33 : decode cX12_hang 33 = .ok (.iconst 0, 1) := by decide +kernel
theorem dX12_hang_34 : decode cX12_hang 34 = .ok (.iload_n 1, 1) := by decide +kernel
theorem dX12_hang_35 : decode cX12_hang 35 = .ok (.iastore, 1) := by decide +kernel
theorem dX12_hang_36 : decode cX12_hang 36 = .ok (.iconst 1, 1) := by decide +kernel
theorem dX12_hang_37 : decode cX12_hang 37 = .ok (.ireturn, 1) := by decide +kernel
def f_X12_hang (M : MM) (p1 : Int) : Option (Int × MM) :=
bM (upM M 88 2 0) fun M1 =>
(f_X12_isRoom M1 p1).bind fun x2 =>
if x2 = 0 then
(some (0, M1))
else
if (M1 122 0) = p1 then
(some (0, M1))
else
(f_X12_remember M1).bind fun x5 =>
bM (upM x5 122 0 p1) fun M6 =>
some (1, M6)
set_option maxRecDepth 4000 in
theorem c_X12_hang {E : EE} {sh : List (Nat × Nat)} {ex : Bool} {R : RM} {M : MM} {p1 : Int} (hE : Ext sh) (hL : Links R) : ∀ y, f_X12_hang M p1 = some y → MetC E m_X12_hang 0 0 [rV 88, iV p1] (sh, ex, R, M) (fun r w' => r = some (iV y.1) ∧ w' = (sh, ex, R, y.2)) := by
  intro y hy
  refine MetC.seg (o := f_X12_hang M p1) (t := (fun K y => K (some (iV y.1)) (sh, ex, R, y.2))) (L := [some (rV 88), some (iV p1)]) (by decide) rfl (Nat.le_of_ble_eq_true rfl) ?_ hy ⟨rfl, rfl⟩
  unfold f_X12_hang
  refine Seg.step (pc' := 1) (I_aload_n (i := 0) dX12_hang_0 rfl rfl) ?_
  refine Seg.step (pc' := 2) (I_iconst dX12_hang_1 ⟨by decide, by decide⟩) ?_
  refine Seg.step (pc' := 5) (I_putI cls12 (by decide) wf_12_175 (hE _ _ sk_12) rfl rfl dX12_hang_2) ?_
  refine S_bM fun M1 => ?_
  refine Seg.step (pc' := 6) (I_aload_n (i := 0) dX12_hang_5 rfl rfl) ?_
  refine Seg.step (pc' := 7) (I_iload_n (i := 1) dX12_hang_6 rfl rfl) ?_
  refine S_callV1 (md' := m_X12_isRoom) (fun y => some (iV y)) (fun y => (sh, ex, R, M1)) (hE _ _ sk_12) ⟨by decide, rfl⟩ mm_X12_isRoom wm_12_488 ⟨rfl, rfl, by decide, by decide, by decide, by decide⟩ (Nat.le_of_ble_eq_true rfl) dX12_hang_7 (fun y hy => c_X12_isRoom hE hL y hy) (fun x2 => ?_)
  refine S_if_eq (tgt := 23) dX12_hang_10 (by decide) (fun h3 => ?_) (fun h3 => ?_)
  · refine Seg.step (pc' := 24) (I_iconst dX12_hang_23 ⟨by decide, by decide⟩) ?_
    exact S_zret dX12_hang_24 rfl (by decide) (by decide) (by decide) (fun K hK => hK)
  refine Seg.step (pc' := 14) (I_aload_n (i := 0) dX12_hang_13 rfl rfl) ?_
  refine Seg.step (pc' := 17) (I_getR cls12 (by decide) wf_12_115 (hE _ _ sk_12) rfl (lk_12_60 hL) dX12_hang_14) ?_
  refine Seg.step (pc' := 18) (I_iconst dX12_hang_17 ⟨by decide, by decide⟩) ?_
  refine Seg.step (pc' := 19) (I_iald (hE _ _ sk_12_60) ⟨by decide, by decide⟩ dX12_hang_18) ?_
  refine Seg.step (pc' := 20) (I_iload_n (i := 1) dX12_hang_19 rfl rfl) ?_
  refine S_icmp_ne (tgt := 25) dX12_hang_20 (by decide) (fun h4 => ?_) (fun h4 => ?_)
  · refine Seg.step (pc' := 24) (I_iconst dX12_hang_23 ⟨by decide, by decide⟩) ?_
    exact S_zret dX12_hang_24 rfl (by decide) (by decide) (by decide) (fun K hK => hK)
  refine Seg.step (pc' := 26) (I_aload_n (i := 0) dX12_hang_25 rfl rfl) ?_
  refine S_callV0 (md' := m_X12_remember) (fun y => none) (fun y => (sh, ex, R, y)) (hE _ _ sk_12) ⟨by decide, rfl⟩ mm_X12_remember wm_12_496 ⟨rfl, rfl, by decide, by decide, by decide, by decide⟩ (Nat.le_of_ble_eq_true rfl) dX12_hang_26 (fun y hy => c_X12_remember hE hL y hy) (fun x5 => ?_)
  refine Seg.step (pc' := 30) (I_aload_n (i := 0) dX12_hang_29 rfl rfl) ?_
  refine Seg.step (pc' := 33) (I_getR cls12 (by decide) wf_12_115 (hE _ _ sk_12) rfl (lk_12_60 hL) dX12_hang_30) ?_
  refine Seg.step (pc' := 34) (I_iconst dX12_hang_33 ⟨by decide, by decide⟩) ?_
  refine Seg.step (pc' := 35) (I_iload_n (i := 1) dX12_hang_34 rfl rfl) ?_
  refine Seg.step (pc' := 36) (I_iast (hE _ _ sk_12_60) ⟨by decide, by decide⟩ dX12_hang_35) ?_
  refine S_bM fun M6 => ?_
  refine Seg.step (pc' := 37) (I_iconst dX12_hang_36 ⟨by decide, by decide⟩) ?_
  exact S_zret dX12_hang_37 rfl (by decide) (by decide) (by decide) (fun K hK => hK)
