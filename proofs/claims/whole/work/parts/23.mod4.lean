theorem dX12_candle_0 : decode cX12_candle 0 = .ok (.aload_n 0, 1) := by decide +kernel
theorem dX12_candle_1 : decode cX12_candle 1 = .ok (.iconst 0, 1) := by decide +kernel
theorem dX12_candle_2 : decode cX12_candle 2 = .ok (.putfield 175, 3) := by decide +kernel
theorem dX12_candle_5 : decode cX12_candle 5 = .ok (.aload_n 0, 1) := by decide +kernel
theorem dX12_candle_6 : decode cX12_candle 6 = .ok (.getfield 118, 3) := by decide +kernel
theorem dX12_candle_9 : decode cX12_candle 9 = .ok (.iconst 0, 1) := by decide +kernel
theorem dX12_candle_10 : decode cX12_candle 10 = .ok (.baload, 1) := by decide +kernel
theorem dX12_candle_11 : decode cX12_candle 11 = .ok (.iload_n 1, 1) := by decide +kernel
theorem dX12_candle_12 : decode cX12_candle 12 = .ok (.if_icmp .ne 5, 3) := by decide +kernel
theorem dX12_candle_15 : decode cX12_candle 15 = .ok (.iconst 0, 1) := by decide +kernel
theorem dX12_candle_16 : decode cX12_candle 16 = .ok (.ireturn, 1) := by decide +kernel
theorem dX12_candle_17 : decode cX12_candle 17 = .ok (.aload_n 0, 1) := by decide +kernel
theorem dX12_candle_18 : decode cX12_candle 18 = .ok (.invokevirtual 496, 3) := by decide +kernel
theorem dX12_candle_21 : decode cX12_candle 21 = .ok (.aload_n 0, 1) := by decide +kernel
theorem dX12_candle_22 : decode cX12_candle 22 = .ok (.getfield 118, 3) := by decide +kernel
theorem dX12_candle_25 : decode cX12_candle 25 = .ok (.iconst 0, 1) := by decide +kernel
theorem dX12_candle_26 : decode cX12_candle 26 = .ok (.iload_n 1, 1) := by decide +kernel
theorem dX12_candle_27 : decode cX12_candle 27 = .ok (.bastore, 1) := by decide +kernel
theorem dX12_candle_28 : decode cX12_candle 28 = .ok (.iconst 1, 1) := by decide +kernel
theorem dX12_candle_29 : decode cX12_candle 29 = .ok (.ireturn, 1) := by decide +kernel
def f_X12_candle (M : MM) (p1 : Int) : Option (Int × MM) :=
bM (upM M 88 2 0) fun M1 =>
if (M1 123 0) = p1 then
(some (0, M1))
else
(f_X12_remember M1).bind fun x3 =>
gd (p1 = 0 ∨ p1 = 1) <|
bM (upM x3 123 0 p1) fun M5 =>
some (1, M5)
set_option maxRecDepth 4000 in
theorem c_X12_candle {E : EE} {sh : List (Nat × Nat)} {ex : Bool} {R : RM} {M : MM} {p1 : Int} (hE : Ext sh) (hL : Links R) : ∀ y, f_X12_candle M p1 = some y → MetC E m_X12_candle 0 0 [rV 88, iV p1] (sh, ex, R, M) (fun r w' => r = some (iV y.1) ∧ w' = (sh, ex, R, y.2)) := by
  intro y hy
  refine MetC.seg (o := f_X12_candle M p1) (t := (fun K y => K (some (iV y.1)) (sh, ex, R, y.2))) (L := [some (rV 88), some (iV p1)]) (by decide) rfl (Nat.le_of_ble_eq_true rfl) ?_ hy ⟨rfl, rfl⟩
  unfold f_X12_candle
  refine Seg.step (pc' := 1) (I_aload_n (i := 0) dX12_candle_0 rfl rfl) ?_
  refine Seg.step (pc' := 2) (I_iconst dX12_candle_1 ⟨by decide, by decide⟩) ?_
  refine Seg.step (pc' := 5) (I_putI cls12 (by decide) wf_12_175 (hE _ _ sk_12) rfl rfl dX12_candle_2) ?_
  refine S_bM fun M1 => ?_
  refine Seg.step (pc' := 6) (I_aload_n (i := 0) dX12_candle_5 rfl rfl) ?_
  refine Seg.step (pc' := 9) (I_getR cls12 (by decide) wf_12_118 (hE _ _ sk_12) rfl (lk_12_61 hL) dX12_candle_6) ?_
  refine Seg.step (pc' := 10) (I_iconst dX12_candle_9 ⟨by decide, by decide⟩) ?_
  refine Seg.step (pc' := 11) (I_zald (hE _ _ sk_12_61) ⟨by decide, by decide⟩ dX12_candle_10) ?_
  refine Seg.step (pc' := 12) (I_iload_n (i := 1) dX12_candle_11 rfl rfl) ?_
  refine S_icmp_ne (tgt := 17) dX12_candle_12 (by decide) (fun h2 => ?_) (fun h2 => ?_)
  · refine Seg.step (pc' := 16) (I_iconst dX12_candle_15 ⟨by decide, by decide⟩) ?_
    exact S_zret dX12_candle_16 rfl (by decide) (by decide) (by decide) (fun K hK => hK)
  refine Seg.step (pc' := 18) (I_aload_n (i := 0) dX12_candle_17 rfl rfl) ?_
  refine S_callV0 (md' := m_X12_remember) (fun y => none) (fun y => (sh, ex, R, y)) (hE _ _ sk_12) ⟨by decide, rfl⟩ mm_X12_remember wm_12_496 ⟨rfl, rfl, by decide, by decide, by decide, by decide⟩ (Nat.le_of_ble_eq_true rfl) dX12_candle_18 (fun y hy => c_X12_remember hE hL y hy) (fun x3 => ?_)
  refine Seg.step (pc' := 22) (I_aload_n (i := 0) dX12_candle_21 rfl rfl) ?_
  refine Seg.step (pc' := 25) (I_getR cls12 (by decide) wf_12_118 (hE _ _ sk_12) rfl (lk_12_61 hL) dX12_candle_22) ?_
  refine Seg.step (pc' := 26) (I_iconst dX12_candle_25 ⟨by decide, by decide⟩) ?_
  refine Seg.step (pc' := 27) (I_iload_n (i := 1) dX12_candle_26 rfl rfl) ?_
  refine S_gd fun h4 => ?_
  refine Seg.step (pc' := 28) (I_zast (hE _ _ sk_12_61) ⟨by decide, by decide⟩ h4 dX12_candle_27) ?_
  refine S_bM fun M5 => ?_
  refine Seg.step (pc' := 29) (I_iconst dX12_candle_28 ⟨by decide, by decide⟩) ?_
  exact S_zret dX12_candle_29 rfl (by decide) (by decide) (by decide) (fun K hK => hK)
theorem dX12_jumper_0 : decode cX12_jumper 0 = .ok (.aload_n 0, 1) := by decide +kernel
theorem dX12_jumper_1 : decode cX12_jumper 1 = .ok (.iconst 0, 1) := by decide +kernel
theorem dX12_jumper_2 : decode cX12_jumper 2 = .ok (.putfield 175, 3) := by decide +kernel
theorem dX12_jumper_5 : decode cX12_jumper 5 = .ok (.aload_n 0, 1) := by decide +kernel
theorem dX12_jumper_6 : decode cX12_jumper 6 = .ok (.iload_n 1, 1) := by decide +kernel
theorem dX12_jumper_7 : decode cX12_jumper 7 = .ok (.invokevirtual 482, 3) := by decide +kernel
theorem dX12_jumper_10 : decode cX12_jumper 10 = .ok (.ifCond .eq 13, 3) := by decide +kernel
theorem dX12_jumper_13 : decode cX12_jumper 13 = .ok (.aload_n 0, 1) := by decide +kernel
theorem dX12_jumper_14 : decode cX12_jumper 14 = .ok (.getfield 109, 3) := by decide +kernel
theorem dX12_jumper_17 : decode cX12_jumper 17 = .ok (.iload_n 1, 1) := by decide +kernel
theorem dX12_jumper_18 : decode cX12_jumper 18 = .ok (.baload, 1) := by decide +kernel
theorem dX12_jumper_19 : decode cX12_jumper 19 = .ok (.iload_n 2, 1) := by decide +kernel
theorem dX12_jumper_20 : decode cX12_jumper 20 = .ok (.if_icmp .ne 5, 3) := by decide +kernel
theorem dX12_jumper_23 : decode cX12_jumper 23 = .ok (.iconst 0, 1) := by decide +kernel
theorem dX12_jumper_24 : decode cX12_jumper 24 = .ok (.ireturn, 1) := by decide +kernel
theorem dX12_jumper_25 : decode cX12_jumper 25 = .ok (.aload_n 0, 1) := by decide +kernel
theorem dX12_jumper_26 : decode cX12_jumper 26 = .ok (.invokevirtual 496, 3) := by decide +kernel
theorem dX12_jumper_29 : decode cX12_jumper 29 = .ok (.aload_n 0, 1) := by decide +kernel
theorem dX12_jumper_30 : decode cX12_jumper 30 = .ok (.getfield 109, 3) := by decide +kernel
theorem dX12_jumper_33 : decode cX12_jumper 33 = .ok (.iload_n 1, 1) := by decide +kernel
theorem dX12_jumper_34 : decode cX12_jumper 34 = .ok (.iload_n 2, 1) := by decide +kernel
theorem dX12_jumper_35 : decode cX12_jumper 35 = .ok (.bastore, 1) := by decide +kernel
theorem dX12_jumper_36 : decode cX12_jumper 36 = .ok (.iconst 1, 1) := by decide +kernel
theorem dX12_jumper_37 : decode cX12_jumper 37 = .ok (.ireturn, 1) := by decide +kernel
def f_X12_jumper (M : MM) (p1 : Int) (p2 : Int) : Option (Int × MM) :=
bM (upM M 88 2 0) fun M1 =>
(f_X12_isPerson M1 p1).bind fun x2 =>
if x2 = 0 then
(some (0, M1))
else
gd (0 ≤ p1 ∧ p1 < (10 : Int)) <|
if (M1 120 (p1).toNat) = p2 then
(some (0, M1))
else
(f_X12_remember M1).bind fun x6 =>
gd (0 ≤ p1 ∧ p1 < (10 : Int)) <|
gd (p2 = 0 ∨ p2 = 1) <|
bM (upM x6 120 (p1).toNat p2) fun M9 =>
some (1, M9)
set_option maxRecDepth 4000 in
theorem c_X12_jumper {E : EE} {sh : List (Nat × Nat)} {ex : Bool} {R : RM} {M : MM} {p1 : Int} {p2 : Int} (hE : Ext sh) (hL : Links R) : ∀ y, f_X12_jumper M p1 p2 = some y → MetC E m_X12_jumper 0 0 [rV 88, iV p1, iV p2] (sh, ex, R, M) (fun r w' => r = some (iV y.1) ∧ w' = (sh, ex, R, y.2)) := by
  intro y hy
  refine MetC.seg (o := f_X12_jumper M p1 p2) (t := (fun K y => K (some (iV y.1)) (sh, ex, R, y.2))) (L := [some (rV 88), some (iV p1), some (iV p2)]) (by decide) rfl (Nat.le_of_ble_eq_true rfl) ?_ hy ⟨rfl, rfl⟩
  unfold f_X12_jumper
  refine Seg.step (pc' := 1) (I_aload_n (i := 0) dX12_jumper_0 rfl rfl) ?_
  refine Seg.step (pc' := 2) (I_iconst dX12_jumper_1 ⟨by decide, by decide⟩) ?_
  refine Seg.step (pc' := 5) (I_putI cls12 (by decide) wf_12_175 (hE _ _ sk_12) rfl rfl dX12_jumper_2) ?_
  refine S_bM fun M1 => ?_
  refine Seg.step (pc' := 6) (I_aload_n (i := 0) dX12_jumper_5 rfl rfl) ?_
  refine Seg.step (pc' := 7) (I_iload_n (i := 1) dX12_jumper_6 rfl rfl) ?_
  refine S_callV1 (md' := m_X12_isPerson) (fun y => some (iV y)) (fun y => (sh, ex, R, M1)) (hE _ _ sk_12) ⟨by decide, rfl⟩ mm_X12_isPerson wm_12_482 ⟨rfl, rfl, by decide, by decide, by decide, by decide⟩ (Nat.le_of_ble_eq_true rfl) dX12_jumper_7 (fun y hy => c_X12_isPerson hE hL y hy) (fun x2 => ?_)
  refine S_if_eq (tgt := 23) dX12_jumper_10 (by decide) (fun h3 => ?_) (fun h3 => ?_)
  · refine Seg.step (pc' := 24) (I_iconst dX12_jumper_23 ⟨by decide, by decide⟩) ?_
    exact S_zret dX12_jumper_24 rfl (by decide) (by decide) (by decide) (fun K hK => hK)
  refine Seg.step (pc' := 14) (I_aload_n (i := 0) dX12_jumper_13 rfl rfl) ?_
  refine Seg.step (pc' := 17) (I_getR cls12 (by decide) wf_12_109 (hE _ _ sk_12) rfl (lk_12_58 hL) dX12_jumper_14) ?_
  refine Seg.step (pc' := 18) (I_iload_n (i := 1) dX12_jumper_17 rfl rfl) ?_
  refine S_gd fun h4 => ?_
  refine Seg.step (pc' := 19) (I_zald (hE _ _ sk_12_58) h4 dX12_jumper_18) ?_
  refine Seg.step (pc' := 20) (I_iload_n (i := 2) dX12_jumper_19 rfl rfl) ?_
  refine S_icmp_ne (tgt := 25) dX12_jumper_20 (by decide) (fun h5 => ?_) (fun h5 => ?_)
  · refine Seg.step (pc' := 24) (I_iconst dX12_jumper_23 ⟨by decide, by decide⟩) ?_
    exact S_zret dX12_jumper_24 rfl (by decide) (by decide) (by decide) (fun K hK => hK)
  refine Seg.step (pc' := 26) (I_aload_n (i := 0) dX12_jumper_25 rfl rfl) ?_
  refine S_callV0 (md' := m_X12_remember) (fun y => none) (fun y => (sh, ex, R, y)) (hE _ _ sk_12) ⟨by decide, rfl⟩ mm_X12_remember wm_12_496 ⟨rfl, rfl, by decide, by decide, by decide, by decide⟩ (Nat.le_of_ble_eq_true rfl) dX12_jumper_26 (fun y hy => c_X12_remember hE hL y hy) (fun x6 => ?_)
  refine Seg.step (pc' := 30) (I_aload_n (i := 0) dX12_jumper_29 rfl rfl) ?_
  refine Seg.step (pc' := 33) (I_getR cls12 (by decide) wf_12_109 (hE _ _ sk_12) rfl (lk_12_58 hL) dX12_jumper_30) ?_
  refine Seg.step (pc' := 34) (I_iload_n (i := 1) dX12_jumper_33 rfl rfl) ?_
  refine Seg.step (pc' := 35) (I_iload_n (i := 2) dX12_jumper_34 rfl rfl) ?_
  refine S_gd fun h7 => ?_
  refine S_gd fun h8 => ?_
  refine Seg.step (pc' := 36) (I_zast (hE _ _ sk_12_58) h7 h8 dX12_jumper_35) ?_
  refine S_bM fun M9 => ?_
  refine Seg.step (pc' := 37) (I_iconst dX12_jumper_36 ⟨by decide, by decide⟩) ?_
  exact S_zret dX12_jumper_37 rfl (by decide) (by decide) (by decide) (fun K hK => hK)
theorem dX12_go_0 : decode cX12_go 0 = .ok (.aload_n 0, 1) := by decide +kernel
theorem dX12_go_1 : decode cX12_go 1 = .ok (.iconst 0, 1) := by decide +kernel
theorem dX12_go_2 : decode cX12_go 2 = .ok (.putfield 175, 3) := by decide +kernel
theorem dX12_go_5 : decode cX12_go 5 = .ok (.iload_n 1, 1) := by decide +kernel
theorem dX12_go_6 : decode cX12_go 6 = .ok (.iconst 0, 1) := by decide +kernel
theorem dX12_go_7 : decode cX12_go 7 = .ok (.bipush 99, 2) := by decide +kernel
theorem dX12_go_9 : decode cX12_go 9 = .ok (.invokestatic 220, 3) := by decide +kernel
theorem dX12_go_12 : decode cX12_go 12 = .ok (.ifCond .eq 17, 3) := by decide +kernel
theorem dX12_go_15 : decode cX12_go 15 = .ok (.aload_n 0, 1) := by decide +kernel
theorem dX12_go_16 : decode cX12_go 16 = .ok (.getfield 130, 3) := by decide +kernel
theorem dX12_go_19 : decode cX12_go 19 = .ok (.iconst 0, 1) := by decide +kernel
theorem dX12_go_20 : decode cX12_go 20 = .ok (.iaload, 1) := by decide +kernel
theorem dX12_go_21 : decode cX12_go 21 = .ok (.iload_n 1, 1) := by decide +kernel
theorem dX12_go_22 : decode cX12_go 22 = .ok (.iadd, 1) := by decide +kernel
theorem dX12_go_23 : decode cX12_go 23 = .ok (.sipush 9900, 3) := by decide +kernel
theorem dX12_go_26 : decode cX12_go 26 = .ok (.if_icmp .le 5, 3) := by decide +kernel
theorem dX12_go_29 : decode cX12_go 29 = .ok (.iconst (-1), 1) := by decide +kernel
theorem dX12_go_30 : decode cX12_go 30 = .ok (.ireturn, 1) := by decide +kernel
theorem dX12_go_31 : decode cX12_go 31 = .ok (.aload_n 0, 1) := by decide +kernel
theorem dX12_go_32 : decode cX12_go 32 = .ok (.invokevirtual 385, 3) := by decide +kernel
theorem dX12_go_35 : decode cX12_go 35 = .ok (.iconst 0, 1) := by decide +kernel
theorem dX12_go_36 : decode cX12_go 36 = .ok (.istore_n 2, 1) := by decide +kernel
theorem dX12_go_37 : decode cX12_go 37 = .ok (.iload_n 2, 1) := by decide +kernel
theorem dX12_go_38 : decode cX12_go 38 = .ok (.iload_n 1, 1) := by decide +kernel
theorem dX12_go_39 : decode cX12_go 39 = .ok (.if_icmp .ge 14, 3) := by decide +kernel
theorem dX12_go_42 : decode cX12_go 42 = .ok (.aload_n 0, 1) := by decide +kernel
theorem dX12_go_43 : decode cX12_go 43 = .ok (.iconst 0, 1) := by decide +kernel
theorem dX12_go_44 : decode cX12_go 44 = .ok (.invokevirtual 479, 3) := by decide +kernel
theorem dX12_go_47 : decode cX12_go 47 = .ok (.iinc 2 1, 3) := by decide +kernel
theorem dX12_go_50 : decode cX12_go 50 = .ok (.goto (-13), 3) := by decide +kernel
theorem dX12_go_53 : decode cX12_go 53 = .ok (.aload_n 0, 1) := by decide +kernel
theorem dX12_go_54 : decode cX12_go 54 = .ok (.iload_n 1, 1) := by decide +kernel
theorem dX12_go_55 : decode cX12_go 55 = .ok (.ifCond .le 7, 3) := by decide +kernel
theorem dX12_go_58 : decode cX12_go 58 = .ok (.iconst 0, 1) := by decide +kernel
theorem dX12_go_59 : decode cX12_go 59 = .ok (.goto 7, 3) := by decide +kernel
theorem dX12_go_62 : decode cX12_go 62 = .ok (.aload_n 0, 1) := by decide +kernel
theorem dX12_go_63 : decode cX12_go 63 = .ok (.getfield 391, 3) := by decide +kernel
theorem dX12_go_66 : decode cX12_go 66 = .ok (.putfield 391, 3) := by decide +kernel
theorem dX12_go_69 : decode cX12_go 69 = .ok (.aload_n 0, 1) := by decide +kernel
theorem dX12_go_70 : decode cX12_go 70 = .ok (.getfield 130, 3) := by decide +kernel
theorem dX12_go_73 : decode cX12_go 73 = .ok (.iconst 0, 1) := by decide +kernel
theorem dX12_go_74 : decode cX12_go 74 = .ok (.iaload, 1) := by decide +kernel
theorem dX12_go_75 : decode cX12_go 75 = .ok (.ireturn, 1) := by decide +kernel
def f_X12_go (M : MM) (p1 : Int) : Option (Int × MM) :=
bM (upM M 88 2 0) fun M1 =>
(f_X12_isIn M1 p1 0 99).bind fun x2 =>
if x2 = 0 then
(some ((-1), M1))
else
if 9900 < (w32 ((M1 127 0) + p1)) then
(some ((-1), M1))
else
(f_X12_plainTried M1).bind fun x5 =>
(lp (X := Int × MM) (Y := MM) (fun x6 =>
if x6.1 < p1 then
((f_X12_goOn x6.2 0).bind fun x8 =>
some (Sum.inl (w32 (x6.1 + 1), x8)))
else
some (Sum.inr x6.2)) FU (0, x5)).bind fun x9 =>
((if 0 < p1 then
(some 0)
else
some (x9 88 85)) : Option (Int)).bind fun x11 =>
bM (upM x9 88 85 x11) fun M12 =>
some (M12 127 0, M12)
set_option maxRecDepth 4000 in
theorem c_X12_go {E : EE} {sh : List (Nat × Nat)} {ex : Bool} {R : RM} {M : MM} {p1 : Int} (hE : Ext sh) (hL : Links R) : ∀ y, f_X12_go M p1 = some y → MetC E m_X12_go 0 0 [rV 88, iV p1] (sh, ex, R, M) (fun r w' => r = some (iV y.1) ∧ w' = (sh, ex, R, y.2)) := by
  intro y hy
  refine MetC.seg (o := f_X12_go M p1) (t := (fun K y => K (some (iV y.1)) (sh, ex, R, y.2))) (L := [some (rV 88), some (iV p1), none]) (by decide) rfl (Nat.le_of_ble_eq_true rfl) ?_ hy ⟨rfl, rfl⟩
  unfold f_X12_go
  refine Seg.step (pc' := 1) (I_aload_n (i := 0) dX12_go_0 rfl rfl) ?_
  refine Seg.step (pc' := 2) (I_iconst dX12_go_1 ⟨by decide, by decide⟩) ?_
  refine Seg.step (pc' := 5) (I_putI cls12 (by decide) wf_12_175 (hE _ _ sk_12) rfl rfl dX12_go_2) ?_
  refine S_bM fun M1 => ?_
  refine Seg.step (pc' := 6) (I_iload_n (i := 1) dX12_go_5 rfl rfl) ?_
  refine Seg.step (pc' := 7) (I_iconst dX12_go_6 ⟨by decide, by decide⟩) ?_
  refine Seg.step (pc' := 9) (I_bipush dX12_go_7 (by decide) ⟨by decide, by decide⟩) ?_
  refine S_callS3 (md' := m_X12_isIn) (fun y => some (iV y)) (fun y => (sh, ex, R, M1)) mm_X12_isIn wm_12_220 ⟨rfl, rfl, by decide, by decide, by decide, by decide⟩ (Nat.le_of_ble_eq_true rfl) dX12_go_9 (fun y hy => c_X12_isIn hE hL y hy) (fun x2 => ?_)
  refine S_if_eq (tgt := 29) dX12_go_12 (by decide) (fun h3 => ?_) (fun h3 => ?_)
  · refine Seg.step (pc' := 30) (I_iconst dX12_go_29 ⟨by decide, by decide⟩) ?_
    exact S_iret dX12_go_30 rfl (by decide) (by decide) (fun K hK => hK)
  refine Seg.step (pc' := 16) (I_aload_n (i := 0) dX12_go_15 rfl rfl) ?_
  refine Seg.step (pc' := 19) (I_getR cls12 (by decide) wf_12_130 (hE _ _ sk_12) rfl (lk_12_65 hL) dX12_go_16) ?_
  refine Seg.step (pc' := 20) (I_iconst dX12_go_19 ⟨by decide, by decide⟩) ?_
  refine Seg.step (pc' := 21) (I_iald (hE _ _ sk_12_65) ⟨by decide, by decide⟩ dX12_go_20) ?_
  refine Seg.step (pc' := 22) (I_iload_n (i := 1) dX12_go_21 rfl rfl) ?_
  refine Seg.step (pc' := 23) (I_iadd dX12_go_22) ?_
  refine Seg.step (pc' := 26) (I_sipush dX12_go_23 (by decide) ⟨by decide, by decide⟩) ?_
  refine S_icmp_le (tgt := 31) dX12_go_26 (by decide) (fun h4 => ?_) (fun h4 => ?_)
  · refine Seg.step (pc' := 30) (I_iconst dX12_go_29 ⟨by decide, by decide⟩) ?_
    exact S_iret dX12_go_30 rfl (by decide) (by decide) (fun K hK => hK)
  refine Seg.step (pc' := 32) (I_aload_n (i := 0) dX12_go_31 rfl rfl) ?_
  refine S_callV0 (md' := m_X12_plainTried) (fun y => none) (fun y => (sh, ex, R, y)) (hE _ _ sk_12) ⟨by decide, rfl⟩ mm_X12_plainTried wm_12_385 ⟨rfl, rfl, by decide, by decide, by decide, by decide⟩ (Nat.le_of_ble_eq_true rfl) dX12_go_32 (fun y hy => c_X12_plainTried hE hL y hy) (fun x5 => ?_)
  refine Seg.step (pc' := 36) (I_iconst dX12_go_35 ⟨by decide, by decide⟩) ?_
  refine Seg.step (pc' := 37) (I_istore_n (i := 2) dX12_go_36 rfl (by decide) rfl) ?_
  refine Seg.forget (Lle.ye (Lle.ye (Lle.ye (Lle.nil)))) ?_
  refine S_bind (Y := MM) (k' := 0) (n' := 0) 53 (fun y => [some (rV 88), some (iV p1), none]) (fun y => []) (fun y => (sh, ex, R, y)) (S_loop (Y := Int × MM) (fun y => [some (rV 88), some (iV p1), some (iV y.1)]) (fun y => []) (fun y => (sh, ex, R, y.2)) (fun x6 => ?_) FU (0, x5)) (fun x9 => ?_)
  · refine Seg.step (pc' := 38) (I_iload_n (i := 2) dX12_go_37 rfl rfl) ?_
    refine Seg.step (pc' := 39) (I_iload_n (i := 1) dX12_go_38 rfl rfl) ?_
    refine S_icmp_ge (tgt := 53) dX12_go_39 (by decide) (fun h7 => ?_) (fun h7 => ?_)
    · refine Seg.step (pc' := 43) (I_aload_n (i := 0) dX12_go_42 rfl rfl) ?_
      refine Seg.step (pc' := 44) (I_iconst dX12_go_43 ⟨by decide, by decide⟩) ?_
      refine S_callV1 (md' := m_X12_goOn) (fun y => none) (fun y => (sh, ex, R, y)) (hE _ _ sk_12) ⟨by decide, rfl⟩ mm_X12_goOn wm_12_479 ⟨rfl, rfl, by decide, by decide, by decide, by decide⟩ (Nat.le_of_ble_eq_true rfl) dX12_go_44 (fun y hy => c_X12_goOn hE hL y hy) (fun x8 => ?_)
      refine Seg.step (pc' := 50) (I_iinc dX12_go_47 rfl (by decide) rfl) ?_
      refine Seg.step (pc' := 37) (I_goto (tgt := 37) dX12_go_50 (by decide)) ?_
      exact S_arr (fun K hK => GG.forget (Lle.ye (Lle.ye (Lle.ye (Lle.nil)))) hK)
    exact S_arr (fun K hK => GG.forget (Lle.ye (Lle.ye (Lle.no (Lle.nil)))) hK)
  refine Seg.step (pc' := 54) (I_aload_n (i := 0) dX12_go_53 rfl rfl) ?_
  refine Seg.step (pc' := 55) (I_iload_n (i := 1) dX12_go_54 rfl rfl) ?_
  refine S_bind (Y := Int) (k' := 0) (n' := 0) 66 (fun y => [some (rV 88), none, none]) (fun y => [iV y, rV 88]) (fun y => (sh, ex, R, x9)) ?_ (fun x11 => ?_)
  · refine S_if_le (tgt := 62) dX12_go_55 (by decide) (fun h10 => ?_) (fun h10 => ?_)
    · refine Seg.step (pc' := 59) (I_iconst dX12_go_58 ⟨by decide, by decide⟩) ?_
      refine Seg.step (pc' := 66) (I_goto (tgt := 66) dX12_go_59 (by decide)) ?_
      exact S_arr (fun K hK => GG.forget (Lle.ye (Lle.no (Lle.no (Lle.nil)))) hK)
    refine Seg.step (pc' := 63) (I_aload_n (i := 0) dX12_go_62 rfl rfl) ?_
    refine Seg.step (pc' := 66) (I_getI cls12 (by decide) wf_12_391 (hE _ _ sk_12) rfl dX12_go_63) ?_
    exact S_arr (fun K hK => GG.forget (Lle.ye (Lle.no (Lle.no (Lle.nil)))) hK)
  refine Seg.step (pc' := 69) (I_putI cls12 (by decide) wf_12_391 (hE _ _ sk_12) rfl rfl dX12_go_66) ?_
  refine S_bM fun M12 => ?_
  refine Seg.step (pc' := 70) (I_aload_n (i := 0) dX12_go_69 rfl rfl) ?_
  refine Seg.step (pc' := 73) (I_getR cls12 (by decide) wf_12_130 (hE _ _ sk_12) rfl (lk_12_65 hL) dX12_go_70) ?_
  refine Seg.step (pc' := 74) (I_iconst dX12_go_73 ⟨by decide, by decide⟩) ?_
  refine Seg.step (pc' := 75) (I_iald (hE _ _ sk_12_65) ⟨by decide, by decide⟩ dX12_go_74) ?_
  exact S_iret dX12_go_75 rfl (by decide) (by decide) (fun K hK => hK)
theorem dX12_ahead_0 : decode cX12_ahead 0 = .ok (.aload_n 0, 1) := by decide +kernel
theorem dX12_ahead_1 : decode cX12_ahead 1 = .ok (.iconst 0, 1) := by decide +kernel
theorem dX12_ahead_2 : decode cX12_ahead 2 = .ok (.putfield 175, 3) := by decide +kernel
theorem dX12_ahead_5 : decode cX12_ahead 5 = .ok (.iload_n 1, 1) := by decide +kernel
theorem dX12_ahead_6 : decode cX12_ahead 6 = .ok (.iconst 0, 1) := by decide +kernel
theorem dX12_ahead_7 : decode cX12_ahead 7 = .ok (.sipush 200, 3) := by decide +kernel
theorem dX12_ahead_10 : decode cX12_ahead 10 = .ok (.invokestatic 220, 3) := by decide +kernel
theorem dX12_ahead_13 : decode cX12_ahead 13 = .ok (.ifCond .eq 24, 3) := by decide +kernel
theorem dX12_ahead_16 : decode cX12_ahead 16 = .ok (.iload_n 2, 1) := by decide +kernel
theorem dX12_ahead_17 : decode cX12_ahead 17 = .ok (.iconst 0, 1) := by decide +kernel
theorem dX12_ahead_18 : decode cX12_ahead 18 = .ok (.iconst 3, 1) := by decide +kernel
theorem dX12_ahead_19 : decode cX12_ahead 19 = .ok (.invokestatic 220, 3) := by decide +kernel
theorem dX12_ahead_22 : decode cX12_ahead 22 = .ok (.ifCond .eq 15, 3) := by decide +kernel
theorem dX12_ahead_25 : decode cX12_ahead 25 = .ok (.iload_n 2, 1) := by decide +kernel
theorem dX12_ahead_26 : decode cX12_ahead 26 = .ok (.ifCond .ne 13, 3) := by decide +kernel
theorem dX12_ahead_29 : decode cX12_ahead 29 = .ok (.aload_n 0, 1) := by decide +kernel
theorem dX12_ahead_30 : decode cX12_ahead 30 = .ok (.iload_n 3, 1) := by decide +kernel
theorem dX12_ahead_31 : decode cX12_ahead 31 = .ok (.invokevirtual 488, 3) := by decide +kernel
theorem dX12_ahead_34 : decode cX12_ahead 34 = .ok (.ifCond .ne 5, 3) := by decide +kernel
theorem dX12_ahead_37 : decode cX12_ahead 37 = .ok (.iconst (-1), 1) := by decide +kernel
theorem dX12_ahead_38 : decode cX12_ahead 38 = .ok (.ireturn, 1) := by decide +kernel
theorem dX12_ahead_39 : decode cX12_ahead 39 = .ok (.aload_n 0, 1) := by decide +kernel
theorem dX12_ahead_40 : decode cX12_ahead 40 = .ok (.invokevirtual 430, 3) := by decide +kernel
theorem dX12_ahead_43 : decode cX12_ahead 43 = .ok (.aload_n 0, 1) := by decide +kernel
theorem dX12_ahead_44 : decode cX12_ahead 44 = .ok (.iload_n 1, 1) := by decide +kernel
theorem dX12_ahead_45 : decode cX12_ahead 45 = .ok (.invokevirtual 499, 3) := by decide +kernel
theorem dX12_ahead_48 : decode cX12_ahead 48 = .ok (.iload_n 2, 1) := by decide +kernel
theorem dX12_ahead_49 : decode cX12_ahead 49 = .ok (.tableswitch 55 0 2 #[27, 36, 50], 27) := by decide +kernel
theorem dX12_ahead_76 : decode cX12_ahead 76 = .ok (.aload_n 0, 1) := by decide +kernel
theorem dX12_ahead_77 : decode cX12_ahead 77 = .ok (.getfield 97, 3) := by decide +kernel
theorem dX12_ahead_80 : decode cX12_ahead 80 = .ok (.iconst 5, 1) := by decide +kernel
theorem dX12_ahead_81 : decode cX12_ahead 81 = .ok (.iload_n 3, 1) := by decide +kernel
theorem dX12_ahead_82 : decode cX12_ahead 82 = .ok (.iadd, 1) := by decide +kernel
theorem dX12_ahead_83 : decode cX12_ahead 83 = .ok (.iaload, 1) := by decide +kernel
theorem dX12_ahead_84 : decode cX12_ahead 84 = .ok (.ireturn, 1) := by decide +kernel
theorem dX12_ahead_85 : decode cX12_ahead 85 = .ok (.aload_n 0, 1) := by decide +kernel
theorem dX12_ahead_86 : decode cX12_ahead 86 = .ok (.getfield 121, 3) := by decide +kernel
theorem dX12_ahead_89 : decode cX12_ahead 89 = .ok (.iconst 1, 1) := by decide +kernel
theorem dX12_ahead_90 : decode cX12_ahead 90 = .ok (.iaload, 1) := by decide +kernel
theorem dX12_ahead_91 : decode cX12_ahead 91 = .ok (.aload_n 0, 1) := by decide +kernel
theorem dX12_ahead_92 : decode cX12_ahead 92 = .ok (.getfield 121, 3) := by decide +kernel
theorem dX12_ahead_95 : decode cX12_ahead 95 = .ok (.iconst 0, 1) := by decide +kernel
theorem dX12_ahead_96 : decode cX12_ahead 96 = .ok (.iaload, 1) := by decide +kernel
theorem dX12_ahead_97 : decode cX12_ahead 97 = .ok (.isub, 1) := by decide +kernel
theorem dX12_ahead_98 : decode cX12_ahead 98 = .ok (.ireturn, 1) := by decide +kernel
theorem dX12_ahead_99 : decode cX12_ahead 99 = .ok (.aload_n 0, 1) := by decide +kernel
theorem dX12_ahead_100 : decode cX12_ahead 100 = .ok (.invokevirtual 502, 3) := by decide +kernel
theorem dX12_ahead_103 : decode cX12_ahead 103 = .ok (.ireturn, 1) := by decide +kernel
theorem dX12_ahead_104 : decode cX12_ahead 104 = .ok (.aload_n 0, 1) := by decide +kernel
theorem dX12_ahead_105 : decode cX12_ahead 105 = .ok (.getfield 127, 3) := by decide +kernel
theorem dX12_ahead_108 : decode cX12_ahead 108 = .ok (.iconst 1, 1) := by decide +kernel
theorem dX12_ahead_109 : decode cX12_ahead 109 = .ok (.iaload, 1) := by decide +kernel
theorem dX12_ahead_110 : decode cX12_ahead 110 = .ok (.aload_n 0, 1) := by decide +kernel
theorem dX12_ahead_111 : decode cX12_ahead 111 = .ok (.getfield 127, 3) := by decide +kernel
theorem dX12_ahead_114 : decode cX12_ahead 114 = .ok (.iconst 0, 1) := by decide +kernel
theorem dX12_ahead_115 : decode cX12_ahead 115 = .ok (.iaload, 1) := by decide +kernel
theorem dX12_ahead_116 : decode cX12_ahead 116 = .ok (.isub, 1) := by decide +kernel
theorem dX12_ahead_117 : decode cX12_ahead 117 = .ok (.ireturn, 1) := by decide +kernel
def f_X12_ahead (M : MM) (p1 : Int) (p2 : Int) (p3 : Int) : Option (Int × MM) :=
bM (upM M 88 2 0) fun M1 =>
(f_X12_isIn M1 p1 0 200).bind fun x2 =>
if x2 = 0 then
(some ((-1), M1))
else
(f_X12_isIn M1 p2 0 3).bind fun x4 =>
if x4 = 0 then
(some ((-1), M1))
else
bS ((if p2 = 0 then
((f_X12_isRoom M1 p3).bind fun x7 =>
if x7 = 0 then
(some (Sum.inr ((-1), M1)))
else
some (Sum.inl ()))
else
some (Sum.inl ())) : Option ((Unit) ⊕ (Int × MM))) (fun x9 =>
(f_X12_layTried M1).bind fun x10 =>
(f_X12_goMany x10 p1).bind fun x11 =>
if p2 = 0 then
(gd (0 ≤ w32 (5 + p3) ∧ w32 (5 + p3) < (10 : Int)) <|
some (x11 116 (w32 (5 + p3)).toNat, x11))
else
if p2 = 1 then
(some (w32 ((x11 124 1) - (x11 124 0)), x11))
else
if p2 = 2 then
((f_X12_crossMore x11).bind fun x16 =>
some (x16, x11))
else
some (w32 ((x11 126 1) - (x11 126 0)), x11)) (fun r => r)
set_option maxRecDepth 4000 in
theorem c_X12_ahead {E : EE} {sh : List (Nat × Nat)} {ex : Bool} {R : RM} {M : MM} {p1 : Int} {p2 : Int} {p3 : Int} (hE : Ext sh) (hL : Links R) : ∀ y, f_X12_ahead M p1 p2 p3 = some y → MetC E m_X12_ahead 0 0 [rV 88, iV p1, iV p2, iV p3] (sh, ex, R, M) (fun r w' => r = some (iV y.1) ∧ w' = (sh, ex, R, y.2)) := by
  intro y hy
  refine MetC.seg (o := f_X12_ahead M p1 p2 p3) (t := (fun K y => K (some (iV y.1)) (sh, ex, R, y.2))) (L := [some (rV 88), some (iV p1), some (iV p2), some (iV p3)]) (by decide) rfl (Nat.le_of_ble_eq_true rfl) ?_ hy ⟨rfl, rfl⟩
  unfold f_X12_ahead
  refine Seg.step (pc' := 1) (I_aload_n (i := 0) dX12_ahead_0 rfl rfl) ?_
  refine Seg.step (pc' := 2) (I_iconst dX12_ahead_1 ⟨by decide, by decide⟩) ?_
  refine Seg.step (pc' := 5) (I_putI cls12 (by decide) wf_12_175 (hE _ _ sk_12) rfl rfl dX12_ahead_2) ?_
  refine S_bM fun M1 => ?_
  refine Seg.step (pc' := 6) (I_iload_n (i := 1) dX12_ahead_5 rfl rfl) ?_
  refine Seg.step (pc' := 7) (I_iconst dX12_ahead_6 ⟨by decide, by decide⟩) ?_
  refine Seg.step (pc' := 10) (I_sipush dX12_ahead_7 (by decide) ⟨by decide, by decide⟩) ?_
  refine S_callS3 (md' := m_X12_isIn) (fun y => some (iV y)) (fun y => (sh, ex, R, M1)) mm_X12_isIn wm_12_220 ⟨rfl, rfl, by decide, by decide, by decide, by decide⟩ (Nat.le_of_ble_eq_true rfl) dX12_ahead_10 (fun y hy => c_X12_isIn hE hL y hy) (fun x2 => ?_)
  refine S_if_eq (tgt := 37) dX12_ahead_13 (by decide) (fun h3 => ?_) (fun h3 => ?_)
  · refine Seg.step (pc' := 38) (I_iconst dX12_ahead_37 ⟨by decide, by decide⟩) ?_
    exact S_iret dX12_ahead_38 rfl (by decide) (by decide) (fun K hK => hK)
  refine Seg.step (pc' := 17) (I_iload_n (i := 2) dX12_ahead_16 rfl rfl) ?_
  refine Seg.step (pc' := 18) (I_iconst dX12_ahead_17 ⟨by decide, by decide⟩) ?_
  refine Seg.step (pc' := 19) (I_iconst dX12_ahead_18 ⟨by decide, by decide⟩) ?_
  refine S_callS3 (md' := m_X12_isIn) (fun y => some (iV y)) (fun y => (sh, ex, R, M1)) mm_X12_isIn wm_12_220 ⟨rfl, rfl, by decide, by decide, by decide, by decide⟩ (Nat.le_of_ble_eq_true rfl) dX12_ahead_19 (fun y hy => c_X12_isIn hE hL y hy) (fun x4 => ?_)
  refine S_if_eq (tgt := 37) dX12_ahead_22 (by decide) (fun h5 => ?_) (fun h5 => ?_)
  · refine Seg.step (pc' := 38) (I_iconst dX12_ahead_37 ⟨by decide, by decide⟩) ?_
    exact S_iret dX12_ahead_38 rfl (by decide) (by decide) (fun K hK => hK)
  refine Seg.step (pc' := 26) (I_iload_n (i := 2) dX12_ahead_25 rfl rfl) ?_
  refine S_bind2 (Y := Unit) (k' := 0) (n' := 0) 39 (fun y => [some (rV 88), some (iV p1), some (iV p2), some (iV p3)]) (fun y => []) (fun y => (sh, ex, R, M1)) ?_ (fun x9 => ?_)
  · refine S_if_ne (tgt := 39) dX12_ahead_26 (by decide) (fun h6 => ?_) (fun h6 => ?_)
    · refine Seg.step (pc' := 30) (I_aload_n (i := 0) dX12_ahead_29 rfl rfl) ?_
      refine Seg.step (pc' := 31) (I_iload_n (i := 3) dX12_ahead_30 rfl rfl) ?_
      refine S_callV1 (md' := m_X12_isRoom) (fun y => some (iV y)) (fun y => (sh, ex, R, M1)) (hE _ _ sk_12) ⟨by decide, rfl⟩ mm_X12_isRoom wm_12_488 ⟨rfl, rfl, by decide, by decide, by decide, by decide⟩ (Nat.le_of_ble_eq_true rfl) dX12_ahead_31 (fun y hy => c_X12_isRoom hE hL y hy) (fun x7 => ?_)
      refine S_if_ne (tgt := 39) dX12_ahead_34 (by decide) (fun h8 => ?_) (fun h8 => ?_)
      · refine Seg.step (pc' := 38) (I_iconst dX12_ahead_37 ⟨by decide, by decide⟩) ?_
        exact S_iret dX12_ahead_38 rfl (by decide) (by decide) (fun K hK => hK)
      exact S_arr (fun K hK => GG.forget (Lle.ye (Lle.ye (Lle.ye (Lle.ye (Lle.nil))))) hK)
    exact S_arr (fun K hK => GG.forget (Lle.ye (Lle.ye (Lle.ye (Lle.ye (Lle.nil))))) hK)
  refine Seg.step (pc' := 40) (I_aload_n (i := 0) dX12_ahead_39 rfl rfl) ?_
  refine S_callV0 (md' := m_X12_layTried) (fun y => none) (fun y => (sh, ex, R, y)) (hE _ _ sk_12) ⟨by decide, rfl⟩ mm_X12_layTried wm_12_430 ⟨rfl, rfl, by decide, by decide, by decide, by decide⟩ (Nat.le_of_ble_eq_true rfl) dX12_ahead_40 (fun y hy => c_X12_layTried hE hL y hy) (fun x10 => ?_)
  refine Seg.step (pc' := 44) (I_aload_n (i := 0) dX12_ahead_43 rfl rfl) ?_
  refine Seg.step (pc' := 45) (I_iload_n (i := 1) dX12_ahead_44 rfl rfl) ?_
  refine S_callV1 (md' := m_X12_goMany) (fun y => none) (fun y => (sh, ex, R, y)) (hE _ _ sk_12) ⟨by decide, rfl⟩ mm_X12_goMany wm_12_499 ⟨rfl, rfl, by decide, by decide, by decide, by decide⟩ (Nat.le_of_ble_eq_true rfl) dX12_ahead_45 (fun y hy => c_X12_goMany hE hL y hy) (fun x11 => ?_)
  refine Seg.step (pc' := 49) (I_iload_n (i := 2) dX12_ahead_48 rfl rfl) ?_
  refine S_ite (fun h12 => ?_) (fun h12 => ?_)
  · refine Seg.step (I_tsw (v := 0) (off := 27) (tgt := 76) dX12_ahead_49 h12 (by decide) rfl (by decide)) ?_
    refine Seg.step (pc' := 77) (I_aload_n (i := 0) dX12_ahead_76 rfl rfl) ?_
    refine Seg.step (pc' := 80) (I_getR cls12 (by decide) wf_12_97 (hE _ _ sk_12) rfl (lk_12_54 hL) dX12_ahead_77) ?_
    refine Seg.step (pc' := 81) (I_iconst dX12_ahead_80 ⟨by decide, by decide⟩) ?_
    refine Seg.step (pc' := 82) (I_iload_n (i := 3) dX12_ahead_81 rfl rfl) ?_
    refine Seg.step (pc' := 83) (I_iadd dX12_ahead_82) ?_
    refine S_gd fun h13 => ?_
    refine Seg.step (pc' := 84) (I_iald (hE _ _ sk_12_54) h13 dX12_ahead_83) ?_
    exact S_iret dX12_ahead_84 rfl (by decide) (by decide) (fun K hK => hK)
  refine S_ite (fun h14 => ?_) (fun h14 => ?_)
  · refine Seg.step (I_tsw (v := 1) (off := 36) (tgt := 85) dX12_ahead_49 h14 (by decide) rfl (by decide)) ?_
    refine Seg.step (pc' := 86) (I_aload_n (i := 0) dX12_ahead_85 rfl rfl) ?_
    refine Seg.step (pc' := 89) (I_getR cls12 (by decide) wf_12_121 (hE _ _ sk_12) rfl (lk_12_62 hL) dX12_ahead_86) ?_
    refine Seg.step (pc' := 90) (I_iconst dX12_ahead_89 ⟨by decide, by decide⟩) ?_
    refine Seg.step (pc' := 91) (I_iald (hE _ _ sk_12_62) ⟨by decide, by decide⟩ dX12_ahead_90) ?_
    refine Seg.step (pc' := 92) (I_aload_n (i := 0) dX12_ahead_91 rfl rfl) ?_
    refine Seg.step (pc' := 95) (I_getR cls12 (by decide) wf_12_121 (hE _ _ sk_12) rfl (lk_12_62 hL) dX12_ahead_92) ?_
    refine Seg.step (pc' := 96) (I_iconst dX12_ahead_95 ⟨by decide, by decide⟩) ?_
    refine Seg.step (pc' := 97) (I_iald (hE _ _ sk_12_62) ⟨by decide, by decide⟩ dX12_ahead_96) ?_
    refine Seg.step (pc' := 98) (I_isub dX12_ahead_97) ?_
    exact S_iret dX12_ahead_98 rfl (by decide) (by decide) (fun K hK => hK)
  refine S_ite (fun h15 => ?_) (fun h15 => ?_)
  · refine Seg.step (I_tsw (v := 2) (off := 50) (tgt := 99) dX12_ahead_49 h15 (by decide) rfl (by decide)) ?_
    refine Seg.step (pc' := 100) (I_aload_n (i := 0) dX12_ahead_99 rfl rfl) ?_
    refine S_callV0 (md' := m_X12_crossMore) (fun y => some (iV y)) (fun y => (sh, ex, R, x11)) (hE _ _ sk_12) ⟨by decide, rfl⟩ mm_X12_crossMore wm_12_502 ⟨rfl, rfl, by decide, by decide, by decide, by decide⟩ (Nat.le_of_ble_eq_true rfl) dX12_ahead_100 (fun y hy => c_X12_crossMore hE hL y hy) (fun x16 => ?_)
    exact S_iret dX12_ahead_103 rfl (by decide) (by decide) (fun K hK => hK)
  refine Seg.step (I_tswd (tgt := 104) dX12_ahead_49 (by omega) (by decide)) ?_
  refine Seg.step (pc' := 105) (I_aload_n (i := 0) dX12_ahead_104 rfl rfl) ?_
  refine Seg.step (pc' := 108) (I_getR cls12 (by decide) wf_12_127 (hE _ _ sk_12) rfl (lk_12_64 hL) dX12_ahead_105) ?_
  refine Seg.step (pc' := 109) (I_iconst dX12_ahead_108 ⟨by decide, by decide⟩) ?_
  refine Seg.step (pc' := 110) (I_iald (hE _ _ sk_12_64) ⟨by decide, by decide⟩ dX12_ahead_109) ?_
  refine Seg.step (pc' := 111) (I_aload_n (i := 0) dX12_ahead_110 rfl rfl) ?_
  refine Seg.step (pc' := 114) (I_getR cls12 (by decide) wf_12_127 (hE _ _ sk_12) rfl (lk_12_64 hL) dX12_ahead_111) ?_
  refine Seg.step (pc' := 115) (I_iconst dX12_ahead_114 ⟨by decide, by decide⟩) ?_
  refine Seg.step (pc' := 116) (I_iald (hE _ _ sk_12_64) ⟨by decide, by decide⟩ dX12_ahead_115) ?_
  refine Seg.step (pc' := 117) (I_isub dX12_ahead_116) ?_
  exact S_iret dX12_ahead_117 rfl (by decide) (by decide) (fun K hK => hK)
theorem dX12_soonBy_0 : decode cX12_soonBy 0 = .ok (.aload_n 0, 1) := by decide +kernel
theorem dX12_soonBy_1 : decode cX12_soonBy 1 = .ok (.iload_n 3, 1) := by decide +kernel
theorem dX12_soonBy_2 : decode cX12_soonBy 2 = .ok (.invokevirtual 505, 3) := by decide +kernel
theorem dX12_soonBy_5 : decode cX12_soonBy 5 = .ok (.iconst 0, 1) := by decide +kernel
theorem dX12_soonBy_6 : decode cX12_soonBy 6 = .ok (.istore 4, 2) := by decide +kernel
theorem dX12_soonBy_8 : decode cX12_soonBy 8 = .ok (.iload 4, 2) := by decide +kernel
theorem dX12_soonBy_10 : decode cX12_soonBy 10 = .ok (.sipush 200, 3) := by decide +kernel
theorem dX12_soonBy_13 : decode cX12_soonBy 13 = .ok (.if_icmp .gt 29, 3) := by decide +kernel
theorem dX12_soonBy_16 : decode cX12_soonBy 16 = .ok (.aload_n 0, 1) := by decide +kernel
theorem dX12_soonBy_17 : decode cX12_soonBy 17 = .ok (.getfield 97, 3) := by decide +kernel
theorem dX12_soonBy_20 : decode cX12_soonBy 20 = .ok (.iconst 5, 1) := by decide +kernel
theorem dX12_soonBy_21 : decode cX12_soonBy 21 = .ok (.iload_n 1, 1) := by decide +kernel
theorem dX12_soonBy_22 : decode cX12_soonBy 22 = .ok (.iadd, 1) := by decide +kernel
theorem dX12_soonBy_23 : decode cX12_soonBy 23 = .ok (.iaload, 1) := by decide +kernel
theorem dX12_soonBy_24 : decode cX12_soonBy 24 = .ok (.iload_n 2, 1) := by decide +kernel
theorem dX12_soonBy_25 : decode cX12_soonBy 25 = .ok (.if_icmp .lt 6, 3) := by decide +kernel
theorem dX12_soonBy_28 : decode cX12_soonBy 28 = .ok (.iload 4, 2) := by decide +kernel
theorem dX12_soonBy_30 : decode cX12_soonBy 30 = .ok (.ireturn, 1) := by decide +kernel
theorem dX12_soonBy_31 : decode cX12_soonBy 31 = .ok (.aload_n 0, 1) := by decide +kernel
theorem dX12_soonBy_32 : decode cX12_soonBy 32 = .ok (.iconst 1, 1) := by decide +kernel
theorem dX12_soonBy_33 : decode cX12_soonBy 33 = .ok (.invokevirtual 479, 3) := by decide +kernel
theorem dX12_soonBy_36 : decode cX12_soonBy 36 = .ok (.iinc 4 1, 3) := by decide +kernel
theorem dX12_soonBy_39 : decode cX12_soonBy 39 = .ok (.goto (-31), 3) := by decide +kernel
theorem dX12_soonBy_42 : decode cX12_soonBy 42 = .ok (.bipush (-2), 2) := by decide +kernel
theorem dX12_soonBy_44 : decode cX12_soonBy 44 = .ok (.ireturn, 1) := by decide +kernel
def f_X12_soonBy (M : MM) (p1 : Int) (p2 : Int) (p3 : Int) : Option (Int × MM) :=
(f_X12_layStill M p3).bind fun x1 =>
lp (X := Int × MM) (Y := Int × MM) (fun x2 =>
if 200 < x2.1 then
(some (Sum.inr ((-2), x2.2)))
else
gd (0 ≤ w32 (5 + p1) ∧ w32 (5 + p1) < (10 : Int)) <|
if (x2.2 116 (w32 (5 + p1)).toNat) < p2 then
((f_X12_goOn x2.2 1).bind fun x6 =>
some (Sum.inl (w32 (x2.1 + 1), x6)))
else
some (Sum.inr (x2.1, x2.2))) FU (0, x1)
set_option maxRecDepth 4000 in
theorem c_X12_soonBy {E : EE} {sh : List (Nat × Nat)} {ex : Bool} {R : RM} {M : MM} {p1 : Int} {p2 : Int} {p3 : Int} (hE : Ext sh) (hL : Links R) : ∀ y, f_X12_soonBy M p1 p2 p3 = some y → MetC E m_X12_soonBy 0 0 [rV 88, iV p1, iV p2, iV p3] (sh, ex, R, M) (fun r w' => r = some (iV y.1) ∧ w' = (sh, ex, R, y.2)) := by
  intro y hy
  refine MetC.seg (o := f_X12_soonBy M p1 p2 p3) (t := (fun K y => K (some (iV y.1)) (sh, ex, R, y.2))) (L := [some (rV 88), some (iV p1), some (iV p2), some (iV p3), none]) (by decide) rfl (Nat.le_of_ble_eq_true rfl) ?_ hy ⟨rfl, rfl⟩
  unfold f_X12_soonBy
  refine Seg.step (pc' := 1) (I_aload_n (i := 0) dX12_soonBy_0 rfl rfl) ?_
  refine Seg.step (pc' := 2) (I_iload_n (i := 3) dX12_soonBy_1 rfl rfl) ?_
  refine S_callV1 (md' := m_X12_layStill) (fun y => none) (fun y => (sh, ex, R, y)) (hE _ _ sk_12) ⟨by decide, rfl⟩ mm_X12_layStill wm_12_505 ⟨rfl, rfl, by decide, by decide, by decide, by decide⟩ (Nat.le_of_ble_eq_true rfl) dX12_soonBy_2 (fun y hy => c_X12_layStill hE hL y hy) (fun x1 => ?_)
  refine Seg.step (pc' := 6) (I_iconst dX12_soonBy_5 ⟨by decide, by decide⟩) ?_
  refine Seg.step (pc' := 8) (I_istore dX12_soonBy_6 (by decide) rfl) ?_
  refine Seg.forget (Lle.ye (Lle.ye (Lle.ye (Lle.no (Lle.ye (Lle.nil)))))) ?_
  refine S_loop (Y := Int × MM) (fun y => [some (rV 88), some (iV p1), some (iV p2), none, some (iV y.1)]) (fun y => []) (fun y => (sh, ex, R, y.2)) (fun x2 => ?_) FU (0, x1)
  refine Seg.step (pc' := 10) (I_iload dX12_soonBy_8 rfl) ?_
  refine Seg.step (pc' := 13) (I_sipush dX12_soonBy_10 (by decide) ⟨by decide, by decide⟩) ?_
  refine S_icmp_gt (tgt := 42) dX12_soonBy_13 (by decide) (fun h3 => ?_) (fun h3 => ?_)
  · refine Seg.step (pc' := 44) (I_bipush dX12_soonBy_42 (by decide) ⟨by decide, by decide⟩) ?_
    exact S_iret dX12_soonBy_44 rfl (by decide) (by decide) (fun K hK => hK)
  refine Seg.step (pc' := 17) (I_aload_n (i := 0) dX12_soonBy_16 rfl rfl) ?_
  refine Seg.step (pc' := 20) (I_getR cls12 (by decide) wf_12_97 (hE _ _ sk_12) rfl (lk_12_54 hL) dX12_soonBy_17) ?_
  refine Seg.step (pc' := 21) (I_iconst dX12_soonBy_20 ⟨by decide, by decide⟩) ?_
  refine Seg.step (pc' := 22) (I_iload_n (i := 1) dX12_soonBy_21 rfl rfl) ?_
  refine Seg.step (pc' := 23) (I_iadd dX12_soonBy_22) ?_
  refine S_gd fun h4 => ?_
  refine Seg.step (pc' := 24) (I_iald (hE _ _ sk_12_54) h4 dX12_soonBy_23) ?_
  refine Seg.step (pc' := 25) (I_iload_n (i := 2) dX12_soonBy_24 rfl rfl) ?_
  refine S_icmp_lt (tgt := 31) dX12_soonBy_25 (by decide) (fun h5 => ?_) (fun h5 => ?_)
  · refine Seg.step (pc' := 32) (I_aload_n (i := 0) dX12_soonBy_31 rfl rfl) ?_
    refine Seg.step (pc' := 33) (I_iconst dX12_soonBy_32 ⟨by decide, by decide⟩) ?_
    refine S_callV1 (md' := m_X12_goOn) (fun y => none) (fun y => (sh, ex, R, y)) (hE _ _ sk_12) ⟨by decide, rfl⟩ mm_X12_goOn wm_12_479 ⟨rfl, rfl, by decide, by decide, by decide, by decide⟩ (Nat.le_of_ble_eq_true rfl) dX12_soonBy_33 (fun y hy => c_X12_goOn hE hL y hy) (fun x6 => ?_)
    refine Seg.step (pc' := 39) (I_iinc dX12_soonBy_36 rfl (by decide) rfl) ?_
    refine Seg.step (pc' := 8) (I_goto (tgt := 8) dX12_soonBy_39 (by decide)) ?_
    exact S_arr (fun K hK => GG.forget (Lle.ye (Lle.ye (Lle.ye (Lle.no (Lle.ye (Lle.nil)))))) hK)
  refine Seg.step (pc' := 30) (I_iload dX12_soonBy_28 rfl) ?_
  exact S_iret dX12_soonBy_30 rfl (by decide) (by decide) (fun K hK => hK)
theorem dX12_soon_0 : decode cX12_soon 0 = .ok (.aload_n 0, 1) := by decide +kernel
theorem dX12_soon_1 : decode cX12_soon 1 = .ok (.iconst 0, 1) := by decide +kernel
theorem dX12_soon_2 : decode cX12_soon 2 = .ok (.putfield 175, 3) := by decide +kernel
theorem dX12_soon_5 : decode cX12_soon 5 = .ok (.aload_n 0, 1) := by decide +kernel
theorem dX12_soon_6 : decode cX12_soon 6 = .ok (.iload_n 1, 1) := by decide +kernel
theorem dX12_soon_7 : decode cX12_soon 7 = .ok (.invokevirtual 488, 3) := by decide +kernel
theorem dX12_soon_10 : decode cX12_soon 10 = .ok (.ifCond .eq 31, 3) := by decide +kernel
theorem dX12_soon_13 : decode cX12_soon 13 = .ok (.iload_n 2, 1) := by decide +kernel
theorem dX12_soon_14 : decode cX12_soon 14 = .ok (.iconst 0, 1) := by decide +kernel
theorem dX12_soon_15 : decode cX12_soon 15 = .ok (.sipush 600, 3) := by decide +kernel
theorem dX12_soon_18 : decode cX12_soon 18 = .ok (.invokestatic 220, 3) := by decide +kernel
theorem dX12_soon_21 : decode cX12_soon 21 = .ok (.ifCond .eq 20, 3) := by decide +kernel
theorem dX12_soon_24 : decode cX12_soon 24 = .ok (.iload_n 3, 1) := by decide +kernel
theorem dX12_soon_25 : decode cX12_soon 25 = .ok (.invokestatic 493, 3) := by decide +kernel
theorem dX12_soon_28 : decode cX12_soon 28 = .ok (.ifCond .eq 13, 3) := by decide +kernel
theorem dX12_soon_31 : decode cX12_soon 31 = .ok (.aload_n 0, 1) := by decide +kernel
theorem dX12_soon_32 : decode cX12_soon 32 = .ok (.iload_n 1, 1) := by decide +kernel
theorem dX12_soon_33 : decode cX12_soon 33 = .ok (.iload_n 2, 1) := by decide +kernel
theorem dX12_soon_34 : decode cX12_soon 34 = .ok (.iload_n 3, 1) := by decide +kernel
theorem dX12_soon_35 : decode cX12_soon 35 = .ok (.invokevirtual 508, 3) := by decide +kernel
theorem dX12_soon_38 : decode cX12_soon 38 = .ok (.goto 4, 3) := by decide +kernel
theorem dX12_soon_41 : decode cX12_soon 41 = .ok (.iconst (-1), 1) := by decide +kernel
theorem dX12_soon_42 : decode cX12_soon 42 = .ok (.ireturn, 1) := by decide +kernel
def f_X12_soon (M : MM) (p1 : Int) (p2 : Int) (p3 : Int) : Option (Int × MM) :=
bM (upM M 88 2 0) fun M1 =>
(f_X12_isRoom M1 p1).bind fun x2 =>
if x2 = 0 then
(some ((-1), M1))
else
(f_X12_isIn M1 p2 0 600).bind fun x4 =>
if x4 = 0 then
(some ((-1), M1))
else
(f_X12_isSet M1 p3).bind fun x6 =>
if x6 = 0 then
(some ((-1), M1))
else
(f_X12_soonBy M1 p1 p2 p3).bind fun x8 =>
some (x8.1, x8.2)
set_option maxRecDepth 4000 in
theorem c_X12_soon {E : EE} {sh : List (Nat × Nat)} {ex : Bool} {R : RM} {M : MM} {p1 : Int} {p2 : Int} {p3 : Int} (hE : Ext sh) (hL : Links R) : ∀ y, f_X12_soon M p1 p2 p3 = some y → MetC E m_X12_soon 0 0 [rV 88, iV p1, iV p2, iV p3] (sh, ex, R, M) (fun r w' => r = some (iV y.1) ∧ w' = (sh, ex, R, y.2)) := by
  intro y hy
  refine MetC.seg (o := f_X12_soon M p1 p2 p3) (t := (fun K y => K (some (iV y.1)) (sh, ex, R, y.2))) (L := [some (rV 88), some (iV p1), some (iV p2), some (iV p3)]) (by decide) rfl (Nat.le_of_ble_eq_true rfl) ?_ hy ⟨rfl, rfl⟩
  unfold f_X12_soon
  refine Seg.step (pc' := 1) (I_aload_n (i := 0) dX12_soon_0 rfl rfl) ?_
  refine Seg.step (pc' := 2) (I_iconst dX12_soon_1 ⟨by decide, by decide⟩) ?_
  refine Seg.step (pc' := 5) (I_putI cls12 (by decide) wf_12_175 (hE _ _ sk_12) rfl rfl dX12_soon_2) ?_
  refine S_bM fun M1 => ?_
  refine Seg.step (pc' := 6) (I_aload_n (i := 0) dX12_soon_5 rfl rfl) ?_
  refine Seg.step (pc' := 7) (I_iload_n (i := 1) dX12_soon_6 rfl rfl) ?_
  refine S_callV1 (md' := m_X12_isRoom) (fun y => some (iV y)) (fun y => (sh, ex, R, M1)) (hE _ _ sk_12) ⟨by decide, rfl⟩ mm_X12_isRoom wm_12_488 ⟨rfl, rfl, by decide, by decide, by decide, by decide⟩ (Nat.le_of_ble_eq_true rfl) dX12_soon_7 (fun y hy => c_X12_isRoom hE hL y hy) (fun x2 => ?_)
  refine S_if_eq (tgt := 41) dX12_soon_10 (by decide) (fun h3 => ?_) (fun h3 => ?_)
  · refine Seg.step (pc' := 42) (I_iconst dX12_soon_41 ⟨by decide, by decide⟩) ?_
    exact S_iret dX12_soon_42 rfl (by decide) (by decide) (fun K hK => hK)
  refine Seg.step (pc' := 14) (I_iload_n (i := 2) dX12_soon_13 rfl rfl) ?_
  refine Seg.step (pc' := 15) (I_iconst dX12_soon_14 ⟨by decide, by decide⟩) ?_
  refine Seg.step (pc' := 18) (I_sipush dX12_soon_15 (by decide) ⟨by decide, by decide⟩) ?_
  refine S_callS3 (md' := m_X12_isIn) (fun y => some (iV y)) (fun y => (sh, ex, R, M1)) mm_X12_isIn wm_12_220 ⟨rfl, rfl, by decide, by decide, by decide, by decide⟩ (Nat.le_of_ble_eq_true rfl) dX12_soon_18 (fun y hy => c_X12_isIn hE hL y hy) (fun x4 => ?_)
  refine S_if_eq (tgt := 41) dX12_soon_21 (by decide) (fun h5 => ?_) (fun h5 => ?_)
  · refine Seg.step (pc' := 42) (I_iconst dX12_soon_41 ⟨by decide, by decide⟩) ?_
    exact S_iret dX12_soon_42 rfl (by decide) (by decide) (fun K hK => hK)
  refine Seg.step (pc' := 25) (I_iload_n (i := 3) dX12_soon_24 rfl rfl) ?_
  refine S_callS1 (md' := m_X12_isSet) (fun y => some (iV y)) (fun y => (sh, ex, R, M1)) mm_X12_isSet wm_12_493 ⟨rfl, rfl, by decide, by decide, by decide, by decide⟩ (Nat.le_of_ble_eq_true rfl) dX12_soon_25 (fun y hy => c_X12_isSet hE hL y hy) (fun x6 => ?_)
  refine S_if_eq (tgt := 41) dX12_soon_28 (by decide) (fun h7 => ?_) (fun h7 => ?_)
  · refine Seg.step (pc' := 42) (I_iconst dX12_soon_41 ⟨by decide, by decide⟩) ?_
    exact S_iret dX12_soon_42 rfl (by decide) (by decide) (fun K hK => hK)
  refine Seg.step (pc' := 32) (I_aload_n (i := 0) dX12_soon_31 rfl rfl) ?_
  refine Seg.step (pc' := 33) (I_iload_n (i := 1) dX12_soon_32 rfl rfl) ?_
  refine Seg.step (pc' := 34) (I_iload_n (i := 2) dX12_soon_33 rfl rfl) ?_
  refine Seg.step (pc' := 35) (I_iload_n (i := 3) dX12_soon_34 rfl rfl) ?_
  refine S_callV3 (md' := m_X12_soonBy) (fun y => some (iV y.1)) (fun y => (sh, ex, R, y.2)) (hE _ _ sk_12) ⟨by decide, rfl⟩ mm_X12_soonBy wm_12_508 ⟨rfl, rfl, by decide, by decide, by decide, by decide⟩ (Nat.le_of_ble_eq_true rfl) dX12_soon_35 (fun y hy => c_X12_soonBy hE hL y hy) (fun x8 => ?_)
  refine Seg.step (pc' := 42) (I_goto (tgt := 42) dX12_soon_38 (by decide)) ?_
  exact S_iret dX12_soon_42 rfl (by decide) (by decide) (fun K hK => hK)
theorem dX12_quicker_0 : decode cX12_quicker 0 = .ok (.aload_n 0, 1) := by decide +kernel
theorem dX12_quicker_1 : decode cX12_quicker 1 = .ok (.iconst 0, 1) := by decide +kernel
theorem dX12_quicker_2 : decode cX12_quicker 2 = .ok (.putfield 175, 3) := by decide +kernel
theorem dX12_quicker_5 : decode cX12_quicker 5 = .ok (.aload_n 0, 1) := by decide +kernel
theorem dX12_quicker_6 : decode cX12_quicker 6 = .ok (.iload_n 1, 1) := by decide +kernel
theorem dX12_quicker_7 : decode cX12_quicker 7 = .ok (.invokevirtual 488, 3) := by decide +kernel
theorem dX12_quicker_10 : decode cX12_quicker 10 = .ok (.ifCond .eq 29, 3) := by decide +kernel
theorem dX12_quicker_13 : decode cX12_quicker 13 = .ok (.iload_n 2, 1) := by decide +kernel
theorem dX12_quicker_14 : decode cX12_quicker 14 = .ok (.iconst 0, 1) := by decide +kernel
theorem dX12_quicker_15 : decode cX12_quicker 15 = .ok (.sipush 600, 3) := by decide +kernel
theorem dX12_quicker_18 : decode cX12_quicker 18 = .ok (.invokestatic 220, 3) := by decide +kernel
theorem dX12_quicker_21 : decode cX12_quicker 21 = .ok (.ifCond .eq 18, 3) := by decide +kernel
theorem dX12_quicker_24 : decode cX12_quicker 24 = .ok (.iload_n 3, 1) := by decide +kernel
theorem dX12_quicker_25 : decode cX12_quicker 25 = .ok (.invokestatic 493, 3) := by decide +kernel
theorem dX12_quicker_28 : decode cX12_quicker 28 = .ok (.ifCond .eq 11, 3) := by decide +kernel
theorem dX12_quicker_31 : decode cX12_quicker 31 = .ok (.iload 4, 2) := by decide +kernel
theorem dX12_quicker_33 : decode cX12_quicker 33 = .ok (.invokestatic 493, 3) := by decide +kernel
theorem dX12_quicker_36 : decode cX12_quicker 36 = .ok (.ifCond .ne 5, 3) := by decide +kernel
theorem dX12_quicker_39 : decode cX12_quicker 39 = .ok (.iconst (-1), 1) := by decide +kernel
theorem dX12_quicker_40 : decode cX12_quicker 40 = .ok (.ireturn, 1) := by decide +kernel
theorem dX12_quicker_41 : decode cX12_quicker 41 = .ok (.aload_n 0, 1) := by decide +kernel
theorem dX12_quicker_42 : decode cX12_quicker 42 = .ok (.iload_n 1, 1) := by decide +kernel
theorem dX12_quicker_43 : decode cX12_quicker 43 = .ok (.iload_n 2, 1) := by decide +kernel
theorem dX12_quicker_44 : decode cX12_quicker 44 = .ok (.iload_n 3, 1) := by decide +kernel
theorem dX12_quicker_45 : decode cX12_quicker 45 = .ok (.invokevirtual 508, 3) := by decide +kernel
theorem dX12_quicker_48 : decode cX12_quicker 48 = .ok (.istore 5, 2) := by decide +kernel
theorem dX12_quicker_50 : decode cX12_quicker 50 = .ok (.aload_n 0, 1) := by decide +kernel
theorem dX12_quicker_51 : decode cX12_quicker 51 = .ok (.iload_n 1, 1) := by decide +kernel
theorem dX12_quicker_52 : decode cX12_quicker 52 = .ok (.iload_n 2, 1) := by decide +kernel
theorem dX12_quicker_53 : decode cX12_quicker 53 = .ok (.iload 4, 2) := by decide +kernel
theorem dX12_quicker_55 : decode cX12_quicker 55 = .ok (.invokevirtual 508, 3) := by decide +kernel
theorem dX12_quicker_58 : decode cX12_quicker 58 = .ok (.istore 6, 2) := by decide +kernel
theorem dX12_quicker_60 : decode cX12_quicker 60 = .ok (.iload 6, 2) := by decide +kernel
theorem dX12_quicker_62 : decode cX12_quicker 62 = .ok (.ifCond .lt 19, 3) := by decide +kernel
theorem dX12_quicker_65 : decode cX12_quicker 65 = .ok (.iload 5, 2) := by decide +kernel
theorem dX12_quicker_67 : decode cX12_quicker 67 = .ok (.ifCond .lt 10, 3) := by decide +kernel
theorem dX12_quicker_70 : decode cX12_quicker 70 = .ok (.iload 6, 2) := by decide +kernel
theorem dX12_quicker_72 : decode cX12_quicker 72 = .ok (.iload 5, 2) := by decide +kernel
theorem dX12_quicker_74 : decode cX12_quicker 74 = .ok (.if_icmp .ge 7, 3) := by decide +kernel
theorem dX12_quicker_77 : decode cX12_quicker 77 = .ok (.iconst 1, 1) := by decide +kernel
theorem dX12_quicker_78 : decode cX12_quicker 78 = .ok (.goto 4, 3) := by decide +kernel
theorem dX12_quicker_81 : decode cX12_quicker 81 = .ok (.iconst 0, 1) := by decide +kernel
theorem dX12_quicker_82 : decode cX12_quicker 82 = .ok (.ireturn, 1) := by decide +kernel
def f_X12_quicker (M : MM) (p1 : Int) (p2 : Int) (p3 : Int) (p4 : Int) : Option (Int × MM) :=
bM (upM M 88 2 0) fun M1 =>
(f_X12_isRoom M1 p1).bind fun x2 =>
if x2 = 0 then
(some ((-1), M1))
else
(f_X12_isIn M1 p2 0 600).bind fun x4 =>
if x4 = 0 then
(some ((-1), M1))
else
(f_X12_isSet M1 p3).bind fun x6 =>
if x6 = 0 then
(some ((-1), M1))
else
(f_X12_isSet M1 p4).bind fun x8 =>
if x8 = 0 then
(some ((-1), M1))
else
(f_X12_soonBy M1 p1 p2 p3).bind fun x10 =>
(f_X12_soonBy x10.2 p1 p2 p4).bind fun x11 =>
if x11.1 < 0 then
(some (0, x11.2))
else
if x10.1 < 0 then
(some (1, x11.2))
else
if x11.1 < x10.1 then
(some (1, x11.2))
else
some (0, x11.2)
set_option maxRecDepth 4000 in
theorem c_X12_quicker {E : EE} {sh : List (Nat × Nat)} {ex : Bool} {R : RM} {M : MM} {p1 : Int} {p2 : Int} {p3 : Int} {p4 : Int} (hE : Ext sh) (hL : Links R) : ∀ y, f_X12_quicker M p1 p2 p3 p4 = some y → MetC E m_X12_quicker 0 0 [rV 88, iV p1, iV p2, iV p3, iV p4] (sh, ex, R, M) (fun r w' => r = some (iV y.1) ∧ w' = (sh, ex, R, y.2)) := by
  intro y hy
  refine MetC.seg (o := f_X12_quicker M p1 p2 p3 p4) (t := (fun K y => K (some (iV y.1)) (sh, ex, R, y.2))) (L := [some (rV 88), some (iV p1), some (iV p2), some (iV p3), some (iV p4), none, none]) (by decide) rfl (Nat.le_of_ble_eq_true rfl) ?_ hy ⟨rfl, rfl⟩
  unfold f_X12_quicker
  refine Seg.step (pc' := 1) (I_aload_n (i := 0) dX12_quicker_0 rfl rfl) ?_
  refine Seg.step (pc' := 2) (I_iconst dX12_quicker_1 ⟨by decide, by decide⟩) ?_
  refine Seg.step (pc' := 5) (I_putI cls12 (by decide) wf_12_175 (hE _ _ sk_12) rfl rfl dX12_quicker_2) ?_
  refine S_bM fun M1 => ?_
  refine Seg.step (pc' := 6) (I_aload_n (i := 0) dX12_quicker_5 rfl rfl) ?_
  refine Seg.step (pc' := 7) (I_iload_n (i := 1) dX12_quicker_6 rfl rfl) ?_
  refine S_callV1 (md' := m_X12_isRoom) (fun y => some (iV y)) (fun y => (sh, ex, R, M1)) (hE _ _ sk_12) ⟨by decide, rfl⟩ mm_X12_isRoom wm_12_488 ⟨rfl, rfl, by decide, by decide, by decide, by decide⟩ (Nat.le_of_ble_eq_true rfl) dX12_quicker_7 (fun y hy => c_X12_isRoom hE hL y hy) (fun x2 => ?_)
  refine S_if_eq (tgt := 39) dX12_quicker_10 (by decide) (fun h3 => ?_) (fun h3 => ?_)
  · refine Seg.step (pc' := 40) (I_iconst dX12_quicker_39 ⟨by decide, by decide⟩) ?_
    exact S_iret dX12_quicker_40 rfl (by decide) (by decide) (fun K hK => hK)
  refine Seg.step (pc' := 14) (I_iload_n (i := 2) dX12_quicker_13 rfl rfl) ?_
  refine Seg.step (pc' := 15) (I_iconst dX12_quicker_14 ⟨by decide, by decide⟩) ?_
  refine Seg.step (pc' := 18) (I_sipush dX12_quicker_15 (by decide) ⟨by decide, by decide⟩) ?_
  refine S_callS3 (md' := m_X12_isIn) (fun y => some (iV y)) (fun y => (sh, ex, R, M1)) mm_X12_isIn wm_12_220 ⟨rfl, rfl, by decide, by decide, by decide, by decide⟩ (Nat.le_of_ble_eq_true rfl) dX12_quicker_18 (fun y hy => c_X12_isIn hE hL y hy) (fun x4 => ?_)
  refine S_if_eq (tgt := 39) dX12_quicker_21 (by decide) (fun h5 => ?_) (fun h5 => ?_)
  · refine Seg.step (pc' := 40) (I_iconst dX12_quicker_39 ⟨by decide, by decide⟩) ?_
    exact S_iret dX12_quicker_40 rfl (by decide) (by decide) (fun K hK => hK)
  refine Seg.step (pc' := 25) (I_iload_n (i := 3) dX12_quicker_24 rfl rfl) ?_
  refine S_callS1 (md' := m_X12_isSet) (fun y => some (iV y)) (fun y => (sh, ex, R, M1)) mm_X12_isSet wm_12_493 ⟨rfl, rfl, by decide, by decide, by decide, by decide⟩ (Nat.le_of_ble_eq_true rfl) dX12_quicker_25 (fun y hy => c_X12_isSet hE hL y hy) (fun x6 => ?_)
  refine S_if_eq (tgt := 39) dX12_quicker_28 (by decide) (fun h7 => ?_) (fun h7 => ?_)
  · refine Seg.step (pc' := 40) (I_iconst dX12_quicker_39 ⟨by decide, by decide⟩) ?_
    exact S_iret dX12_quicker_40 rfl (by decide) (by decide) (fun K hK => hK)
  refine Seg.step (pc' := 33) (I_iload dX12_quicker_31 rfl) ?_
  refine S_callS1 (md' := m_X12_isSet) (fun y => some (iV y)) (fun y => (sh, ex, R, M1)) mm_X12_isSet wm_12_493 ⟨rfl, rfl, by decide, by decide, by decide, by decide⟩ (Nat.le_of_ble_eq_true rfl) dX12_quicker_33 (fun y hy => c_X12_isSet hE hL y hy) (fun x8 => ?_)
  refine S_if_ne (tgt := 41) dX12_quicker_36 (by decide) (fun h9 => ?_) (fun h9 => ?_)
  · refine Seg.step (pc' := 40) (I_iconst dX12_quicker_39 ⟨by decide, by decide⟩) ?_
    exact S_iret dX12_quicker_40 rfl (by decide) (by decide) (fun K hK => hK)
  refine Seg.step (pc' := 42) (I_aload_n (i := 0) dX12_quicker_41 rfl rfl) ?_
  refine Seg.step (pc' := 43) (I_iload_n (i := 1) dX12_quicker_42 rfl rfl) ?_
  refine Seg.step (pc' := 44) (I_iload_n (i := 2) dX12_quicker_43 rfl rfl) ?_
  refine Seg.step (pc' := 45) (I_iload_n (i := 3) dX12_quicker_44 rfl rfl) ?_
  refine S_callV3 (md' := m_X12_soonBy) (fun y => some (iV y.1)) (fun y => (sh, ex, R, y.2)) (hE _ _ sk_12) ⟨by decide, rfl⟩ mm_X12_soonBy wm_12_508 ⟨rfl, rfl, by decide, by decide, by decide, by decide⟩ (Nat.le_of_ble_eq_true rfl) dX12_quicker_45 (fun y hy => c_X12_soonBy hE hL y hy) (fun x10 => ?_)
  refine Seg.step (pc' := 50) (I_istore dX12_quicker_48 (by decide) rfl) ?_
  refine Seg.step (pc' := 51) (I_aload_n (i := 0) dX12_quicker_50 rfl rfl) ?_
  refine Seg.step (pc' := 52) (I_iload_n (i := 1) dX12_quicker_51 rfl rfl) ?_
  refine Seg.step (pc' := 53) (I_iload_n (i := 2) dX12_quicker_52 rfl rfl) ?_
  refine Seg.step (pc' := 55) (I_iload dX12_quicker_53 rfl) ?_
  refine S_callV3 (md' := m_X12_soonBy) (fun y => some (iV y.1)) (fun y => (sh, ex, R, y.2)) (hE _ _ sk_12) ⟨by decide, rfl⟩ mm_X12_soonBy wm_12_508 ⟨rfl, rfl, by decide, by decide, by decide, by decide⟩ (Nat.le_of_ble_eq_true rfl) dX12_quicker_55 (fun y hy => c_X12_soonBy hE hL y hy) (fun x11 => ?_)
  refine Seg.step (pc' := 60) (I_istore dX12_quicker_58 (by decide) rfl) ?_
  refine Seg.step (pc' := 62) (I_iload dX12_quicker_60 rfl) ?_
  refine S_if_lt (tgt := 81) dX12_quicker_62 (by decide) (fun h12 => ?_) (fun h12 => ?_)
  · refine Seg.step (pc' := 82) (I_iconst dX12_quicker_81 ⟨by decide, by decide⟩) ?_
    exact S_iret dX12_quicker_82 rfl (by decide) (by decide) (fun K hK => hK)
  refine Seg.step (pc' := 67) (I_iload dX12_quicker_65 rfl) ?_
  refine S_if_lt (tgt := 77) dX12_quicker_67 (by decide) (fun h13 => ?_) (fun h13 => ?_)
  · refine Seg.step (pc' := 78) (I_iconst dX12_quicker_77 ⟨by decide, by decide⟩) ?_
    refine Seg.step (pc' := 82) (I_goto (tgt := 82) dX12_quicker_78 (by decide)) ?_
    exact S_iret dX12_quicker_82 rfl (by decide) (by decide) (fun K hK => hK)
  refine Seg.step (pc' := 72) (I_iload dX12_quicker_70 rfl) ?_
  refine Seg.step (pc' := 74) (I_iload dX12_quicker_72 rfl) ?_
  refine S_icmp_ge (tgt := 81) dX12_quicker_74 (by decide) (fun h14 => ?_) (fun h14 => ?_)
  · refine Seg.step (pc' := 78) (I_iconst dX12_quicker_77 ⟨by decide, by decide⟩) ?_
    refine Seg.step (pc' := 82) (I_goto (tgt := 82) dX12_quicker_78 (by decide)) ?_
    exact S_iret dX12_quicker_82 rfl (by decide) (by decide) (fun K hK => hK)
  refine Seg.step (pc' := 82) (I_iconst dX12_quicker_81 ⟨by decide, by decide⟩) ?_
  exact S_iret dX12_quicker_82 rfl (by decide) (by decide) (fun K hK => hK)
theorem dX12_best_0 : decode cX12_best 0 = .ok (.aload_n 0, 1) := by decide +kernel
theorem dX12_best_1 : decode cX12_best 1 = .ok (.iconst 0, 1) := by decide +kernel
theorem dX12_best_2 : decode cX12_best 2 = .ok (.putfield 175, 3) := by decide +kernel
theorem dX12_best_5 : decode cX12_best 5 = .ok (.iload_n 1, 1) := by decide +kernel
theorem dX12_best_6 : decode cX12_best 6 = .ok (.iconst 1, 1) := by decide +kernel
theorem dX12_best_7 : decode cX12_best 7 = .ok (.bipush 99, 2) := by decide +kernel
theorem dX12_best_9 : decode cX12_best 9 = .ok (.invokestatic 220, 3) := by decide +kernel
theorem dX12_best_12 : decode cX12_best 12 = .ok (.ifCond .eq 12, 3) := by decide +kernel
theorem dX12_best_15 : decode cX12_best 15 = .ok (.iload_n 2, 1) := by decide +kernel
theorem dX12_best_16 : decode cX12_best 16 = .ok (.iconst 0, 1) := by decide +kernel
theorem dX12_best_17 : decode cX12_best 17 = .ok (.iconst 1, 1) := by decide +kernel
theorem dX12_best_18 : decode cX12_best 18 = .ok (.invokestatic 220, 3) := by decide +kernel
theorem dX12_best_21 : decode cX12_best 21 = .ok (.ifCond .ne 5, 3) := by decide +kernel
theorem dX12_best_24 : decode cX12_best 24 = .ok (.iconst (-1), 1) := by decide +kernel
theorem dX12_best_25 : decode cX12_best 25 = .ok (.ireturn, 1) := by decide +kernel
theorem dX12_best_26 : decode cX12_best 26 = .ok (.iconst (-1), 1) := by decide +kernel
theorem dX12_best_27 : decode cX12_best 27 = .ok (.istore_n 3, 1) := by decide +kernel
theorem dX12_best_28 : decode cX12_best 28 = .ok (.iconst 0, 1) := by decide +kernel
theorem dX12_best_29 : decode cX12_best 29 = .ok (.istore 4, 2) := by decide +kernel
theorem dX12_best_31 : decode cX12_best 31 = .ok (.iconst 5, 1) := by decide +kernel
theorem dX12_best_32 : decode cX12_best 32 = .ok (.istore 5, 2) := by decide +kernel
theorem dX12_best_34 : decode cX12_best 34 = .ok (.iload 5, 2) := by decide +kernel
theorem dX12_best_36 : decode cX12_best 36 = .ok (.bipush 30, 2) := by decide +kernel
theorem dX12_best_38 : decode cX12_best 38 = .ok (.if_icmp .gt 45, 3) := by decide +kernel
theorem dX12_best_41 : decode cX12_best 41 = .ok (.aload_n 0, 1) := by decide +kernel
theorem dX12_best_42 : decode cX12_best 42 = .ok (.iload 5, 2) := by decide +kernel
theorem dX12_best_44 : decode cX12_best 44 = .ok (.invokevirtual 505, 3) := by decide +kernel
theorem dX12_best_47 : decode cX12_best 47 = .ok (.aload_n 0, 1) := by decide +kernel
theorem dX12_best_48 : decode cX12_best 48 = .ok (.iload_n 1, 1) := by decide +kernel
theorem dX12_best_49 : decode cX12_best 49 = .ok (.invokevirtual 499, 3) := by decide +kernel
theorem dX12_best_52 : decode cX12_best 52 = .ok (.iload_n 3, 1) := by decide +kernel
theorem dX12_best_53 : decode cX12_best 53 = .ok (.ifCond .lt 15, 3) := by decide +kernel
theorem dX12_best_56 : decode cX12_best 56 = .ok (.aload_n 0, 1) := by decide +kernel
theorem dX12_best_57 : decode cX12_best 57 = .ok (.invokevirtual 502, 3) := by decide +kernel
theorem dX12_best_60 : decode cX12_best 60 = .ok (.iload 4, 2) := by decide +kernel
theorem dX12_best_62 : decode cX12_best 62 = .ok (.if_icmp .lt 6, 3) := by decide +kernel
theorem dX12_best_65 : decode cX12_best 65 = .ok (.goto 12, 3) := by decide +kernel
theorem dX12_best_68 : decode cX12_best 68 = .ok (.iload 5, 2) := by decide +kernel
theorem dX12_best_70 : decode cX12_best 70 = .ok (.istore_n 3, 1) := by decide +kernel
theorem dX12_best_71 : decode cX12_best 71 = .ok (.aload_n 0, 1) := by decide +kernel
theorem dX12_best_72 : decode cX12_best 72 = .ok (.invokevirtual 502, 3) := by decide +kernel
theorem dX12_best_75 : decode cX12_best 75 = .ok (.istore 4, 2) := by decide +kernel
theorem dX12_best_77 : decode cX12_best 77 = .ok (.iinc 5 1, 3) := by decide +kernel
theorem dX12_best_80 : decode cX12_best 80 = .ok (.goto (-46), 3) := by decide +kernel
theorem dX12_best_83 : decode cX12_best 83 = .ok (.iload_n 2, 1) := by decide +kernel
theorem dX12_best_84 : decode cX12_best 84 = .ok (.ifCond .ne 7, 3) := by decide +kernel
theorem dX12_best_87 : decode cX12_best 87 = .ok (.iload_n 3, 1) := by decide +kernel
theorem dX12_best_88 : decode cX12_best 88 = .ok (.goto 5, 3) := by decide +kernel
theorem dX12_best_91 : decode cX12_best 91 = .ok (.iload 4, 2) := by decide +kernel
theorem dX12_best_93 : decode cX12_best 93 = .ok (.ireturn, 1) := by decide +kernel
def f_X12_best (M : MM) (p1 : Int) (p2 : Int) : Option (Int × MM) :=
bM (upM M 88 2 0) fun M1 =>
(f_X12_isIn M1 p1 1 99).bind fun x2 =>
if x2 = 0 then
(some ((-1), M1))
else
(f_X12_isIn M1 p2 0 1).bind fun x4 =>
if x4 = 0 then
(some ((-1), M1))
else
(lp (X := Int × Int × Int × MM) (Y := Int × Int × MM) (fun x6 =>
if 30 < x6.2.2.1 then
(some (Sum.inr (x6.1, x6.2.1, x6.2.2.2)))
else
(f_X12_layStill x6.2.2.2 x6.2.2.1).bind fun x8 =>
(f_X12_goMany x8 p1).bind fun x9 =>
((if x6.1 < 0 then
((f_X12_crossMore x9).bind fun x11 =>
some (x6.2.2.1, x11))
else
(f_X12_crossMore x9).bind fun x12 =>
if x12 < x6.2.1 then
((f_X12_crossMore x9).bind fun x14 =>
some (x6.2.2.1, x14))
else
some (x6.1, x6.2.1)) : Option (Int × Int)).bind fun x15 =>
some (Sum.inl (x15.1, x15.2, w32 (x6.2.2.1 + 1), x9))) FU ((-1), 0, 5, M1)).bind fun x16 =>
if p2 = 0 then
(some (x16.1, x16.2.2))
else
some (x16.2.1, x16.2.2)
set_option maxRecDepth 4000 in
theorem c_X12_best {E : EE} {sh : List (Nat × Nat)} {ex : Bool} {R : RM} {M : MM} {p1 : Int} {p2 : Int} (hE : Ext sh) (hL : Links R) : ∀ y, f_X12_best M p1 p2 = some y → MetC E m_X12_best 0 0 [rV 88, iV p1, iV p2] (sh, ex, R, M) (fun r w' => r = some (iV y.1) ∧ w' = (sh, ex, R, y.2)) := by
  intro y hy
  refine MetC.seg (o := f_X12_best M p1 p2) (t := (fun K y => K (some (iV y.1)) (sh, ex, R, y.2))) (L := [some (rV 88), some (iV p1), some (iV p2), none, none, none]) (by decide) rfl (Nat.le_of_ble_eq_true rfl) ?_ hy ⟨rfl, rfl⟩
  unfold f_X12_best
  refine Seg.step (pc' := 1) (I_aload_n (i := 0) dX12_best_0 rfl rfl) ?_
  refine Seg.step (pc' := 2) (I_iconst dX12_best_1 ⟨by decide, by decide⟩) ?_
  refine Seg.step (pc' := 5) (I_putI cls12 (by decide) wf_12_175 (hE _ _ sk_12) rfl rfl dX12_best_2) ?_
  refine S_bM fun M1 => ?_
  refine Seg.step (pc' := 6) (I_iload_n (i := 1) dX12_best_5 rfl rfl) ?_
  refine Seg.step (pc' := 7) (I_iconst dX12_best_6 ⟨by decide, by decide⟩) ?_
  refine Seg.step (pc' := 9) (I_bipush dX12_best_7 (by decide) ⟨by decide, by decide⟩) ?_
  refine S_callS3 (md' := m_X12_isIn) (fun y => some (iV y)) (fun y => (sh, ex, R, M1)) mm_X12_isIn wm_12_220 ⟨rfl, rfl, by decide, by decide, by decide, by decide⟩ (Nat.le_of_ble_eq_true rfl) dX12_best_9 (fun y hy => c_X12_isIn hE hL y hy) (fun x2 => ?_)
  refine S_if_eq (tgt := 24) dX12_best_12 (by decide) (fun h3 => ?_) (fun h3 => ?_)
  · refine Seg.step (pc' := 25) (I_iconst dX12_best_24 ⟨by decide, by decide⟩) ?_
    exact S_iret dX12_best_25 rfl (by decide) (by decide) (fun K hK => hK)
  refine Seg.step (pc' := 16) (I_iload_n (i := 2) dX12_best_15 rfl rfl) ?_
  refine Seg.step (pc' := 17) (I_iconst dX12_best_16 ⟨by decide, by decide⟩) ?_
  refine Seg.step (pc' := 18) (I_iconst dX12_best_17 ⟨by decide, by decide⟩) ?_
  refine S_callS3 (md' := m_X12_isIn) (fun y => some (iV y)) (fun y => (sh, ex, R, M1)) mm_X12_isIn wm_12_220 ⟨rfl, rfl, by decide, by decide, by decide, by decide⟩ (Nat.le_of_ble_eq_true rfl) dX12_best_18 (fun y hy => c_X12_isIn hE hL y hy) (fun x4 => ?_)
  refine S_if_ne (tgt := 26) dX12_best_21 (by decide) (fun h5 => ?_) (fun h5 => ?_)
  · refine Seg.step (pc' := 25) (I_iconst dX12_best_24 ⟨by decide, by decide⟩) ?_
    exact S_iret dX12_best_25 rfl (by decide) (by decide) (fun K hK => hK)
  refine Seg.step (pc' := 27) (I_iconst dX12_best_26 ⟨by decide, by decide⟩) ?_
  refine Seg.step (pc' := 28) (I_istore_n (i := 3) dX12_best_27 rfl (by decide) rfl) ?_
  refine Seg.step (pc' := 29) (I_iconst dX12_best_28 ⟨by decide, by decide⟩) ?_
  refine Seg.step (pc' := 31) (I_istore dX12_best_29 (by decide) rfl) ?_
  refine Seg.step (pc' := 32) (I_iconst dX12_best_31 ⟨by decide, by decide⟩) ?_
  refine Seg.step (pc' := 34) (I_istore dX12_best_32 (by decide) rfl) ?_
  refine Seg.forget (Lle.ye (Lle.ye (Lle.ye (Lle.ye (Lle.ye (Lle.ye (Lle.nil))))))) ?_
  refine S_bind (Y := Int × Int × MM) (k' := 0) (n' := 0) 83 (fun y => [none, none, some (iV p2), some (iV y.1), some (iV y.2.1), none]) (fun y => []) (fun y => (sh, ex, R, y.2.2)) (S_loop (Y := Int × Int × Int × MM) (fun y => [some (rV 88), some (iV p1), some (iV p2), some (iV y.1), some (iV y.2.1), some (iV y.2.2.1)]) (fun y => []) (fun y => (sh, ex, R, y.2.2.2)) (fun x6 => ?_) FU ((-1), 0, 5, M1)) (fun x16 => ?_)
  · refine Seg.step (pc' := 36) (I_iload dX12_best_34 rfl) ?_
    refine Seg.step (pc' := 38) (I_bipush dX12_best_36 (by decide) ⟨by decide, by decide⟩) ?_
    refine S_icmp_gt (tgt := 83) dX12_best_38 (by decide) (fun h7 => ?_) (fun h7 => ?_)
    · exact S_arr (fun K hK => GG.forget (Lle.no (Lle.no (Lle.ye (Lle.ye (Lle.ye (Lle.no (Lle.nil))))))) hK)
    refine Seg.step (pc' := 42) (I_aload_n (i := 0) dX12_best_41 rfl rfl) ?_
    refine Seg.step (pc' := 44) (I_iload dX12_best_42 rfl) ?_
    refine S_callV1 (md' := m_X12_layStill) (fun y => none) (fun y => (sh, ex, R, y)) (hE _ _ sk_12) ⟨by decide, rfl⟩ mm_X12_layStill wm_12_505 ⟨rfl, rfl, by decide, by decide, by decide, by decide⟩ (Nat.le_of_ble_eq_true rfl) dX12_best_44 (fun y hy => c_X12_layStill hE hL y hy) (fun x8 => ?_)
    refine Seg.step (pc' := 48) (I_aload_n (i := 0) dX12_best_47 rfl rfl) ?_
    refine Seg.step (pc' := 49) (I_iload_n (i := 1) dX12_best_48 rfl rfl) ?_
    refine S_callV1 (md' := m_X12_goMany) (fun y => none) (fun y => (sh, ex, R, y)) (hE _ _ sk_12) ⟨by decide, rfl⟩ mm_X12_goMany wm_12_499 ⟨rfl, rfl, by decide, by decide, by decide, by decide⟩ (Nat.le_of_ble_eq_true rfl) dX12_best_49 (fun y hy => c_X12_goMany hE hL y hy) (fun x9 => ?_)
    refine Seg.step (pc' := 53) (I_iload_n (i := 3) dX12_best_52 rfl rfl) ?_
    refine S_bind (Y := Int × Int) (k' := 0) (n' := 0) 77 (fun y => [some (rV 88), some (iV p1), some (iV p2), some (iV y.1), some (iV y.2), some (iV x6.2.2.1)]) (fun y => []) (fun y => (sh, ex, R, x9)) ?_ (fun x15 => ?_)
    · refine S_if_lt (tgt := 68) dX12_best_53 (by decide) (fun h10 => ?_) (fun h10 => ?_)
      · refine Seg.step (pc' := 70) (I_iload dX12_best_68 rfl) ?_
        refine Seg.step (pc' := 71) (I_istore_n (i := 3) dX12_best_70 rfl (by decide) rfl) ?_
        refine Seg.step (pc' := 72) (I_aload_n (i := 0) dX12_best_71 rfl rfl) ?_
        refine S_callV0 (md' := m_X12_crossMore) (fun y => some (iV y)) (fun y => (sh, ex, R, x9)) (hE _ _ sk_12) ⟨by decide, rfl⟩ mm_X12_crossMore wm_12_502 ⟨rfl, rfl, by decide, by decide, by decide, by decide⟩ (Nat.le_of_ble_eq_true rfl) dX12_best_72 (fun y hy => c_X12_crossMore hE hL y hy) (fun x11 => ?_)
        refine Seg.step (pc' := 77) (I_istore dX12_best_75 (by decide) rfl) ?_
        exact S_arr (fun K hK => GG.forget (Lle.ye (Lle.ye (Lle.ye (Lle.ye (Lle.ye (Lle.ye (Lle.nil))))))) hK)
      refine Seg.step (pc' := 57) (I_aload_n (i := 0) dX12_best_56 rfl rfl) ?_
      refine S_callV0 (md' := m_X12_crossMore) (fun y => some (iV y)) (fun y => (sh, ex, R, x9)) (hE _ _ sk_12) ⟨by decide, rfl⟩ mm_X12_crossMore wm_12_502 ⟨rfl, rfl, by decide, by decide, by decide, by decide⟩ (Nat.le_of_ble_eq_true rfl) dX12_best_57 (fun y hy => c_X12_crossMore hE hL y hy) (fun x12 => ?_)
      refine Seg.step (pc' := 62) (I_iload dX12_best_60 rfl) ?_
      refine S_icmp_lt (tgt := 68) dX12_best_62 (by decide) (fun h13 => ?_) (fun h13 => ?_)
      · refine Seg.step (pc' := 70) (I_iload dX12_best_68 rfl) ?_
        refine Seg.step (pc' := 71) (I_istore_n (i := 3) dX12_best_70 rfl (by decide) rfl) ?_
        refine Seg.step (pc' := 72) (I_aload_n (i := 0) dX12_best_71 rfl rfl) ?_
        refine S_callV0 (md' := m_X12_crossMore) (fun y => some (iV y)) (fun y => (sh, ex, R, x9)) (hE _ _ sk_12) ⟨by decide, rfl⟩ mm_X12_crossMore wm_12_502 ⟨rfl, rfl, by decide, by decide, by decide, by decide⟩ (Nat.le_of_ble_eq_true rfl) dX12_best_72 (fun y hy => c_X12_crossMore hE hL y hy) (fun x14 => ?_)
        refine Seg.step (pc' := 77) (I_istore dX12_best_75 (by decide) rfl) ?_
        exact S_arr (fun K hK => GG.forget (Lle.ye (Lle.ye (Lle.ye (Lle.ye (Lle.ye (Lle.ye (Lle.nil))))))) hK)
      refine Seg.step (pc' := 77) (I_goto (tgt := 77) dX12_best_65 (by decide)) ?_
      exact S_arr (fun K hK => GG.forget (Lle.ye (Lle.ye (Lle.ye (Lle.ye (Lle.ye (Lle.ye (Lle.nil))))))) hK)
    refine Seg.step (pc' := 80) (I_iinc dX12_best_77 rfl (by decide) rfl) ?_
    refine Seg.step (pc' := 34) (I_goto (tgt := 34) dX12_best_80 (by decide)) ?_
    exact S_arr (fun K hK => GG.forget (Lle.ye (Lle.ye (Lle.ye (Lle.ye (Lle.ye (Lle.ye (Lle.nil))))))) hK)
  refine Seg.step (pc' := 84) (I_iload_n (i := 2) dX12_best_83 rfl rfl) ?_
  refine S_if_ne (tgt := 91) dX12_best_84 (by decide) (fun h17 => ?_) (fun h17 => ?_)
  · refine Seg.step (pc' := 88) (I_iload_n (i := 3) dX12_best_87 rfl rfl) ?_
    refine Seg.step (pc' := 93) (I_goto (tgt := 93) dX12_best_88 (by decide)) ?_
    exact S_iret dX12_best_93 rfl (by decide) (by decide) (fun K hK => hK)
  refine Seg.step (pc' := 93) (I_iload dX12_best_91 rfl) ?_
  exact S_iret dX12_best_93 rfl (by decide) (by decide) (fun K hK => hK)
theorem dX12_cheap_0 : decode cX12_cheap 0 = .ok (.aload_n 0, 1) := by decide +kernel
theorem dX12_cheap_1 : decode cX12_cheap 1 = .ok (.iconst 0, 1) := by decide +kernel
theorem dX12_cheap_2 : decode cX12_cheap 2 = .ok (.putfield 175, 3) := by decide +kernel
theorem dX12_cheap_5 : decode cX12_cheap 5 = .ok (.iload_n 1, 1) := by decide +kernel
theorem dX12_cheap_6 : decode cX12_cheap 6 = .ok (.iconst 1, 1) := by decide +kernel
theorem dX12_cheap_7 : decode cX12_cheap 7 = .ok (.bipush 99, 2) := by decide +kernel
theorem dX12_cheap_9 : decode cX12_cheap 9 = .ok (.invokestatic 220, 3) := by decide +kernel
theorem dX12_cheap_12 : decode cX12_cheap 12 = .ok (.ifCond .eq 13, 3) := by decide +kernel
theorem dX12_cheap_15 : decode cX12_cheap 15 = .ok (.iload_n 2, 1) := by decide +kernel
theorem dX12_cheap_16 : decode cX12_cheap 16 = .ok (.iconst 0, 1) := by decide +kernel
theorem dX12_cheap_17 : decode cX12_cheap 17 = .ok (.ldc 213, 2) := by decide +kernel
theorem dX12_cheap_19 : decode cX12_cheap 19 = .ok (.invokestatic 220, 3) := by decide +kernel
theorem dX12_cheap_22 : decode cX12_cheap 22 = .ok (.ifCond .ne 5, 3) := by decide +kernel
theorem dX12_cheap_25 : decode cX12_cheap 25 = .ok (.iconst (-1), 1) := by decide +kernel
theorem dX12_cheap_26 : decode cX12_cheap 26 = .ok (.ireturn, 1) := by decide +kernel
theorem dX12_cheap_27 : decode cX12_cheap 27 = .ok (.bipush (-2), 2) := by decide +kernel
theorem dX12_cheap_29 : decode cX12_cheap 29 = .ok (.istore_n 3, 1) := by decide +kernel
theorem dX12_cheap_30 : decode cX12_cheap 30 = .ok (.iconst 0, 1) := by decide +kernel
theorem dX12_cheap_31 : decode cX12_cheap 31 = .ok (.istore 4, 2) := by decide +kernel
theorem dX12_cheap_33 : decode cX12_cheap 33 = .ok (.iconst 5, 1) := by decide +kernel
theorem dX12_cheap_34 : decode cX12_cheap 34 = .ok (.istore 5, 2) := by decide +kernel
theorem dX12_cheap_36 : decode cX12_cheap 36 = .ok (.iload 5, 2) := by decide +kernel
theorem dX12_cheap_38 : decode cX12_cheap 38 = .ok (.bipush 30, 2) := by decide +kernel
theorem dX12_cheap_40 : decode cX12_cheap 40 = .ok (.if_icmp .gt 57, 3) := by decide +kernel
theorem dX12_cheap_43 : decode cX12_cheap 43 = .ok (.aload_n 0, 1) := by decide +kernel
theorem dX12_cheap_44 : decode cX12_cheap 44 = .ok (.iload 5, 2) := by decide +kernel
theorem dX12_cheap_46 : decode cX12_cheap 46 = .ok (.invokevirtual 505, 3) := by decide +kernel
theorem dX12_cheap_49 : decode cX12_cheap 49 = .ok (.aload_n 0, 1) := by decide +kernel
theorem dX12_cheap_50 : decode cX12_cheap 50 = .ok (.iload_n 1, 1) := by decide +kernel
theorem dX12_cheap_51 : decode cX12_cheap 51 = .ok (.invokevirtual 499, 3) := by decide +kernel
theorem dX12_cheap_54 : decode cX12_cheap 54 = .ok (.aload_n 0, 1) := by decide +kernel
theorem dX12_cheap_55 : decode cX12_cheap 55 = .ok (.invokevirtual 502, 3) := by decide +kernel
theorem dX12_cheap_58 : decode cX12_cheap 58 = .ok (.iload_n 2, 1) := by decide +kernel
theorem dX12_cheap_59 : decode cX12_cheap 59 = .ok (.if_icmp .gt 32, 3) := by decide +kernel
theorem dX12_cheap_62 : decode cX12_cheap 62 = .ok (.iload_n 3, 1) := by decide +kernel
theorem dX12_cheap_63 : decode cX12_cheap 63 = .ok (.ifCond .lt 17, 3) := by decide +kernel
theorem dX12_cheap_66 : decode cX12_cheap 66 = .ok (.aload_n 0, 1) := by decide +kernel
theorem dX12_cheap_67 : decode cX12_cheap 67 = .ok (.getfield 121, 3) := by decide +kernel
theorem dX12_cheap_70 : decode cX12_cheap 70 = .ok (.iconst 1, 1) := by decide +kernel
theorem dX12_cheap_71 : decode cX12_cheap 71 = .ok (.iaload, 1) := by decide +kernel
theorem dX12_cheap_72 : decode cX12_cheap 72 = .ok (.iload 4, 2) := by decide +kernel
theorem dX12_cheap_74 : decode cX12_cheap 74 = .ok (.if_icmp .lt 6, 3) := by decide +kernel
theorem dX12_cheap_77 : decode cX12_cheap 77 = .ok (.goto 14, 3) := by decide +kernel
theorem dX12_cheap_80 : decode cX12_cheap 80 = .ok (.iload 5, 2) := by decide +kernel
theorem dX12_cheap_82 : decode cX12_cheap 82 = .ok (.istore_n 3, 1) := by decide +kernel
theorem dX12_cheap_83 : decode cX12_cheap 83 = .ok (.aload_n 0, 1) := by decide +kernel
theorem dX12_cheap_84 : decode cX12_cheap 84 = .ok (.getfield 121, 3) := by decide +kernel
theorem dX12_cheap_87 : decode cX12_cheap 87 = .ok (.iconst 1, 1) := by decide +kernel
theorem dX12_cheap_88 : decode cX12_cheap 88 = .ok (.iaload, 1) := by decide +kernel
theorem dX12_cheap_89 : decode cX12_cheap 89 = .ok (.istore 4, 2) := by decide +kernel
theorem dX12_cheap_91 : decode cX12_cheap 91 = .ok (.iinc 5 1, 3) := by decide +kernel
theorem dX12_cheap_94 : decode cX12_cheap 94 = .ok (.goto (-58), 3) := by decide +kernel
theorem dX12_cheap_97 : decode cX12_cheap 97 = .ok (.iload_n 3, 1) := by decide +kernel
theorem dX12_cheap_98 : decode cX12_cheap 98 = .ok (.ireturn, 1) := by decide +kernel
def f_X12_cheap (M : MM) (p1 : Int) (p2 : Int) : Option (Int × MM) :=
bM (upM M 88 2 0) fun M1 =>
(f_X12_isIn M1 p1 1 99).bind fun x2 =>
if x2 = 0 then
(some ((-1), M1))
else
(f_X12_isIn M1 p2 0 99999).bind fun x4 =>
if x4 = 0 then
(some ((-1), M1))
else
lp (X := Int × Int × Int × MM) (Y := Int × MM) (fun x6 =>
if 30 < x6.2.2.1 then
(some (Sum.inr (x6.1, x6.2.2.2)))
else
(f_X12_layStill x6.2.2.2 x6.2.2.1).bind fun x8 =>
(f_X12_goMany x8 p1).bind fun x9 =>
(f_X12_crossMore x9).bind fun x10 =>
((if p2 < x10 then
(some (x6.1, x6.2.1))
else
if x6.1 < 0 then
(bI (x9 124 1) fun x13 =>
some (x6.2.2.1, x13))
else
if (x9 124 1) < x6.2.1 then
(bI (x9 124 1) fun x15 =>
some (x6.2.2.1, x15))
else
some (x6.1, x6.2.1)) : Option (Int × Int)).bind fun x16 =>
some (Sum.inl (x16.1, x16.2, w32 (x6.2.2.1 + 1), x9))) FU ((-2), 0, 5, M1)
set_option maxRecDepth 4000 in
theorem c_X12_cheap {E : EE} {sh : List (Nat × Nat)} {ex : Bool} {R : RM} {M : MM} {p1 : Int} {p2 : Int} (hE : Ext sh) (hL : Links R) : ∀ y, f_X12_cheap M p1 p2 = some y → MetC E m_X12_cheap 0 0 [rV 88, iV p1, iV p2] (sh, ex, R, M) (fun r w' => r = some (iV y.1) ∧ w' = (sh, ex, R, y.2)) := by
  intro y hy
  refine MetC.seg (o := f_X12_cheap M p1 p2) (t := (fun K y => K (some (iV y.1)) (sh, ex, R, y.2))) (L := [some (rV 88), some (iV p1), some (iV p2), none, none, none]) (by decide) rfl (Nat.le_of_ble_eq_true rfl) ?_ hy ⟨rfl, rfl⟩
  unfold f_X12_cheap
  refine Seg.step (pc' := 1) (I_aload_n (i := 0) dX12_cheap_0 rfl rfl) ?_
  refine Seg.step (pc' := 2) (I_iconst dX12_cheap_1 ⟨by decide, by decide⟩) ?_
  refine Seg.step (pc' := 5) (I_putI cls12 (by decide) wf_12_175 (hE _ _ sk_12) rfl rfl dX12_cheap_2) ?_
  refine S_bM fun M1 => ?_
  refine Seg.step (pc' := 6) (I_iload_n (i := 1) dX12_cheap_5 rfl rfl) ?_
  refine Seg.step (pc' := 7) (I_iconst dX12_cheap_6 ⟨by decide, by decide⟩) ?_
  refine Seg.step (pc' := 9) (I_bipush dX12_cheap_7 (by decide) ⟨by decide, by decide⟩) ?_
  refine S_callS3 (md' := m_X12_isIn) (fun y => some (iV y)) (fun y => (sh, ex, R, M1)) mm_X12_isIn wm_12_220 ⟨rfl, rfl, by decide, by decide, by decide, by decide⟩ (Nat.le_of_ble_eq_true rfl) dX12_cheap_9 (fun y hy => c_X12_isIn hE hL y hy) (fun x2 => ?_)
  refine S_if_eq (tgt := 25) dX12_cheap_12 (by decide) (fun h3 => ?_) (fun h3 => ?_)
  · refine Seg.step (pc' := 26) (I_iconst dX12_cheap_25 ⟨by decide, by decide⟩) ?_
    exact S_iret dX12_cheap_26 rfl (by decide) (by decide) (fun K hK => hK)
  refine Seg.step (pc' := 16) (I_iload_n (i := 2) dX12_cheap_15 rfl rfl) ?_
  refine Seg.step (pc' := 17) (I_iconst dX12_cheap_16 ⟨by decide, by decide⟩) ?_
  refine Seg.step (pc' := 19) (I_ldc (z := 99999) dX12_cheap_17 wk_12_213 ⟨by decide, by decide⟩) ?_
  refine S_callS3 (md' := m_X12_isIn) (fun y => some (iV y)) (fun y => (sh, ex, R, M1)) mm_X12_isIn wm_12_220 ⟨rfl, rfl, by decide, by decide, by decide, by decide⟩ (Nat.le_of_ble_eq_true rfl) dX12_cheap_19 (fun y hy => c_X12_isIn hE hL y hy) (fun x4 => ?_)
  refine S_if_ne (tgt := 27) dX12_cheap_22 (by decide) (fun h5 => ?_) (fun h5 => ?_)
  · refine Seg.step (pc' := 26) (I_iconst dX12_cheap_25 ⟨by decide, by decide⟩) ?_
    exact S_iret dX12_cheap_26 rfl (by decide) (by decide) (fun K hK => hK)
  refine Seg.step (pc' := 29) (I_bipush dX12_cheap_27 (by decide) ⟨by decide, by decide⟩) ?_
  refine Seg.step (pc' := 30) (I_istore_n (i := 3) dX12_cheap_29 rfl (by decide) rfl) ?_
  refine Seg.step (pc' := 31) (I_iconst dX12_cheap_30 ⟨by decide, by decide⟩) ?_
  refine Seg.step (pc' := 33) (I_istore dX12_cheap_31 (by decide) rfl) ?_
  refine Seg.step (pc' := 34) (I_iconst dX12_cheap_33 ⟨by decide, by decide⟩) ?_
  refine Seg.step (pc' := 36) (I_istore dX12_cheap_34 (by decide) rfl) ?_
  refine Seg.forget (Lle.ye (Lle.ye (Lle.ye (Lle.ye (Lle.ye (Lle.ye (Lle.nil))))))) ?_
  refine S_loop (Y := Int × Int × Int × MM) (fun y => [some (rV 88), some (iV p1), some (iV p2), some (iV y.1), some (iV y.2.1), some (iV y.2.2.1)]) (fun y => []) (fun y => (sh, ex, R, y.2.2.2)) (fun x6 => ?_) FU ((-2), 0, 5, M1)
  refine Seg.step (pc' := 38) (I_iload dX12_cheap_36 rfl) ?_
  refine Seg.step (pc' := 40) (I_bipush dX12_cheap_38 (by decide) ⟨by decide, by decide⟩) ?_
  refine S_icmp_gt (tgt := 97) dX12_cheap_40 (by decide) (fun h7 => ?_) (fun h7 => ?_)
  · refine Seg.step (pc' := 98) (I_iload_n (i := 3) dX12_cheap_97 rfl rfl) ?_
    exact S_iret dX12_cheap_98 rfl (by decide) (by decide) (fun K hK => hK)
  refine Seg.step (pc' := 44) (I_aload_n (i := 0) dX12_cheap_43 rfl rfl) ?_
  refine Seg.step (pc' := 46) (I_iload dX12_cheap_44 rfl) ?_
  refine S_callV1 (md' := m_X12_layStill) (fun y => none) (fun y => (sh, ex, R, y)) (hE _ _ sk_12) ⟨by decide, rfl⟩ mm_X12_layStill wm_12_505 ⟨rfl, rfl, by decide, by decide, by decide, by decide⟩ (Nat.le_of_ble_eq_true rfl) dX12_cheap_46 (fun y hy => c_X12_layStill hE hL y hy) (fun x8 => ?_)
  refine Seg.step (pc' := 50) (I_aload_n (i := 0) dX12_cheap_49 rfl rfl) ?_
  refine Seg.step (pc' := 51) (I_iload_n (i := 1) dX12_cheap_50 rfl rfl) ?_
  refine S_callV1 (md' := m_X12_goMany) (fun y => none) (fun y => (sh, ex, R, y)) (hE _ _ sk_12) ⟨by decide, rfl⟩ mm_X12_goMany wm_12_499 ⟨rfl, rfl, by decide, by decide, by decide, by decide⟩ (Nat.le_of_ble_eq_true rfl) dX12_cheap_51 (fun y hy => c_X12_goMany hE hL y hy) (fun x9 => ?_)
  refine Seg.step (pc' := 55) (I_aload_n (i := 0) dX12_cheap_54 rfl rfl) ?_
  refine S_callV0 (md' := m_X12_crossMore) (fun y => some (iV y)) (fun y => (sh, ex, R, x9)) (hE _ _ sk_12) ⟨by decide, rfl⟩ mm_X12_crossMore wm_12_502 ⟨rfl, rfl, by decide, by decide, by decide, by decide⟩ (Nat.le_of_ble_eq_true rfl) dX12_cheap_55 (fun y hy => c_X12_crossMore hE hL y hy) (fun x10 => ?_)
  refine Seg.step (pc' := 59) (I_iload_n (i := 2) dX12_cheap_58 rfl rfl) ?_
  refine S_bind (Y := Int × Int) (k' := 0) (n' := 0) 91 (fun y => [some (rV 88), some (iV p1), some (iV p2), some (iV y.1), some (iV y.2), some (iV x6.2.2.1)]) (fun y => []) (fun y => (sh, ex, R, x9)) ?_ (fun x16 => ?_)
  · refine S_icmp_gt (tgt := 91) dX12_cheap_59 (by decide) (fun h11 => ?_) (fun h11 => ?_)
    · exact S_arr (fun K hK => GG.forget (Lle.ye (Lle.ye (Lle.ye (Lle.ye (Lle.ye (Lle.ye (Lle.nil))))))) hK)
    refine Seg.step (pc' := 63) (I_iload_n (i := 3) dX12_cheap_62 rfl rfl) ?_
    refine S_if_lt (tgt := 80) dX12_cheap_63 (by decide) (fun h12 => ?_) (fun h12 => ?_)
    · refine Seg.step (pc' := 82) (I_iload dX12_cheap_80 rfl) ?_
      refine Seg.step (pc' := 83) (I_istore_n (i := 3) dX12_cheap_82 rfl (by decide) rfl) ?_
      refine Seg.step (pc' := 84) (I_aload_n (i := 0) dX12_cheap_83 rfl rfl) ?_
      refine Seg.step (pc' := 87) (I_getR cls12 (by decide) wf_12_121 (hE _ _ sk_12) rfl (lk_12_62 hL) dX12_cheap_84) ?_
      refine Seg.step (pc' := 88) (I_iconst dX12_cheap_87 ⟨by decide, by decide⟩) ?_
      refine Seg.step (pc' := 89) (I_iald (hE _ _ sk_12_62) ⟨by decide, by decide⟩ dX12_cheap_88) ?_
      refine S_bI fun x13 => ?_
      refine Seg.step (pc' := 91) (I_istore dX12_cheap_89 (by decide) rfl) ?_
      exact S_arr (fun K hK => GG.forget (Lle.ye (Lle.ye (Lle.ye (Lle.ye (Lle.ye (Lle.ye (Lle.nil))))))) hK)
    refine Seg.step (pc' := 67) (I_aload_n (i := 0) dX12_cheap_66 rfl rfl) ?_
    refine Seg.step (pc' := 70) (I_getR cls12 (by decide) wf_12_121 (hE _ _ sk_12) rfl (lk_12_62 hL) dX12_cheap_67) ?_
    refine Seg.step (pc' := 71) (I_iconst dX12_cheap_70 ⟨by decide, by decide⟩) ?_
    refine Seg.step (pc' := 72) (I_iald (hE _ _ sk_12_62) ⟨by decide, by decide⟩ dX12_cheap_71) ?_
    refine Seg.step (pc' := 74) (I_iload dX12_cheap_72 rfl) ?_
    refine S_icmp_lt (tgt := 80) dX12_cheap_74 (by decide) (fun h14 => ?_) (fun h14 => ?_)
    · refine Seg.step (pc' := 82) (I_iload dX12_cheap_80 rfl) ?_
      refine Seg.step (pc' := 83) (I_istore_n (i := 3) dX12_cheap_82 rfl (by decide) rfl) ?_
      refine Seg.step (pc' := 84) (I_aload_n (i := 0) dX12_cheap_83 rfl rfl) ?_
      refine Seg.step (pc' := 87) (I_getR cls12 (by decide) wf_12_121 (hE _ _ sk_12) rfl (lk_12_62 hL) dX12_cheap_84) ?_
      refine Seg.step (pc' := 88) (I_iconst dX12_cheap_87 ⟨by decide, by decide⟩) ?_
      refine Seg.step (pc' := 89) (I_iald (hE _ _ sk_12_62) ⟨by decide, by decide⟩ dX12_cheap_88) ?_
      refine S_bI fun x15 => ?_
      refine Seg.step (pc' := 91) (I_istore dX12_cheap_89 (by decide) rfl) ?_
      exact S_arr (fun K hK => GG.forget (Lle.ye (Lle.ye (Lle.ye (Lle.ye (Lle.ye (Lle.ye (Lle.nil))))))) hK)
    refine Seg.step (pc' := 91) (I_goto (tgt := 91) dX12_cheap_77 (by decide)) ?_
    exact S_arr (fun K hK => GG.forget (Lle.ye (Lle.ye (Lle.ye (Lle.ye (Lle.ye (Lle.ye (Lle.nil))))))) hK)
  refine Seg.step (pc' := 94) (I_iinc dX12_cheap_91 rfl (by decide) rfl) ?_
  refine Seg.step (pc' := 36) (I_goto (tgt := 36) dX12_cheap_94 (by decide)) ?_
  exact S_arr (fun K hK => GG.forget (Lle.ye (Lle.ye (Lle.ye (Lle.ye (Lle.ye (Lle.ye (Lle.nil))))))) hK)
theorem dX12_hears_0 : decode cX12_hears 0 = .ok (.aload_n 0, 1) := by decide +kernel
theorem dX12_hears_1 : decode cX12_hears 1 = .ok (.iconst 0, 1) := by decide +kernel
theorem dX12_hears_2 : decode cX12_hears 2 = .ok (.putfield 175, 3) := by decide +kernel
theorem dX12_hears_5 : decode cX12_hears 5 = .ok (.iload_n 1, 1) := by decide +kernel
theorem dX12_hears_6 : decode cX12_hears 6 = .ok (.iconst 1, 1) := by decide +kernel
theorem dX12_hears_7 : decode cX12_hears 7 = .ok (.bipush 99, 2) := by decide +kernel
theorem dX12_hears_9 : decode cX12_hears 9 = .ok (.invokestatic 220, 3) := by decide +kernel
theorem dX12_hears_12 : decode cX12_hears 12 = .ok (.ifCond .eq 10, 3) := by decide +kernel
theorem dX12_hears_15 : decode cX12_hears 15 = .ok (.aload_n 0, 1) := by decide +kernel
theorem dX12_hears_16 : decode cX12_hears 16 = .ok (.getfield 255, 3) := by decide +kernel
theorem dX12_hears_19 : decode cX12_hears 19 = .ok (.ifCond .ne 5, 3) := by decide +kernel
theorem dX12_hears_22 : decode cX12_hears 22 = .ok (.iconst (-1), 1) := by decide +kernel
theorem dX12_hears_23 : decode cX12_hears 23 = .ok (.ireturn, 1) := by decide +kernel
theorem dX12_hears_24 : decode cX12_hears 24 = .ok (.iconst (-1), 1) := by decide +kernel
theorem dX12_hears_25 : decode cX12_hears 25 = .ok (.istore_n 2, 1) := by decide +kernel
theorem dX12_hears_26 : decode cX12_hears 26 = .ok (.iconst 0, 1) := by decide +kernel
theorem dX12_hears_27 : decode cX12_hears 27 = .ok (.istore_n 3, 1) := by decide +kernel
theorem dX12_hears_28 : decode cX12_hears 28 = .ok (.iconst 0, 1) := by decide +kernel
theorem dX12_hears_29 : decode cX12_hears 29 = .ok (.istore 4, 2) := by decide +kernel
theorem dX12_hears_31 : decode cX12_hears 31 = .ok (.iload 4, 2) := by decide +kernel
theorem dX12_hears_33 : decode cX12_hears 33 = .ok (.aload_n 0, 1) := by decide +kernel
theorem dX12_hears_34 : decode cX12_hears 34 = .ok (.getfield 255, 3) := by decide +kernel
theorem dX12_hears_37 : decode cX12_hears 37 = .ok (.if_icmp .ge 55, 3) := by decide +kernel
theorem dX12_hears_40 : decode cX12_hears 40 = .ok (.aload_n 0, 1) := by decide +kernel
theorem dX12_hears_41 : decode cX12_hears 41 = .ok (.aload_n 0, 1) := by decide +kernel
theorem dX12_hears_42 : decode cX12_hears 42 = .ok (.getfield 112, 3) := by decide +kernel
theorem dX12_hears_45 : decode cX12_hears 45 = .ok (.iconst 0, 1) := by decide +kernel
theorem dX12_hears_46 : decode cX12_hears 46 = .ok (.iaload, 1) := by decide +kernel
theorem dX12_hears_47 : decode cX12_hears 47 = .ok (.invokevirtual 505, 3) := by decide +kernel
theorem dX12_hears_50 : decode cX12_hears 50 = .ok (.aload_n 0, 1) := by decide +kernel
theorem dX12_hears_51 : decode cX12_hears 51 = .ok (.getfield 115, 3) := by decide +kernel
theorem dX12_hears_54 : decode cX12_hears 54 = .ok (.iconst 1, 1) := by decide +kernel
theorem dX12_hears_55 : decode cX12_hears 55 = .ok (.iload 4, 2) := by decide +kernel
theorem dX12_hears_57 : decode cX12_hears 57 = .ok (.iastore, 1) := by decide +kernel
theorem dX12_hears_58 : decode cX12_hears 58 = .ok (.aload_n 0, 1) := by decide +kernel
theorem dX12_hears_59 : decode cX12_hears 59 = .ok (.iload_n 1, 1) := by decide +kernel
theorem dX12_hears_60 : decode cX12_hears 60 = .ok (.invokevirtual 499, 3) := by decide +kernel
theorem dX12_hears_63 : decode cX12_hears 63 = .ok (.iload_n 2, 1) := by decide +kernel
theorem dX12_hears_64 : decode cX12_hears 64 = .ok (.ifCond .lt 14, 3) := by decide +kernel
theorem dX12_hears_67 : decode cX12_hears 67 = .ok (.aload_n 0, 1) := by decide +kernel
theorem dX12_hears_68 : decode cX12_hears 68 = .ok (.invokevirtual 502, 3) := by decide +kernel
theorem dX12_hears_71 : decode cX12_hears 71 = .ok (.iload_n 3, 1) := by decide +kernel
theorem dX12_hears_72 : decode cX12_hears 72 = .ok (.if_icmp .lt 6, 3) := by decide +kernel
theorem dX12_hears_75 : decode cX12_hears 75 = .ok (.goto 11, 3) := by decide +kernel
theorem dX12_hears_78 : decode cX12_hears 78 = .ok (.iload 4, 2) := by decide +kernel
theorem dX12_hears_80 : decode cX12_hears 80 = .ok (.istore_n 2, 1) := by decide +kernel
theorem dX12_hears_81 : decode cX12_hears 81 = .ok (.aload_n 0, 1) := by decide +kernel
theorem dX12_hears_82 : decode cX12_hears 82 = .ok (.invokevirtual 502, 3) := by decide +kernel
theorem dX12_hears_85 : decode cX12_hears 85 = .ok (.istore_n 3, 1) := by decide +kernel
theorem dX12_hears_86 : decode cX12_hears 86 = .ok (.iinc 4 1, 3) := by decide +kernel
theorem dX12_hears_89 : decode cX12_hears 89 = .ok (.goto (-58), 3) := by decide +kernel
theorem dX12_hears_92 : decode cX12_hears 92 = .ok (.iload_n 2, 1) := by decide +kernel
theorem dX12_hears_93 : decode cX12_hears 93 = .ok (.ireturn, 1) := by decide +kernel
def f_X12_hears (M : MM) (p1 : Int) : Option (Int × MM) :=
bM (upM M 88 2 0) fun M1 =>
(f_X12_isIn M1 p1 1 99).bind fun x2 =>
if x2 = 0 then
(some ((-1), M1))
else
if (M1 88 12) = 0 then
(some ((-1), M1))
else
lp (X := Int × Int × Int × MM) (Y := Int × MM) (fun x5 =>
if x5.2.2.1 < (x5.2.2.2 88 12) then
((f_X12_layStill x5.2.2.2 (x5.2.2.2 121 0)).bind fun x7 =>
bM (upM x7 122 1 x5.2.2.1) fun M8 =>
(f_X12_goMany M8 p1).bind fun x9 =>
((if x5.1 < 0 then
((f_X12_crossMore x9).bind fun x11 =>
some (x5.2.2.1, x11))
else
(f_X12_crossMore x9).bind fun x12 =>
if x12 < x5.2.1 then
((f_X12_crossMore x9).bind fun x14 =>
some (x5.2.2.1, x14))
else
some (x5.1, x5.2.1)) : Option (Int × Int)).bind fun x15 =>
some (Sum.inl (x15.1, x15.2, w32 (x5.2.2.1 + 1), x9)))
else
some (Sum.inr (x5.1, x5.2.2.2))) FU ((-1), 0, 0, M1)
set_option maxRecDepth 4000 in
theorem c_X12_hears {E : EE} {sh : List (Nat × Nat)} {ex : Bool} {R : RM} {M : MM} {p1 : Int} (hE : Ext sh) (hL : Links R) : ∀ y, f_X12_hears M p1 = some y → MetC E m_X12_hears 0 0 [rV 88, iV p1] (sh, ex, R, M) (fun r w' => r = some (iV y.1) ∧ w' = (sh, ex, R, y.2)) := by
  intro y hy
  refine MetC.seg (o := f_X12_hears M p1) (t := (fun K y => K (some (iV y.1)) (sh, ex, R, y.2))) (L := [some (rV 88), some (iV p1), none, none, none]) (by decide) rfl (Nat.le_of_ble_eq_true rfl) ?_ hy ⟨rfl, rfl⟩
  unfold f_X12_hears
  refine Seg.step (pc' := 1) (I_aload_n (i := 0) dX12_hears_0 rfl rfl) ?_
  refine Seg.step (pc' := 2) (I_iconst dX12_hears_1 ⟨by decide, by decide⟩) ?_
  refine Seg.step (pc' := 5) (I_putI cls12 (by decide) wf_12_175 (hE _ _ sk_12) rfl rfl dX12_hears_2) ?_
  refine S_bM fun M1 => ?_
  refine Seg.step (pc' := 6) (I_iload_n (i := 1) dX12_hears_5 rfl rfl) ?_
  refine Seg.step (pc' := 7) (I_iconst dX12_hears_6 ⟨by decide, by decide⟩) ?_
  refine Seg.step (pc' := 9) (I_bipush dX12_hears_7 (by decide) ⟨by decide, by decide⟩) ?_
  refine S_callS3 (md' := m_X12_isIn) (fun y => some (iV y)) (fun y => (sh, ex, R, M1)) mm_X12_isIn wm_12_220 ⟨rfl, rfl, by decide, by decide, by decide, by decide⟩ (Nat.le_of_ble_eq_true rfl) dX12_hears_9 (fun y hy => c_X12_isIn hE hL y hy) (fun x2 => ?_)
  refine S_if_eq (tgt := 22) dX12_hears_12 (by decide) (fun h3 => ?_) (fun h3 => ?_)
  · refine Seg.step (pc' := 23) (I_iconst dX12_hears_22 ⟨by decide, by decide⟩) ?_
    exact S_iret dX12_hears_23 rfl (by decide) (by decide) (fun K hK => hK)
  refine Seg.step (pc' := 16) (I_aload_n (i := 0) dX12_hears_15 rfl rfl) ?_
  refine Seg.step (pc' := 19) (I_getI cls12 (by decide) wf_12_255 (hE _ _ sk_12) rfl dX12_hears_16) ?_
  refine S_if_ne (tgt := 24) dX12_hears_19 (by decide) (fun h4 => ?_) (fun h4 => ?_)
  · refine Seg.step (pc' := 23) (I_iconst dX12_hears_22 ⟨by decide, by decide⟩) ?_
    exact S_iret dX12_hears_23 rfl (by decide) (by decide) (fun K hK => hK)
  refine Seg.step (pc' := 25) (I_iconst dX12_hears_24 ⟨by decide, by decide⟩) ?_
  refine Seg.step (pc' := 26) (I_istore_n (i := 2) dX12_hears_25 rfl (by decide) rfl) ?_
  refine Seg.step (pc' := 27) (I_iconst dX12_hears_26 ⟨by decide, by decide⟩) ?_
  refine Seg.step (pc' := 28) (I_istore_n (i := 3) dX12_hears_27 rfl (by decide) rfl) ?_
  refine Seg.step (pc' := 29) (I_iconst dX12_hears_28 ⟨by decide, by decide⟩) ?_
  refine Seg.step (pc' := 31) (I_istore dX12_hears_29 (by decide) rfl) ?_
  refine Seg.forget (Lle.ye (Lle.ye (Lle.ye (Lle.ye (Lle.ye (Lle.nil)))))) ?_
  refine S_loop (Y := Int × Int × Int × MM) (fun y => [some (rV 88), some (iV p1), some (iV y.1), some (iV y.2.1), some (iV y.2.2.1)]) (fun y => []) (fun y => (sh, ex, R, y.2.2.2)) (fun x5 => ?_) FU ((-1), 0, 0, M1)
  refine Seg.step (pc' := 33) (I_iload dX12_hears_31 rfl) ?_
  refine Seg.step (pc' := 34) (I_aload_n (i := 0) dX12_hears_33 rfl rfl) ?_
  refine Seg.step (pc' := 37) (I_getI cls12 (by decide) wf_12_255 (hE _ _ sk_12) rfl dX12_hears_34) ?_
  refine S_icmp_ge (tgt := 92) dX12_hears_37 (by decide) (fun h6 => ?_) (fun h6 => ?_)
  · refine Seg.step (pc' := 41) (I_aload_n (i := 0) dX12_hears_40 rfl rfl) ?_
    refine Seg.step (pc' := 42) (I_aload_n (i := 0) dX12_hears_41 rfl rfl) ?_
    refine Seg.step (pc' := 45) (I_getR cls12 (by decide) wf_12_112 (hE _ _ sk_12) rfl (lk_12_59 hL) dX12_hears_42) ?_
    refine Seg.step (pc' := 46) (I_iconst dX12_hears_45 ⟨by decide, by decide⟩) ?_
    refine Seg.step (pc' := 47) (I_iald (hE _ _ sk_12_59) ⟨by decide, by decide⟩ dX12_hears_46) ?_
    refine S_callV1 (md' := m_X12_layStill) (fun y => none) (fun y => (sh, ex, R, y)) (hE _ _ sk_12) ⟨by decide, rfl⟩ mm_X12_layStill wm_12_505 ⟨rfl, rfl, by decide, by decide, by decide, by decide⟩ (Nat.le_of_ble_eq_true rfl) dX12_hears_47 (fun y hy => c_X12_layStill hE hL y hy) (fun x7 => ?_)
    refine Seg.step (pc' := 51) (I_aload_n (i := 0) dX12_hears_50 rfl rfl) ?_
    refine Seg.step (pc' := 54) (I_getR cls12 (by decide) wf_12_115 (hE _ _ sk_12) rfl (lk_12_60 hL) dX12_hears_51) ?_
    refine Seg.step (pc' := 55) (I_iconst dX12_hears_54 ⟨by decide, by decide⟩) ?_
    refine Seg.step (pc' := 57) (I_iload dX12_hears_55 rfl) ?_
    refine Seg.step (pc' := 58) (I_iast (hE _ _ sk_12_60) ⟨by decide, by decide⟩ dX12_hears_57) ?_
    refine S_bM fun M8 => ?_
    refine Seg.step (pc' := 59) (I_aload_n (i := 0) dX12_hears_58 rfl rfl) ?_
    refine Seg.step (pc' := 60) (I_iload_n (i := 1) dX12_hears_59 rfl rfl) ?_
    refine S_callV1 (md' := m_X12_goMany) (fun y => none) (fun y => (sh, ex, R, y)) (hE _ _ sk_12) ⟨by decide, rfl⟩ mm_X12_goMany wm_12_499 ⟨rfl, rfl, by decide, by decide, by decide, by decide⟩ (Nat.le_of_ble_eq_true rfl) dX12_hears_60 (fun y hy => c_X12_goMany hE hL y hy) (fun x9 => ?_)
    refine Seg.step (pc' := 64) (I_iload_n (i := 2) dX12_hears_63 rfl rfl) ?_
    refine S_bind (Y := Int × Int) (k' := 0) (n' := 0) 86 (fun y => [some (rV 88), some (iV p1), some (iV y.1), some (iV y.2), some (iV x5.2.2.1)]) (fun y => []) (fun y => (sh, ex, R, x9)) ?_ (fun x15 => ?_)
    · refine S_if_lt (tgt := 78) dX12_hears_64 (by decide) (fun h10 => ?_) (fun h10 => ?_)
      · refine Seg.step (pc' := 80) (I_iload dX12_hears_78 rfl) ?_
        refine Seg.step (pc' := 81) (I_istore_n (i := 2) dX12_hears_80 rfl (by decide) rfl) ?_
        refine Seg.step (pc' := 82) (I_aload_n (i := 0) dX12_hears_81 rfl rfl) ?_
        refine S_callV0 (md' := m_X12_crossMore) (fun y => some (iV y)) (fun y => (sh, ex, R, x9)) (hE _ _ sk_12) ⟨by decide, rfl⟩ mm_X12_crossMore wm_12_502 ⟨rfl, rfl, by decide, by decide, by decide, by decide⟩ (Nat.le_of_ble_eq_true rfl) dX12_hears_82 (fun y hy => c_X12_crossMore hE hL y hy) (fun x11 => ?_)
        refine Seg.step (pc' := 86) (I_istore_n (i := 3) dX12_hears_85 rfl (by decide) rfl) ?_
        exact S_arr (fun K hK => GG.forget (Lle.ye (Lle.ye (Lle.ye (Lle.ye (Lle.ye (Lle.nil)))))) hK)
      refine Seg.step (pc' := 68) (I_aload_n (i := 0) dX12_hears_67 rfl rfl) ?_
      refine S_callV0 (md' := m_X12_crossMore) (fun y => some (iV y)) (fun y => (sh, ex, R, x9)) (hE _ _ sk_12) ⟨by decide, rfl⟩ mm_X12_crossMore wm_12_502 ⟨rfl, rfl, by decide, by decide, by decide, by decide⟩ (Nat.le_of_ble_eq_true rfl) dX12_hears_68 (fun y hy => c_X12_crossMore hE hL y hy) (fun x12 => ?_)
      refine Seg.step (pc' := 72) (I_iload_n (i := 3) dX12_hears_71 rfl rfl) ?_
      refine S_icmp_lt (tgt := 78) dX12_hears_72 (by decide) (fun h13 => ?_) (fun h13 => ?_)
      · refine Seg.step (pc' := 80) (I_iload dX12_hears_78 rfl) ?_
        refine Seg.step (pc' := 81) (I_istore_n (i := 2) dX12_hears_80 rfl (by decide) rfl) ?_
        refine Seg.step (pc' := 82) (I_aload_n (i := 0) dX12_hears_81 rfl rfl) ?_
        refine S_callV0 (md' := m_X12_crossMore) (fun y => some (iV y)) (fun y => (sh, ex, R, x9)) (hE _ _ sk_12) ⟨by decide, rfl⟩ mm_X12_crossMore wm_12_502 ⟨rfl, rfl, by decide, by decide, by decide, by decide⟩ (Nat.le_of_ble_eq_true rfl) dX12_hears_82 (fun y hy => c_X12_crossMore hE hL y hy) (fun x14 => ?_)
        refine Seg.step (pc' := 86) (I_istore_n (i := 3) dX12_hears_85 rfl (by decide) rfl) ?_
        exact S_arr (fun K hK => GG.forget (Lle.ye (Lle.ye (Lle.ye (Lle.ye (Lle.ye (Lle.nil)))))) hK)
      refine Seg.step (pc' := 86) (I_goto (tgt := 86) dX12_hears_75 (by decide)) ?_
      exact S_arr (fun K hK => GG.forget (Lle.ye (Lle.ye (Lle.ye (Lle.ye (Lle.ye (Lle.nil)))))) hK)
    refine Seg.step (pc' := 89) (I_iinc dX12_hears_86 rfl (by decide) rfl) ?_
    refine Seg.step (pc' := 31) (I_goto (tgt := 31) dX12_hears_89 (by decide)) ?_
    exact S_arr (fun K hK => GG.forget (Lle.ye (Lle.ye (Lle.ye (Lle.ye (Lle.ye (Lle.nil)))))) hK)
  refine Seg.step (pc' := 93) (I_iload_n (i := 2) dX12_hears_92 rfl rfl) ?_
  exact S_iret dX12_hears_93 rfl (by decide) (by decide) (fun K hK => hK)
theorem dX12_onAgain_0 : decode cX12_onAgain 0 = .ok (.aload_n 0, 1) := by decide +kernel
theorem dX12_onAgain_1 : decode cX12_onAgain 1 = .ok (.iconst 0, 1) := by decide +kernel
theorem dX12_onAgain_2 : decode cX12_onAgain 2 = .ok (.putfield 175, 3) := by decide +kernel
theorem dX12_onAgain_5 : decode cX12_onAgain 5 = .ok (.aload_n 0, 1) := by decide +kernel
theorem dX12_onAgain_6 : decode cX12_onAgain 6 = .ok (.iload_n 1, 1) := by decide +kernel
theorem dX12_onAgain_7 : decode cX12_onAgain 7 = .ok (.invokevirtual 488, 3) := by decide +kernel
theorem dX12_onAgain_10 : decode cX12_onAgain 10 = .ok (.ifCond .eq 24, 3) := by decide +kernel
theorem dX12_onAgain_13 : decode cX12_onAgain 13 = .ok (.iload_n 2, 1) := by decide +kernel
theorem dX12_onAgain_14 : decode cX12_onAgain 14 = .ok (.iconst 0, 1) := by decide +kernel
theorem dX12_onAgain_15 : decode cX12_onAgain 15 = .ok (.sipush 600, 3) := by decide +kernel
theorem dX12_onAgain_18 : decode cX12_onAgain 18 = .ok (.invokestatic 220, 3) := by decide +kernel
theorem dX12_onAgain_21 : decode cX12_onAgain 21 = .ok (.ifCond .eq 13, 3) := by decide +kernel
theorem dX12_onAgain_24 : decode cX12_onAgain 24 = .ok (.iload_n 3, 1) := by decide +kernel
theorem dX12_onAgain_25 : decode cX12_onAgain 25 = .ok (.iconst 0, 1) := by decide +kernel
theorem dX12_onAgain_26 : decode cX12_onAgain 26 = .ok (.bipush 99, 2) := by decide +kernel
theorem dX12_onAgain_28 : decode cX12_onAgain 28 = .ok (.invokestatic 220, 3) := by decide +kernel
theorem dX12_onAgain_31 : decode cX12_onAgain 31 = .ok (.ifCond .ne 5, 3) := by decide +kernel
theorem dX12_onAgain_34 : decode cX12_onAgain 34 = .ok (.iconst (-1), 1) := by decide +kernel
theorem dX12_onAgain_35 : decode cX12_onAgain 35 = .ok (.ireturn, 1) := by decide +kernel
theorem dX12_onAgain_36 : decode cX12_onAgain 36 = .ok (.iload_n 3, 1) := by decide +kernel
theorem dX12_onAgain_37 : decode cX12_onAgain 37 = .ok (.istore 4, 2) := by decide +kernel
theorem dX12_onAgain_39 : decode cX12_onAgain 39 = .ok (.iload 4, 2) := by decide +kernel
theorem dX12_onAgain_41 : decode cX12_onAgain 41 = .ok (.ifCond .lt 51, 3) := by decide +kernel
theorem dX12_onAgain_44 : decode cX12_onAgain 44 = .ok (.aload_n 0, 1) := by decide +kernel
theorem dX12_onAgain_45 : decode cX12_onAgain 45 = .ok (.iconst 5, 1) := by decide +kernel
theorem dX12_onAgain_46 : decode cX12_onAgain 46 = .ok (.invokevirtual 505, 3) := by decide +kernel
theorem dX12_onAgain_49 : decode cX12_onAgain 49 = .ok (.aload_n 0, 1) := by decide +kernel
theorem dX12_onAgain_50 : decode cX12_onAgain 50 = .ok (.iload 4, 2) := by decide +kernel
theorem dX12_onAgain_52 : decode cX12_onAgain 52 = .ok (.invokevirtual 499, 3) := by decide +kernel
theorem dX12_onAgain_55 : decode cX12_onAgain 55 = .ok (.aload_n 0, 1) := by decide +kernel
theorem dX12_onAgain_56 : decode cX12_onAgain 56 = .ok (.getfield 112, 3) := by decide +kernel
theorem dX12_onAgain_59 : decode cX12_onAgain 59 = .ok (.iconst 1, 1) := by decide +kernel
theorem dX12_onAgain_60 : decode cX12_onAgain 60 = .ok (.bipush 30, 2) := by decide +kernel
theorem dX12_onAgain_62 : decode cX12_onAgain 62 = .ok (.iastore, 1) := by decide +kernel
theorem dX12_onAgain_63 : decode cX12_onAgain 63 = .ok (.aload_n 0, 1) := by decide +kernel
theorem dX12_onAgain_64 : decode cX12_onAgain 64 = .ok (.iload_n 3, 1) := by decide +kernel
theorem dX12_onAgain_65 : decode cX12_onAgain 65 = .ok (.iload 4, 2) := by decide +kernel
theorem dX12_onAgain_67 : decode cX12_onAgain 67 = .ok (.isub, 1) := by decide +kernel
theorem dX12_onAgain_68 : decode cX12_onAgain 68 = .ok (.invokevirtual 499, 3) := by decide +kernel
theorem dX12_onAgain_71 : decode cX12_onAgain 71 = .ok (.aload_n 0, 1) := by decide +kernel
theorem dX12_onAgain_72 : decode cX12_onAgain 72 = .ok (.getfield 97, 3) := by decide +kernel
theorem dX12_onAgain_75 : decode cX12_onAgain 75 = .ok (.iconst 5, 1) := by decide +kernel
theorem dX12_onAgain_76 : decode cX12_onAgain 76 = .ok (.iload_n 1, 1) := by decide +kernel
theorem dX12_onAgain_77 : decode cX12_onAgain 77 = .ok (.iadd, 1) := by decide +kernel
theorem dX12_onAgain_78 : decode cX12_onAgain 78 = .ok (.iaload, 1) := by decide +kernel
theorem dX12_onAgain_79 : decode cX12_onAgain 79 = .ok (.iload_n 2, 1) := by decide +kernel
theorem dX12_onAgain_80 : decode cX12_onAgain 80 = .ok (.if_icmp .lt 6, 3) := by decide +kernel
theorem dX12_onAgain_83 : decode cX12_onAgain 83 = .ok (.iload 4, 2) := by decide +kernel
theorem dX12_onAgain_85 : decode cX12_onAgain 85 = .ok (.ireturn, 1) := by decide +kernel
theorem dX12_onAgain_86 : decode cX12_onAgain 86 = .ok (.iinc 4 (-1), 3) := by decide +kernel
theorem dX12_onAgain_89 : decode cX12_onAgain 89 = .ok (.goto (-50), 3) := by decide +kernel
theorem dX12_onAgain_92 : decode cX12_onAgain 92 = .ok (.bipush (-2), 2) := by decide +kernel
theorem dX12_onAgain_94 : decode cX12_onAgain 94 = .ok (.ireturn, 1) := by decide +kernel
def f_X12_onAgain (M : MM) (p1 : Int) (p2 : Int) (p3 : Int) : Option (Int × MM) :=
bM (upM M 88 2 0) fun M1 =>
(f_X12_isRoom M1 p1).bind fun x2 =>
if x2 = 0 then
(some ((-1), M1))
else
(f_X12_isIn M1 p2 0 600).bind fun x4 =>
if x4 = 0 then
(some ((-1), M1))
else
(f_X12_isIn M1 p3 0 99).bind fun x6 =>
if x6 = 0 then
(some ((-1), M1))
else
lp (X := Int × MM) (Y := Int × MM) (fun x8 =>
if x8.1 < 0 then
(some (Sum.inr ((-2), x8.2)))
else
(f_X12_layStill x8.2 5).bind fun x10 =>
(f_X12_goMany x10 x8.1).bind fun x11 =>
bM (upM x11 121 1 30) fun M12 =>
(f_X12_goMany M12 (w32 (p3 - x8.1))).bind fun x13 =>
gd (0 ≤ w32 (5 + p1) ∧ w32 (5 + p1) < (10 : Int)) <|
if (x13 116 (w32 (5 + p1)).toNat) < p2 then
(some (Sum.inl (w32 (x8.1 + (-1)), x13)))
else
some (Sum.inr (x8.1, x13))) FU (p3, M1)
set_option maxRecDepth 4000 in
theorem c_X12_onAgain {E : EE} {sh : List (Nat × Nat)} {ex : Bool} {R : RM} {M : MM} {p1 : Int} {p2 : Int} {p3 : Int} (hE : Ext sh) (hL : Links R) : ∀ y, f_X12_onAgain M p1 p2 p3 = some y → MetC E m_X12_onAgain 0 0 [rV 88, iV p1, iV p2, iV p3] (sh, ex, R, M) (fun r w' => r = some (iV y.1) ∧ w' = (sh, ex, R, y.2)) := by
  intro y hy
  refine MetC.seg (o := f_X12_onAgain M p1 p2 p3) (t := (fun K y => K (some (iV y.1)) (sh, ex, R, y.2))) (L := [some (rV 88), some (iV p1), some (iV p2), some (iV p3), none]) (by decide) rfl (Nat.le_of_ble_eq_true rfl) ?_ hy ⟨rfl, rfl⟩
  unfold f_X12_onAgain
  refine Seg.step (pc' := 1) (I_aload_n (i := 0) dX12_onAgain_0 rfl rfl) ?_
  refine Seg.step (pc' := 2) (I_iconst dX12_onAgain_1 ⟨by decide, by decide⟩) ?_
  refine Seg.step (pc' := 5) (I_putI cls12 (by decide) wf_12_175 (hE _ _ sk_12) rfl rfl dX12_onAgain_2) ?_
  refine S_bM fun M1 => ?_
  refine Seg.step (pc' := 6) (I_aload_n (i := 0) dX12_onAgain_5 rfl rfl) ?_
  refine Seg.step (pc' := 7) (I_iload_n (i := 1) dX12_onAgain_6 rfl rfl) ?_
  refine S_callV1 (md' := m_X12_isRoom) (fun y => some (iV y)) (fun y => (sh, ex, R, M1)) (hE _ _ sk_12) ⟨by decide, rfl⟩ mm_X12_isRoom wm_12_488 ⟨rfl, rfl, by decide, by decide, by decide, by decide⟩ (Nat.le_of_ble_eq_true rfl) dX12_onAgain_7 (fun y hy => c_X12_isRoom hE hL y hy) (fun x2 => ?_)
  refine S_if_eq (tgt := 34) dX12_onAgain_10 (by decide) (fun h3 => ?_) (fun h3 => ?_)
  · refine Seg.step (pc' := 35) (I_iconst dX12_onAgain_34 ⟨by decide, by decide⟩) ?_
    exact S_iret dX12_onAgain_35 rfl (by decide) (by decide) (fun K hK => hK)
  refine Seg.step (pc' := 14) (I_iload_n (i := 2) dX12_onAgain_13 rfl rfl) ?_
  refine Seg.step (pc' := 15) (I_iconst dX12_onAgain_14 ⟨by decide, by decide⟩) ?_
  refine Seg.step (pc' := 18) (I_sipush dX12_onAgain_15 (by decide) ⟨by decide, by decide⟩) ?_
  refine S_callS3 (md' := m_X12_isIn) (fun y => some (iV y)) (fun y => (sh, ex, R, M1)) mm_X12_isIn wm_12_220 ⟨rfl, rfl, by decide, by decide, by decide, by decide⟩ (Nat.le_of_ble_eq_true rfl) dX12_onAgain_18 (fun y hy => c_X12_isIn hE hL y hy) (fun x4 => ?_)
  refine S_if_eq (tgt := 34) dX12_onAgain_21 (by decide) (fun h5 => ?_) (fun h5 => ?_)
  · refine Seg.step (pc' := 35) (I_iconst dX12_onAgain_34 ⟨by decide, by decide⟩) ?_
    exact S_iret dX12_onAgain_35 rfl (by decide) (by decide) (fun K hK => hK)
  refine Seg.step (pc' := 25) (I_iload_n (i := 3) dX12_onAgain_24 rfl rfl) ?_
  refine Seg.step (pc' := 26) (I_iconst dX12_onAgain_25 ⟨by decide, by decide⟩) ?_
  refine Seg.step (pc' := 28) (I_bipush dX12_onAgain_26 (by decide) ⟨by decide, by decide⟩) ?_
  refine S_callS3 (md' := m_X12_isIn) (fun y => some (iV y)) (fun y => (sh, ex, R, M1)) mm_X12_isIn wm_12_220 ⟨rfl, rfl, by decide, by decide, by decide, by decide⟩ (Nat.le_of_ble_eq_true rfl) dX12_onAgain_28 (fun y hy => c_X12_isIn hE hL y hy) (fun x6 => ?_)
  refine S_if_ne (tgt := 36) dX12_onAgain_31 (by decide) (fun h7 => ?_) (fun h7 => ?_)
  · refine Seg.step (pc' := 35) (I_iconst dX12_onAgain_34 ⟨by decide, by decide⟩) ?_
    exact S_iret dX12_onAgain_35 rfl (by decide) (by decide) (fun K hK => hK)
  refine Seg.step (pc' := 37) (I_iload_n (i := 3) dX12_onAgain_36 rfl rfl) ?_
  refine Seg.step (pc' := 39) (I_istore dX12_onAgain_37 (by decide) rfl) ?_
  refine Seg.forget (Lle.ye (Lle.ye (Lle.ye (Lle.ye (Lle.ye (Lle.nil)))))) ?_
  refine S_loop (Y := Int × MM) (fun y => [some (rV 88), some (iV p1), some (iV p2), some (iV p3), some (iV y.1)]) (fun y => []) (fun y => (sh, ex, R, y.2)) (fun x8 => ?_) FU (p3, M1)
  refine Seg.step (pc' := 41) (I_iload dX12_onAgain_39 rfl) ?_
  refine S_if_lt (tgt := 92) dX12_onAgain_41 (by decide) (fun h9 => ?_) (fun h9 => ?_)
  · refine Seg.step (pc' := 94) (I_bipush dX12_onAgain_92 (by decide) ⟨by decide, by decide⟩) ?_
    exact S_iret dX12_onAgain_94 rfl (by decide) (by decide) (fun K hK => hK)
  refine Seg.step (pc' := 45) (I_aload_n (i := 0) dX12_onAgain_44 rfl rfl) ?_
  refine Seg.step (pc' := 46) (I_iconst dX12_onAgain_45 ⟨by decide, by decide⟩) ?_
  refine S_callV1 (md' := m_X12_layStill) (fun y => none) (fun y => (sh, ex, R, y)) (hE _ _ sk_12) ⟨by decide, rfl⟩ mm_X12_layStill wm_12_505 ⟨rfl, rfl, by decide, by decide, by decide, by decide⟩ (Nat.le_of_ble_eq_true rfl) dX12_onAgain_46 (fun y hy => c_X12_layStill hE hL y hy) (fun x10 => ?_)
  refine Seg.step (pc' := 50) (I_aload_n (i := 0) dX12_onAgain_49 rfl rfl) ?_
  refine Seg.step (pc' := 52) (I_iload dX12_onAgain_50 rfl) ?_
  refine S_callV1 (md' := m_X12_goMany) (fun y => none) (fun y => (sh, ex, R, y)) (hE _ _ sk_12) ⟨by decide, rfl⟩ mm_X12_goMany wm_12_499 ⟨rfl, rfl, by decide, by decide, by decide, by decide⟩ (Nat.le_of_ble_eq_true rfl) dX12_onAgain_52 (fun y hy => c_X12_goMany hE hL y hy) (fun x11 => ?_)
  refine Seg.step (pc' := 56) (I_aload_n (i := 0) dX12_onAgain_55 rfl rfl) ?_
  refine Seg.step (pc' := 59) (I_getR cls12 (by decide) wf_12_112 (hE _ _ sk_12) rfl (lk_12_59 hL) dX12_onAgain_56) ?_
  refine Seg.step (pc' := 60) (I_iconst dX12_onAgain_59 ⟨by decide, by decide⟩) ?_
  refine Seg.step (pc' := 62) (I_bipush dX12_onAgain_60 (by decide) ⟨by decide, by decide⟩) ?_
  refine Seg.step (pc' := 63) (I_iast (hE _ _ sk_12_59) ⟨by decide, by decide⟩ dX12_onAgain_62) ?_
  refine S_bM fun M12 => ?_
  refine Seg.step (pc' := 64) (I_aload_n (i := 0) dX12_onAgain_63 rfl rfl) ?_
  refine Seg.step (pc' := 65) (I_iload_n (i := 3) dX12_onAgain_64 rfl rfl) ?_
  refine Seg.step (pc' := 67) (I_iload dX12_onAgain_65 rfl) ?_
  refine Seg.step (pc' := 68) (I_isub dX12_onAgain_67) ?_
  refine S_callV1 (md' := m_X12_goMany) (fun y => none) (fun y => (sh, ex, R, y)) (hE _ _ sk_12) ⟨by decide, rfl⟩ mm_X12_goMany wm_12_499 ⟨rfl, rfl, by decide, by decide, by decide, by decide⟩ (Nat.le_of_ble_eq_true rfl) dX12_onAgain_68 (fun y hy => c_X12_goMany hE hL y hy) (fun x13 => ?_)
  refine Seg.step (pc' := 72) (I_aload_n (i := 0) dX12_onAgain_71 rfl rfl) ?_
  refine Seg.step (pc' := 75) (I_getR cls12 (by decide) wf_12_97 (hE _ _ sk_12) rfl (lk_12_54 hL) dX12_onAgain_72) ?_
  refine Seg.step (pc' := 76) (I_iconst dX12_onAgain_75 ⟨by decide, by decide⟩) ?_
  refine Seg.step (pc' := 77) (I_iload_n (i := 1) dX12_onAgain_76 rfl rfl) ?_
  refine Seg.step (pc' := 78) (I_iadd dX12_onAgain_77) ?_
  refine S_gd fun h14 => ?_
  refine Seg.step (pc' := 79) (I_iald (hE _ _ sk_12_54) h14 dX12_onAgain_78) ?_
  refine Seg.step (pc' := 80) (I_iload_n (i := 2) dX12_onAgain_79 rfl rfl) ?_
  refine S_icmp_lt (tgt := 86) dX12_onAgain_80 (by decide) (fun h15 => ?_) (fun h15 => ?_)
  · refine Seg.step (pc' := 89) (I_iinc dX12_onAgain_86 rfl (by decide) rfl) ?_
    refine Seg.step (pc' := 39) (I_goto (tgt := 39) dX12_onAgain_89 (by decide)) ?_
    exact S_arr (fun K hK => GG.forget (Lle.ye (Lle.ye (Lle.ye (Lle.ye (Lle.ye (Lle.nil)))))) hK)
  refine Seg.step (pc' := 85) (I_iload dX12_onAgain_83 rfl) ?_
  exact S_iret dX12_onAgain_85 rfl (by decide) (by decide) (fun K hK => hK)
theorem dX12_night_0 : decode cX12_night 0 = .ok (.aload_n 0, 1) := by decide +kernel
theorem dX12_night_1 : decode cX12_night 1 = .ok (.iconst 0, 1) := by decide +kernel
theorem dX12_night_2 : decode cX12_night 2 = .ok (.putfield 175, 3) := by decide +kernel
theorem dX12_night_5 : decode cX12_night 5 = .ok (.iload_n 1, 1) := by decide +kernel
theorem dX12_night_6 : decode cX12_night 6 = .ok (.iconst 1, 1) := by decide +kernel
theorem dX12_night_7 : decode cX12_night 7 = .ok (.bipush 7, 2) := by decide +kernel
theorem dX12_night_9 : decode cX12_night 9 = .ok (.invokestatic 220, 3) := by decide +kernel
theorem dX12_night_12 : decode cX12_night 12 = .ok (.ifCond .ne 7, 3) := by decide +kernel
theorem dX12_night_15 : decode cX12_night 15 = .ok (.ldc_w 511, 3) := by decide +kernel
theorem dX12_night_18 : decode cX12_night 18 = .ok (.ireturn, 1) := by decide +kernel
theorem dX12_night_19 : decode cX12_night 19 = .ok (.aload_n 0, 1) := by decide +kernel
theorem dX12_night_20 : decode cX12_night 20 = .ok (.aload_n 0, 1) := by decide +kernel
theorem dX12_night_21 : decode cX12_night 21 = .ok (.getfield 112, 3) := by decide +kernel
theorem dX12_night_24 : decode cX12_night 24 = .ok (.iconst 0, 1) := by decide +kernel
theorem dX12_night_25 : decode cX12_night 25 = .ok (.iaload, 1) := by decide +kernel
theorem dX12_night_26 : decode cX12_night 26 = .ok (.invokevirtual 505, 3) := by decide +kernel
theorem dX12_night_29 : decode cX12_night 29 = .ok (.aload_n 0, 1) := by decide +kernel
theorem dX12_night_30 : decode cX12_night 30 = .ok (.bipush 24, 2) := by decide +kernel
theorem dX12_night_32 : decode cX12_night 32 = .ok (.iload_n 1, 1) := by decide +kernel
theorem dX12_night_33 : decode cX12_night 33 = .ok (.imul, 1) := by decide +kernel
theorem dX12_night_34 : decode cX12_night 34 = .ok (.invokevirtual 499, 3) := by decide +kernel
theorem dX12_night_37 : decode cX12_night 37 = .ok (.aload_n 0, 1) := by decide +kernel
theorem dX12_night_38 : decode cX12_night 38 = .ok (.getfield 121, 3) := by decide +kernel
theorem dX12_night_41 : decode cX12_night 41 = .ok (.iconst 1, 1) := by decide +kernel
theorem dX12_night_42 : decode cX12_night 42 = .ok (.iaload, 1) := by decide +kernel
theorem dX12_night_43 : decode cX12_night 43 = .ok (.istore_n 2, 1) := by decide +kernel
theorem dX12_night_44 : decode cX12_night 44 = .ok (.aload_n 0, 1) := by decide +kernel
theorem dX12_night_45 : decode cX12_night 45 = .ok (.aload_n 0, 1) := by decide +kernel
theorem dX12_night_46 : decode cX12_night 46 = .ok (.getfield 112, 3) := by decide +kernel
theorem dX12_night_49 : decode cX12_night 49 = .ok (.iconst 0, 1) := by decide +kernel
theorem dX12_night_50 : decode cX12_night 50 = .ok (.iaload, 1) := by decide +kernel
theorem dX12_night_51 : decode cX12_night 51 = .ok (.invokevirtual 505, 3) := by decide +kernel
theorem dX12_night_54 : decode cX12_night 54 = .ok (.iconst 0, 1) := by decide +kernel
theorem dX12_night_55 : decode cX12_night 55 = .ok (.istore_n 3, 1) := by decide +kernel
theorem dX12_night_56 : decode cX12_night 56 = .ok (.iload_n 3, 1) := by decide +kernel
theorem dX12_night_57 : decode cX12_night 57 = .ok (.bipush 24, 2) := by decide +kernel
theorem dX12_night_59 : decode cX12_night 59 = .ok (.iload_n 1, 1) := by decide +kernel
theorem dX12_night_60 : decode cX12_night 60 = .ok (.imul, 1) := by decide +kernel
theorem dX12_night_61 : decode cX12_night 61 = .ok (.if_icmp .ge 54, 3) := by decide +kernel
theorem dX12_night_64 : decode cX12_night 64 = .ok (.aload_n 0, 1) := by decide +kernel
theorem dX12_night_65 : decode cX12_night 65 = .ok (.getfield 130, 3) := by decide +kernel
theorem dX12_night_68 : decode cX12_night 68 = .ok (.iconst 1, 1) := by decide +kernel
theorem dX12_night_69 : decode cX12_night 69 = .ok (.iaload, 1) := by decide +kernel
theorem dX12_night_70 : decode cX12_night 70 = .ok (.bipush 24, 2) := by decide +kernel
theorem dX12_night_72 : decode cX12_night 72 = .ok (.irem, 1) := by decide +kernel
theorem dX12_night_73 : decode cX12_night 73 = .ok (.istore 4, 2) := by decide +kernel
theorem dX12_night_75 : decode cX12_night 75 = .ok (.aload_n 0, 1) := by decide +kernel
theorem dX12_night_76 : decode cX12_night 76 = .ok (.getfield 112, 3) := by decide +kernel
theorem dX12_night_79 : decode cX12_night 79 = .ok (.iconst 1, 1) := by decide +kernel
theorem dX12_night_80 : decode cX12_night 80 = .ok (.iload 4, 2) := by decide +kernel
theorem dX12_night_82 : decode cX12_night 82 = .ok (.bipush 22, 2) := by decide +kernel
theorem dX12_night_84 : decode cX12_night 84 = .ok (.if_icmp .ge 9, 3) := by decide +kernel
theorem dX12_night_87 : decode cX12_night 87 = .ok (.iload 4, 2) := by decide +kernel
theorem dX12_night_89 : decode cX12_night 89 = .ok (.iconst 5, 1) := by decide +kernel
theorem dX12_night_90 : decode cX12_night 90 = .ok (.if_icmp .gt 7, 3) := by decide +kernel
theorem dX12_night_93 : decode cX12_night 93 = .ok (.iconst 5, 1) := by decide +kernel
theorem dX12_night_94 : decode cX12_night 94 = .ok (.goto 9, 3) := by decide +kernel
theorem dX12_night_97 : decode cX12_night 97 = .ok (.aload_n 0, 1) := by decide +kernel
theorem dX12_night_98 : decode cX12_night 98 = .ok (.getfield 112, 3) := by decide +kernel
theorem dX12_night_101 : decode cX12_night 101 = .ok (.iconst 0, 1) := by decide +kernel
theorem dX12_night_102 : decode cX12_night 102 = .ok (.iaload, 1) := by decide +kernel
theorem dX12_night_103 : decode cX12_night 103 = .ok (.iastore, 1) := by decide +kernel
theorem dX12_night_104 : decode cX12_night 104 = .ok (.aload_n 0, 1) := by decide +kernel
theorem dX12_night_105 : decode cX12_night 105 = .ok (.iconst 1, 1) := by decide +kernel
theorem dX12_night_106 : decode cX12_night 106 = .ok (.invokevirtual 479, 3) := by decide +kernel
theorem dX12_night_109 : decode cX12_night 109 = .ok (.iinc 3 1, 3) := by decide +kernel
theorem dX12_night_112 : decode cX12_night 112 = .ok (.goto (-56), 3) := by decide +kernel
theorem dX12_night_115 : decode cX12_night 115 = .ok (.aload_n 0, 1) := by decide +kernel
theorem dX12_night_116 : decode cX12_night 116 = .ok (.getfield 121, 3) := by decide +kernel
theorem dX12_night_119 : decode cX12_night 119 = .ok (.iconst 1, 1) := by decide +kernel
theorem dX12_night_120 : decode cX12_night 120 = .ok (.iaload, 1) := by decide +kernel
theorem dX12_night_121 : decode cX12_night 121 = .ok (.iload_n 2, 1) := by decide +kernel
theorem dX12_night_122 : decode cX12_night 122 = .ok (.isub, 1) := by decide +kernel
theorem dX12_night_123 : decode cX12_night 123 = .ok (.ireturn, 1) := by decide +kernel
def f_X12_night (M : MM) (p1 : Int) : Option (Int × MM) :=
bM (upM M 88 2 0) fun M1 =>
(f_X12_isIn M1 p1 1 7).bind fun x2 =>
if x2 = 0 then
(some ((-2147483648), M1))
else
(f_X12_layStill M1 (M1 121 0)).bind fun x4 =>
(f_X12_goMany x4 (w32 (24 * p1))).bind fun x5 =>
bI (x5 124 1) fun x6 =>
(f_X12_layStill x5 (x5 121 0)).bind fun x7 =>
(lp (X := Int × MM) (Y := MM) (fun x8 =>
if x8.1 < (w32 (24 * p1)) then
(bI (w32 (Int.tmod (x8.2 127 1) 24)) fun x10 =>
((if x10 < 22 then
(if 5 < x10 then
(some (x8.2 121 0))
else
some 5)
else
some 5) : Option (Int)).bind fun x13 =>
bM (upM x8.2 121 1 x13) fun M14 =>
(f_X12_goOn M14 1).bind fun x15 =>
some (Sum.inl (w32 (x8.1 + 1), x15)))
else
some (Sum.inr x8.2)) FU (0, x7)).bind fun x16 =>
some (w32 ((x16 124 1) - x6), x16)
set_option maxRecDepth 4000 in
theorem c_X12_night {E : EE} {sh : List (Nat × Nat)} {ex : Bool} {R : RM} {M : MM} {p1 : Int} (hE : Ext sh) (hL : Links R) : ∀ y, f_X12_night M p1 = some y → MetC E m_X12_night 0 0 [rV 88, iV p1] (sh, ex, R, M) (fun r w' => r = some (iV y.1) ∧ w' = (sh, ex, R, y.2)) := by
  intro y hy
  refine MetC.seg (o := f_X12_night M p1) (t := (fun K y => K (some (iV y.1)) (sh, ex, R, y.2))) (L := [some (rV 88), some (iV p1), none, none, none]) (by decide) rfl (Nat.le_of_ble_eq_true rfl) ?_ hy ⟨rfl, rfl⟩
  unfold f_X12_night
  refine Seg.step (pc' := 1) (I_aload_n (i := 0) dX12_night_0 rfl rfl) ?_
  refine Seg.step (pc' := 2) (I_iconst dX12_night_1 ⟨by decide, by decide⟩) ?_
  refine Seg.step (pc' := 5) (I_putI cls12 (by decide) wf_12_175 (hE _ _ sk_12) rfl rfl dX12_night_2) ?_
  refine S_bM fun M1 => ?_
  refine Seg.step (pc' := 6) (I_iload_n (i := 1) dX12_night_5 rfl rfl) ?_
  refine Seg.step (pc' := 7) (I_iconst dX12_night_6 ⟨by decide, by decide⟩) ?_
  refine Seg.step (pc' := 9) (I_bipush dX12_night_7 (by decide) ⟨by decide, by decide⟩) ?_
  refine S_callS3 (md' := m_X12_isIn) (fun y => some (iV y)) (fun y => (sh, ex, R, M1)) mm_X12_isIn wm_12_220 ⟨rfl, rfl, by decide, by decide, by decide, by decide⟩ (Nat.le_of_ble_eq_true rfl) dX12_night_9 (fun y hy => c_X12_isIn hE hL y hy) (fun x2 => ?_)
  refine S_if_ne (tgt := 19) dX12_night_12 (by decide) (fun h3 => ?_) (fun h3 => ?_)
  · refine Seg.step (pc' := 18) (I_ldcw (z := -2147483648) dX12_night_15 wk_12_511 ⟨by decide, by decide⟩) ?_
    exact S_iret dX12_night_18 rfl (by decide) (by decide) (fun K hK => hK)
  refine Seg.step (pc' := 20) (I_aload_n (i := 0) dX12_night_19 rfl rfl) ?_
  refine Seg.step (pc' := 21) (I_aload_n (i := 0) dX12_night_20 rfl rfl) ?_
  refine Seg.step (pc' := 24) (I_getR cls12 (by decide) wf_12_112 (hE _ _ sk_12) rfl (lk_12_59 hL) dX12_night_21) ?_
  refine Seg.step (pc' := 25) (I_iconst dX12_night_24 ⟨by decide, by decide⟩) ?_
  refine Seg.step (pc' := 26) (I_iald (hE _ _ sk_12_59) ⟨by decide, by decide⟩ dX12_night_25) ?_
  refine S_callV1 (md' := m_X12_layStill) (fun y => none) (fun y => (sh, ex, R, y)) (hE _ _ sk_12) ⟨by decide, rfl⟩ mm_X12_layStill wm_12_505 ⟨rfl, rfl, by decide, by decide, by decide, by decide⟩ (Nat.le_of_ble_eq_true rfl) dX12_night_26 (fun y hy => c_X12_layStill hE hL y hy) (fun x4 => ?_)
  refine Seg.step (pc' := 30) (I_aload_n (i := 0) dX12_night_29 rfl rfl) ?_
  refine Seg.step (pc' := 32) (I_bipush dX12_night_30 (by decide) ⟨by decide, by decide⟩) ?_
  refine Seg.step (pc' := 33) (I_iload_n (i := 1) dX12_night_32 rfl rfl) ?_
  refine Seg.step (pc' := 34) (I_imul dX12_night_33) ?_
  refine S_callV1 (md' := m_X12_goMany) (fun y => none) (fun y => (sh, ex, R, y)) (hE _ _ sk_12) ⟨by decide, rfl⟩ mm_X12_goMany wm_12_499 ⟨rfl, rfl, by decide, by decide, by decide, by decide⟩ (Nat.le_of_ble_eq_true rfl) dX12_night_34 (fun y hy => c_X12_goMany hE hL y hy) (fun x5 => ?_)
  refine Seg.step (pc' := 38) (I_aload_n (i := 0) dX12_night_37 rfl rfl) ?_
  refine Seg.step (pc' := 41) (I_getR cls12 (by decide) wf_12_121 (hE _ _ sk_12) rfl (lk_12_62 hL) dX12_night_38) ?_
  refine Seg.step (pc' := 42) (I_iconst dX12_night_41 ⟨by decide, by decide⟩) ?_
  refine Seg.step (pc' := 43) (I_iald (hE _ _ sk_12_62) ⟨by decide, by decide⟩ dX12_night_42) ?_
  refine S_bI fun x6 => ?_
  refine Seg.step (pc' := 44) (I_istore_n (i := 2) dX12_night_43 rfl (by decide) rfl) ?_
  refine Seg.step (pc' := 45) (I_aload_n (i := 0) dX12_night_44 rfl rfl) ?_
  refine Seg.step (pc' := 46) (I_aload_n (i := 0) dX12_night_45 rfl rfl) ?_
  refine Seg.step (pc' := 49) (I_getR cls12 (by decide) wf_12_112 (hE _ _ sk_12) rfl (lk_12_59 hL) dX12_night_46) ?_
  refine Seg.step (pc' := 50) (I_iconst dX12_night_49 ⟨by decide, by decide⟩) ?_
  refine Seg.step (pc' := 51) (I_iald (hE _ _ sk_12_59) ⟨by decide, by decide⟩ dX12_night_50) ?_
  refine S_callV1 (md' := m_X12_layStill) (fun y => none) (fun y => (sh, ex, R, y)) (hE _ _ sk_12) ⟨by decide, rfl⟩ mm_X12_layStill wm_12_505 ⟨rfl, rfl, by decide, by decide, by decide, by decide⟩ (Nat.le_of_ble_eq_true rfl) dX12_night_51 (fun y hy => c_X12_layStill hE hL y hy) (fun x7 => ?_)
  refine Seg.step (pc' := 55) (I_iconst dX12_night_54 ⟨by decide, by decide⟩) ?_
  refine Seg.step (pc' := 56) (I_istore_n (i := 3) dX12_night_55 rfl (by decide) rfl) ?_
  refine Seg.forget (Lle.ye (Lle.ye (Lle.ye (Lle.ye (Lle.no (Lle.nil)))))) ?_
  refine S_bind (Y := MM) (k' := 0) (n' := 0) 115 (fun y => [some (rV 88), none, some (iV x6), none, none]) (fun y => []) (fun y => (sh, ex, R, y)) (S_loop (Y := Int × MM) (fun y => [some (rV 88), some (iV p1), some (iV x6), some (iV y.1), none]) (fun y => []) (fun y => (sh, ex, R, y.2)) (fun x8 => ?_) FU (0, x7)) (fun x16 => ?_)
  · refine Seg.step (pc' := 57) (I_iload_n (i := 3) dX12_night_56 rfl rfl) ?_
    refine Seg.step (pc' := 59) (I_bipush dX12_night_57 (by decide) ⟨by decide, by decide⟩) ?_
    refine Seg.step (pc' := 60) (I_iload_n (i := 1) dX12_night_59 rfl rfl) ?_
    refine Seg.step (pc' := 61) (I_imul dX12_night_60) ?_
    refine S_icmp_ge (tgt := 115) dX12_night_61 (by decide) (fun h9 => ?_) (fun h9 => ?_)
    · refine Seg.step (pc' := 65) (I_aload_n (i := 0) dX12_night_64 rfl rfl) ?_
      refine Seg.step (pc' := 68) (I_getR cls12 (by decide) wf_12_130 (hE _ _ sk_12) rfl (lk_12_65 hL) dX12_night_65) ?_
      refine Seg.step (pc' := 69) (I_iconst dX12_night_68 ⟨by decide, by decide⟩) ?_
      refine Seg.step (pc' := 70) (I_iald (hE _ _ sk_12_65) ⟨by decide, by decide⟩ dX12_night_69) ?_
      refine Seg.step (pc' := 72) (I_bipush dX12_night_70 (by decide) ⟨by decide, by decide⟩) ?_
      refine Seg.step (pc' := 73) (I_irem dX12_night_72 (by decide)) ?_
      refine S_bI fun x10 => ?_
      refine Seg.step (pc' := 75) (I_istore dX12_night_73 (by decide) rfl) ?_
      refine Seg.step (pc' := 76) (I_aload_n (i := 0) dX12_night_75 rfl rfl) ?_
      refine Seg.step (pc' := 79) (I_getR cls12 (by decide) wf_12_112 (hE _ _ sk_12) rfl (lk_12_59 hL) dX12_night_76) ?_
      refine Seg.step (pc' := 80) (I_iconst dX12_night_79 ⟨by decide, by decide⟩) ?_
      refine Seg.step (pc' := 82) (I_iload dX12_night_80 rfl) ?_
      refine Seg.step (pc' := 84) (I_bipush dX12_night_82 (by decide) ⟨by decide, by decide⟩) ?_
      refine S_bind (Y := Int) (k' := 0) (n' := 0) 103 (fun y => [some (rV 88), some (iV p1), some (iV x6), some (iV x8.1), none]) (fun y => [iV y, iV 1, rV 121]) (fun y => (sh, ex, R, x8.2)) ?_ (fun x13 => ?_)
      · refine S_icmp_ge (tgt := 93) dX12_night_84 (by decide) (fun h11 => ?_) (fun h11 => ?_)
        · refine Seg.step (pc' := 89) (I_iload dX12_night_87 rfl) ?_
          refine Seg.step (pc' := 90) (I_iconst dX12_night_89 ⟨by decide, by decide⟩) ?_
          refine S_icmp_gt (tgt := 97) dX12_night_90 (by decide) (fun h12 => ?_) (fun h12 => ?_)
          · refine Seg.step (pc' := 98) (I_aload_n (i := 0) dX12_night_97 rfl rfl) ?_
            refine Seg.step (pc' := 101) (I_getR cls12 (by decide) wf_12_112 (hE _ _ sk_12) rfl (lk_12_59 hL) dX12_night_98) ?_
            refine Seg.step (pc' := 102) (I_iconst dX12_night_101 ⟨by decide, by decide⟩) ?_
            refine Seg.step (pc' := 103) (I_iald (hE _ _ sk_12_59) ⟨by decide, by decide⟩ dX12_night_102) ?_
            exact S_arr (fun K hK => GG.forget (Lle.ye (Lle.ye (Lle.ye (Lle.ye (Lle.no (Lle.nil)))))) hK)
          refine Seg.step (pc' := 94) (I_iconst dX12_night_93 ⟨by decide, by decide⟩) ?_
          refine Seg.step (pc' := 103) (I_goto (tgt := 103) dX12_night_94 (by decide)) ?_
          exact S_arr (fun K hK => GG.forget (Lle.ye (Lle.ye (Lle.ye (Lle.ye (Lle.no (Lle.nil)))))) hK)
        refine Seg.step (pc' := 94) (I_iconst dX12_night_93 ⟨by decide, by decide⟩) ?_
        refine Seg.step (pc' := 103) (I_goto (tgt := 103) dX12_night_94 (by decide)) ?_
        exact S_arr (fun K hK => GG.forget (Lle.ye (Lle.ye (Lle.ye (Lle.ye (Lle.no (Lle.nil)))))) hK)
      refine Seg.step (pc' := 104) (I_iast (hE _ _ sk_12_59) ⟨by decide, by decide⟩ dX12_night_103) ?_
      refine S_bM fun M14 => ?_
      refine Seg.step (pc' := 105) (I_aload_n (i := 0) dX12_night_104 rfl rfl) ?_
      refine Seg.step (pc' := 106) (I_iconst dX12_night_105 ⟨by decide, by decide⟩) ?_
      refine S_callV1 (md' := m_X12_goOn) (fun y => none) (fun y => (sh, ex, R, y)) (hE _ _ sk_12) ⟨by decide, rfl⟩ mm_X12_goOn wm_12_479 ⟨rfl, rfl, by decide, by decide, by decide, by decide⟩ (Nat.le_of_ble_eq_true rfl) dX12_night_106 (fun y hy => c_X12_goOn hE hL y hy) (fun x15 => ?_)
      refine Seg.step (pc' := 112) (I_iinc dX12_night_109 rfl (by decide) rfl) ?_
      refine Seg.step (pc' := 56) (I_goto (tgt := 56) dX12_night_112 (by decide)) ?_
      exact S_arr (fun K hK => GG.forget (Lle.ye (Lle.ye (Lle.ye (Lle.ye (Lle.no (Lle.nil)))))) hK)
    exact S_arr (fun K hK => GG.forget (Lle.ye (Lle.no (Lle.ye (Lle.no (Lle.no (Lle.nil)))))) hK)
  refine Seg.step (pc' := 116) (I_aload_n (i := 0) dX12_night_115 rfl rfl) ?_
  refine Seg.step (pc' := 119) (I_getR cls12 (by decide) wf_12_121 (hE _ _ sk_12) rfl (lk_12_62 hL) dX12_night_116) ?_
  refine Seg.step (pc' := 120) (I_iconst dX12_night_119 ⟨by decide, by decide⟩) ?_
  refine Seg.step (pc' := 121) (I_iald (hE _ _ sk_12_62) ⟨by decide, by decide⟩ dX12_night_120) ?_
  refine Seg.step (pc' := 122) (I_iload_n (i := 2) dX12_night_121 rfl rfl) ?_
  refine Seg.step (pc' := 123) (I_isub dX12_night_122) ?_
  exact S_iret dX12_night_123 rfl (by decide) (by decide) (fun K hK => hK)
theorem dX12_swings_0 : decode cX12_swings 0 = .ok (.aload_n 0, 1) := by decide +kernel
theorem dX12_swings_1 : decode cX12_swings 1 = .ok (.iconst 0, 1) := by decide +kernel
theorem dX12_swings_2 : decode cX12_swings 2 = .ok (.putfield 175, 3) := by decide +kernel
theorem dX12_swings_5 : decode cX12_swings 5 = .ok (.iload_n 1, 1) := by decide +kernel
theorem dX12_swings_6 : decode cX12_swings 6 = .ok (.iconst 1, 1) := by decide +kernel
theorem dX12_swings_7 : decode cX12_swings 7 = .ok (.sipush 200, 3) := by decide +kernel
theorem dX12_swings_10 : decode cX12_swings 10 = .ok (.invokestatic 220, 3) := by decide +kernel
theorem dX12_swings_13 : decode cX12_swings 13 = .ok (.ifCond .ne 5, 3) := by decide +kernel
theorem dX12_swings_16 : decode cX12_swings 16 = .ok (.iconst (-1), 1) := by decide +kernel
theorem dX12_swings_17 : decode cX12_swings 17 = .ok (.ireturn, 1) := by decide +kernel
theorem dX12_swings_18 : decode cX12_swings 18 = .ok (.aload_n 0, 1) := by decide +kernel
theorem dX12_swings_19 : decode cX12_swings 19 = .ok (.invokevirtual 430, 3) := by decide +kernel
theorem dX12_swings_22 : decode cX12_swings 22 = .ok (.aload_n 0, 1) := by decide +kernel
theorem dX12_swings_23 : decode cX12_swings 23 = .ok (.iload_n 1, 1) := by decide +kernel
theorem dX12_swings_24 : decode cX12_swings 24 = .ok (.invokevirtual 499, 3) := by decide +kernel
theorem dX12_swings_27 : decode cX12_swings 27 = .ok (.aload_n 0, 1) := by decide +kernel
theorem dX12_swings_28 : decode cX12_swings 28 = .ok (.getfield 427, 3) := by decide +kernel
theorem dX12_swings_31 : decode cX12_swings 31 = .ok (.ireturn, 1) := by decide +kernel
def f_X12_swings (M : MM) (p1 : Int) : Option (Int × MM) :=
bM (upM M 88 2 0) fun M1 =>
(f_X12_isIn M1 p1 1 200).bind fun x2 =>
if x2 = 0 then
(some ((-1), M1))
else
(f_X12_layTried M1).bind fun x4 =>
(f_X12_goMany x4 p1).bind fun x5 =>
some (x5 88 79, x5)
set_option maxRecDepth 4000 in
theorem c_X12_swings {E : EE} {sh : List (Nat × Nat)} {ex : Bool} {R : RM} {M : MM} {p1 : Int} (hE : Ext sh) (hL : Links R) : ∀ y, f_X12_swings M p1 = some y → MetC E m_X12_swings 0 0 [rV 88, iV p1] (sh, ex, R, M) (fun r w' => r = some (iV y.1) ∧ w' = (sh, ex, R, y.2)) := by
  intro y hy
  refine MetC.seg (o := f_X12_swings M p1) (t := (fun K y => K (some (iV y.1)) (sh, ex, R, y.2))) (L := [some (rV 88), some (iV p1)]) (by decide) rfl (Nat.le_of_ble_eq_true rfl) ?_ hy ⟨rfl, rfl⟩
  unfold f_X12_swings
  refine Seg.step (pc' := 1) (I_aload_n (i := 0) dX12_swings_0 rfl rfl) ?_
  refine Seg.step (pc' := 2) (I_iconst dX12_swings_1 ⟨by decide, by decide⟩) ?_
  refine Seg.step (pc' := 5) (I_putI cls12 (by decide) wf_12_175 (hE _ _ sk_12) rfl rfl dX12_swings_2) ?_
  refine S_bM fun M1 => ?_
  refine Seg.step (pc' := 6) (I_iload_n (i := 1) dX12_swings_5 rfl rfl) ?_
  refine Seg.step (pc' := 7) (I_iconst dX12_swings_6 ⟨by decide, by decide⟩) ?_
  refine Seg.step (pc' := 10) (I_sipush dX12_swings_7 (by decide) ⟨by decide, by decide⟩) ?_
  refine S_callS3 (md' := m_X12_isIn) (fun y => some (iV y)) (fun y => (sh, ex, R, M1)) mm_X12_isIn wm_12_220 ⟨rfl, rfl, by decide, by decide, by decide, by decide⟩ (Nat.le_of_ble_eq_true rfl) dX12_swings_10 (fun y hy => c_X12_isIn hE hL y hy) (fun x2 => ?_)
  refine S_if_ne (tgt := 18) dX12_swings_13 (by decide) (fun h3 => ?_) (fun h3 => ?_)
  · refine Seg.step (pc' := 17) (I_iconst dX12_swings_16 ⟨by decide, by decide⟩) ?_
    exact S_iret dX12_swings_17 rfl (by decide) (by decide) (fun K hK => hK)
  refine Seg.step (pc' := 19) (I_aload_n (i := 0) dX12_swings_18 rfl rfl) ?_
  refine S_callV0 (md' := m_X12_layTried) (fun y => none) (fun y => (sh, ex, R, y)) (hE _ _ sk_12) ⟨by decide, rfl⟩ mm_X12_layTried wm_12_430 ⟨rfl, rfl, by decide, by decide, by decide, by decide⟩ (Nat.le_of_ble_eq_true rfl) dX12_swings_19 (fun y hy => c_X12_layTried hE hL y hy) (fun x4 => ?_)
  refine Seg.step (pc' := 23) (I_aload_n (i := 0) dX12_swings_22 rfl rfl) ?_
  refine Seg.step (pc' := 24) (I_iload_n (i := 1) dX12_swings_23 rfl rfl) ?_
  refine S_callV1 (md' := m_X12_goMany) (fun y => none) (fun y => (sh, ex, R, y)) (hE _ _ sk_12) ⟨by decide, rfl⟩ mm_X12_goMany wm_12_499 ⟨rfl, rfl, by decide, by decide, by decide, by decide⟩ (Nat.le_of_ble_eq_true rfl) dX12_swings_24 (fun y hy => c_X12_goMany hE hL y hy) (fun x5 => ?_)
  refine Seg.step (pc' := 28) (I_aload_n (i := 0) dX12_swings_27 rfl rfl) ?_
  refine Seg.step (pc' := 31) (I_getI cls12 (by decide) wf_12_427 (hE _ _ sk_12) rfl dX12_swings_28) ?_
  exact S_iret dX12_swings_31 rfl (by decide) (by decide) (fun K hK => hK)
theorem dX12_degree_0 : decode cX12_degree 0 = .ok (.aload_n 0, 1) := by decide +kernel
theorem dX12_degree_1 : decode cX12_degree 1 = .ok (.iconst 0, 1) := by decide +kernel
theorem dX12_degree_2 : decode cX12_degree 2 = .ok (.putfield 175, 3) := by decide +kernel
theorem dX12_degree_5 : decode cX12_degree 5 = .ok (.iload_n 1, 1) := by decide +kernel
theorem dX12_degree_6 : decode cX12_degree 6 = .ok (.iconst 1, 1) := by decide +kernel
theorem dX12_degree_7 : decode cX12_degree 7 = .ok (.bipush 99, 2) := by decide +kernel
theorem dX12_degree_9 : decode cX12_degree 9 = .ok (.invokestatic 220, 3) := by decide +kernel
theorem dX12_degree_12 : decode cX12_degree 12 = .ok (.ifCond .ne 5, 3) := by decide +kernel
theorem dX12_degree_15 : decode cX12_degree 15 = .ok (.iconst (-1), 1) := by decide +kernel
theorem dX12_degree_16 : decode cX12_degree 16 = .ok (.ireturn, 1) := by decide +kernel
theorem dX12_degree_17 : decode cX12_degree 17 = .ok (.aload_n 0, 1) := by decide +kernel
theorem dX12_degree_18 : decode cX12_degree 18 = .ok (.getfield 112, 3) := by decide +kernel
theorem dX12_degree_21 : decode cX12_degree 21 = .ok (.iconst 0, 1) := by decide +kernel
theorem dX12_degree_22 : decode cX12_degree 22 = .ok (.iaload, 1) := by decide +kernel
theorem dX12_degree_23 : decode cX12_degree 23 = .ok (.bipush 30, 2) := by decide +kernel
theorem dX12_degree_25 : decode cX12_degree 25 = .ok (.if_icmp .ne 5, 3) := by decide +kernel
theorem dX12_degree_28 : decode cX12_degree 28 = .ok (.iconst 0, 1) := by decide +kernel
theorem dX12_degree_29 : decode cX12_degree 29 = .ok (.ireturn, 1) := by decide +kernel
theorem dX12_degree_30 : decode cX12_degree 30 = .ok (.aload_n 0, 1) := by decide +kernel
theorem dX12_degree_31 : decode cX12_degree 31 = .ok (.aload_n 0, 1) := by decide +kernel
theorem dX12_degree_32 : decode cX12_degree 32 = .ok (.getfield 112, 3) := by decide +kernel
theorem dX12_degree_35 : decode cX12_degree 35 = .ok (.iconst 0, 1) := by decide +kernel
theorem dX12_degree_36 : decode cX12_degree 36 = .ok (.iaload, 1) := by decide +kernel
theorem dX12_degree_37 : decode cX12_degree 37 = .ok (.invokevirtual 505, 3) := by decide +kernel
theorem dX12_degree_40 : decode cX12_degree 40 = .ok (.aload_n 0, 1) := by decide +kernel
theorem dX12_degree_41 : decode cX12_degree 41 = .ok (.iload_n 1, 1) := by decide +kernel
theorem dX12_degree_42 : decode cX12_degree 42 = .ok (.invokevirtual 499, 3) := by decide +kernel
theorem dX12_degree_45 : decode cX12_degree 45 = .ok (.aload_n 0, 1) := by decide +kernel
theorem dX12_degree_46 : decode cX12_degree 46 = .ok (.getfield 121, 3) := by decide +kernel
theorem dX12_degree_49 : decode cX12_degree 49 = .ok (.iconst 1, 1) := by decide +kernel
theorem dX12_degree_50 : decode cX12_degree 50 = .ok (.iaload, 1) := by decide +kernel
theorem dX12_degree_51 : decode cX12_degree 51 = .ok (.istore_n 2, 1) := by decide +kernel
theorem dX12_degree_52 : decode cX12_degree 52 = .ok (.aload_n 0, 1) := by decide +kernel
theorem dX12_degree_53 : decode cX12_degree 53 = .ok (.aload_n 0, 1) := by decide +kernel
theorem dX12_degree_54 : decode cX12_degree 54 = .ok (.getfield 112, 3) := by decide +kernel
theorem dX12_degree_57 : decode cX12_degree 57 = .ok (.iconst 0, 1) := by decide +kernel
theorem dX12_degree_58 : decode cX12_degree 58 = .ok (.iaload, 1) := by decide +kernel
theorem dX12_degree_59 : decode cX12_degree 59 = .ok (.iconst 1, 1) := by decide +kernel
theorem dX12_degree_60 : decode cX12_degree 60 = .ok (.iadd, 1) := by decide +kernel
theorem dX12_degree_61 : decode cX12_degree 61 = .ok (.invokevirtual 505, 3) := by decide +kernel
theorem dX12_degree_64 : decode cX12_degree 64 = .ok (.aload_n 0, 1) := by decide +kernel
theorem dX12_degree_65 : decode cX12_degree 65 = .ok (.iload_n 1, 1) := by decide +kernel
theorem dX12_degree_66 : decode cX12_degree 66 = .ok (.invokevirtual 499, 3) := by decide +kernel
theorem dX12_degree_69 : decode cX12_degree 69 = .ok (.aload_n 0, 1) := by decide +kernel
theorem dX12_degree_70 : decode cX12_degree 70 = .ok (.getfield 121, 3) := by decide +kernel
theorem dX12_degree_73 : decode cX12_degree 73 = .ok (.iconst 1, 1) := by decide +kernel
theorem dX12_degree_74 : decode cX12_degree 74 = .ok (.iaload, 1) := by decide +kernel
theorem dX12_degree_75 : decode cX12_degree 75 = .ok (.iload_n 2, 1) := by decide +kernel
theorem dX12_degree_76 : decode cX12_degree 76 = .ok (.if_icmp .le 14, 3) := by decide +kernel
theorem dX12_degree_79 : decode cX12_degree 79 = .ok (.aload_n 0, 1) := by decide +kernel
theorem dX12_degree_80 : decode cX12_degree 80 = .ok (.getfield 121, 3) := by decide +kernel
theorem dX12_degree_83 : decode cX12_degree 83 = .ok (.iconst 1, 1) := by decide +kernel
theorem dX12_degree_84 : decode cX12_degree 84 = .ok (.iaload, 1) := by decide +kernel
theorem dX12_degree_85 : decode cX12_degree 85 = .ok (.iload_n 2, 1) := by decide +kernel
theorem dX12_degree_86 : decode cX12_degree 86 = .ok (.isub, 1) := by decide +kernel
theorem dX12_degree_87 : decode cX12_degree 87 = .ok (.goto 4, 3) := by decide +kernel
theorem dX12_degree_90 : decode cX12_degree 90 = .ok (.iconst 0, 1) := by decide +kernel
theorem dX12_degree_91 : decode cX12_degree 91 = .ok (.ireturn, 1) := by decide +kernel
def f_X12_degree (M : MM) (p1 : Int) : Option (Int × MM) :=
bM (upM M 88 2 0) fun M1 =>
(f_X12_isIn M1 p1 1 99).bind fun x2 =>
if x2 = 0 then
(some ((-1), M1))
else
if (M1 121 0) = 30 then
(some (0, M1))
else
(f_X12_layStill M1 (M1 121 0)).bind fun x5 =>
(f_X12_goMany x5 p1).bind fun x6 =>
bI (x6 124 1) fun x7 =>
(f_X12_layStill x6 (w32 ((x6 121 0) + 1))).bind fun x8 =>
(f_X12_goMany x8 p1).bind fun x9 =>
if x7 < (x9 124 1) then
(some (w32 ((x9 124 1) - x7), x9))
else
some (0, x9)
set_option maxRecDepth 4000 in
theorem c_X12_degree {E : EE} {sh : List (Nat × Nat)} {ex : Bool} {R : RM} {M : MM} {p1 : Int} (hE : Ext sh) (hL : Links R) : ∀ y, f_X12_degree M p1 = some y → MetC E m_X12_degree 0 0 [rV 88, iV p1] (sh, ex, R, M) (fun r w' => r = some (iV y.1) ∧ w' = (sh, ex, R, y.2)) := by
  intro y hy
  refine MetC.seg (o := f_X12_degree M p1) (t := (fun K y => K (some (iV y.1)) (sh, ex, R, y.2))) (L := [some (rV 88), some (iV p1), none]) (by decide) rfl (Nat.le_of_ble_eq_true rfl) ?_ hy ⟨rfl, rfl⟩
  unfold f_X12_degree
  refine Seg.step (pc' := 1) (I_aload_n (i := 0) dX12_degree_0 rfl rfl) ?_
  refine Seg.step (pc' := 2) (I_iconst dX12_degree_1 ⟨by decide, by decide⟩) ?_
  refine Seg.step (pc' := 5) (I_putI cls12 (by decide) wf_12_175 (hE _ _ sk_12) rfl rfl dX12_degree_2) ?_
  refine S_bM fun M1 => ?_
  refine Seg.step (pc' := 6) (I_iload_n (i := 1) dX12_degree_5 rfl rfl) ?_
  refine Seg.step (pc' := 7) (I_iconst dX12_degree_6 ⟨by decide, by decide⟩) ?_
  refine Seg.step (pc' := 9) (I_bipush dX12_degree_7 (by decide) ⟨by decide, by decide⟩) ?_
  refine S_callS3 (md' := m_X12_isIn) (fun y => some (iV y)) (fun y => (sh, ex, R, M1)) mm_X12_isIn wm_12_220 ⟨rfl, rfl, by decide, by decide, by decide, by decide⟩ (Nat.le_of_ble_eq_true rfl) dX12_degree_9 (fun y hy => c_X12_isIn hE hL y hy) (fun x2 => ?_)
  refine S_if_ne (tgt := 17) dX12_degree_12 (by decide) (fun h3 => ?_) (fun h3 => ?_)
  · refine Seg.step (pc' := 16) (I_iconst dX12_degree_15 ⟨by decide, by decide⟩) ?_
    exact S_iret dX12_degree_16 rfl (by decide) (by decide) (fun K hK => hK)
  refine Seg.step (pc' := 18) (I_aload_n (i := 0) dX12_degree_17 rfl rfl) ?_
  refine Seg.step (pc' := 21) (I_getR cls12 (by decide) wf_12_112 (hE _ _ sk_12) rfl (lk_12_59 hL) dX12_degree_18) ?_
  refine Seg.step (pc' := 22) (I_iconst dX12_degree_21 ⟨by decide, by decide⟩) ?_
  refine Seg.step (pc' := 23) (I_iald (hE _ _ sk_12_59) ⟨by decide, by decide⟩ dX12_degree_22) ?_
  refine Seg.step (pc' := 25) (I_bipush dX12_degree_23 (by decide) ⟨by decide, by decide⟩) ?_
  refine S_icmp_ne (tgt := 30) dX12_degree_25 (by decide) (fun h4 => ?_) (fun h4 => ?_)
  · refine Seg.step (pc' := 29) (I_iconst dX12_degree_28 ⟨by decide, by decide⟩) ?_
    exact S_iret dX12_degree_29 rfl (by decide) (by decide) (fun K hK => hK)
  refine Seg.step (pc' := 31) (I_aload_n (i := 0) dX12_degree_30 rfl rfl) ?_
  refine Seg.step (pc' := 32) (I_aload_n (i := 0) dX12_degree_31 rfl rfl) ?_
  refine Seg.step (pc' := 35) (I_getR cls12 (by decide) wf_12_112 (hE _ _ sk_12) rfl (lk_12_59 hL) dX12_degree_32) ?_
  refine Seg.step (pc' := 36) (I_iconst dX12_degree_35 ⟨by decide, by decide⟩) ?_
  refine Seg.step (pc' := 37) (I_iald (hE _ _ sk_12_59) ⟨by decide, by decide⟩ dX12_degree_36) ?_
  refine S_callV1 (md' := m_X12_layStill) (fun y => none) (fun y => (sh, ex, R, y)) (hE _ _ sk_12) ⟨by decide, rfl⟩ mm_X12_layStill wm_12_505 ⟨rfl, rfl, by decide, by decide, by decide, by decide⟩ (Nat.le_of_ble_eq_true rfl) dX12_degree_37 (fun y hy => c_X12_layStill hE hL y hy) (fun x5 => ?_)
  refine Seg.step (pc' := 41) (I_aload_n (i := 0) dX12_degree_40 rfl rfl) ?_
  refine Seg.step (pc' := 42) (I_iload_n (i := 1) dX12_degree_41 rfl rfl) ?_
  refine S_callV1 (md' := m_X12_goMany) (fun y => none) (fun y => (sh, ex, R, y)) (hE _ _ sk_12) ⟨by decide, rfl⟩ mm_X12_goMany wm_12_499 ⟨rfl, rfl, by decide, by decide, by decide, by decide⟩ (Nat.le_of_ble_eq_true rfl) dX12_degree_42 (fun y hy => c_X12_goMany hE hL y hy) (fun x6 => ?_)
  refine Seg.step (pc' := 46) (I_aload_n (i := 0) dX12_degree_45 rfl rfl) ?_
  refine Seg.step (pc' := 49) (I_getR cls12 (by decide) wf_12_121 (hE _ _ sk_12) rfl (lk_12_62 hL) dX12_degree_46) ?_
  refine Seg.step (pc' := 50) (I_iconst dX12_degree_49 ⟨by decide, by decide⟩) ?_
  refine Seg.step (pc' := 51) (I_iald (hE _ _ sk_12_62) ⟨by decide, by decide⟩ dX12_degree_50) ?_
  refine S_bI fun x7 => ?_
  refine Seg.step (pc' := 52) (I_istore_n (i := 2) dX12_degree_51 rfl (by decide) rfl) ?_
  refine Seg.step (pc' := 53) (I_aload_n (i := 0) dX12_degree_52 rfl rfl) ?_
  refine Seg.step (pc' := 54) (I_aload_n (i := 0) dX12_degree_53 rfl rfl) ?_
  refine Seg.step (pc' := 57) (I_getR cls12 (by decide) wf_12_112 (hE _ _ sk_12) rfl (lk_12_59 hL) dX12_degree_54) ?_
  refine Seg.step (pc' := 58) (I_iconst dX12_degree_57 ⟨by decide, by decide⟩) ?_
  refine Seg.step (pc' := 59) (I_iald (hE _ _ sk_12_59) ⟨by decide, by decide⟩ dX12_degree_58) ?_
  refine Seg.step (pc' := 60) (I_iconst dX12_degree_59 ⟨by decide, by decide⟩) ?_
  refine Seg.step (pc' := 61) (I_iadd dX12_degree_60) ?_
  refine S_callV1 (md' := m_X12_layStill) (fun y => none) (fun y => (sh, ex, R, y)) (hE _ _ sk_12) ⟨by decide, rfl⟩ mm_X12_layStill wm_12_505 ⟨rfl, rfl, by decide, by decide, by decide, by decide⟩ (Nat.le_of_ble_eq_true rfl) dX12_degree_61 (fun y hy => c_X12_layStill hE hL y hy) (fun x8 => ?_)
  refine Seg.step (pc' := 65) (I_aload_n (i := 0) dX12_degree_64 rfl rfl) ?_
  refine Seg.step (pc' := 66) (I_iload_n (i := 1) dX12_degree_65 rfl rfl) ?_
  refine S_callV1 (md' := m_X12_goMany) (fun y => none) (fun y => (sh, ex, R, y)) (hE _ _ sk_12) ⟨by decide, rfl⟩ mm_X12_goMany wm_12_499 ⟨rfl, rfl, by decide, by decide, by decide, by decide⟩ (Nat.le_of_ble_eq_true rfl) dX12_degree_66 (fun y hy => c_X12_goMany hE hL y hy) (fun x9 => ?_)
  refine Seg.step (pc' := 70) (I_aload_n (i := 0) dX12_degree_69 rfl rfl) ?_
  refine Seg.step (pc' := 73) (I_getR cls12 (by decide) wf_12_121 (hE _ _ sk_12) rfl (lk_12_62 hL) dX12_degree_70) ?_
  refine Seg.step (pc' := 74) (I_iconst dX12_degree_73 ⟨by decide, by decide⟩) ?_
  refine Seg.step (pc' := 75) (I_iald (hE _ _ sk_12_62) ⟨by decide, by decide⟩ dX12_degree_74) ?_
  refine Seg.step (pc' := 76) (I_iload_n (i := 2) dX12_degree_75 rfl rfl) ?_
  refine S_icmp_le (tgt := 90) dX12_degree_76 (by decide) (fun h10 => ?_) (fun h10 => ?_)
  · refine Seg.step (pc' := 80) (I_aload_n (i := 0) dX12_degree_79 rfl rfl) ?_
    refine Seg.step (pc' := 83) (I_getR cls12 (by decide) wf_12_121 (hE _ _ sk_12) rfl (lk_12_62 hL) dX12_degree_80) ?_
    refine Seg.step (pc' := 84) (I_iconst dX12_degree_83 ⟨by decide, by decide⟩) ?_
    refine Seg.step (pc' := 85) (I_iald (hE _ _ sk_12_62) ⟨by decide, by decide⟩ dX12_degree_84) ?_
    refine Seg.step (pc' := 86) (I_iload_n (i := 2) dX12_degree_85 rfl rfl) ?_
    refine Seg.step (pc' := 87) (I_isub dX12_degree_86) ?_
    refine Seg.step (pc' := 91) (I_goto (tgt := 91) dX12_degree_87 (by decide)) ?_
    exact S_iret dX12_degree_91 rfl (by decide) (by decide) (fun K hK => hK)
  refine Seg.step (pc' := 91) (I_iconst dX12_degree_90 ⟨by decide, by decide⟩) ?_
  exact S_iret dX12_degree_91 rfl (by decide) (by decide) (fun K hK => hK)
theorem dX12_strip_0 : decode cX12_strip 0 = .ok (.aload_n 0, 1) := by decide +kernel
theorem dX12_strip_1 : decode cX12_strip 1 = .ok (.iconst 0, 1) := by decide +kernel
theorem dX12_strip_2 : decode cX12_strip 2 = .ok (.putfield 175, 3) := by decide +kernel
theorem dX12_strip_5 : decode cX12_strip 5 = .ok (.aload_n 0, 1) := by decide +kernel
theorem dX12_strip_6 : decode cX12_strip 6 = .ok (.iload_n 1, 1) := by decide +kernel
theorem dX12_strip_7 : decode cX12_strip 7 = .ok (.invokevirtual 488, 3) := by decide +kernel
theorem dX12_strip_10 : decode cX12_strip 10 = .ok (.ifCond .eq 13, 3) := by decide +kernel
theorem dX12_strip_13 : decode cX12_strip 13 = .ok (.iload_n 2, 1) := by decide +kernel
theorem dX12_strip_14 : decode cX12_strip 14 = .ok (.iconst 1, 1) := by decide +kernel
theorem dX12_strip_15 : decode cX12_strip 15 = .ok (.bipush 99, 2) := by decide +kernel
theorem dX12_strip_17 : decode cX12_strip 17 = .ok (.invokestatic 220, 3) := by decide +kernel
theorem dX12_strip_20 : decode cX12_strip 20 = .ok (.ifCond .ne 5, 3) := by decide +kernel
theorem dX12_strip_23 : decode cX12_strip 23 = .ok (.iconst (-1), 1) := by decide +kernel
theorem dX12_strip_24 : decode cX12_strip 24 = .ok (.ireturn, 1) := by decide +kernel
theorem dX12_strip_25 : decode cX12_strip 25 = .ok (.aload_n 0, 1) := by decide +kernel
theorem dX12_strip_26 : decode cX12_strip 26 = .ok (.aload_n 0, 1) := by decide +kernel
theorem dX12_strip_27 : decode cX12_strip 27 = .ok (.getfield 112, 3) := by decide +kernel
theorem dX12_strip_30 : decode cX12_strip 30 = .ok (.iconst 0, 1) := by decide +kernel
theorem dX12_strip_31 : decode cX12_strip 31 = .ok (.iaload, 1) := by decide +kernel
theorem dX12_strip_32 : decode cX12_strip 32 = .ok (.invokevirtual 505, 3) := by decide +kernel
theorem dX12_strip_35 : decode cX12_strip 35 = .ok (.aload_n 0, 1) := by decide +kernel
theorem dX12_strip_36 : decode cX12_strip 36 = .ok (.iload_n 2, 1) := by decide +kernel
theorem dX12_strip_37 : decode cX12_strip 37 = .ok (.invokevirtual 499, 3) := by decide +kernel
theorem dX12_strip_40 : decode cX12_strip 40 = .ok (.aload_n 0, 1) := by decide +kernel
theorem dX12_strip_41 : decode cX12_strip 41 = .ok (.getfield 121, 3) := by decide +kernel
theorem dX12_strip_44 : decode cX12_strip 44 = .ok (.iconst 1, 1) := by decide +kernel
theorem dX12_strip_45 : decode cX12_strip 45 = .ok (.iaload, 1) := by decide +kernel
theorem dX12_strip_46 : decode cX12_strip 46 = .ok (.istore_n 3, 1) := by decide +kernel
theorem dX12_strip_47 : decode cX12_strip 47 = .ok (.aload_n 0, 1) := by decide +kernel
theorem dX12_strip_48 : decode cX12_strip 48 = .ok (.aload_n 0, 1) := by decide +kernel
theorem dX12_strip_49 : decode cX12_strip 49 = .ok (.getfield 112, 3) := by decide +kernel
theorem dX12_strip_52 : decode cX12_strip 52 = .ok (.iconst 0, 1) := by decide +kernel
theorem dX12_strip_53 : decode cX12_strip 53 = .ok (.iaload, 1) := by decide +kernel
theorem dX12_strip_54 : decode cX12_strip 54 = .ok (.invokevirtual 505, 3) := by decide +kernel
theorem dX12_strip_57 : decode cX12_strip 57 = .ok (.aload_n 0, 1) := by decide +kernel
theorem dX12_strip_58 : decode cX12_strip 58 = .ok (.iload_n 1, 1) := by decide +kernel
theorem dX12_strip_59 : decode cX12_strip 59 = .ok (.putfield 412, 3) := by decide +kernel
theorem dX12_strip_62 : decode cX12_strip 62 = .ok (.aload_n 0, 1) := by decide +kernel
theorem dX12_strip_63 : decode cX12_strip 63 = .ok (.iload_n 2, 1) := by decide +kernel
theorem dX12_strip_64 : decode cX12_strip 64 = .ok (.invokevirtual 499, 3) := by decide +kernel
theorem dX12_strip_67 : decode cX12_strip 67 = .ok (.aload_n 0, 1) := by decide +kernel
theorem dX12_strip_68 : decode cX12_strip 68 = .ok (.invokevirtual 385, 3) := by decide +kernel
theorem dX12_strip_71 : decode cX12_strip 71 = .ok (.iload_n 3, 1) := by decide +kernel
theorem dX12_strip_72 : decode cX12_strip 72 = .ok (.aload_n 0, 1) := by decide +kernel
theorem dX12_strip_73 : decode cX12_strip 73 = .ok (.getfield 121, 3) := by decide +kernel
theorem dX12_strip_76 : decode cX12_strip 76 = .ok (.iconst 1, 1) := by decide +kernel
theorem dX12_strip_77 : decode cX12_strip 77 = .ok (.iaload, 1) := by decide +kernel
theorem dX12_strip_78 : decode cX12_strip 78 = .ok (.if_icmp .le 14, 3) := by decide +kernel
theorem dX12_strip_81 : decode cX12_strip 81 = .ok (.iload_n 3, 1) := by decide +kernel
theorem dX12_strip_82 : decode cX12_strip 82 = .ok (.aload_n 0, 1) := by decide +kernel
theorem dX12_strip_83 : decode cX12_strip 83 = .ok (.getfield 121, 3) := by decide +kernel
theorem dX12_strip_86 : decode cX12_strip 86 = .ok (.iconst 1, 1) := by decide +kernel
theorem dX12_strip_87 : decode cX12_strip 87 = .ok (.iaload, 1) := by decide +kernel
theorem dX12_strip_88 : decode cX12_strip 88 = .ok (.isub, 1) := by decide +kernel
theorem dX12_strip_89 : decode cX12_strip 89 = .ok (.goto 4, 3) := by decide +kernel
theorem dX12_strip_92 : decode cX12_strip 92 = .ok (.iconst 0, 1) := by decide +kernel
theorem dX12_strip_93 : decode cX12_strip 93 = .ok (.ireturn, 1) := by decide +kernel
def f_X12_strip (M : MM) (p1 : Int) (p2 : Int) : Option (Int × MM) :=
bM (upM M 88 2 0) fun M1 =>
(f_X12_isRoom M1 p1).bind fun x2 =>
if x2 = 0 then
(some ((-1), M1))
else
(f_X12_isIn M1 p2 1 99).bind fun x4 =>
if x4 = 0 then
(some ((-1), M1))
else
(f_X12_layStill M1 (M1 121 0)).bind fun x6 =>
(f_X12_goMany x6 p2).bind fun x7 =>
bI (x7 124 1) fun x8 =>
(f_X12_layStill x7 (x7 121 0)).bind fun x9 =>
bM (upM x9 88 74 p1) fun M10 =>
(f_X12_goMany M10 p2).bind fun x11 =>
(f_X12_plainTried x11).bind fun x12 =>
if (x12 124 1) < x8 then
(some (w32 (x8 - (x12 124 1)), x12))
else
some (0, x12)
set_option maxRecDepth 4000 in
theorem c_X12_strip {E : EE} {sh : List (Nat × Nat)} {ex : Bool} {R : RM} {M : MM} {p1 : Int} {p2 : Int} (hE : Ext sh) (hL : Links R) : ∀ y, f_X12_strip M p1 p2 = some y → MetC E m_X12_strip 0 0 [rV 88, iV p1, iV p2] (sh, ex, R, M) (fun r w' => r = some (iV y.1) ∧ w' = (sh, ex, R, y.2)) := by
  intro y hy
  refine MetC.seg (o := f_X12_strip M p1 p2) (t := (fun K y => K (some (iV y.1)) (sh, ex, R, y.2))) (L := [some (rV 88), some (iV p1), some (iV p2), none]) (by decide) rfl (Nat.le_of_ble_eq_true rfl) ?_ hy ⟨rfl, rfl⟩
  unfold f_X12_strip
  refine Seg.step (pc' := 1) (I_aload_n (i := 0) dX12_strip_0 rfl rfl) ?_
  refine Seg.step (pc' := 2) (I_iconst dX12_strip_1 ⟨by decide, by decide⟩) ?_
  refine Seg.step (pc' := 5) (I_putI cls12 (by decide) wf_12_175 (hE _ _ sk_12) rfl rfl dX12_strip_2) ?_
  refine S_bM fun M1 => ?_
  refine Seg.step (pc' := 6) (I_aload_n (i := 0) dX12_strip_5 rfl rfl) ?_
  refine Seg.step (pc' := 7) (I_iload_n (i := 1) dX12_strip_6 rfl rfl) ?_
  refine S_callV1 (md' := m_X12_isRoom) (fun y => some (iV y)) (fun y => (sh, ex, R, M1)) (hE _ _ sk_12) ⟨by decide, rfl⟩ mm_X12_isRoom wm_12_488 ⟨rfl, rfl, by decide, by decide, by decide, by decide⟩ (Nat.le_of_ble_eq_true rfl) dX12_strip_7 (fun y hy => c_X12_isRoom hE hL y hy) (fun x2 => ?_)
  refine S_if_eq (tgt := 23) dX12_strip_10 (by decide) (fun h3 => ?_) (fun h3 => ?_)
  · refine Seg.step (pc' := 24) (I_iconst dX12_strip_23 ⟨by decide, by decide⟩) ?_
    exact S_iret dX12_strip_24 rfl (by decide) (by decide) (fun K hK => hK)
  refine Seg.step (pc' := 14) (I_iload_n (i := 2) dX12_strip_13 rfl rfl) ?_
  refine Seg.step (pc' := 15) (I_iconst dX12_strip_14 ⟨by decide, by decide⟩) ?_
  refine Seg.step (pc' := 17) (I_bipush dX12_strip_15 (by decide) ⟨by decide, by decide⟩) ?_
  refine S_callS3 (md' := m_X12_isIn) (fun y => some (iV y)) (fun y => (sh, ex, R, M1)) mm_X12_isIn wm_12_220 ⟨rfl, rfl, by decide, by decide, by decide, by decide⟩ (Nat.le_of_ble_eq_true rfl) dX12_strip_17 (fun y hy => c_X12_isIn hE hL y hy) (fun x4 => ?_)
  refine S_if_ne (tgt := 25) dX12_strip_20 (by decide) (fun h5 => ?_) (fun h5 => ?_)
  · refine Seg.step (pc' := 24) (I_iconst dX12_strip_23 ⟨by decide, by decide⟩) ?_
    exact S_iret dX12_strip_24 rfl (by decide) (by decide) (fun K hK => hK)
  refine Seg.step (pc' := 26) (I_aload_n (i := 0) dX12_strip_25 rfl rfl) ?_
  refine Seg.step (pc' := 27) (I_aload_n (i := 0) dX12_strip_26 rfl rfl) ?_
  refine Seg.step (pc' := 30) (I_getR cls12 (by decide) wf_12_112 (hE _ _ sk_12) rfl (lk_12_59 hL) dX12_strip_27) ?_
  refine Seg.step (pc' := 31) (I_iconst dX12_strip_30 ⟨by decide, by decide⟩) ?_
  refine Seg.step (pc' := 32) (I_iald (hE _ _ sk_12_59) ⟨by decide, by decide⟩ dX12_strip_31) ?_
  refine S_callV1 (md' := m_X12_layStill) (fun y => none) (fun y => (sh, ex, R, y)) (hE _ _ sk_12) ⟨by decide, rfl⟩ mm_X12_layStill wm_12_505 ⟨rfl, rfl, by decide, by decide, by decide, by decide⟩ (Nat.le_of_ble_eq_true rfl) dX12_strip_32 (fun y hy => c_X12_layStill hE hL y hy) (fun x6 => ?_)
  refine Seg.step (pc' := 36) (I_aload_n (i := 0) dX12_strip_35 rfl rfl) ?_
  refine Seg.step (pc' := 37) (I_iload_n (i := 2) dX12_strip_36 rfl rfl) ?_
  refine S_callV1 (md' := m_X12_goMany) (fun y => none) (fun y => (sh, ex, R, y)) (hE _ _ sk_12) ⟨by decide, rfl⟩ mm_X12_goMany wm_12_499 ⟨rfl, rfl, by decide, by decide, by decide, by decide⟩ (Nat.le_of_ble_eq_true rfl) dX12_strip_37 (fun y hy => c_X12_goMany hE hL y hy) (fun x7 => ?_)
  refine Seg.step (pc' := 41) (I_aload_n (i := 0) dX12_strip_40 rfl rfl) ?_
  refine Seg.step (pc' := 44) (I_getR cls12 (by decide) wf_12_121 (hE _ _ sk_12) rfl (lk_12_62 hL) dX12_strip_41) ?_
  refine Seg.step (pc' := 45) (I_iconst dX12_strip_44 ⟨by decide, by decide⟩) ?_
  refine Seg.step (pc' := 46) (I_iald (hE _ _ sk_12_62) ⟨by decide, by decide⟩ dX12_strip_45) ?_
  refine S_bI fun x8 => ?_
  refine Seg.step (pc' := 47) (I_istore_n (i := 3) dX12_strip_46 rfl (by decide) rfl) ?_
  refine Seg.step (pc' := 48) (I_aload_n (i := 0) dX12_strip_47 rfl rfl) ?_
  refine Seg.step (pc' := 49) (I_aload_n (i := 0) dX12_strip_48 rfl rfl) ?_
  refine Seg.step (pc' := 52) (I_getR cls12 (by decide) wf_12_112 (hE _ _ sk_12) rfl (lk_12_59 hL) dX12_strip_49) ?_
  refine Seg.step (pc' := 53) (I_iconst dX12_strip_52 ⟨by decide, by decide⟩) ?_
  refine Seg.step (pc' := 54) (I_iald (hE _ _ sk_12_59) ⟨by decide, by decide⟩ dX12_strip_53) ?_
  refine S_callV1 (md' := m_X12_layStill) (fun y => none) (fun y => (sh, ex, R, y)) (hE _ _ sk_12) ⟨by decide, rfl⟩ mm_X12_layStill wm_12_505 ⟨rfl, rfl, by decide, by decide, by decide, by decide⟩ (Nat.le_of_ble_eq_true rfl) dX12_strip_54 (fun y hy => c_X12_layStill hE hL y hy) (fun x9 => ?_)
  refine Seg.step (pc' := 58) (I_aload_n (i := 0) dX12_strip_57 rfl rfl) ?_
  refine Seg.step (pc' := 59) (I_iload_n (i := 1) dX12_strip_58 rfl rfl) ?_
  refine Seg.step (pc' := 62) (I_putI cls12 (by decide) wf_12_412 (hE _ _ sk_12) rfl rfl dX12_strip_59) ?_
  refine S_bM fun M10 => ?_
  refine Seg.step (pc' := 63) (I_aload_n (i := 0) dX12_strip_62 rfl rfl) ?_
  refine Seg.step (pc' := 64) (I_iload_n (i := 2) dX12_strip_63 rfl rfl) ?_
  refine S_callV1 (md' := m_X12_goMany) (fun y => none) (fun y => (sh, ex, R, y)) (hE _ _ sk_12) ⟨by decide, rfl⟩ mm_X12_goMany wm_12_499 ⟨rfl, rfl, by decide, by decide, by decide, by decide⟩ (Nat.le_of_ble_eq_true rfl) dX12_strip_64 (fun y hy => c_X12_goMany hE hL y hy) (fun x11 => ?_)
  refine Seg.step (pc' := 68) (I_aload_n (i := 0) dX12_strip_67 rfl rfl) ?_
  refine S_callV0 (md' := m_X12_plainTried) (fun y => none) (fun y => (sh, ex, R, y)) (hE _ _ sk_12) ⟨by decide, rfl⟩ mm_X12_plainTried wm_12_385 ⟨rfl, rfl, by decide, by decide, by decide, by decide⟩ (Nat.le_of_ble_eq_true rfl) dX12_strip_68 (fun y hy => c_X12_plainTried hE hL y hy) (fun x12 => ?_)
  refine Seg.step (pc' := 72) (I_iload_n (i := 3) dX12_strip_71 rfl rfl) ?_
  refine Seg.step (pc' := 73) (I_aload_n (i := 0) dX12_strip_72 rfl rfl) ?_
  refine Seg.step (pc' := 76) (I_getR cls12 (by decide) wf_12_121 (hE _ _ sk_12) rfl (lk_12_62 hL) dX12_strip_73) ?_
  refine Seg.step (pc' := 77) (I_iconst dX12_strip_76 ⟨by decide, by decide⟩) ?_
  refine Seg.step (pc' := 78) (I_iald (hE _ _ sk_12_62) ⟨by decide, by decide⟩ dX12_strip_77) ?_
  refine S_icmp_le (tgt := 92) dX12_strip_78 (by decide) (fun h13 => ?_) (fun h13 => ?_)
  · refine Seg.step (pc' := 82) (I_iload_n (i := 3) dX12_strip_81 rfl rfl) ?_
    refine Seg.step (pc' := 83) (I_aload_n (i := 0) dX12_strip_82 rfl rfl) ?_
    refine Seg.step (pc' := 86) (I_getR cls12 (by decide) wf_12_121 (hE _ _ sk_12) rfl (lk_12_62 hL) dX12_strip_83) ?_
    refine Seg.step (pc' := 87) (I_iconst dX12_strip_86 ⟨by decide, by decide⟩) ?_
    refine Seg.step (pc' := 88) (I_iald (hE _ _ sk_12_62) ⟨by decide, by decide⟩ dX12_strip_87) ?_
    refine Seg.step (pc' := 89) (I_isub dX12_strip_88) ?_
    refine Seg.step (pc' := 93) (I_goto (tgt := 93) dX12_strip_89 (by decide)) ?_
    exact S_iret dX12_strip_93 rfl (by decide) (by decide) (fun K hK => hK)
  refine Seg.step (pc' := 93) (I_iconst dX12_strip_92 ⟨by decide, by decide⟩) ?_
  exact S_iret dX12_strip_93 rfl (by decide) (by decide) (fun K hK => hK)
theorem dX12_learn_0 : decode cX12_learn 0 = .ok (.aload_n 0, 1) := by decide +kernel
theorem dX12_learn_1 : decode cX12_learn 1 = .ok (.iconst 0, 1) := by decide +kernel
theorem dX12_learn_2 : decode cX12_learn 2 = .ok (.putfield 175, 3) := by decide +kernel
theorem dX12_learn_5 : decode cX12_learn 5 = .ok (.iload_n 1, 1) := by decide +kernel
theorem dX12_learn_6 : decode cX12_learn 6 = .ok (.iconst 0, 1) := by decide +kernel
theorem dX12_learn_7 : decode cX12_learn 7 = .ok (.bipush 23, 2) := by decide +kernel
theorem dX12_learn_9 : decode cX12_learn 9 = .ok (.invokestatic 220, 3) := by decide +kernel
theorem dX12_learn_12 : decode cX12_learn 12 = .ok (.ifCond .ne 5, 3) := by decide +kernel
theorem dX12_learn_15 : decode cX12_learn 15 = .ok (.iconst (-1), 1) := by decide +kernel
theorem dX12_learn_16 : decode cX12_learn 16 = .ok (.ireturn, 1) := by decide +kernel
theorem dX12_learn_17 : decode cX12_learn 17 = .ok (.aload_n 0, 1) := by decide +kernel
theorem dX12_learn_18 : decode cX12_learn 18 = .ok (.getfield 136, 3) := by decide +kernel
theorem dX12_learn_21 : decode cX12_learn 21 = .ok (.iload_n 1, 1) := by decide +kernel
theorem dX12_learn_22 : decode cX12_learn 22 = .ok (.iaload, 1) := by decide +kernel
theorem dX12_learn_23 : decode cX12_learn 23 = .ok (.ifCond .ne 8, 3) := by decide +kernel
theorem dX12_learn_26 : decode cX12_learn 26 = .ok (.bipush (-2), 2) := by decide +kernel
theorem dX12_learn_28 : decode cX12_learn 28 = .ok (.goto 16, 3) := by decide +kernel
theorem dX12_learn_31 : decode cX12_learn 31 = .ok (.aload_n 0, 1) := by decide +kernel
theorem dX12_learn_32 : decode cX12_learn 32 = .ok (.getfield 133, 3) := by decide +kernel
theorem dX12_learn_35 : decode cX12_learn 35 = .ok (.iload_n 1, 1) := by decide +kernel
theorem dX12_learn_36 : decode cX12_learn 36 = .ok (.iaload, 1) := by decide +kernel
theorem dX12_learn_37 : decode cX12_learn 37 = .ok (.aload_n 0, 1) := by decide +kernel
theorem dX12_learn_38 : decode cX12_learn 38 = .ok (.getfield 136, 3) := by decide +kernel
theorem dX12_learn_41 : decode cX12_learn 41 = .ok (.iload_n 1, 1) := by decide +kernel
theorem dX12_learn_42 : decode cX12_learn 42 = .ok (.iaload, 1) := by decide +kernel
theorem dX12_learn_43 : decode cX12_learn 43 = .ok (.idiv, 1) := by decide +kernel
theorem dX12_learn_44 : decode cX12_learn 44 = .ok (.ireturn, 1) := by decide +kernel
def f_X12_learn (M : MM) (p1 : Int) : Option (Int × MM) :=
bM (upM M 88 2 0) fun M1 =>
(f_X12_isIn M1 p1 0 23).bind fun x2 =>
if x2 = 0 then
(some ((-1), M1))
else
gd (0 ≤ p1 ∧ p1 < (24 : Int)) <|
if (M1 129 (p1).toNat) = 0 then
(some ((-2), M1))
else
gd (0 ≤ p1 ∧ p1 < (24 : Int)) <|
gd (0 ≤ p1 ∧ p1 < (24 : Int)) <|
gd (M1 129 (p1).toNat ≠ 0) <|
some (w32 (Int.tdiv (M1 128 (p1).toNat) (M1 129 (p1).toNat)), M1)
set_option maxRecDepth 4000 in
theorem c_X12_learn {E : EE} {sh : List (Nat × Nat)} {ex : Bool} {R : RM} {M : MM} {p1 : Int} (hE : Ext sh) (hL : Links R) : ∀ y, f_X12_learn M p1 = some y → MetC E m_X12_learn 0 0 [rV 88, iV p1] (sh, ex, R, M) (fun r w' => r = some (iV y.1) ∧ w' = (sh, ex, R, y.2)) := by
  intro y hy
  refine MetC.seg (o := f_X12_learn M p1) (t := (fun K y => K (some (iV y.1)) (sh, ex, R, y.2))) (L := [some (rV 88), some (iV p1)]) (by decide) rfl (Nat.le_of_ble_eq_true rfl) ?_ hy ⟨rfl, rfl⟩
  unfold f_X12_learn
  refine Seg.step (pc' := 1) (I_aload_n (i := 0) dX12_learn_0 rfl rfl) ?_
  refine Seg.step (pc' := 2) (I_iconst dX12_learn_1 ⟨by decide, by decide⟩) ?_
  refine Seg.step (pc' := 5) (I_putI cls12 (by decide) wf_12_175 (hE _ _ sk_12) rfl rfl dX12_learn_2) ?_
  refine S_bM fun M1 => ?_
  refine Seg.step (pc' := 6) (I_iload_n (i := 1) dX12_learn_5 rfl rfl) ?_
  refine Seg.step (pc' := 7) (I_iconst dX12_learn_6 ⟨by decide, by decide⟩) ?_
  refine Seg.step (pc' := 9) (I_bipush dX12_learn_7 (by decide) ⟨by decide, by decide⟩) ?_
  refine S_callS3 (md' := m_X12_isIn) (fun y => some (iV y)) (fun y => (sh, ex, R, M1)) mm_X12_isIn wm_12_220 ⟨rfl, rfl, by decide, by decide, by decide, by decide⟩ (Nat.le_of_ble_eq_true rfl) dX12_learn_9 (fun y hy => c_X12_isIn hE hL y hy) (fun x2 => ?_)
  refine S_if_ne (tgt := 17) dX12_learn_12 (by decide) (fun h3 => ?_) (fun h3 => ?_)
  · refine Seg.step (pc' := 16) (I_iconst dX12_learn_15 ⟨by decide, by decide⟩) ?_
    exact S_iret dX12_learn_16 rfl (by decide) (by decide) (fun K hK => hK)
  refine Seg.step (pc' := 18) (I_aload_n (i := 0) dX12_learn_17 rfl rfl) ?_
  refine Seg.step (pc' := 21) (I_getR cls12 (by decide) wf_12_136 (hE _ _ sk_12) rfl (lk_12_67 hL) dX12_learn_18) ?_
  refine Seg.step (pc' := 22) (I_iload_n (i := 1) dX12_learn_21 rfl rfl) ?_
  refine S_gd fun h4 => ?_
  refine Seg.step (pc' := 23) (I_iald (hE _ _ sk_12_67) h4 dX12_learn_22) ?_
  refine S_if_ne (tgt := 31) dX12_learn_23 (by decide) (fun h5 => ?_) (fun h5 => ?_)
  · refine Seg.step (pc' := 28) (I_bipush dX12_learn_26 (by decide) ⟨by decide, by decide⟩) ?_
    refine Seg.step (pc' := 44) (I_goto (tgt := 44) dX12_learn_28 (by decide)) ?_
    exact S_iret dX12_learn_44 rfl (by decide) (by decide) (fun K hK => hK)
  refine Seg.step (pc' := 32) (I_aload_n (i := 0) dX12_learn_31 rfl rfl) ?_
  refine Seg.step (pc' := 35) (I_getR cls12 (by decide) wf_12_133 (hE _ _ sk_12) rfl (lk_12_66 hL) dX12_learn_32) ?_
  refine Seg.step (pc' := 36) (I_iload_n (i := 1) dX12_learn_35 rfl rfl) ?_
  refine S_gd fun h6 => ?_
  refine Seg.step (pc' := 37) (I_iald (hE _ _ sk_12_66) h6 dX12_learn_36) ?_
  refine Seg.step (pc' := 38) (I_aload_n (i := 0) dX12_learn_37 rfl rfl) ?_
  refine Seg.step (pc' := 41) (I_getR cls12 (by decide) wf_12_136 (hE _ _ sk_12) rfl (lk_12_67 hL) dX12_learn_38) ?_
  refine Seg.step (pc' := 42) (I_iload_n (i := 1) dX12_learn_41 rfl rfl) ?_
  refine S_gd fun h7 => ?_
  refine Seg.step (pc' := 43) (I_iald (hE _ _ sk_12_67) h7 dX12_learn_42) ?_
  refine S_gd fun h8 => ?_
  refine Seg.step (pc' := 44) (I_idiv dX12_learn_43 h8) ?_
  exact S_iret dX12_learn_44 rfl (by decide) (by decide) (fun K hK => hK)
theorem dX12_turnsOf_0 : decode cX12_turnsOf 0 = .ok (.aload_n 0, 1) := by decide +kernel
theorem dX12_turnsOf_1 : decode cX12_turnsOf 1 = .ok (.iconst 0, 1) := by decide +kernel
theorem dX12_turnsOf_2 : decode cX12_turnsOf 2 = .ok (.putfield 175, 3) := by decide +kernel
theorem dX12_turnsOf_5 : decode cX12_turnsOf 5 = .ok (.aload_n 0, 1) := by decide +kernel
theorem dX12_turnsOf_6 : decode cX12_turnsOf 6 = .ok (.iload_n 1, 1) := by decide +kernel
theorem dX12_turnsOf_7 : decode cX12_turnsOf 7 = .ok (.invokevirtual 482, 3) := by decide +kernel
theorem dX12_turnsOf_10 : decode cX12_turnsOf 10 = .ok (.ifCond .eq 14, 3) := by decide +kernel
theorem dX12_turnsOf_13 : decode cX12_turnsOf 13 = .ok (.iload_n 2, 1) := by decide +kernel
theorem dX12_turnsOf_14 : decode cX12_turnsOf 14 = .ok (.iconst 0, 1) := by decide +kernel
theorem dX12_turnsOf_15 : decode cX12_turnsOf 15 = .ok (.sipush 200, 3) := by decide +kernel
theorem dX12_turnsOf_18 : decode cX12_turnsOf 18 = .ok (.invokestatic 220, 3) := by decide +kernel
theorem dX12_turnsOf_21 : decode cX12_turnsOf 21 = .ok (.ifCond .ne 5, 3) := by decide +kernel
theorem dX12_turnsOf_24 : decode cX12_turnsOf 24 = .ok (.iconst (-1), 1) := by decide +kernel
theorem dX12_turnsOf_25 : decode cX12_turnsOf 25 = .ok (.ireturn, 1) := by decide +kernel
theorem dX12_turnsOf_26 : decode cX12_turnsOf 26 = .ok (.iload_n 2, 1) := by decide +kernel
theorem dX12_turnsOf_27 : decode cX12_turnsOf 27 = .ok (.ifCond .ne 10, 3) := by decide +kernel
theorem dX12_turnsOf_30 : decode cX12_turnsOf 30 = .ok (.aload_n 0, 1) := by decide +kernel
theorem dX12_turnsOf_31 : decode cX12_turnsOf 31 = .ok (.getfield 106, 3) := by decide +kernel
theorem dX12_turnsOf_34 : decode cX12_turnsOf 34 = .ok (.iload_n 1, 1) := by decide +kernel
theorem dX12_turnsOf_35 : decode cX12_turnsOf 35 = .ok (.iaload, 1) := by decide +kernel
theorem dX12_turnsOf_36 : decode cX12_turnsOf 36 = .ok (.ireturn, 1) := by decide +kernel
theorem dX12_turnsOf_37 : decode cX12_turnsOf 37 = .ok (.aload_n 0, 1) := by decide +kernel
theorem dX12_turnsOf_38 : decode cX12_turnsOf 38 = .ok (.invokevirtual 430, 3) := by decide +kernel
theorem dX12_turnsOf_41 : decode cX12_turnsOf 41 = .ok (.aload_n 0, 1) := by decide +kernel
theorem dX12_turnsOf_42 : decode cX12_turnsOf 42 = .ok (.iload_n 2, 1) := by decide +kernel
theorem dX12_turnsOf_43 : decode cX12_turnsOf 43 = .ok (.invokevirtual 499, 3) := by decide +kernel
theorem dX12_turnsOf_46 : decode cX12_turnsOf 46 = .ok (.aload_n 0, 1) := by decide +kernel
theorem dX12_turnsOf_47 : decode cX12_turnsOf 47 = .ok (.getfield 106, 3) := by decide +kernel
theorem dX12_turnsOf_50 : decode cX12_turnsOf 50 = .ok (.iconst 5, 1) := by decide +kernel
theorem dX12_turnsOf_51 : decode cX12_turnsOf 51 = .ok (.iload_n 1, 1) := by decide +kernel
theorem dX12_turnsOf_52 : decode cX12_turnsOf 52 = .ok (.iadd, 1) := by decide +kernel
theorem dX12_turnsOf_53 : decode cX12_turnsOf 53 = .ok (.iaload, 1) := by decide +kernel
theorem dX12_turnsOf_54 : decode cX12_turnsOf 54 = .ok (.aload_n 0, 1) := by decide +kernel
theorem dX12_turnsOf_55 : decode cX12_turnsOf 55 = .ok (.getfield 106, 3) := by decide +kernel
theorem dX12_turnsOf_58 : decode cX12_turnsOf 58 = .ok (.iload_n 1, 1) := by decide +kernel
theorem dX12_turnsOf_59 : decode cX12_turnsOf 59 = .ok (.iaload, 1) := by decide +kernel
theorem dX12_turnsOf_60 : decode cX12_turnsOf 60 = .ok (.isub, 1) := by decide +kernel
theorem dX12_turnsOf_61 : decode cX12_turnsOf 61 = .ok (.ireturn, 1) := by decide +kernel
def f_X12_turnsOf (M : MM) (p1 : Int) (p2 : Int) : Option (Int × MM) :=
bM (upM M 88 2 0) fun M1 =>
(f_X12_isPerson M1 p1).bind fun x2 =>
if x2 = 0 then
(some ((-1), M1))
else
(f_X12_isIn M1 p2 0 200).bind fun x4 =>
if x4 = 0 then
(some ((-1), M1))
else
if p2 = 0 then
(gd (0 ≤ p1 ∧ p1 < (10 : Int)) <|
some (M1 119 (p1).toNat, M1))
else
(f_X12_layTried M1).bind fun x8 =>
(f_X12_goMany x8 p2).bind fun x9 =>
gd (0 ≤ w32 (5 + p1) ∧ w32 (5 + p1) < (10 : Int)) <|
gd (0 ≤ p1 ∧ p1 < (10 : Int)) <|
some (w32 ((x9 119 (w32 (5 + p1)).toNat) - (x9 119 (p1).toNat)), x9)
set_option maxRecDepth 4000 in
theorem c_X12_turnsOf {E : EE} {sh : List (Nat × Nat)} {ex : Bool} {R : RM} {M : MM} {p1 : Int} {p2 : Int} (hE : Ext sh) (hL : Links R) : ∀ y, f_X12_turnsOf M p1 p2 = some y → MetC E m_X12_turnsOf 0 0 [rV 88, iV p1, iV p2] (sh, ex, R, M) (fun r w' => r = some (iV y.1) ∧ w' = (sh, ex, R, y.2)) := by
  intro y hy
  refine MetC.seg (o := f_X12_turnsOf M p1 p2) (t := (fun K y => K (some (iV y.1)) (sh, ex, R, y.2))) (L := [some (rV 88), some (iV p1), some (iV p2)]) (by decide) rfl (Nat.le_of_ble_eq_true rfl) ?_ hy ⟨rfl, rfl⟩
  unfold f_X12_turnsOf
  refine Seg.step (pc' := 1) (I_aload_n (i := 0) dX12_turnsOf_0 rfl rfl) ?_
  refine Seg.step (pc' := 2) (I_iconst dX12_turnsOf_1 ⟨by decide, by decide⟩) ?_
  refine Seg.step (pc' := 5) (I_putI cls12 (by decide) wf_12_175 (hE _ _ sk_12) rfl rfl dX12_turnsOf_2) ?_
  refine S_bM fun M1 => ?_
  refine Seg.step (pc' := 6) (I_aload_n (i := 0) dX12_turnsOf_5 rfl rfl) ?_
  refine Seg.step (pc' := 7) (I_iload_n (i := 1) dX12_turnsOf_6 rfl rfl) ?_
  refine S_callV1 (md' := m_X12_isPerson) (fun y => some (iV y)) (fun y => (sh, ex, R, M1)) (hE _ _ sk_12) ⟨by decide, rfl⟩ mm_X12_isPerson wm_12_482 ⟨rfl, rfl, by decide, by decide, by decide, by decide⟩ (Nat.le_of_ble_eq_true rfl) dX12_turnsOf_7 (fun y hy => c_X12_isPerson hE hL y hy) (fun x2 => ?_)
  refine S_if_eq (tgt := 24) dX12_turnsOf_10 (by decide) (fun h3 => ?_) (fun h3 => ?_)
  · refine Seg.step (pc' := 25) (I_iconst dX12_turnsOf_24 ⟨by decide, by decide⟩) ?_
    exact S_iret dX12_turnsOf_25 rfl (by decide) (by decide) (fun K hK => hK)
  refine Seg.step (pc' := 14) (I_iload_n (i := 2) dX12_turnsOf_13 rfl rfl) ?_
  refine Seg.step (pc' := 15) (I_iconst dX12_turnsOf_14 ⟨by decide, by decide⟩) ?_
  refine Seg.step (pc' := 18) (I_sipush dX12_turnsOf_15 (by decide) ⟨by decide, by decide⟩) ?_
  refine S_callS3 (md' := m_X12_isIn) (fun y => some (iV y)) (fun y => (sh, ex, R, M1)) mm_X12_isIn wm_12_220 ⟨rfl, rfl, by decide, by decide, by decide, by decide⟩ (Nat.le_of_ble_eq_true rfl) dX12_turnsOf_18 (fun y hy => c_X12_isIn hE hL y hy) (fun x4 => ?_)
  refine S_if_ne (tgt := 26) dX12_turnsOf_21 (by decide) (fun h5 => ?_) (fun h5 => ?_)
  · refine Seg.step (pc' := 25) (I_iconst dX12_turnsOf_24 ⟨by decide, by decide⟩) ?_
    exact S_iret dX12_turnsOf_25 rfl (by decide) (by decide) (fun K hK => hK)
  refine Seg.step (pc' := 27) (I_iload_n (i := 2) dX12_turnsOf_26 rfl rfl) ?_
  refine S_if_ne (tgt := 37) dX12_turnsOf_27 (by decide) (fun h6 => ?_) (fun h6 => ?_)
  · refine Seg.step (pc' := 31) (I_aload_n (i := 0) dX12_turnsOf_30 rfl rfl) ?_
    refine Seg.step (pc' := 34) (I_getR cls12 (by decide) wf_12_106 (hE _ _ sk_12) rfl (lk_12_57 hL) dX12_turnsOf_31) ?_
    refine Seg.step (pc' := 35) (I_iload_n (i := 1) dX12_turnsOf_34 rfl rfl) ?_
    refine S_gd fun h7 => ?_
    refine Seg.step (pc' := 36) (I_iald (hE _ _ sk_12_57) h7 dX12_turnsOf_35) ?_
    exact S_iret dX12_turnsOf_36 rfl (by decide) (by decide) (fun K hK => hK)
  refine Seg.step (pc' := 38) (I_aload_n (i := 0) dX12_turnsOf_37 rfl rfl) ?_
  refine S_callV0 (md' := m_X12_layTried) (fun y => none) (fun y => (sh, ex, R, y)) (hE _ _ sk_12) ⟨by decide, rfl⟩ mm_X12_layTried wm_12_430 ⟨rfl, rfl, by decide, by decide, by decide, by decide⟩ (Nat.le_of_ble_eq_true rfl) dX12_turnsOf_38 (fun y hy => c_X12_layTried hE hL y hy) (fun x8 => ?_)
  refine Seg.step (pc' := 42) (I_aload_n (i := 0) dX12_turnsOf_41 rfl rfl) ?_
  refine Seg.step (pc' := 43) (I_iload_n (i := 2) dX12_turnsOf_42 rfl rfl) ?_
  refine S_callV1 (md' := m_X12_goMany) (fun y => none) (fun y => (sh, ex, R, y)) (hE _ _ sk_12) ⟨by decide, rfl⟩ mm_X12_goMany wm_12_499 ⟨rfl, rfl, by decide, by decide, by decide, by decide⟩ (Nat.le_of_ble_eq_true rfl) dX12_turnsOf_43 (fun y hy => c_X12_goMany hE hL y hy) (fun x9 => ?_)
  refine Seg.step (pc' := 47) (I_aload_n (i := 0) dX12_turnsOf_46 rfl rfl) ?_
  refine Seg.step (pc' := 50) (I_getR cls12 (by decide) wf_12_106 (hE _ _ sk_12) rfl (lk_12_57 hL) dX12_turnsOf_47) ?_
  refine Seg.step (pc' := 51) (I_iconst dX12_turnsOf_50 ⟨by decide, by decide⟩) ?_
  refine Seg.step (pc' := 52) (I_iload_n (i := 1) dX12_turnsOf_51 rfl rfl) ?_
  refine Seg.step (pc' := 53) (I_iadd dX12_turnsOf_52) ?_
  refine S_gd fun h10 => ?_
  refine Seg.step (pc' := 54) (I_iald (hE _ _ sk_12_57) h10 dX12_turnsOf_53) ?_
  refine Seg.step (pc' := 55) (I_aload_n (i := 0) dX12_turnsOf_54 rfl rfl) ?_
  refine Seg.step (pc' := 58) (I_getR cls12 (by decide) wf_12_106 (hE _ _ sk_12) rfl (lk_12_57 hL) dX12_turnsOf_55) ?_
  refine Seg.step (pc' := 59) (I_iload_n (i := 1) dX12_turnsOf_58 rfl rfl) ?_
  refine S_gd fun h11 => ?_
  refine Seg.step (pc' := 60) (I_iald (hE _ _ sk_12_57) h11 dX12_turnsOf_59) ?_
  refine Seg.step (pc' := 61) (I_isub dX12_turnsOf_60) ?_
  exact S_iret dX12_turnsOf_61 rfl (by decide) (by decide) (fun K hK => hK)
theorem dX12_spreadIn_0 : decode cX12_spreadIn 0 = .ok (.iconst 0, 1) := by decide +kernel
theorem dX12_spreadIn_1 : decode cX12_spreadIn 1 = .ok (.istore_n 2, 1) := by decide +kernel
theorem dX12_spreadIn_2 : decode cX12_spreadIn 2 = .ok (.sipush 600, 3) := by decide +kernel
theorem dX12_spreadIn_5 : decode cX12_spreadIn 5 = .ok (.istore_n 3, 1) := by decide +kernel
theorem dX12_spreadIn_6 : decode cX12_spreadIn 6 = .ok (.iconst 0, 1) := by decide +kernel
theorem dX12_spreadIn_7 : decode cX12_spreadIn 7 = .ok (.istore 4, 2) := by decide +kernel
theorem dX12_spreadIn_9 : decode cX12_spreadIn 9 = .ok (.iload 4, 2) := by decide +kernel
theorem dX12_spreadIn_11 : decode cX12_spreadIn 11 = .ok (.aload_n 0, 1) := by decide +kernel
theorem dX12_spreadIn_12 : decode cX12_spreadIn 12 = .ok (.getfield 255, 3) := by decide +kernel
theorem dX12_spreadIn_15 : decode cX12_spreadIn 15 = .ok (.if_icmp .ge 71, 3) := by decide +kernel
theorem dX12_spreadIn_18 : decode cX12_spreadIn 18 = .ok (.aload_n 0, 1) := by decide +kernel
theorem dX12_spreadIn_19 : decode cX12_spreadIn 19 = .ok (.getfield 97, 3) := by decide +kernel
theorem dX12_spreadIn_22 : decode cX12_spreadIn 22 = .ok (.iconst 5, 1) := by decide +kernel
theorem dX12_spreadIn_23 : decode cX12_spreadIn 23 = .ok (.iload_n 1, 1) := by decide +kernel
theorem dX12_spreadIn_24 : decode cX12_spreadIn 24 = .ok (.imul, 1) := by decide +kernel
theorem dX12_spreadIn_25 : decode cX12_spreadIn 25 = .ok (.iload 4, 2) := by decide +kernel
theorem dX12_spreadIn_27 : decode cX12_spreadIn 27 = .ok (.iadd, 1) := by decide +kernel
theorem dX12_spreadIn_28 : decode cX12_spreadIn 28 = .ok (.iaload, 1) := by decide +kernel
theorem dX12_spreadIn_29 : decode cX12_spreadIn 29 = .ok (.iload_n 2, 1) := by decide +kernel
theorem dX12_spreadIn_30 : decode cX12_spreadIn 30 = .ok (.if_icmp .le 17, 3) := by decide +kernel
theorem dX12_spreadIn_33 : decode cX12_spreadIn 33 = .ok (.aload_n 0, 1) := by decide +kernel
theorem dX12_spreadIn_34 : decode cX12_spreadIn 34 = .ok (.getfield 97, 3) := by decide +kernel
theorem dX12_spreadIn_37 : decode cX12_spreadIn 37 = .ok (.iconst 5, 1) := by decide +kernel
theorem dX12_spreadIn_38 : decode cX12_spreadIn 38 = .ok (.iload_n 1, 1) := by decide +kernel
theorem dX12_spreadIn_39 : decode cX12_spreadIn 39 = .ok (.imul, 1) := by decide +kernel
theorem dX12_spreadIn_40 : decode cX12_spreadIn 40 = .ok (.iload 4, 2) := by decide +kernel
theorem dX12_spreadIn_42 : decode cX12_spreadIn 42 = .ok (.iadd, 1) := by decide +kernel
theorem dX12_spreadIn_43 : decode cX12_spreadIn 43 = .ok (.iaload, 1) := by decide +kernel
theorem dX12_spreadIn_44 : decode cX12_spreadIn 44 = .ok (.goto 4, 3) := by decide +kernel
theorem dX12_spreadIn_47 : decode cX12_spreadIn 47 = .ok (.iload_n 2, 1) := by decide +kernel
theorem dX12_spreadIn_48 : decode cX12_spreadIn 48 = .ok (.istore_n 2, 1) := by decide +kernel
theorem dX12_spreadIn_49 : decode cX12_spreadIn 49 = .ok (.aload_n 0, 1) := by decide +kernel
theorem dX12_spreadIn_50 : decode cX12_spreadIn 50 = .ok (.getfield 97, 3) := by decide +kernel
theorem dX12_spreadIn_53 : decode cX12_spreadIn 53 = .ok (.iconst 5, 1) := by decide +kernel
theorem dX12_spreadIn_54 : decode cX12_spreadIn 54 = .ok (.iload_n 1, 1) := by decide +kernel
theorem dX12_spreadIn_55 : decode cX12_spreadIn 55 = .ok (.imul, 1) := by decide +kernel
theorem dX12_spreadIn_56 : decode cX12_spreadIn 56 = .ok (.iload 4, 2) := by decide +kernel
theorem dX12_spreadIn_58 : decode cX12_spreadIn 58 = .ok (.iadd, 1) := by decide +kernel
theorem dX12_spreadIn_59 : decode cX12_spreadIn 59 = .ok (.iaload, 1) := by decide +kernel
theorem dX12_spreadIn_60 : decode cX12_spreadIn 60 = .ok (.iload_n 3, 1) := by decide +kernel
theorem dX12_spreadIn_61 : decode cX12_spreadIn 61 = .ok (.if_icmp .ge 17, 3) := by decide +kernel
theorem dX12_spreadIn_64 : decode cX12_spreadIn 64 = .ok (.aload_n 0, 1) := by decide +kernel
theorem dX12_spreadIn_65 : decode cX12_spreadIn 65 = .ok (.getfield 97, 3) := by decide +kernel
theorem dX12_spreadIn_68 : decode cX12_spreadIn 68 = .ok (.iconst 5, 1) := by decide +kernel
theorem dX12_spreadIn_69 : decode cX12_spreadIn 69 = .ok (.iload_n 1, 1) := by decide +kernel
theorem dX12_spreadIn_70 : decode cX12_spreadIn 70 = .ok (.imul, 1) := by decide +kernel
theorem dX12_spreadIn_71 : decode cX12_spreadIn 71 = .ok (.iload 4, 2) := by decide +kernel
theorem dX12_spreadIn_73 : decode cX12_spreadIn 73 = .ok (.iadd, 1) := by decide +kernel
theorem dX12_spreadIn_74 : decode cX12_spreadIn 74 = .ok (.iaload, 1) := by decide +kernel
theorem dX12_spreadIn_75 : decode cX12_spreadIn 75 = .ok (.goto 4, 3) := by decide +kernel
theorem dX12_spreadIn_78 : decode cX12_spreadIn 78 = .ok (.iload_n 3, 1) := by decide +kernel
theorem dX12_spreadIn_79 : decode cX12_spreadIn 79 = .ok (.istore_n 3, 1) := by decide +kernel
theorem dX12_spreadIn_80 : decode cX12_spreadIn 80 = .ok (.iinc 4 1, 3) := by decide +kernel
theorem dX12_spreadIn_83 : decode cX12_spreadIn 83 = .ok (.goto (-74), 3) := by decide +kernel
theorem dX12_spreadIn_86 : decode cX12_spreadIn 86 = .ok (.aload_n 0, 1) := by decide +kernel
theorem dX12_spreadIn_87 : decode cX12_spreadIn 87 = .ok (.getfield 255, 3) := by decide +kernel
theorem dX12_spreadIn_90 : decode cX12_spreadIn 90 = .ok (.ifCond .ne 7, 3) := by decide +kernel
theorem dX12_spreadIn_93 : decode cX12_spreadIn 93 = .ok (.iconst 0, 1) := by decide +kernel
theorem dX12_spreadIn_94 : decode cX12_spreadIn 94 = .ok (.goto 6, 3) := by decide +kernel
theorem dX12_spreadIn_97 : decode cX12_spreadIn 97 = .ok (.iload_n 2, 1) := by decide +kernel
theorem dX12_spreadIn_98 : decode cX12_spreadIn 98 = .ok (.iload_n 3, 1) := by decide +kernel
theorem dX12_spreadIn_99 : decode cX12_spreadIn 99 = .ok (.isub, 1) := by decide +kernel
theorem dX12_spreadIn_100 : decode cX12_spreadIn 100 = .ok (.ireturn, 1) := by decide +kernel
def f_X12_spreadIn (M : MM) (p1 : Int) : Option (Int) :=
(lp (X := Int × Int × Int) (Y := Int × Int) (fun x1 =>
if x1.2.2 < (M 88 12) then
(gd (0 ≤ w32 ((w32 (5 * p1)) + x1.2.2) ∧ w32 ((w32 (5 * p1)) + x1.2.2) < (10 : Int)) <|
((if x1.1 < (M 116 (w32 ((w32 (5 * p1)) + x1.2.2)).toNat) then
(gd (0 ≤ w32 ((w32 (5 * p1)) + x1.2.2) ∧ w32 ((w32 (5 * p1)) + x1.2.2) < (10 : Int)) <|
some (M 116 (w32 ((w32 (5 * p1)) + x1.2.2)).toNat))
else
some x1.1) : Option (Int)).bind fun x6 =>
gd (0 ≤ w32 ((w32 (5 * p1)) + x1.2.2) ∧ w32 ((w32 (5 * p1)) + x1.2.2) < (10 : Int)) <|
((if (M 116 (w32 ((w32 (5 * p1)) + x1.2.2)).toNat) < x1.2.1 then
(gd (0 ≤ w32 ((w32 (5 * p1)) + x1.2.2) ∧ w32 ((w32 (5 * p1)) + x1.2.2) < (10 : Int)) <|
some (M 116 (w32 ((w32 (5 * p1)) + x1.2.2)).toNat))
else
some x1.2.1) : Option (Int)).bind fun x10 =>
some (Sum.inl (x6, x10, w32 (x1.2.2 + 1))))
else
some (Sum.inr (x1.1, x1.2.1))) FU (0, 600, 0)).bind fun x11 =>
if (M 88 12) = 0 then
(some 0)
else
some (w32 (x11.1 - x11.2))
set_option maxRecDepth 4000 in
theorem c_X12_spreadIn {E : EE} {sh : List (Nat × Nat)} {ex : Bool} {R : RM} {M : MM} {p1 : Int} (hE : Ext sh) (hL : Links R) : ∀ y, f_X12_spreadIn M p1 = some y → MetC E m_X12_spreadIn 0 0 [rV 88, iV p1] (sh, ex, R, M) (fun r w' => r = some (iV y) ∧ w' = (sh, ex, R, M)) := by
  intro y hy
  refine MetC.seg (o := f_X12_spreadIn M p1) (t := (fun K y => K (some (iV y)) (sh, ex, R, M))) (L := [some (rV 88), some (iV p1), none, none, none]) (by decide) rfl (Nat.le_of_ble_eq_true rfl) ?_ hy ⟨rfl, rfl⟩
  unfold f_X12_spreadIn
  refine Seg.step (pc' := 1) (I_iconst dX12_spreadIn_0 ⟨by decide, by decide⟩) ?_
  refine Seg.step (pc' := 2) (I_istore_n (i := 2) dX12_spreadIn_1 rfl (by decide) rfl) ?_
  refine Seg.step (pc' := 5) (I_sipush dX12_spreadIn_2 (by decide) ⟨by decide, by decide⟩) ?_
  refine Seg.step (pc' := 6) (I_istore_n (i := 3) dX12_spreadIn_5 rfl (by decide) rfl) ?_
  refine Seg.step (pc' := 7) (I_iconst dX12_spreadIn_6 ⟨by decide, by decide⟩) ?_
  refine Seg.step (pc' := 9) (I_istore dX12_spreadIn_7 (by decide) rfl) ?_
  refine Seg.forget (Lle.ye (Lle.ye (Lle.ye (Lle.ye (Lle.ye (Lle.nil)))))) ?_
  refine S_bind (Y := Int × Int) (k' := 0) (n' := 0) 86 (fun y => [some (rV 88), none, some (iV y.1), some (iV y.2), none]) (fun y => []) (fun y => (sh, ex, R, M)) (S_loop (Y := Int × Int × Int) (fun y => [some (rV 88), some (iV p1), some (iV y.1), some (iV y.2.1), some (iV y.2.2)]) (fun y => []) (fun y => (sh, ex, R, M)) (fun x1 => ?_) FU (0, 600, 0)) (fun x11 => ?_)
  · refine Seg.step (pc' := 11) (I_iload dX12_spreadIn_9 rfl) ?_
    refine Seg.step (pc' := 12) (I_aload_n (i := 0) dX12_spreadIn_11 rfl rfl) ?_
    refine Seg.step (pc' := 15) (I_getI cls12 (by decide) wf_12_255 (hE _ _ sk_12) rfl dX12_spreadIn_12) ?_
    refine S_icmp_ge (tgt := 86) dX12_spreadIn_15 (by decide) (fun h2 => ?_) (fun h2 => ?_)
    · refine Seg.step (pc' := 19) (I_aload_n (i := 0) dX12_spreadIn_18 rfl rfl) ?_
      refine Seg.step (pc' := 22) (I_getR cls12 (by decide) wf_12_97 (hE _ _ sk_12) rfl (lk_12_54 hL) dX12_spreadIn_19) ?_
      refine Seg.step (pc' := 23) (I_iconst dX12_spreadIn_22 ⟨by decide, by decide⟩) ?_
      refine Seg.step (pc' := 24) (I_iload_n (i := 1) dX12_spreadIn_23 rfl rfl) ?_
      refine Seg.step (pc' := 25) (I_imul dX12_spreadIn_24) ?_
      refine Seg.step (pc' := 27) (I_iload dX12_spreadIn_25 rfl) ?_
      refine Seg.step (pc' := 28) (I_iadd dX12_spreadIn_27) ?_
      refine S_gd fun h3 => ?_
      refine Seg.step (pc' := 29) (I_iald (hE _ _ sk_12_54) h3 dX12_spreadIn_28) ?_
      refine Seg.step (pc' := 30) (I_iload_n (i := 2) dX12_spreadIn_29 rfl rfl) ?_
      refine S_bind (Y := Int) (k' := 0) (n' := 0) 48 (fun y => [some (rV 88), some (iV p1), none, some (iV x1.2.1), some (iV x1.2.2)]) (fun y => [iV y]) (fun y => (sh, ex, R, M)) ?_ (fun x6 => ?_)
      · refine S_icmp_le (tgt := 47) dX12_spreadIn_30 (by decide) (fun h4 => ?_) (fun h4 => ?_)
        · refine Seg.step (pc' := 34) (I_aload_n (i := 0) dX12_spreadIn_33 rfl rfl) ?_
          refine Seg.step (pc' := 37) (I_getR cls12 (by decide) wf_12_97 (hE _ _ sk_12) rfl (lk_12_54 hL) dX12_spreadIn_34) ?_
          refine Seg.step (pc' := 38) (I_iconst dX12_spreadIn_37 ⟨by decide, by decide⟩) ?_
          refine Seg.step (pc' := 39) (I_iload_n (i := 1) dX12_spreadIn_38 rfl rfl) ?_
          refine Seg.step (pc' := 40) (I_imul dX12_spreadIn_39) ?_
          refine Seg.step (pc' := 42) (I_iload dX12_spreadIn_40 rfl) ?_
          refine Seg.step (pc' := 43) (I_iadd dX12_spreadIn_42) ?_
          refine S_gd fun h5 => ?_
          refine Seg.step (pc' := 44) (I_iald (hE _ _ sk_12_54) h5 dX12_spreadIn_43) ?_
          refine Seg.step (pc' := 48) (I_goto (tgt := 48) dX12_spreadIn_44 (by decide)) ?_
          exact S_arr (fun K hK => GG.forget (Lle.ye (Lle.ye (Lle.no (Lle.ye (Lle.ye (Lle.nil)))))) hK)
        refine Seg.step (pc' := 48) (I_iload_n (i := 2) dX12_spreadIn_47 rfl rfl) ?_
        exact S_arr (fun K hK => GG.forget (Lle.ye (Lle.ye (Lle.no (Lle.ye (Lle.ye (Lle.nil)))))) hK)
      refine Seg.step (pc' := 49) (I_istore_n (i := 2) dX12_spreadIn_48 rfl (by decide) rfl) ?_
      refine Seg.step (pc' := 50) (I_aload_n (i := 0) dX12_spreadIn_49 rfl rfl) ?_
      refine Seg.step (pc' := 53) (I_getR cls12 (by decide) wf_12_97 (hE _ _ sk_12) rfl (lk_12_54 hL) dX12_spreadIn_50) ?_
      refine Seg.step (pc' := 54) (I_iconst dX12_spreadIn_53 ⟨by decide, by decide⟩) ?_
      refine Seg.step (pc' := 55) (I_iload_n (i := 1) dX12_spreadIn_54 rfl rfl) ?_
      refine Seg.step (pc' := 56) (I_imul dX12_spreadIn_55) ?_
      refine Seg.step (pc' := 58) (I_iload dX12_spreadIn_56 rfl) ?_
      refine Seg.step (pc' := 59) (I_iadd dX12_spreadIn_58) ?_
      refine S_gd fun h7 => ?_
      refine Seg.step (pc' := 60) (I_iald (hE _ _ sk_12_54) h7 dX12_spreadIn_59) ?_
      refine Seg.step (pc' := 61) (I_iload_n (i := 3) dX12_spreadIn_60 rfl rfl) ?_
      refine S_bind (Y := Int) (k' := 0) (n' := 0) 79 (fun y => [some (rV 88), some (iV p1), some (iV x6), none, some (iV x1.2.2)]) (fun y => [iV y]) (fun y => (sh, ex, R, M)) ?_ (fun x10 => ?_)
      · refine S_icmp_ge (tgt := 78) dX12_spreadIn_61 (by decide) (fun h8 => ?_) (fun h8 => ?_)
        · refine Seg.step (pc' := 65) (I_aload_n (i := 0) dX12_spreadIn_64 rfl rfl) ?_
          refine Seg.step (pc' := 68) (I_getR cls12 (by decide) wf_12_97 (hE _ _ sk_12) rfl (lk_12_54 hL) dX12_spreadIn_65) ?_
          refine Seg.step (pc' := 69) (I_iconst dX12_spreadIn_68 ⟨by decide, by decide⟩) ?_
          refine Seg.step (pc' := 70) (I_iload_n (i := 1) dX12_spreadIn_69 rfl rfl) ?_
          refine Seg.step (pc' := 71) (I_imul dX12_spreadIn_70) ?_
          refine Seg.step (pc' := 73) (I_iload dX12_spreadIn_71 rfl) ?_
          refine Seg.step (pc' := 74) (I_iadd dX12_spreadIn_73) ?_
          refine S_gd fun h9 => ?_
          refine Seg.step (pc' := 75) (I_iald (hE _ _ sk_12_54) h9 dX12_spreadIn_74) ?_
          refine Seg.step (pc' := 79) (I_goto (tgt := 79) dX12_spreadIn_75 (by decide)) ?_
          exact S_arr (fun K hK => GG.forget (Lle.ye (Lle.ye (Lle.ye (Lle.no (Lle.ye (Lle.nil)))))) hK)
        refine Seg.step (pc' := 79) (I_iload_n (i := 3) dX12_spreadIn_78 rfl rfl) ?_
        exact S_arr (fun K hK => GG.forget (Lle.ye (Lle.ye (Lle.ye (Lle.no (Lle.ye (Lle.nil)))))) hK)
      refine Seg.step (pc' := 80) (I_istore_n (i := 3) dX12_spreadIn_79 rfl (by decide) rfl) ?_
      refine Seg.step (pc' := 83) (I_iinc dX12_spreadIn_80 rfl (by decide) rfl) ?_
      refine Seg.step (pc' := 9) (I_goto (tgt := 9) dX12_spreadIn_83 (by decide)) ?_
      exact S_arr (fun K hK => GG.forget (Lle.ye (Lle.ye (Lle.ye (Lle.ye (Lle.ye (Lle.nil)))))) hK)
    exact S_arr (fun K hK => GG.forget (Lle.ye (Lle.no (Lle.ye (Lle.ye (Lle.no (Lle.nil)))))) hK)
  refine Seg.step (pc' := 87) (I_aload_n (i := 0) dX12_spreadIn_86 rfl rfl) ?_
  refine Seg.step (pc' := 90) (I_getI cls12 (by decide) wf_12_255 (hE _ _ sk_12) rfl dX12_spreadIn_87) ?_
  refine S_if_ne (tgt := 97) dX12_spreadIn_90 (by decide) (fun h12 => ?_) (fun h12 => ?_)
  · refine Seg.step (pc' := 94) (I_iconst dX12_spreadIn_93 ⟨by decide, by decide⟩) ?_
    refine Seg.step (pc' := 100) (I_goto (tgt := 100) dX12_spreadIn_94 (by decide)) ?_
    exact S_iret dX12_spreadIn_100 rfl (by decide) (by decide) (fun K hK => hK)
  refine Seg.step (pc' := 98) (I_iload_n (i := 2) dX12_spreadIn_97 rfl rfl) ?_
  refine Seg.step (pc' := 99) (I_iload_n (i := 3) dX12_spreadIn_98 rfl rfl) ?_
  refine Seg.step (pc' := 100) (I_isub dX12_spreadIn_99) ?_
  exact S_iret dX12_spreadIn_100 rfl (by decide) (by decide) (fun K hK => hK)
theorem dX12_spread_0 : decode cX12_spread 0 = .ok (.aload_n 0, 1) := by decide +kernel
theorem dX12_spread_1 : decode cX12_spread 1 = .ok (.iconst 0, 1) := by decide +kernel
theorem dX12_spread_2 : decode cX12_spread 2 = .ok (.putfield 175, 3) := by decide +kernel
theorem dX12_spread_5 : decode cX12_spread 5 = .ok (.aload_n 0, 1) := by decide +kernel
theorem dX12_spread_6 : decode cX12_spread 6 = .ok (.iconst 0, 1) := by decide +kernel
theorem dX12_spread_7 : decode cX12_spread 7 = .ok (.invokevirtual 512, 3) := by decide +kernel
theorem dX12_spread_10 : decode cX12_spread 10 = .ok (.ireturn, 1) := by decide +kernel
def f_X12_spread (M : MM)  : Option (Int × MM) :=
bM (upM M 88 2 0) fun M1 =>
(f_X12_spreadIn M1 0).bind fun x2 =>
some (x2, M1)
set_option maxRecDepth 4000 in
theorem c_X12_spread {E : EE} {sh : List (Nat × Nat)} {ex : Bool} {R : RM} {M : MM}  (hE : Ext sh) (hL : Links R) : ∀ y, f_X12_spread M = some y → MetC E m_X12_spread 0 0 [rV 88] (sh, ex, R, M) (fun r w' => r = some (iV y.1) ∧ w' = (sh, ex, R, y.2)) := by
  intro y hy
  refine MetC.seg (o := f_X12_spread M) (t := (fun K y => K (some (iV y.1)) (sh, ex, R, y.2))) (L := [some (rV 88)]) (by decide) rfl (Nat.le_of_ble_eq_true rfl) ?_ hy ⟨rfl, rfl⟩
  unfold f_X12_spread
  refine Seg.step (pc' := 1) (I_aload_n (i := 0) dX12_spread_0 rfl rfl) ?_
  refine Seg.step (pc' := 2) (I_iconst dX12_spread_1 ⟨by decide, by decide⟩) ?_
  refine Seg.step (pc' := 5) (I_putI cls12 (by decide) wf_12_175 (hE _ _ sk_12) rfl rfl dX12_spread_2) ?_
  refine S_bM fun M1 => ?_
  refine Seg.step (pc' := 6) (I_aload_n (i := 0) dX12_spread_5 rfl rfl) ?_
  refine Seg.step (pc' := 7) (I_iconst dX12_spread_6 ⟨by decide, by decide⟩) ?_
  refine S_callV1 (md' := m_X12_spreadIn) (fun y => some (iV y)) (fun y => (sh, ex, R, M1)) (hE _ _ sk_12) ⟨by decide, rfl⟩ mm_X12_spreadIn wm_12_512 ⟨rfl, rfl, by decide, by decide, by decide, by decide⟩ (Nat.le_of_ble_eq_true rfl) dX12_spread_7 (fun y hy => c_X12_spreadIn hE hL y hy) (fun x2 => ?_)
  exact S_iret dX12_spread_10 rfl (by decide) (by decide) (fun K hK => hK)
theorem dX12_feels_0 : decode cX12_feels 0 = .ok (.aload_n 0, 1) := by decide +kernel
theorem dX12_feels_1 : decode cX12_feels 1 = .ok (.iconst 0, 1) := by decide +kernel
theorem dX12_feels_2 : decode cX12_feels 2 = .ok (.putfield 175, 3) := by decide +kernel
theorem dX12_feels_5 : decode cX12_feels 5 = .ok (.aload_n 0, 1) := by decide +kernel
theorem dX12_feels_6 : decode cX12_feels 6 = .ok (.iload_n 1, 1) := by decide +kernel
theorem dX12_feels_7 : decode cX12_feels 7 = .ok (.invokevirtual 482, 3) := by decide +kernel
theorem dX12_feels_10 : decode cX12_feels 10 = .ok (.ifCond .eq 13, 3) := by decide +kernel
theorem dX12_feels_13 : decode cX12_feels 13 = .ok (.iload_n 2, 1) := by decide +kernel
theorem dX12_feels_14 : decode cX12_feels 14 = .ok (.iconst 1, 1) := by decide +kernel
theorem dX12_feels_15 : decode cX12_feels 15 = .ok (.bipush 99, 2) := by decide +kernel
theorem dX12_feels_17 : decode cX12_feels 17 = .ok (.invokestatic 220, 3) := by decide +kernel
theorem dX12_feels_20 : decode cX12_feels 20 = .ok (.ifCond .ne 5, 3) := by decide +kernel
theorem dX12_feels_23 : decode cX12_feels 23 = .ok (.iconst (-1), 1) := by decide +kernel
theorem dX12_feels_24 : decode cX12_feels 24 = .ok (.ireturn, 1) := by decide +kernel
theorem dX12_feels_25 : decode cX12_feels 25 = .ok (.aload_n 0, 1) := by decide +kernel
theorem dX12_feels_26 : decode cX12_feels 26 = .ok (.invokevirtual 430, 3) := by decide +kernel
theorem dX12_feels_29 : decode cX12_feels 29 = .ok (.iconst 0, 1) := by decide +kernel
theorem dX12_feels_30 : decode cX12_feels 30 = .ok (.istore_n 3, 1) := by decide +kernel
theorem dX12_feels_31 : decode cX12_feels 31 = .ok (.iload_n 3, 1) := by decide +kernel
theorem dX12_feels_32 : decode cX12_feels 32 = .ok (.iload_n 2, 1) := by decide +kernel
theorem dX12_feels_33 : decode cX12_feels 33 = .ok (.if_icmp .gt 34, 3) := by decide +kernel
theorem dX12_feels_36 : decode cX12_feels 36 = .ok (.aload_n 0, 1) := by decide +kernel
theorem dX12_feels_37 : decode cX12_feels 37 = .ok (.iconst 1, 1) := by decide +kernel
theorem dX12_feels_38 : decode cX12_feels 38 = .ok (.iload_n 1, 1) := by decide +kernel
theorem dX12_feels_39 : decode cX12_feels 39 = .ok (.invokevirtual 458, 3) := by decide +kernel
theorem dX12_feels_42 : decode cX12_feels 42 = .ok (.bipush 10, 2) := by decide +kernel
theorem dX12_feels_44 : decode cX12_feels 44 = .ok (.aload_n 0, 1) := by decide +kernel
theorem dX12_feels_45 : decode cX12_feels 45 = .ok (.getfield 45, 3) := by decide +kernel
theorem dX12_feels_48 : decode cX12_feels 48 = .ok (.iload_n 1, 1) := by decide +kernel
theorem dX12_feels_49 : decode cX12_feels 49 = .ok (.iaload, 1) := by decide +kernel
theorem dX12_feels_50 : decode cX12_feels 50 = .ok (.imul, 1) := by decide +kernel
theorem dX12_feels_51 : decode cX12_feels 51 = .ok (.if_icmp .lt 5, 3) := by decide +kernel
theorem dX12_feels_54 : decode cX12_feels 54 = .ok (.iload_n 3, 1) := by decide +kernel
theorem dX12_feels_55 : decode cX12_feels 55 = .ok (.ireturn, 1) := by decide +kernel
theorem dX12_feels_56 : decode cX12_feels 56 = .ok (.aload_n 0, 1) := by decide +kernel
theorem dX12_feels_57 : decode cX12_feels 57 = .ok (.iconst 1, 1) := by decide +kernel
theorem dX12_feels_58 : decode cX12_feels 58 = .ok (.invokevirtual 479, 3) := by decide +kernel
theorem dX12_feels_61 : decode cX12_feels 61 = .ok (.iinc 3 1, 3) := by decide +kernel
theorem dX12_feels_64 : decode cX12_feels 64 = .ok (.goto (-33), 3) := by decide +kernel
theorem dX12_feels_67 : decode cX12_feels 67 = .ok (.bipush (-2), 2) := by decide +kernel
theorem dX12_feels_69 : decode cX12_feels 69 = .ok (.ireturn, 1) := by decide +kernel
def f_X12_feels (M : MM) (p1 : Int) (p2 : Int) : Option (Int × MM) :=
bM (upM M 88 2 0) fun M1 =>
(f_X12_isPerson M1 p1).bind fun x2 =>
if x2 = 0 then
(some ((-1), M1))
else
(f_X12_isIn M1 p2 1 99).bind fun x4 =>
if x4 = 0 then
(some ((-1), M1))
else
(f_X12_layTried M1).bind fun x6 =>
lp (X := Int × MM) (Y := Int × MM) (fun x7 =>
if p2 < x7.1 then
(some (Sum.inr ((-2), x7.2)))
else
(f_X12_feltBy x7.2 1 p1).bind fun x9 =>
gd (0 ≤ p1 ∧ p1 < (10 : Int)) <|
if x9 < (w32 (10 * (x7.2 99 (p1).toNat))) then
((f_X12_goOn x7.2 1).bind fun x12 =>
some (Sum.inl (w32 (x7.1 + 1), x12)))
else
some (Sum.inr (x7.1, x7.2))) FU (0, x6)
set_option maxRecDepth 4000 in
theorem c_X12_feels {E : EE} {sh : List (Nat × Nat)} {ex : Bool} {R : RM} {M : MM} {p1 : Int} {p2 : Int} (hE : Ext sh) (hL : Links R) : ∀ y, f_X12_feels M p1 p2 = some y → MetC E m_X12_feels 0 0 [rV 88, iV p1, iV p2] (sh, ex, R, M) (fun r w' => r = some (iV y.1) ∧ w' = (sh, ex, R, y.2)) := by
  intro y hy
  refine MetC.seg (o := f_X12_feels M p1 p2) (t := (fun K y => K (some (iV y.1)) (sh, ex, R, y.2))) (L := [some (rV 88), some (iV p1), some (iV p2), none]) (by decide) rfl (Nat.le_of_ble_eq_true rfl) ?_ hy ⟨rfl, rfl⟩
  unfold f_X12_feels
  refine Seg.step (pc' := 1) (I_aload_n (i := 0) dX12_feels_0 rfl rfl) ?_
  refine Seg.step (pc' := 2) (I_iconst dX12_feels_1 ⟨by decide, by decide⟩) ?_
  refine Seg.step (pc' := 5) (I_putI cls12 (by decide) wf_12_175 (hE _ _ sk_12) rfl rfl dX12_feels_2) ?_
  refine S_bM fun M1 => ?_
  refine Seg.step (pc' := 6) (I_aload_n (i := 0) dX12_feels_5 rfl rfl) ?_
  refine Seg.step (pc' := 7) (I_iload_n (i := 1) dX12_feels_6 rfl rfl) ?_
  refine S_callV1 (md' := m_X12_isPerson) (fun y => some (iV y)) (fun y => (sh, ex, R, M1)) (hE _ _ sk_12) ⟨by decide, rfl⟩ mm_X12_isPerson wm_12_482 ⟨rfl, rfl, by decide, by decide, by decide, by decide⟩ (Nat.le_of_ble_eq_true rfl) dX12_feels_7 (fun y hy => c_X12_isPerson hE hL y hy) (fun x2 => ?_)
  refine S_if_eq (tgt := 23) dX12_feels_10 (by decide) (fun h3 => ?_) (fun h3 => ?_)
  · refine Seg.step (pc' := 24) (I_iconst dX12_feels_23 ⟨by decide, by decide⟩) ?_
    exact S_iret dX12_feels_24 rfl (by decide) (by decide) (fun K hK => hK)
  refine Seg.step (pc' := 14) (I_iload_n (i := 2) dX12_feels_13 rfl rfl) ?_
  refine Seg.step (pc' := 15) (I_iconst dX12_feels_14 ⟨by decide, by decide⟩) ?_
  refine Seg.step (pc' := 17) (I_bipush dX12_feels_15 (by decide) ⟨by decide, by decide⟩) ?_
  refine S_callS3 (md' := m_X12_isIn) (fun y => some (iV y)) (fun y => (sh, ex, R, M1)) mm_X12_isIn wm_12_220 ⟨rfl, rfl, by decide, by decide, by decide, by decide⟩ (Nat.le_of_ble_eq_true rfl) dX12_feels_17 (fun y hy => c_X12_isIn hE hL y hy) (fun x4 => ?_)
  refine S_if_ne (tgt := 25) dX12_feels_20 (by decide) (fun h5 => ?_) (fun h5 => ?_)
  · refine Seg.step (pc' := 24) (I_iconst dX12_feels_23 ⟨by decide, by decide⟩) ?_
    exact S_iret dX12_feels_24 rfl (by decide) (by decide) (fun K hK => hK)
  refine Seg.step (pc' := 26) (I_aload_n (i := 0) dX12_feels_25 rfl rfl) ?_
  refine S_callV0 (md' := m_X12_layTried) (fun y => none) (fun y => (sh, ex, R, y)) (hE _ _ sk_12) ⟨by decide, rfl⟩ mm_X12_layTried wm_12_430 ⟨rfl, rfl, by decide, by decide, by decide, by decide⟩ (Nat.le_of_ble_eq_true rfl) dX12_feels_26 (fun y hy => c_X12_layTried hE hL y hy) (fun x6 => ?_)
  refine Seg.step (pc' := 30) (I_iconst dX12_feels_29 ⟨by decide, by decide⟩) ?_
  refine Seg.step (pc' := 31) (I_istore_n (i := 3) dX12_feels_30 rfl (by decide) rfl) ?_
  refine Seg.forget (Lle.ye (Lle.ye (Lle.ye (Lle.ye (Lle.nil))))) ?_
  refine S_loop (Y := Int × MM) (fun y => [some (rV 88), some (iV p1), some (iV p2), some (iV y.1)]) (fun y => []) (fun y => (sh, ex, R, y.2)) (fun x7 => ?_) FU (0, x6)
  refine Seg.step (pc' := 32) (I_iload_n (i := 3) dX12_feels_31 rfl rfl) ?_
  refine Seg.step (pc' := 33) (I_iload_n (i := 2) dX12_feels_32 rfl rfl) ?_
  refine S_icmp_gt (tgt := 67) dX12_feels_33 (by decide) (fun h8 => ?_) (fun h8 => ?_)
  · refine Seg.step (pc' := 69) (I_bipush dX12_feels_67 (by decide) ⟨by decide, by decide⟩) ?_
    exact S_iret dX12_feels_69 rfl (by decide) (by decide) (fun K hK => hK)
  refine Seg.step (pc' := 37) (I_aload_n (i := 0) dX12_feels_36 rfl rfl) ?_
  refine Seg.step (pc' := 38) (I_iconst dX12_feels_37 ⟨by decide, by decide⟩) ?_
  refine Seg.step (pc' := 39) (I_iload_n (i := 1) dX12_feels_38 rfl rfl) ?_
  refine S_callV2 (md' := m_X12_feltBy) (fun y => some (iV y)) (fun y => (sh, ex, R, x7.2)) (hE _ _ sk_12) ⟨by decide, rfl⟩ mm_X12_feltBy wm_12_458 ⟨rfl, rfl, by decide, by decide, by decide, by decide⟩ (Nat.le_of_ble_eq_true rfl) dX12_feels_39 (fun y hy => c_X12_feltBy hE hL y hy) (fun x9 => ?_)
  refine Seg.step (pc' := 44) (I_bipush dX12_feels_42 (by decide) ⟨by decide, by decide⟩) ?_
  refine Seg.step (pc' := 45) (I_aload_n (i := 0) dX12_feels_44 rfl rfl) ?_
  refine Seg.step (pc' := 48) (I_getR cls12 (by decide) wf_12_45 (hE _ _ sk_12) rfl (lk_12_30 hL) dX12_feels_45) ?_
  refine Seg.step (pc' := 49) (I_iload_n (i := 1) dX12_feels_48 rfl rfl) ?_
  refine S_gd fun h10 => ?_
  refine Seg.step (pc' := 50) (I_iald (hE _ _ sk_12_30) h10 dX12_feels_49) ?_
  refine Seg.step (pc' := 51) (I_imul dX12_feels_50) ?_
  refine S_icmp_lt (tgt := 56) dX12_feels_51 (by decide) (fun h11 => ?_) (fun h11 => ?_)
  · refine Seg.step (pc' := 57) (I_aload_n (i := 0) dX12_feels_56 rfl rfl) ?_
    refine Seg.step (pc' := 58) (I_iconst dX12_feels_57 ⟨by decide, by decide⟩) ?_
    refine S_callV1 (md' := m_X12_goOn) (fun y => none) (fun y => (sh, ex, R, y)) (hE _ _ sk_12) ⟨by decide, rfl⟩ mm_X12_goOn wm_12_479 ⟨rfl, rfl, by decide, by decide, by decide, by decide⟩ (Nat.le_of_ble_eq_true rfl) dX12_feels_58 (fun y hy => c_X12_goOn hE hL y hy) (fun x12 => ?_)
    refine Seg.step (pc' := 64) (I_iinc dX12_feels_61 rfl (by decide) rfl) ?_
    refine Seg.step (pc' := 31) (I_goto (tgt := 31) dX12_feels_64 (by decide)) ?_
    exact S_arr (fun K hK => GG.forget (Lle.ye (Lle.ye (Lle.ye (Lle.ye (Lle.nil))))) hK)
  refine Seg.step (pc' := 55) (I_iload_n (i := 3) dX12_feels_54 rfl rfl) ?_
  exact S_iret dX12_feels_55 rfl (by decide) (by decide) (fun K hK => hK)
theorem dX12_apart_0 : decode cX12_apart 0 = .ok (.aload_n 0, 1) := by decide +kernel
theorem dX12_apart_1 : decode cX12_apart 1 = .ok (.iconst 0, 1) := by decide +kernel
theorem dX12_apart_2 : decode cX12_apart 2 = .ok (.putfield 175, 3) := by decide +kernel
theorem dX12_apart_5 : decode cX12_apart 5 = .ok (.iload_n 1, 1) := by decide +kernel
theorem dX12_apart_6 : decode cX12_apart 6 = .ok (.iconst 0, 1) := by decide +kernel
theorem dX12_apart_7 : decode cX12_apart 7 = .ok (.sipush 200, 3) := by decide +kernel
theorem dX12_apart_10 : decode cX12_apart 10 = .ok (.invokestatic 220, 3) := by decide +kernel
theorem dX12_apart_13 : decode cX12_apart 13 = .ok (.ifCond .eq 12, 3) := by decide +kernel
theorem dX12_apart_16 : decode cX12_apart 16 = .ok (.iload_n 2, 1) := by decide +kernel
theorem dX12_apart_17 : decode cX12_apart 17 = .ok (.iconst 0, 1) := by decide +kernel
theorem dX12_apart_18 : decode cX12_apart 18 = .ok (.iconst 1, 1) := by decide +kernel
theorem dX12_apart_19 : decode cX12_apart 19 = .ok (.invokestatic 220, 3) := by decide +kernel
theorem dX12_apart_22 : decode cX12_apart 22 = .ok (.ifCond .ne 5, 3) := by decide +kernel
theorem dX12_apart_25 : decode cX12_apart 25 = .ok (.iconst (-1), 1) := by decide +kernel
theorem dX12_apart_26 : decode cX12_apart 26 = .ok (.ireturn, 1) := by decide +kernel
theorem dX12_apart_27 : decode cX12_apart 27 = .ok (.aload_n 0, 1) := by decide +kernel
theorem dX12_apart_28 : decode cX12_apart 28 = .ok (.invokevirtual 430, 3) := by decide +kernel
theorem dX12_apart_31 : decode cX12_apart 31 = .ok (.iconst 0, 1) := by decide +kernel
theorem dX12_apart_32 : decode cX12_apart 32 = .ok (.istore_n 3, 1) := by decide +kernel
theorem dX12_apart_33 : decode cX12_apart 33 = .ok (.aload_n 0, 1) := by decide +kernel
theorem dX12_apart_34 : decode cX12_apart 34 = .ok (.iconst 1, 1) := by decide +kernel
theorem dX12_apart_35 : decode cX12_apart 35 = .ok (.invokevirtual 512, 3) := by decide +kernel
theorem dX12_apart_38 : decode cX12_apart 38 = .ok (.istore 4, 2) := by decide +kernel
theorem dX12_apart_40 : decode cX12_apart 40 = .ok (.iconst 1, 1) := by decide +kernel
theorem dX12_apart_41 : decode cX12_apart 41 = .ok (.istore 5, 2) := by decide +kernel
theorem dX12_apart_43 : decode cX12_apart 43 = .ok (.iload 5, 2) := by decide +kernel
theorem dX12_apart_45 : decode cX12_apart 45 = .ok (.iload_n 1, 1) := by decide +kernel
theorem dX12_apart_46 : decode cX12_apart 46 = .ok (.if_icmp .gt 37, 3) := by decide +kernel
theorem dX12_apart_49 : decode cX12_apart 49 = .ok (.aload_n 0, 1) := by decide +kernel
theorem dX12_apart_50 : decode cX12_apart 50 = .ok (.iconst 1, 1) := by decide +kernel
theorem dX12_apart_51 : decode cX12_apart 51 = .ok (.invokevirtual 479, 3) := by decide +kernel
theorem dX12_apart_54 : decode cX12_apart 54 = .ok (.aload_n 0, 1) := by decide +kernel
theorem dX12_apart_55 : decode cX12_apart 55 = .ok (.iconst 1, 1) := by decide +kernel
theorem dX12_apart_56 : decode cX12_apart 56 = .ok (.invokevirtual 512, 3) := by decide +kernel
theorem dX12_apart_59 : decode cX12_apart 59 = .ok (.iload 4, 2) := by decide +kernel
theorem dX12_apart_61 : decode cX12_apart 61 = .ok (.if_icmp .gt 6, 3) := by decide +kernel
theorem dX12_apart_64 : decode cX12_apart 64 = .ok (.goto 13, 3) := by decide +kernel
theorem dX12_apart_67 : decode cX12_apart 67 = .ok (.iload 5, 2) := by decide +kernel
theorem dX12_apart_69 : decode cX12_apart 69 = .ok (.istore_n 3, 1) := by decide +kernel
theorem dX12_apart_70 : decode cX12_apart 70 = .ok (.aload_n 0, 1) := by decide +kernel
theorem dX12_apart_71 : decode cX12_apart 71 = .ok (.iconst 1, 1) := by decide +kernel
theorem dX12_apart_72 : decode cX12_apart 72 = .ok (.invokevirtual 512, 3) := by decide +kernel
theorem dX12_apart_75 : decode cX12_apart 75 = .ok (.istore 4, 2) := by decide +kernel
theorem dX12_apart_77 : decode cX12_apart 77 = .ok (.iinc 5 1, 3) := by decide +kernel
theorem dX12_apart_80 : decode cX12_apart 80 = .ok (.goto (-37), 3) := by decide +kernel
theorem dX12_apart_83 : decode cX12_apart 83 = .ok (.iload_n 2, 1) := by decide +kernel
theorem dX12_apart_84 : decode cX12_apart 84 = .ok (.ifCond .ne 7, 3) := by decide +kernel
theorem dX12_apart_87 : decode cX12_apart 87 = .ok (.iload_n 3, 1) := by decide +kernel
theorem dX12_apart_88 : decode cX12_apart 88 = .ok (.goto 5, 3) := by decide +kernel
theorem dX12_apart_91 : decode cX12_apart 91 = .ok (.iload 4, 2) := by decide +kernel
theorem dX12_apart_93 : decode cX12_apart 93 = .ok (.ireturn, 1) := by decide +kernel
def f_X12_apart (M : MM) (p1 : Int) (p2 : Int) : Option (Int × MM) :=
bM (upM M 88 2 0) fun M1 =>
(f_X12_isIn M1 p1 0 200).bind fun x2 =>
if x2 = 0 then
(some ((-1), M1))
else
(f_X12_isIn M1 p2 0 1).bind fun x4 =>
if x4 = 0 then
(some ((-1), M1))
else
(f_X12_layTried M1).bind fun x6 =>
(f_X12_spreadIn x6 1).bind fun x7 =>
(lp (X := Int × Int × Int × MM) (Y := Int × Int × MM) (fun x8 =>
if p1 < x8.2.2.1 then
(some (Sum.inr (x8.1, x8.2.1, x8.2.2.2)))
else
(f_X12_goOn x8.2.2.2 1).bind fun x10 =>
(f_X12_spreadIn x10 1).bind fun x11 =>
((if x8.2.1 < x11 then
((f_X12_spreadIn x10 1).bind fun x13 =>
some (x8.2.2.1, x13))
else
some (x8.1, x8.2.1)) : Option (Int × Int)).bind fun x14 =>
some (Sum.inl (x14.1, x14.2, w32 (x8.2.2.1 + 1), x10))) FU (0, x7, 1, x6)).bind fun x15 =>
if p2 = 0 then
(some (x15.1, x15.2.2))
else
some (x15.2.1, x15.2.2)
set_option maxRecDepth 4000 in
theorem c_X12_apart {E : EE} {sh : List (Nat × Nat)} {ex : Bool} {R : RM} {M : MM} {p1 : Int} {p2 : Int} (hE : Ext sh) (hL : Links R) : ∀ y, f_X12_apart M p1 p2 = some y → MetC E m_X12_apart 0 0 [rV 88, iV p1, iV p2] (sh, ex, R, M) (fun r w' => r = some (iV y.1) ∧ w' = (sh, ex, R, y.2)) := by
  intro y hy
  refine MetC.seg (o := f_X12_apart M p1 p2) (t := (fun K y => K (some (iV y.1)) (sh, ex, R, y.2))) (L := [some (rV 88), some (iV p1), some (iV p2), none, none, none]) (by decide) rfl (Nat.le_of_ble_eq_true rfl) ?_ hy ⟨rfl, rfl⟩
  unfold f_X12_apart
  refine Seg.step (pc' := 1) (I_aload_n (i := 0) dX12_apart_0 rfl rfl) ?_
  refine Seg.step (pc' := 2) (I_iconst dX12_apart_1 ⟨by decide, by decide⟩) ?_
  refine Seg.step (pc' := 5) (I_putI cls12 (by decide) wf_12_175 (hE _ _ sk_12) rfl rfl dX12_apart_2) ?_
  refine S_bM fun M1 => ?_
  refine Seg.step (pc' := 6) (I_iload_n (i := 1) dX12_apart_5 rfl rfl) ?_
  refine Seg.step (pc' := 7) (I_iconst dX12_apart_6 ⟨by decide, by decide⟩) ?_
  refine Seg.step (pc' := 10) (I_sipush dX12_apart_7 (by decide) ⟨by decide, by decide⟩) ?_
  refine S_callS3 (md' := m_X12_isIn) (fun y => some (iV y)) (fun y => (sh, ex, R, M1)) mm_X12_isIn wm_12_220 ⟨rfl, rfl, by decide, by decide, by decide, by decide⟩ (Nat.le_of_ble_eq_true rfl) dX12_apart_10 (fun y hy => c_X12_isIn hE hL y hy) (fun x2 => ?_)
  refine S_if_eq (tgt := 25) dX12_apart_13 (by decide) (fun h3 => ?_) (fun h3 => ?_)
  · refine Seg.step (pc' := 26) (I_iconst dX12_apart_25 ⟨by decide, by decide⟩) ?_
    exact S_iret dX12_apart_26 rfl (by decide) (by decide) (fun K hK => hK)
  refine Seg.step (pc' := 17) (I_iload_n (i := 2) dX12_apart_16 rfl rfl) ?_
  refine Seg.step (pc' := 18) (I_iconst dX12_apart_17 ⟨by decide, by decide⟩) ?_
  refine Seg.step (pc' := 19) (I_iconst dX12_apart_18 ⟨by decide, by decide⟩) ?_
  refine S_callS3 (md' := m_X12_isIn) (fun y => some (iV y)) (fun y => (sh, ex, R, M1)) mm_X12_isIn wm_12_220 ⟨rfl, rfl, by decide, by decide, by decide, by decide⟩ (Nat.le_of_ble_eq_true rfl) dX12_apart_19 (fun y hy => c_X12_isIn hE hL y hy) (fun x4 => ?_)
  refine S_if_ne (tgt := 27) dX12_apart_22 (by decide) (fun h5 => ?_) (fun h5 => ?_)
  · refine Seg.step (pc' := 26) (I_iconst dX12_apart_25 ⟨by decide, by decide⟩) ?_
    exact S_iret dX12_apart_26 rfl (by decide) (by decide) (fun K hK => hK)
  refine Seg.step (pc' := 28) (I_aload_n (i := 0) dX12_apart_27 rfl rfl) ?_
  refine S_callV0 (md' := m_X12_layTried) (fun y => none) (fun y => (sh, ex, R, y)) (hE _ _ sk_12) ⟨by decide, rfl⟩ mm_X12_layTried wm_12_430 ⟨rfl, rfl, by decide, by decide, by decide, by decide⟩ (Nat.le_of_ble_eq_true rfl) dX12_apart_28 (fun y hy => c_X12_layTried hE hL y hy) (fun x6 => ?_)
  refine Seg.step (pc' := 32) (I_iconst dX12_apart_31 ⟨by decide, by decide⟩) ?_
  refine Seg.step (pc' := 33) (I_istore_n (i := 3) dX12_apart_32 rfl (by decide) rfl) ?_
  refine Seg.step (pc' := 34) (I_aload_n (i := 0) dX12_apart_33 rfl rfl) ?_
  refine Seg.step (pc' := 35) (I_iconst dX12_apart_34 ⟨by decide, by decide⟩) ?_
  refine S_callV1 (md' := m_X12_spreadIn) (fun y => some (iV y)) (fun y => (sh, ex, R, x6)) (hE _ _ sk_12) ⟨by decide, rfl⟩ mm_X12_spreadIn wm_12_512 ⟨rfl, rfl, by decide, by decide, by decide, by decide⟩ (Nat.le_of_ble_eq_true rfl) dX12_apart_35 (fun y hy => c_X12_spreadIn hE hL y hy) (fun x7 => ?_)
  refine Seg.step (pc' := 40) (I_istore dX12_apart_38 (by decide) rfl) ?_
  refine Seg.step (pc' := 41) (I_iconst dX12_apart_40 ⟨by decide, by decide⟩) ?_
  refine Seg.step (pc' := 43) (I_istore dX12_apart_41 (by decide) rfl) ?_
  refine Seg.forget (Lle.ye (Lle.ye (Lle.ye (Lle.ye (Lle.ye (Lle.ye (Lle.nil))))))) ?_
  refine S_bind (Y := Int × Int × MM) (k' := 0) (n' := 0) 83 (fun y => [none, none, some (iV p2), some (iV y.1), some (iV y.2.1), none]) (fun y => []) (fun y => (sh, ex, R, y.2.2)) (S_loop (Y := Int × Int × Int × MM) (fun y => [some (rV 88), some (iV p1), some (iV p2), some (iV y.1), some (iV y.2.1), some (iV y.2.2.1)]) (fun y => []) (fun y => (sh, ex, R, y.2.2.2)) (fun x8 => ?_) FU (0, x7, 1, x6)) (fun x15 => ?_)
  · refine Seg.step (pc' := 45) (I_iload dX12_apart_43 rfl) ?_
    refine Seg.step (pc' := 46) (I_iload_n (i := 1) dX12_apart_45 rfl rfl) ?_
    refine S_icmp_gt (tgt := 83) dX12_apart_46 (by decide) (fun h9 => ?_) (fun h9 => ?_)
    · exact S_arr (fun K hK => GG.forget (Lle.no (Lle.no (Lle.ye (Lle.ye (Lle.ye (Lle.no (Lle.nil))))))) hK)
    refine Seg.step (pc' := 50) (I_aload_n (i := 0) dX12_apart_49 rfl rfl) ?_
    refine Seg.step (pc' := 51) (I_iconst dX12_apart_50 ⟨by decide, by decide⟩) ?_
    refine S_callV1 (md' := m_X12_goOn) (fun y => none) (fun y => (sh, ex, R, y)) (hE _ _ sk_12) ⟨by decide, rfl⟩ mm_X12_goOn wm_12_479 ⟨rfl, rfl, by decide, by decide, by decide, by decide⟩ (Nat.le_of_ble_eq_true rfl) dX12_apart_51 (fun y hy => c_X12_goOn hE hL y hy) (fun x10 => ?_)
    refine Seg.step (pc' := 55) (I_aload_n (i := 0) dX12_apart_54 rfl rfl) ?_
    refine Seg.step (pc' := 56) (I_iconst dX12_apart_55 ⟨by decide, by decide⟩) ?_
    refine S_callV1 (md' := m_X12_spreadIn) (fun y => some (iV y)) (fun y => (sh, ex, R, x10)) (hE _ _ sk_12) ⟨by decide, rfl⟩ mm_X12_spreadIn wm_12_512 ⟨rfl, rfl, by decide, by decide, by decide, by decide⟩ (Nat.le_of_ble_eq_true rfl) dX12_apart_56 (fun y hy => c_X12_spreadIn hE hL y hy) (fun x11 => ?_)
    refine Seg.step (pc' := 61) (I_iload dX12_apart_59 rfl) ?_
    refine S_bind (Y := Int × Int) (k' := 0) (n' := 0) 77 (fun y => [some (rV 88), some (iV p1), some (iV p2), some (iV y.1), some (iV y.2), some (iV x8.2.2.1)]) (fun y => []) (fun y => (sh, ex, R, x10)) ?_ (fun x14 => ?_)
    · refine S_icmp_gt (tgt := 67) dX12_apart_61 (by decide) (fun h12 => ?_) (fun h12 => ?_)
      · refine Seg.step (pc' := 69) (I_iload dX12_apart_67 rfl) ?_
        refine Seg.step (pc' := 70) (I_istore_n (i := 3) dX12_apart_69 rfl (by decide) rfl) ?_
        refine Seg.step (pc' := 71) (I_aload_n (i := 0) dX12_apart_70 rfl rfl) ?_
        refine Seg.step (pc' := 72) (I_iconst dX12_apart_71 ⟨by decide, by decide⟩) ?_
        refine S_callV1 (md' := m_X12_spreadIn) (fun y => some (iV y)) (fun y => (sh, ex, R, x10)) (hE _ _ sk_12) ⟨by decide, rfl⟩ mm_X12_spreadIn wm_12_512 ⟨rfl, rfl, by decide, by decide, by decide, by decide⟩ (Nat.le_of_ble_eq_true rfl) dX12_apart_72 (fun y hy => c_X12_spreadIn hE hL y hy) (fun x13 => ?_)
        refine Seg.step (pc' := 77) (I_istore dX12_apart_75 (by decide) rfl) ?_
        exact S_arr (fun K hK => GG.forget (Lle.ye (Lle.ye (Lle.ye (Lle.ye (Lle.ye (Lle.ye (Lle.nil))))))) hK)
      refine Seg.step (pc' := 77) (I_goto (tgt := 77) dX12_apart_64 (by decide)) ?_
      exact S_arr (fun K hK => GG.forget (Lle.ye (Lle.ye (Lle.ye (Lle.ye (Lle.ye (Lle.ye (Lle.nil))))))) hK)
    refine Seg.step (pc' := 80) (I_iinc dX12_apart_77 rfl (by decide) rfl) ?_
    refine Seg.step (pc' := 43) (I_goto (tgt := 43) dX12_apart_80 (by decide)) ?_
    exact S_arr (fun K hK => GG.forget (Lle.ye (Lle.ye (Lle.ye (Lle.ye (Lle.ye (Lle.ye (Lle.nil))))))) hK)
  refine Seg.step (pc' := 84) (I_iload_n (i := 2) dX12_apart_83 rfl rfl) ?_
  refine S_if_ne (tgt := 91) dX12_apart_84 (by decide) (fun h16 => ?_) (fun h16 => ?_)
  · refine Seg.step (pc' := 88) (I_iload_n (i := 3) dX12_apart_87 rfl rfl) ?_
    refine Seg.step (pc' := 93) (I_goto (tgt := 93) dX12_apart_88 (by decide)) ?_
    exact S_iret dX12_apart_93 rfl (by decide) (by decide) (fun K hK => hK)
  refine Seg.step (pc' := 93) (I_iload dX12_apart_91 rfl) ?_
  exact S_iret dX12_apart_93 rfl (by decide) (by decide) (fun K hK => hK)
theorem dX12_said_0 : decode cX12_said 0 = .ok (.iload_n 1, 1) := by decide +kernel
theorem dX12_said_1 : decode cX12_said 1 = .ok (.ifCond .ne 7, 3) := by decide +kernel
theorem dX12_said_4 : decode cX12_said 4 = .ok (.iload_n 0, 1) := by decide +kernel
theorem dX12_said_5 : decode cX12_said 5 = .ok (.goto 17, 3) := by decide +kernel
theorem dX12_said_8 : decode cX12_said 8 = .ok (.iload_n 1, 1) := by decide +kernel
theorem dX12_said_9 : decode cX12_said 9 = .ok (.iconst 1, 1) := by decide +kernel
theorem dX12_said_10 : decode cX12_said 10 = .ok (.if_icmp .ne 9, 3) := by decide +kernel
theorem dX12_said_13 : decode cX12_said 13 = .ok (.iload_n 0, 1) := by decide +kernel
theorem dX12_said_14 : decode cX12_said 14 = .ok (.iconst 2, 1) := by decide +kernel
theorem dX12_said_15 : decode cX12_said 15 = .ok (.iadd, 1) := by decide +kernel
theorem dX12_said_16 : decode cX12_said 16 = .ok (.goto 6, 3) := by decide +kernel
theorem dX12_said_19 : decode cX12_said 19 = .ok (.iload_n 0, 1) := by decide +kernel
theorem dX12_said_20 : decode cX12_said 20 = .ok (.iconst 2, 1) := by decide +kernel
theorem dX12_said_21 : decode cX12_said 21 = .ok (.isub, 1) := by decide +kernel
theorem dX12_said_22 : decode cX12_said 22 = .ok (.ireturn, 1) := by decide +kernel
def f_X12_said (M : MM) (p1 : Int) (p2 : Int) : Option (Int) :=
if p2 = 0 then
(some p1)
else
if p2 = 1 then
(some (w32 (p1 + 2)))
else
some (w32 (p1 - 2))
set_option maxRecDepth 4000 in
theorem c_X12_said {E : EE} {sh : List (Nat × Nat)} {ex : Bool} {R : RM} {M : MM} {p1 : Int} {p2 : Int} (hE : Ext sh) (hL : Links R) : ∀ y, f_X12_said M p1 p2 = some y → MetC E m_X12_said 0 0 [iV p1, iV p2] (sh, ex, R, M) (fun r w' => r = some (iV y) ∧ w' = (sh, ex, R, M)) := by
  intro y hy
  refine MetC.seg (o := f_X12_said M p1 p2) (t := (fun K y => K (some (iV y)) (sh, ex, R, M))) (L := [some (iV p1), some (iV p2)]) (by decide) rfl (Nat.le_of_ble_eq_true rfl) ?_ hy ⟨rfl, rfl⟩
  unfold f_X12_said
  refine Seg.step (pc' := 1) (I_iload_n (i := 1) dX12_said_0 rfl rfl) ?_
  refine S_if_ne (tgt := 8) dX12_said_1 (by decide) (fun h1 => ?_) (fun h1 => ?_)
  · refine Seg.step (pc' := 5) (I_iload_n (i := 0) dX12_said_4 rfl rfl) ?_
    refine Seg.step (pc' := 22) (I_goto (tgt := 22) dX12_said_5 (by decide)) ?_
    exact S_iret dX12_said_22 rfl (by decide) (by decide) (fun K hK => hK)
  refine Seg.step (pc' := 9) (I_iload_n (i := 1) dX12_said_8 rfl rfl) ?_
  refine Seg.step (pc' := 10) (I_iconst dX12_said_9 ⟨by decide, by decide⟩) ?_
  refine S_icmp_ne (tgt := 19) dX12_said_10 (by decide) (fun h2 => ?_) (fun h2 => ?_)
  · refine Seg.step (pc' := 14) (I_iload_n (i := 0) dX12_said_13 rfl rfl) ?_
    refine Seg.step (pc' := 15) (I_iconst dX12_said_14 ⟨by decide, by decide⟩) ?_
    refine Seg.step (pc' := 16) (I_iadd dX12_said_15) ?_
    refine Seg.step (pc' := 22) (I_goto (tgt := 22) dX12_said_16 (by decide)) ?_
    exact S_iret dX12_said_22 rfl (by decide) (by decide) (fun K hK => hK)
  refine Seg.step (pc' := 20) (I_iload_n (i := 0) dX12_said_19 rfl rfl) ?_
  refine Seg.step (pc' := 21) (I_iconst dX12_said_20 ⟨by decide, by decide⟩) ?_
  refine Seg.step (pc' := 22) (I_isub dX12_said_21) ?_
  exact S_iret dX12_said_22 rfl (by decide) (by decide) (fun K hK => hK)
theorem dX12_loss_0 : decode cX12_loss 0 = .ok (.bipush 10, 2) := by decide +kernel
theorem dX12_loss_2 : decode cX12_loss 2 = .ok (.iload_n 2, 1) := by decide +kernel
theorem dX12_loss_3 : decode cX12_loss 3 = .ok (.iload_n 0, 1) := by decide +kernel
theorem dX12_loss_4 : decode cX12_loss 4 = .ok (.isub, 1) := by decide +kernel
theorem dX12_loss_5 : decode cX12_loss 5 = .ok (.imul, 1) := by decide +kernel
theorem dX12_loss_6 : decode cX12_loss 6 = .ok (.istore_n 3, 1) := by decide +kernel
theorem dX12_loss_7 : decode cX12_loss 7 = .ok (.iload_n 3, 1) := by decide +kernel
theorem dX12_loss_8 : decode cX12_loss 8 = .ok (.ifCond .ge 8, 3) := by decide +kernel
theorem dX12_loss_11 : decode cX12_loss 11 = .ok (.iload_n 3, 1) := by decide +kernel
theorem dX12_loss_12 : decode cX12_loss 12 = .ok (.ineg, 1) := by decide +kernel
theorem dX12_loss_13 : decode cX12_loss 13 = .ok (.goto 4, 3) := by decide +kernel
theorem dX12_loss_16 : decode cX12_loss 16 = .ok (.iload_n 3, 1) := by decide +kernel
theorem dX12_loss_17 : decode cX12_loss 17 = .ok (.iload_n 1, 1) := by decide +kernel
theorem dX12_loss_18 : decode cX12_loss 18 = .ok (.ifCond .ne 7, 3) := by decide +kernel
theorem dX12_loss_21 : decode cX12_loss 21 = .ok (.iconst 0, 1) := by decide +kernel
theorem dX12_loss_22 : decode cX12_loss 22 = .ok (.goto 5, 3) := by decide +kernel
theorem dX12_loss_25 : decode cX12_loss 25 = .ok (.bipush 6, 2) := by decide +kernel
theorem dX12_loss_27 : decode cX12_loss 27 = .ok (.iadd, 1) := by decide +kernel
theorem dX12_loss_28 : decode cX12_loss 28 = .ok (.ireturn, 1) := by decide +kernel
def f_X12_loss (M : MM) (p1 : Int) (p2 : Int) (p3 : Int) : Option (Int) :=
bI (w32 (10 * (w32 (p3 - p1)))) fun x1 =>
((if x1 < 0 then
(some (w32 (-x1)))
else
some x1) : Option (Int)).bind fun x3 =>
((if p2 = 0 then
(some 0)
else
some 6) : Option (Int)).bind fun x5 =>
some (w32 (x3 + x5))
set_option maxRecDepth 4000 in
theorem c_X12_loss {E : EE} {sh : List (Nat × Nat)} {ex : Bool} {R : RM} {M : MM} {p1 : Int} {p2 : Int} {p3 : Int} (hE : Ext sh) (hL : Links R) : ∀ y, f_X12_loss M p1 p2 p3 = some y → MetC E m_X12_loss 0 0 [iV p1, iV p2, iV p3] (sh, ex, R, M) (fun r w' => r = some (iV y) ∧ w' = (sh, ex, R, M)) := by
  intro y hy
  refine MetC.seg (o := f_X12_loss M p1 p2 p3) (t := (fun K y => K (some (iV y)) (sh, ex, R, M))) (L := [some (iV p1), some (iV p2), some (iV p3), none]) (by decide) rfl (Nat.le_of_ble_eq_true rfl) ?_ hy ⟨rfl, rfl⟩
  unfold f_X12_loss
  refine Seg.step (pc' := 2) (I_bipush dX12_loss_0 (by decide) ⟨by decide, by decide⟩) ?_
  refine Seg.step (pc' := 3) (I_iload_n (i := 2) dX12_loss_2 rfl rfl) ?_
  refine Seg.step (pc' := 4) (I_iload_n (i := 0) dX12_loss_3 rfl rfl) ?_
  refine Seg.step (pc' := 5) (I_isub dX12_loss_4) ?_
  refine Seg.step (pc' := 6) (I_imul dX12_loss_5) ?_
  refine S_bI fun x1 => ?_
  refine Seg.step (pc' := 7) (I_istore_n (i := 3) dX12_loss_6 rfl (by decide) rfl) ?_
  refine Seg.step (pc' := 8) (I_iload_n (i := 3) dX12_loss_7 rfl rfl) ?_
  refine S_bind (Y := Int) (k' := 0) (n' := 0) 17 (fun y => [none, some (iV p2), none, none]) (fun y => [iV y]) (fun y => (sh, ex, R, M)) ?_ (fun x3 => ?_)
  · refine S_if_ge (tgt := 16) dX12_loss_8 (by decide) (fun h2 => ?_) (fun h2 => ?_)
    · refine Seg.step (pc' := 12) (I_iload_n (i := 3) dX12_loss_11 rfl rfl) ?_
      refine Seg.step (pc' := 13) (I_ineg dX12_loss_12) ?_
      refine Seg.step (pc' := 17) (I_goto (tgt := 17) dX12_loss_13 (by decide)) ?_
      exact S_arr (fun K hK => GG.forget (Lle.no (Lle.ye (Lle.no (Lle.no (Lle.nil))))) hK)
    refine Seg.step (pc' := 17) (I_iload_n (i := 3) dX12_loss_16 rfl rfl) ?_
    exact S_arr (fun K hK => GG.forget (Lle.no (Lle.ye (Lle.no (Lle.no (Lle.nil))))) hK)
  refine Seg.step (pc' := 18) (I_iload_n (i := 1) dX12_loss_17 rfl rfl) ?_
  refine S_bind (Y := Int) (k' := 0) (n' := 0) 27 (fun y => [none, none, none, none]) (fun y => [iV y, iV x3]) (fun y => (sh, ex, R, M)) ?_ (fun x5 => ?_)
  · refine S_if_ne (tgt := 25) dX12_loss_18 (by decide) (fun h4 => ?_) (fun h4 => ?_)
    · refine Seg.step (pc' := 22) (I_iconst dX12_loss_21 ⟨by decide, by decide⟩) ?_
      refine Seg.step (pc' := 27) (I_goto (tgt := 27) dX12_loss_22 (by decide)) ?_
      exact S_arr (fun K hK => GG.forget (Lle.no (Lle.no (Lle.no (Lle.no (Lle.nil))))) hK)
    refine Seg.step (pc' := 27) (I_bipush dX12_loss_25 (by decide) ⟨by decide, by decide⟩) ?_
    exact S_arr (fun K hK => GG.forget (Lle.no (Lle.no (Lle.no (Lle.no (Lle.nil))))) hK)
  refine Seg.step (pc' := 28) (I_iadd dX12_loss_27) ?_
  exact S_iret dX12_loss_28 rfl (by decide) (by decide) (fun K hK => hK)
theorem dX12_lossBy_0 : decode cX12_lossBy 0 = .ok (.aload_n 0, 1) := by decide +kernel
theorem dX12_lossBy_1 : decode cX12_lossBy 1 = .ok (.getfield 45, 3) := by decide +kernel
theorem dX12_lossBy_4 : decode cX12_lossBy 4 = .ok (.iload_n 3, 1) := by decide +kernel
theorem dX12_lossBy_5 : decode cX12_lossBy 5 = .ok (.iaload, 1) := by decide +kernel
theorem dX12_lossBy_6 : decode cX12_lossBy 6 = .ok (.iload_n 1, 1) := by decide +kernel
theorem dX12_lossBy_7 : decode cX12_lossBy 7 = .ok (.aload_n 0, 1) := by decide +kernel
theorem dX12_lossBy_8 : decode cX12_lossBy 8 = .ok (.getfield 45, 3) := by decide +kernel
theorem dX12_lossBy_11 : decode cX12_lossBy 11 = .ok (.iload_n 3, 1) := by decide +kernel
theorem dX12_lossBy_12 : decode cX12_lossBy 12 = .ok (.iaload, 1) := by decide +kernel
theorem dX12_lossBy_13 : decode cX12_lossBy 13 = .ok (.iload_n 1, 1) := by decide +kernel
theorem dX12_lossBy_14 : decode cX12_lossBy 14 = .ok (.invokestatic 515, 3) := by decide +kernel
theorem dX12_lossBy_17 : decode cX12_lossBy 17 = .ok (.aload_n 0, 1) := by decide +kernel
theorem dX12_lossBy_18 : decode cX12_lossBy 18 = .ok (.getfield 45, 3) := by decide +kernel
theorem dX12_lossBy_21 : decode cX12_lossBy 21 = .ok (.iload 4, 2) := by decide +kernel
theorem dX12_lossBy_23 : decode cX12_lossBy 23 = .ok (.iaload, 1) := by decide +kernel
theorem dX12_lossBy_24 : decode cX12_lossBy 24 = .ok (.iload_n 2, 1) := by decide +kernel
theorem dX12_lossBy_25 : decode cX12_lossBy 25 = .ok (.invokestatic 515, 3) := by decide +kernel
theorem dX12_lossBy_28 : decode cX12_lossBy 28 = .ok (.iadd, 1) := by decide +kernel
theorem dX12_lossBy_29 : decode cX12_lossBy 29 = .ok (.iconst 2, 1) := by decide +kernel
theorem dX12_lossBy_30 : decode cX12_lossBy 30 = .ok (.idiv, 1) := by decide +kernel
theorem dX12_lossBy_31 : decode cX12_lossBy 31 = .ok (.iconst 5, 1) := by decide +kernel
theorem dX12_lossBy_32 : decode cX12_lossBy 32 = .ok (.bipush 30, 2) := by decide +kernel
theorem dX12_lossBy_34 : decode cX12_lossBy 34 = .ok (.invokestatic 433, 3) := by decide +kernel
theorem dX12_lossBy_37 : decode cX12_lossBy 37 = .ok (.invokestatic 518, 3) := by decide +kernel
theorem dX12_lossBy_40 : decode cX12_lossBy 40 = .ok (.ireturn, 1) := by decide +kernel
def f_X12_lossBy (M : MM) (p1 : Int) (p2 : Int) (p3 : Int) (p4 : Int) : Option (Int) :=
gd (0 ≤ p3 ∧ p3 < (10 : Int)) <|
gd (0 ≤ p3 ∧ p3 < (10 : Int)) <|
(f_X12_said M (M 99 (p3).toNat) p1).bind fun x3 =>
gd (0 ≤ p4 ∧ p4 < (10 : Int)) <|
(f_X12_said M (M 99 (p4).toNat) p2).bind fun x5 =>
(f_X12_within M (w32 (Int.tdiv (w32 (x3 + x5)) 2)) 5 30).bind fun x6 =>
(f_X12_loss M (M 99 (p3).toNat) p1 x6).bind fun x7 =>
some x7
set_option maxRecDepth 4000 in
theorem c_X12_lossBy {E : EE} {sh : List (Nat × Nat)} {ex : Bool} {R : RM} {M : MM} {p1 : Int} {p2 : Int} {p3 : Int} {p4 : Int} (hE : Ext sh) (hL : Links R) : ∀ y, f_X12_lossBy M p1 p2 p3 p4 = some y → MetC E m_X12_lossBy 0 0 [rV 88, iV p1, iV p2, iV p3, iV p4] (sh, ex, R, M) (fun r w' => r = some (iV y) ∧ w' = (sh, ex, R, M)) := by
  intro y hy
  refine MetC.seg (o := f_X12_lossBy M p1 p2 p3 p4) (t := (fun K y => K (some (iV y)) (sh, ex, R, M))) (L := [some (rV 88), some (iV p1), some (iV p2), some (iV p3), some (iV p4)]) (by decide) rfl (Nat.le_of_ble_eq_true rfl) ?_ hy ⟨rfl, rfl⟩
  unfold f_X12_lossBy
  refine Seg.step (pc' := 1) (I_aload_n (i := 0) dX12_lossBy_0 rfl rfl) ?_
  refine Seg.step (pc' := 4) (I_getR cls12 (by decide) wf_12_45 (hE _ _ sk_12) rfl (lk_12_30 hL) dX12_lossBy_1) ?_
  refine Seg.step (pc' := 5) (I_iload_n (i := 3) dX12_lossBy_4 rfl rfl) ?_
  refine S_gd fun h1 => ?_
  refine Seg.step (pc' := 6) (I_iald (hE _ _ sk_12_30) h1 dX12_lossBy_5) ?_
  refine Seg.step (pc' := 7) (I_iload_n (i := 1) dX12_lossBy_6 rfl rfl) ?_
  refine Seg.step (pc' := 8) (I_aload_n (i := 0) dX12_lossBy_7 rfl rfl) ?_
  refine Seg.step (pc' := 11) (I_getR cls12 (by decide) wf_12_45 (hE _ _ sk_12) rfl (lk_12_30 hL) dX12_lossBy_8) ?_
  refine Seg.step (pc' := 12) (I_iload_n (i := 3) dX12_lossBy_11 rfl rfl) ?_
  refine S_gd fun h2 => ?_
  refine Seg.step (pc' := 13) (I_iald (hE _ _ sk_12_30) h2 dX12_lossBy_12) ?_
  refine Seg.step (pc' := 14) (I_iload_n (i := 1) dX12_lossBy_13 rfl rfl) ?_
  refine S_callS2 (md' := m_X12_said) (fun y => some (iV y)) (fun y => (sh, ex, R, M)) mm_X12_said wm_12_515 ⟨rfl, rfl, by decide, by decide, by decide, by decide⟩ (Nat.le_of_ble_eq_true rfl) dX12_lossBy_14 (fun y hy => c_X12_said hE hL y hy) (fun x3 => ?_)
  refine Seg.step (pc' := 18) (I_aload_n (i := 0) dX12_lossBy_17 rfl rfl) ?_
  refine Seg.step (pc' := 21) (I_getR cls12 (by decide) wf_12_45 (hE _ _ sk_12) rfl (lk_12_30 hL) dX12_lossBy_18) ?_
  refine Seg.step (pc' := 23) (I_iload dX12_lossBy_21 rfl) ?_
  refine S_gd fun h4 => ?_
  refine Seg.step (pc' := 24) (I_iald (hE _ _ sk_12_30) h4 dX12_lossBy_23) ?_
  refine Seg.step (pc' := 25) (I_iload_n (i := 2) dX12_lossBy_24 rfl rfl) ?_
  refine S_callS2 (md' := m_X12_said) (fun y => some (iV y)) (fun y => (sh, ex, R, M)) mm_X12_said wm_12_515 ⟨rfl, rfl, by decide, by decide, by decide, by decide⟩ (Nat.le_of_ble_eq_true rfl) dX12_lossBy_25 (fun y hy => c_X12_said hE hL y hy) (fun x5 => ?_)
  refine Seg.step (pc' := 29) (I_iadd dX12_lossBy_28) ?_
  refine Seg.step (pc' := 30) (I_iconst dX12_lossBy_29 ⟨by decide, by decide⟩) ?_
  refine Seg.step (pc' := 31) (I_idiv dX12_lossBy_30 (by decide)) ?_
  refine Seg.step (pc' := 32) (I_iconst dX12_lossBy_31 ⟨by decide, by decide⟩) ?_
  refine Seg.step (pc' := 34) (I_bipush dX12_lossBy_32 (by decide) ⟨by decide, by decide⟩) ?_
  refine S_callS3 (md' := m_X12_within) (fun y => some (iV y)) (fun y => (sh, ex, R, M)) mm_X12_within wm_12_433 ⟨rfl, rfl, by decide, by decide, by decide, by decide⟩ (Nat.le_of_ble_eq_true rfl) dX12_lossBy_34 (fun y hy => c_X12_within hE hL y hy) (fun x6 => ?_)
  refine S_callS3 (md' := m_X12_loss) (fun y => some (iV y)) (fun y => (sh, ex, R, M)) mm_X12_loss wm_12_518 ⟨rfl, rfl, by decide, by decide, by decide, by decide⟩ (Nat.le_of_ble_eq_true rfl) dX12_lossBy_37 (fun y hy => c_X12_loss hE hL y hy) (fun x7 => ?_)
  exact S_iret dX12_lossBy_40 rfl (by decide) (by decide) (fun K hK => hK)
theorem dX12_restAt_0 : decode cX12_restAt 0 = .ok (.iconst 0, 1) := by decide +kernel
theorem dX12_restAt_1 : decode cX12_restAt 1 = .ok (.istore 4, 2) := by decide +kernel
theorem dX12_restAt_3 : decode cX12_restAt 3 = .ok (.iconst 0, 1) := by decide +kernel
theorem dX12_restAt_4 : decode cX12_restAt 4 = .ok (.istore 5, 2) := by decide +kernel
theorem dX12_restAt_6 : decode cX12_restAt 6 = .ok (.iload 5, 2) := by decide +kernel
theorem dX12_restAt_8 : decode cX12_restAt 8 = .ok (.bipush 9, 2) := by decide +kernel
theorem dX12_restAt_10 : decode cX12_restAt 10 = .ok (.if_icmp .ge 123, 3) := by decide +kernel
theorem dX12_restAt_13 : decode cX12_restAt 13 = .ok (.iload 5, 2) := by decide +kernel
theorem dX12_restAt_15 : decode cX12_restAt 15 = .ok (.iconst 3, 1) := by decide +kernel
theorem dX12_restAt_16 : decode cX12_restAt 16 = .ok (.idiv, 1) := by decide +kernel
theorem dX12_restAt_17 : decode cX12_restAt 17 = .ok (.istore 6, 2) := by decide +kernel
theorem dX12_restAt_19 : decode cX12_restAt 19 = .ok (.iload 5, 2) := by decide +kernel
theorem dX12_restAt_21 : decode cX12_restAt 21 = .ok (.iconst 3, 1) := by decide +kernel
theorem dX12_restAt_22 : decode cX12_restAt 22 = .ok (.irem, 1) := by decide +kernel
theorem dX12_restAt_23 : decode cX12_restAt 23 = .ok (.istore 7, 2) := by decide +kernel
theorem dX12_restAt_25 : decode cX12_restAt 25 = .ok (.iconst 1, 1) := by decide +kernel
theorem dX12_restAt_26 : decode cX12_restAt 26 = .ok (.istore 8, 2) := by decide +kernel
theorem dX12_restAt_28 : decode cX12_restAt 28 = .ok (.iconst 0, 1) := by decide +kernel
theorem dX12_restAt_29 : decode cX12_restAt 29 = .ok (.istore 9, 2) := by decide +kernel
theorem dX12_restAt_31 : decode cX12_restAt 31 = .ok (.iload 9, 2) := by decide +kernel
theorem dX12_restAt_33 : decode cX12_restAt 33 = .ok (.iconst 3, 1) := by decide +kernel
theorem dX12_restAt_34 : decode cX12_restAt 34 = .ok (.if_icmp .ge 67, 3) := by decide +kernel
theorem dX12_restAt_37 : decode cX12_restAt 37 = .ok (.iload 8, 2) := by decide +kernel
theorem dX12_restAt_39 : decode cX12_restAt 39 = .ok (.ifCond .eq 53, 3) := by decide +kernel
theorem dX12_restAt_42 : decode cX12_restAt 42 = .ok (.aload_n 0, 1) := by decide +kernel
theorem dX12_restAt_43 : decode cX12_restAt 43 = .ok (.iload 9, 2) := by decide +kernel
theorem dX12_restAt_45 : decode cX12_restAt 45 = .ok (.iload 7, 2) := by decide +kernel
theorem dX12_restAt_47 : decode cX12_restAt 47 = .ok (.iload_n 1, 1) := by decide +kernel
theorem dX12_restAt_48 : decode cX12_restAt 48 = .ok (.iload_n 2, 1) := by decide +kernel
theorem dX12_restAt_49 : decode cX12_restAt 49 = .ok (.invokevirtual 521, 3) := by decide +kernel
theorem dX12_restAt_52 : decode cX12_restAt 52 = .ok (.aload_n 0, 1) := by decide +kernel
theorem dX12_restAt_53 : decode cX12_restAt 53 = .ok (.iload 6, 2) := by decide +kernel
theorem dX12_restAt_55 : decode cX12_restAt 55 = .ok (.iload 7, 2) := by decide +kernel
theorem dX12_restAt_57 : decode cX12_restAt 57 = .ok (.iload_n 1, 1) := by decide +kernel
theorem dX12_restAt_58 : decode cX12_restAt 58 = .ok (.iload_n 2, 1) := by decide +kernel
theorem dX12_restAt_59 : decode cX12_restAt 59 = .ok (.invokevirtual 521, 3) := by decide +kernel
theorem dX12_restAt_62 : decode cX12_restAt 62 = .ok (.if_icmp .lt 30, 3) := by decide +kernel
theorem dX12_restAt_65 : decode cX12_restAt 65 = .ok (.aload_n 0, 1) := by decide +kernel
theorem dX12_restAt_66 : decode cX12_restAt 66 = .ok (.iload 9, 2) := by decide +kernel
theorem dX12_restAt_68 : decode cX12_restAt 68 = .ok (.iload 6, 2) := by decide +kernel
theorem dX12_restAt_70 : decode cX12_restAt 70 = .ok (.iload_n 2, 1) := by decide +kernel
theorem dX12_restAt_71 : decode cX12_restAt 71 = .ok (.iload_n 1, 1) := by decide +kernel
theorem dX12_restAt_72 : decode cX12_restAt 72 = .ok (.invokevirtual 521, 3) := by decide +kernel
theorem dX12_restAt_75 : decode cX12_restAt 75 = .ok (.aload_n 0, 1) := by decide +kernel
theorem dX12_restAt_76 : decode cX12_restAt 76 = .ok (.iload 7, 2) := by decide +kernel
theorem dX12_restAt_78 : decode cX12_restAt 78 = .ok (.iload 6, 2) := by decide +kernel
theorem dX12_restAt_80 : decode cX12_restAt 80 = .ok (.iload_n 2, 1) := by decide +kernel
theorem dX12_restAt_81 : decode cX12_restAt 81 = .ok (.iload_n 1, 1) := by decide +kernel
theorem dX12_restAt_82 : decode cX12_restAt 82 = .ok (.invokevirtual 521, 3) := by decide +kernel
theorem dX12_restAt_85 : decode cX12_restAt 85 = .ok (.if_icmp .lt 7, 3) := by decide +kernel
theorem dX12_restAt_88 : decode cX12_restAt 88 = .ok (.iconst 1, 1) := by decide +kernel
theorem dX12_restAt_89 : decode cX12_restAt 89 = .ok (.goto 4, 3) := by decide +kernel
theorem dX12_restAt_92 : decode cX12_restAt 92 = .ok (.iconst 0, 1) := by decide +kernel
theorem dX12_restAt_93 : decode cX12_restAt 93 = .ok (.istore 8, 2) := by decide +kernel
theorem dX12_restAt_95 : decode cX12_restAt 95 = .ok (.iinc 9 1, 3) := by decide +kernel
theorem dX12_restAt_98 : decode cX12_restAt 98 = .ok (.goto (-67), 3) := by decide +kernel
theorem dX12_restAt_101 : decode cX12_restAt 101 = .ok (.iload 8, 2) := by decide +kernel
theorem dX12_restAt_103 : decode cX12_restAt 103 = .ok (.ifCond .ne 6, 3) := by decide +kernel
theorem dX12_restAt_106 : decode cX12_restAt 106 = .ok (.goto 21, 3) := by decide +kernel
theorem dX12_restAt_109 : decode cX12_restAt 109 = .ok (.iload 4, 2) := by decide +kernel
theorem dX12_restAt_111 : decode cX12_restAt 111 = .ok (.iload_n 3, 1) := by decide +kernel
theorem dX12_restAt_112 : decode cX12_restAt 112 = .ok (.if_icmp .ne 12, 3) := by decide +kernel
theorem dX12_restAt_115 : decode cX12_restAt 115 = .ok (.bipush 10, 2) := by decide +kernel
theorem dX12_restAt_117 : decode cX12_restAt 117 = .ok (.iload 6, 2) := by decide +kernel
theorem dX12_restAt_119 : decode cX12_restAt 119 = .ok (.imul, 1) := by decide +kernel
theorem dX12_restAt_120 : decode cX12_restAt 120 = .ok (.iload 7, 2) := by decide +kernel
theorem dX12_restAt_122 : decode cX12_restAt 122 = .ok (.iadd, 1) := by decide +kernel
theorem dX12_restAt_123 : decode cX12_restAt 123 = .ok (.ireturn, 1) := by decide +kernel
theorem dX12_restAt_124 : decode cX12_restAt 124 = .ok (.iinc 4 1, 3) := by decide +kernel
theorem dX12_restAt_127 : decode cX12_restAt 127 = .ok (.iinc 5 1, 3) := by decide +kernel
theorem dX12_restAt_130 : decode cX12_restAt 130 = .ok (.goto (-124), 3) := by decide +kernel
theorem dX12_restAt_133 : decode cX12_restAt 133 = .ok (.iload_n 3, 1) := by decide +kernel
theorem dX12_restAt_134 : decode cX12_restAt 134 = .ok (.ifCond .ge 8, 3) := by decide +kernel
theorem dX12_restAt_137 : decode cX12_restAt 137 = .ok (.iload 4, 2) := by decide +kernel
theorem dX12_restAt_139 : decode cX12_restAt 139 = .ok (.goto 5, 3) := by decide +kernel
theorem dX12_restAt_142 : decode cX12_restAt 142 = .ok (.bipush (-2), 2) := by decide +kernel
theorem dX12_restAt_144 : decode cX12_restAt 144 = .ok (.ireturn, 1) := by decide +kernel
def f_X12_restAt (M : MM) (p1 : Int) (p2 : Int) (p3 : Int) : Option (Int) :=
bS (lp (X := Int × Int) (Y := (Int) ⊕ (Int)) (fun x1 =>
if x1.2 < 9 then
(bI (w32 (Int.tdiv x1.2 3)) fun x3 =>
bI (w32 (Int.tmod x1.2 3)) fun x4 =>
(lp (X := Int × Int) (Y := Int) (fun x5 =>
if x5.2 < 3 then
(((if x5.1 = 0 then
(some 0)
else
(f_X12_lossBy M x5.2 x4 p1 p2).bind fun x8 =>
(f_X12_lossBy M x3 x4 p1 p2).bind fun x9 =>
if x8 < x9 then
(some 0)
else
(f_X12_lossBy M x5.2 x3 p2 p1).bind fun x11 =>
(f_X12_lossBy M x4 x3 p2 p1).bind fun x12 =>
if x11 < x12 then
(some 0)
else
some 1) : Option (Int)).bind fun x14 =>
some (Sum.inl (x14, w32 (x5.2 + 1))))
else
some (Sum.inr x5.1)) FU (1, 0)).bind fun x15 =>
bS ((if x15 = 0 then
(some (Sum.inl x1.1))
else
if x1.1 = p3 then
(some (Sum.inr (w32 ((w32 (10 * x3)) + x4))))
else
some (Sum.inl (w32 (x1.1 + 1)))) : Option ((Int) ⊕ (Int))) (fun x18 =>
some (Sum.inl (x18, w32 (x1.2 + 1)))) (fun r => (Sum.inr (Sum.inr r))))
else
some (Sum.inr (Sum.inl x1.1))) FU (0, 0)) (fun x19 =>
if p3 < 0 then
(some x19)
else
some (-2)) (fun r => r)
set_option maxRecDepth 4000 in
theorem c_X12_restAt {E : EE} {sh : List (Nat × Nat)} {ex : Bool} {R : RM} {M : MM} {p1 : Int} {p2 : Int} {p3 : Int} (hE : Ext sh) (hL : Links R) : ∀ y, f_X12_restAt M p1 p2 p3 = some y → MetC E m_X12_restAt 0 0 [rV 88, iV p1, iV p2, iV p3] (sh, ex, R, M) (fun r w' => r = some (iV y) ∧ w' = (sh, ex, R, M)) := by
  intro y hy
  refine MetC.seg (o := f_X12_restAt M p1 p2 p3) (t := (fun K y => K (some (iV y)) (sh, ex, R, M))) (L := [some (rV 88), some (iV p1), some (iV p2), some (iV p3), none, none, none, none, none, none]) (by decide) rfl (Nat.le_of_ble_eq_true rfl) ?_ hy ⟨rfl, rfl⟩
  unfold f_X12_restAt
  refine Seg.step (pc' := 1) (I_iconst dX12_restAt_0 ⟨by decide, by decide⟩) ?_
  refine Seg.step (pc' := 3) (I_istore dX12_restAt_1 (by decide) rfl) ?_
  refine Seg.step (pc' := 4) (I_iconst dX12_restAt_3 ⟨by decide, by decide⟩) ?_
  refine Seg.step (pc' := 6) (I_istore dX12_restAt_4 (by decide) rfl) ?_
  refine Seg.forget (Lle.ye (Lle.ye (Lle.ye (Lle.ye (Lle.ye (Lle.ye (Lle.no (Lle.no (Lle.no (Lle.no (Lle.nil))))))))))) ?_
  refine S_bind2 (Y := Int) (k' := 0) (n' := 0) 133 (fun y => [none, none, none, some (iV p3), some (iV y), none, none, none, none, none]) (fun y => []) (fun y => (sh, ex, R, M)) (S_loop (Y := Int × Int) (fun y => [some (rV 88), some (iV p1), some (iV p2), some (iV p3), some (iV y.1), some (iV y.2), none, none, none, none]) (fun y => []) (fun y => (sh, ex, R, M)) (fun x1 => ?_) FU (0, 0)) (fun x19 => ?_)
  · refine Seg.step (pc' := 8) (I_iload dX12_restAt_6 rfl) ?_
    refine Seg.step (pc' := 10) (I_bipush dX12_restAt_8 (by decide) ⟨by decide, by decide⟩) ?_
    refine S_icmp_ge (tgt := 133) dX12_restAt_10 (by decide) (fun h2 => ?_) (fun h2 => ?_)
    · refine Seg.step (pc' := 15) (I_iload dX12_restAt_13 rfl) ?_
      refine Seg.step (pc' := 16) (I_iconst dX12_restAt_15 ⟨by decide, by decide⟩) ?_
      refine Seg.step (pc' := 17) (I_idiv dX12_restAt_16 (by decide)) ?_
      refine S_bI fun x3 => ?_
      refine Seg.step (pc' := 19) (I_istore dX12_restAt_17 (by decide) rfl) ?_
      refine Seg.step (pc' := 21) (I_iload dX12_restAt_19 rfl) ?_
      refine Seg.step (pc' := 22) (I_iconst dX12_restAt_21 ⟨by decide, by decide⟩) ?_
      refine Seg.step (pc' := 23) (I_irem dX12_restAt_22 (by decide)) ?_
      refine S_bI fun x4 => ?_
      refine Seg.step (pc' := 25) (I_istore dX12_restAt_23 (by decide) rfl) ?_
      refine Seg.step (pc' := 26) (I_iconst dX12_restAt_25 ⟨by decide, by decide⟩) ?_
      refine Seg.step (pc' := 28) (I_istore dX12_restAt_26 (by decide) rfl) ?_
      refine Seg.step (pc' := 29) (I_iconst dX12_restAt_28 ⟨by decide, by decide⟩) ?_
      refine Seg.step (pc' := 31) (I_istore dX12_restAt_29 (by decide) rfl) ?_
      refine Seg.forget (Lle.ye (Lle.ye (Lle.ye (Lle.ye (Lle.ye (Lle.ye (Lle.ye (Lle.ye (Lle.ye (Lle.ye (Lle.nil))))))))))) ?_
      refine S_bind (Y := Int) (k' := 0) (n' := 0) 101 (fun y => [some (rV 88), some (iV p1), some (iV p2), some (iV p3), some (iV x1.1), some (iV x1.2), some (iV x3), some (iV x4), some (iV y), none]) (fun y => []) (fun y => (sh, ex, R, M)) (S_loop (Y := Int × Int) (fun y => [some (rV 88), some (iV p1), some (iV p2), some (iV p3), some (iV x1.1), some (iV x1.2), some (iV x3), some (iV x4), some (iV y.1), some (iV y.2)]) (fun y => []) (fun y => (sh, ex, R, M)) (fun x5 => ?_) FU (1, 0)) (fun x15 => ?_)
      · refine Seg.step (pc' := 33) (I_iload dX12_restAt_31 rfl) ?_
        refine Seg.step (pc' := 34) (I_iconst dX12_restAt_33 ⟨by decide, by decide⟩) ?_
        refine S_icmp_ge (tgt := 101) dX12_restAt_34 (by decide) (fun h6 => ?_) (fun h6 => ?_)
        · refine Seg.step (pc' := 39) (I_iload dX12_restAt_37 rfl) ?_
          refine S_bind (Y := Int) (k' := 0) (n' := 0) 93 (fun y => [some (rV 88), some (iV p1), some (iV p2), some (iV p3), some (iV x1.1), some (iV x1.2), some (iV x3), some (iV x4), none, some (iV x5.2)]) (fun y => [iV y]) (fun y => (sh, ex, R, M)) ?_ (fun x14 => ?_)
          · refine S_if_eq (tgt := 92) dX12_restAt_39 (by decide) (fun h7 => ?_) (fun h7 => ?_)
            · refine Seg.step (pc' := 93) (I_iconst dX12_restAt_92 ⟨by decide, by decide⟩) ?_
              exact S_arr (fun K hK => GG.forget (Lle.ye (Lle.ye (Lle.ye (Lle.ye (Lle.ye (Lle.ye (Lle.ye (Lle.ye (Lle.no (Lle.ye (Lle.nil))))))))))) hK)
            refine Seg.step (pc' := 43) (I_aload_n (i := 0) dX12_restAt_42 rfl rfl) ?_
            refine Seg.step (pc' := 45) (I_iload dX12_restAt_43 rfl) ?_
            refine Seg.step (pc' := 47) (I_iload dX12_restAt_45 rfl) ?_
            refine Seg.step (pc' := 48) (I_iload_n (i := 1) dX12_restAt_47 rfl rfl) ?_
            refine Seg.step (pc' := 49) (I_iload_n (i := 2) dX12_restAt_48 rfl rfl) ?_
            refine S_callV4 (md' := m_X12_lossBy) (fun y => some (iV y)) (fun y => (sh, ex, R, M)) (hE _ _ sk_12) ⟨by decide, rfl⟩ mm_X12_lossBy wm_12_521 ⟨rfl, rfl, by decide, by decide, by decide, by decide⟩ (Nat.le_of_ble_eq_true rfl) dX12_restAt_49 (fun y hy => c_X12_lossBy hE hL y hy) (fun x8 => ?_)
            refine Seg.step (pc' := 53) (I_aload_n (i := 0) dX12_restAt_52 rfl rfl) ?_
            refine Seg.step (pc' := 55) (I_iload dX12_restAt_53 rfl) ?_
            refine Seg.step (pc' := 57) (I_iload dX12_restAt_55 rfl) ?_
            refine Seg.step (pc' := 58) (I_iload_n (i := 1) dX12_restAt_57 rfl rfl) ?_
            refine Seg.step (pc' := 59) (I_iload_n (i := 2) dX12_restAt_58 rfl rfl) ?_
            refine S_callV4 (md' := m_X12_lossBy) (fun y => some (iV y)) (fun y => (sh, ex, R, M)) (hE _ _ sk_12) ⟨by decide, rfl⟩ mm_X12_lossBy wm_12_521 ⟨rfl, rfl, by decide, by decide, by decide, by decide⟩ (Nat.le_of_ble_eq_true rfl) dX12_restAt_59 (fun y hy => c_X12_lossBy hE hL y hy) (fun x9 => ?_)
            refine S_icmp_lt (tgt := 92) dX12_restAt_62 (by decide) (fun h10 => ?_) (fun h10 => ?_)
            · refine Seg.step (pc' := 93) (I_iconst dX12_restAt_92 ⟨by decide, by decide⟩) ?_
              exact S_arr (fun K hK => GG.forget (Lle.ye (Lle.ye (Lle.ye (Lle.ye (Lle.ye (Lle.ye (Lle.ye (Lle.ye (Lle.no (Lle.ye (Lle.nil))))))))))) hK)
            refine Seg.step (pc' := 66) (I_aload_n (i := 0) dX12_restAt_65 rfl rfl) ?_
            refine Seg.step (pc' := 68) (I_iload dX12_restAt_66 rfl) ?_
            refine Seg.step (pc' := 70) (I_iload dX12_restAt_68 rfl) ?_
            refine Seg.step (pc' := 71) (I_iload_n (i := 2) dX12_restAt_70 rfl rfl) ?_
            refine Seg.step (pc' := 72) (I_iload_n (i := 1) dX12_restAt_71 rfl rfl) ?_
            refine S_callV4 (md' := m_X12_lossBy) (fun y => some (iV y)) (fun y => (sh, ex, R, M)) (hE _ _ sk_12) ⟨by decide, rfl⟩ mm_X12_lossBy wm_12_521 ⟨rfl, rfl, by decide, by decide, by decide, by decide⟩ (Nat.le_of_ble_eq_true rfl) dX12_restAt_72 (fun y hy => c_X12_lossBy hE hL y hy) (fun x11 => ?_)
            refine Seg.step (pc' := 76) (I_aload_n (i := 0) dX12_restAt_75 rfl rfl) ?_
            refine Seg.step (pc' := 78) (I_iload dX12_restAt_76 rfl) ?_
            refine Seg.step (pc' := 80) (I_iload dX12_restAt_78 rfl) ?_
            refine Seg.step (pc' := 81) (I_iload_n (i := 2) dX12_restAt_80 rfl rfl) ?_
            refine Seg.step (pc' := 82) (I_iload_n (i := 1) dX12_restAt_81 rfl rfl) ?_
            refine S_callV4 (md' := m_X12_lossBy) (fun y => some (iV y)) (fun y => (sh, ex, R, M)) (hE _ _ sk_12) ⟨by decide, rfl⟩ mm_X12_lossBy wm_12_521 ⟨rfl, rfl, by decide, by decide, by decide, by decide⟩ (Nat.le_of_ble_eq_true rfl) dX12_restAt_82 (fun y hy => c_X12_lossBy hE hL y hy) (fun x12 => ?_)
            refine S_icmp_lt (tgt := 92) dX12_restAt_85 (by decide) (fun h13 => ?_) (fun h13 => ?_)
            · refine Seg.step (pc' := 93) (I_iconst dX12_restAt_92 ⟨by decide, by decide⟩) ?_
              exact S_arr (fun K hK => GG.forget (Lle.ye (Lle.ye (Lle.ye (Lle.ye (Lle.ye (Lle.ye (Lle.ye (Lle.ye (Lle.no (Lle.ye (Lle.nil))))))))))) hK)
            refine Seg.step (pc' := 89) (I_iconst dX12_restAt_88 ⟨by decide, by decide⟩) ?_
            refine Seg.step (pc' := 93) (I_goto (tgt := 93) dX12_restAt_89 (by decide)) ?_
            exact S_arr (fun K hK => GG.forget (Lle.ye (Lle.ye (Lle.ye (Lle.ye (Lle.ye (Lle.ye (Lle.ye (Lle.ye (Lle.no (Lle.ye (Lle.nil))))))))))) hK)
          refine Seg.step (pc' := 95) (I_istore dX12_restAt_93 (by decide) rfl) ?_
          refine Seg.step (pc' := 98) (I_iinc dX12_restAt_95 rfl (by decide) rfl) ?_
          refine Seg.step (pc' := 31) (I_goto (tgt := 31) dX12_restAt_98 (by decide)) ?_
          exact S_arr (fun K hK => GG.forget (Lle.ye (Lle.ye (Lle.ye (Lle.ye (Lle.ye (Lle.ye (Lle.ye (Lle.ye (Lle.ye (Lle.ye (Lle.nil))))))))))) hK)
        exact S_arr (fun K hK => GG.forget (Lle.ye (Lle.ye (Lle.ye (Lle.ye (Lle.ye (Lle.ye (Lle.ye (Lle.ye (Lle.ye (Lle.no (Lle.nil))))))))))) hK)
      refine Seg.step (pc' := 103) (I_iload dX12_restAt_101 rfl) ?_
      refine S_bind2 (Y := Int) (k' := 0) (n' := 0) 127 (fun y => [some (rV 88), some (iV p1), some (iV p2), some (iV p3), some (iV y), some (iV x1.2), none, none, none, none]) (fun y => []) (fun y => (sh, ex, R, M)) ?_ (fun x18 => ?_)
      · refine S_if_ne (tgt := 109) dX12_restAt_103 (by decide) (fun h16 => ?_) (fun h16 => ?_)
        · refine Seg.step (pc' := 127) (I_goto (tgt := 127) dX12_restAt_106 (by decide)) ?_
          exact S_arr (fun K hK => GG.forget (Lle.ye (Lle.ye (Lle.ye (Lle.ye (Lle.ye (Lle.ye (Lle.no (Lle.no (Lle.no (Lle.no (Lle.nil))))))))))) hK)
        refine Seg.step (pc' := 111) (I_iload dX12_restAt_109 rfl) ?_
        refine Seg.step (pc' := 112) (I_iload_n (i := 3) dX12_restAt_111 rfl rfl) ?_
        refine S_icmp_ne (tgt := 124) dX12_restAt_112 (by decide) (fun h17 => ?_) (fun h17 => ?_)
        · refine Seg.step (pc' := 117) (I_bipush dX12_restAt_115 (by decide) ⟨by decide, by decide⟩) ?_
          refine Seg.step (pc' := 119) (I_iload dX12_restAt_117 rfl) ?_
          refine Seg.step (pc' := 120) (I_imul dX12_restAt_119) ?_
          refine Seg.step (pc' := 122) (I_iload dX12_restAt_120 rfl) ?_
          refine Seg.step (pc' := 123) (I_iadd dX12_restAt_122) ?_
          exact S_iret dX12_restAt_123 rfl (by decide) (by decide) (fun K hK => hK)
        refine Seg.step (pc' := 127) (I_iinc dX12_restAt_124 rfl (by decide) rfl) ?_
        exact S_arr (fun K hK => GG.forget (Lle.ye (Lle.ye (Lle.ye (Lle.ye (Lle.ye (Lle.ye (Lle.no (Lle.no (Lle.no (Lle.no (Lle.nil))))))))))) hK)
      refine Seg.step (pc' := 130) (I_iinc dX12_restAt_127 rfl (by decide) rfl) ?_
      refine Seg.step (pc' := 6) (I_goto (tgt := 6) dX12_restAt_130 (by decide)) ?_
      exact S_arr (fun K hK => GG.forget (Lle.ye (Lle.ye (Lle.ye (Lle.ye (Lle.ye (Lle.ye (Lle.no (Lle.no (Lle.no (Lle.no (Lle.nil))))))))))) hK)
    exact S_arr (fun K hK => GG.forget (Lle.no (Lle.no (Lle.no (Lle.ye (Lle.ye (Lle.no (Lle.no (Lle.no (Lle.no (Lle.no (Lle.nil))))))))))) hK)
  refine Seg.step (pc' := 134) (I_iload_n (i := 3) dX12_restAt_133 rfl rfl) ?_
  refine S_if_ge (tgt := 142) dX12_restAt_134 (by decide) (fun h20 => ?_) (fun h20 => ?_)
  · refine Seg.step (pc' := 139) (I_iload dX12_restAt_137 rfl) ?_
    refine Seg.step (pc' := 144) (I_goto (tgt := 144) dX12_restAt_139 (by decide)) ?_
    exact S_iret dX12_restAt_144 rfl (by decide) (by decide) (fun K hK => hK)
  refine Seg.step (pc' := 144) (I_bipush dX12_restAt_142 (by decide) ⟨by decide, by decide⟩) ?_
  exact S_iret dX12_restAt_144 rfl (by decide) (by decide) (fun K hK => hK)
theorem dX12_areTwo_0 : decode cX12_areTwo 0 = .ok (.aload_n 0, 1) := by decide +kernel
theorem dX12_areTwo_1 : decode cX12_areTwo 1 = .ok (.iload_n 1, 1) := by decide +kernel
theorem dX12_areTwo_2 : decode cX12_areTwo 2 = .ok (.invokevirtual 482, 3) := by decide +kernel
theorem dX12_areTwo_5 : decode cX12_areTwo 5 = .ok (.ifCond .eq 20, 3) := by decide +kernel
theorem dX12_areTwo_8 : decode cX12_areTwo 8 = .ok (.aload_n 0, 1) := by decide +kernel
theorem dX12_areTwo_9 : decode cX12_areTwo 9 = .ok (.iload_n 2, 1) := by decide +kernel
theorem dX12_areTwo_10 : decode cX12_areTwo 10 = .ok (.invokevirtual 482, 3) := by decide +kernel
theorem dX12_areTwo_13 : decode cX12_areTwo 13 = .ok (.ifCond .eq 12, 3) := by decide +kernel
theorem dX12_areTwo_16 : decode cX12_areTwo 16 = .ok (.iload_n 1, 1) := by decide +kernel
theorem dX12_areTwo_17 : decode cX12_areTwo 17 = .ok (.iload_n 2, 1) := by decide +kernel
theorem dX12_areTwo_18 : decode cX12_areTwo 18 = .ok (.if_icmp .eq 7, 3) := by decide +kernel
theorem dX12_areTwo_21 : decode cX12_areTwo 21 = .ok (.iconst 1, 1) := by decide +kernel
theorem dX12_areTwo_22 : decode cX12_areTwo 22 = .ok (.goto 4, 3) := by decide +kernel
theorem dX12_areTwo_25 : decode cX12_areTwo 25 = .ok (.iconst 0, 1) := by decide +kernel
theorem dX12_areTwo_26 : decode cX12_areTwo 26 = .ok (.ireturn, 1) := by decide +kernel
def f_X12_areTwo (M : MM) (p1 : Int) (p2 : Int) : Option (Int) :=
(f_X12_isPerson M p1).bind fun x1 =>
if x1 = 0 then
(some 0)
else
(f_X12_isPerson M p2).bind fun x3 =>
if x3 = 0 then
(some 0)
else
if p1 = p2 then
(some 0)
else
some 1
set_option maxRecDepth 4000 in
theorem c_X12_areTwo {E : EE} {sh : List (Nat × Nat)} {ex : Bool} {R : RM} {M : MM} {p1 : Int} {p2 : Int} (hE : Ext sh) (hL : Links R) : ∀ y, f_X12_areTwo M p1 p2 = some y → MetC E m_X12_areTwo 0 0 [rV 88, iV p1, iV p2] (sh, ex, R, M) (fun r w' => r = some (iV y) ∧ w' = (sh, ex, R, M)) := by
  intro y hy
  refine MetC.seg (o := f_X12_areTwo M p1 p2) (t := (fun K y => K (some (iV y)) (sh, ex, R, M))) (L := [some (rV 88), some (iV p1), some (iV p2)]) (by decide) rfl (Nat.le_of_ble_eq_true rfl) ?_ hy ⟨rfl, rfl⟩
  unfold f_X12_areTwo
  refine Seg.step (pc' := 1) (I_aload_n (i := 0) dX12_areTwo_0 rfl rfl) ?_
  refine Seg.step (pc' := 2) (I_iload_n (i := 1) dX12_areTwo_1 rfl rfl) ?_
  refine S_callV1 (md' := m_X12_isPerson) (fun y => some (iV y)) (fun y => (sh, ex, R, M)) (hE _ _ sk_12) ⟨by decide, rfl⟩ mm_X12_isPerson wm_12_482 ⟨rfl, rfl, by decide, by decide, by decide, by decide⟩ (Nat.le_of_ble_eq_true rfl) dX12_areTwo_2 (fun y hy => c_X12_isPerson hE hL y hy) (fun x1 => ?_)
  refine S_if_eq (tgt := 25) dX12_areTwo_5 (by decide) (fun h2 => ?_) (fun h2 => ?_)
  · refine Seg.step (pc' := 26) (I_iconst dX12_areTwo_25 ⟨by decide, by decide⟩) ?_
    exact S_zret dX12_areTwo_26 rfl (by decide) (by decide) (by decide) (fun K hK => hK)
  refine Seg.step (pc' := 9) (I_aload_n (i := 0) dX12_areTwo_8 rfl rfl) ?_
  refine Seg.step (pc' := 10) (I_iload_n (i := 2) dX12_areTwo_9 rfl rfl) ?_
  refine S_callV1 (md' := m_X12_isPerson) (fun y => some (iV y)) (fun y => (sh, ex, R, M)) (hE _ _ sk_12) ⟨by decide, rfl⟩ mm_X12_isPerson wm_12_482 ⟨rfl, rfl, by decide, by decide, by decide, by decide⟩ (Nat.le_of_ble_eq_true rfl) dX12_areTwo_10 (fun y hy => c_X12_isPerson hE hL y hy) (fun x3 => ?_)
  refine S_if_eq (tgt := 25) dX12_areTwo_13 (by decide) (fun h4 => ?_) (fun h4 => ?_)
  · refine Seg.step (pc' := 26) (I_iconst dX12_areTwo_25 ⟨by decide, by decide⟩) ?_
    exact S_zret dX12_areTwo_26 rfl (by decide) (by decide) (by decide) (fun K hK => hK)
  refine Seg.step (pc' := 17) (I_iload_n (i := 1) dX12_areTwo_16 rfl rfl) ?_
  refine Seg.step (pc' := 18) (I_iload_n (i := 2) dX12_areTwo_17 rfl rfl) ?_
  refine S_icmp_eq (tgt := 25) dX12_areTwo_18 (by decide) (fun h5 => ?_) (fun h5 => ?_)
  · refine Seg.step (pc' := 26) (I_iconst dX12_areTwo_25 ⟨by decide, by decide⟩) ?_
    exact S_zret dX12_areTwo_26 rfl (by decide) (by decide) (by decide) (fun K hK => hK)
  refine Seg.step (pc' := 22) (I_iconst dX12_areTwo_21 ⟨by decide, by decide⟩) ?_
  refine Seg.step (pc' := 26) (I_goto (tgt := 26) dX12_areTwo_22 (by decide)) ?_
  exact S_zret dX12_areTwo_26 rfl (by decide) (by decide) (by decide) (fun K hK => hK)
theorem dX12_rests_0 : decode cX12_rests 0 = .ok (.aload_n 0, 1) := by decide +kernel
theorem dX12_rests_1 : decode cX12_rests 1 = .ok (.iconst 0, 1) := by decide +kernel
theorem dX12_rests_2 : decode cX12_rests 2 = .ok (.putfield 175, 3) := by decide +kernel
theorem dX12_rests_5 : decode cX12_rests 5 = .ok (.aload_n 0, 1) := by decide +kernel
theorem dX12_rests_6 : decode cX12_rests 6 = .ok (.iload_n 1, 1) := by decide +kernel
theorem dX12_rests_7 : decode cX12_rests 7 = .ok (.iload_n 2, 1) := by decide +kernel
theorem dX12_rests_8 : decode cX12_rests 8 = .ok (.invokevirtual 524, 3) := by decide +kernel
theorem dX12_rests_11 : decode cX12_rests 11 = .ok (.ifCond .eq 13, 3) := by decide +kernel
theorem dX12_rests_14 : decode cX12_rests 14 = .ok (.aload_n 0, 1) := by decide +kernel
theorem dX12_rests_15 : decode cX12_rests 15 = .ok (.iload_n 1, 1) := by decide +kernel
theorem dX12_rests_16 : decode cX12_rests 16 = .ok (.iload_n 2, 1) := by decide +kernel
theorem dX12_rests_17 : decode cX12_rests 17 = .ok (.iconst (-1), 1) := by decide +kernel
theorem dX12_rests_18 : decode cX12_rests 18 = .ok (.invokevirtual 527, 3) := by decide +kernel
theorem dX12_rests_21 : decode cX12_rests 21 = .ok (.goto 4, 3) := by decide +kernel
theorem dX12_rests_24 : decode cX12_rests 24 = .ok (.iconst (-1), 1) := by decide +kernel
theorem dX12_rests_25 : decode cX12_rests 25 = .ok (.ireturn, 1) := by decide +kernel
def f_X12_rests (M : MM) (p1 : Int) (p2 : Int) : Option (Int × MM) :=
bM (upM M 88 2 0) fun M1 =>
(f_X12_areTwo M1 p1 p2).bind fun x2 =>
if x2 = 0 then
(some ((-1), M1))
else
(f_X12_restAt M1 p1 p2 (-1)).bind fun x4 =>
some (x4, M1)
set_option maxRecDepth 4000 in
theorem c_X12_rests {E : EE} {sh : List (Nat × Nat)} {ex : Bool} {R : RM} {M : MM} {p1 : Int} {p2 : Int} (hE : Ext sh) (hL : Links R) : ∀ y, f_X12_rests M p1 p2 = some y → MetC E m_X12_rests 0 0 [rV 88, iV p1, iV p2] (sh, ex, R, M) (fun r w' => r = some (iV y.1) ∧ w' = (sh, ex, R, y.2)) := by
  intro y hy
  refine MetC.seg (o := f_X12_rests M p1 p2) (t := (fun K y => K (some (iV y.1)) (sh, ex, R, y.2))) (L := [some (rV 88), some (iV p1), some (iV p2)]) (by decide) rfl (Nat.le_of_ble_eq_true rfl) ?_ hy ⟨rfl, rfl⟩
  unfold f_X12_rests
  refine Seg.step (pc' := 1) (I_aload_n (i := 0) dX12_rests_0 rfl rfl) ?_
  refine Seg.step (pc' := 2) (I_iconst dX12_rests_1 ⟨by decide, by decide⟩) ?_
  refine Seg.step (pc' := 5) (I_putI cls12 (by decide) wf_12_175 (hE _ _ sk_12) rfl rfl dX12_rests_2) ?_
  refine S_bM fun M1 => ?_
  refine Seg.step (pc' := 6) (I_aload_n (i := 0) dX12_rests_5 rfl rfl) ?_
  refine Seg.step (pc' := 7) (I_iload_n (i := 1) dX12_rests_6 rfl rfl) ?_
  refine Seg.step (pc' := 8) (I_iload_n (i := 2) dX12_rests_7 rfl rfl) ?_
  refine S_callV2 (md' := m_X12_areTwo) (fun y => some (iV y)) (fun y => (sh, ex, R, M1)) (hE _ _ sk_12) ⟨by decide, rfl⟩ mm_X12_areTwo wm_12_524 ⟨rfl, rfl, by decide, by decide, by decide, by decide⟩ (Nat.le_of_ble_eq_true rfl) dX12_rests_8 (fun y hy => c_X12_areTwo hE hL y hy) (fun x2 => ?_)
  refine S_if_eq (tgt := 24) dX12_rests_11 (by decide) (fun h3 => ?_) (fun h3 => ?_)
  · refine Seg.step (pc' := 25) (I_iconst dX12_rests_24 ⟨by decide, by decide⟩) ?_
    exact S_iret dX12_rests_25 rfl (by decide) (by decide) (fun K hK => hK)
  refine Seg.step (pc' := 15) (I_aload_n (i := 0) dX12_rests_14 rfl rfl) ?_
  refine Seg.step (pc' := 16) (I_iload_n (i := 1) dX12_rests_15 rfl rfl) ?_
  refine Seg.step (pc' := 17) (I_iload_n (i := 2) dX12_rests_16 rfl rfl) ?_
  refine Seg.step (pc' := 18) (I_iconst dX12_rests_17 ⟨by decide, by decide⟩) ?_
  refine S_callV3 (md' := m_X12_restAt) (fun y => some (iV y)) (fun y => (sh, ex, R, M1)) (hE _ _ sk_12) ⟨by decide, rfl⟩ mm_X12_restAt wm_12_527 ⟨rfl, rfl, by decide, by decide, by decide, by decide⟩ (Nat.le_of_ble_eq_true rfl) dX12_rests_18 (fun y hy => c_X12_restAt hE hL y hy) (fun x4 => ?_)
  refine Seg.step (pc' := 25) (I_goto (tgt := 25) dX12_rests_21 (by decide)) ?_
  exact S_iret dX12_rests_25 rfl (by decide) (by decide) (fun K hK => hK)
theorem dX12_rest_0 : decode cX12_rest 0 = .ok (.aload_n 0, 1) := by decide +kernel
theorem dX12_rest_1 : decode cX12_rest 1 = .ok (.iconst 0, 1) := by decide +kernel
theorem dX12_rest_2 : decode cX12_rest 2 = .ok (.putfield 175, 3) := by decide +kernel
theorem dX12_rest_5 : decode cX12_rest 5 = .ok (.aload_n 0, 1) := by decide +kernel
theorem dX12_rest_6 : decode cX12_rest 6 = .ok (.iload_n 1, 1) := by decide +kernel
theorem dX12_rest_7 : decode cX12_rest 7 = .ok (.iload_n 2, 1) := by decide +kernel
theorem dX12_rest_8 : decode cX12_rest 8 = .ok (.invokevirtual 524, 3) := by decide +kernel
theorem dX12_rest_11 : decode cX12_rest 11 = .ok (.ifCond .eq 17, 3) := by decide +kernel
theorem dX12_rest_14 : decode cX12_rest 14 = .ok (.iload_n 3, 1) := by decide +kernel
theorem dX12_rest_15 : decode cX12_rest 15 = .ok (.ifCond .lt 13, 3) := by decide +kernel
theorem dX12_rest_18 : decode cX12_rest 18 = .ok (.aload_n 0, 1) := by decide +kernel
theorem dX12_rest_19 : decode cX12_rest 19 = .ok (.iload_n 1, 1) := by decide +kernel
theorem dX12_rest_20 : decode cX12_rest 20 = .ok (.iload_n 2, 1) := by decide +kernel
theorem dX12_rest_21 : decode cX12_rest 21 = .ok (.iload_n 3, 1) := by decide +kernel
theorem dX12_rest_22 : decode cX12_rest 22 = .ok (.invokevirtual 527, 3) := by decide +kernel
theorem dX12_rest_25 : decode cX12_rest 25 = .ok (.goto 4, 3) := by decide +kernel
theorem dX12_rest_28 : decode cX12_rest 28 = .ok (.iconst (-1), 1) := by decide +kernel
theorem dX12_rest_29 : decode cX12_rest 29 = .ok (.ireturn, 1) := by decide +kernel
def f_X12_rest (M : MM) (p1 : Int) (p2 : Int) (p3 : Int) : Option (Int × MM) :=
bM (upM M 88 2 0) fun M1 =>
(f_X12_areTwo M1 p1 p2).bind fun x2 =>
if x2 = 0 then
(some ((-1), M1))
else
if p3 < 0 then
(some ((-1), M1))
else
(f_X12_restAt M1 p1 p2 p3).bind fun x5 =>
some (x5, M1)
set_option maxRecDepth 4000 in
theorem c_X12_rest {E : EE} {sh : List (Nat × Nat)} {ex : Bool} {R : RM} {M : MM} {p1 : Int} {p2 : Int} {p3 : Int} (hE : Ext sh) (hL : Links R) : ∀ y, f_X12_rest M p1 p2 p3 = some y → MetC E m_X12_rest 0 0 [rV 88, iV p1, iV p2, iV p3] (sh, ex, R, M) (fun r w' => r = some (iV y.1) ∧ w' = (sh, ex, R, y.2)) := by
  intro y hy
  refine MetC.seg (o := f_X12_rest M p1 p2 p3) (t := (fun K y => K (some (iV y.1)) (sh, ex, R, y.2))) (L := [some (rV 88), some (iV p1), some (iV p2), some (iV p3)]) (by decide) rfl (Nat.le_of_ble_eq_true rfl) ?_ hy ⟨rfl, rfl⟩
  unfold f_X12_rest
  refine Seg.step (pc' := 1) (I_aload_n (i := 0) dX12_rest_0 rfl rfl) ?_
  refine Seg.step (pc' := 2) (I_iconst dX12_rest_1 ⟨by decide, by decide⟩) ?_
  refine Seg.step (pc' := 5) (I_putI cls12 (by decide) wf_12_175 (hE _ _ sk_12) rfl rfl dX12_rest_2) ?_
  refine S_bM fun M1 => ?_
  refine Seg.step (pc' := 6) (I_aload_n (i := 0) dX12_rest_5 rfl rfl) ?_
  refine Seg.step (pc' := 7) (I_iload_n (i := 1) dX12_rest_6 rfl rfl) ?_
  refine Seg.step (pc' := 8) (I_iload_n (i := 2) dX12_rest_7 rfl rfl) ?_
  refine S_callV2 (md' := m_X12_areTwo) (fun y => some (iV y)) (fun y => (sh, ex, R, M1)) (hE _ _ sk_12) ⟨by decide, rfl⟩ mm_X12_areTwo wm_12_524 ⟨rfl, rfl, by decide, by decide, by decide, by decide⟩ (Nat.le_of_ble_eq_true rfl) dX12_rest_8 (fun y hy => c_X12_areTwo hE hL y hy) (fun x2 => ?_)
  refine S_if_eq (tgt := 28) dX12_rest_11 (by decide) (fun h3 => ?_) (fun h3 => ?_)
  · refine Seg.step (pc' := 29) (I_iconst dX12_rest_28 ⟨by decide, by decide⟩) ?_
    exact S_iret dX12_rest_29 rfl (by decide) (by decide) (fun K hK => hK)
  refine Seg.step (pc' := 15) (I_iload_n (i := 3) dX12_rest_14 rfl rfl) ?_
  refine S_if_lt (tgt := 28) dX12_rest_15 (by decide) (fun h4 => ?_) (fun h4 => ?_)
  · refine Seg.step (pc' := 29) (I_iconst dX12_rest_28 ⟨by decide, by decide⟩) ?_
    exact S_iret dX12_rest_29 rfl (by decide) (by decide) (fun K hK => hK)
  refine Seg.step (pc' := 19) (I_aload_n (i := 0) dX12_rest_18 rfl rfl) ?_
  refine Seg.step (pc' := 20) (I_iload_n (i := 1) dX12_rest_19 rfl rfl) ?_
  refine Seg.step (pc' := 21) (I_iload_n (i := 2) dX12_rest_20 rfl rfl) ?_
  refine Seg.step (pc' := 22) (I_iload_n (i := 3) dX12_rest_21 rfl rfl) ?_
  refine S_callV3 (md' := m_X12_restAt) (fun y => some (iV y)) (fun y => (sh, ex, R, M1)) (hE _ _ sk_12) ⟨by decide, rfl⟩ mm_X12_restAt wm_12_527 ⟨rfl, rfl, by decide, by decide, by decide, by decide⟩ (Nat.le_of_ble_eq_true rfl) dX12_rest_22 (fun y hy => c_X12_restAt hE hL y hy) (fun x5 => ?_)
  refine Seg.step (pc' := 29) (I_goto (tgt := 29) dX12_rest_25 (by decide)) ?_
  exact S_iret dX12_rest_29 rfl (by decide) (by decide) (fun K hK => hK)
theorem dX12_crossWith_0 : decode cX12_crossWith 0 = .ok (.aload_n 0, 1) := by decide +kernel
theorem dX12_crossWith_1 : decode cX12_crossWith 1 = .ok (.iload_n 2, 1) := by decide +kernel
theorem dX12_crossWith_2 : decode cX12_crossWith 2 = .ok (.iconst 5, 1) := by decide +kernel
theorem dX12_crossWith_3 : decode cX12_crossWith 3 = .ok (.bipush 30, 2) := by decide +kernel
theorem dX12_crossWith_5 : decode cX12_crossWith 5 = .ok (.invokestatic 433, 3) := by decide +kernel
theorem dX12_crossWith_8 : decode cX12_crossWith 8 = .ok (.invokevirtual 505, 3) := by decide +kernel
theorem dX12_crossWith_11 : decode cX12_crossWith 11 = .ok (.aload_n 0, 1) := by decide +kernel
theorem dX12_crossWith_12 : decode cX12_crossWith 12 = .ok (.bipush 24, 2) := by decide +kernel
theorem dX12_crossWith_14 : decode cX12_crossWith 14 = .ok (.invokevirtual 499, 3) := by decide +kernel
theorem dX12_crossWith_17 : decode cX12_crossWith 17 = .ok (.aload_n 0, 1) := by decide +kernel
theorem dX12_crossWith_18 : decode cX12_crossWith 18 = .ok (.getfield 103, 3) := by decide +kernel
theorem dX12_crossWith_21 : decode cX12_crossWith 21 = .ok (.iconst 5, 1) := by decide +kernel
theorem dX12_crossWith_22 : decode cX12_crossWith 22 = .ok (.iload_n 1, 1) := by decide +kernel
theorem dX12_crossWith_23 : decode cX12_crossWith 23 = .ok (.iadd, 1) := by decide +kernel
theorem dX12_crossWith_24 : decode cX12_crossWith 24 = .ok (.iaload, 1) := by decide +kernel
theorem dX12_crossWith_25 : decode cX12_crossWith 25 = .ok (.aload_n 0, 1) := by decide +kernel
theorem dX12_crossWith_26 : decode cX12_crossWith 26 = .ok (.getfield 103, 3) := by decide +kernel
theorem dX12_crossWith_29 : decode cX12_crossWith 29 = .ok (.iload_n 1, 1) := by decide +kernel
theorem dX12_crossWith_30 : decode cX12_crossWith 30 = .ok (.iaload, 1) := by decide +kernel
theorem dX12_crossWith_31 : decode cX12_crossWith 31 = .ok (.isub, 1) := by decide +kernel
theorem dX12_crossWith_32 : decode cX12_crossWith 32 = .ok (.ireturn, 1) := by decide +kernel
def f_X12_crossWith (M : MM) (p1 : Int) (p2 : Int) : Option (Int × MM) :=
(f_X12_within M p2 5 30).bind fun x1 =>
(f_X12_layStill M x1).bind fun x2 =>
(f_X12_goMany x2 24).bind fun x3 =>
gd (0 ≤ w32 (5 + p1) ∧ w32 (5 + p1) < (10 : Int)) <|
gd (0 ≤ p1 ∧ p1 < (10 : Int)) <|
some (w32 ((x3 118 (w32 (5 + p1)).toNat) - (x3 118 (p1).toNat)), x3)
set_option maxRecDepth 4000 in
theorem c_X12_crossWith {E : EE} {sh : List (Nat × Nat)} {ex : Bool} {R : RM} {M : MM} {p1 : Int} {p2 : Int} (hE : Ext sh) (hL : Links R) : ∀ y, f_X12_crossWith M p1 p2 = some y → MetC E m_X12_crossWith 0 0 [rV 88, iV p1, iV p2] (sh, ex, R, M) (fun r w' => r = some (iV y.1) ∧ w' = (sh, ex, R, y.2)) := by
  intro y hy
  refine MetC.seg (o := f_X12_crossWith M p1 p2) (t := (fun K y => K (some (iV y.1)) (sh, ex, R, y.2))) (L := [some (rV 88), some (iV p1), some (iV p2)]) (by decide) rfl (Nat.le_of_ble_eq_true rfl) ?_ hy ⟨rfl, rfl⟩
  unfold f_X12_crossWith
  refine Seg.step (pc' := 1) (I_aload_n (i := 0) dX12_crossWith_0 rfl rfl) ?_
  refine Seg.step (pc' := 2) (I_iload_n (i := 2) dX12_crossWith_1 rfl rfl) ?_
  refine Seg.step (pc' := 3) (I_iconst dX12_crossWith_2 ⟨by decide, by decide⟩) ?_
  refine Seg.step (pc' := 5) (I_bipush dX12_crossWith_3 (by decide) ⟨by decide, by decide⟩) ?_
  refine S_callS3 (md' := m_X12_within) (fun y => some (iV y)) (fun y => (sh, ex, R, M)) mm_X12_within wm_12_433 ⟨rfl, rfl, by decide, by decide, by decide, by decide⟩ (Nat.le_of_ble_eq_true rfl) dX12_crossWith_5 (fun y hy => c_X12_within hE hL y hy) (fun x1 => ?_)
  refine S_callV1 (md' := m_X12_layStill) (fun y => none) (fun y => (sh, ex, R, y)) (hE _ _ sk_12) ⟨by decide, rfl⟩ mm_X12_layStill wm_12_505 ⟨rfl, rfl, by decide, by decide, by decide, by decide⟩ (Nat.le_of_ble_eq_true rfl) dX12_crossWith_8 (fun y hy => c_X12_layStill hE hL y hy) (fun x2 => ?_)
  refine Seg.step (pc' := 12) (I_aload_n (i := 0) dX12_crossWith_11 rfl rfl) ?_
  refine Seg.step (pc' := 14) (I_bipush dX12_crossWith_12 (by decide) ⟨by decide, by decide⟩) ?_
  refine S_callV1 (md' := m_X12_goMany) (fun y => none) (fun y => (sh, ex, R, y)) (hE _ _ sk_12) ⟨by decide, rfl⟩ mm_X12_goMany wm_12_499 ⟨rfl, rfl, by decide, by decide, by decide, by decide⟩ (Nat.le_of_ble_eq_true rfl) dX12_crossWith_14 (fun y hy => c_X12_goMany hE hL y hy) (fun x3 => ?_)
  refine Seg.step (pc' := 18) (I_aload_n (i := 0) dX12_crossWith_17 rfl rfl) ?_
  refine Seg.step (pc' := 21) (I_getR cls12 (by decide) wf_12_103 (hE _ _ sk_12) rfl (lk_12_56 hL) dX12_crossWith_18) ?_
  refine Seg.step (pc' := 22) (I_iconst dX12_crossWith_21 ⟨by decide, by decide⟩) ?_
  refine Seg.step (pc' := 23) (I_iload_n (i := 1) dX12_crossWith_22 rfl rfl) ?_
  refine Seg.step (pc' := 24) (I_iadd dX12_crossWith_23) ?_
  refine S_gd fun h4 => ?_
  refine Seg.step (pc' := 25) (I_iald (hE _ _ sk_12_56) h4 dX12_crossWith_24) ?_
  refine Seg.step (pc' := 26) (I_aload_n (i := 0) dX12_crossWith_25 rfl rfl) ?_
  refine Seg.step (pc' := 29) (I_getR cls12 (by decide) wf_12_103 (hE _ _ sk_12) rfl (lk_12_56 hL) dX12_crossWith_26) ?_
  refine Seg.step (pc' := 30) (I_iload_n (i := 1) dX12_crossWith_29 rfl rfl) ?_
  refine S_gd fun h5 => ?_
  refine Seg.step (pc' := 31) (I_iald (hE _ _ sk_12_56) h5 dX12_crossWith_30) ?_
  refine Seg.step (pc' := 32) (I_isub dX12_crossWith_31) ?_
  exact S_iret dX12_crossWith_32 rfl (by decide) (by decide) (fun K hK => hK)
theorem dX12_givesIn_0 : decode cX12_givesIn 0 = .ok (.aload_n 0, 1) := by decide +kernel
theorem dX12_givesIn_1 : decode cX12_givesIn 1 = .ok (.iconst 0, 1) := by decide +kernel
theorem dX12_givesIn_2 : decode cX12_givesIn 2 = .ok (.putfield 175, 3) := by decide +kernel
theorem dX12_givesIn_5 : decode cX12_givesIn 5 = .ok (.aload_n 0, 1) := by decide +kernel
theorem dX12_givesIn_6 : decode cX12_givesIn 6 = .ok (.iload_n 1, 1) := by decide +kernel
theorem dX12_givesIn_7 : decode cX12_givesIn 7 = .ok (.iload_n 2, 1) := by decide +kernel
theorem dX12_givesIn_8 : decode cX12_givesIn 8 = .ok (.invokevirtual 524, 3) := by decide +kernel
theorem dX12_givesIn_11 : decode cX12_givesIn 11 = .ok (.ifCond .ne 5, 3) := by decide +kernel
theorem dX12_givesIn_14 : decode cX12_givesIn 14 = .ok (.iconst (-1), 1) := by decide +kernel
theorem dX12_givesIn_15 : decode cX12_givesIn 15 = .ok (.ireturn, 1) := by decide +kernel
theorem dX12_givesIn_16 : decode cX12_givesIn 16 = .ok (.aload_n 0, 1) := by decide +kernel
theorem dX12_givesIn_17 : decode cX12_givesIn 17 = .ok (.iload_n 1, 1) := by decide +kernel
theorem dX12_givesIn_18 : decode cX12_givesIn 18 = .ok (.aload_n 0, 1) := by decide +kernel
theorem dX12_givesIn_19 : decode cX12_givesIn 19 = .ok (.getfield 45, 3) := by decide +kernel
theorem dX12_givesIn_22 : decode cX12_givesIn 22 = .ok (.iload_n 2, 1) := by decide +kernel
theorem dX12_givesIn_23 : decode cX12_givesIn 23 = .ok (.iaload, 1) := by decide +kernel
theorem dX12_givesIn_24 : decode cX12_givesIn 24 = .ok (.invokevirtual 530, 3) := by decide +kernel
theorem dX12_givesIn_27 : decode cX12_givesIn 27 = .ok (.istore_n 3, 1) := by decide +kernel
theorem dX12_givesIn_28 : decode cX12_givesIn 28 = .ok (.aload_n 0, 1) := by decide +kernel
theorem dX12_givesIn_29 : decode cX12_givesIn 29 = .ok (.iload_n 2, 1) := by decide +kernel
theorem dX12_givesIn_30 : decode cX12_givesIn 30 = .ok (.aload_n 0, 1) := by decide +kernel
theorem dX12_givesIn_31 : decode cX12_givesIn 31 = .ok (.getfield 45, 3) := by decide +kernel
theorem dX12_givesIn_34 : decode cX12_givesIn 34 = .ok (.iload_n 1, 1) := by decide +kernel
theorem dX12_givesIn_35 : decode cX12_givesIn 35 = .ok (.iaload, 1) := by decide +kernel
theorem dX12_givesIn_36 : decode cX12_givesIn 36 = .ok (.invokevirtual 530, 3) := by decide +kernel
theorem dX12_givesIn_39 : decode cX12_givesIn 39 = .ok (.istore 4, 2) := by decide +kernel
theorem dX12_givesIn_41 : decode cX12_givesIn 41 = .ok (.iload_n 3, 1) := by decide +kernel
theorem dX12_givesIn_42 : decode cX12_givesIn 42 = .ok (.iload 4, 2) := by decide +kernel
theorem dX12_givesIn_44 : decode cX12_givesIn 44 = .ok (.if_icmp .lt 14, 3) := by decide +kernel
theorem dX12_givesIn_47 : decode cX12_givesIn 47 = .ok (.iload_n 3, 1) := by decide +kernel
theorem dX12_givesIn_48 : decode cX12_givesIn 48 = .ok (.iload 4, 2) := by decide +kernel
theorem dX12_givesIn_50 : decode cX12_givesIn 50 = .ok (.if_icmp .ne 12, 3) := by decide +kernel
theorem dX12_givesIn_53 : decode cX12_givesIn 53 = .ok (.iload_n 1, 1) := by decide +kernel
theorem dX12_givesIn_54 : decode cX12_givesIn 54 = .ok (.iload_n 2, 1) := by decide +kernel
theorem dX12_givesIn_55 : decode cX12_givesIn 55 = .ok (.if_icmp .ge 7, 3) := by decide +kernel
theorem dX12_givesIn_58 : decode cX12_givesIn 58 = .ok (.iload_n 1, 1) := by decide +kernel
theorem dX12_givesIn_59 : decode cX12_givesIn 59 = .ok (.goto 4, 3) := by decide +kernel
theorem dX12_givesIn_62 : decode cX12_givesIn 62 = .ok (.iload_n 2, 1) := by decide +kernel
theorem dX12_givesIn_63 : decode cX12_givesIn 63 = .ok (.ireturn, 1) := by decide +kernel
def f_X12_givesIn (M : MM) (p1 : Int) (p2 : Int) : Option (Int × MM) :=
bM (upM M 88 2 0) fun M1 =>
(f_X12_areTwo M1 p1 p2).bind fun x2 =>
if x2 = 0 then
(some ((-1), M1))
else
gd (0 ≤ p2 ∧ p2 < (10 : Int)) <|
(f_X12_crossWith M1 p1 (M1 99 (p2).toNat)).bind fun x5 =>
gd (0 ≤ p1 ∧ p1 < (10 : Int)) <|
(f_X12_crossWith x5.2 p2 (x5.2 99 (p1).toNat)).bind fun x7 =>
if x5.1 < x7.1 then
(some (p1, x7.2))
else
if x5.1 = x7.1 then
(if p1 < p2 then
(some (p1, x7.2))
else
some (p2, x7.2))
else
some (p2, x7.2)
set_option maxRecDepth 4000 in
theorem c_X12_givesIn {E : EE} {sh : List (Nat × Nat)} {ex : Bool} {R : RM} {M : MM} {p1 : Int} {p2 : Int} (hE : Ext sh) (hL : Links R) : ∀ y, f_X12_givesIn M p1 p2 = some y → MetC E m_X12_givesIn 0 0 [rV 88, iV p1, iV p2] (sh, ex, R, M) (fun r w' => r = some (iV y.1) ∧ w' = (sh, ex, R, y.2)) := by
  intro y hy
  refine MetC.seg (o := f_X12_givesIn M p1 p2) (t := (fun K y => K (some (iV y.1)) (sh, ex, R, y.2))) (L := [some (rV 88), some (iV p1), some (iV p2), none, none]) (by decide) rfl (Nat.le_of_ble_eq_true rfl) ?_ hy ⟨rfl, rfl⟩
  unfold f_X12_givesIn
  refine Seg.step (pc' := 1) (I_aload_n (i := 0) dX12_givesIn_0 rfl rfl) ?_
  refine Seg.step (pc' := 2) (I_iconst dX12_givesIn_1 ⟨by decide, by decide⟩) ?_
  refine Seg.step (pc' := 5) (I_putI cls12 (by decide) wf_12_175 (hE _ _ sk_12) rfl rfl dX12_givesIn_2) ?_
  refine S_bM fun M1 => ?_
  refine Seg.step (pc' := 6) (I_aload_n (i := 0) dX12_givesIn_5 rfl rfl) ?_
  refine Seg.step (pc' := 7) (I_iload_n (i := 1) dX12_givesIn_6 rfl rfl) ?_
  refine Seg.step (pc' := 8) (I_iload_n (i := 2) dX12_givesIn_7 rfl rfl) ?_
  refine S_callV2 (md' := m_X12_areTwo) (fun y => some (iV y)) (fun y => (sh, ex, R, M1)) (hE _ _ sk_12) ⟨by decide, rfl⟩ mm_X12_areTwo wm_12_524 ⟨rfl, rfl, by decide, by decide, by decide, by decide⟩ (Nat.le_of_ble_eq_true rfl) dX12_givesIn_8 (fun y hy => c_X12_areTwo hE hL y hy) (fun x2 => ?_)
  refine S_if_ne (tgt := 16) dX12_givesIn_11 (by decide) (fun h3 => ?_) (fun h3 => ?_)
  · refine Seg.step (pc' := 15) (I_iconst dX12_givesIn_14 ⟨by decide, by decide⟩) ?_
    exact S_iret dX12_givesIn_15 rfl (by decide) (by decide) (fun K hK => hK)
  refine Seg.step (pc' := 17) (I_aload_n (i := 0) dX12_givesIn_16 rfl rfl) ?_
  refine Seg.step (pc' := 18) (I_iload_n (i := 1) dX12_givesIn_17 rfl rfl) ?_
  refine Seg.step (pc' := 19) (I_aload_n (i := 0) dX12_givesIn_18 rfl rfl) ?_
  refine Seg.step (pc' := 22) (I_getR cls12 (by decide) wf_12_45 (hE _ _ sk_12) rfl (lk_12_30 hL) dX12_givesIn_19) ?_
  refine Seg.step (pc' := 23) (I_iload_n (i := 2) dX12_givesIn_22 rfl rfl) ?_
  refine S_gd fun h4 => ?_
  refine Seg.step (pc' := 24) (I_iald (hE _ _ sk_12_30) h4 dX12_givesIn_23) ?_
  refine S_callV2 (md' := m_X12_crossWith) (fun y => some (iV y.1)) (fun y => (sh, ex, R, y.2)) (hE _ _ sk_12) ⟨by decide, rfl⟩ mm_X12_crossWith wm_12_530 ⟨rfl, rfl, by decide, by decide, by decide, by decide⟩ (Nat.le_of_ble_eq_true rfl) dX12_givesIn_24 (fun y hy => c_X12_crossWith hE hL y hy) (fun x5 => ?_)
  refine Seg.step (pc' := 28) (I_istore_n (i := 3) dX12_givesIn_27 rfl (by decide) rfl) ?_
  refine Seg.step (pc' := 29) (I_aload_n (i := 0) dX12_givesIn_28 rfl rfl) ?_
  refine Seg.step (pc' := 30) (I_iload_n (i := 2) dX12_givesIn_29 rfl rfl) ?_
  refine Seg.step (pc' := 31) (I_aload_n (i := 0) dX12_givesIn_30 rfl rfl) ?_
  refine Seg.step (pc' := 34) (I_getR cls12 (by decide) wf_12_45 (hE _ _ sk_12) rfl (lk_12_30 hL) dX12_givesIn_31) ?_
  refine Seg.step (pc' := 35) (I_iload_n (i := 1) dX12_givesIn_34 rfl rfl) ?_
  refine S_gd fun h6 => ?_
  refine Seg.step (pc' := 36) (I_iald (hE _ _ sk_12_30) h6 dX12_givesIn_35) ?_
  refine S_callV2 (md' := m_X12_crossWith) (fun y => some (iV y.1)) (fun y => (sh, ex, R, y.2)) (hE _ _ sk_12) ⟨by decide, rfl⟩ mm_X12_crossWith wm_12_530 ⟨rfl, rfl, by decide, by decide, by decide, by decide⟩ (Nat.le_of_ble_eq_true rfl) dX12_givesIn_36 (fun y hy => c_X12_crossWith hE hL y hy) (fun x7 => ?_)
  refine Seg.step (pc' := 41) (I_istore dX12_givesIn_39 (by decide) rfl) ?_
  refine Seg.step (pc' := 42) (I_iload_n (i := 3) dX12_givesIn_41 rfl rfl) ?_
  refine Seg.step (pc' := 44) (I_iload dX12_givesIn_42 rfl) ?_
  refine S_icmp_lt (tgt := 58) dX12_givesIn_44 (by decide) (fun h8 => ?_) (fun h8 => ?_)
  · refine Seg.step (pc' := 59) (I_iload_n (i := 1) dX12_givesIn_58 rfl rfl) ?_
    refine Seg.step (pc' := 63) (I_goto (tgt := 63) dX12_givesIn_59 (by decide)) ?_
    exact S_iret dX12_givesIn_63 rfl (by decide) (by decide) (fun K hK => hK)
  refine Seg.step (pc' := 48) (I_iload_n (i := 3) dX12_givesIn_47 rfl rfl) ?_
  refine Seg.step (pc' := 50) (I_iload dX12_givesIn_48 rfl) ?_
  refine S_icmp_ne (tgt := 62) dX12_givesIn_50 (by decide) (fun h9 => ?_) (fun h9 => ?_)
  · refine Seg.step (pc' := 54) (I_iload_n (i := 1) dX12_givesIn_53 rfl rfl) ?_
    refine Seg.step (pc' := 55) (I_iload_n (i := 2) dX12_givesIn_54 rfl rfl) ?_
    refine S_icmp_ge (tgt := 62) dX12_givesIn_55 (by decide) (fun h10 => ?_) (fun h10 => ?_)
    · refine Seg.step (pc' := 59) (I_iload_n (i := 1) dX12_givesIn_58 rfl rfl) ?_
      refine Seg.step (pc' := 63) (I_goto (tgt := 63) dX12_givesIn_59 (by decide)) ?_
      exact S_iret dX12_givesIn_63 rfl (by decide) (by decide) (fun K hK => hK)
    refine Seg.step (pc' := 63) (I_iload_n (i := 2) dX12_givesIn_62 rfl rfl) ?_
    exact S_iret dX12_givesIn_63 rfl (by decide) (by decide) (fun K hK => hK)
  refine Seg.step (pc' := 63) (I_iload_n (i := 2) dX12_givesIn_62 rfl rfl) ?_
  exact S_iret dX12_givesIn_63 rfl (by decide) (by decide) (fun K hK => hK)
theorem dX12_crossest_0 : decode cX12_crossest 0 = .ok (.aload_n 0, 1) := by decide +kernel
theorem dX12_crossest_1 : decode cX12_crossest 1 = .ok (.iconst 0, 1) := by decide +kernel
theorem dX12_crossest_2 : decode cX12_crossest 2 = .ok (.putfield 175, 3) := by decide +kernel
theorem dX12_crossest_5 : decode cX12_crossest 5 = .ok (.iconst (-1), 1) := by decide +kernel
theorem dX12_crossest_6 : decode cX12_crossest 6 = .ok (.istore_n 1, 1) := by decide +kernel
theorem dX12_crossest_7 : decode cX12_crossest 7 = .ok (.iconst 0, 1) := by decide +kernel
theorem dX12_crossest_8 : decode cX12_crossest 8 = .ok (.istore_n 2, 1) := by decide +kernel
theorem dX12_crossest_9 : decode cX12_crossest 9 = .ok (.iload_n 2, 1) := by decide +kernel
theorem dX12_crossest_10 : decode cX12_crossest 10 = .ok (.aload_n 0, 1) := by decide +kernel
theorem dX12_crossest_11 : decode cX12_crossest 11 = .ok (.getfield 258, 3) := by decide +kernel
theorem dX12_crossest_14 : decode cX12_crossest 14 = .ok (.if_icmp .ge 34, 3) := by decide +kernel
theorem dX12_crossest_17 : decode cX12_crossest 17 = .ok (.iload_n 1, 1) := by decide +kernel
theorem dX12_crossest_18 : decode cX12_crossest 18 = .ok (.ifCond .lt 18, 3) := by decide +kernel
theorem dX12_crossest_21 : decode cX12_crossest 21 = .ok (.aload_n 0, 1) := by decide +kernel
theorem dX12_crossest_22 : decode cX12_crossest 22 = .ok (.getfield 103, 3) := by decide +kernel
theorem dX12_crossest_25 : decode cX12_crossest 25 = .ok (.iload_n 2, 1) := by decide +kernel
theorem dX12_crossest_26 : decode cX12_crossest 26 = .ok (.iaload, 1) := by decide +kernel
theorem dX12_crossest_27 : decode cX12_crossest 27 = .ok (.aload_n 0, 1) := by decide +kernel
theorem dX12_crossest_28 : decode cX12_crossest 28 = .ok (.getfield 103, 3) := by decide +kernel
theorem dX12_crossest_31 : decode cX12_crossest 31 = .ok (.iload_n 1, 1) := by decide +kernel
theorem dX12_crossest_32 : decode cX12_crossest 32 = .ok (.iaload, 1) := by decide +kernel
theorem dX12_crossest_33 : decode cX12_crossest 33 = .ok (.if_icmp .le 7, 3) := by decide +kernel
theorem dX12_crossest_36 : decode cX12_crossest 36 = .ok (.iload_n 2, 1) := by decide +kernel
theorem dX12_crossest_37 : decode cX12_crossest 37 = .ok (.goto 4, 3) := by decide +kernel
theorem dX12_crossest_40 : decode cX12_crossest 40 = .ok (.iload_n 1, 1) := by decide +kernel
theorem dX12_crossest_41 : decode cX12_crossest 41 = .ok (.istore_n 1, 1) := by decide +kernel
theorem dX12_crossest_42 : decode cX12_crossest 42 = .ok (.iinc 2 1, 3) := by decide +kernel
theorem dX12_crossest_45 : decode cX12_crossest 45 = .ok (.goto (-36), 3) := by decide +kernel
theorem dX12_crossest_48 : decode cX12_crossest 48 = .ok (.iload_n 1, 1) := by decide +kernel
theorem dX12_crossest_49 : decode cX12_crossest 49 = .ok (.ireturn, 1) := by decide +kernel
def f_X12_crossest (M : MM)  : Option (Int × MM) :=
bM (upM M 88 2 0) fun M1 =>
lp (X := Int × Int) (Y := Int × MM) (fun x2 =>
if x2.2 < (M1 88 13) then
(((if x2.1 < 0 then
(some x2.2)
else
gd (0 ≤ x2.2 ∧ x2.2 < (10 : Int)) <|
gd (0 ≤ x2.1 ∧ x2.1 < (10 : Int)) <|
if (M1 118 (x2.1).toNat) < (M1 118 (x2.2).toNat) then
(some x2.2)
else
some x2.1) : Option (Int)).bind fun x8 =>
some (Sum.inl (x8, w32 (x2.2 + 1))))
else
some (Sum.inr (x2.1, M1))) FU ((-1), 0)
set_option maxRecDepth 4000 in
theorem c_X12_crossest {E : EE} {sh : List (Nat × Nat)} {ex : Bool} {R : RM} {M : MM}  (hE : Ext sh) (hL : Links R) : ∀ y, f_X12_crossest M = some y → MetC E m_X12_crossest 0 0 [rV 88] (sh, ex, R, M) (fun r w' => r = some (iV y.1) ∧ w' = (sh, ex, R, y.2)) := by
  intro y hy
  refine MetC.seg (o := f_X12_crossest M) (t := (fun K y => K (some (iV y.1)) (sh, ex, R, y.2))) (L := [some (rV 88), none, none]) (by decide) rfl (Nat.le_of_ble_eq_true rfl) ?_ hy ⟨rfl, rfl⟩
  unfold f_X12_crossest
  refine Seg.step (pc' := 1) (I_aload_n (i := 0) dX12_crossest_0 rfl rfl) ?_
  refine Seg.step (pc' := 2) (I_iconst dX12_crossest_1 ⟨by decide, by decide⟩) ?_
  refine Seg.step (pc' := 5) (I_putI cls12 (by decide) wf_12_175 (hE _ _ sk_12) rfl rfl dX12_crossest_2) ?_
  refine S_bM fun M1 => ?_
  refine Seg.step (pc' := 6) (I_iconst dX12_crossest_5 ⟨by decide, by decide⟩) ?_
  refine Seg.step (pc' := 7) (I_istore_n (i := 1) dX12_crossest_6 rfl (by decide) rfl) ?_
  refine Seg.step (pc' := 8) (I_iconst dX12_crossest_7 ⟨by decide, by decide⟩) ?_
  refine Seg.step (pc' := 9) (I_istore_n (i := 2) dX12_crossest_8 rfl (by decide) rfl) ?_
  refine Seg.forget (Lle.ye (Lle.ye (Lle.ye (Lle.nil)))) ?_
  refine S_loop (Y := Int × Int) (fun y => [some (rV 88), some (iV y.1), some (iV y.2)]) (fun y => []) (fun y => (sh, ex, R, M1)) (fun x2 => ?_) FU ((-1), 0)
  refine Seg.step (pc' := 10) (I_iload_n (i := 2) dX12_crossest_9 rfl rfl) ?_
  refine Seg.step (pc' := 11) (I_aload_n (i := 0) dX12_crossest_10 rfl rfl) ?_
  refine Seg.step (pc' := 14) (I_getI cls12 (by decide) wf_12_258 (hE _ _ sk_12) rfl dX12_crossest_11) ?_
  refine S_icmp_ge (tgt := 48) dX12_crossest_14 (by decide) (fun h3 => ?_) (fun h3 => ?_)
  · refine Seg.step (pc' := 18) (I_iload_n (i := 1) dX12_crossest_17 rfl rfl) ?_
    refine S_bind (Y := Int) (k' := 0) (n' := 0) 41 (fun y => [some (rV 88), none, some (iV x2.2)]) (fun y => [iV y]) (fun y => (sh, ex, R, M1)) ?_ (fun x8 => ?_)
    · refine S_if_lt (tgt := 36) dX12_crossest_18 (by decide) (fun h4 => ?_) (fun h4 => ?_)
      · refine Seg.step (pc' := 37) (I_iload_n (i := 2) dX12_crossest_36 rfl rfl) ?_
        refine Seg.step (pc' := 41) (I_goto (tgt := 41) dX12_crossest_37 (by decide)) ?_
        exact S_arr (fun K hK => GG.forget (Lle.ye (Lle.no (Lle.ye (Lle.nil)))) hK)
      refine Seg.step (pc' := 22) (I_aload_n (i := 0) dX12_crossest_21 rfl rfl) ?_
      refine Seg.step (pc' := 25) (I_getR cls12 (by decide) wf_12_103 (hE _ _ sk_12) rfl (lk_12_56 hL) dX12_crossest_22) ?_
      refine Seg.step (pc' := 26) (I_iload_n (i := 2) dX12_crossest_25 rfl rfl) ?_
      refine S_gd fun h5 => ?_
      refine Seg.step (pc' := 27) (I_iald (hE _ _ sk_12_56) h5 dX12_crossest_26) ?_
      refine Seg.step (pc' := 28) (I_aload_n (i := 0) dX12_crossest_27 rfl rfl) ?_
      refine Seg.step (pc' := 31) (I_getR cls12 (by decide) wf_12_103 (hE _ _ sk_12) rfl (lk_12_56 hL) dX12_crossest_28) ?_
      refine Seg.step (pc' := 32) (I_iload_n (i := 1) dX12_crossest_31 rfl rfl) ?_
      refine S_gd fun h6 => ?_
      refine Seg.step (pc' := 33) (I_iald (hE _ _ sk_12_56) h6 dX12_crossest_32) ?_
      refine S_icmp_le (tgt := 40) dX12_crossest_33 (by decide) (fun h7 => ?_) (fun h7 => ?_)
      · refine Seg.step (pc' := 37) (I_iload_n (i := 2) dX12_crossest_36 rfl rfl) ?_
        refine Seg.step (pc' := 41) (I_goto (tgt := 41) dX12_crossest_37 (by decide)) ?_
        exact S_arr (fun K hK => GG.forget (Lle.ye (Lle.no (Lle.ye (Lle.nil)))) hK)
      refine Seg.step (pc' := 41) (I_iload_n (i := 1) dX12_crossest_40 rfl rfl) ?_
      exact S_arr (fun K hK => GG.forget (Lle.ye (Lle.no (Lle.ye (Lle.nil)))) hK)
    refine Seg.step (pc' := 42) (I_istore_n (i := 1) dX12_crossest_41 rfl (by decide) rfl) ?_
    refine Seg.step (pc' := 45) (I_iinc dX12_crossest_42 rfl (by decide) rfl) ?_
    refine Seg.step (pc' := 9) (I_goto (tgt := 9) dX12_crossest_45 (by decide)) ?_
    exact S_arr (fun K hK => GG.forget (Lle.ye (Lle.ye (Lle.ye (Lle.nil)))) hK)
  refine Seg.step (pc' := 49) (I_iload_n (i := 1) dX12_crossest_48 rfl rfl) ?_
  exact S_iret dX12_crossest_49 rfl (by decide) (by decide) (fun K hK => hK)
