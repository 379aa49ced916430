theorem dX12_sunLine_0 : decode cX12_sunLine 0 = .ok (.aload_n 0, 1) := by decide +kernel
theorem dX12_sunLine_1 : decode cX12_sunLine 1 = .ok (.getfield 243, 3) := by decide +kernel
theorem dX12_sunLine_4 : decode cX12_sunLine 4 = .ok (.iconst 4, 1) := by decide +kernel
theorem dX12_sunLine_5 : decode cX12_sunLine 5 = .ok (.if_icmp .ne 9, 3) := by decide +kernel
theorem dX12_sunLine_8 : decode cX12_sunLine 8 = .ok (.aload_n 0, 1) := by decide +kernel
theorem dX12_sunLine_9 : decode cX12_sunLine 9 = .ok (.iconst 2, 1) := by decide +kernel
theorem dX12_sunLine_10 : decode cX12_sunLine 10 = .ok (.invokevirtual 217, 3) := by decide +kernel
theorem dX12_sunLine_13 : decode cX12_sunLine 13 = .ok (.ireturn, 1) := by decide +kernel
theorem dX12_sunLine_14 : decode cX12_sunLine 14 = .ok (.aload_n 0, 1) := by decide +kernel
theorem dX12_sunLine_15 : decode cX12_sunLine 15 = .ok (.invokevirtual 227, 3) := by decide +kernel
theorem dX12_sunLine_18 : decode cX12_sunLine 18 = .ok (.iconst 4, 1) := by decide +kernel
theorem dX12_sunLine_19 : decode cX12_sunLine 19 = .ok (.aload_n 0, 1) := by decide +kernel
theorem dX12_sunLine_20 : decode cX12_sunLine 20 = .ok (.getfield 243, 3) := by decide +kernel
theorem dX12_sunLine_23 : decode cX12_sunLine 23 = .ok (.iadd, 1) := by decide +kernel
theorem dX12_sunLine_24 : decode cX12_sunLine 24 = .ok (.istore_n 1, 1) := by decide +kernel
theorem dX12_sunLine_25 : decode cX12_sunLine 25 = .ok (.aload_n 0, 1) := by decide +kernel
theorem dX12_sunLine_26 : decode cX12_sunLine 26 = .ok (.invokevirtual 285, 3) := by decide +kernel
theorem dX12_sunLine_29 : decode cX12_sunLine 29 = .ok (.ifCond .ne 5, 3) := by decide +kernel
theorem dX12_sunLine_32 : decode cX12_sunLine 32 = .ok (.iconst 0, 1) := by decide +kernel
theorem dX12_sunLine_33 : decode cX12_sunLine 33 = .ok (.ireturn, 1) := by decide +kernel
theorem dX12_sunLine_34 : decode cX12_sunLine 34 = .ok (.aload_n 0, 1) := by decide +kernel
theorem dX12_sunLine_35 : decode cX12_sunLine 35 = .ok (.getfield 54, 3) := by decide +kernel
theorem dX12_sunLine_38 : decode cX12_sunLine 38 = .ok (.iload_n 1, 1) := by decide +kernel
theorem dX12_sunLine_39 : decode cX12_sunLine 39 = .ok (.aload_n 0, 1) := by decide +kernel
theorem dX12_sunLine_40 : decode cX12_sunLine 40 = .ok (.getfield 224, 3) := by decide +kernel
theorem dX12_sunLine_43 : decode cX12_sunLine 43 = .ok (.iastore, 1) := by decide +kernel
theorem dX12_sunLine_44 : decode cX12_sunLine 44 = .ok (.aload_n 0, 1) := by decide +kernel
theorem dX12_sunLine_45 : decode cX12_sunLine 45 = .ok (.iconst 0, 1) := by decide +kernel
theorem dX12_sunLine_46 : decode cX12_sunLine 46 = .ok (.bipush 23, 2) := by decide +kernel
theorem dX12_sunLine_48 : decode cX12_sunLine 48 = .ok (.invokevirtual 233, 3) := by decide +kernel
theorem dX12_sunLine_51 : decode cX12_sunLine 51 = .ok (.ifCond .ne 5, 3) := by decide +kernel
theorem dX12_sunLine_54 : decode cX12_sunLine 54 = .ok (.iconst 0, 1) := by decide +kernel
theorem dX12_sunLine_55 : decode cX12_sunLine 55 = .ok (.ireturn, 1) := by decide +kernel
theorem dX12_sunLine_56 : decode cX12_sunLine 56 = .ok (.aload_n 0, 1) := by decide +kernel
theorem dX12_sunLine_57 : decode cX12_sunLine 57 = .ok (.getfield 57, 3) := by decide +kernel
theorem dX12_sunLine_60 : decode cX12_sunLine 60 = .ok (.iload_n 1, 1) := by decide +kernel
theorem dX12_sunLine_61 : decode cX12_sunLine 61 = .ok (.aload_n 0, 1) := by decide +kernel
theorem dX12_sunLine_62 : decode cX12_sunLine 62 = .ok (.getfield 224, 3) := by decide +kernel
theorem dX12_sunLine_65 : decode cX12_sunLine 65 = .ok (.iastore, 1) := by decide +kernel
theorem dX12_sunLine_66 : decode cX12_sunLine 66 = .ok (.aload_n 0, 1) := by decide +kernel
theorem dX12_sunLine_67 : decode cX12_sunLine 67 = .ok (.iconst 0, 1) := by decide +kernel
theorem dX12_sunLine_68 : decode cX12_sunLine 68 = .ok (.bipush 99, 2) := by decide +kernel
theorem dX12_sunLine_70 : decode cX12_sunLine 70 = .ok (.invokevirtual 233, 3) := by decide +kernel
theorem dX12_sunLine_73 : decode cX12_sunLine 73 = .ok (.ifCond .ne 5, 3) := by decide +kernel
theorem dX12_sunLine_76 : decode cX12_sunLine 76 = .ok (.iconst 0, 1) := by decide +kernel
theorem dX12_sunLine_77 : decode cX12_sunLine 77 = .ok (.ireturn, 1) := by decide +kernel
theorem dX12_sunLine_78 : decode cX12_sunLine 78 = .ok (.aload_n 0, 1) := by decide +kernel
theorem dX12_sunLine_79 : decode cX12_sunLine 79 = .ok (.getfield 60, 3) := by decide +kernel
theorem dX12_sunLine_82 : decode cX12_sunLine 82 = .ok (.iload_n 1, 1) := by decide +kernel
theorem dX12_sunLine_83 : decode cX12_sunLine 83 = .ok (.aload_n 0, 1) := by decide +kernel
theorem dX12_sunLine_84 : decode cX12_sunLine 84 = .ok (.getfield 224, 3) := by decide +kernel
theorem dX12_sunLine_87 : decode cX12_sunLine 87 = .ok (.iastore, 1) := by decide +kernel
theorem dX12_sunLine_88 : decode cX12_sunLine 88 = .ok (.aload_n 0, 1) := by decide +kernel
theorem dX12_sunLine_89 : decode cX12_sunLine 89 = .ok (.dup, 1) := by decide +kernel
theorem dX12_sunLine_90 : decode cX12_sunLine 90 = .ok (.getfield 243, 3) := by decide +kernel
theorem dX12_sunLine_93 : decode cX12_sunLine 93 = .ok (.iconst 1, 1) := by decide +kernel
theorem dX12_sunLine_94 : decode cX12_sunLine 94 = .ok (.iadd, 1) := by decide +kernel
theorem dX12_sunLine_95 : decode cX12_sunLine 95 = .ok (.putfield 243, 3) := by decide +kernel
theorem dX12_sunLine_98 : decode cX12_sunLine 98 = .ok (.iconst 1, 1) := by decide +kernel
theorem dX12_sunLine_99 : decode cX12_sunLine 99 = .ok (.ireturn, 1) := by decide +kernel
def f_X12_sunLine (M : MM)  : Option (Int × MM) :=
if (M 88 19) = 4 then
((f_X12_wrong M 2).bind fun x2 =>
gd (x2.1 = 0 ∨ x2.1 = 1) <|
some (x2.1, x2.2))
else
(f_X12_token M).bind fun x4 =>
bI (w32 (4 + (x4 88 19))) fun x5 =>
(f_X12_roomThere x4).bind fun x6 =>
if x6.1 = 0 then
(some (0, x6.2))
else
gd (0 ≤ x5 ∧ x5 < (8 : Int)) <|
bM (upM x6.2 102 (x5).toNat (x6.2 88 11)) fun M9 =>
(f_X12_number M9 0 23).bind fun x10 =>
if x10.1 = 0 then
(some (0, x10.2))
else
gd (0 ≤ x5 ∧ x5 < (8 : Int)) <|
bM (upM x10.2 103 (x5).toNat (x10.2 88 11)) fun M13 =>
(f_X12_number M13 0 99).bind fun x14 =>
if x14.1 = 0 then
(some (0, x14.2))
else
gd (0 ≤ x5 ∧ x5 < (8 : Int)) <|
bM (upM x14.2 104 (x5).toNat (x14.2 88 11)) fun M17 =>
bM (upM M17 88 19 (w32 ((M17 88 19) + 1))) fun M18 =>
some (1, M18)
set_option maxRecDepth 4000 in
theorem c_X12_sunLine {E : EE} {sh : List (Nat × Nat)} {ex : Bool} {R : RM} {M : MM}  (hE : Ext sh) (hL : Links R) : ∀ y, f_X12_sunLine M = some y → MetC E m_X12_sunLine 0 0 [rV 88] (sh, ex, R, M) (fun r w' => r = some (iV y.1) ∧ w' = (sh, ex, R, y.2)) := by
  intro y hy
  refine MetC.seg (o := f_X12_sunLine M) (t := (fun K y => K (some (iV y.1)) (sh, ex, R, y.2))) (L := [some (rV 88), none]) (by decide) rfl (Nat.le_of_ble_eq_true rfl) ?_ hy ⟨rfl, rfl⟩
  unfold f_X12_sunLine
  refine Seg.step (pc' := 1) (I_aload_n (i := 0) dX12_sunLine_0 rfl rfl) ?_
  refine Seg.step (pc' := 4) (I_getI cls12 (by decide) wf_12_243 (hE _ _ sk_12) rfl dX12_sunLine_1) ?_
  refine Seg.step (pc' := 5) (I_iconst dX12_sunLine_4 ⟨by decide, by decide⟩) ?_
  refine S_icmp_ne (tgt := 14) dX12_sunLine_5 (by decide) (fun h1 => ?_) (fun h1 => ?_)
  · refine Seg.step (pc' := 9) (I_aload_n (i := 0) dX12_sunLine_8 rfl rfl) ?_
    refine Seg.step (pc' := 10) (I_iconst dX12_sunLine_9 ⟨by decide, by decide⟩) ?_
    refine S_callV1 (md' := m_X12_wrong) (fun y => some (iV y.1)) (fun y => (sh, ex, R, y.2)) (hE _ _ sk_12) ⟨by decide, rfl⟩ mm_X12_wrong wm_12_217 ⟨rfl, rfl, by decide, by decide, by decide, by decide⟩ (Nat.le_of_ble_eq_true rfl) dX12_sunLine_10 (fun y hy => c_X12_wrong hE hL y hy) (fun x2 => ?_)
    refine S_gd fun h3 => ?_
    exact S_zret dX12_sunLine_13 rfl h3 (by decide) (by decide) (fun K hK => hK)
  refine Seg.step (pc' := 15) (I_aload_n (i := 0) dX12_sunLine_14 rfl rfl) ?_
  refine S_callV0 (md' := m_X12_token) (fun y => none) (fun y => (sh, ex, R, y)) (hE _ _ sk_12) ⟨by decide, rfl⟩ mm_X12_token wm_12_227 ⟨rfl, rfl, by decide, by decide, by decide, by decide⟩ (Nat.le_of_ble_eq_true rfl) dX12_sunLine_15 (fun y hy => c_X12_token hE hL y hy) (fun x4 => ?_)
  refine Seg.step (pc' := 19) (I_iconst dX12_sunLine_18 ⟨by decide, by decide⟩) ?_
  refine Seg.step (pc' := 20) (I_aload_n (i := 0) dX12_sunLine_19 rfl rfl) ?_
  refine Seg.step (pc' := 23) (I_getI cls12 (by decide) wf_12_243 (hE _ _ sk_12) rfl dX12_sunLine_20) ?_
  refine Seg.step (pc' := 24) (I_iadd dX12_sunLine_23) ?_
  refine S_bI fun x5 => ?_
  refine Seg.step (pc' := 25) (I_istore_n (i := 1) dX12_sunLine_24 rfl (by decide) rfl) ?_
  refine Seg.step (pc' := 26) (I_aload_n (i := 0) dX12_sunLine_25 rfl rfl) ?_
  refine S_callV0 (md' := m_X12_roomThere) (fun y => some (iV y.1)) (fun y => (sh, ex, R, y.2)) (hE _ _ sk_12) ⟨by decide, rfl⟩ mm_X12_roomThere wm_12_285 ⟨rfl, rfl, by decide, by decide, by decide, by decide⟩ (Nat.le_of_ble_eq_true rfl) dX12_sunLine_26 (fun y hy => c_X12_roomThere hE hL y hy) (fun x6 => ?_)
  refine S_if_ne (tgt := 34) dX12_sunLine_29 (by decide) (fun h7 => ?_) (fun h7 => ?_)
  · refine Seg.step (pc' := 33) (I_iconst dX12_sunLine_32 ⟨by decide, by decide⟩) ?_
    exact S_zret dX12_sunLine_33 rfl (by decide) (by decide) (by decide) (fun K hK => hK)
  refine Seg.step (pc' := 35) (I_aload_n (i := 0) dX12_sunLine_34 rfl rfl) ?_
  refine Seg.step (pc' := 38) (I_getR cls12 (by decide) wf_12_54 (hE _ _ sk_12) rfl (lk_12_33 hL) dX12_sunLine_35) ?_
  refine Seg.step (pc' := 39) (I_iload_n (i := 1) dX12_sunLine_38 rfl rfl) ?_
  refine Seg.step (pc' := 40) (I_aload_n (i := 0) dX12_sunLine_39 rfl rfl) ?_
  refine Seg.step (pc' := 43) (I_getI cls12 (by decide) wf_12_224 (hE _ _ sk_12) rfl dX12_sunLine_40) ?_
  refine S_gd fun h8 => ?_
  refine Seg.step (pc' := 44) (I_iast (hE _ _ sk_12_33) h8 dX12_sunLine_43) ?_
  refine S_bM fun M9 => ?_
  refine Seg.step (pc' := 45) (I_aload_n (i := 0) dX12_sunLine_44 rfl rfl) ?_
  refine Seg.step (pc' := 46) (I_iconst dX12_sunLine_45 ⟨by decide, by decide⟩) ?_
  refine Seg.step (pc' := 48) (I_bipush dX12_sunLine_46 (by decide) ⟨by decide, by decide⟩) ?_
  refine S_callV2 (md' := m_X12_number) (fun y => some (iV y.1)) (fun y => (sh, ex, R, y.2)) (hE _ _ sk_12) ⟨by decide, rfl⟩ mm_X12_number wm_12_233 ⟨rfl, rfl, by decide, by decide, by decide, by decide⟩ (Nat.le_of_ble_eq_true rfl) dX12_sunLine_48 (fun y hy => c_X12_number hE hL y hy) (fun x10 => ?_)
  refine S_if_ne (tgt := 56) dX12_sunLine_51 (by decide) (fun h11 => ?_) (fun h11 => ?_)
  · refine Seg.step (pc' := 55) (I_iconst dX12_sunLine_54 ⟨by decide, by decide⟩) ?_
    exact S_zret dX12_sunLine_55 rfl (by decide) (by decide) (by decide) (fun K hK => hK)
  refine Seg.step (pc' := 57) (I_aload_n (i := 0) dX12_sunLine_56 rfl rfl) ?_
  refine Seg.step (pc' := 60) (I_getR cls12 (by decide) wf_12_57 (hE _ _ sk_12) rfl (lk_12_34 hL) dX12_sunLine_57) ?_
  refine Seg.step (pc' := 61) (I_iload_n (i := 1) dX12_sunLine_60 rfl rfl) ?_
  refine Seg.step (pc' := 62) (I_aload_n (i := 0) dX12_sunLine_61 rfl rfl) ?_
  refine Seg.step (pc' := 65) (I_getI cls12 (by decide) wf_12_224 (hE _ _ sk_12) rfl dX12_sunLine_62) ?_
  refine S_gd fun h12 => ?_
  refine Seg.step (pc' := 66) (I_iast (hE _ _ sk_12_34) h12 dX12_sunLine_65) ?_
  refine S_bM fun M13 => ?_
  refine Seg.step (pc' := 67) (I_aload_n (i := 0) dX12_sunLine_66 rfl rfl) ?_
  refine Seg.step (pc' := 68) (I_iconst dX12_sunLine_67 ⟨by decide, by decide⟩) ?_
  refine Seg.step (pc' := 70) (I_bipush dX12_sunLine_68 (by decide) ⟨by decide, by decide⟩) ?_
  refine S_callV2 (md' := m_X12_number) (fun y => some (iV y.1)) (fun y => (sh, ex, R, y.2)) (hE _ _ sk_12) ⟨by decide, rfl⟩ mm_X12_number wm_12_233 ⟨rfl, rfl, by decide, by decide, by decide, by decide⟩ (Nat.le_of_ble_eq_true rfl) dX12_sunLine_70 (fun y hy => c_X12_number hE hL y hy) (fun x14 => ?_)
  refine S_if_ne (tgt := 78) dX12_sunLine_73 (by decide) (fun h15 => ?_) (fun h15 => ?_)
  · refine Seg.step (pc' := 77) (I_iconst dX12_sunLine_76 ⟨by decide, by decide⟩) ?_
    exact S_zret dX12_sunLine_77 rfl (by decide) (by decide) (by decide) (fun K hK => hK)
  refine Seg.step (pc' := 79) (I_aload_n (i := 0) dX12_sunLine_78 rfl rfl) ?_
  refine Seg.step (pc' := 82) (I_getR cls12 (by decide) wf_12_60 (hE _ _ sk_12) rfl (lk_12_35 hL) dX12_sunLine_79) ?_
  refine Seg.step (pc' := 83) (I_iload_n (i := 1) dX12_sunLine_82 rfl rfl) ?_
  refine Seg.step (pc' := 84) (I_aload_n (i := 0) dX12_sunLine_83 rfl rfl) ?_
  refine Seg.step (pc' := 87) (I_getI cls12 (by decide) wf_12_224 (hE _ _ sk_12) rfl dX12_sunLine_84) ?_
  refine S_gd fun h16 => ?_
  refine Seg.step (pc' := 88) (I_iast (hE _ _ sk_12_35) h16 dX12_sunLine_87) ?_
  refine S_bM fun M17 => ?_
  refine Seg.step (pc' := 89) (I_aload_n (i := 0) dX12_sunLine_88 rfl rfl) ?_
  refine Seg.step (pc' := 90) (I_dup dX12_sunLine_89 (fun _ h => by cases h)) ?_
  refine Seg.step (pc' := 93) (I_getI cls12 (by decide) wf_12_243 (hE _ _ sk_12) rfl dX12_sunLine_90) ?_
  refine Seg.step (pc' := 94) (I_iconst dX12_sunLine_93 ⟨by decide, by decide⟩) ?_
  refine Seg.step (pc' := 95) (I_iadd dX12_sunLine_94) ?_
  refine Seg.step (pc' := 98) (I_putI cls12 (by decide) wf_12_243 (hE _ _ sk_12) rfl rfl dX12_sunLine_95) ?_
  refine S_bM fun M18 => ?_
  refine Seg.step (pc' := 99) (I_iconst dX12_sunLine_98 ⟨by decide, by decide⟩) ?_
  exact S_zret dX12_sunLine_99 rfl (by decide) (by decide) (by decide) (fun K hK => hK)
theorem dX12_outLine_0 : decode cX12_outLine 0 = .ok (.aload_n 0, 1) := by decide +kernel
theorem dX12_outLine_1 : decode cX12_outLine 1 = .ok (.getfield 246, 3) := by decide +kernel
theorem dX12_outLine_4 : decode cX12_outLine 4 = .ok (.bipush 8, 2) := by decide +kernel
theorem dX12_outLine_6 : decode cX12_outLine 6 = .ok (.if_icmp .ne 9, 3) := by decide +kernel
theorem dX12_outLine_9 : decode cX12_outLine 9 = .ok (.aload_n 0, 1) := by decide +kernel
theorem dX12_outLine_10 : decode cX12_outLine 10 = .ok (.iconst 2, 1) := by decide +kernel
theorem dX12_outLine_11 : decode cX12_outLine 11 = .ok (.invokevirtual 217, 3) := by decide +kernel
theorem dX12_outLine_14 : decode cX12_outLine 14 = .ok (.ireturn, 1) := by decide +kernel
theorem dX12_outLine_15 : decode cX12_outLine 15 = .ok (.aload_n 0, 1) := by decide +kernel
theorem dX12_outLine_16 : decode cX12_outLine 16 = .ok (.invokevirtual 227, 3) := by decide +kernel
theorem dX12_outLine_19 : decode cX12_outLine 19 = .ok (.aload_n 0, 1) := by decide +kernel
theorem dX12_outLine_20 : decode cX12_outLine 20 = .ok (.iconst 0, 1) := by decide +kernel
theorem dX12_outLine_21 : decode cX12_outLine 21 = .ok (.sipush 400, 3) := by decide +kernel
theorem dX12_outLine_24 : decode cX12_outLine 24 = .ok (.invokevirtual 233, 3) := by decide +kernel
theorem dX12_outLine_27 : decode cX12_outLine 27 = .ok (.ifCond .ne 5, 3) := by decide +kernel
theorem dX12_outLine_30 : decode cX12_outLine 30 = .ok (.iconst 0, 1) := by decide +kernel
theorem dX12_outLine_31 : decode cX12_outLine 31 = .ok (.ireturn, 1) := by decide +kernel
theorem dX12_outLine_32 : decode cX12_outLine 32 = .ok (.aload_n 0, 1) := by decide +kernel
theorem dX12_outLine_33 : decode cX12_outLine 33 = .ok (.getfield 63, 3) := by decide +kernel
theorem dX12_outLine_36 : decode cX12_outLine 36 = .ok (.bipush 8, 2) := by decide +kernel
theorem dX12_outLine_38 : decode cX12_outLine 38 = .ok (.aload_n 0, 1) := by decide +kernel
theorem dX12_outLine_39 : decode cX12_outLine 39 = .ok (.getfield 246, 3) := by decide +kernel
theorem dX12_outLine_42 : decode cX12_outLine 42 = .ok (.iadd, 1) := by decide +kernel
theorem dX12_outLine_43 : decode cX12_outLine 43 = .ok (.aload_n 0, 1) := by decide +kernel
theorem dX12_outLine_44 : decode cX12_outLine 44 = .ok (.getfield 224, 3) := by decide +kernel
theorem dX12_outLine_47 : decode cX12_outLine 47 = .ok (.iastore, 1) := by decide +kernel
theorem dX12_outLine_48 : decode cX12_outLine 48 = .ok (.aload_n 0, 1) := by decide +kernel
theorem dX12_outLine_49 : decode cX12_outLine 49 = .ok (.dup, 1) := by decide +kernel
theorem dX12_outLine_50 : decode cX12_outLine 50 = .ok (.getfield 246, 3) := by decide +kernel
theorem dX12_outLine_53 : decode cX12_outLine 53 = .ok (.iconst 1, 1) := by decide +kernel
theorem dX12_outLine_54 : decode cX12_outLine 54 = .ok (.iadd, 1) := by decide +kernel
theorem dX12_outLine_55 : decode cX12_outLine 55 = .ok (.putfield 246, 3) := by decide +kernel
theorem dX12_outLine_58 : decode cX12_outLine 58 = .ok (.iconst 1, 1) := by decide +kernel
theorem dX12_outLine_59 : decode cX12_outLine 59 = .ok (.ireturn, 1) := by decide +kernel
def f_X12_outLine (M : MM)  : Option (Int × MM) :=
if (M 88 20) = 8 then
((f_X12_wrong M 2).bind fun x2 =>
gd (x2.1 = 0 ∨ x2.1 = 1) <|
some (x2.1, x2.2))
else
(f_X12_token M).bind fun x4 =>
(f_X12_number x4 0 400).bind fun x5 =>
if x5.1 = 0 then
(some (0, x5.2))
else
gd (0 ≤ w32 (8 + (x5.2 88 20)) ∧ w32 (8 + (x5.2 88 20)) < (16 : Int)) <|
bM (upM x5.2 105 (w32 (8 + (x5.2 88 20))).toNat (x5.2 88 11)) fun M8 =>
bM (upM M8 88 20 (w32 ((M8 88 20) + 1))) fun M9 =>
some (1, M9)
set_option maxRecDepth 4000 in
theorem c_X12_outLine {E : EE} {sh : List (Nat × Nat)} {ex : Bool} {R : RM} {M : MM}  (hE : Ext sh) (hL : Links R) : ∀ y, f_X12_outLine M = some y → MetC E m_X12_outLine 0 0 [rV 88] (sh, ex, R, M) (fun r w' => r = some (iV y.1) ∧ w' = (sh, ex, R, y.2)) := by
  intro y hy
  refine MetC.seg (o := f_X12_outLine M) (t := (fun K y => K (some (iV y.1)) (sh, ex, R, y.2))) (L := [some (rV 88)]) (by decide) rfl (Nat.le_of_ble_eq_true rfl) ?_ hy ⟨rfl, rfl⟩
  unfold f_X12_outLine
  refine Seg.step (pc' := 1) (I_aload_n (i := 0) dX12_outLine_0 rfl rfl) ?_
  refine Seg.step (pc' := 4) (I_getI cls12 (by decide) wf_12_246 (hE _ _ sk_12) rfl dX12_outLine_1) ?_
  refine Seg.step (pc' := 6) (I_bipush dX12_outLine_4 (by decide) ⟨by decide, by decide⟩) ?_
  refine S_icmp_ne (tgt := 15) dX12_outLine_6 (by decide) (fun h1 => ?_) (fun h1 => ?_)
  · refine Seg.step (pc' := 10) (I_aload_n (i := 0) dX12_outLine_9 rfl rfl) ?_
    refine Seg.step (pc' := 11) (I_iconst dX12_outLine_10 ⟨by decide, by decide⟩) ?_
    refine S_callV1 (md' := m_X12_wrong) (fun y => some (iV y.1)) (fun y => (sh, ex, R, y.2)) (hE _ _ sk_12) ⟨by decide, rfl⟩ mm_X12_wrong wm_12_217 ⟨rfl, rfl, by decide, by decide, by decide, by decide⟩ (Nat.le_of_ble_eq_true rfl) dX12_outLine_11 (fun y hy => c_X12_wrong hE hL y hy) (fun x2 => ?_)
    refine S_gd fun h3 => ?_
    exact S_zret dX12_outLine_14 rfl h3 (by decide) (by decide) (fun K hK => hK)
  refine Seg.step (pc' := 16) (I_aload_n (i := 0) dX12_outLine_15 rfl rfl) ?_
  refine S_callV0 (md' := m_X12_token) (fun y => none) (fun y => (sh, ex, R, y)) (hE _ _ sk_12) ⟨by decide, rfl⟩ mm_X12_token wm_12_227 ⟨rfl, rfl, by decide, by decide, by decide, by decide⟩ (Nat.le_of_ble_eq_true rfl) dX12_outLine_16 (fun y hy => c_X12_token hE hL y hy) (fun x4 => ?_)
  refine Seg.step (pc' := 20) (I_aload_n (i := 0) dX12_outLine_19 rfl rfl) ?_
  refine Seg.step (pc' := 21) (I_iconst dX12_outLine_20 ⟨by decide, by decide⟩) ?_
  refine Seg.step (pc' := 24) (I_sipush dX12_outLine_21 (by decide) ⟨by decide, by decide⟩) ?_
  refine S_callV2 (md' := m_X12_number) (fun y => some (iV y.1)) (fun y => (sh, ex, R, y.2)) (hE _ _ sk_12) ⟨by decide, rfl⟩ mm_X12_number wm_12_233 ⟨rfl, rfl, by decide, by decide, by decide, by decide⟩ (Nat.le_of_ble_eq_true rfl) dX12_outLine_24 (fun y hy => c_X12_number hE hL y hy) (fun x5 => ?_)
  refine S_if_ne (tgt := 32) dX12_outLine_27 (by decide) (fun h6 => ?_) (fun h6 => ?_)
  · refine Seg.step (pc' := 31) (I_iconst dX12_outLine_30 ⟨by decide, by decide⟩) ?_
    exact S_zret dX12_outLine_31 rfl (by decide) (by decide) (by decide) (fun K hK => hK)
  refine Seg.step (pc' := 33) (I_aload_n (i := 0) dX12_outLine_32 rfl rfl) ?_
  refine Seg.step (pc' := 36) (I_getR cls12 (by decide) wf_12_63 (hE _ _ sk_12) rfl (lk_12_36 hL) dX12_outLine_33) ?_
  refine Seg.step (pc' := 38) (I_bipush dX12_outLine_36 (by decide) ⟨by decide, by decide⟩) ?_
  refine Seg.step (pc' := 39) (I_aload_n (i := 0) dX12_outLine_38 rfl rfl) ?_
  refine Seg.step (pc' := 42) (I_getI cls12 (by decide) wf_12_246 (hE _ _ sk_12) rfl dX12_outLine_39) ?_
  refine Seg.step (pc' := 43) (I_iadd dX12_outLine_42) ?_
  refine Seg.step (pc' := 44) (I_aload_n (i := 0) dX12_outLine_43 rfl rfl) ?_
  refine Seg.step (pc' := 47) (I_getI cls12 (by decide) wf_12_224 (hE _ _ sk_12) rfl dX12_outLine_44) ?_
  refine S_gd fun h7 => ?_
  refine Seg.step (pc' := 48) (I_iast (hE _ _ sk_12_36) h7 dX12_outLine_47) ?_
  refine S_bM fun M8 => ?_
  refine Seg.step (pc' := 49) (I_aload_n (i := 0) dX12_outLine_48 rfl rfl) ?_
  refine Seg.step (pc' := 50) (I_dup dX12_outLine_49 (fun _ h => by cases h)) ?_
  refine Seg.step (pc' := 53) (I_getI cls12 (by decide) wf_12_246 (hE _ _ sk_12) rfl dX12_outLine_50) ?_
  refine Seg.step (pc' := 54) (I_iconst dX12_outLine_53 ⟨by decide, by decide⟩) ?_
  refine Seg.step (pc' := 55) (I_iadd dX12_outLine_54) ?_
  refine Seg.step (pc' := 58) (I_putI cls12 (by decide) wf_12_246 (hE _ _ sk_12) rfl rfl dX12_outLine_55) ?_
  refine S_bM fun M9 => ?_
  refine Seg.step (pc' := 59) (I_iconst dX12_outLine_58 ⟨by decide, by decide⟩) ?_
  exact S_zret dX12_outLine_59 rfl (by decide) (by decide) (by decide) (fun K hK => hK)
theorem dX12_knobLine_0 : decode cX12_knobLine 0 = .ok (.aload_n 0, 1) := by decide +kernel
theorem dX12_knobLine_1 : decode cX12_knobLine 1 = .ok (.getfield 20, 3) := by decide +kernel
theorem dX12_knobLine_4 : decode cX12_knobLine 4 = .ok (.iconst 0, 1) := by decide +kernel
theorem dX12_knobLine_5 : decode cX12_knobLine 5 = .ok (.baload, 1) := by decide +kernel
theorem dX12_knobLine_6 : decode cX12_knobLine 6 = .ok (.ifCond .eq 9, 3) := by decide +kernel
theorem dX12_knobLine_9 : decode cX12_knobLine 9 = .ok (.aload_n 0, 1) := by decide +kernel
theorem dX12_knobLine_10 : decode cX12_knobLine 10 = .ok (.iconst 3, 1) := by decide +kernel
theorem dX12_knobLine_11 : decode cX12_knobLine 11 = .ok (.invokevirtual 217, 3) := by decide +kernel
theorem dX12_knobLine_14 : decode cX12_knobLine 14 = .ok (.ireturn, 1) := by decide +kernel
theorem dX12_knobLine_15 : decode cX12_knobLine 15 = .ok (.aload_n 0, 1) := by decide +kernel
theorem dX12_knobLine_16 : decode cX12_knobLine 16 = .ok (.getfield 20, 3) := by decide +kernel
theorem dX12_knobLine_19 : decode cX12_knobLine 19 = .ok (.iconst 0, 1) := by decide +kernel
theorem dX12_knobLine_20 : decode cX12_knobLine 20 = .ok (.iconst 1, 1) := by decide +kernel
theorem dX12_knobLine_21 : decode cX12_knobLine 21 = .ok (.bastore, 1) := by decide +kernel
theorem dX12_knobLine_22 : decode cX12_knobLine 22 = .ok (.aload_n 0, 1) := by decide +kernel
theorem dX12_knobLine_23 : decode cX12_knobLine 23 = .ok (.invokevirtual 227, 3) := by decide +kernel
theorem dX12_knobLine_26 : decode cX12_knobLine 26 = .ok (.aload_n 0, 1) := by decide +kernel
theorem dX12_knobLine_27 : decode cX12_knobLine 27 = .ok (.iconst 5, 1) := by decide +kernel
theorem dX12_knobLine_28 : decode cX12_knobLine 28 = .ok (.bipush 30, 2) := by decide +kernel
theorem dX12_knobLine_30 : decode cX12_knobLine 30 = .ok (.invokevirtual 233, 3) := by decide +kernel
theorem dX12_knobLine_33 : decode cX12_knobLine 33 = .ok (.ifCond .ne 5, 3) := by decide +kernel
theorem dX12_knobLine_36 : decode cX12_knobLine 36 = .ok (.iconst 0, 1) := by decide +kernel
theorem dX12_knobLine_37 : decode cX12_knobLine 37 = .ok (.ireturn, 1) := by decide +kernel
theorem dX12_knobLine_38 : decode cX12_knobLine 38 = .ok (.aload_n 0, 1) := by decide +kernel
theorem dX12_knobLine_39 : decode cX12_knobLine 39 = .ok (.getfield 24, 3) := by decide +kernel
theorem dX12_knobLine_42 : decode cX12_knobLine 42 = .ok (.iconst 3, 1) := by decide +kernel
theorem dX12_knobLine_43 : decode cX12_knobLine 43 = .ok (.aload_n 0, 1) := by decide +kernel
theorem dX12_knobLine_44 : decode cX12_knobLine 44 = .ok (.getfield 224, 3) := by decide +kernel
theorem dX12_knobLine_47 : decode cX12_knobLine 47 = .ok (.iastore, 1) := by decide +kernel
theorem dX12_knobLine_48 : decode cX12_knobLine 48 = .ok (.aload_n 0, 1) := by decide +kernel
theorem dX12_knobLine_49 : decode cX12_knobLine 49 = .ok (.invokevirtual 285, 3) := by decide +kernel
theorem dX12_knobLine_52 : decode cX12_knobLine 52 = .ok (.ifCond .ne 5, 3) := by decide +kernel
theorem dX12_knobLine_55 : decode cX12_knobLine 55 = .ok (.iconst 0, 1) := by decide +kernel
theorem dX12_knobLine_56 : decode cX12_knobLine 56 = .ok (.ireturn, 1) := by decide +kernel
theorem dX12_knobLine_57 : decode cX12_knobLine 57 = .ok (.aload_n 0, 1) := by decide +kernel
theorem dX12_knobLine_58 : decode cX12_knobLine 58 = .ok (.getfield 24, 3) := by decide +kernel
theorem dX12_knobLine_61 : decode cX12_knobLine 61 = .ok (.iconst 4, 1) := by decide +kernel
theorem dX12_knobLine_62 : decode cX12_knobLine 62 = .ok (.aload_n 0, 1) := by decide +kernel
theorem dX12_knobLine_63 : decode cX12_knobLine 63 = .ok (.getfield 224, 3) := by decide +kernel
theorem dX12_knobLine_66 : decode cX12_knobLine 66 = .ok (.iastore, 1) := by decide +kernel
theorem dX12_knobLine_67 : decode cX12_knobLine 67 = .ok (.iconst 1, 1) := by decide +kernel
theorem dX12_knobLine_68 : decode cX12_knobLine 68 = .ok (.ireturn, 1) := by decide +kernel
def f_X12_knobLine (M : MM)  : Option (Int × MM) :=
if (M 91 0) = 0 then
(bM (upM M 91 0 1) fun M2 =>
(f_X12_token M2).bind fun x3 =>
(f_X12_number x3 5 30).bind fun x4 =>
if x4.1 = 0 then
(some (0, x4.2))
else
bM (upM x4.2 92 3 (x4.2 88 11)) fun M6 =>
(f_X12_roomThere M6).bind fun x7 =>
if x7.1 = 0 then
(some (0, x7.2))
else
bM (upM x7.2 92 4 (x7.2 88 11)) fun M9 =>
some (1, M9))
else
(f_X12_wrong M 3).bind fun x10 =>
gd (x10.1 = 0 ∨ x10.1 = 1) <|
some (x10.1, x10.2)
set_option maxRecDepth 4000 in
theorem c_X12_knobLine {E : EE} {sh : List (Nat × Nat)} {ex : Bool} {R : RM} {M : MM}  (hE : Ext sh) (hL : Links R) : ∀ y, f_X12_knobLine M = some y → MetC E m_X12_knobLine 0 0 [rV 88] (sh, ex, R, M) (fun r w' => r = some (iV y.1) ∧ w' = (sh, ex, R, y.2)) := by
  intro y hy
  refine MetC.seg (o := f_X12_knobLine M) (t := (fun K y => K (some (iV y.1)) (sh, ex, R, y.2))) (L := [some (rV 88)]) (by decide) rfl (Nat.le_of_ble_eq_true rfl) ?_ hy ⟨rfl, rfl⟩
  unfold f_X12_knobLine
  refine Seg.step (pc' := 1) (I_aload_n (i := 0) dX12_knobLine_0 rfl rfl) ?_
  refine Seg.step (pc' := 4) (I_getR cls12 (by decide) wf_12_20 (hE _ _ sk_12) rfl (lk_12_22 hL) dX12_knobLine_1) ?_
  refine Seg.step (pc' := 5) (I_iconst dX12_knobLine_4 ⟨by decide, by decide⟩) ?_
  refine Seg.step (pc' := 6) (I_zald (hE _ _ sk_12_22) ⟨by decide, by decide⟩ dX12_knobLine_5) ?_
  refine S_if_eq (tgt := 15) dX12_knobLine_6 (by decide) (fun h1 => ?_) (fun h1 => ?_)
  · refine Seg.step (pc' := 16) (I_aload_n (i := 0) dX12_knobLine_15 rfl rfl) ?_
    refine Seg.step (pc' := 19) (I_getR cls12 (by decide) wf_12_20 (hE _ _ sk_12) rfl (lk_12_22 hL) dX12_knobLine_16) ?_
    refine Seg.step (pc' := 20) (I_iconst dX12_knobLine_19 ⟨by decide, by decide⟩) ?_
    refine Seg.step (pc' := 21) (I_iconst dX12_knobLine_20 ⟨by decide, by decide⟩) ?_
    refine Seg.step (pc' := 22) (I_zast (hE _ _ sk_12_22) ⟨by decide, by decide⟩ (by decide) dX12_knobLine_21) ?_
    refine S_bM fun M2 => ?_
    refine Seg.step (pc' := 23) (I_aload_n (i := 0) dX12_knobLine_22 rfl rfl) ?_
    refine S_callV0 (md' := m_X12_token) (fun y => none) (fun y => (sh, ex, R, y)) (hE _ _ sk_12) ⟨by decide, rfl⟩ mm_X12_token wm_12_227 ⟨rfl, rfl, by decide, by decide, by decide, by decide⟩ (Nat.le_of_ble_eq_true rfl) dX12_knobLine_23 (fun y hy => c_X12_token hE hL y hy) (fun x3 => ?_)
    refine Seg.step (pc' := 27) (I_aload_n (i := 0) dX12_knobLine_26 rfl rfl) ?_
    refine Seg.step (pc' := 28) (I_iconst dX12_knobLine_27 ⟨by decide, by decide⟩) ?_
    refine Seg.step (pc' := 30) (I_bipush dX12_knobLine_28 (by decide) ⟨by decide, by decide⟩) ?_
    refine S_callV2 (md' := m_X12_number) (fun y => some (iV y.1)) (fun y => (sh, ex, R, y.2)) (hE _ _ sk_12) ⟨by decide, rfl⟩ mm_X12_number wm_12_233 ⟨rfl, rfl, by decide, by decide, by decide, by decide⟩ (Nat.le_of_ble_eq_true rfl) dX12_knobLine_30 (fun y hy => c_X12_number hE hL y hy) (fun x4 => ?_)
    refine S_if_ne (tgt := 38) dX12_knobLine_33 (by decide) (fun h5 => ?_) (fun h5 => ?_)
    · refine Seg.step (pc' := 37) (I_iconst dX12_knobLine_36 ⟨by decide, by decide⟩) ?_
      exact S_zret dX12_knobLine_37 rfl (by decide) (by decide) (by decide) (fun K hK => hK)
    refine Seg.step (pc' := 39) (I_aload_n (i := 0) dX12_knobLine_38 rfl rfl) ?_
    refine Seg.step (pc' := 42) (I_getR cls12 (by decide) wf_12_24 (hE _ _ sk_12) rfl (lk_12_23 hL) dX12_knobLine_39) ?_
    refine Seg.step (pc' := 43) (I_iconst dX12_knobLine_42 ⟨by decide, by decide⟩) ?_
    refine Seg.step (pc' := 44) (I_aload_n (i := 0) dX12_knobLine_43 rfl rfl) ?_
    refine Seg.step (pc' := 47) (I_getI cls12 (by decide) wf_12_224 (hE _ _ sk_12) rfl dX12_knobLine_44) ?_
    refine Seg.step (pc' := 48) (I_iast (hE _ _ sk_12_23) ⟨by decide, by decide⟩ dX12_knobLine_47) ?_
    refine S_bM fun M6 => ?_
    refine Seg.step (pc' := 49) (I_aload_n (i := 0) dX12_knobLine_48 rfl rfl) ?_
    refine S_callV0 (md' := m_X12_roomThere) (fun y => some (iV y.1)) (fun y => (sh, ex, R, y.2)) (hE _ _ sk_12) ⟨by decide, rfl⟩ mm_X12_roomThere wm_12_285 ⟨rfl, rfl, by decide, by decide, by decide, by decide⟩ (Nat.le_of_ble_eq_true rfl) dX12_knobLine_49 (fun y hy => c_X12_roomThere hE hL y hy) (fun x7 => ?_)
    refine S_if_ne (tgt := 57) dX12_knobLine_52 (by decide) (fun h8 => ?_) (fun h8 => ?_)
    · refine Seg.step (pc' := 56) (I_iconst dX12_knobLine_55 ⟨by decide, by decide⟩) ?_
      exact S_zret dX12_knobLine_56 rfl (by decide) (by decide) (by decide) (fun K hK => hK)
    refine Seg.step (pc' := 58) (I_aload_n (i := 0) dX12_knobLine_57 rfl rfl) ?_
    refine Seg.step (pc' := 61) (I_getR cls12 (by decide) wf_12_24 (hE _ _ sk_12) rfl (lk_12_23 hL) dX12_knobLine_58) ?_
    refine Seg.step (pc' := 62) (I_iconst dX12_knobLine_61 ⟨by decide, by decide⟩) ?_
    refine Seg.step (pc' := 63) (I_aload_n (i := 0) dX12_knobLine_62 rfl rfl) ?_
    refine Seg.step (pc' := 66) (I_getI cls12 (by decide) wf_12_224 (hE _ _ sk_12) rfl dX12_knobLine_63) ?_
    refine Seg.step (pc' := 67) (I_iast (hE _ _ sk_12_23) ⟨by decide, by decide⟩ dX12_knobLine_66) ?_
    refine S_bM fun M9 => ?_
    refine Seg.step (pc' := 68) (I_iconst dX12_knobLine_67 ⟨by decide, by decide⟩) ?_
    exact S_zret dX12_knobLine_68 rfl (by decide) (by decide) (by decide) (fun K hK => hK)
  refine Seg.step (pc' := 10) (I_aload_n (i := 0) dX12_knobLine_9 rfl rfl) ?_
  refine Seg.step (pc' := 11) (I_iconst dX12_knobLine_10 ⟨by decide, by decide⟩) ?_
  refine S_callV1 (md' := m_X12_wrong) (fun y => some (iV y.1)) (fun y => (sh, ex, R, y.2)) (hE _ _ sk_12) ⟨by decide, rfl⟩ mm_X12_wrong wm_12_217 ⟨rfl, rfl, by decide, by decide, by decide, by decide⟩ (Nat.le_of_ble_eq_true rfl) dX12_knobLine_11 (fun y hy => c_X12_wrong hE hL y hy) (fun x10 => ?_)
  refine S_gd fun h11 => ?_
  exact S_zret dX12_knobLine_14 rfl h11 (by decide) (by decide) (fun K hK => hK)
theorem dX12_priceLine_0 : decode cX12_priceLine 0 = .ok (.aload_n 0, 1) := by decide +kernel
theorem dX12_priceLine_1 : decode cX12_priceLine 1 = .ok (.getfield 20, 3) := by decide +kernel
theorem dX12_priceLine_4 : decode cX12_priceLine 4 = .ok (.iconst 1, 1) := by decide +kernel
theorem dX12_priceLine_5 : decode cX12_priceLine 5 = .ok (.baload, 1) := by decide +kernel
theorem dX12_priceLine_6 : decode cX12_priceLine 6 = .ok (.ifCond .eq 9, 3) := by decide +kernel
theorem dX12_priceLine_9 : decode cX12_priceLine 9 = .ok (.aload_n 0, 1) := by decide +kernel
theorem dX12_priceLine_10 : decode cX12_priceLine 10 = .ok (.iconst 3, 1) := by decide +kernel
theorem dX12_priceLine_11 : decode cX12_priceLine 11 = .ok (.invokevirtual 217, 3) := by decide +kernel
theorem dX12_priceLine_14 : decode cX12_priceLine 14 = .ok (.ireturn, 1) := by decide +kernel
theorem dX12_priceLine_15 : decode cX12_priceLine 15 = .ok (.aload_n 0, 1) := by decide +kernel
theorem dX12_priceLine_16 : decode cX12_priceLine 16 = .ok (.getfield 20, 3) := by decide +kernel
theorem dX12_priceLine_19 : decode cX12_priceLine 19 = .ok (.iconst 1, 1) := by decide +kernel
theorem dX12_priceLine_20 : decode cX12_priceLine 20 = .ok (.iconst 1, 1) := by decide +kernel
theorem dX12_priceLine_21 : decode cX12_priceLine 21 = .ok (.bastore, 1) := by decide +kernel
theorem dX12_priceLine_22 : decode cX12_priceLine 22 = .ok (.aload_n 0, 1) := by decide +kernel
theorem dX12_priceLine_23 : decode cX12_priceLine 23 = .ok (.invokevirtual 227, 3) := by decide +kernel
theorem dX12_priceLine_26 : decode cX12_priceLine 26 = .ok (.aload_n 0, 1) := by decide +kernel
theorem dX12_priceLine_27 : decode cX12_priceLine 27 = .ok (.iconst 0, 1) := by decide +kernel
theorem dX12_priceLine_28 : decode cX12_priceLine 28 = .ok (.bipush 99, 2) := by decide +kernel
theorem dX12_priceLine_30 : decode cX12_priceLine 30 = .ok (.invokevirtual 233, 3) := by decide +kernel
theorem dX12_priceLine_33 : decode cX12_priceLine 33 = .ok (.ifCond .ne 5, 3) := by decide +kernel
theorem dX12_priceLine_36 : decode cX12_priceLine 36 = .ok (.iconst 0, 1) := by decide +kernel
theorem dX12_priceLine_37 : decode cX12_priceLine 37 = .ok (.ireturn, 1) := by decide +kernel
theorem dX12_priceLine_38 : decode cX12_priceLine 38 = .ok (.aload_n 0, 1) := by decide +kernel
theorem dX12_priceLine_39 : decode cX12_priceLine 39 = .ok (.getfield 24, 3) := by decide +kernel
theorem dX12_priceLine_42 : decode cX12_priceLine 42 = .ok (.iconst 5, 1) := by decide +kernel
theorem dX12_priceLine_43 : decode cX12_priceLine 43 = .ok (.aload_n 0, 1) := by decide +kernel
theorem dX12_priceLine_44 : decode cX12_priceLine 44 = .ok (.getfield 224, 3) := by decide +kernel
theorem dX12_priceLine_47 : decode cX12_priceLine 47 = .ok (.iastore, 1) := by decide +kernel
theorem dX12_priceLine_48 : decode cX12_priceLine 48 = .ok (.iconst 1, 1) := by decide +kernel
theorem dX12_priceLine_49 : decode cX12_priceLine 49 = .ok (.ireturn, 1) := by decide +kernel
def f_X12_priceLine (M : MM)  : Option (Int × MM) :=
if (M 91 1) = 0 then
(bM (upM M 91 1 1) fun M2 =>
(f_X12_token M2).bind fun x3 =>
(f_X12_number x3 0 99).bind fun x4 =>
if x4.1 = 0 then
(some (0, x4.2))
else
bM (upM x4.2 92 5 (x4.2 88 11)) fun M6 =>
some (1, M6))
else
(f_X12_wrong M 3).bind fun x7 =>
gd (x7.1 = 0 ∨ x7.1 = 1) <|
some (x7.1, x7.2)
set_option maxRecDepth 4000 in
theorem c_X12_priceLine {E : EE} {sh : List (Nat × Nat)} {ex : Bool} {R : RM} {M : MM}  (hE : Ext sh) (hL : Links R) : ∀ y, f_X12_priceLine M = some y → MetC E m_X12_priceLine 0 0 [rV 88] (sh, ex, R, M) (fun r w' => r = some (iV y.1) ∧ w' = (sh, ex, R, y.2)) := by
  intro y hy
  refine MetC.seg (o := f_X12_priceLine M) (t := (fun K y => K (some (iV y.1)) (sh, ex, R, y.2))) (L := [some (rV 88)]) (by decide) rfl (Nat.le_of_ble_eq_true rfl) ?_ hy ⟨rfl, rfl⟩
  unfold f_X12_priceLine
  refine Seg.step (pc' := 1) (I_aload_n (i := 0) dX12_priceLine_0 rfl rfl) ?_
  refine Seg.step (pc' := 4) (I_getR cls12 (by decide) wf_12_20 (hE _ _ sk_12) rfl (lk_12_22 hL) dX12_priceLine_1) ?_
  refine Seg.step (pc' := 5) (I_iconst dX12_priceLine_4 ⟨by decide, by decide⟩) ?_
  refine Seg.step (pc' := 6) (I_zald (hE _ _ sk_12_22) ⟨by decide, by decide⟩ dX12_priceLine_5) ?_
  refine S_if_eq (tgt := 15) dX12_priceLine_6 (by decide) (fun h1 => ?_) (fun h1 => ?_)
  · refine Seg.step (pc' := 16) (I_aload_n (i := 0) dX12_priceLine_15 rfl rfl) ?_
    refine Seg.step (pc' := 19) (I_getR cls12 (by decide) wf_12_20 (hE _ _ sk_12) rfl (lk_12_22 hL) dX12_priceLine_16) ?_
    refine Seg.step (pc' := 20) (I_iconst dX12_priceLine_19 ⟨by decide, by decide⟩) ?_
    refine Seg.step (pc' := 21) (I_iconst dX12_priceLine_20 ⟨by decide, by decide⟩) ?_
    refine Seg.step (pc' := 22) (I_zast (hE _ _ sk_12_22) ⟨by decide, by decide⟩ (by decide) dX12_priceLine_21) ?_
    refine S_bM fun M2 => ?_
    refine Seg.step (pc' := 23) (I_aload_n (i := 0) dX12_priceLine_22 rfl rfl) ?_
    refine S_callV0 (md' := m_X12_token) (fun y => none) (fun y => (sh, ex, R, y)) (hE _ _ sk_12) ⟨by decide, rfl⟩ mm_X12_token wm_12_227 ⟨rfl, rfl, by decide, by decide, by decide, by decide⟩ (Nat.le_of_ble_eq_true rfl) dX12_priceLine_23 (fun y hy => c_X12_token hE hL y hy) (fun x3 => ?_)
    refine Seg.step (pc' := 27) (I_aload_n (i := 0) dX12_priceLine_26 rfl rfl) ?_
    refine Seg.step (pc' := 28) (I_iconst dX12_priceLine_27 ⟨by decide, by decide⟩) ?_
    refine Seg.step (pc' := 30) (I_bipush dX12_priceLine_28 (by decide) ⟨by decide, by decide⟩) ?_
    refine S_callV2 (md' := m_X12_number) (fun y => some (iV y.1)) (fun y => (sh, ex, R, y.2)) (hE _ _ sk_12) ⟨by decide, rfl⟩ mm_X12_number wm_12_233 ⟨rfl, rfl, by decide, by decide, by decide, by decide⟩ (Nat.le_of_ble_eq_true rfl) dX12_priceLine_30 (fun y hy => c_X12_number hE hL y hy) (fun x4 => ?_)
    refine S_if_ne (tgt := 38) dX12_priceLine_33 (by decide) (fun h5 => ?_) (fun h5 => ?_)
    · refine Seg.step (pc' := 37) (I_iconst dX12_priceLine_36 ⟨by decide, by decide⟩) ?_
      exact S_zret dX12_priceLine_37 rfl (by decide) (by decide) (by decide) (fun K hK => hK)
    refine Seg.step (pc' := 39) (I_aload_n (i := 0) dX12_priceLine_38 rfl rfl) ?_
    refine Seg.step (pc' := 42) (I_getR cls12 (by decide) wf_12_24 (hE _ _ sk_12) rfl (lk_12_23 hL) dX12_priceLine_39) ?_
    refine Seg.step (pc' := 43) (I_iconst dX12_priceLine_42 ⟨by decide, by decide⟩) ?_
    refine Seg.step (pc' := 44) (I_aload_n (i := 0) dX12_priceLine_43 rfl rfl) ?_
    refine Seg.step (pc' := 47) (I_getI cls12 (by decide) wf_12_224 (hE _ _ sk_12) rfl dX12_priceLine_44) ?_
    refine Seg.step (pc' := 48) (I_iast (hE _ _ sk_12_23) ⟨by decide, by decide⟩ dX12_priceLine_47) ?_
    refine S_bM fun M6 => ?_
    refine Seg.step (pc' := 49) (I_iconst dX12_priceLine_48 ⟨by decide, by decide⟩) ?_
    exact S_zret dX12_priceLine_49 rfl (by decide) (by decide) (by decide) (fun K hK => hK)
  refine Seg.step (pc' := 10) (I_aload_n (i := 0) dX12_priceLine_9 rfl rfl) ?_
  refine Seg.step (pc' := 11) (I_iconst dX12_priceLine_10 ⟨by decide, by decide⟩) ?_
  refine S_callV1 (md' := m_X12_wrong) (fun y => some (iV y.1)) (fun y => (sh, ex, R, y.2)) (hE _ _ sk_12) ⟨by decide, rfl⟩ mm_X12_wrong wm_12_217 ⟨rfl, rfl, by decide, by decide, by decide, by decide⟩ (Nat.le_of_ble_eq_true rfl) dX12_priceLine_11 (fun y hy => c_X12_wrong hE hL y hy) (fun x7 => ?_)
  refine S_gd fun h8 => ?_
  exact S_zret dX12_priceLine_14 rfl h8 (by decide) (by decide) (fun K hK => hK)
theorem dX12_waitsFor_0 : decode cX12_waitsFor 0 = .ok (.aload_n 0, 1) := by decide +kernel
theorem dX12_waitsFor_1 : decode cX12_waitsFor 1 = .ok (.getfield 84, 3) := by decide +kernel
theorem dX12_waitsFor_4 : decode cX12_waitsFor 4 = .ok (.aload_n 0, 1) := by decide +kernel
theorem dX12_waitsFor_5 : decode cX12_waitsFor 5 = .ok (.getfield 316, 3) := by decide +kernel
theorem dX12_waitsFor_8 : decode cX12_waitsFor 8 = .ok (.iload_n 1, 1) := by decide +kernel
theorem dX12_waitsFor_9 : decode cX12_waitsFor 9 = .ok (.iastore, 1) := by decide +kernel
theorem dX12_waitsFor_10 : decode cX12_waitsFor 10 = .ok (.aload_n 0, 1) := by decide +kernel
theorem dX12_waitsFor_11 : decode cX12_waitsFor 11 = .ok (.dup, 1) := by decide +kernel
theorem dX12_waitsFor_12 : decode cX12_waitsFor 12 = .ok (.getfield 316, 3) := by decide +kernel
theorem dX12_waitsFor_15 : decode cX12_waitsFor 15 = .ok (.iconst 1, 1) := by decide +kernel
theorem dX12_waitsFor_16 : decode cX12_waitsFor 16 = .ok (.iadd, 1) := by decide +kernel
theorem dX12_waitsFor_17 : decode cX12_waitsFor 17 = .ok (.putfield 316, 3) := by decide +kernel
theorem dX12_waitsFor_20 : decode cX12_waitsFor 20 = .ok (.return_, 1) := by decide +kernel
def f_X12_waitsFor (M : MM) (p1 : Int) : Option (MM) :=
gd (0 ≤ M 88 45 ∧ M 88 45 < (96 : Int)) <|
bM (upM M 112 (M 88 45).toNat p1) fun M2 =>
bM (upM M2 88 45 (w32 ((M2 88 45) + 1))) fun M3 =>
some M3
set_option maxRecDepth 4000 in
theorem c_X12_waitsFor {E : EE} {sh : List (Nat × Nat)} {ex : Bool} {R : RM} {M : MM} {p1 : Int} (hE : Ext sh) (hL : Links R) : ∀ y, f_X12_waitsFor M p1 = some y → MetC E m_X12_waitsFor 0 0 [rV 88, iV p1] (sh, ex, R, M) (fun r w' => r = none ∧ w' = (sh, ex, R, y)) := by
  intro y hy
  refine MetC.seg (o := f_X12_waitsFor M p1) (t := (fun K y => K (none) (sh, ex, R, y))) (L := [some (rV 88), some (iV p1)]) (by decide) rfl (Nat.le_of_ble_eq_true rfl) ?_ hy ⟨rfl, rfl⟩
  unfold f_X12_waitsFor
  refine Seg.step (pc' := 1) (I_aload_n (i := 0) dX12_waitsFor_0 rfl rfl) ?_
  refine Seg.step (pc' := 4) (I_getR cls12 (by decide) wf_12_84 (hE _ _ sk_12) rfl (lk_12_43 hL) dX12_waitsFor_1) ?_
  refine Seg.step (pc' := 5) (I_aload_n (i := 0) dX12_waitsFor_4 rfl rfl) ?_
  refine Seg.step (pc' := 8) (I_getI cls12 (by decide) wf_12_316 (hE _ _ sk_12) rfl dX12_waitsFor_5) ?_
  refine Seg.step (pc' := 9) (I_iload_n (i := 1) dX12_waitsFor_8 rfl rfl) ?_
  refine S_gd fun h1 => ?_
  refine Seg.step (pc' := 10) (I_iast (hE _ _ sk_12_43) h1 dX12_waitsFor_9) ?_
  refine S_bM fun M2 => ?_
  refine Seg.step (pc' := 11) (I_aload_n (i := 0) dX12_waitsFor_10 rfl rfl) ?_
  refine Seg.step (pc' := 12) (I_dup dX12_waitsFor_11 (fun _ h => by cases h)) ?_
  refine Seg.step (pc' := 15) (I_getI cls12 (by decide) wf_12_316 (hE _ _ sk_12) rfl dX12_waitsFor_12) ?_
  refine Seg.step (pc' := 16) (I_iconst dX12_waitsFor_15 ⟨by decide, by decide⟩) ?_
  refine Seg.step (pc' := 17) (I_iadd dX12_waitsFor_16) ?_
  refine Seg.step (pc' := 20) (I_putI cls12 (by decide) wf_12_316 (hE _ _ sk_12) rfl rfl dX12_waitsFor_17) ?_
  refine S_bM fun M3 => ?_
  exact S_vret dX12_waitsFor_20 rfl (by decide) (by decide) (fun K hK => hK)
theorem dX12_isCounted_0 : decode cX12_isCounted 0 = .ok (.aload_n 0, 1) := by decide +kernel
theorem dX12_isCounted_1 : decode cX12_isCounted 1 = .ok (.getfield 252, 3) := by decide +kernel
theorem dX12_isCounted_4 : decode cX12_isCounted 4 = .ok (.bipush 64, 2) := by decide +kernel
theorem dX12_isCounted_6 : decode cX12_isCounted 6 = .ok (.if_icmp .ne 9, 3) := by decide +kernel
theorem dX12_isCounted_9 : decode cX12_isCounted 9 = .ok (.aload_n 0, 1) := by decide +kernel
theorem dX12_isCounted_10 : decode cX12_isCounted 10 = .ok (.iconst 2, 1) := by decide +kernel
theorem dX12_isCounted_11 : decode cX12_isCounted 11 = .ok (.invokevirtual 217, 3) := by decide +kernel
theorem dX12_isCounted_14 : decode cX12_isCounted 14 = .ok (.ireturn, 1) := by decide +kernel
theorem dX12_isCounted_15 : decode cX12_isCounted 15 = .ok (.aload_n 0, 1) := by decide +kernel
theorem dX12_isCounted_16 : decode cX12_isCounted 16 = .ok (.dup, 1) := by decide +kernel
theorem dX12_isCounted_17 : decode cX12_isCounted 17 = .ok (.getfield 252, 3) := by decide +kernel
theorem dX12_isCounted_20 : decode cX12_isCounted 20 = .ok (.iconst 1, 1) := by decide +kernel
theorem dX12_isCounted_21 : decode cX12_isCounted 21 = .ok (.iadd, 1) := by decide +kernel
theorem dX12_isCounted_22 : decode cX12_isCounted 22 = .ok (.putfield 252, 3) := by decide +kernel
theorem dX12_isCounted_25 : decode cX12_isCounted 25 = .ok (.iconst 1, 1) := by decide +kernel
theorem dX12_isCounted_26 : decode cX12_isCounted 26 = .ok (.ireturn, 1) := by decide +kernel
def f_X12_isCounted (M : MM)  : Option (Int × MM) :=
if (M 88 48) = 64 then
((f_X12_wrong M 2).bind fun x2 =>
gd (x2.1 = 0 ∨ x2.1 = 1) <|
some (x2.1, x2.2))
else
bM (upM M 88 48 (w32 ((M 88 48) + 1))) fun M4 =>
some (1, M4)
set_option maxRecDepth 4000 in
theorem c_X12_isCounted {E : EE} {sh : List (Nat × Nat)} {ex : Bool} {R : RM} {M : MM}  (hE : Ext sh) (hL : Links R) : ∀ y, f_X12_isCounted M = some y → MetC E m_X12_isCounted 0 0 [rV 88] (sh, ex, R, M) (fun r w' => r = some (iV y.1) ∧ w' = (sh, ex, R, y.2)) := by
  intro y hy
  refine MetC.seg (o := f_X12_isCounted M) (t := (fun K y => K (some (iV y.1)) (sh, ex, R, y.2))) (L := [some (rV 88)]) (by decide) rfl (Nat.le_of_ble_eq_true rfl) ?_ hy ⟨rfl, rfl⟩
  unfold f_X12_isCounted
  refine Seg.step (pc' := 1) (I_aload_n (i := 0) dX12_isCounted_0 rfl rfl) ?_
  refine Seg.step (pc' := 4) (I_getI cls12 (by decide) wf_12_252 (hE _ _ sk_12) rfl dX12_isCounted_1) ?_
  refine Seg.step (pc' := 6) (I_bipush dX12_isCounted_4 (by decide) ⟨by decide, by decide⟩) ?_
  refine S_icmp_ne (tgt := 15) dX12_isCounted_6 (by decide) (fun h1 => ?_) (fun h1 => ?_)
  · refine Seg.step (pc' := 10) (I_aload_n (i := 0) dX12_isCounted_9 rfl rfl) ?_
    refine Seg.step (pc' := 11) (I_iconst dX12_isCounted_10 ⟨by decide, by decide⟩) ?_
    refine S_callV1 (md' := m_X12_wrong) (fun y => some (iV y.1)) (fun y => (sh, ex, R, y.2)) (hE _ _ sk_12) ⟨by decide, rfl⟩ mm_X12_wrong wm_12_217 ⟨rfl, rfl, by decide, by decide, by decide, by decide⟩ (Nat.le_of_ble_eq_true rfl) dX12_isCounted_11 (fun y hy => c_X12_wrong hE hL y hy) (fun x2 => ?_)
    refine S_gd fun h3 => ?_
    exact S_zret dX12_isCounted_14 rfl h3 (by decide) (by decide) (fun K hK => hK)
  refine Seg.step (pc' := 16) (I_aload_n (i := 0) dX12_isCounted_15 rfl rfl) ?_
  refine Seg.step (pc' := 17) (I_dup dX12_isCounted_16 (fun _ h => by cases h)) ?_
  refine Seg.step (pc' := 20) (I_getI cls12 (by decide) wf_12_252 (hE _ _ sk_12) rfl dX12_isCounted_17) ?_
  refine Seg.step (pc' := 21) (I_iconst dX12_isCounted_20 ⟨by decide, by decide⟩) ?_
  refine Seg.step (pc' := 22) (I_iadd dX12_isCounted_21) ?_
  refine Seg.step (pc' := 25) (I_putI cls12 (by decide) wf_12_252 (hE _ _ sk_12) rfl rfl dX12_isCounted_22) ?_
  refine S_bM fun M4 => ?_
  refine Seg.step (pc' := 26) (I_iconst dX12_isCounted_25 ⟨by decide, by decide⟩) ?_
  exact S_zret dX12_isCounted_26 rfl (by decide) (by decide) (by decide) (fun K hK => hK)
theorem dX12_nameMet_0 : decode cX12_nameMet 0 = .ok (.aload_n 0, 1) := by decide +kernel
theorem dX12_nameMet_1 : decode cX12_nameMet 1 = .ok (.getfield 193, 3) := by decide +kernel
theorem dX12_nameMet_4 : decode cX12_nameMet 4 = .ok (.iconst 1, 1) := by decide +kernel
theorem dX12_nameMet_5 : decode cX12_nameMet 5 = .ok (.if_icmp .ne 22, 3) := by decide +kernel
theorem dX12_nameMet_8 : decode cX12_nameMet 8 = .ok (.aload_n 0, 1) := by decide +kernel
theorem dX12_nameMet_9 : decode cX12_nameMet 9 = .ok (.getfield 204, 3) := by decide +kernel
theorem dX12_nameMet_12 : decode cX12_nameMet 12 = .ok (.bipush 13, 2) := by decide +kernel
theorem dX12_nameMet_14 : decode cX12_nameMet 14 = .ok (.if_icmp .lt 13, 3) := by decide +kernel
theorem dX12_nameMet_17 : decode cX12_nameMet 17 = .ok (.aload_n 0, 1) := by decide +kernel
theorem dX12_nameMet_18 : decode cX12_nameMet 18 = .ok (.getfield 204, 3) := by decide +kernel
theorem dX12_nameMet_21 : decode cX12_nameMet 21 = .ok (.bipush 13, 2) := by decide +kernel
theorem dX12_nameMet_23 : decode cX12_nameMet 23 = .ok (.isub, 1) := by decide +kernel
theorem dX12_nameMet_24 : decode cX12_nameMet 24 = .ok (.goto 4, 3) := by decide +kernel
theorem dX12_nameMet_27 : decode cX12_nameMet 27 = .ok (.iconst (-1), 1) := by decide +kernel
theorem dX12_nameMet_28 : decode cX12_nameMet 28 = .ok (.ireturn, 1) := by decide +kernel
def f_X12_nameMet (M : MM)  : Option (Int) :=
if (M 88 8) = 1 then
(if (M 88 9) < 13 then
(some (-1))
else
some (w32 ((M 88 9) - 13)))
else
some (-1)
set_option maxRecDepth 4000 in
theorem c_X12_nameMet {E : EE} {sh : List (Nat × Nat)} {ex : Bool} {R : RM} {M : MM}  (hE : Ext sh) (hL : Links R) : ∀ y, f_X12_nameMet M = some y → MetC E m_X12_nameMet 0 0 [rV 88] (sh, ex, R, M) (fun r w' => r = some (iV y) ∧ w' = (sh, ex, R, M)) := by
  intro y hy
  refine MetC.seg (o := f_X12_nameMet M) (t := (fun K y => K (some (iV y)) (sh, ex, R, M))) (L := [some (rV 88)]) (by decide) rfl (Nat.le_of_ble_eq_true rfl) ?_ hy ⟨rfl, rfl⟩
  unfold f_X12_nameMet
  refine Seg.step (pc' := 1) (I_aload_n (i := 0) dX12_nameMet_0 rfl rfl) ?_
  refine Seg.step (pc' := 4) (I_getI cls12 (by decide) wf_12_193 (hE _ _ sk_12) rfl dX12_nameMet_1) ?_
  refine Seg.step (pc' := 5) (I_iconst dX12_nameMet_4 ⟨by decide, by decide⟩) ?_
  refine S_icmp_ne (tgt := 27) dX12_nameMet_5 (by decide) (fun h1 => ?_) (fun h1 => ?_)
  · refine Seg.step (pc' := 9) (I_aload_n (i := 0) dX12_nameMet_8 rfl rfl) ?_
    refine Seg.step (pc' := 12) (I_getI cls12 (by decide) wf_12_204 (hE _ _ sk_12) rfl dX12_nameMet_9) ?_
    refine Seg.step (pc' := 14) (I_bipush dX12_nameMet_12 (by decide) ⟨by decide, by decide⟩) ?_
    refine S_icmp_lt (tgt := 27) dX12_nameMet_14 (by decide) (fun h2 => ?_) (fun h2 => ?_)
    · refine Seg.step (pc' := 28) (I_iconst dX12_nameMet_27 ⟨by decide, by decide⟩) ?_
      exact S_iret dX12_nameMet_28 rfl (by decide) (by decide) (fun K hK => hK)
    refine Seg.step (pc' := 18) (I_aload_n (i := 0) dX12_nameMet_17 rfl rfl) ?_
    refine Seg.step (pc' := 21) (I_getI cls12 (by decide) wf_12_204 (hE _ _ sk_12) rfl dX12_nameMet_18) ?_
    refine Seg.step (pc' := 23) (I_bipush dX12_nameMet_21 (by decide) ⟨by decide, by decide⟩) ?_
    refine Seg.step (pc' := 24) (I_isub dX12_nameMet_23) ?_
    refine Seg.step (pc' := 28) (I_goto (tgt := 28) dX12_nameMet_24 (by decide)) ?_
    exact S_iret dX12_nameMet_28 rfl (by decide) (by decide) (fun K hK => hK)
  refine Seg.step (pc' := 28) (I_iconst dX12_nameMet_27 ⟨by decide, by decide⟩) ?_
  exact S_iret dX12_nameMet_28 rfl (by decide) (by decide) (fun K hK => hK)
theorem dX12_grown_0 : decode cX12_grown 0 = .ok (.aload_n 0, 1) := by decide +kernel
theorem dX12_grown_1 : decode cX12_grown 1 = .ok (.getfield 75, 3) := by decide +kernel
theorem dX12_grown_4 : decode cX12_grown 4 = .ok (.bipush 64, 2) := by decide +kernel
theorem dX12_grown_6 : decode cX12_grown 6 = .ok (.aload_n 0, 1) := by decide +kernel
theorem dX12_grown_7 : decode cX12_grown 7 = .ok (.getfield 249, 3) := by decide +kernel
theorem dX12_grown_10 : decode cX12_grown 10 = .ok (.iadd, 1) := by decide +kernel
theorem dX12_grown_11 : decode cX12_grown 11 = .ok (.iload_n 1, 1) := by decide +kernel
theorem dX12_grown_12 : decode cX12_grown 12 = .ok (.iastore, 1) := by decide +kernel
theorem dX12_grown_13 : decode cX12_grown 13 = .ok (.aload_n 0, 1) := by decide +kernel
theorem dX12_grown_14 : decode cX12_grown 14 = .ok (.getfield 78, 3) := by decide +kernel
theorem dX12_grown_17 : decode cX12_grown 17 = .ok (.bipush 64, 2) := by decide +kernel
theorem dX12_grown_19 : decode cX12_grown 19 = .ok (.aload_n 0, 1) := by decide +kernel
theorem dX12_grown_20 : decode cX12_grown 20 = .ok (.getfield 249, 3) := by decide +kernel
theorem dX12_grown_23 : decode cX12_grown 23 = .ok (.iadd, 1) := by decide +kernel
theorem dX12_grown_24 : decode cX12_grown 24 = .ok (.iload_n 2, 1) := by decide +kernel
theorem dX12_grown_25 : decode cX12_grown 25 = .ok (.iastore, 1) := by decide +kernel
theorem dX12_grown_26 : decode cX12_grown 26 = .ok (.aload_n 0, 1) := by decide +kernel
theorem dX12_grown_27 : decode cX12_grown 27 = .ok (.getfield 81, 3) := by decide +kernel
theorem dX12_grown_30 : decode cX12_grown 30 = .ok (.bipush 64, 2) := by decide +kernel
theorem dX12_grown_32 : decode cX12_grown 32 = .ok (.aload_n 0, 1) := by decide +kernel
theorem dX12_grown_33 : decode cX12_grown 33 = .ok (.getfield 249, 3) := by decide +kernel
theorem dX12_grown_36 : decode cX12_grown 36 = .ok (.iadd, 1) := by decide +kernel
theorem dX12_grown_37 : decode cX12_grown 37 = .ok (.iload_n 3, 1) := by decide +kernel
theorem dX12_grown_38 : decode cX12_grown 38 = .ok (.iastore, 1) := by decide +kernel
theorem dX12_grown_39 : decode cX12_grown 39 = .ok (.aload_n 0, 1) := by decide +kernel
theorem dX12_grown_40 : decode cX12_grown 40 = .ok (.getfield 87, 3) := by decide +kernel
theorem dX12_grown_43 : decode cX12_grown 43 = .ok (.aload_n 0, 1) := by decide +kernel
theorem dX12_grown_44 : decode cX12_grown 44 = .ok (.getfield 313, 3) := by decide +kernel
theorem dX12_grown_47 : decode cX12_grown 47 = .ok (.aload_n 0, 1) := by decide +kernel
theorem dX12_grown_48 : decode cX12_grown 48 = .ok (.getfield 249, 3) := by decide +kernel
theorem dX12_grown_51 : decode cX12_grown 51 = .ok (.iastore, 1) := by decide +kernel
theorem dX12_grown_52 : decode cX12_grown 52 = .ok (.aload_n 0, 1) := by decide +kernel
theorem dX12_grown_53 : decode cX12_grown 53 = .ok (.dup, 1) := by decide +kernel
theorem dX12_grown_54 : decode cX12_grown 54 = .ok (.getfield 313, 3) := by decide +kernel
theorem dX12_grown_57 : decode cX12_grown 57 = .ok (.iconst 1, 1) := by decide +kernel
theorem dX12_grown_58 : decode cX12_grown 58 = .ok (.iadd, 1) := by decide +kernel
theorem dX12_grown_59 : decode cX12_grown 59 = .ok (.putfield 313, 3) := by decide +kernel
theorem dX12_grown_62 : decode cX12_grown 62 = .ok (.aload_n 0, 1) := by decide +kernel
theorem dX12_grown_63 : decode cX12_grown 63 = .ok (.dup, 1) := by decide +kernel
theorem dX12_grown_64 : decode cX12_grown 64 = .ok (.getfield 249, 3) := by decide +kernel
theorem dX12_grown_67 : decode cX12_grown 67 = .ok (.iconst 1, 1) := by decide +kernel
theorem dX12_grown_68 : decode cX12_grown 68 = .ok (.iadd, 1) := by decide +kernel
theorem dX12_grown_69 : decode cX12_grown 69 = .ok (.putfield 249, 3) := by decide +kernel
theorem dX12_grown_72 : decode cX12_grown 72 = .ok (.return_, 1) := by decide +kernel
def f_X12_grown (M : MM) (p1 : Int) (p2 : Int) (p3 : Int) : Option (MM) :=
gd (0 ≤ w32 (64 + (M 88 21)) ∧ w32 (64 + (M 88 21)) < (128 : Int)) <|
bM (upM M 109 (w32 (64 + (M 88 21))).toNat p1) fun M2 =>
gd (0 ≤ w32 (64 + (M2 88 21)) ∧ w32 (64 + (M2 88 21)) < (128 : Int)) <|
bM (upM M2 110 (w32 (64 + (M2 88 21))).toNat p2) fun M4 =>
gd (0 ≤ w32 (64 + (M4 88 21)) ∧ w32 (64 + (M4 88 21)) < (128 : Int)) <|
bM (upM M4 111 (w32 (64 + (M4 88 21))).toNat p3) fun M6 =>
gd (0 ≤ M6 88 46 ∧ M6 88 46 < (96 : Int)) <|
bM (upM M6 113 (M6 88 46).toNat (M6 88 21)) fun M8 =>
bM (upM M8 88 46 (w32 ((M8 88 46) + 1))) fun M9 =>
bM (upM M9 88 21 (w32 ((M9 88 21) + 1))) fun M10 =>
some M10
set_option maxRecDepth 4000 in
theorem c_X12_grown {E : EE} {sh : List (Nat × Nat)} {ex : Bool} {R : RM} {M : MM} {p1 : Int} {p2 : Int} {p3 : Int} (hE : Ext sh) (hL : Links R) : ∀ y, f_X12_grown M p1 p2 p3 = some y → MetC E m_X12_grown 0 0 [rV 88, iV p1, iV p2, iV p3] (sh, ex, R, M) (fun r w' => r = none ∧ w' = (sh, ex, R, y)) := by
  intro y hy
  refine MetC.seg (o := f_X12_grown M p1 p2 p3) (t := (fun K y => K (none) (sh, ex, R, y))) (L := [some (rV 88), some (iV p1), some (iV p2), some (iV p3)]) (by decide) rfl (Nat.le_of_ble_eq_true rfl) ?_ hy ⟨rfl, rfl⟩
  unfold f_X12_grown
  refine Seg.step (pc' := 1) (I_aload_n (i := 0) dX12_grown_0 rfl rfl) ?_
  refine Seg.step (pc' := 4) (I_getR cls12 (by decide) wf_12_75 (hE _ _ sk_12) rfl (lk_12_40 hL) dX12_grown_1) ?_
  refine Seg.step (pc' := 6) (I_bipush dX12_grown_4 (by decide) ⟨by decide, by decide⟩) ?_
  refine Seg.step (pc' := 7) (I_aload_n (i := 0) dX12_grown_6 rfl rfl) ?_
  refine Seg.step (pc' := 10) (I_getI cls12 (by decide) wf_12_249 (hE _ _ sk_12) rfl dX12_grown_7) ?_
  refine Seg.step (pc' := 11) (I_iadd dX12_grown_10) ?_
  refine Seg.step (pc' := 12) (I_iload_n (i := 1) dX12_grown_11 rfl rfl) ?_
  refine S_gd fun h1 => ?_
  refine Seg.step (pc' := 13) (I_iast (hE _ _ sk_12_40) h1 dX12_grown_12) ?_
  refine S_bM fun M2 => ?_
  refine Seg.step (pc' := 14) (I_aload_n (i := 0) dX12_grown_13 rfl rfl) ?_
  refine Seg.step (pc' := 17) (I_getR cls12 (by decide) wf_12_78 (hE _ _ sk_12) rfl (lk_12_41 hL) dX12_grown_14) ?_
  refine Seg.step (pc' := 19) (I_bipush dX12_grown_17 (by decide) ⟨by decide, by decide⟩) ?_
  refine Seg.step (pc' := 20) (I_aload_n (i := 0) dX12_grown_19 rfl rfl) ?_
  refine Seg.step (pc' := 23) (I_getI cls12 (by decide) wf_12_249 (hE _ _ sk_12) rfl dX12_grown_20) ?_
  refine Seg.step (pc' := 24) (I_iadd dX12_grown_23) ?_
  refine Seg.step (pc' := 25) (I_iload_n (i := 2) dX12_grown_24 rfl rfl) ?_
  refine S_gd fun h3 => ?_
  refine Seg.step (pc' := 26) (I_iast (hE _ _ sk_12_41) h3 dX12_grown_25) ?_
  refine S_bM fun M4 => ?_
  refine Seg.step (pc' := 27) (I_aload_n (i := 0) dX12_grown_26 rfl rfl) ?_
  refine Seg.step (pc' := 30) (I_getR cls12 (by decide) wf_12_81 (hE _ _ sk_12) rfl (lk_12_42 hL) dX12_grown_27) ?_
  refine Seg.step (pc' := 32) (I_bipush dX12_grown_30 (by decide) ⟨by decide, by decide⟩) ?_
  refine Seg.step (pc' := 33) (I_aload_n (i := 0) dX12_grown_32 rfl rfl) ?_
  refine Seg.step (pc' := 36) (I_getI cls12 (by decide) wf_12_249 (hE _ _ sk_12) rfl dX12_grown_33) ?_
  refine Seg.step (pc' := 37) (I_iadd dX12_grown_36) ?_
  refine Seg.step (pc' := 38) (I_iload_n (i := 3) dX12_grown_37 rfl rfl) ?_
  refine S_gd fun h5 => ?_
  refine Seg.step (pc' := 39) (I_iast (hE _ _ sk_12_42) h5 dX12_grown_38) ?_
  refine S_bM fun M6 => ?_
  refine Seg.step (pc' := 40) (I_aload_n (i := 0) dX12_grown_39 rfl rfl) ?_
  refine Seg.step (pc' := 43) (I_getR cls12 (by decide) wf_12_87 (hE _ _ sk_12) rfl (lk_12_44 hL) dX12_grown_40) ?_
  refine Seg.step (pc' := 44) (I_aload_n (i := 0) dX12_grown_43 rfl rfl) ?_
  refine Seg.step (pc' := 47) (I_getI cls12 (by decide) wf_12_313 (hE _ _ sk_12) rfl dX12_grown_44) ?_
  refine Seg.step (pc' := 48) (I_aload_n (i := 0) dX12_grown_47 rfl rfl) ?_
  refine Seg.step (pc' := 51) (I_getI cls12 (by decide) wf_12_249 (hE _ _ sk_12) rfl dX12_grown_48) ?_
  refine S_gd fun h7 => ?_
  refine Seg.step (pc' := 52) (I_iast (hE _ _ sk_12_44) h7 dX12_grown_51) ?_
  refine S_bM fun M8 => ?_
  refine Seg.step (pc' := 53) (I_aload_n (i := 0) dX12_grown_52 rfl rfl) ?_
  refine Seg.step (pc' := 54) (I_dup dX12_grown_53 (fun _ h => by cases h)) ?_
  refine Seg.step (pc' := 57) (I_getI cls12 (by decide) wf_12_313 (hE _ _ sk_12) rfl dX12_grown_54) ?_
  refine Seg.step (pc' := 58) (I_iconst dX12_grown_57 ⟨by decide, by decide⟩) ?_
  refine Seg.step (pc' := 59) (I_iadd dX12_grown_58) ?_
  refine Seg.step (pc' := 62) (I_putI cls12 (by decide) wf_12_313 (hE _ _ sk_12) rfl rfl dX12_grown_59) ?_
  refine S_bM fun M9 => ?_
  refine Seg.step (pc' := 63) (I_aload_n (i := 0) dX12_grown_62 rfl rfl) ?_
  refine Seg.step (pc' := 64) (I_dup dX12_grown_63 (fun _ h => by cases h)) ?_
  refine Seg.step (pc' := 67) (I_getI cls12 (by decide) wf_12_249 (hE _ _ sk_12) rfl dX12_grown_64) ?_
  refine Seg.step (pc' := 68) (I_iconst dX12_grown_67 ⟨by decide, by decide⟩) ?_
  refine Seg.step (pc' := 69) (I_iadd dX12_grown_68) ?_
  refine Seg.step (pc' := 72) (I_putI cls12 (by decide) wf_12_249 (hE _ _ sk_12) rfl rfl dX12_grown_69) ?_
  refine S_bM fun M10 => ?_
  exact S_vret dX12_grown_72 rfl (by decide) (by decide) (fun K hK => hK)
theorem dX12_leafRead_0 : decode cX12_leafRead 0 = .ok (.aload_n 0, 1) := by decide +kernel
theorem dX12_leafRead_1 : decode cX12_leafRead 1 = .ok (.bipush 40, 2) := by decide +kernel
theorem dX12_leafRead_3 : decode cX12_leafRead 3 = .ok (.invokevirtual 230, 3) := by decide +kernel
theorem dX12_leafRead_6 : decode cX12_leafRead 6 = .ok (.ifCond .eq 44, 3) := by decide +kernel
theorem dX12_leafRead_9 : decode cX12_leafRead 9 = .ok (.aload_n 0, 1) := by decide +kernel
theorem dX12_leafRead_10 : decode cX12_leafRead 10 = .ok (.getfield 331, 3) := by decide +kernel
theorem dX12_leafRead_13 : decode cX12_leafRead 13 = .ok (.bipush 8, 2) := by decide +kernel
theorem dX12_leafRead_15 : decode cX12_leafRead 15 = .ok (.if_icmp .ne 9, 3) := by decide +kernel
theorem dX12_leafRead_18 : decode cX12_leafRead 18 = .ok (.aload_n 0, 1) := by decide +kernel
theorem dX12_leafRead_19 : decode cX12_leafRead 19 = .ok (.iconst 2, 1) := by decide +kernel
theorem dX12_leafRead_20 : decode cX12_leafRead 20 = .ok (.invokevirtual 217, 3) := by decide +kernel
theorem dX12_leafRead_23 : decode cX12_leafRead 23 = .ok (.ireturn, 1) := by decide +kernel
theorem dX12_leafRead_24 : decode cX12_leafRead 24 = .ok (.aload_n 0, 1) := by decide +kernel
theorem dX12_leafRead_25 : decode cX12_leafRead 25 = .ok (.dup, 1) := by decide +kernel
theorem dX12_leafRead_26 : decode cX12_leafRead 26 = .ok (.getfield 331, 3) := by decide +kernel
theorem dX12_leafRead_29 : decode cX12_leafRead 29 = .ok (.iconst 1, 1) := by decide +kernel
theorem dX12_leafRead_30 : decode cX12_leafRead 30 = .ok (.iadd, 1) := by decide +kernel
theorem dX12_leafRead_31 : decode cX12_leafRead 31 = .ok (.putfield 331, 3) := by decide +kernel
theorem dX12_leafRead_34 : decode cX12_leafRead 34 = .ok (.aload_n 0, 1) := by decide +kernel
theorem dX12_leafRead_35 : decode cX12_leafRead 35 = .ok (.iconst 0, 1) := by decide +kernel
theorem dX12_leafRead_36 : decode cX12_leafRead 36 = .ok (.invokevirtual 334, 3) := by decide +kernel
theorem dX12_leafRead_39 : decode cX12_leafRead 39 = .ok (.aload_n 0, 1) := by decide +kernel
theorem dX12_leafRead_40 : decode cX12_leafRead 40 = .ok (.iconst 1, 1) := by decide +kernel
theorem dX12_leafRead_41 : decode cX12_leafRead 41 = .ok (.putfield 338, 3) := by decide +kernel
theorem dX12_leafRead_44 : decode cX12_leafRead 44 = .ok (.aload_n 0, 1) := by decide +kernel
theorem dX12_leafRead_45 : decode cX12_leafRead 45 = .ok (.invokevirtual 227, 3) := by decide +kernel
theorem dX12_leafRead_48 : decode cX12_leafRead 48 = .ok (.iconst 1, 1) := by decide +kernel
theorem dX12_leafRead_49 : decode cX12_leafRead 49 = .ok (.ireturn, 1) := by decide +kernel
theorem dX12_leafRead_50 : decode cX12_leafRead 50 = .ok (.aload_n 0, 1) := by decide +kernel
theorem dX12_leafRead_51 : decode cX12_leafRead 51 = .ok (.bipush 12, 2) := by decide +kernel
theorem dX12_leafRead_53 : decode cX12_leafRead 53 = .ok (.invokevirtual 342, 3) := by decide +kernel
theorem dX12_leafRead_56 : decode cX12_leafRead 56 = .ok (.ifCond .eq 30, 3) := by decide +kernel
theorem dX12_leafRead_59 : decode cX12_leafRead 59 = .ok (.aload_n 0, 1) := by decide +kernel
theorem dX12_leafRead_60 : decode cX12_leafRead 60 = .ok (.getfield 338, 3) := by decide +kernel
theorem dX12_leafRead_63 : decode cX12_leafRead 63 = .ok (.ifCond .eq 23, 3) := by decide +kernel
theorem dX12_leafRead_66 : decode cX12_leafRead 66 = .ok (.aload_n 0, 1) := by decide +kernel
theorem dX12_leafRead_67 : decode cX12_leafRead 67 = .ok (.invokevirtual 345, 3) := by decide +kernel
theorem dX12_leafRead_70 : decode cX12_leafRead 70 = .ok (.ifCond .ne 5, 3) := by decide +kernel
theorem dX12_leafRead_73 : decode cX12_leafRead 73 = .ok (.iconst 0, 1) := by decide +kernel
theorem dX12_leafRead_74 : decode cX12_leafRead 74 = .ok (.ireturn, 1) := by decide +kernel
theorem dX12_leafRead_75 : decode cX12_leafRead 75 = .ok (.aload_n 0, 1) := by decide +kernel
theorem dX12_leafRead_76 : decode cX12_leafRead 76 = .ok (.iconst 2, 1) := by decide +kernel
theorem dX12_leafRead_77 : decode cX12_leafRead 77 = .ok (.invokevirtual 334, 3) := by decide +kernel
theorem dX12_leafRead_80 : decode cX12_leafRead 80 = .ok (.aload_n 0, 1) := by decide +kernel
theorem dX12_leafRead_81 : decode cX12_leafRead 81 = .ok (.invokevirtual 227, 3) := by decide +kernel
theorem dX12_leafRead_84 : decode cX12_leafRead 84 = .ok (.iconst 1, 1) := by decide +kernel
theorem dX12_leafRead_85 : decode cX12_leafRead 85 = .ok (.ireturn, 1) := by decide +kernel
theorem dX12_leafRead_86 : decode cX12_leafRead 86 = .ok (.aload_n 0, 1) := by decide +kernel
theorem dX12_leafRead_87 : decode cX12_leafRead 87 = .ok (.invokevirtual 348, 3) := by decide +kernel
theorem dX12_leafRead_90 : decode cX12_leafRead 90 = .ok (.istore_n 1, 1) := by decide +kernel
theorem dX12_leafRead_91 : decode cX12_leafRead 91 = .ok (.iload_n 1, 1) := by decide +kernel
theorem dX12_leafRead_92 : decode cX12_leafRead 92 = .ok (.ifCond .ge 17, 3) := by decide +kernel
theorem dX12_leafRead_95 : decode cX12_leafRead 95 = .ok (.aload_n 0, 1) := by decide +kernel
theorem dX12_leafRead_96 : decode cX12_leafRead 96 = .ok (.getfield 193, 3) := by decide +kernel
theorem dX12_leafRead_99 : decode cX12_leafRead 99 = .ok (.iconst 3, 1) := by decide +kernel
theorem dX12_leafRead_100 : decode cX12_leafRead 100 = .ok (.if_icmp .eq 9, 3) := by decide +kernel
theorem dX12_leafRead_103 : decode cX12_leafRead 103 = .ok (.aload_n 0, 1) := by decide +kernel
theorem dX12_leafRead_104 : decode cX12_leafRead 104 = .ok (.iconst 1, 1) := by decide +kernel
theorem dX12_leafRead_105 : decode cX12_leafRead 105 = .ok (.invokevirtual 217, 3) := by decide +kernel
theorem dX12_leafRead_108 : decode cX12_leafRead 108 = .ok (.ireturn, 1) := by decide +kernel
theorem dX12_leafRead_109 : decode cX12_leafRead 109 = .ok (.iload_n 1, 1) := by decide +kernel
theorem dX12_leafRead_110 : decode cX12_leafRead 110 = .ok (.ifCond .ge 19, 3) := by decide +kernel
theorem dX12_leafRead_113 : decode cX12_leafRead 113 = .ok (.aload_n 0, 1) := by decide +kernel
theorem dX12_leafRead_114 : decode cX12_leafRead 114 = .ok (.getfield 204, 3) := by decide +kernel
theorem dX12_leafRead_117 : decode cX12_leafRead 117 = .ok (.sipush 9999, 3) := by decide +kernel
theorem dX12_leafRead_120 : decode cX12_leafRead 120 = .ok (.if_icmp .le 9, 3) := by decide +kernel
theorem dX12_leafRead_123 : decode cX12_leafRead 123 = .ok (.aload_n 0, 1) := by decide +kernel
theorem dX12_leafRead_124 : decode cX12_leafRead 124 = .ok (.iconst 2, 1) := by decide +kernel
theorem dX12_leafRead_125 : decode cX12_leafRead 125 = .ok (.invokevirtual 217, 3) := by decide +kernel
theorem dX12_leafRead_128 : decode cX12_leafRead 128 = .ok (.ireturn, 1) := by decide +kernel
theorem dX12_leafRead_129 : decode cX12_leafRead 129 = .ok (.aload_n 0, 1) := by decide +kernel
theorem dX12_leafRead_130 : decode cX12_leafRead 130 = .ok (.invokevirtual 345, 3) := by decide +kernel
theorem dX12_leafRead_133 : decode cX12_leafRead 133 = .ok (.ifCond .ne 5, 3) := by decide +kernel
theorem dX12_leafRead_136 : decode cX12_leafRead 136 = .ok (.iconst 0, 1) := by decide +kernel
theorem dX12_leafRead_137 : decode cX12_leafRead 137 = .ok (.ireturn, 1) := by decide +kernel
theorem dX12_leafRead_138 : decode cX12_leafRead 138 = .ok (.aload_n 0, 1) := by decide +kernel
theorem dX12_leafRead_139 : decode cX12_leafRead 139 = .ok (.iload_n 1, 1) := by decide +kernel
theorem dX12_leafRead_140 : decode cX12_leafRead 140 = .ok (.ifCond .lt 7, 3) := by decide +kernel
theorem dX12_leafRead_143 : decode cX12_leafRead 143 = .ok (.iconst 1, 1) := by decide +kernel
theorem dX12_leafRead_144 : decode cX12_leafRead 144 = .ok (.goto 4, 3) := by decide +kernel
theorem dX12_leafRead_147 : decode cX12_leafRead 147 = .ok (.iconst 0, 1) := by decide +kernel
theorem dX12_leafRead_148 : decode cX12_leafRead 148 = .ok (.iload_n 1, 1) := by decide +kernel
theorem dX12_leafRead_149 : decode cX12_leafRead 149 = .ok (.ifCond .lt 7, 3) := by decide +kernel
theorem dX12_leafRead_152 : decode cX12_leafRead 152 = .ok (.iload_n 1, 1) := by decide +kernel
theorem dX12_leafRead_153 : decode cX12_leafRead 153 = .ok (.goto 7, 3) := by decide +kernel
theorem dX12_leafRead_156 : decode cX12_leafRead 156 = .ok (.aload_n 0, 1) := by decide +kernel
theorem dX12_leafRead_157 : decode cX12_leafRead 157 = .ok (.getfield 204, 3) := by decide +kernel
theorem dX12_leafRead_160 : decode cX12_leafRead 160 = .ok (.iconst 0, 1) := by decide +kernel
theorem dX12_leafRead_161 : decode cX12_leafRead 161 = .ok (.invokevirtual 327, 3) := by decide +kernel
theorem dX12_leafRead_164 : decode cX12_leafRead 164 = .ok (.aload_n 0, 1) := by decide +kernel
theorem dX12_leafRead_165 : decode cX12_leafRead 165 = .ok (.iconst 0, 1) := by decide +kernel
theorem dX12_leafRead_166 : decode cX12_leafRead 166 = .ok (.putfield 351, 3) := by decide +kernel
theorem dX12_leafRead_169 : decode cX12_leafRead 169 = .ok (.aload_n 0, 1) := by decide +kernel
theorem dX12_leafRead_170 : decode cX12_leafRead 170 = .ok (.invokevirtual 227, 3) := by decide +kernel
theorem dX12_leafRead_173 : decode cX12_leafRead 173 = .ok (.iconst 1, 1) := by decide +kernel
theorem dX12_leafRead_174 : decode cX12_leafRead 174 = .ok (.ireturn, 1) := by decide +kernel
def f_X12_leafRead (M : MM)  : Option (Int × MM) :=
(f_X12_isSign M 40).bind fun x1 =>
if x1 = 0 then
((f_X12_isKey M 12).bind fun x3 =>
bS ((if x3 = 0 then
(some (Sum.inl ()))
else
if (M 88 50) = 0 then
(some (Sum.inl ()))
else
(f_X12_isCounted M).bind fun x6 =>
if x6.1 = 0 then
(some (Sum.inr (0, x6.2)))
else
(f_X12_waitsFor x6.2 2).bind fun x8 =>
(f_X12_token x8).bind fun x9 =>
some (Sum.inr (1, x9))) : Option ((Unit) ⊕ (Int × MM))) (fun x10 =>
(f_X12_nameMet M).bind fun x11 =>
bS ((if x11 < 0 then
(if (M 88 8) = 3 then
(some (Sum.inl ()))
else
(f_X12_wrong M 1).bind fun x14 =>
gd (x14.1 = 0 ∨ x14.1 = 1) <|
some (Sum.inr (x14.1, x14.2)))
else
some (Sum.inl ())) : Option ((Unit) ⊕ (Int × MM))) (fun x16 =>
bS ((if x11 < 0 then
(if 9999 < (M 88 9) then
((f_X12_wrong M 2).bind fun x19 =>
gd (x19.1 = 0 ∨ x19.1 = 1) <|
some (Sum.inr (x19.1, x19.2)))
else
some (Sum.inl ()))
else
some (Sum.inl ())) : Option ((Unit) ⊕ (Int × MM))) (fun x21 =>
(f_X12_isCounted M).bind fun x22 =>
if x22.1 = 0 then
(some (0, x22.2))
else
((if x11 < 0 then
(some 0)
else
some 1) : Option (Int)).bind fun x25 =>
((if x11 < 0 then
(some (x22.2 88 9))
else
some x11) : Option (Int)).bind fun x27 =>
(f_X12_grown x22.2 x25 x27 0).bind fun x28 =>
bM (upM x28 88 49 0) fun M29 =>
(f_X12_token M29).bind fun x30 =>
some (1, x30)) (fun r => r)) (fun r => r)) (fun r => r))
else
if (M 88 47) = 8 then
((f_X12_wrong M 2).bind fun x32 =>
gd (x32.1 = 0 ∨ x32.1 = 1) <|
some (x32.1, x32.2))
else
bM (upM M 88 47 (w32 ((M 88 47) + 1))) fun M34 =>
(f_X12_waitsFor M34 0).bind fun x35 =>
bM (upM x35 88 50 1) fun M36 =>
(f_X12_token M36).bind fun x37 =>
some (1, x37)
set_option maxRecDepth 4000 in
theorem c_X12_leafRead {E : EE} {sh : List (Nat × Nat)} {ex : Bool} {R : RM} {M : MM}  (hE : Ext sh) (hL : Links R) : ∀ y, f_X12_leafRead M = some y → MetC E m_X12_leafRead 0 0 [rV 88] (sh, ex, R, M) (fun r w' => r = some (iV y.1) ∧ w' = (sh, ex, R, y.2)) := by
  intro y hy
  refine MetC.seg (o := f_X12_leafRead M) (t := (fun K y => K (some (iV y.1)) (sh, ex, R, y.2))) (L := [some (rV 88), none]) (by decide) rfl (Nat.le_of_ble_eq_true rfl) ?_ hy ⟨rfl, rfl⟩
  unfold f_X12_leafRead
  refine Seg.step (pc' := 1) (I_aload_n (i := 0) dX12_leafRead_0 rfl rfl) ?_
  refine Seg.step (pc' := 3) (I_bipush dX12_leafRead_1 (by decide) ⟨by decide, by decide⟩) ?_
  refine S_callV1 (md' := m_X12_isSign) (fun y => some (iV y)) (fun y => (sh, ex, R, M)) (hE _ _ sk_12) ⟨by decide, rfl⟩ mm_X12_isSign wm_12_230 ⟨rfl, rfl, by decide, by decide, by decide, by decide⟩ (Nat.le_of_ble_eq_true rfl) dX12_leafRead_3 (fun y hy => c_X12_isSign hE hL y hy) (fun x1 => ?_)
  refine S_if_eq (tgt := 50) dX12_leafRead_6 (by decide) (fun h2 => ?_) (fun h2 => ?_)
  · refine Seg.step (pc' := 51) (I_aload_n (i := 0) dX12_leafRead_50 rfl rfl) ?_
    refine Seg.step (pc' := 53) (I_bipush dX12_leafRead_51 (by decide) ⟨by decide, by decide⟩) ?_
    refine S_callV1 (md' := m_X12_isKey) (fun y => some (iV y)) (fun y => (sh, ex, R, M)) (hE _ _ sk_12) ⟨by decide, rfl⟩ mm_X12_isKey wm_12_342 ⟨rfl, rfl, by decide, by decide, by decide, by decide⟩ (Nat.le_of_ble_eq_true rfl) dX12_leafRead_53 (fun y hy => c_X12_isKey hE hL y hy) (fun x3 => ?_)
    refine S_bind2 (Y := Unit) (k' := 0) (n' := 0) 86 (fun y => [some (rV 88), none]) (fun y => []) (fun y => (sh, ex, R, M)) ?_ (fun x10 => ?_)
    · refine S_if_eq (tgt := 86) dX12_leafRead_56 (by decide) (fun h4 => ?_) (fun h4 => ?_)
      · exact S_arr (fun K hK => GG.forget (Lle.ye (Lle.no (Lle.nil))) hK)
      refine Seg.step (pc' := 60) (I_aload_n (i := 0) dX12_leafRead_59 rfl rfl) ?_
      refine Seg.step (pc' := 63) (I_getZ cls12 (by decide) wf_12_338 (hE _ _ sk_12) rfl dX12_leafRead_60) ?_
      refine S_if_eq (tgt := 86) dX12_leafRead_63 (by decide) (fun h5 => ?_) (fun h5 => ?_)
      · exact S_arr (fun K hK => GG.forget (Lle.ye (Lle.no (Lle.nil))) hK)
      refine Seg.step (pc' := 67) (I_aload_n (i := 0) dX12_leafRead_66 rfl rfl) ?_
      refine S_callV0 (md' := m_X12_isCounted) (fun y => some (iV y.1)) (fun y => (sh, ex, R, y.2)) (hE _ _ sk_12) ⟨by decide, rfl⟩ mm_X12_isCounted wm_12_345 ⟨rfl, rfl, by decide, by decide, by decide, by decide⟩ (Nat.le_of_ble_eq_true rfl) dX12_leafRead_67 (fun y hy => c_X12_isCounted hE hL y hy) (fun x6 => ?_)
      refine S_if_ne (tgt := 75) dX12_leafRead_70 (by decide) (fun h7 => ?_) (fun h7 => ?_)
      · refine Seg.step (pc' := 74) (I_iconst dX12_leafRead_73 ⟨by decide, by decide⟩) ?_
        exact S_zret dX12_leafRead_74 rfl (by decide) (by decide) (by decide) (fun K hK => hK)
      refine Seg.step (pc' := 76) (I_aload_n (i := 0) dX12_leafRead_75 rfl rfl) ?_
      refine Seg.step (pc' := 77) (I_iconst dX12_leafRead_76 ⟨by decide, by decide⟩) ?_
      refine S_callV1 (md' := m_X12_waitsFor) (fun y => none) (fun y => (sh, ex, R, y)) (hE _ _ sk_12) ⟨by decide, rfl⟩ mm_X12_waitsFor wm_12_334 ⟨rfl, rfl, by decide, by decide, by decide, by decide⟩ (Nat.le_of_ble_eq_true rfl) dX12_leafRead_77 (fun y hy => c_X12_waitsFor hE hL y hy) (fun x8 => ?_)
      refine Seg.step (pc' := 81) (I_aload_n (i := 0) dX12_leafRead_80 rfl rfl) ?_
      refine S_callV0 (md' := m_X12_token) (fun y => none) (fun y => (sh, ex, R, y)) (hE _ _ sk_12) ⟨by decide, rfl⟩ mm_X12_token wm_12_227 ⟨rfl, rfl, by decide, by decide, by decide, by decide⟩ (Nat.le_of_ble_eq_true rfl) dX12_leafRead_81 (fun y hy => c_X12_token hE hL y hy) (fun x9 => ?_)
      refine Seg.step (pc' := 85) (I_iconst dX12_leafRead_84 ⟨by decide, by decide⟩) ?_
      exact S_zret dX12_leafRead_85 rfl (by decide) (by decide) (by decide) (fun K hK => hK)
    refine Seg.step (pc' := 87) (I_aload_n (i := 0) dX12_leafRead_86 rfl rfl) ?_
    refine S_callV0 (md' := m_X12_nameMet) (fun y => some (iV y)) (fun y => (sh, ex, R, M)) (hE _ _ sk_12) ⟨by decide, rfl⟩ mm_X12_nameMet wm_12_348 ⟨rfl, rfl, by decide, by decide, by decide, by decide⟩ (Nat.le_of_ble_eq_true rfl) dX12_leafRead_87 (fun y hy => c_X12_nameMet hE hL y hy) (fun x11 => ?_)
    refine Seg.step (pc' := 91) (I_istore_n (i := 1) dX12_leafRead_90 rfl (by decide) rfl) ?_
    refine Seg.step (pc' := 92) (I_iload_n (i := 1) dX12_leafRead_91 rfl rfl) ?_
    refine S_bind2 (Y := Unit) (k' := 0) (n' := 0) 109 (fun y => [some (rV 88), some (iV x11)]) (fun y => []) (fun y => (sh, ex, R, M)) ?_ (fun x16 => ?_)
    · refine S_if_ge (tgt := 109) dX12_leafRead_92 (by decide) (fun h12 => ?_) (fun h12 => ?_)
      · refine Seg.step (pc' := 96) (I_aload_n (i := 0) dX12_leafRead_95 rfl rfl) ?_
        refine Seg.step (pc' := 99) (I_getI cls12 (by decide) wf_12_193 (hE _ _ sk_12) rfl dX12_leafRead_96) ?_
        refine Seg.step (pc' := 100) (I_iconst dX12_leafRead_99 ⟨by decide, by decide⟩) ?_
        refine S_icmp_eq (tgt := 109) dX12_leafRead_100 (by decide) (fun h13 => ?_) (fun h13 => ?_)
        · exact S_arr (fun K hK => GG.forget (Lle.ye (Lle.ye (Lle.nil))) hK)
        refine Seg.step (pc' := 104) (I_aload_n (i := 0) dX12_leafRead_103 rfl rfl) ?_
        refine Seg.step (pc' := 105) (I_iconst dX12_leafRead_104 ⟨by decide, by decide⟩) ?_
        refine S_callV1 (md' := m_X12_wrong) (fun y => some (iV y.1)) (fun y => (sh, ex, R, y.2)) (hE _ _ sk_12) ⟨by decide, rfl⟩ mm_X12_wrong wm_12_217 ⟨rfl, rfl, by decide, by decide, by decide, by decide⟩ (Nat.le_of_ble_eq_true rfl) dX12_leafRead_105 (fun y hy => c_X12_wrong hE hL y hy) (fun x14 => ?_)
        refine S_gd fun h15 => ?_
        exact S_zret dX12_leafRead_108 rfl h15 (by decide) (by decide) (fun K hK => hK)
      exact S_arr (fun K hK => GG.forget (Lle.ye (Lle.ye (Lle.nil))) hK)
    refine Seg.step (pc' := 110) (I_iload_n (i := 1) dX12_leafRead_109 rfl rfl) ?_
    refine S_bind2 (Y := Unit) (k' := 0) (n' := 0) 129 (fun y => [some (rV 88), some (iV x11)]) (fun y => []) (fun y => (sh, ex, R, M)) ?_ (fun x21 => ?_)
    · refine S_if_ge (tgt := 129) dX12_leafRead_110 (by decide) (fun h17 => ?_) (fun h17 => ?_)
      · refine Seg.step (pc' := 114) (I_aload_n (i := 0) dX12_leafRead_113 rfl rfl) ?_
        refine Seg.step (pc' := 117) (I_getI cls12 (by decide) wf_12_204 (hE _ _ sk_12) rfl dX12_leafRead_114) ?_
        refine Seg.step (pc' := 120) (I_sipush dX12_leafRead_117 (by decide) ⟨by decide, by decide⟩) ?_
        refine S_icmp_le (tgt := 129) dX12_leafRead_120 (by decide) (fun h18 => ?_) (fun h18 => ?_)
        · refine Seg.step (pc' := 124) (I_aload_n (i := 0) dX12_leafRead_123 rfl rfl) ?_
          refine Seg.step (pc' := 125) (I_iconst dX12_leafRead_124 ⟨by decide, by decide⟩) ?_
          refine S_callV1 (md' := m_X12_wrong) (fun y => some (iV y.1)) (fun y => (sh, ex, R, y.2)) (hE _ _ sk_12) ⟨by decide, rfl⟩ mm_X12_wrong wm_12_217 ⟨rfl, rfl, by decide, by decide, by decide, by decide⟩ (Nat.le_of_ble_eq_true rfl) dX12_leafRead_125 (fun y hy => c_X12_wrong hE hL y hy) (fun x19 => ?_)
          refine S_gd fun h20 => ?_
          exact S_zret dX12_leafRead_128 rfl h20 (by decide) (by decide) (fun K hK => hK)
        exact S_arr (fun K hK => GG.forget (Lle.ye (Lle.ye (Lle.nil))) hK)
      exact S_arr (fun K hK => GG.forget (Lle.ye (Lle.ye (Lle.nil))) hK)
    refine Seg.step (pc' := 130) (I_aload_n (i := 0) dX12_leafRead_129 rfl rfl) ?_
    refine S_callV0 (md' := m_X12_isCounted) (fun y => some (iV y.1)) (fun y => (sh, ex, R, y.2)) (hE _ _ sk_12) ⟨by decide, rfl⟩ mm_X12_isCounted wm_12_345 ⟨rfl, rfl, by decide, by decide, by decide, by decide⟩ (Nat.le_of_ble_eq_true rfl) dX12_leafRead_130 (fun y hy => c_X12_isCounted hE hL y hy) (fun x22 => ?_)
    refine S_if_ne (tgt := 138) dX12_leafRead_133 (by decide) (fun h23 => ?_) (fun h23 => ?_)
    · refine Seg.step (pc' := 137) (I_iconst dX12_leafRead_136 ⟨by decide, by decide⟩) ?_
      exact S_zret dX12_leafRead_137 rfl (by decide) (by decide) (by decide) (fun K hK => hK)
    refine Seg.step (pc' := 139) (I_aload_n (i := 0) dX12_leafRead_138 rfl rfl) ?_
    refine Seg.step (pc' := 140) (I_iload_n (i := 1) dX12_leafRead_139 rfl rfl) ?_
    refine S_bind (Y := Int) (k' := 0) (n' := 0) 148 (fun y => [some (rV 88), some (iV x11)]) (fun y => [iV y, rV 88]) (fun y => (sh, ex, R, x22.2)) ?_ (fun x25 => ?_)
    · refine S_if_lt (tgt := 147) dX12_leafRead_140 (by decide) (fun h24 => ?_) (fun h24 => ?_)
      · refine Seg.step (pc' := 148) (I_iconst dX12_leafRead_147 ⟨by decide, by decide⟩) ?_
        exact S_arr (fun K hK => GG.forget (Lle.ye (Lle.ye (Lle.nil))) hK)
      refine Seg.step (pc' := 144) (I_iconst dX12_leafRead_143 ⟨by decide, by decide⟩) ?_
      refine Seg.step (pc' := 148) (I_goto (tgt := 148) dX12_leafRead_144 (by decide)) ?_
      exact S_arr (fun K hK => GG.forget (Lle.ye (Lle.ye (Lle.nil))) hK)
    refine Seg.step (pc' := 149) (I_iload_n (i := 1) dX12_leafRead_148 rfl rfl) ?_
    refine S_bind (Y := Int) (k' := 0) (n' := 0) 160 (fun y => [some (rV 88), none]) (fun y => [iV y, iV x25, rV 88]) (fun y => (sh, ex, R, x22.2)) ?_ (fun x27 => ?_)
    · refine S_if_lt (tgt := 156) dX12_leafRead_149 (by decide) (fun h26 => ?_) (fun h26 => ?_)
      · refine Seg.step (pc' := 157) (I_aload_n (i := 0) dX12_leafRead_156 rfl rfl) ?_
        refine Seg.step (pc' := 160) (I_getI cls12 (by decide) wf_12_204 (hE _ _ sk_12) rfl dX12_leafRead_157) ?_
        exact S_arr (fun K hK => GG.forget (Lle.ye (Lle.no (Lle.nil))) hK)
      refine Seg.step (pc' := 153) (I_iload_n (i := 1) dX12_leafRead_152 rfl rfl) ?_
      refine Seg.step (pc' := 160) (I_goto (tgt := 160) dX12_leafRead_153 (by decide)) ?_
      exact S_arr (fun K hK => GG.forget (Lle.ye (Lle.no (Lle.nil))) hK)
    refine Seg.step (pc' := 161) (I_iconst dX12_leafRead_160 ⟨by decide, by decide⟩) ?_
    refine S_callV3 (md' := m_X12_grown) (fun y => none) (fun y => (sh, ex, R, y)) (hE _ _ sk_12) ⟨by decide, rfl⟩ mm_X12_grown wm_12_327 ⟨rfl, rfl, by decide, by decide, by decide, by decide⟩ (Nat.le_of_ble_eq_true rfl) dX12_leafRead_161 (fun y hy => c_X12_grown hE hL y hy) (fun x28 => ?_)
    refine Seg.step (pc' := 165) (I_aload_n (i := 0) dX12_leafRead_164 rfl rfl) ?_
    refine Seg.step (pc' := 166) (I_iconst dX12_leafRead_165 ⟨by decide, by decide⟩) ?_
    refine Seg.step (pc' := 169) (I_putZ cls12 (by decide) wf_12_351 (hE _ _ sk_12) rfl rfl (by decide) dX12_leafRead_166) ?_
    refine S_bM fun M29 => ?_
    refine Seg.step (pc' := 170) (I_aload_n (i := 0) dX12_leafRead_169 rfl rfl) ?_
    refine S_callV0 (md' := m_X12_token) (fun y => none) (fun y => (sh, ex, R, y)) (hE _ _ sk_12) ⟨by decide, rfl⟩ mm_X12_token wm_12_227 ⟨rfl, rfl, by decide, by decide, by decide, by decide⟩ (Nat.le_of_ble_eq_true rfl) dX12_leafRead_170 (fun y hy => c_X12_token hE hL y hy) (fun x30 => ?_)
    refine Seg.step (pc' := 174) (I_iconst dX12_leafRead_173 ⟨by decide, by decide⟩) ?_
    exact S_zret dX12_leafRead_174 rfl (by decide) (by decide) (by decide) (fun K hK => hK)
  refine Seg.step (pc' := 10) (I_aload_n (i := 0) dX12_leafRead_9 rfl rfl) ?_
  refine Seg.step (pc' := 13) (I_getI cls12 (by decide) wf_12_331 (hE _ _ sk_12) rfl dX12_leafRead_10) ?_
  refine Seg.step (pc' := 15) (I_bipush dX12_leafRead_13 (by decide) ⟨by decide, by decide⟩) ?_
  refine S_icmp_ne (tgt := 24) dX12_leafRead_15 (by decide) (fun h31 => ?_) (fun h31 => ?_)
  · refine Seg.step (pc' := 19) (I_aload_n (i := 0) dX12_leafRead_18 rfl rfl) ?_
    refine Seg.step (pc' := 20) (I_iconst dX12_leafRead_19 ⟨by decide, by decide⟩) ?_
    refine S_callV1 (md' := m_X12_wrong) (fun y => some (iV y.1)) (fun y => (sh, ex, R, y.2)) (hE _ _ sk_12) ⟨by decide, rfl⟩ mm_X12_wrong wm_12_217 ⟨rfl, rfl, by decide, by decide, by decide, by decide⟩ (Nat.le_of_ble_eq_true rfl) dX12_leafRead_20 (fun y hy => c_X12_wrong hE hL y hy) (fun x32 => ?_)
    refine S_gd fun h33 => ?_
    exact S_zret dX12_leafRead_23 rfl h33 (by decide) (by decide) (fun K hK => hK)
  refine Seg.step (pc' := 25) (I_aload_n (i := 0) dX12_leafRead_24 rfl rfl) ?_
  refine Seg.step (pc' := 26) (I_dup dX12_leafRead_25 (fun _ h => by cases h)) ?_
  refine Seg.step (pc' := 29) (I_getI cls12 (by decide) wf_12_331 (hE _ _ sk_12) rfl dX12_leafRead_26) ?_
  refine Seg.step (pc' := 30) (I_iconst dX12_leafRead_29 ⟨by decide, by decide⟩) ?_
  refine Seg.step (pc' := 31) (I_iadd dX12_leafRead_30) ?_
  refine Seg.step (pc' := 34) (I_putI cls12 (by decide) wf_12_331 (hE _ _ sk_12) rfl rfl dX12_leafRead_31) ?_
  refine S_bM fun M34 => ?_
  refine Seg.step (pc' := 35) (I_aload_n (i := 0) dX12_leafRead_34 rfl rfl) ?_
  refine Seg.step (pc' := 36) (I_iconst dX12_leafRead_35 ⟨by decide, by decide⟩) ?_
  refine S_callV1 (md' := m_X12_waitsFor) (fun y => none) (fun y => (sh, ex, R, y)) (hE _ _ sk_12) ⟨by decide, rfl⟩ mm_X12_waitsFor wm_12_334 ⟨rfl, rfl, by decide, by decide, by decide, by decide⟩ (Nat.le_of_ble_eq_true rfl) dX12_leafRead_36 (fun y hy => c_X12_waitsFor hE hL y hy) (fun x35 => ?_)
  refine Seg.step (pc' := 40) (I_aload_n (i := 0) dX12_leafRead_39 rfl rfl) ?_
  refine Seg.step (pc' := 41) (I_iconst dX12_leafRead_40 ⟨by decide, by decide⟩) ?_
  refine Seg.step (pc' := 44) (I_putZ cls12 (by decide) wf_12_338 (hE _ _ sk_12) rfl rfl (by decide) dX12_leafRead_41) ?_
  refine S_bM fun M36 => ?_
  refine Seg.step (pc' := 45) (I_aload_n (i := 0) dX12_leafRead_44 rfl rfl) ?_
  refine S_callV0 (md' := m_X12_token) (fun y => none) (fun y => (sh, ex, R, y)) (hE _ _ sk_12) ⟨by decide, rfl⟩ mm_X12_token wm_12_227 ⟨rfl, rfl, by decide, by decide, by decide, by decide⟩ (Nat.le_of_ble_eq_true rfl) dX12_leafRead_45 (fun y hy => c_X12_token hE hL y hy) (fun x37 => ?_)
  refine Seg.step (pc' := 49) (I_iconst dX12_leafRead_48 ⟨by decide, by decide⟩) ?_
  exact S_zret dX12_leafRead_49 rfl (by decide) (by decide) (by decide) (fun K hK => hK)
theorem dX12_rank_0 : decode cX12_rank 0 = .ok (.iload_n 0, 1) := by decide +kernel
theorem dX12_rank_1 : decode cX12_rank 1 = .ok (.bipush 13, 2) := by decide +kernel
theorem dX12_rank_3 : decode cX12_rank 3 = .ok (.if_icmp .lt 8, 3) := by decide +kernel
theorem dX12_rank_6 : decode cX12_rank 6 = .ok (.bipush 6, 2) := by decide +kernel
theorem dX12_rank_8 : decode cX12_rank 8 = .ok (.goto 50, 3) := by decide +kernel
theorem dX12_rank_11 : decode cX12_rank 11 = .ok (.iload_n 0, 1) := by decide +kernel
theorem dX12_rank_12 : decode cX12_rank 12 = .ok (.bipush 11, 2) := by decide +kernel
theorem dX12_rank_14 : decode cX12_rank 14 = .ok (.if_icmp .lt 7, 3) := by decide +kernel
theorem dX12_rank_17 : decode cX12_rank 17 = .ok (.iconst 5, 1) := by decide +kernel
theorem dX12_rank_18 : decode cX12_rank 18 = .ok (.goto 40, 3) := by decide +kernel
theorem dX12_rank_21 : decode cX12_rank 21 = .ok (.iload_n 0, 1) := by decide +kernel
theorem dX12_rank_22 : decode cX12_rank 22 = .ok (.iconst 5, 1) := by decide +kernel
theorem dX12_rank_23 : decode cX12_rank 23 = .ok (.if_icmp .lt 7, 3) := by decide +kernel
theorem dX12_rank_26 : decode cX12_rank 26 = .ok (.iconst 4, 1) := by decide +kernel
theorem dX12_rank_27 : decode cX12_rank 27 = .ok (.goto 31, 3) := by decide +kernel
theorem dX12_rank_30 : decode cX12_rank 30 = .ok (.iload_n 0, 1) := by decide +kernel
theorem dX12_rank_31 : decode cX12_rank 31 = .ok (.iconst 2, 1) := by decide +kernel
theorem dX12_rank_32 : decode cX12_rank 32 = .ok (.if_icmp .ne 7, 3) := by decide +kernel
theorem dX12_rank_35 : decode cX12_rank 35 = .ok (.iconst 3, 1) := by decide +kernel
theorem dX12_rank_36 : decode cX12_rank 36 = .ok (.goto 22, 3) := by decide +kernel
theorem dX12_rank_39 : decode cX12_rank 39 = .ok (.iload_n 0, 1) := by decide +kernel
theorem dX12_rank_40 : decode cX12_rank 40 = .ok (.iconst 3, 1) := by decide +kernel
theorem dX12_rank_41 : decode cX12_rank 41 = .ok (.if_icmp .ne 7, 3) := by decide +kernel
theorem dX12_rank_44 : decode cX12_rank 44 = .ok (.iconst 2, 1) := by decide +kernel
theorem dX12_rank_45 : decode cX12_rank 45 = .ok (.goto 13, 3) := by decide +kernel
theorem dX12_rank_48 : decode cX12_rank 48 = .ok (.iload_n 0, 1) := by decide +kernel
theorem dX12_rank_49 : decode cX12_rank 49 = .ok (.iconst 4, 1) := by decide +kernel
theorem dX12_rank_50 : decode cX12_rank 50 = .ok (.if_icmp .ne 7, 3) := by decide +kernel
theorem dX12_rank_53 : decode cX12_rank 53 = .ok (.iconst 1, 1) := by decide +kernel
theorem dX12_rank_54 : decode cX12_rank 54 = .ok (.goto 4, 3) := by decide +kernel
theorem dX12_rank_57 : decode cX12_rank 57 = .ok (.iconst 0, 1) := by decide +kernel
theorem dX12_rank_58 : decode cX12_rank 58 = .ok (.ireturn, 1) := by decide +kernel
def f_X12_rank (M : MM) (p1 : Int) : Option (Int) :=
if p1 < 13 then
(if p1 < 11 then
(if p1 < 5 then
(if p1 = 2 then
(some 3)
else
if p1 = 3 then
(some 2)
else
if p1 = 4 then
(some 1)
else
some 0)
else
some 4)
else
some 5)
else
some 6
set_option maxRecDepth 4000 in
theorem c_X12_rank {E : EE} {sh : List (Nat × Nat)} {ex : Bool} {R : RM} {M : MM} {p1 : Int} (hE : Ext sh) (hL : Links R) : ∀ y, f_X12_rank M p1 = some y → MetC E m_X12_rank 0 0 [iV p1] (sh, ex, R, M) (fun r w' => r = some (iV y) ∧ w' = (sh, ex, R, M)) := by
  intro y hy
  refine MetC.seg (o := f_X12_rank M p1) (t := (fun K y => K (some (iV y)) (sh, ex, R, M))) (L := [some (iV p1)]) (by decide) rfl (Nat.le_of_ble_eq_true rfl) ?_ hy ⟨rfl, rfl⟩
  unfold f_X12_rank
  refine Seg.step (pc' := 1) (I_iload_n (i := 0) dX12_rank_0 rfl rfl) ?_
  refine Seg.step (pc' := 3) (I_bipush dX12_rank_1 (by decide) ⟨by decide, by decide⟩) ?_
  refine S_icmp_lt (tgt := 11) dX12_rank_3 (by decide) (fun h1 => ?_) (fun h1 => ?_)
  · refine Seg.step (pc' := 12) (I_iload_n (i := 0) dX12_rank_11 rfl rfl) ?_
    refine Seg.step (pc' := 14) (I_bipush dX12_rank_12 (by decide) ⟨by decide, by decide⟩) ?_
    refine S_icmp_lt (tgt := 21) dX12_rank_14 (by decide) (fun h2 => ?_) (fun h2 => ?_)
    · refine Seg.step (pc' := 22) (I_iload_n (i := 0) dX12_rank_21 rfl rfl) ?_
      refine Seg.step (pc' := 23) (I_iconst dX12_rank_22 ⟨by decide, by decide⟩) ?_
      refine S_icmp_lt (tgt := 30) dX12_rank_23 (by decide) (fun h3 => ?_) (fun h3 => ?_)
      · refine Seg.step (pc' := 31) (I_iload_n (i := 0) dX12_rank_30 rfl rfl) ?_
        refine Seg.step (pc' := 32) (I_iconst dX12_rank_31 ⟨by decide, by decide⟩) ?_
        refine S_icmp_ne (tgt := 39) dX12_rank_32 (by decide) (fun h4 => ?_) (fun h4 => ?_)
        · refine Seg.step (pc' := 36) (I_iconst dX12_rank_35 ⟨by decide, by decide⟩) ?_
          refine Seg.step (pc' := 58) (I_goto (tgt := 58) dX12_rank_36 (by decide)) ?_
          exact S_iret dX12_rank_58 rfl (by decide) (by decide) (fun K hK => hK)
        refine Seg.step (pc' := 40) (I_iload_n (i := 0) dX12_rank_39 rfl rfl) ?_
        refine Seg.step (pc' := 41) (I_iconst dX12_rank_40 ⟨by decide, by decide⟩) ?_
        refine S_icmp_ne (tgt := 48) dX12_rank_41 (by decide) (fun h5 => ?_) (fun h5 => ?_)
        · refine Seg.step (pc' := 45) (I_iconst dX12_rank_44 ⟨by decide, by decide⟩) ?_
          refine Seg.step (pc' := 58) (I_goto (tgt := 58) dX12_rank_45 (by decide)) ?_
          exact S_iret dX12_rank_58 rfl (by decide) (by decide) (fun K hK => hK)
        refine Seg.step (pc' := 49) (I_iload_n (i := 0) dX12_rank_48 rfl rfl) ?_
        refine Seg.step (pc' := 50) (I_iconst dX12_rank_49 ⟨by decide, by decide⟩) ?_
        refine S_icmp_ne (tgt := 57) dX12_rank_50 (by decide) (fun h6 => ?_) (fun h6 => ?_)
        · refine Seg.step (pc' := 54) (I_iconst dX12_rank_53 ⟨by decide, by decide⟩) ?_
          refine Seg.step (pc' := 58) (I_goto (tgt := 58) dX12_rank_54 (by decide)) ?_
          exact S_iret dX12_rank_58 rfl (by decide) (by decide) (fun K hK => hK)
        refine Seg.step (pc' := 58) (I_iconst dX12_rank_57 ⟨by decide, by decide⟩) ?_
        exact S_iret dX12_rank_58 rfl (by decide) (by decide) (fun K hK => hK)
      refine Seg.step (pc' := 27) (I_iconst dX12_rank_26 ⟨by decide, by decide⟩) ?_
      refine Seg.step (pc' := 58) (I_goto (tgt := 58) dX12_rank_27 (by decide)) ?_
      exact S_iret dX12_rank_58 rfl (by decide) (by decide) (fun K hK => hK)
    refine Seg.step (pc' := 18) (I_iconst dX12_rank_17 ⟨by decide, by decide⟩) ?_
    refine Seg.step (pc' := 58) (I_goto (tgt := 58) dX12_rank_18 (by decide)) ?_
    exact S_iret dX12_rank_58 rfl (by decide) (by decide) (fun K hK => hK)
  refine Seg.step (pc' := 8) (I_bipush dX12_rank_6 (by decide) ⟨by decide, by decide⟩) ?_
  refine Seg.step (pc' := 58) (I_goto (tgt := 58) dX12_rank_8 (by decide)) ?_
  exact S_iret dX12_rank_58 rfl (by decide) (by decide) (fun K hK => hK)
theorem dX12_dropHeld_0 : decode cX12_dropHeld 0 = .ok (.aload_n 0, 1) := by decide +kernel
theorem dX12_dropHeld_1 : decode cX12_dropHeld 1 = .ok (.dup, 1) := by decide +kernel
theorem dX12_dropHeld_2 : decode cX12_dropHeld 2 = .ok (.getfield 313, 3) := by decide +kernel
theorem dX12_dropHeld_5 : decode cX12_dropHeld 5 = .ok (.iconst 1, 1) := by decide +kernel
theorem dX12_dropHeld_6 : decode cX12_dropHeld 6 = .ok (.isub, 1) := by decide +kernel
theorem dX12_dropHeld_7 : decode cX12_dropHeld 7 = .ok (.putfield 313, 3) := by decide +kernel
theorem dX12_dropHeld_10 : decode cX12_dropHeld 10 = .ok (.aload_n 0, 1) := by decide +kernel
theorem dX12_dropHeld_11 : decode cX12_dropHeld 11 = .ok (.getfield 87, 3) := by decide +kernel
theorem dX12_dropHeld_14 : decode cX12_dropHeld 14 = .ok (.aload_n 0, 1) := by decide +kernel
theorem dX12_dropHeld_15 : decode cX12_dropHeld 15 = .ok (.getfield 313, 3) := by decide +kernel
theorem dX12_dropHeld_18 : decode cX12_dropHeld 18 = .ok (.iaload, 1) := by decide +kernel
theorem dX12_dropHeld_19 : decode cX12_dropHeld 19 = .ok (.ireturn, 1) := by decide +kernel
def f_X12_dropHeld (M : MM)  : Option (Int × MM) :=
bM (upM M 88 46 (w32 ((M 88 46) - 1))) fun M1 =>
gd (0 ≤ M1 88 46 ∧ M1 88 46 < (96 : Int)) <|
some (M1 113 (M1 88 46).toNat, M1)
set_option maxRecDepth 4000 in
theorem c_X12_dropHeld {E : EE} {sh : List (Nat × Nat)} {ex : Bool} {R : RM} {M : MM}  (hE : Ext sh) (hL : Links R) : ∀ y, f_X12_dropHeld M = some y → MetC E m_X12_dropHeld 0 0 [rV 88] (sh, ex, R, M) (fun r w' => r = some (iV y.1) ∧ w' = (sh, ex, R, y.2)) := by
  intro y hy
  refine MetC.seg (o := f_X12_dropHeld M) (t := (fun K y => K (some (iV y.1)) (sh, ex, R, y.2))) (L := [some (rV 88)]) (by decide) rfl (Nat.le_of_ble_eq_true rfl) ?_ hy ⟨rfl, rfl⟩
  unfold f_X12_dropHeld
  refine Seg.step (pc' := 1) (I_aload_n (i := 0) dX12_dropHeld_0 rfl rfl) ?_
  refine Seg.step (pc' := 2) (I_dup dX12_dropHeld_1 (fun _ h => by cases h)) ?_
  refine Seg.step (pc' := 5) (I_getI cls12 (by decide) wf_12_313 (hE _ _ sk_12) rfl dX12_dropHeld_2) ?_
  refine Seg.step (pc' := 6) (I_iconst dX12_dropHeld_5 ⟨by decide, by decide⟩) ?_
  refine Seg.step (pc' := 7) (I_isub dX12_dropHeld_6) ?_
  refine Seg.step (pc' := 10) (I_putI cls12 (by decide) wf_12_313 (hE _ _ sk_12) rfl rfl dX12_dropHeld_7) ?_
  refine S_bM fun M1 => ?_
  refine Seg.step (pc' := 11) (I_aload_n (i := 0) dX12_dropHeld_10 rfl rfl) ?_
  refine Seg.step (pc' := 14) (I_getR cls12 (by decide) wf_12_87 (hE _ _ sk_12) rfl (lk_12_44 hL) dX12_dropHeld_11) ?_
  refine Seg.step (pc' := 15) (I_aload_n (i := 0) dX12_dropHeld_14 rfl rfl) ?_
  refine Seg.step (pc' := 18) (I_getI cls12 (by decide) wf_12_313 (hE _ _ sk_12) rfl dX12_dropHeld_15) ?_
  refine S_gd fun h2 => ?_
  refine Seg.step (pc' := 19) (I_iald (hE _ _ sk_12_44) h2 dX12_dropHeld_18) ?_
  exact S_iret dX12_dropHeld_19 rfl (by decide) (by decide) (fun K hK => hK)
theorem dX12_bind_0 : decode cX12_bind 0 = .ok (.aload_n 0, 1) := by decide +kernel
theorem dX12_bind_1 : decode cX12_bind 1 = .ok (.getfield 316, 3) := by decide +kernel
theorem dX12_bind_4 : decode cX12_bind 4 = .ok (.ifCond .le 72, 3) := by decide +kernel
theorem dX12_bind_7 : decode cX12_bind 7 = .ok (.aload_n 0, 1) := by decide +kernel
theorem dX12_bind_8 : decode cX12_bind 8 = .ok (.getfield 84, 3) := by decide +kernel
theorem dX12_bind_11 : decode cX12_bind 11 = .ok (.aload_n 0, 1) := by decide +kernel
theorem dX12_bind_12 : decode cX12_bind 12 = .ok (.getfield 316, 3) := by decide +kernel
theorem dX12_bind_15 : decode cX12_bind 15 = .ok (.iconst 1, 1) := by decide +kernel
theorem dX12_bind_16 : decode cX12_bind 16 = .ok (.isub, 1) := by decide +kernel
theorem dX12_bind_17 : decode cX12_bind 17 = .ok (.iaload, 1) := by decide +kernel
theorem dX12_bind_18 : decode cX12_bind 18 = .ok (.invokestatic 319, 3) := by decide +kernel
theorem dX12_bind_21 : decode cX12_bind 21 = .ok (.iload_n 1, 1) := by decide +kernel
theorem dX12_bind_22 : decode cX12_bind 22 = .ok (.if_icmp .lt 54, 3) := by decide +kernel
theorem dX12_bind_25 : decode cX12_bind 25 = .ok (.aload_n 0, 1) := by decide +kernel
theorem dX12_bind_26 : decode cX12_bind 26 = .ok (.dup, 1) := by decide +kernel
theorem dX12_bind_27 : decode cX12_bind 27 = .ok (.getfield 316, 3) := by decide +kernel
theorem dX12_bind_30 : decode cX12_bind 30 = .ok (.iconst 1, 1) := by decide +kernel
theorem dX12_bind_31 : decode cX12_bind 31 = .ok (.isub, 1) := by decide +kernel
theorem dX12_bind_32 : decode cX12_bind 32 = .ok (.putfield 316, 3) := by decide +kernel
theorem dX12_bind_35 : decode cX12_bind 35 = .ok (.aload_n 0, 1) := by decide +kernel
theorem dX12_bind_36 : decode cX12_bind 36 = .ok (.getfield 84, 3) := by decide +kernel
theorem dX12_bind_39 : decode cX12_bind 39 = .ok (.aload_n 0, 1) := by decide +kernel
theorem dX12_bind_40 : decode cX12_bind 40 = .ok (.getfield 316, 3) := by decide +kernel
theorem dX12_bind_43 : decode cX12_bind 43 = .ok (.iaload, 1) := by decide +kernel
theorem dX12_bind_44 : decode cX12_bind 44 = .ok (.istore_n 2, 1) := by decide +kernel
theorem dX12_bind_45 : decode cX12_bind 45 = .ok (.iload_n 2, 1) := by decide +kernel
theorem dX12_bind_46 : decode cX12_bind 46 = .ok (.iconst 2, 1) := by decide +kernel
theorem dX12_bind_47 : decode cX12_bind 47 = .ok (.if_icmp .ne 7, 3) := by decide +kernel
theorem dX12_bind_50 : decode cX12_bind 50 = .ok (.iconst (-1), 1) := by decide +kernel
theorem dX12_bind_51 : decode cX12_bind 51 = .ok (.goto 7, 3) := by decide +kernel
theorem dX12_bind_54 : decode cX12_bind 54 = .ok (.aload_n 0, 1) := by decide +kernel
theorem dX12_bind_55 : decode cX12_bind 55 = .ok (.invokevirtual 323, 3) := by decide +kernel
theorem dX12_bind_58 : decode cX12_bind 58 = .ok (.istore_n 3, 1) := by decide +kernel
theorem dX12_bind_59 : decode cX12_bind 59 = .ok (.aload_n 0, 1) := by decide +kernel
theorem dX12_bind_60 : decode cX12_bind 60 = .ok (.invokevirtual 323, 3) := by decide +kernel
theorem dX12_bind_63 : decode cX12_bind 63 = .ok (.istore 4, 2) := by decide +kernel
theorem dX12_bind_65 : decode cX12_bind 65 = .ok (.aload_n 0, 1) := by decide +kernel
theorem dX12_bind_66 : decode cX12_bind 66 = .ok (.iload_n 2, 1) := by decide +kernel
theorem dX12_bind_67 : decode cX12_bind 67 = .ok (.iload 4, 2) := by decide +kernel
theorem dX12_bind_69 : decode cX12_bind 69 = .ok (.iload_n 3, 1) := by decide +kernel
theorem dX12_bind_70 : decode cX12_bind 70 = .ok (.invokevirtual 327, 3) := by decide +kernel
theorem dX12_bind_73 : decode cX12_bind 73 = .ok (.goto (-73), 3) := by decide +kernel
theorem dX12_bind_76 : decode cX12_bind 76 = .ok (.return_, 1) := by decide +kernel
def f_X12_bind (M : MM) (p1 : Int) : Option (MM) :=
lp (X := MM) (Y := MM) (fun x1 =>
if 0 < (x1 88 45) then
(gd (0 ≤ w32 ((x1 88 45) - 1) ∧ w32 ((x1 88 45) - 1) < (96 : Int)) <|
(f_X12_rank x1 (x1 112 (w32 ((x1 88 45) - 1)).toNat)).bind fun x4 =>
if x4 < p1 then
(some (Sum.inr x1))
else
bM (upM x1 88 45 (w32 ((x1 88 45) - 1))) fun M6 =>
gd (0 ≤ M6 88 45 ∧ M6 88 45 < (96 : Int)) <|
bI (M6 112 (M6 88 45).toNat) fun x8 =>
((if x8 = 2 then
(some ((-1), M6))
else
(f_X12_dropHeld M6).bind fun x10 =>
some (x10.1, x10.2)) : Option (Int × MM)).bind fun x11 =>
(f_X12_dropHeld x11.2).bind fun x12 =>
(f_X12_grown x12.2 x8 x12.1 x11.1).bind fun x13 =>
some (Sum.inl x13))
else
some (Sum.inr x1)) FU M
set_option maxRecDepth 4000 in
theorem c_X12_bind {E : EE} {sh : List (Nat × Nat)} {ex : Bool} {R : RM} {M : MM} {p1 : Int} (hE : Ext sh) (hL : Links R) : ∀ y, f_X12_bind M p1 = some y → MetC E m_X12_bind 0 0 [rV 88, iV p1] (sh, ex, R, M) (fun r w' => r = none ∧ w' = (sh, ex, R, y)) := by
  intro y hy
  refine MetC.seg (o := f_X12_bind M p1) (t := (fun K y => K (none) (sh, ex, R, y))) (L := [some (rV 88), some (iV p1), none, none, none]) (by decide) rfl (Nat.le_of_ble_eq_true rfl) ?_ hy ⟨rfl, rfl⟩
  unfold f_X12_bind
  refine Seg.forget (Lle.ye (Lle.ye (Lle.no (Lle.no (Lle.no (Lle.nil)))))) ?_
  refine S_loop (Y := MM) (fun y => [some (rV 88), some (iV p1), none, none, none]) (fun y => []) (fun y => (sh, ex, R, y)) (fun x1 => ?_) FU M
  refine Seg.step (pc' := 1) (I_aload_n (i := 0) dX12_bind_0 rfl rfl) ?_
  refine Seg.step (pc' := 4) (I_getI cls12 (by decide) wf_12_316 (hE _ _ sk_12) rfl dX12_bind_1) ?_
  refine S_if_le (tgt := 76) dX12_bind_4 (by decide) (fun h2 => ?_) (fun h2 => ?_)
  · refine Seg.step (pc' := 8) (I_aload_n (i := 0) dX12_bind_7 rfl rfl) ?_
    refine Seg.step (pc' := 11) (I_getR cls12 (by decide) wf_12_84 (hE _ _ sk_12) rfl (lk_12_43 hL) dX12_bind_8) ?_
    refine Seg.step (pc' := 12) (I_aload_n (i := 0) dX12_bind_11 rfl rfl) ?_
    refine Seg.step (pc' := 15) (I_getI cls12 (by decide) wf_12_316 (hE _ _ sk_12) rfl dX12_bind_12) ?_
    refine Seg.step (pc' := 16) (I_iconst dX12_bind_15 ⟨by decide, by decide⟩) ?_
    refine Seg.step (pc' := 17) (I_isub dX12_bind_16) ?_
    refine S_gd fun h3 => ?_
    refine Seg.step (pc' := 18) (I_iald (hE _ _ sk_12_43) h3 dX12_bind_17) ?_
    refine S_callS1 (md' := m_X12_rank) (fun y => some (iV y)) (fun y => (sh, ex, R, x1)) mm_X12_rank wm_12_319 ⟨rfl, rfl, by decide, by decide, by decide, by decide⟩ (Nat.le_of_ble_eq_true rfl) dX12_bind_18 (fun y hy => c_X12_rank hE hL y hy) (fun x4 => ?_)
    refine Seg.step (pc' := 22) (I_iload_n (i := 1) dX12_bind_21 rfl rfl) ?_
    refine S_icmp_lt (tgt := 76) dX12_bind_22 (by decide) (fun h5 => ?_) (fun h5 => ?_)
    · exact S_vret dX12_bind_76 rfl (by decide) (by decide) (fun K hK => hK)
    refine Seg.step (pc' := 26) (I_aload_n (i := 0) dX12_bind_25 rfl rfl) ?_
    refine Seg.step (pc' := 27) (I_dup dX12_bind_26 (fun _ h => by cases h)) ?_
    refine Seg.step (pc' := 30) (I_getI cls12 (by decide) wf_12_316 (hE _ _ sk_12) rfl dX12_bind_27) ?_
    refine Seg.step (pc' := 31) (I_iconst dX12_bind_30 ⟨by decide, by decide⟩) ?_
    refine Seg.step (pc' := 32) (I_isub dX12_bind_31) ?_
    refine Seg.step (pc' := 35) (I_putI cls12 (by decide) wf_12_316 (hE _ _ sk_12) rfl rfl dX12_bind_32) ?_
    refine S_bM fun M6 => ?_
    refine Seg.step (pc' := 36) (I_aload_n (i := 0) dX12_bind_35 rfl rfl) ?_
    refine Seg.step (pc' := 39) (I_getR cls12 (by decide) wf_12_84 (hE _ _ sk_12) rfl (lk_12_43 hL) dX12_bind_36) ?_
    refine Seg.step (pc' := 40) (I_aload_n (i := 0) dX12_bind_39 rfl rfl) ?_
    refine Seg.step (pc' := 43) (I_getI cls12 (by decide) wf_12_316 (hE _ _ sk_12) rfl dX12_bind_40) ?_
    refine S_gd fun h7 => ?_
    refine Seg.step (pc' := 44) (I_iald (hE _ _ sk_12_43) h7 dX12_bind_43) ?_
    refine S_bI fun x8 => ?_
    refine Seg.step (pc' := 45) (I_istore_n (i := 2) dX12_bind_44 rfl (by decide) rfl) ?_
    refine Seg.step (pc' := 46) (I_iload_n (i := 2) dX12_bind_45 rfl rfl) ?_
    refine Seg.step (pc' := 47) (I_iconst dX12_bind_46 ⟨by decide, by decide⟩) ?_
    refine S_bind (Y := Int × MM) (k' := 0) (n' := 0) 58 (fun y => [some (rV 88), some (iV p1), some (iV x8), none, none]) (fun y => [iV y.1]) (fun y => (sh, ex, R, y.2)) ?_ (fun x11 => ?_)
    · refine S_icmp_ne (tgt := 54) dX12_bind_47 (by decide) (fun h9 => ?_) (fun h9 => ?_)
      · refine Seg.step (pc' := 51) (I_iconst dX12_bind_50 ⟨by decide, by decide⟩) ?_
        refine Seg.step (pc' := 58) (I_goto (tgt := 58) dX12_bind_51 (by decide)) ?_
        exact S_arr (fun K hK => GG.forget (Lle.ye (Lle.ye (Lle.ye (Lle.no (Lle.no (Lle.nil)))))) hK)
      refine Seg.step (pc' := 55) (I_aload_n (i := 0) dX12_bind_54 rfl rfl) ?_
      refine S_callV0 (md' := m_X12_dropHeld) (fun y => some (iV y.1)) (fun y => (sh, ex, R, y.2)) (hE _ _ sk_12) ⟨by decide, rfl⟩ mm_X12_dropHeld wm_12_323 ⟨rfl, rfl, by decide, by decide, by decide, by decide⟩ (Nat.le_of_ble_eq_true rfl) dX12_bind_55 (fun y hy => c_X12_dropHeld hE hL y hy) (fun x10 => ?_)
      exact S_arr (fun K hK => GG.forget (Lle.ye (Lle.ye (Lle.ye (Lle.no (Lle.no (Lle.nil)))))) hK)
    refine Seg.step (pc' := 59) (I_istore_n (i := 3) dX12_bind_58 rfl (by decide) rfl) ?_
    refine Seg.step (pc' := 60) (I_aload_n (i := 0) dX12_bind_59 rfl rfl) ?_
    refine S_callV0 (md' := m_X12_dropHeld) (fun y => some (iV y.1)) (fun y => (sh, ex, R, y.2)) (hE _ _ sk_12) ⟨by decide, rfl⟩ mm_X12_dropHeld wm_12_323 ⟨rfl, rfl, by decide, by decide, by decide, by decide⟩ (Nat.le_of_ble_eq_true rfl) dX12_bind_60 (fun y hy => c_X12_dropHeld hE hL y hy) (fun x12 => ?_)
    refine Seg.step (pc' := 65) (I_istore dX12_bind_63 (by decide) rfl) ?_
    refine Seg.step (pc' := 66) (I_aload_n (i := 0) dX12_bind_65 rfl rfl) ?_
    refine Seg.step (pc' := 67) (I_iload_n (i := 2) dX12_bind_66 rfl rfl) ?_
    refine Seg.step (pc' := 69) (I_iload dX12_bind_67 rfl) ?_
    refine Seg.step (pc' := 70) (I_iload_n (i := 3) dX12_bind_69 rfl rfl) ?_
    refine S_callV3 (md' := m_X12_grown) (fun y => none) (fun y => (sh, ex, R, y)) (hE _ _ sk_12) ⟨by decide, rfl⟩ mm_X12_grown wm_12_327 ⟨rfl, rfl, by decide, by decide, by decide, by decide⟩ (Nat.le_of_ble_eq_true rfl) dX12_bind_70 (fun y hy => c_X12_grown hE hL y hy) (fun x13 => ?_)
    refine Seg.step (pc' := 0) (I_goto (tgt := 0) dX12_bind_73 (by decide)) ?_
    exact S_arr (fun K hK => GG.forget (Lle.ye (Lle.ye (Lle.no (Lle.no (Lle.no (Lle.nil)))))) hK)
  exact S_vret dX12_bind_76 rfl (by decide) (by decide) (fun K hK => hK)
theorem dX12_signs_0 : decode cX12_signs 0 = .ok (.aload_n 0, 1) := by decide +kernel
theorem dX12_signs_1 : decode cX12_signs 1 = .ok (.bipush 41, 2) := by decide +kernel
theorem dX12_signs_3 : decode cX12_signs 3 = .ok (.invokevirtual 230, 3) := by decide +kernel
theorem dX12_signs_6 : decode cX12_signs 6 = .ok (.ifCond .eq 41, 3) := by decide +kernel
theorem dX12_signs_9 : decode cX12_signs 9 = .ok (.aload_n 0, 1) := by decide +kernel
theorem dX12_signs_10 : decode cX12_signs 10 = .ok (.getfield 331, 3) := by decide +kernel
theorem dX12_signs_13 : decode cX12_signs 13 = .ok (.ifCond .le 34, 3) := by decide +kernel
theorem dX12_signs_16 : decode cX12_signs 16 = .ok (.aload_n 0, 1) := by decide +kernel
theorem dX12_signs_17 : decode cX12_signs 17 = .ok (.iconst 1, 1) := by decide +kernel
theorem dX12_signs_18 : decode cX12_signs 18 = .ok (.invokevirtual 354, 3) := by decide +kernel
theorem dX12_signs_21 : decode cX12_signs 21 = .ok (.aload_n 0, 1) := by decide +kernel
theorem dX12_signs_22 : decode cX12_signs 22 = .ok (.dup, 1) := by decide +kernel
theorem dX12_signs_23 : decode cX12_signs 23 = .ok (.getfield 316, 3) := by decide +kernel
theorem dX12_signs_26 : decode cX12_signs 26 = .ok (.iconst 1, 1) := by decide +kernel
theorem dX12_signs_27 : decode cX12_signs 27 = .ok (.isub, 1) := by decide +kernel
theorem dX12_signs_28 : decode cX12_signs 28 = .ok (.putfield 316, 3) := by decide +kernel
theorem dX12_signs_31 : decode cX12_signs 31 = .ok (.aload_n 0, 1) := by decide +kernel
theorem dX12_signs_32 : decode cX12_signs 32 = .ok (.dup, 1) := by decide +kernel
theorem dX12_signs_33 : decode cX12_signs 33 = .ok (.getfield 331, 3) := by decide +kernel
theorem dX12_signs_36 : decode cX12_signs 36 = .ok (.iconst 1, 1) := by decide +kernel
theorem dX12_signs_37 : decode cX12_signs 37 = .ok (.isub, 1) := by decide +kernel
theorem dX12_signs_38 : decode cX12_signs 38 = .ok (.putfield 331, 3) := by decide +kernel
theorem dX12_signs_41 : decode cX12_signs 41 = .ok (.aload_n 0, 1) := by decide +kernel
theorem dX12_signs_42 : decode cX12_signs 42 = .ok (.invokevirtual 227, 3) := by decide +kernel
theorem dX12_signs_45 : decode cX12_signs 45 = .ok (.iconst 1, 1) := by decide +kernel
theorem dX12_signs_46 : decode cX12_signs 46 = .ok (.ireturn, 1) := by decide +kernel
theorem dX12_signs_47 : decode cX12_signs 47 = .ok (.aload_n 0, 1) := by decide +kernel
theorem dX12_signs_48 : decode cX12_signs 48 = .ok (.bipush 10, 2) := by decide +kernel
theorem dX12_signs_50 : decode cX12_signs 50 = .ok (.invokevirtual 342, 3) := by decide +kernel
theorem dX12_signs_53 : decode cX12_signs 53 = .ok (.ifCond .eq 7, 3) := by decide +kernel
theorem dX12_signs_56 : decode cX12_signs 56 = .ok (.iconst 3, 1) := by decide +kernel
theorem dX12_signs_57 : decode cX12_signs 57 = .ok (.goto 90, 3) := by decide +kernel
theorem dX12_signs_60 : decode cX12_signs 60 = .ok (.aload_n 0, 1) := by decide +kernel
theorem dX12_signs_61 : decode cX12_signs 61 = .ok (.bipush 11, 2) := by decide +kernel
theorem dX12_signs_63 : decode cX12_signs 63 = .ok (.invokevirtual 342, 3) := by decide +kernel
theorem dX12_signs_66 : decode cX12_signs 66 = .ok (.ifCond .eq 7, 3) := by decide +kernel
theorem dX12_signs_69 : decode cX12_signs 69 = .ok (.iconst 4, 1) := by decide +kernel
theorem dX12_signs_70 : decode cX12_signs 70 = .ok (.goto 77, 3) := by decide +kernel
theorem dX12_signs_73 : decode cX12_signs 73 = .ok (.aload_n 0, 1) := by decide +kernel
theorem dX12_signs_74 : decode cX12_signs 74 = .ok (.getfield 193, 3) := by decide +kernel
theorem dX12_signs_77 : decode cX12_signs 77 = .ok (.iconst 5, 1) := by decide +kernel
theorem dX12_signs_78 : decode cX12_signs 78 = .ok (.if_icmp .ne 12, 3) := by decide +kernel
theorem dX12_signs_81 : decode cX12_signs 81 = .ok (.iconst 5, 1) := by decide +kernel
theorem dX12_signs_82 : decode cX12_signs 82 = .ok (.aload_n 0, 1) := by decide +kernel
theorem dX12_signs_83 : decode cX12_signs 83 = .ok (.getfield 204, 3) := by decide +kernel
theorem dX12_signs_86 : decode cX12_signs 86 = .ok (.iadd, 1) := by decide +kernel
theorem dX12_signs_87 : decode cX12_signs 87 = .ok (.goto 60, 3) := by decide +kernel
theorem dX12_signs_90 : decode cX12_signs 90 = .ok (.aload_n 0, 1) := by decide +kernel
theorem dX12_signs_91 : decode cX12_signs 91 = .ok (.bipush 43, 2) := by decide +kernel
theorem dX12_signs_93 : decode cX12_signs 93 = .ok (.invokevirtual 230, 3) := by decide +kernel
theorem dX12_signs_96 : decode cX12_signs 96 = .ok (.ifCond .eq 8, 3) := by decide +kernel
theorem dX12_signs_99 : decode cX12_signs 99 = .ok (.bipush 11, 2) := by decide +kernel
theorem dX12_signs_101 : decode cX12_signs 101 = .ok (.goto 46, 3) := by decide +kernel
theorem dX12_signs_104 : decode cX12_signs 104 = .ok (.aload_n 0, 1) := by decide +kernel
theorem dX12_signs_105 : decode cX12_signs 105 = .ok (.bipush 45, 2) := by decide +kernel
theorem dX12_signs_107 : decode cX12_signs 107 = .ok (.invokevirtual 230, 3) := by decide +kernel
theorem dX12_signs_110 : decode cX12_signs 110 = .ok (.ifCond .eq 8, 3) := by decide +kernel
theorem dX12_signs_113 : decode cX12_signs 113 = .ok (.bipush 12, 2) := by decide +kernel
theorem dX12_signs_115 : decode cX12_signs 115 = .ok (.goto 32, 3) := by decide +kernel
theorem dX12_signs_118 : decode cX12_signs 118 = .ok (.aload_n 0, 1) := by decide +kernel
theorem dX12_signs_119 : decode cX12_signs 119 = .ok (.bipush 42, 2) := by decide +kernel
theorem dX12_signs_121 : decode cX12_signs 121 = .ok (.invokevirtual 230, 3) := by decide +kernel
theorem dX12_signs_124 : decode cX12_signs 124 = .ok (.ifCond .eq 8, 3) := by decide +kernel
theorem dX12_signs_127 : decode cX12_signs 127 = .ok (.bipush 13, 2) := by decide +kernel
theorem dX12_signs_129 : decode cX12_signs 129 = .ok (.goto 18, 3) := by decide +kernel
theorem dX12_signs_132 : decode cX12_signs 132 = .ok (.aload_n 0, 1) := by decide +kernel
theorem dX12_signs_133 : decode cX12_signs 133 = .ok (.bipush 47, 2) := by decide +kernel
theorem dX12_signs_135 : decode cX12_signs 135 = .ok (.invokevirtual 230, 3) := by decide +kernel
theorem dX12_signs_138 : decode cX12_signs 138 = .ok (.ifCond .eq 8, 3) := by decide +kernel
theorem dX12_signs_141 : decode cX12_signs 141 = .ok (.bipush 14, 2) := by decide +kernel
theorem dX12_signs_143 : decode cX12_signs 143 = .ok (.goto 4, 3) := by decide +kernel
theorem dX12_signs_146 : decode cX12_signs 146 = .ok (.iconst 0, 1) := by decide +kernel
theorem dX12_signs_147 : decode cX12_signs 147 = .ok (.istore_n 1, 1) := by decide +kernel
theorem dX12_signs_148 : decode cX12_signs 148 = .ok (.iload_n 1, 1) := by decide +kernel
theorem dX12_signs_149 : decode cX12_signs 149 = .ok (.ifCond .ne 9, 3) := by decide +kernel
theorem dX12_signs_152 : decode cX12_signs 152 = .ok (.aload_n 0, 1) := by decide +kernel
theorem dX12_signs_153 : decode cX12_signs 153 = .ok (.iconst 1, 1) := by decide +kernel
theorem dX12_signs_154 : decode cX12_signs 154 = .ok (.invokevirtual 217, 3) := by decide +kernel
theorem dX12_signs_157 : decode cX12_signs 157 = .ok (.ireturn, 1) := by decide +kernel
theorem dX12_signs_158 : decode cX12_signs 158 = .ok (.aload_n 0, 1) := by decide +kernel
theorem dX12_signs_159 : decode cX12_signs 159 = .ok (.iload_n 1, 1) := by decide +kernel
theorem dX12_signs_160 : decode cX12_signs 160 = .ok (.invokestatic 319, 3) := by decide +kernel
theorem dX12_signs_163 : decode cX12_signs 163 = .ok (.iconst 4, 1) := by decide +kernel
theorem dX12_signs_164 : decode cX12_signs 164 = .ok (.if_icmp .ne 7, 3) := by decide +kernel
theorem dX12_signs_167 : decode cX12_signs 167 = .ok (.iconst 5, 1) := by decide +kernel
theorem dX12_signs_168 : decode cX12_signs 168 = .ok (.goto 7, 3) := by decide +kernel
theorem dX12_signs_171 : decode cX12_signs 171 = .ok (.iload_n 1, 1) := by decide +kernel
theorem dX12_signs_172 : decode cX12_signs 172 = .ok (.invokestatic 319, 3) := by decide +kernel
theorem dX12_signs_175 : decode cX12_signs 175 = .ok (.invokevirtual 354, 3) := by decide +kernel
theorem dX12_signs_178 : decode cX12_signs 178 = .ok (.iload_n 1, 1) := by decide +kernel
theorem dX12_signs_179 : decode cX12_signs 179 = .ok (.invokestatic 319, 3) := by decide +kernel
theorem dX12_signs_182 : decode cX12_signs 182 = .ok (.iconst 4, 1) := by decide +kernel
theorem dX12_signs_183 : decode cX12_signs 183 = .ok (.if_icmp .ne 34, 3) := by decide +kernel
theorem dX12_signs_186 : decode cX12_signs 186 = .ok (.aload_n 0, 1) := by decide +kernel
theorem dX12_signs_187 : decode cX12_signs 187 = .ok (.getfield 316, 3) := by decide +kernel
theorem dX12_signs_190 : decode cX12_signs 190 = .ok (.ifCond .le 27, 3) := by decide +kernel
theorem dX12_signs_193 : decode cX12_signs 193 = .ok (.aload_n 0, 1) := by decide +kernel
theorem dX12_signs_194 : decode cX12_signs 194 = .ok (.getfield 84, 3) := by decide +kernel
theorem dX12_signs_197 : decode cX12_signs 197 = .ok (.aload_n 0, 1) := by decide +kernel
theorem dX12_signs_198 : decode cX12_signs 198 = .ok (.getfield 316, 3) := by decide +kernel
theorem dX12_signs_201 : decode cX12_signs 201 = .ok (.iconst 1, 1) := by decide +kernel
theorem dX12_signs_202 : decode cX12_signs 202 = .ok (.isub, 1) := by decide +kernel
theorem dX12_signs_203 : decode cX12_signs 203 = .ok (.iaload, 1) := by decide +kernel
theorem dX12_signs_204 : decode cX12_signs 204 = .ok (.invokestatic 319, 3) := by decide +kernel
theorem dX12_signs_207 : decode cX12_signs 207 = .ok (.iconst 4, 1) := by decide +kernel
theorem dX12_signs_208 : decode cX12_signs 208 = .ok (.if_icmp .ne 9, 3) := by decide +kernel
theorem dX12_signs_211 : decode cX12_signs 211 = .ok (.aload_n 0, 1) := by decide +kernel
theorem dX12_signs_212 : decode cX12_signs 212 = .ok (.iconst 1, 1) := by decide +kernel
theorem dX12_signs_213 : decode cX12_signs 213 = .ok (.invokevirtual 217, 3) := by decide +kernel
theorem dX12_signs_216 : decode cX12_signs 216 = .ok (.ireturn, 1) := by decide +kernel
theorem dX12_signs_217 : decode cX12_signs 217 = .ok (.aload_n 0, 1) := by decide +kernel
theorem dX12_signs_218 : decode cX12_signs 218 = .ok (.invokevirtual 345, 3) := by decide +kernel
theorem dX12_signs_221 : decode cX12_signs 221 = .ok (.ifCond .ne 5, 3) := by decide +kernel
theorem dX12_signs_224 : decode cX12_signs 224 = .ok (.iconst 0, 1) := by decide +kernel
theorem dX12_signs_225 : decode cX12_signs 225 = .ok (.ireturn, 1) := by decide +kernel
theorem dX12_signs_226 : decode cX12_signs 226 = .ok (.aload_n 0, 1) := by decide +kernel
theorem dX12_signs_227 : decode cX12_signs 227 = .ok (.iload_n 1, 1) := by decide +kernel
theorem dX12_signs_228 : decode cX12_signs 228 = .ok (.invokevirtual 334, 3) := by decide +kernel
theorem dX12_signs_231 : decode cX12_signs 231 = .ok (.aload_n 0, 1) := by decide +kernel
theorem dX12_signs_232 : decode cX12_signs 232 = .ok (.iconst 1, 1) := by decide +kernel
theorem dX12_signs_233 : decode cX12_signs 233 = .ok (.putfield 351, 3) := by decide +kernel
theorem dX12_signs_236 : decode cX12_signs 236 = .ok (.aload_n 0, 1) := by decide +kernel
theorem dX12_signs_237 : decode cX12_signs 237 = .ok (.iload_n 1, 1) := by decide +kernel
theorem dX12_signs_238 : decode cX12_signs 238 = .ok (.invokestatic 319, 3) := by decide +kernel
theorem dX12_signs_241 : decode cX12_signs 241 = .ok (.iconst 3, 1) := by decide +kernel
theorem dX12_signs_242 : decode cX12_signs 242 = .ok (.if_icmp .ge 7, 3) := by decide +kernel
theorem dX12_signs_245 : decode cX12_signs 245 = .ok (.iconst 1, 1) := by decide +kernel
theorem dX12_signs_246 : decode cX12_signs 246 = .ok (.goto 4, 3) := by decide +kernel
theorem dX12_signs_249 : decode cX12_signs 249 = .ok (.iconst 0, 1) := by decide +kernel
theorem dX12_signs_250 : decode cX12_signs 250 = .ok (.putfield 338, 3) := by decide +kernel
theorem dX12_signs_253 : decode cX12_signs 253 = .ok (.aload_n 0, 1) := by decide +kernel
theorem dX12_signs_254 : decode cX12_signs 254 = .ok (.invokevirtual 227, 3) := by decide +kernel
theorem dX12_signs_257 : decode cX12_signs 257 = .ok (.iconst 1, 1) := by decide +kernel
theorem dX12_signs_258 : decode cX12_signs 258 = .ok (.ireturn, 1) := by decide +kernel
def f_X12_signs (M : MM)  : Option (Int × MM) :=
(f_X12_isSign M 41).bind fun x1 =>
bS ((if x1 = 0 then
(some (Sum.inl ()))
else
if 0 < (M 88 47) then
((f_X12_bind M 1).bind fun x4 =>
bM (upM x4 88 45 (w32 ((x4 88 45) - 1))) fun M5 =>
bM (upM M5 88 47 (w32 ((M5 88 47) - 1))) fun M6 =>
(f_X12_token M6).bind fun x7 =>
some (Sum.inr (1, x7)))
else
some (Sum.inl ())) : Option ((Unit) ⊕ (Int × MM))) (fun x8 =>
(f_X12_isKey M 10).bind fun x9 =>
((if x9 = 0 then
((f_X12_isKey M 11).bind fun x11 =>
if x11 = 0 then
(if (M 88 8) = 5 then
(some (w32 (5 + (M 88 9))))
else
(f_X12_isSign M 43).bind fun x14 =>
if x14 = 0 then
((f_X12_isSign M 45).bind fun x16 =>
if x16 = 0 then
((f_X12_isSign M 42).bind fun x18 =>
if x18 = 0 then
((f_X12_isSign M 47).bind fun x20 =>
if x20 = 0 then
(some 0)
else
some 14)
else
some 13)
else
some 12)
else
some 11)
else
some 4)
else
some 3) : Option (Int)).bind fun x22 =>
if x22 = 0 then
((f_X12_wrong M 1).bind fun x24 =>
gd (x24.1 = 0 ∨ x24.1 = 1) <|
some (x24.1, x24.2))
else
(f_X12_rank M x22).bind fun x26 =>
((if x26 = 4 then
(some 5)
else
(f_X12_rank M x22).bind fun x28 =>
some x28) : Option (Int)).bind fun x29 =>
(f_X12_bind M x29).bind fun x30 =>
(f_X12_rank x30 x22).bind fun x31 =>
bS ((if x31 = 4 then
(if 0 < (x30 88 45) then
(gd (0 ≤ w32 ((x30 88 45) - 1) ∧ w32 ((x30 88 45) - 1) < (96 : Int)) <|
(f_X12_rank x30 (x30 112 (w32 ((x30 88 45) - 1)).toNat)).bind fun x35 =>
if x35 = 4 then
((f_X12_wrong x30 1).bind fun x37 =>
gd (x37.1 = 0 ∨ x37.1 = 1) <|
some (Sum.inr (x37.1, x37.2)))
else
some (Sum.inl ()))
else
some (Sum.inl ()))
else
some (Sum.inl ())) : Option ((Unit) ⊕ (Int × MM))) (fun x39 =>
(f_X12_isCounted x30).bind fun x40 =>
if x40.1 = 0 then
(some (0, x40.2))
else
(f_X12_waitsFor x40.2 x22).bind fun x42 =>
bM (upM x42 88 49 1) fun M43 =>
(f_X12_rank M43 x22).bind fun x44 =>
((if x44 < 3 then
(some 1)
else
some 0) : Option (Int)).bind fun x46 =>
gd (x46 = 0 ∨ x46 = 1) <|
bM (upM M43 88 50 x46) fun M48 =>
(f_X12_token M48).bind fun x49 =>
some (1, x49)) (fun r => r)) (fun r => r)
set_option maxRecDepth 4000 in
theorem c_X12_signs {E : EE} {sh : List (Nat × Nat)} {ex : Bool} {R : RM} {M : MM}  (hE : Ext sh) (hL : Links R) : ∀ y, f_X12_signs M = some y → MetC E m_X12_signs 0 0 [rV 88] (sh, ex, R, M) (fun r w' => r = some (iV y.1) ∧ w' = (sh, ex, R, y.2)) := by
  intro y hy
  refine MetC.seg (o := f_X12_signs M) (t := (fun K y => K (some (iV y.1)) (sh, ex, R, y.2))) (L := [some (rV 88), none]) (by decide) rfl (Nat.le_of_ble_eq_true rfl) ?_ hy ⟨rfl, rfl⟩
  unfold f_X12_signs
  refine Seg.step (pc' := 1) (I_aload_n (i := 0) dX12_signs_0 rfl rfl) ?_
  refine Seg.step (pc' := 3) (I_bipush dX12_signs_1 (by decide) ⟨by decide, by decide⟩) ?_
  refine S_callV1 (md' := m_X12_isSign) (fun y => some (iV y)) (fun y => (sh, ex, R, M)) (hE _ _ sk_12) ⟨by decide, rfl⟩ mm_X12_isSign wm_12_230 ⟨rfl, rfl, by decide, by decide, by decide, by decide⟩ (Nat.le_of_ble_eq_true rfl) dX12_signs_3 (fun y hy => c_X12_isSign hE hL y hy) (fun x1 => ?_)
  refine S_bind2 (Y := Unit) (k' := 0) (n' := 0) 47 (fun y => [some (rV 88), none]) (fun y => []) (fun y => (sh, ex, R, M)) ?_ (fun x8 => ?_)
  · refine S_if_eq (tgt := 47) dX12_signs_6 (by decide) (fun h2 => ?_) (fun h2 => ?_)
    · exact S_arr (fun K hK => GG.forget (Lle.ye (Lle.no (Lle.nil))) hK)
    refine Seg.step (pc' := 10) (I_aload_n (i := 0) dX12_signs_9 rfl rfl) ?_
    refine Seg.step (pc' := 13) (I_getI cls12 (by decide) wf_12_331 (hE _ _ sk_12) rfl dX12_signs_10) ?_
    refine S_if_le (tgt := 47) dX12_signs_13 (by decide) (fun h3 => ?_) (fun h3 => ?_)
    · refine Seg.step (pc' := 17) (I_aload_n (i := 0) dX12_signs_16 rfl rfl) ?_
      refine Seg.step (pc' := 18) (I_iconst dX12_signs_17 ⟨by decide, by decide⟩) ?_
      refine S_callV1 (md' := m_X12_bind) (fun y => none) (fun y => (sh, ex, R, y)) (hE _ _ sk_12) ⟨by decide, rfl⟩ mm_X12_bind wm_12_354 ⟨rfl, rfl, by decide, by decide, by decide, by decide⟩ (Nat.le_of_ble_eq_true rfl) dX12_signs_18 (fun y hy => c_X12_bind hE hL y hy) (fun x4 => ?_)
      refine Seg.step (pc' := 22) (I_aload_n (i := 0) dX12_signs_21 rfl rfl) ?_
      refine Seg.step (pc' := 23) (I_dup dX12_signs_22 (fun _ h => by cases h)) ?_
      refine Seg.step (pc' := 26) (I_getI cls12 (by decide) wf_12_316 (hE _ _ sk_12) rfl dX12_signs_23) ?_
      refine Seg.step (pc' := 27) (I_iconst dX12_signs_26 ⟨by decide, by decide⟩) ?_
      refine Seg.step (pc' := 28) (I_isub dX12_signs_27) ?_
      refine Seg.step (pc' := 31) (I_putI cls12 (by decide) wf_12_316 (hE _ _ sk_12) rfl rfl dX12_signs_28) ?_
      refine S_bM fun M5 => ?_
      refine Seg.step (pc' := 32) (I_aload_n (i := 0) dX12_signs_31 rfl rfl) ?_
      refine Seg.step (pc' := 33) (I_dup dX12_signs_32 (fun _ h => by cases h)) ?_
      refine Seg.step (pc' := 36) (I_getI cls12 (by decide) wf_12_331 (hE _ _ sk_12) rfl dX12_signs_33) ?_
      refine Seg.step (pc' := 37) (I_iconst dX12_signs_36 ⟨by decide, by decide⟩) ?_
      refine Seg.step (pc' := 38) (I_isub dX12_signs_37) ?_
      refine Seg.step (pc' := 41) (I_putI cls12 (by decide) wf_12_331 (hE _ _ sk_12) rfl rfl dX12_signs_38) ?_
      refine S_bM fun M6 => ?_
      refine Seg.step (pc' := 42) (I_aload_n (i := 0) dX12_signs_41 rfl rfl) ?_
      refine S_callV0 (md' := m_X12_token) (fun y => none) (fun y => (sh, ex, R, y)) (hE _ _ sk_12) ⟨by decide, rfl⟩ mm_X12_token wm_12_227 ⟨rfl, rfl, by decide, by decide, by decide, by decide⟩ (Nat.le_of_ble_eq_true rfl) dX12_signs_42 (fun y hy => c_X12_token hE hL y hy) (fun x7 => ?_)
      refine Seg.step (pc' := 46) (I_iconst dX12_signs_45 ⟨by decide, by decide⟩) ?_
      exact S_zret dX12_signs_46 rfl (by decide) (by decide) (by decide) (fun K hK => hK)
    exact S_arr (fun K hK => GG.forget (Lle.ye (Lle.no (Lle.nil))) hK)
  refine Seg.step (pc' := 48) (I_aload_n (i := 0) dX12_signs_47 rfl rfl) ?_
  refine Seg.step (pc' := 50) (I_bipush dX12_signs_48 (by decide) ⟨by decide, by decide⟩) ?_
  refine S_callV1 (md' := m_X12_isKey) (fun y => some (iV y)) (fun y => (sh, ex, R, M)) (hE _ _ sk_12) ⟨by decide, rfl⟩ mm_X12_isKey wm_12_342 ⟨rfl, rfl, by decide, by decide, by decide, by decide⟩ (Nat.le_of_ble_eq_true rfl) dX12_signs_50 (fun y hy => c_X12_isKey hE hL y hy) (fun x9 => ?_)
  refine S_bind (Y := Int) (k' := 0) (n' := 0) 147 (fun y => [some (rV 88), none]) (fun y => [iV y]) (fun y => (sh, ex, R, M)) ?_ (fun x22 => ?_)
  · refine S_if_eq (tgt := 60) dX12_signs_53 (by decide) (fun h10 => ?_) (fun h10 => ?_)
    · refine Seg.step (pc' := 61) (I_aload_n (i := 0) dX12_signs_60 rfl rfl) ?_
      refine Seg.step (pc' := 63) (I_bipush dX12_signs_61 (by decide) ⟨by decide, by decide⟩) ?_
      refine S_callV1 (md' := m_X12_isKey) (fun y => some (iV y)) (fun y => (sh, ex, R, M)) (hE _ _ sk_12) ⟨by decide, rfl⟩ mm_X12_isKey wm_12_342 ⟨rfl, rfl, by decide, by decide, by decide, by decide⟩ (Nat.le_of_ble_eq_true rfl) dX12_signs_63 (fun y hy => c_X12_isKey hE hL y hy) (fun x11 => ?_)
      refine S_if_eq (tgt := 73) dX12_signs_66 (by decide) (fun h12 => ?_) (fun h12 => ?_)
      · refine Seg.step (pc' := 74) (I_aload_n (i := 0) dX12_signs_73 rfl rfl) ?_
        refine Seg.step (pc' := 77) (I_getI cls12 (by decide) wf_12_193 (hE _ _ sk_12) rfl dX12_signs_74) ?_
        refine Seg.step (pc' := 78) (I_iconst dX12_signs_77 ⟨by decide, by decide⟩) ?_
        refine S_icmp_ne (tgt := 90) dX12_signs_78 (by decide) (fun h13 => ?_) (fun h13 => ?_)
        · refine Seg.step (pc' := 82) (I_iconst dX12_signs_81 ⟨by decide, by decide⟩) ?_
          refine Seg.step (pc' := 83) (I_aload_n (i := 0) dX12_signs_82 rfl rfl) ?_
          refine Seg.step (pc' := 86) (I_getI cls12 (by decide) wf_12_204 (hE _ _ sk_12) rfl dX12_signs_83) ?_
          refine Seg.step (pc' := 87) (I_iadd dX12_signs_86) ?_
          refine Seg.step (pc' := 147) (I_goto (tgt := 147) dX12_signs_87 (by decide)) ?_
          exact S_arr (fun K hK => GG.forget (Lle.ye (Lle.no (Lle.nil))) hK)
        refine Seg.step (pc' := 91) (I_aload_n (i := 0) dX12_signs_90 rfl rfl) ?_
        refine Seg.step (pc' := 93) (I_bipush dX12_signs_91 (by decide) ⟨by decide, by decide⟩) ?_
        refine S_callV1 (md' := m_X12_isSign) (fun y => some (iV y)) (fun y => (sh, ex, R, M)) (hE _ _ sk_12) ⟨by decide, rfl⟩ mm_X12_isSign wm_12_230 ⟨rfl, rfl, by decide, by decide, by decide, by decide⟩ (Nat.le_of_ble_eq_true rfl) dX12_signs_93 (fun y hy => c_X12_isSign hE hL y hy) (fun x14 => ?_)
        refine S_if_eq (tgt := 104) dX12_signs_96 (by decide) (fun h15 => ?_) (fun h15 => ?_)
        · refine Seg.step (pc' := 105) (I_aload_n (i := 0) dX12_signs_104 rfl rfl) ?_
          refine Seg.step (pc' := 107) (I_bipush dX12_signs_105 (by decide) ⟨by decide, by decide⟩) ?_
          refine S_callV1 (md' := m_X12_isSign) (fun y => some (iV y)) (fun y => (sh, ex, R, M)) (hE _ _ sk_12) ⟨by decide, rfl⟩ mm_X12_isSign wm_12_230 ⟨rfl, rfl, by decide, by decide, by decide, by decide⟩ (Nat.le_of_ble_eq_true rfl) dX12_signs_107 (fun y hy => c_X12_isSign hE hL y hy) (fun x16 => ?_)
          refine S_if_eq (tgt := 118) dX12_signs_110 (by decide) (fun h17 => ?_) (fun h17 => ?_)
          · refine Seg.step (pc' := 119) (I_aload_n (i := 0) dX12_signs_118 rfl rfl) ?_
            refine Seg.step (pc' := 121) (I_bipush dX12_signs_119 (by decide) ⟨by decide, by decide⟩) ?_
            refine S_callV1 (md' := m_X12_isSign) (fun y => some (iV y)) (fun y => (sh, ex, R, M)) (hE _ _ sk_12) ⟨by decide, rfl⟩ mm_X12_isSign wm_12_230 ⟨rfl, rfl, by decide, by decide, by decide, by decide⟩ (Nat.le_of_ble_eq_true rfl) dX12_signs_121 (fun y hy => c_X12_isSign hE hL y hy) (fun x18 => ?_)
            refine S_if_eq (tgt := 132) dX12_signs_124 (by decide) (fun h19 => ?_) (fun h19 => ?_)
            · refine Seg.step (pc' := 133) (I_aload_n (i := 0) dX12_signs_132 rfl rfl) ?_
              refine Seg.step (pc' := 135) (I_bipush dX12_signs_133 (by decide) ⟨by decide, by decide⟩) ?_
              refine S_callV1 (md' := m_X12_isSign) (fun y => some (iV y)) (fun y => (sh, ex, R, M)) (hE _ _ sk_12) ⟨by decide, rfl⟩ mm_X12_isSign wm_12_230 ⟨rfl, rfl, by decide, by decide, by decide, by decide⟩ (Nat.le_of_ble_eq_true rfl) dX12_signs_135 (fun y hy => c_X12_isSign hE hL y hy) (fun x20 => ?_)
              refine S_if_eq (tgt := 146) dX12_signs_138 (by decide) (fun h21 => ?_) (fun h21 => ?_)
              · refine Seg.step (pc' := 147) (I_iconst dX12_signs_146 ⟨by decide, by decide⟩) ?_
                exact S_arr (fun K hK => GG.forget (Lle.ye (Lle.no (Lle.nil))) hK)
              refine Seg.step (pc' := 143) (I_bipush dX12_signs_141 (by decide) ⟨by decide, by decide⟩) ?_
              refine Seg.step (pc' := 147) (I_goto (tgt := 147) dX12_signs_143 (by decide)) ?_
              exact S_arr (fun K hK => GG.forget (Lle.ye (Lle.no (Lle.nil))) hK)
            refine Seg.step (pc' := 129) (I_bipush dX12_signs_127 (by decide) ⟨by decide, by decide⟩) ?_
            refine Seg.step (pc' := 147) (I_goto (tgt := 147) dX12_signs_129 (by decide)) ?_
            exact S_arr (fun K hK => GG.forget (Lle.ye (Lle.no (Lle.nil))) hK)
          refine Seg.step (pc' := 115) (I_bipush dX12_signs_113 (by decide) ⟨by decide, by decide⟩) ?_
          refine Seg.step (pc' := 147) (I_goto (tgt := 147) dX12_signs_115 (by decide)) ?_
          exact S_arr (fun K hK => GG.forget (Lle.ye (Lle.no (Lle.nil))) hK)
        refine Seg.step (pc' := 101) (I_bipush dX12_signs_99 (by decide) ⟨by decide, by decide⟩) ?_
        refine Seg.step (pc' := 147) (I_goto (tgt := 147) dX12_signs_101 (by decide)) ?_
        exact S_arr (fun K hK => GG.forget (Lle.ye (Lle.no (Lle.nil))) hK)
      refine Seg.step (pc' := 70) (I_iconst dX12_signs_69 ⟨by decide, by decide⟩) ?_
      refine Seg.step (pc' := 147) (I_goto (tgt := 147) dX12_signs_70 (by decide)) ?_
      exact S_arr (fun K hK => GG.forget (Lle.ye (Lle.no (Lle.nil))) hK)
    refine Seg.step (pc' := 57) (I_iconst dX12_signs_56 ⟨by decide, by decide⟩) ?_
    refine Seg.step (pc' := 147) (I_goto (tgt := 147) dX12_signs_57 (by decide)) ?_
    exact S_arr (fun K hK => GG.forget (Lle.ye (Lle.no (Lle.nil))) hK)
  refine Seg.step (pc' := 148) (I_istore_n (i := 1) dX12_signs_147 rfl (by decide) rfl) ?_
  refine Seg.step (pc' := 149) (I_iload_n (i := 1) dX12_signs_148 rfl rfl) ?_
  refine S_if_ne (tgt := 158) dX12_signs_149 (by decide) (fun h23 => ?_) (fun h23 => ?_)
  · refine Seg.step (pc' := 153) (I_aload_n (i := 0) dX12_signs_152 rfl rfl) ?_
    refine Seg.step (pc' := 154) (I_iconst dX12_signs_153 ⟨by decide, by decide⟩) ?_
    refine S_callV1 (md' := m_X12_wrong) (fun y => some (iV y.1)) (fun y => (sh, ex, R, y.2)) (hE _ _ sk_12) ⟨by decide, rfl⟩ mm_X12_wrong wm_12_217 ⟨rfl, rfl, by decide, by decide, by decide, by decide⟩ (Nat.le_of_ble_eq_true rfl) dX12_signs_154 (fun y hy => c_X12_wrong hE hL y hy) (fun x24 => ?_)
    refine S_gd fun h25 => ?_
    exact S_zret dX12_signs_157 rfl h25 (by decide) (by decide) (fun K hK => hK)
  refine Seg.step (pc' := 159) (I_aload_n (i := 0) dX12_signs_158 rfl rfl) ?_
  refine Seg.step (pc' := 160) (I_iload_n (i := 1) dX12_signs_159 rfl rfl) ?_
  refine S_callS1 (md' := m_X12_rank) (fun y => some (iV y)) (fun y => (sh, ex, R, M)) mm_X12_rank wm_12_319 ⟨rfl, rfl, by decide, by decide, by decide, by decide⟩ (Nat.le_of_ble_eq_true rfl) dX12_signs_160 (fun y hy => c_X12_rank hE hL y hy) (fun x26 => ?_)
  refine Seg.step (pc' := 164) (I_iconst dX12_signs_163 ⟨by decide, by decide⟩) ?_
  refine S_bind (Y := Int) (k' := 0) (n' := 0) 175 (fun y => [some (rV 88), some (iV x22)]) (fun y => [iV y, rV 88]) (fun y => (sh, ex, R, M)) ?_ (fun x29 => ?_)
  · refine S_icmp_ne (tgt := 171) dX12_signs_164 (by decide) (fun h27 => ?_) (fun h27 => ?_)
    · refine Seg.step (pc' := 168) (I_iconst dX12_signs_167 ⟨by decide, by decide⟩) ?_
      refine Seg.step (pc' := 175) (I_goto (tgt := 175) dX12_signs_168 (by decide)) ?_
      exact S_arr (fun K hK => GG.forget (Lle.ye (Lle.ye (Lle.nil))) hK)
    refine Seg.step (pc' := 172) (I_iload_n (i := 1) dX12_signs_171 rfl rfl) ?_
    refine S_callS1 (md' := m_X12_rank) (fun y => some (iV y)) (fun y => (sh, ex, R, M)) mm_X12_rank wm_12_319 ⟨rfl, rfl, by decide, by decide, by decide, by decide⟩ (Nat.le_of_ble_eq_true rfl) dX12_signs_172 (fun y hy => c_X12_rank hE hL y hy) (fun x28 => ?_)
    exact S_arr (fun K hK => GG.forget (Lle.ye (Lle.ye (Lle.nil))) hK)
  refine S_callV1 (md' := m_X12_bind) (fun y => none) (fun y => (sh, ex, R, y)) (hE _ _ sk_12) ⟨by decide, rfl⟩ mm_X12_bind wm_12_354 ⟨rfl, rfl, by decide, by decide, by decide, by decide⟩ (Nat.le_of_ble_eq_true rfl) dX12_signs_175 (fun y hy => c_X12_bind hE hL y hy) (fun x30 => ?_)
  refine Seg.step (pc' := 179) (I_iload_n (i := 1) dX12_signs_178 rfl rfl) ?_
  refine S_callS1 (md' := m_X12_rank) (fun y => some (iV y)) (fun y => (sh, ex, R, x30)) mm_X12_rank wm_12_319 ⟨rfl, rfl, by decide, by decide, by decide, by decide⟩ (Nat.le_of_ble_eq_true rfl) dX12_signs_179 (fun y hy => c_X12_rank hE hL y hy) (fun x31 => ?_)
  refine Seg.step (pc' := 183) (I_iconst dX12_signs_182 ⟨by decide, by decide⟩) ?_
  refine S_bind2 (Y := Unit) (k' := 0) (n' := 0) 217 (fun y => [some (rV 88), some (iV x22)]) (fun y => []) (fun y => (sh, ex, R, x30)) ?_ (fun x39 => ?_)
  · refine S_icmp_ne (tgt := 217) dX12_signs_183 (by decide) (fun h32 => ?_) (fun h32 => ?_)
    · refine Seg.step (pc' := 187) (I_aload_n (i := 0) dX12_signs_186 rfl rfl) ?_
      refine Seg.step (pc' := 190) (I_getI cls12 (by decide) wf_12_316 (hE _ _ sk_12) rfl dX12_signs_187) ?_
      refine S_if_le (tgt := 217) dX12_signs_190 (by decide) (fun h33 => ?_) (fun h33 => ?_)
      · refine Seg.step (pc' := 194) (I_aload_n (i := 0) dX12_signs_193 rfl rfl) ?_
        refine Seg.step (pc' := 197) (I_getR cls12 (by decide) wf_12_84 (hE _ _ sk_12) rfl (lk_12_43 hL) dX12_signs_194) ?_
        refine Seg.step (pc' := 198) (I_aload_n (i := 0) dX12_signs_197 rfl rfl) ?_
        refine Seg.step (pc' := 201) (I_getI cls12 (by decide) wf_12_316 (hE _ _ sk_12) rfl dX12_signs_198) ?_
        refine Seg.step (pc' := 202) (I_iconst dX12_signs_201 ⟨by decide, by decide⟩) ?_
        refine Seg.step (pc' := 203) (I_isub dX12_signs_202) ?_
        refine S_gd fun h34 => ?_
        refine Seg.step (pc' := 204) (I_iald (hE _ _ sk_12_43) h34 dX12_signs_203) ?_
        refine S_callS1 (md' := m_X12_rank) (fun y => some (iV y)) (fun y => (sh, ex, R, x30)) mm_X12_rank wm_12_319 ⟨rfl, rfl, by decide, by decide, by decide, by decide⟩ (Nat.le_of_ble_eq_true rfl) dX12_signs_204 (fun y hy => c_X12_rank hE hL y hy) (fun x35 => ?_)
        refine Seg.step (pc' := 208) (I_iconst dX12_signs_207 ⟨by decide, by decide⟩) ?_
        refine S_icmp_ne (tgt := 217) dX12_signs_208 (by decide) (fun h36 => ?_) (fun h36 => ?_)
        · refine Seg.step (pc' := 212) (I_aload_n (i := 0) dX12_signs_211 rfl rfl) ?_
          refine Seg.step (pc' := 213) (I_iconst dX12_signs_212 ⟨by decide, by decide⟩) ?_
          refine S_callV1 (md' := m_X12_wrong) (fun y => some (iV y.1)) (fun y => (sh, ex, R, y.2)) (hE _ _ sk_12) ⟨by decide, rfl⟩ mm_X12_wrong wm_12_217 ⟨rfl, rfl, by decide, by decide, by decide, by decide⟩ (Nat.le_of_ble_eq_true rfl) dX12_signs_213 (fun y hy => c_X12_wrong hE hL y hy) (fun x37 => ?_)
          refine S_gd fun h38 => ?_
          exact S_zret dX12_signs_216 rfl h38 (by decide) (by decide) (fun K hK => hK)
        exact S_arr (fun K hK => GG.forget (Lle.ye (Lle.ye (Lle.nil))) hK)
      exact S_arr (fun K hK => GG.forget (Lle.ye (Lle.ye (Lle.nil))) hK)
    exact S_arr (fun K hK => GG.forget (Lle.ye (Lle.ye (Lle.nil))) hK)
  refine Seg.step (pc' := 218) (I_aload_n (i := 0) dX12_signs_217 rfl rfl) ?_
  refine S_callV0 (md' := m_X12_isCounted) (fun y => some (iV y.1)) (fun y => (sh, ex, R, y.2)) (hE _ _ sk_12) ⟨by decide, rfl⟩ mm_X12_isCounted wm_12_345 ⟨rfl, rfl, by decide, by decide, by decide, by decide⟩ (Nat.le_of_ble_eq_true rfl) dX12_signs_218 (fun y hy => c_X12_isCounted hE hL y hy) (fun x40 => ?_)
  refine S_if_ne (tgt := 226) dX12_signs_221 (by decide) (fun h41 => ?_) (fun h41 => ?_)
  · refine Seg.step (pc' := 225) (I_iconst dX12_signs_224 ⟨by decide, by decide⟩) ?_
    exact S_zret dX12_signs_225 rfl (by decide) (by decide) (by decide) (fun K hK => hK)
  refine Seg.step (pc' := 227) (I_aload_n (i := 0) dX12_signs_226 rfl rfl) ?_
  refine Seg.step (pc' := 228) (I_iload_n (i := 1) dX12_signs_227 rfl rfl) ?_
  refine S_callV1 (md' := m_X12_waitsFor) (fun y => none) (fun y => (sh, ex, R, y)) (hE _ _ sk_12) ⟨by decide, rfl⟩ mm_X12_waitsFor wm_12_334 ⟨rfl, rfl, by decide, by decide, by decide, by decide⟩ (Nat.le_of_ble_eq_true rfl) dX12_signs_228 (fun y hy => c_X12_waitsFor hE hL y hy) (fun x42 => ?_)
  refine Seg.step (pc' := 232) (I_aload_n (i := 0) dX12_signs_231 rfl rfl) ?_
  refine Seg.step (pc' := 233) (I_iconst dX12_signs_232 ⟨by decide, by decide⟩) ?_
  refine Seg.step (pc' := 236) (I_putZ cls12 (by decide) wf_12_351 (hE _ _ sk_12) rfl rfl (by decide) dX12_signs_233) ?_
  refine S_bM fun M43 => ?_
  refine Seg.step (pc' := 237) (I_aload_n (i := 0) dX12_signs_236 rfl rfl) ?_
  refine Seg.step (pc' := 238) (I_iload_n (i := 1) dX12_signs_237 rfl rfl) ?_
  refine S_callS1 (md' := m_X12_rank) (fun y => some (iV y)) (fun y => (sh, ex, R, M43)) mm_X12_rank wm_12_319 ⟨rfl, rfl, by decide, by decide, by decide, by decide⟩ (Nat.le_of_ble_eq_true rfl) dX12_signs_238 (fun y hy => c_X12_rank hE hL y hy) (fun x44 => ?_)
  refine Seg.step (pc' := 242) (I_iconst dX12_signs_241 ⟨by decide, by decide⟩) ?_
  refine S_bind (Y := Int) (k' := 0) (n' := 0) 250 (fun y => [some (rV 88), none]) (fun y => [iV y, rV 88]) (fun y => (sh, ex, R, M43)) ?_ (fun x46 => ?_)
  · refine S_icmp_ge (tgt := 249) dX12_signs_242 (by decide) (fun h45 => ?_) (fun h45 => ?_)
    · refine Seg.step (pc' := 246) (I_iconst dX12_signs_245 ⟨by decide, by decide⟩) ?_
      refine Seg.step (pc' := 250) (I_goto (tgt := 250) dX12_signs_246 (by decide)) ?_
      exact S_arr (fun K hK => GG.forget (Lle.ye (Lle.no (Lle.nil))) hK)
    refine Seg.step (pc' := 250) (I_iconst dX12_signs_249 ⟨by decide, by decide⟩) ?_
    exact S_arr (fun K hK => GG.forget (Lle.ye (Lle.no (Lle.nil))) hK)
  refine S_gd fun h47 => ?_
  refine Seg.step (pc' := 253) (I_putZ cls12 (by decide) wf_12_338 (hE _ _ sk_12) rfl rfl h47 dX12_signs_250) ?_
  refine S_bM fun M48 => ?_
  refine Seg.step (pc' := 254) (I_aload_n (i := 0) dX12_signs_253 rfl rfl) ?_
  refine S_callV0 (md' := m_X12_token) (fun y => none) (fun y => (sh, ex, R, y)) (hE _ _ sk_12) ⟨by decide, rfl⟩ mm_X12_token wm_12_227 ⟨rfl, rfl, by decide, by decide, by decide, by decide⟩ (Nat.le_of_ble_eq_true rfl) dX12_signs_254 (fun y hy => c_X12_token hE hL y hy) (fun x49 => ?_)
  refine Seg.step (pc' := 258) (I_iconst dX12_signs_257 ⟨by decide, by decide⟩) ?_
  exact S_zret dX12_signs_258 rfl (by decide) (by decide) (by decide) (fun K hK => hK)
theorem dX12_sumRead_0 : decode cX12_sumRead 0 = .ok (.aload_n 0, 1) := by decide +kernel
theorem dX12_sumRead_1 : decode cX12_sumRead 1 = .ok (.iconst 0, 1) := by decide +kernel
theorem dX12_sumRead_2 : decode cX12_sumRead 2 = .ok (.putfield 316, 3) := by decide +kernel
theorem dX12_sumRead_5 : decode cX12_sumRead 5 = .ok (.aload_n 0, 1) := by decide +kernel
theorem dX12_sumRead_6 : decode cX12_sumRead 6 = .ok (.iconst 0, 1) := by decide +kernel
theorem dX12_sumRead_7 : decode cX12_sumRead 7 = .ok (.putfield 313, 3) := by decide +kernel
theorem dX12_sumRead_10 : decode cX12_sumRead 10 = .ok (.aload_n 0, 1) := by decide +kernel
theorem dX12_sumRead_11 : decode cX12_sumRead 11 = .ok (.iconst 0, 1) := by decide +kernel
theorem dX12_sumRead_12 : decode cX12_sumRead 12 = .ok (.putfield 331, 3) := by decide +kernel
theorem dX12_sumRead_15 : decode cX12_sumRead 15 = .ok (.aload_n 0, 1) := by decide +kernel
theorem dX12_sumRead_16 : decode cX12_sumRead 16 = .ok (.iconst 1, 1) := by decide +kernel
theorem dX12_sumRead_17 : decode cX12_sumRead 17 = .ok (.putfield 351, 3) := by decide +kernel
theorem dX12_sumRead_20 : decode cX12_sumRead 20 = .ok (.aload_n 0, 1) := by decide +kernel
theorem dX12_sumRead_21 : decode cX12_sumRead 21 = .ok (.iconst 1, 1) := by decide +kernel
theorem dX12_sumRead_22 : decode cX12_sumRead 22 = .ok (.putfield 338, 3) := by decide +kernel
theorem dX12_sumRead_25 : decode cX12_sumRead 25 = .ok (.aload_n 0, 1) := by decide +kernel
theorem dX12_sumRead_26 : decode cX12_sumRead 26 = .ok (.bipush 59, 2) := by decide +kernel
theorem dX12_sumRead_28 : decode cX12_sumRead 28 = .ok (.invokevirtual 230, 3) := by decide +kernel
theorem dX12_sumRead_31 : decode cX12_sumRead 31 = .ok (.ifCond .eq 17, 3) := by decide +kernel
theorem dX12_sumRead_34 : decode cX12_sumRead 34 = .ok (.aload_n 0, 1) := by decide +kernel
theorem dX12_sumRead_35 : decode cX12_sumRead 35 = .ok (.getfield 351, 3) := by decide +kernel
theorem dX12_sumRead_38 : decode cX12_sumRead 38 = .ok (.ifCond .ne 10, 3) := by decide +kernel
theorem dX12_sumRead_41 : decode cX12_sumRead 41 = .ok (.aload_n 0, 1) := by decide +kernel
theorem dX12_sumRead_42 : decode cX12_sumRead 42 = .ok (.getfield 331, 3) := by decide +kernel
theorem dX12_sumRead_45 : decode cX12_sumRead 45 = .ok (.ifCond .le 29, 3) := by decide +kernel
theorem dX12_sumRead_48 : decode cX12_sumRead 48 = .ok (.aload_n 0, 1) := by decide +kernel
theorem dX12_sumRead_49 : decode cX12_sumRead 49 = .ok (.getfield 351, 3) := by decide +kernel
theorem dX12_sumRead_52 : decode cX12_sumRead 52 = .ok (.ifCond .eq 13, 3) := by decide +kernel
theorem dX12_sumRead_55 : decode cX12_sumRead 55 = .ok (.aload_n 0, 1) := by decide +kernel
theorem dX12_sumRead_56 : decode cX12_sumRead 56 = .ok (.invokevirtual 357, 3) := by decide +kernel
theorem dX12_sumRead_59 : decode cX12_sumRead 59 = .ok (.ifCond .eq 13, 3) := by decide +kernel
theorem dX12_sumRead_62 : decode cX12_sumRead 62 = .ok (.goto (-37), 3) := by decide +kernel
theorem dX12_sumRead_65 : decode cX12_sumRead 65 = .ok (.aload_n 0, 1) := by decide +kernel
theorem dX12_sumRead_66 : decode cX12_sumRead 66 = .ok (.invokevirtual 360, 3) := by decide +kernel
theorem dX12_sumRead_69 : decode cX12_sumRead 69 = .ok (.ifCond .ne (-44), 3) := by decide +kernel
theorem dX12_sumRead_72 : decode cX12_sumRead 72 = .ok (.iconst 0, 1) := by decide +kernel
theorem dX12_sumRead_73 : decode cX12_sumRead 73 = .ok (.ireturn, 1) := by decide +kernel
theorem dX12_sumRead_74 : decode cX12_sumRead 74 = .ok (.aload_n 0, 1) := by decide +kernel
theorem dX12_sumRead_75 : decode cX12_sumRead 75 = .ok (.iconst 1, 1) := by decide +kernel
theorem dX12_sumRead_76 : decode cX12_sumRead 76 = .ok (.invokevirtual 354, 3) := by decide +kernel
theorem dX12_sumRead_79 : decode cX12_sumRead 79 = .ok (.iconst 1, 1) := by decide +kernel
theorem dX12_sumRead_80 : decode cX12_sumRead 80 = .ok (.ireturn, 1) := by decide +kernel
def f_X12_sumRead (M : MM)  : Option (Int × MM) :=
bM (upM M 88 45 0) fun M1 =>
bM (upM M1 88 46 0) fun M2 =>
bM (upM M2 88 47 0) fun M3 =>
bM (upM M3 88 49 1) fun M4 =>
bM (upM M4 88 50 1) fun M5 =>
bS (lp (X := MM) (Y := (MM) ⊕ (Int × MM)) (fun x6 =>
(f_X12_isSign x6 59).bind fun x7 =>
if x7 = 0 then
(if (x6 88 49) = 0 then
((f_X12_signs x6).bind fun x10 =>
if x10.1 = 0 then
(some (Sum.inr (Sum.inr (0, x10.2))))
else
some (Sum.inl x10.2))
else
(f_X12_leafRead x6).bind fun x12 =>
if x12.1 = 0 then
(some (Sum.inr (Sum.inr (0, x12.2))))
else
some (Sum.inl x12.2))
else
if (x6 88 49) = 0 then
(if 0 < (x6 88 47) then
(if (x6 88 49) = 0 then
((f_X12_signs x6).bind fun x17 =>
if x17.1 = 0 then
(some (Sum.inr (Sum.inr (0, x17.2))))
else
some (Sum.inl x17.2))
else
(f_X12_leafRead x6).bind fun x19 =>
if x19.1 = 0 then
(some (Sum.inr (Sum.inr (0, x19.2))))
else
some (Sum.inl x19.2))
else
some (Sum.inr (Sum.inl x6)))
else
if (x6 88 49) = 0 then
((f_X12_signs x6).bind fun x22 =>
if x22.1 = 0 then
(some (Sum.inr (Sum.inr (0, x22.2))))
else
some (Sum.inl x22.2))
else
(f_X12_leafRead x6).bind fun x24 =>
if x24.1 = 0 then
(some (Sum.inr (Sum.inr (0, x24.2))))
else
some (Sum.inl x24.2)) FU M5) (fun x26 =>
(f_X12_bind x26 1).bind fun x27 =>
some (1, x27)) (fun r => r)
set_option maxRecDepth 4000 in
theorem c_X12_sumRead {E : EE} {sh : List (Nat × Nat)} {ex : Bool} {R : RM} {M : MM}  (hE : Ext sh) (hL : Links R) : ∀ y, f_X12_sumRead M = some y → MetC E m_X12_sumRead 0 0 [rV 88] (sh, ex, R, M) (fun r w' => r = some (iV y.1) ∧ w' = (sh, ex, R, y.2)) := by
  intro y hy
  refine MetC.seg (o := f_X12_sumRead M) (t := (fun K y => K (some (iV y.1)) (sh, ex, R, y.2))) (L := [some (rV 88)]) (by decide) rfl (Nat.le_of_ble_eq_true rfl) ?_ hy ⟨rfl, rfl⟩
  unfold f_X12_sumRead
  refine Seg.step (pc' := 1) (I_aload_n (i := 0) dX12_sumRead_0 rfl rfl) ?_
  refine Seg.step (pc' := 2) (I_iconst dX12_sumRead_1 ⟨by decide, by decide⟩) ?_
  refine Seg.step (pc' := 5) (I_putI cls12 (by decide) wf_12_316 (hE _ _ sk_12) rfl rfl dX12_sumRead_2) ?_
  refine S_bM fun M1 => ?_
  refine Seg.step (pc' := 6) (I_aload_n (i := 0) dX12_sumRead_5 rfl rfl) ?_
  refine Seg.step (pc' := 7) (I_iconst dX12_sumRead_6 ⟨by decide, by decide⟩) ?_
  refine Seg.step (pc' := 10) (I_putI cls12 (by decide) wf_12_313 (hE _ _ sk_12) rfl rfl dX12_sumRead_7) ?_
  refine S_bM fun M2 => ?_
  refine Seg.step (pc' := 11) (I_aload_n (i := 0) dX12_sumRead_10 rfl rfl) ?_
  refine Seg.step (pc' := 12) (I_iconst dX12_sumRead_11 ⟨by decide, by decide⟩) ?_
  refine Seg.step (pc' := 15) (I_putI cls12 (by decide) wf_12_331 (hE _ _ sk_12) rfl rfl dX12_sumRead_12) ?_
  refine S_bM fun M3 => ?_
  refine Seg.step (pc' := 16) (I_aload_n (i := 0) dX12_sumRead_15 rfl rfl) ?_
  refine Seg.step (pc' := 17) (I_iconst dX12_sumRead_16 ⟨by decide, by decide⟩) ?_
  refine Seg.step (pc' := 20) (I_putZ cls12 (by decide) wf_12_351 (hE _ _ sk_12) rfl rfl (by decide) dX12_sumRead_17) ?_
  refine S_bM fun M4 => ?_
  refine Seg.step (pc' := 21) (I_aload_n (i := 0) dX12_sumRead_20 rfl rfl) ?_
  refine Seg.step (pc' := 22) (I_iconst dX12_sumRead_21 ⟨by decide, by decide⟩) ?_
  refine Seg.step (pc' := 25) (I_putZ cls12 (by decide) wf_12_338 (hE _ _ sk_12) rfl rfl (by decide) dX12_sumRead_22) ?_
  refine S_bM fun M5 => ?_
  refine Seg.forget (Lle.ye (Lle.nil)) ?_
  refine S_bind2 (Y := MM) (k' := 0) (n' := 0) 74 (fun y => [some (rV 88)]) (fun y => []) (fun y => (sh, ex, R, y)) (S_loop (Y := MM) (fun y => [some (rV 88)]) (fun y => []) (fun y => (sh, ex, R, y)) (fun x6 => ?_) FU M5) (fun x26 => ?_)
  · refine Seg.step (pc' := 26) (I_aload_n (i := 0) dX12_sumRead_25 rfl rfl) ?_
    refine Seg.step (pc' := 28) (I_bipush dX12_sumRead_26 (by decide) ⟨by decide, by decide⟩) ?_
    refine S_callV1 (md' := m_X12_isSign) (fun y => some (iV y)) (fun y => (sh, ex, R, x6)) (hE _ _ sk_12) ⟨by decide, rfl⟩ mm_X12_isSign wm_12_230 ⟨rfl, rfl, by decide, by decide, by decide, by decide⟩ (Nat.le_of_ble_eq_true rfl) dX12_sumRead_28 (fun y hy => c_X12_isSign hE hL y hy) (fun x7 => ?_)
    refine S_if_eq (tgt := 48) dX12_sumRead_31 (by decide) (fun h8 => ?_) (fun h8 => ?_)
    · refine Seg.step (pc' := 49) (I_aload_n (i := 0) dX12_sumRead_48 rfl rfl) ?_
      refine Seg.step (pc' := 52) (I_getZ cls12 (by decide) wf_12_351 (hE _ _ sk_12) rfl dX12_sumRead_49) ?_
      refine S_if_eq (tgt := 65) dX12_sumRead_52 (by decide) (fun h9 => ?_) (fun h9 => ?_)
      · refine Seg.step (pc' := 66) (I_aload_n (i := 0) dX12_sumRead_65 rfl rfl) ?_
        refine S_callV0 (md' := m_X12_signs) (fun y => some (iV y.1)) (fun y => (sh, ex, R, y.2)) (hE _ _ sk_12) ⟨by decide, rfl⟩ mm_X12_signs wm_12_360 ⟨rfl, rfl, by decide, by decide, by decide, by decide⟩ (Nat.le_of_ble_eq_true rfl) dX12_sumRead_66 (fun y hy => c_X12_signs hE hL y hy) (fun x10 => ?_)
        refine S_if_ne (tgt := 25) dX12_sumRead_69 (by decide) (fun h11 => ?_) (fun h11 => ?_)
        · refine Seg.step (pc' := 73) (I_iconst dX12_sumRead_72 ⟨by decide, by decide⟩) ?_
          exact S_zret dX12_sumRead_73 rfl (by decide) (by decide) (by decide) (fun K hK => hK)
        exact S_arr (fun K hK => GG.forget (Lle.ye (Lle.nil)) hK)
      refine Seg.step (pc' := 56) (I_aload_n (i := 0) dX12_sumRead_55 rfl rfl) ?_
      refine S_callV0 (md' := m_X12_leafRead) (fun y => some (iV y.1)) (fun y => (sh, ex, R, y.2)) (hE _ _ sk_12) ⟨by decide, rfl⟩ mm_X12_leafRead wm_12_357 ⟨rfl, rfl, by decide, by decide, by decide, by decide⟩ (Nat.le_of_ble_eq_true rfl) dX12_sumRead_56 (fun y hy => c_X12_leafRead hE hL y hy) (fun x12 => ?_)
      refine S_if_eq (tgt := 72) dX12_sumRead_59 (by decide) (fun h13 => ?_) (fun h13 => ?_)
      · refine Seg.step (pc' := 73) (I_iconst dX12_sumRead_72 ⟨by decide, by decide⟩) ?_
        exact S_zret dX12_sumRead_73 rfl (by decide) (by decide) (by decide) (fun K hK => hK)
      refine Seg.step (pc' := 25) (I_goto (tgt := 25) dX12_sumRead_62 (by decide)) ?_
      exact S_arr (fun K hK => GG.forget (Lle.ye (Lle.nil)) hK)
    refine Seg.step (pc' := 35) (I_aload_n (i := 0) dX12_sumRead_34 rfl rfl) ?_
    refine Seg.step (pc' := 38) (I_getZ cls12 (by decide) wf_12_351 (hE _ _ sk_12) rfl dX12_sumRead_35) ?_
    refine S_if_ne (tgt := 48) dX12_sumRead_38 (by decide) (fun h14 => ?_) (fun h14 => ?_)
    · refine Seg.step (pc' := 42) (I_aload_n (i := 0) dX12_sumRead_41 rfl rfl) ?_
      refine Seg.step (pc' := 45) (I_getI cls12 (by decide) wf_12_331 (hE _ _ sk_12) rfl dX12_sumRead_42) ?_
      refine S_if_le (tgt := 74) dX12_sumRead_45 (by decide) (fun h15 => ?_) (fun h15 => ?_)
      · refine Seg.step (pc' := 49) (I_aload_n (i := 0) dX12_sumRead_48 rfl rfl) ?_
        refine Seg.step (pc' := 52) (I_getZ cls12 (by decide) wf_12_351 (hE _ _ sk_12) rfl dX12_sumRead_49) ?_
        refine S_if_eq (tgt := 65) dX12_sumRead_52 (by decide) (fun h16 => ?_) (fun h16 => ?_)
        · refine Seg.step (pc' := 66) (I_aload_n (i := 0) dX12_sumRead_65 rfl rfl) ?_
          refine S_callV0 (md' := m_X12_signs) (fun y => some (iV y.1)) (fun y => (sh, ex, R, y.2)) (hE _ _ sk_12) ⟨by decide, rfl⟩ mm_X12_signs wm_12_360 ⟨rfl, rfl, by decide, by decide, by decide, by decide⟩ (Nat.le_of_ble_eq_true rfl) dX12_sumRead_66 (fun y hy => c_X12_signs hE hL y hy) (fun x17 => ?_)
          refine S_if_ne (tgt := 25) dX12_sumRead_69 (by decide) (fun h18 => ?_) (fun h18 => ?_)
          · refine Seg.step (pc' := 73) (I_iconst dX12_sumRead_72 ⟨by decide, by decide⟩) ?_
            exact S_zret dX12_sumRead_73 rfl (by decide) (by decide) (by decide) (fun K hK => hK)
          exact S_arr (fun K hK => GG.forget (Lle.ye (Lle.nil)) hK)
        refine Seg.step (pc' := 56) (I_aload_n (i := 0) dX12_sumRead_55 rfl rfl) ?_
        refine S_callV0 (md' := m_X12_leafRead) (fun y => some (iV y.1)) (fun y => (sh, ex, R, y.2)) (hE _ _ sk_12) ⟨by decide, rfl⟩ mm_X12_leafRead wm_12_357 ⟨rfl, rfl, by decide, by decide, by decide, by decide⟩ (Nat.le_of_ble_eq_true rfl) dX12_sumRead_56 (fun y hy => c_X12_leafRead hE hL y hy) (fun x19 => ?_)
        refine S_if_eq (tgt := 72) dX12_sumRead_59 (by decide) (fun h20 => ?_) (fun h20 => ?_)
        · refine Seg.step (pc' := 73) (I_iconst dX12_sumRead_72 ⟨by decide, by decide⟩) ?_
          exact S_zret dX12_sumRead_73 rfl (by decide) (by decide) (by decide) (fun K hK => hK)
        refine Seg.step (pc' := 25) (I_goto (tgt := 25) dX12_sumRead_62 (by decide)) ?_
        exact S_arr (fun K hK => GG.forget (Lle.ye (Lle.nil)) hK)
      exact S_arr (fun K hK => GG.forget (Lle.ye (Lle.nil)) hK)
    refine Seg.step (pc' := 49) (I_aload_n (i := 0) dX12_sumRead_48 rfl rfl) ?_
    refine Seg.step (pc' := 52) (I_getZ cls12 (by decide) wf_12_351 (hE _ _ sk_12) rfl dX12_sumRead_49) ?_
    refine S_if_eq (tgt := 65) dX12_sumRead_52 (by decide) (fun h21 => ?_) (fun h21 => ?_)
    · refine Seg.step (pc' := 66) (I_aload_n (i := 0) dX12_sumRead_65 rfl rfl) ?_
      refine S_callV0 (md' := m_X12_signs) (fun y => some (iV y.1)) (fun y => (sh, ex, R, y.2)) (hE _ _ sk_12) ⟨by decide, rfl⟩ mm_X12_signs wm_12_360 ⟨rfl, rfl, by decide, by decide, by decide, by decide⟩ (Nat.le_of_ble_eq_true rfl) dX12_sumRead_66 (fun y hy => c_X12_signs hE hL y hy) (fun x22 => ?_)
      refine S_if_ne (tgt := 25) dX12_sumRead_69 (by decide) (fun h23 => ?_) (fun h23 => ?_)
      · refine Seg.step (pc' := 73) (I_iconst dX12_sumRead_72 ⟨by decide, by decide⟩) ?_
        exact S_zret dX12_sumRead_73 rfl (by decide) (by decide) (by decide) (fun K hK => hK)
      exact S_arr (fun K hK => GG.forget (Lle.ye (Lle.nil)) hK)
    refine Seg.step (pc' := 56) (I_aload_n (i := 0) dX12_sumRead_55 rfl rfl) ?_
    refine S_callV0 (md' := m_X12_leafRead) (fun y => some (iV y.1)) (fun y => (sh, ex, R, y.2)) (hE _ _ sk_12) ⟨by decide, rfl⟩ mm_X12_leafRead wm_12_357 ⟨rfl, rfl, by decide, by decide, by decide, by decide⟩ (Nat.le_of_ble_eq_true rfl) dX12_sumRead_56 (fun y hy => c_X12_leafRead hE hL y hy) (fun x24 => ?_)
    refine S_if_eq (tgt := 72) dX12_sumRead_59 (by decide) (fun h25 => ?_) (fun h25 => ?_)
    · refine Seg.step (pc' := 73) (I_iconst dX12_sumRead_72 ⟨by decide, by decide⟩) ?_
      exact S_zret dX12_sumRead_73 rfl (by decide) (by decide) (by decide) (fun K hK => hK)
    refine Seg.step (pc' := 25) (I_goto (tgt := 25) dX12_sumRead_62 (by decide)) ?_
    exact S_arr (fun K hK => GG.forget (Lle.ye (Lle.nil)) hK)
  refine Seg.step (pc' := 75) (I_aload_n (i := 0) dX12_sumRead_74 rfl rfl) ?_
  refine Seg.step (pc' := 76) (I_iconst dX12_sumRead_75 ⟨by decide, by decide⟩) ?_
  refine S_callV1 (md' := m_X12_bind) (fun y => none) (fun y => (sh, ex, R, y)) (hE _ _ sk_12) ⟨by decide, rfl⟩ mm_X12_bind wm_12_354 ⟨rfl, rfl, by decide, by decide, by decide, by decide⟩ (Nat.le_of_ble_eq_true rfl) dX12_sumRead_76 (fun y hy => c_X12_bind hE hL y hy) (fun x27 => ?_)
  refine Seg.step (pc' := 80) (I_iconst dX12_sumRead_79 ⟨by decide, by decide⟩) ?_
  exact S_zret dX12_sumRead_80 rfl (by decide) (by decide) (by decide) (fun K hK => hK)
theorem dX12_lineRead_0 : decode cX12_lineRead 0 = .ok (.aload_n 0, 1) := by decide +kernel
theorem dX12_lineRead_1 : decode cX12_lineRead 1 = .ok (.getfield 193, 3) := by decide +kernel
theorem dX12_lineRead_4 : decode cX12_lineRead 4 = .ok (.iconst 1, 1) := by decide +kernel
theorem dX12_lineRead_5 : decode cX12_lineRead 5 = .ok (.if_icmp .ne 12, 3) := by decide +kernel
theorem dX12_lineRead_8 : decode cX12_lineRead 8 = .ok (.aload_n 0, 1) := by decide +kernel
theorem dX12_lineRead_9 : decode cX12_lineRead 9 = .ok (.getfield 204, 3) := by decide +kernel
theorem dX12_lineRead_12 : decode cX12_lineRead 12 = .ok (.bipush 6, 2) := by decide +kernel
theorem dX12_lineRead_14 : decode cX12_lineRead 14 = .ok (.if_icmp .le 9, 3) := by decide +kernel
theorem dX12_lineRead_17 : decode cX12_lineRead 17 = .ok (.aload_n 0, 1) := by decide +kernel
theorem dX12_lineRead_18 : decode cX12_lineRead 18 = .ok (.iconst 1, 1) := by decide +kernel
theorem dX12_lineRead_19 : decode cX12_lineRead 19 = .ok (.invokevirtual 217, 3) := by decide +kernel
theorem dX12_lineRead_22 : decode cX12_lineRead 22 = .ok (.ireturn, 1) := by decide +kernel
theorem dX12_lineRead_23 : decode cX12_lineRead 23 = .ok (.aload_n 0, 1) := by decide +kernel
theorem dX12_lineRead_24 : decode cX12_lineRead 24 = .ok (.getfield 204, 3) := by decide +kernel
theorem dX12_lineRead_27 : decode cX12_lineRead 27 = .ok (.tableswitch 85 0 5 #[37, 45, 53, 61, 69, 77], 37) := by decide +kernel
theorem dX12_lineRead_64 : decode cX12_lineRead 64 = .ok (.aload_n 0, 1) := by decide +kernel
theorem dX12_lineRead_65 : decode cX12_lineRead 65 = .ok (.invokevirtual 289, 3) := by decide +kernel
theorem dX12_lineRead_68 : decode cX12_lineRead 68 = .ok (.istore_n 1, 1) := by decide +kernel
theorem dX12_lineRead_69 : decode cX12_lineRead 69 = .ok (.goto 140, 3) := by decide +kernel
theorem dX12_lineRead_72 : decode cX12_lineRead 72 = .ok (.aload_n 0, 1) := by decide +kernel
theorem dX12_lineRead_73 : decode cX12_lineRead 73 = .ok (.invokevirtual 292, 3) := by decide +kernel
theorem dX12_lineRead_76 : decode cX12_lineRead 76 = .ok (.istore_n 1, 1) := by decide +kernel
theorem dX12_lineRead_77 : decode cX12_lineRead 77 = .ok (.goto 132, 3) := by decide +kernel
theorem dX12_lineRead_80 : decode cX12_lineRead 80 = .ok (.aload_n 0, 1) := by decide +kernel
theorem dX12_lineRead_81 : decode cX12_lineRead 81 = .ok (.invokevirtual 295, 3) := by decide +kernel
theorem dX12_lineRead_84 : decode cX12_lineRead 84 = .ok (.istore_n 1, 1) := by decide +kernel
theorem dX12_lineRead_85 : decode cX12_lineRead 85 = .ok (.goto 124, 3) := by decide +kernel
theorem dX12_lineRead_88 : decode cX12_lineRead 88 = .ok (.aload_n 0, 1) := by decide +kernel
theorem dX12_lineRead_89 : decode cX12_lineRead 89 = .ok (.invokevirtual 298, 3) := by decide +kernel
theorem dX12_lineRead_92 : decode cX12_lineRead 92 = .ok (.istore_n 1, 1) := by decide +kernel
theorem dX12_lineRead_93 : decode cX12_lineRead 93 = .ok (.goto 116, 3) := by decide +kernel
theorem dX12_lineRead_96 : decode cX12_lineRead 96 = .ok (.aload_n 0, 1) := by decide +kernel
theorem dX12_lineRead_97 : decode cX12_lineRead 97 = .ok (.invokevirtual 301, 3) := by decide +kernel
theorem dX12_lineRead_100 : decode cX12_lineRead 100 = .ok (.istore_n 1, 1) := by decide +kernel
theorem dX12_lineRead_101 : decode cX12_lineRead 101 = .ok (.goto 108, 3) := by decide +kernel
theorem dX12_lineRead_104 : decode cX12_lineRead 104 = .ok (.aload_n 0, 1) := by decide +kernel
theorem dX12_lineRead_105 : decode cX12_lineRead 105 = .ok (.invokevirtual 304, 3) := by decide +kernel
theorem dX12_lineRead_108 : decode cX12_lineRead 108 = .ok (.istore_n 1, 1) := by decide +kernel
theorem dX12_lineRead_109 : decode cX12_lineRead 109 = .ok (.goto 100, 3) := by decide +kernel
theorem dX12_lineRead_112 : decode cX12_lineRead 112 = .ok (.aload_n 0, 1) := by decide +kernel
theorem dX12_lineRead_113 : decode cX12_lineRead 113 = .ok (.invokevirtual 227, 3) := by decide +kernel
theorem dX12_lineRead_116 : decode cX12_lineRead 116 = .ok (.aload_n 0, 1) := by decide +kernel
theorem dX12_lineRead_117 : decode cX12_lineRead 117 = .ok (.getfield 193, 3) := by decide +kernel
theorem dX12_lineRead_120 : decode cX12_lineRead 120 = .ok (.iconst 1, 1) := by decide +kernel
theorem dX12_lineRead_121 : decode cX12_lineRead 121 = .ok (.if_icmp .ne 21, 3) := by decide +kernel
theorem dX12_lineRead_124 : decode cX12_lineRead 124 = .ok (.aload_n 0, 1) := by decide +kernel
theorem dX12_lineRead_125 : decode cX12_lineRead 125 = .ok (.getfield 204, 3) := by decide +kernel
theorem dX12_lineRead_128 : decode cX12_lineRead 128 = .ok (.bipush 7, 2) := by decide +kernel
theorem dX12_lineRead_130 : decode cX12_lineRead 130 = .ok (.if_icmp .lt 12, 3) := by decide +kernel
theorem dX12_lineRead_133 : decode cX12_lineRead 133 = .ok (.aload_n 0, 1) := by decide +kernel
theorem dX12_lineRead_134 : decode cX12_lineRead 134 = .ok (.getfield 204, 3) := by decide +kernel
theorem dX12_lineRead_137 : decode cX12_lineRead 137 = .ok (.bipush 9, 2) := by decide +kernel
theorem dX12_lineRead_139 : decode cX12_lineRead 139 = .ok (.if_icmp .le 9, 3) := by decide +kernel
theorem dX12_lineRead_142 : decode cX12_lineRead 142 = .ok (.aload_n 0, 1) := by decide +kernel
theorem dX12_lineRead_143 : decode cX12_lineRead 143 = .ok (.iconst 1, 1) := by decide +kernel
theorem dX12_lineRead_144 : decode cX12_lineRead 144 = .ok (.invokevirtual 217, 3) := by decide +kernel
theorem dX12_lineRead_147 : decode cX12_lineRead 147 = .ok (.ireturn, 1) := by decide +kernel
theorem dX12_lineRead_148 : decode cX12_lineRead 148 = .ok (.iconst 3, 1) := by decide +kernel
theorem dX12_lineRead_149 : decode cX12_lineRead 149 = .ok (.aload_n 0, 1) := by decide +kernel
theorem dX12_lineRead_150 : decode cX12_lineRead 150 = .ok (.getfield 204, 3) := by decide +kernel
theorem dX12_lineRead_153 : decode cX12_lineRead 153 = .ok (.iadd, 1) := by decide +kernel
theorem dX12_lineRead_154 : decode cX12_lineRead 154 = .ok (.bipush 7, 2) := by decide +kernel
theorem dX12_lineRead_156 : decode cX12_lineRead 156 = .ok (.isub, 1) := by decide +kernel
theorem dX12_lineRead_157 : decode cX12_lineRead 157 = .ok (.istore_n 2, 1) := by decide +kernel
theorem dX12_lineRead_158 : decode cX12_lineRead 158 = .ok (.aload_n 0, 1) := by decide +kernel
theorem dX12_lineRead_159 : decode cX12_lineRead 159 = .ok (.getfield 66, 3) := by decide +kernel
theorem dX12_lineRead_162 : decode cX12_lineRead 162 = .ok (.iload_n 2, 1) := by decide +kernel
theorem dX12_lineRead_163 : decode cX12_lineRead 163 = .ok (.baload, 1) := by decide +kernel
theorem dX12_lineRead_164 : decode cX12_lineRead 164 = .ok (.ifCond .eq 9, 3) := by decide +kernel
theorem dX12_lineRead_167 : decode cX12_lineRead 167 = .ok (.aload_n 0, 1) := by decide +kernel
theorem dX12_lineRead_168 : decode cX12_lineRead 168 = .ok (.iconst 3, 1) := by decide +kernel
theorem dX12_lineRead_169 : decode cX12_lineRead 169 = .ok (.invokevirtual 217, 3) := by decide +kernel
theorem dX12_lineRead_172 : decode cX12_lineRead 172 = .ok (.ireturn, 1) := by decide +kernel
theorem dX12_lineRead_173 : decode cX12_lineRead 173 = .ok (.aload_n 0, 1) := by decide +kernel
theorem dX12_lineRead_174 : decode cX12_lineRead 174 = .ok (.getfield 66, 3) := by decide +kernel
theorem dX12_lineRead_177 : decode cX12_lineRead 177 = .ok (.iload_n 2, 1) := by decide +kernel
theorem dX12_lineRead_178 : decode cX12_lineRead 178 = .ok (.iconst 1, 1) := by decide +kernel
theorem dX12_lineRead_179 : decode cX12_lineRead 179 = .ok (.bastore, 1) := by decide +kernel
theorem dX12_lineRead_180 : decode cX12_lineRead 180 = .ok (.aload_n 0, 1) := by decide +kernel
theorem dX12_lineRead_181 : decode cX12_lineRead 181 = .ok (.invokevirtual 227, 3) := by decide +kernel
theorem dX12_lineRead_184 : decode cX12_lineRead 184 = .ok (.aload_n 0, 1) := by decide +kernel
theorem dX12_lineRead_185 : decode cX12_lineRead 185 = .ok (.getfield 69, 3) := by decide +kernel
theorem dX12_lineRead_188 : decode cX12_lineRead 188 = .ok (.iload_n 2, 1) := by decide +kernel
theorem dX12_lineRead_189 : decode cX12_lineRead 189 = .ok (.aload_n 0, 1) := by decide +kernel
theorem dX12_lineRead_190 : decode cX12_lineRead 190 = .ok (.getfield 249, 3) := by decide +kernel
theorem dX12_lineRead_193 : decode cX12_lineRead 193 = .ok (.iastore, 1) := by decide +kernel
theorem dX12_lineRead_194 : decode cX12_lineRead 194 = .ok (.aload_n 0, 1) := by decide +kernel
theorem dX12_lineRead_195 : decode cX12_lineRead 195 = .ok (.invokevirtual 307, 3) := by decide +kernel
theorem dX12_lineRead_198 : decode cX12_lineRead 198 = .ok (.istore_n 1, 1) := by decide +kernel
theorem dX12_lineRead_199 : decode cX12_lineRead 199 = .ok (.aload_n 0, 1) := by decide +kernel
theorem dX12_lineRead_200 : decode cX12_lineRead 200 = .ok (.getfield 72, 3) := by decide +kernel
theorem dX12_lineRead_203 : decode cX12_lineRead 203 = .ok (.iload_n 2, 1) := by decide +kernel
theorem dX12_lineRead_204 : decode cX12_lineRead 204 = .ok (.aload_n 0, 1) := by decide +kernel
theorem dX12_lineRead_205 : decode cX12_lineRead 205 = .ok (.getfield 249, 3) := by decide +kernel
theorem dX12_lineRead_208 : decode cX12_lineRead 208 = .ok (.iastore, 1) := by decide +kernel
theorem dX12_lineRead_209 : decode cX12_lineRead 209 = .ok (.iload_n 1, 1) := by decide +kernel
theorem dX12_lineRead_210 : decode cX12_lineRead 210 = .ok (.ifCond .ne 5, 3) := by decide +kernel
theorem dX12_lineRead_213 : decode cX12_lineRead 213 = .ok (.iconst 0, 1) := by decide +kernel
theorem dX12_lineRead_214 : decode cX12_lineRead 214 = .ok (.ireturn, 1) := by decide +kernel
theorem dX12_lineRead_215 : decode cX12_lineRead 215 = .ok (.aload_n 0, 1) := by decide +kernel
theorem dX12_lineRead_216 : decode cX12_lineRead 216 = .ok (.bipush 59, 2) := by decide +kernel
theorem dX12_lineRead_218 : decode cX12_lineRead 218 = .ok (.invokevirtual 230, 3) := by decide +kernel
theorem dX12_lineRead_221 : decode cX12_lineRead 221 = .ok (.ifCond .ne 9, 3) := by decide +kernel
theorem dX12_lineRead_224 : decode cX12_lineRead 224 = .ok (.aload_n 0, 1) := by decide +kernel
theorem dX12_lineRead_225 : decode cX12_lineRead 225 = .ok (.iconst 1, 1) := by decide +kernel
theorem dX12_lineRead_226 : decode cX12_lineRead 226 = .ok (.invokevirtual 217, 3) := by decide +kernel
theorem dX12_lineRead_229 : decode cX12_lineRead 229 = .ok (.ireturn, 1) := by decide +kernel
theorem dX12_lineRead_230 : decode cX12_lineRead 230 = .ok (.aload_n 0, 1) := by decide +kernel
theorem dX12_lineRead_231 : decode cX12_lineRead 231 = .ok (.invokevirtual 227, 3) := by decide +kernel
theorem dX12_lineRead_234 : decode cX12_lineRead 234 = .ok (.iconst 1, 1) := by decide +kernel
theorem dX12_lineRead_235 : decode cX12_lineRead 235 = .ok (.ireturn, 1) := by decide +kernel
def f_X12_lineRead (M : MM)  : Option (Int × MM) :=
bS ((if (M 88 8) = 1 then
(if 6 < (M 88 9) then
(some (Sum.inl ()))
else
bS ((if (M 88 9) = 0 then
((f_X12_roomLine M).bind fun x4 =>
some (Sum.inl (x4.1, x4.2)))
else
if (M 88 9) = 1 then
((f_X12_personLine M).bind fun x6 =>
some (Sum.inl (x6.1, x6.2)))
else
if (M 88 9) = 2 then
((f_X12_sunLine M).bind fun x8 =>
some (Sum.inl (x8.1, x8.2)))
else
if (M 88 9) = 3 then
((f_X12_outLine M).bind fun x10 =>
some (Sum.inl (x10.1, x10.2)))
else
if (M 88 9) = 4 then
((f_X12_knobLine M).bind fun x12 =>
some (Sum.inl (x12.1, x12.2)))
else
if (M 88 9) = 5 then
((f_X12_priceLine M).bind fun x14 =>
some (Sum.inl (x14.1, x14.2)))
else
(f_X12_token M).bind fun x15 =>
if (x15 88 8) = 1 then
(if (x15 88 9) < 7 then
((f_X12_wrong x15 1).bind fun x18 =>
gd (x18.1 = 0 ∨ x18.1 = 1) <|
some (Sum.inr (x18.1, x18.2)))
else
if 9 < (x15 88 9) then
((f_X12_wrong x15 1).bind fun x21 =>
gd (x21.1 = 0 ∨ x21.1 = 1) <|
some (Sum.inr (x21.1, x21.2)))
else
bI (w32 ((w32 (3 + (x15 88 9))) - 7)) fun x23 =>
gd (0 ≤ x23 ∧ x23 < (6 : Int)) <|
if (x15 106 (x23).toNat) = 0 then
(gd (0 ≤ x23 ∧ x23 < (6 : Int)) <|
bM (upM x15 106 (x23).toNat 1) fun M27 =>
(f_X12_token M27).bind fun x28 =>
gd (0 ≤ x23 ∧ x23 < (6 : Int)) <|
bM (upM x28 107 (x23).toNat (x28 88 21)) fun M30 =>
(f_X12_sumRead M30).bind fun x31 =>
gd (0 ≤ x23 ∧ x23 < (6 : Int)) <|
bM (upM x31.2 108 (x23).toNat (x31.2 88 21)) fun M33 =>
some (Sum.inl (x31.1, M33)))
else
(f_X12_wrong x15 3).bind fun x34 =>
gd (x34.1 = 0 ∨ x34.1 = 1) <|
some (Sum.inr (x34.1, x34.2)))
else
(f_X12_wrong x15 1).bind fun x36 =>
gd (x36.1 = 0 ∨ x36.1 = 1) <|
some (Sum.inr (x36.1, x36.2))) : Option ((Int × MM) ⊕ (Int × MM))) (fun x38 =>
if x38.1 = 0 then
(some (Sum.inr (0, x38.2)))
else
(f_X12_isSign x38.2 59).bind fun x40 =>
if x40 = 0 then
((f_X12_wrong x38.2 1).bind fun x42 =>
gd (x42.1 = 0 ∨ x42.1 = 1) <|
some (Sum.inr (x42.1, x42.2)))
else
(f_X12_token x38.2).bind fun x44 =>
some (Sum.inr (1, x44))) (fun r => (Sum.inr r)))
else
some (Sum.inl ())) : Option ((Unit) ⊕ (Int × MM))) (fun x45 =>
(f_X12_wrong M 1).bind fun x46 =>
gd (x46.1 = 0 ∨ x46.1 = 1) <|
some (x46.1, x46.2)) (fun r => r)
set_option maxRecDepth 4000 in
theorem c_X12_lineRead {E : EE} {sh : List (Nat × Nat)} {ex : Bool} {R : RM} {M : MM}  (hE : Ext sh) (hL : Links R) : ∀ y, f_X12_lineRead M = some y → MetC E m_X12_lineRead 0 0 [rV 88] (sh, ex, R, M) (fun r w' => r = some (iV y.1) ∧ w' = (sh, ex, R, y.2)) := by
  intro y hy
  refine MetC.seg (o := f_X12_lineRead M) (t := (fun K y => K (some (iV y.1)) (sh, ex, R, y.2))) (L := [some (rV 88), none, none]) (by decide) rfl (Nat.le_of_ble_eq_true rfl) ?_ hy ⟨rfl, rfl⟩
  unfold f_X12_lineRead
  refine Seg.step (pc' := 1) (I_aload_n (i := 0) dX12_lineRead_0 rfl rfl) ?_
  refine Seg.step (pc' := 4) (I_getI cls12 (by decide) wf_12_193 (hE _ _ sk_12) rfl dX12_lineRead_1) ?_
  refine Seg.step (pc' := 5) (I_iconst dX12_lineRead_4 ⟨by decide, by decide⟩) ?_
  refine S_bind2 (Y := Unit) (k' := 0) (n' := 0) 17 (fun y => [some (rV 88), none, none]) (fun y => []) (fun y => (sh, ex, R, M)) ?_ (fun x45 => ?_)
  · refine S_icmp_ne (tgt := 17) dX12_lineRead_5 (by decide) (fun h1 => ?_) (fun h1 => ?_)
    · refine Seg.step (pc' := 9) (I_aload_n (i := 0) dX12_lineRead_8 rfl rfl) ?_
      refine Seg.step (pc' := 12) (I_getI cls12 (by decide) wf_12_204 (hE _ _ sk_12) rfl dX12_lineRead_9) ?_
      refine Seg.step (pc' := 14) (I_bipush dX12_lineRead_12 (by decide) ⟨by decide, by decide⟩) ?_
      refine S_icmp_le (tgt := 23) dX12_lineRead_14 (by decide) (fun h2 => ?_) (fun h2 => ?_)
      · exact S_arr (fun K hK => GG.forget (Lle.ye (Lle.no (Lle.no (Lle.nil)))) hK)
      refine Seg.step (pc' := 24) (I_aload_n (i := 0) dX12_lineRead_23 rfl rfl) ?_
      refine Seg.step (pc' := 27) (I_getI cls12 (by decide) wf_12_204 (hE _ _ sk_12) rfl dX12_lineRead_24) ?_
      refine S_bind2 (Y := Int × MM) (k' := 0) (n' := 0) 209 (fun y => [some (rV 88), some (iV y.1), none]) (fun y => []) (fun y => (sh, ex, R, y.2)) ?_ (fun x38 => ?_)
      · refine S_ite (fun h3 => ?_) (fun h3 => ?_)
        · refine Seg.step (I_tsw (v := 0) (off := 37) (tgt := 64) dX12_lineRead_27 h3 (by decide) rfl (by decide)) ?_
          refine Seg.step (pc' := 65) (I_aload_n (i := 0) dX12_lineRead_64 rfl rfl) ?_
          refine S_callV0 (md' := m_X12_roomLine) (fun y => some (iV y.1)) (fun y => (sh, ex, R, y.2)) (hE _ _ sk_12) ⟨by decide, rfl⟩ mm_X12_roomLine wm_12_289 ⟨rfl, rfl, by decide, by decide, by decide, by decide⟩ (Nat.le_of_ble_eq_true rfl) dX12_lineRead_65 (fun y hy => c_X12_roomLine hE hL y hy) (fun x4 => ?_)
          refine Seg.step (pc' := 69) (I_istore_n (i := 1) dX12_lineRead_68 rfl (by decide) rfl) ?_
          refine Seg.step (pc' := 209) (I_goto (tgt := 209) dX12_lineRead_69 (by decide)) ?_
          exact S_arr (fun K hK => GG.forget (Lle.ye (Lle.ye (Lle.no (Lle.nil)))) hK)
        refine S_ite (fun h5 => ?_) (fun h5 => ?_)
        · refine Seg.step (I_tsw (v := 1) (off := 45) (tgt := 72) dX12_lineRead_27 h5 (by decide) rfl (by decide)) ?_
          refine Seg.step (pc' := 73) (I_aload_n (i := 0) dX12_lineRead_72 rfl rfl) ?_
          refine S_callV0 (md' := m_X12_personLine) (fun y => some (iV y.1)) (fun y => (sh, ex, R, y.2)) (hE _ _ sk_12) ⟨by decide, rfl⟩ mm_X12_personLine wm_12_292 ⟨rfl, rfl, by decide, by decide, by decide, by decide⟩ (Nat.le_of_ble_eq_true rfl) dX12_lineRead_73 (fun y hy => c_X12_personLine hE hL y hy) (fun x6 => ?_)
          refine Seg.step (pc' := 77) (I_istore_n (i := 1) dX12_lineRead_76 rfl (by decide) rfl) ?_
          refine Seg.step (pc' := 209) (I_goto (tgt := 209) dX12_lineRead_77 (by decide)) ?_
          exact S_arr (fun K hK => GG.forget (Lle.ye (Lle.ye (Lle.no (Lle.nil)))) hK)
        refine S_ite (fun h7 => ?_) (fun h7 => ?_)
        · refine Seg.step (I_tsw (v := 2) (off := 53) (tgt := 80) dX12_lineRead_27 h7 (by decide) rfl (by decide)) ?_
          refine Seg.step (pc' := 81) (I_aload_n (i := 0) dX12_lineRead_80 rfl rfl) ?_
          refine S_callV0 (md' := m_X12_sunLine) (fun y => some (iV y.1)) (fun y => (sh, ex, R, y.2)) (hE _ _ sk_12) ⟨by decide, rfl⟩ mm_X12_sunLine wm_12_295 ⟨rfl, rfl, by decide, by decide, by decide, by decide⟩ (Nat.le_of_ble_eq_true rfl) dX12_lineRead_81 (fun y hy => c_X12_sunLine hE hL y hy) (fun x8 => ?_)
          refine Seg.step (pc' := 85) (I_istore_n (i := 1) dX12_lineRead_84 rfl (by decide) rfl) ?_
          refine Seg.step (pc' := 209) (I_goto (tgt := 209) dX12_lineRead_85 (by decide)) ?_
          exact S_arr (fun K hK => GG.forget (Lle.ye (Lle.ye (Lle.no (Lle.nil)))) hK)
        refine S_ite (fun h9 => ?_) (fun h9 => ?_)
        · refine Seg.step (I_tsw (v := 3) (off := 61) (tgt := 88) dX12_lineRead_27 h9 (by decide) rfl (by decide)) ?_
          refine Seg.step (pc' := 89) (I_aload_n (i := 0) dX12_lineRead_88 rfl rfl) ?_
          refine S_callV0 (md' := m_X12_outLine) (fun y => some (iV y.1)) (fun y => (sh, ex, R, y.2)) (hE _ _ sk_12) ⟨by decide, rfl⟩ mm_X12_outLine wm_12_298 ⟨rfl, rfl, by decide, by decide, by decide, by decide⟩ (Nat.le_of_ble_eq_true rfl) dX12_lineRead_89 (fun y hy => c_X12_outLine hE hL y hy) (fun x10 => ?_)
          refine Seg.step (pc' := 93) (I_istore_n (i := 1) dX12_lineRead_92 rfl (by decide) rfl) ?_
          refine Seg.step (pc' := 209) (I_goto (tgt := 209) dX12_lineRead_93 (by decide)) ?_
          exact S_arr (fun K hK => GG.forget (Lle.ye (Lle.ye (Lle.no (Lle.nil)))) hK)
        refine S_ite (fun h11 => ?_) (fun h11 => ?_)
        · refine Seg.step (I_tsw (v := 4) (off := 69) (tgt := 96) dX12_lineRead_27 h11 (by decide) rfl (by decide)) ?_
          refine Seg.step (pc' := 97) (I_aload_n (i := 0) dX12_lineRead_96 rfl rfl) ?_
          refine S_callV0 (md' := m_X12_knobLine) (fun y => some (iV y.1)) (fun y => (sh, ex, R, y.2)) (hE _ _ sk_12) ⟨by decide, rfl⟩ mm_X12_knobLine wm_12_301 ⟨rfl, rfl, by decide, by decide, by decide, by decide⟩ (Nat.le_of_ble_eq_true rfl) dX12_lineRead_97 (fun y hy => c_X12_knobLine hE hL y hy) (fun x12 => ?_)
          refine Seg.step (pc' := 101) (I_istore_n (i := 1) dX12_lineRead_100 rfl (by decide) rfl) ?_
          refine Seg.step (pc' := 209) (I_goto (tgt := 209) dX12_lineRead_101 (by decide)) ?_
          exact S_arr (fun K hK => GG.forget (Lle.ye (Lle.ye (Lle.no (Lle.nil)))) hK)
        refine S_ite (fun h13 => ?_) (fun h13 => ?_)
        · refine Seg.step (I_tsw (v := 5) (off := 77) (tgt := 104) dX12_lineRead_27 h13 (by decide) rfl (by decide)) ?_
          refine Seg.step (pc' := 105) (I_aload_n (i := 0) dX12_lineRead_104 rfl rfl) ?_
          refine S_callV0 (md' := m_X12_priceLine) (fun y => some (iV y.1)) (fun y => (sh, ex, R, y.2)) (hE _ _ sk_12) ⟨by decide, rfl⟩ mm_X12_priceLine wm_12_304 ⟨rfl, rfl, by decide, by decide, by decide, by decide⟩ (Nat.le_of_ble_eq_true rfl) dX12_lineRead_105 (fun y hy => c_X12_priceLine hE hL y hy) (fun x14 => ?_)
          refine Seg.step (pc' := 109) (I_istore_n (i := 1) dX12_lineRead_108 rfl (by decide) rfl) ?_
          refine Seg.step (pc' := 209) (I_goto (tgt := 209) dX12_lineRead_109 (by decide)) ?_
          exact S_arr (fun K hK => GG.forget (Lle.ye (Lle.ye (Lle.no (Lle.nil)))) hK)
        refine Seg.step (I_tswd (tgt := 112) dX12_lineRead_27 (by omega) (by decide)) ?_
        refine Seg.step (pc' := 113) (I_aload_n (i := 0) dX12_lineRead_112 rfl rfl) ?_
        refine S_callV0 (md' := m_X12_token) (fun y => none) (fun y => (sh, ex, R, y)) (hE _ _ sk_12) ⟨by decide, rfl⟩ mm_X12_token wm_12_227 ⟨rfl, rfl, by decide, by decide, by decide, by decide⟩ (Nat.le_of_ble_eq_true rfl) dX12_lineRead_113 (fun y hy => c_X12_token hE hL y hy) (fun x15 => ?_)
        refine Seg.step (pc' := 117) (I_aload_n (i := 0) dX12_lineRead_116 rfl rfl) ?_
        refine Seg.step (pc' := 120) (I_getI cls12 (by decide) wf_12_193 (hE _ _ sk_12) rfl dX12_lineRead_117) ?_
        refine Seg.step (pc' := 121) (I_iconst dX12_lineRead_120 ⟨by decide, by decide⟩) ?_
        refine S_icmp_ne (tgt := 142) dX12_lineRead_121 (by decide) (fun h16 => ?_) (fun h16 => ?_)
        · refine Seg.step (pc' := 125) (I_aload_n (i := 0) dX12_lineRead_124 rfl rfl) ?_
          refine Seg.step (pc' := 128) (I_getI cls12 (by decide) wf_12_204 (hE _ _ sk_12) rfl dX12_lineRead_125) ?_
          refine Seg.step (pc' := 130) (I_bipush dX12_lineRead_128 (by decide) ⟨by decide, by decide⟩) ?_
          refine S_icmp_lt (tgt := 142) dX12_lineRead_130 (by decide) (fun h17 => ?_) (fun h17 => ?_)
          · refine Seg.step (pc' := 143) (I_aload_n (i := 0) dX12_lineRead_142 rfl rfl) ?_
            refine Seg.step (pc' := 144) (I_iconst dX12_lineRead_143 ⟨by decide, by decide⟩) ?_
            refine S_callV1 (md' := m_X12_wrong) (fun y => some (iV y.1)) (fun y => (sh, ex, R, y.2)) (hE _ _ sk_12) ⟨by decide, rfl⟩ mm_X12_wrong wm_12_217 ⟨rfl, rfl, by decide, by decide, by decide, by decide⟩ (Nat.le_of_ble_eq_true rfl) dX12_lineRead_144 (fun y hy => c_X12_wrong hE hL y hy) (fun x18 => ?_)
            refine S_gd fun h19 => ?_
            exact S_zret dX12_lineRead_147 rfl h19 (by decide) (by decide) (fun K hK => hK)
          refine Seg.step (pc' := 134) (I_aload_n (i := 0) dX12_lineRead_133 rfl rfl) ?_
          refine Seg.step (pc' := 137) (I_getI cls12 (by decide) wf_12_204 (hE _ _ sk_12) rfl dX12_lineRead_134) ?_
          refine Seg.step (pc' := 139) (I_bipush dX12_lineRead_137 (by decide) ⟨by decide, by decide⟩) ?_
          refine S_icmp_le (tgt := 148) dX12_lineRead_139 (by decide) (fun h20 => ?_) (fun h20 => ?_)
          · refine Seg.step (pc' := 143) (I_aload_n (i := 0) dX12_lineRead_142 rfl rfl) ?_
            refine Seg.step (pc' := 144) (I_iconst dX12_lineRead_143 ⟨by decide, by decide⟩) ?_
            refine S_callV1 (md' := m_X12_wrong) (fun y => some (iV y.1)) (fun y => (sh, ex, R, y.2)) (hE _ _ sk_12) ⟨by decide, rfl⟩ mm_X12_wrong wm_12_217 ⟨rfl, rfl, by decide, by decide, by decide, by decide⟩ (Nat.le_of_ble_eq_true rfl) dX12_lineRead_144 (fun y hy => c_X12_wrong hE hL y hy) (fun x21 => ?_)
            refine S_gd fun h22 => ?_
            exact S_zret dX12_lineRead_147 rfl h22 (by decide) (by decide) (fun K hK => hK)
          refine Seg.step (pc' := 149) (I_iconst dX12_lineRead_148 ⟨by decide, by decide⟩) ?_
          refine Seg.step (pc' := 150) (I_aload_n (i := 0) dX12_lineRead_149 rfl rfl) ?_
          refine Seg.step (pc' := 153) (I_getI cls12 (by decide) wf_12_204 (hE _ _ sk_12) rfl dX12_lineRead_150) ?_
          refine Seg.step (pc' := 154) (I_iadd dX12_lineRead_153) ?_
          refine Seg.step (pc' := 156) (I_bipush dX12_lineRead_154 (by decide) ⟨by decide, by decide⟩) ?_
          refine Seg.step (pc' := 157) (I_isub dX12_lineRead_156) ?_
          refine S_bI fun x23 => ?_
          refine Seg.step (pc' := 158) (I_istore_n (i := 2) dX12_lineRead_157 rfl (by decide) rfl) ?_
          refine Seg.step (pc' := 159) (I_aload_n (i := 0) dX12_lineRead_158 rfl rfl) ?_
          refine Seg.step (pc' := 162) (I_getR cls12 (by decide) wf_12_66 (hE _ _ sk_12) rfl (lk_12_37 hL) dX12_lineRead_159) ?_
          refine Seg.step (pc' := 163) (I_iload_n (i := 2) dX12_lineRead_162 rfl rfl) ?_
          refine S_gd fun h24 => ?_
          refine Seg.step (pc' := 164) (I_zald (hE _ _ sk_12_37) h24 dX12_lineRead_163) ?_
          refine S_if_eq (tgt := 173) dX12_lineRead_164 (by decide) (fun h25 => ?_) (fun h25 => ?_)
          · refine Seg.step (pc' := 174) (I_aload_n (i := 0) dX12_lineRead_173 rfl rfl) ?_
            refine Seg.step (pc' := 177) (I_getR cls12 (by decide) wf_12_66 (hE _ _ sk_12) rfl (lk_12_37 hL) dX12_lineRead_174) ?_
            refine Seg.step (pc' := 178) (I_iload_n (i := 2) dX12_lineRead_177 rfl rfl) ?_
            refine Seg.step (pc' := 179) (I_iconst dX12_lineRead_178 ⟨by decide, by decide⟩) ?_
            refine S_gd fun h26 => ?_
            refine Seg.step (pc' := 180) (I_zast (hE _ _ sk_12_37) h26 (by decide) dX12_lineRead_179) ?_
            refine S_bM fun M27 => ?_
            refine Seg.step (pc' := 181) (I_aload_n (i := 0) dX12_lineRead_180 rfl rfl) ?_
            refine S_callV0 (md' := m_X12_token) (fun y => none) (fun y => (sh, ex, R, y)) (hE _ _ sk_12) ⟨by decide, rfl⟩ mm_X12_token wm_12_227 ⟨rfl, rfl, by decide, by decide, by decide, by decide⟩ (Nat.le_of_ble_eq_true rfl) dX12_lineRead_181 (fun y hy => c_X12_token hE hL y hy) (fun x28 => ?_)
            refine Seg.step (pc' := 185) (I_aload_n (i := 0) dX12_lineRead_184 rfl rfl) ?_
            refine Seg.step (pc' := 188) (I_getR cls12 (by decide) wf_12_69 (hE _ _ sk_12) rfl (lk_12_38 hL) dX12_lineRead_185) ?_
            refine Seg.step (pc' := 189) (I_iload_n (i := 2) dX12_lineRead_188 rfl rfl) ?_
            refine Seg.step (pc' := 190) (I_aload_n (i := 0) dX12_lineRead_189 rfl rfl) ?_
            refine Seg.step (pc' := 193) (I_getI cls12 (by decide) wf_12_249 (hE _ _ sk_12) rfl dX12_lineRead_190) ?_
            refine S_gd fun h29 => ?_
            refine Seg.step (pc' := 194) (I_iast (hE _ _ sk_12_38) h29 dX12_lineRead_193) ?_
            refine S_bM fun M30 => ?_
            refine Seg.step (pc' := 195) (I_aload_n (i := 0) dX12_lineRead_194 rfl rfl) ?_
            refine S_callV0 (md' := m_X12_sumRead) (fun y => some (iV y.1)) (fun y => (sh, ex, R, y.2)) (hE _ _ sk_12) ⟨by decide, rfl⟩ mm_X12_sumRead wm_12_307 ⟨rfl, rfl, by decide, by decide, by decide, by decide⟩ (Nat.le_of_ble_eq_true rfl) dX12_lineRead_195 (fun y hy => c_X12_sumRead hE hL y hy) (fun x31 => ?_)
            refine Seg.step (pc' := 199) (I_istore_n (i := 1) dX12_lineRead_198 rfl (by decide) rfl) ?_
            refine Seg.step (pc' := 200) (I_aload_n (i := 0) dX12_lineRead_199 rfl rfl) ?_
            refine Seg.step (pc' := 203) (I_getR cls12 (by decide) wf_12_72 (hE _ _ sk_12) rfl (lk_12_39 hL) dX12_lineRead_200) ?_
            refine Seg.step (pc' := 204) (I_iload_n (i := 2) dX12_lineRead_203 rfl rfl) ?_
            refine Seg.step (pc' := 205) (I_aload_n (i := 0) dX12_lineRead_204 rfl rfl) ?_
            refine Seg.step (pc' := 208) (I_getI cls12 (by decide) wf_12_249 (hE _ _ sk_12) rfl dX12_lineRead_205) ?_
            refine S_gd fun h32 => ?_
            refine Seg.step (pc' := 209) (I_iast (hE _ _ sk_12_39) h32 dX12_lineRead_208) ?_
            refine S_bM fun M33 => ?_
            exact S_arr (fun K hK => GG.forget (Lle.ye (Lle.ye (Lle.no (Lle.nil)))) hK)
          refine Seg.step (pc' := 168) (I_aload_n (i := 0) dX12_lineRead_167 rfl rfl) ?_
          refine Seg.step (pc' := 169) (I_iconst dX12_lineRead_168 ⟨by decide, by decide⟩) ?_
          refine S_callV1 (md' := m_X12_wrong) (fun y => some (iV y.1)) (fun y => (sh, ex, R, y.2)) (hE _ _ sk_12) ⟨by decide, rfl⟩ mm_X12_wrong wm_12_217 ⟨rfl, rfl, by decide, by decide, by decide, by decide⟩ (Nat.le_of_ble_eq_true rfl) dX12_lineRead_169 (fun y hy => c_X12_wrong hE hL y hy) (fun x34 => ?_)
          refine S_gd fun h35 => ?_
          exact S_zret dX12_lineRead_172 rfl h35 (by decide) (by decide) (fun K hK => hK)
        refine Seg.step (pc' := 143) (I_aload_n (i := 0) dX12_lineRead_142 rfl rfl) ?_
        refine Seg.step (pc' := 144) (I_iconst dX12_lineRead_143 ⟨by decide, by decide⟩) ?_
        refine S_callV1 (md' := m_X12_wrong) (fun y => some (iV y.1)) (fun y => (sh, ex, R, y.2)) (hE _ _ sk_12) ⟨by decide, rfl⟩ mm_X12_wrong wm_12_217 ⟨rfl, rfl, by decide, by decide, by decide, by decide⟩ (Nat.le_of_ble_eq_true rfl) dX12_lineRead_144 (fun y hy => c_X12_wrong hE hL y hy) (fun x36 => ?_)
        refine S_gd fun h37 => ?_
        exact S_zret dX12_lineRead_147 rfl h37 (by decide) (by decide) (fun K hK => hK)
      refine Seg.step (pc' := 210) (I_iload_n (i := 1) dX12_lineRead_209 rfl rfl) ?_
      refine S_if_ne (tgt := 215) dX12_lineRead_210 (by decide) (fun h39 => ?_) (fun h39 => ?_)
      · refine Seg.step (pc' := 214) (I_iconst dX12_lineRead_213 ⟨by decide, by decide⟩) ?_
        exact S_zret dX12_lineRead_214 rfl (by decide) (by decide) (by decide) (fun K hK => hK)
      refine Seg.step (pc' := 216) (I_aload_n (i := 0) dX12_lineRead_215 rfl rfl) ?_
      refine Seg.step (pc' := 218) (I_bipush dX12_lineRead_216 (by decide) ⟨by decide, by decide⟩) ?_
      refine S_callV1 (md' := m_X12_isSign) (fun y => some (iV y)) (fun y => (sh, ex, R, x38.2)) (hE _ _ sk_12) ⟨by decide, rfl⟩ mm_X12_isSign wm_12_230 ⟨rfl, rfl, by decide, by decide, by decide, by decide⟩ (Nat.le_of_ble_eq_true rfl) dX12_lineRead_218 (fun y hy => c_X12_isSign hE hL y hy) (fun x40 => ?_)
      refine S_if_ne (tgt := 230) dX12_lineRead_221 (by decide) (fun h41 => ?_) (fun h41 => ?_)
      · refine Seg.step (pc' := 225) (I_aload_n (i := 0) dX12_lineRead_224 rfl rfl) ?_
        refine Seg.step (pc' := 226) (I_iconst dX12_lineRead_225 ⟨by decide, by decide⟩) ?_
        refine S_callV1 (md' := m_X12_wrong) (fun y => some (iV y.1)) (fun y => (sh, ex, R, y.2)) (hE _ _ sk_12) ⟨by decide, rfl⟩ mm_X12_wrong wm_12_217 ⟨rfl, rfl, by decide, by decide, by decide, by decide⟩ (Nat.le_of_ble_eq_true rfl) dX12_lineRead_226 (fun y hy => c_X12_wrong hE hL y hy) (fun x42 => ?_)
        refine S_gd fun h43 => ?_
        exact S_zret dX12_lineRead_229 rfl h43 (by decide) (by decide) (fun K hK => hK)
      refine Seg.step (pc' := 231) (I_aload_n (i := 0) dX12_lineRead_230 rfl rfl) ?_
      refine S_callV0 (md' := m_X12_token) (fun y => none) (fun y => (sh, ex, R, y)) (hE _ _ sk_12) ⟨by decide, rfl⟩ mm_X12_token wm_12_227 ⟨rfl, rfl, by decide, by decide, by decide, by decide⟩ (Nat.le_of_ble_eq_true rfl) dX12_lineRead_231 (fun y hy => c_X12_token hE hL y hy) (fun x44 => ?_)
      refine Seg.step (pc' := 235) (I_iconst dX12_lineRead_234 ⟨by decide, by decide⟩) ?_
      exact S_zret dX12_lineRead_235 rfl (by decide) (by decide) (by decide) (fun K hK => hK)
    exact S_arr (fun K hK => GG.forget (Lle.ye (Lle.no (Lle.no (Lle.nil)))) hK)
  refine Seg.step (pc' := 18) (I_aload_n (i := 0) dX12_lineRead_17 rfl rfl) ?_
  refine Seg.step (pc' := 19) (I_iconst dX12_lineRead_18 ⟨by decide, by decide⟩) ?_
  refine S_callV1 (md' := m_X12_wrong) (fun y => some (iV y.1)) (fun y => (sh, ex, R, y.2)) (hE _ _ sk_12) ⟨by decide, rfl⟩ mm_X12_wrong wm_12_217 ⟨rfl, rfl, by decide, by decide, by decide, by decide⟩ (Nat.le_of_ble_eq_true rfl) dX12_lineRead_19 (fun y hy => c_X12_wrong hE hL y hy) (fun x46 => ?_)
  refine S_gd fun h47 => ?_
  exact S_zret dX12_lineRead_22 rfl h47 (by decide) (by decide) (fun K hK => hK)
theorem dX12_text_0 : decode cX12_text 0 = .ok (.aload_n 0, 1) := by decide +kernel
theorem dX12_text_1 : decode cX12_text 1 = .ok (.iconst 0, 1) := by decide +kernel
theorem dX12_text_2 : decode cX12_text 2 = .ok (.putfield 175, 3) := by decide +kernel
theorem dX12_text_5 : decode cX12_text 5 = .ok (.iload_n 1, 1) := by decide +kernel
theorem dX12_text_6 : decode cX12_text 6 = .ok (.ifCond .lt 11, 3) := by decide +kernel
theorem dX12_text_9 : decode cX12_text 9 = .ok (.iload_n 1, 1) := by decide +kernel
theorem dX12_text_10 : decode cX12_text 10 = .ok (.aload_n 0, 1) := by decide +kernel
theorem dX12_text_11 : decode cX12_text 11 = .ok (.getfield 178, 3) := by decide +kernel
theorem dX12_text_14 : decode cX12_text 14 = .ok (.if_icmp .le 6, 3) := by decide +kernel
theorem dX12_text_17 : decode cX12_text 17 = .ok (.bipush (-2), 2) := by decide +kernel
theorem dX12_text_19 : decode cX12_text 19 = .ok (.ireturn, 1) := by decide +kernel
theorem dX12_text_20 : decode cX12_text 20 = .ok (.aload_n 0, 1) := by decide +kernel
theorem dX12_text_21 : decode cX12_text 21 = .ok (.iload_n 1, 1) := by decide +kernel
theorem dX12_text_22 : decode cX12_text 22 = .ok (.putfield 187, 3) := by decide +kernel
theorem dX12_text_25 : decode cX12_text 25 = .ok (.aload_n 0, 1) := by decide +kernel
theorem dX12_text_26 : decode cX12_text 26 = .ok (.iconst 0, 1) := by decide +kernel
theorem dX12_text_27 : decode cX12_text 27 = .ok (.putfield 178, 3) := by decide +kernel
theorem dX12_text_30 : decode cX12_text 30 = .ok (.aload_n 0, 1) := by decide +kernel
theorem dX12_text_31 : decode cX12_text 31 = .ok (.iconst 0, 1) := by decide +kernel
theorem dX12_text_32 : decode cX12_text 32 = .ok (.putfield 181, 3) := by decide +kernel
theorem dX12_text_35 : decode cX12_text 35 = .ok (.aload_n 0, 1) := by decide +kernel
theorem dX12_text_36 : decode cX12_text 36 = .ok (.iconst (-1), 1) := by decide +kernel
theorem dX12_text_37 : decode cX12_text 37 = .ok (.putfield 16, 3) := by decide +kernel
theorem dX12_text_40 : decode cX12_text 40 = .ok (.aload_n 0, 1) := by decide +kernel
theorem dX12_text_41 : decode cX12_text 41 = .ok (.iconst 0, 1) := by decide +kernel
theorem dX12_text_42 : decode cX12_text 42 = .ok (.putfield 190, 3) := by decide +kernel
theorem dX12_text_45 : decode cX12_text 45 = .ok (.aload_n 0, 1) := by decide +kernel
theorem dX12_text_46 : decode cX12_text 46 = .ok (.invokevirtual 169, 3) := by decide +kernel
theorem dX12_text_49 : decode cX12_text 49 = .ok (.aload_n 0, 1) := by decide +kernel
theorem dX12_text_50 : decode cX12_text 50 = .ok (.invokevirtual 227, 3) := by decide +kernel
theorem dX12_text_53 : decode cX12_text 53 = .ok (.iconst 0, 1) := by decide +kernel
theorem dX12_text_54 : decode cX12_text 54 = .ok (.istore_n 2, 1) := by decide +kernel
theorem dX12_text_55 : decode cX12_text 55 = .ok (.aload_n 0, 1) := by decide +kernel
theorem dX12_text_56 : decode cX12_text 56 = .ok (.getfield 193, 3) := by decide +kernel
theorem dX12_text_59 : decode cX12_text 59 = .ok (.ifCond .eq 18, 3) := by decide +kernel
theorem dX12_text_62 : decode cX12_text 62 = .ok (.aload_n 0, 1) := by decide +kernel
theorem dX12_text_63 : decode cX12_text 63 = .ok (.invokevirtual 310, 3) := by decide +kernel
theorem dX12_text_66 : decode cX12_text 66 = .ok (.ifCond .ne 5, 3) := by decide +kernel
theorem dX12_text_69 : decode cX12_text 69 = .ok (.iconst (-1), 1) := by decide +kernel
theorem dX12_text_70 : decode cX12_text 70 = .ok (.ireturn, 1) := by decide +kernel
theorem dX12_text_71 : decode cX12_text 71 = .ok (.iinc 2 1, 3) := by decide +kernel
theorem dX12_text_74 : decode cX12_text 74 = .ok (.goto (-19), 3) := by decide +kernel
theorem dX12_text_77 : decode cX12_text 77 = .ok (.aload_n 0, 1) := by decide +kernel
theorem dX12_text_78 : decode cX12_text 78 = .ok (.invokevirtual 172, 3) := by decide +kernel
theorem dX12_text_81 : decode cX12_text 81 = .ok (.iload_n 2, 1) := by decide +kernel
theorem dX12_text_82 : decode cX12_text 82 = .ok (.ireturn, 1) := by decide +kernel
def f_X12_text (M : MM) (p1 : Int) : Option (Int × MM) :=
bM (upM M 88 2 0) fun M1 =>
if p1 < 0 then
(some ((-2), M1))
else
if (M1 88 1) < p1 then
(some ((-2), M1))
else
bM (upM M1 88 6 p1) fun M4 =>
bM (upM M4 88 1 0) fun M5 =>
bM (upM M5 88 4 0) fun M6 =>
bM (upM M6 88 5 (-1)) fun M7 =>
bM (upM M7 88 7 0) fun M8 =>
(f_X12_plain M8).bind fun x9 =>
(f_X12_token x9).bind fun x10 =>
bS (lp (X := Int × MM) (Y := (Int × MM) ⊕ (Int × MM)) (fun x11 =>
if (x11.2 88 8) = 0 then
(some (Sum.inr (Sum.inl (x11.1, x11.2))))
else
(f_X12_lineRead x11.2).bind fun x13 =>
if x13.1 = 0 then
(some (Sum.inr (Sum.inr ((-1), x13.2))))
else
some (Sum.inl (w32 (x11.1 + 1), x13.2))) FU (0, x10)) (fun x15 =>
(f_X12_keepText x15.2).bind fun x16 =>
some (x15.1, x16)) (fun r => r)
set_option maxRecDepth 4000 in
theorem c_X12_text {E : EE} {sh : List (Nat × Nat)} {ex : Bool} {R : RM} {M : MM} {p1 : Int} (hE : Ext sh) (hL : Links R) : ∀ y, f_X12_text M p1 = some y → MetC E m_X12_text 0 0 [rV 88, iV p1] (sh, ex, R, M) (fun r w' => r = some (iV y.1) ∧ w' = (sh, ex, R, y.2)) := by
  intro y hy
  refine MetC.seg (o := f_X12_text M p1) (t := (fun K y => K (some (iV y.1)) (sh, ex, R, y.2))) (L := [some (rV 88), some (iV p1), none]) (by decide) rfl (Nat.le_of_ble_eq_true rfl) ?_ hy ⟨rfl, rfl⟩
  unfold f_X12_text
  refine Seg.step (pc' := 1) (I_aload_n (i := 0) dX12_text_0 rfl rfl) ?_
  refine Seg.step (pc' := 2) (I_iconst dX12_text_1 ⟨by decide, by decide⟩) ?_
  refine Seg.step (pc' := 5) (I_putI cls12 (by decide) wf_12_175 (hE _ _ sk_12) rfl rfl dX12_text_2) ?_
  refine S_bM fun M1 => ?_
  refine Seg.step (pc' := 6) (I_iload_n (i := 1) dX12_text_5 rfl rfl) ?_
  refine S_if_lt (tgt := 17) dX12_text_6 (by decide) (fun h2 => ?_) (fun h2 => ?_)
  · refine Seg.step (pc' := 19) (I_bipush dX12_text_17 (by decide) ⟨by decide, by decide⟩) ?_
    exact S_iret dX12_text_19 rfl (by decide) (by decide) (fun K hK => hK)
  refine Seg.step (pc' := 10) (I_iload_n (i := 1) dX12_text_9 rfl rfl) ?_
  refine Seg.step (pc' := 11) (I_aload_n (i := 0) dX12_text_10 rfl rfl) ?_
  refine Seg.step (pc' := 14) (I_getI cls12 (by decide) wf_12_178 (hE _ _ sk_12) rfl dX12_text_11) ?_
  refine S_icmp_le (tgt := 20) dX12_text_14 (by decide) (fun h3 => ?_) (fun h3 => ?_)
  · refine Seg.step (pc' := 19) (I_bipush dX12_text_17 (by decide) ⟨by decide, by decide⟩) ?_
    exact S_iret dX12_text_19 rfl (by decide) (by decide) (fun K hK => hK)
  refine Seg.step (pc' := 21) (I_aload_n (i := 0) dX12_text_20 rfl rfl) ?_
  refine Seg.step (pc' := 22) (I_iload_n (i := 1) dX12_text_21 rfl rfl) ?_
  refine Seg.step (pc' := 25) (I_putI cls12 (by decide) wf_12_187 (hE _ _ sk_12) rfl rfl dX12_text_22) ?_
  refine S_bM fun M4 => ?_
  refine Seg.step (pc' := 26) (I_aload_n (i := 0) dX12_text_25 rfl rfl) ?_
  refine Seg.step (pc' := 27) (I_iconst dX12_text_26 ⟨by decide, by decide⟩) ?_
  refine Seg.step (pc' := 30) (I_putI cls12 (by decide) wf_12_178 (hE _ _ sk_12) rfl rfl dX12_text_27) ?_
  refine S_bM fun M5 => ?_
  refine Seg.step (pc' := 31) (I_aload_n (i := 0) dX12_text_30 rfl rfl) ?_
  refine Seg.step (pc' := 32) (I_iconst dX12_text_31 ⟨by decide, by decide⟩) ?_
  refine Seg.step (pc' := 35) (I_putI cls12 (by decide) wf_12_181 (hE _ _ sk_12) rfl rfl dX12_text_32) ?_
  refine S_bM fun M6 => ?_
  refine Seg.step (pc' := 36) (I_aload_n (i := 0) dX12_text_35 rfl rfl) ?_
  refine Seg.step (pc' := 37) (I_iconst dX12_text_36 ⟨by decide, by decide⟩) ?_
  refine Seg.step (pc' := 40) (I_putI cls12 (by decide) wf_12_16 (hE _ _ sk_12) rfl rfl dX12_text_37) ?_
  refine S_bM fun M7 => ?_
  refine Seg.step (pc' := 41) (I_aload_n (i := 0) dX12_text_40 rfl rfl) ?_
  refine Seg.step (pc' := 42) (I_iconst dX12_text_41 ⟨by decide, by decide⟩) ?_
  refine Seg.step (pc' := 45) (I_putI cls12 (by decide) wf_12_190 (hE _ _ sk_12) rfl rfl dX12_text_42) ?_
  refine S_bM fun M8 => ?_
  refine Seg.step (pc' := 46) (I_aload_n (i := 0) dX12_text_45 rfl rfl) ?_
  refine S_callV0 (md' := m_X12_plain) (fun y => none) (fun y => (sh, ex, R, y)) (hE _ _ sk_12) ⟨by decide, rfl⟩ mm_X12_plain wm_12_169 ⟨rfl, rfl, by decide, by decide, by decide, by decide⟩ (Nat.le_of_ble_eq_true rfl) dX12_text_46 (fun y hy => c_X12_plain hE hL y hy) (fun x9 => ?_)
  refine Seg.step (pc' := 50) (I_aload_n (i := 0) dX12_text_49 rfl rfl) ?_
  refine S_callV0 (md' := m_X12_token) (fun y => none) (fun y => (sh, ex, R, y)) (hE _ _ sk_12) ⟨by decide, rfl⟩ mm_X12_token wm_12_227 ⟨rfl, rfl, by decide, by decide, by decide, by decide⟩ (Nat.le_of_ble_eq_true rfl) dX12_text_50 (fun y hy => c_X12_token hE hL y hy) (fun x10 => ?_)
  refine Seg.step (pc' := 54) (I_iconst dX12_text_53 ⟨by decide, by decide⟩) ?_
  refine Seg.step (pc' := 55) (I_istore_n (i := 2) dX12_text_54 rfl (by decide) rfl) ?_
  refine Seg.forget (Lle.ye (Lle.no (Lle.ye (Lle.nil)))) ?_
  refine S_bind2 (Y := Int × MM) (k' := 0) (n' := 0) 77 (fun y => [some (rV 88), none, some (iV y.1)]) (fun y => []) (fun y => (sh, ex, R, y.2)) (S_loop (Y := Int × MM) (fun y => [some (rV 88), none, some (iV y.1)]) (fun y => []) (fun y => (sh, ex, R, y.2)) (fun x11 => ?_) FU (0, x10)) (fun x15 => ?_)
  · refine Seg.step (pc' := 56) (I_aload_n (i := 0) dX12_text_55 rfl rfl) ?_
    refine Seg.step (pc' := 59) (I_getI cls12 (by decide) wf_12_193 (hE _ _ sk_12) rfl dX12_text_56) ?_
    refine S_if_eq (tgt := 77) dX12_text_59 (by decide) (fun h12 => ?_) (fun h12 => ?_)
    · exact S_arr (fun K hK => GG.forget (Lle.ye (Lle.no (Lle.ye (Lle.nil)))) hK)
    refine Seg.step (pc' := 63) (I_aload_n (i := 0) dX12_text_62 rfl rfl) ?_
    refine S_callV0 (md' := m_X12_lineRead) (fun y => some (iV y.1)) (fun y => (sh, ex, R, y.2)) (hE _ _ sk_12) ⟨by decide, rfl⟩ mm_X12_lineRead wm_12_310 ⟨rfl, rfl, by decide, by decide, by decide, by decide⟩ (Nat.le_of_ble_eq_true rfl) dX12_text_63 (fun y hy => c_X12_lineRead hE hL y hy) (fun x13 => ?_)
    refine S_if_ne (tgt := 71) dX12_text_66 (by decide) (fun h14 => ?_) (fun h14 => ?_)
    · refine Seg.step (pc' := 70) (I_iconst dX12_text_69 ⟨by decide, by decide⟩) ?_
      exact S_iret dX12_text_70 rfl (by decide) (by decide) (fun K hK => hK)
    refine Seg.step (pc' := 74) (I_iinc dX12_text_71 rfl (by decide) rfl) ?_
    refine Seg.step (pc' := 55) (I_goto (tgt := 55) dX12_text_74 (by decide)) ?_
    exact S_arr (fun K hK => GG.forget (Lle.ye (Lle.no (Lle.ye (Lle.nil)))) hK)
  refine Seg.step (pc' := 78) (I_aload_n (i := 0) dX12_text_77 rfl rfl) ?_
  refine S_callV0 (md' := m_X12_keepText) (fun y => none) (fun y => (sh, ex, R, y)) (hE _ _ sk_12) ⟨by decide, rfl⟩ mm_X12_keepText wm_12_172 ⟨rfl, rfl, by decide, by decide, by decide, by decide⟩ (Nat.le_of_ble_eq_true rfl) dX12_text_78 (fun y hy => c_X12_keepText hE hL y hy) (fun x16 => ?_)
  refine Seg.step (pc' := 82) (I_iload_n (i := 2) dX12_text_81 rfl rfl) ?_
  exact S_iret dX12_text_82 rfl (by decide) (by decide) (fun K hK => hK)
theorem dX12_fault_0 : decode cX12_fault 0 = .ok (.aload_n 0, 1) := by decide +kernel
theorem dX12_fault_1 : decode cX12_fault 1 = .ok (.iconst 0, 1) := by decide +kernel
theorem dX12_fault_2 : decode cX12_fault 2 = .ok (.putfield 175, 3) := by decide +kernel
theorem dX12_fault_5 : decode cX12_fault 5 = .ok (.iload_n 1, 1) := by decide +kernel
theorem dX12_fault_6 : decode cX12_fault 6 = .ok (.ifCond .ne 10, 3) := by decide +kernel
theorem dX12_fault_9 : decode cX12_fault 9 = .ok (.aload_n 0, 1) := by decide +kernel
theorem dX12_fault_10 : decode cX12_fault 10 = .ok (.getfield 181, 3) := by decide +kernel
theorem dX12_fault_13 : decode cX12_fault 13 = .ok (.goto 16, 3) := by decide +kernel
theorem dX12_fault_16 : decode cX12_fault 16 = .ok (.iload_n 1, 1) := by decide +kernel
theorem dX12_fault_17 : decode cX12_fault 17 = .ok (.iconst 1, 1) := by decide +kernel
theorem dX12_fault_18 : decode cX12_fault 18 = .ok (.if_icmp .ne 10, 3) := by decide +kernel
theorem dX12_fault_21 : decode cX12_fault 21 = .ok (.aload_n 0, 1) := by decide +kernel
theorem dX12_fault_22 : decode cX12_fault 22 = .ok (.getfield 16, 3) := by decide +kernel
theorem dX12_fault_25 : decode cX12_fault 25 = .ok (.goto 4, 3) := by decide +kernel
theorem dX12_fault_28 : decode cX12_fault 28 = .ok (.iconst (-1), 1) := by decide +kernel
theorem dX12_fault_29 : decode cX12_fault 29 = .ok (.ireturn, 1) := by decide +kernel
def f_X12_fault (M : MM) (p1 : Int) : Option (Int × MM) :=
bM (upM M 88 2 0) fun M1 =>
if p1 = 0 then
(some (M1 88 4, M1))
else
if p1 = 1 then
(some (M1 88 5, M1))
else
some ((-1), M1)
set_option maxRecDepth 4000 in
theorem c_X12_fault {E : EE} {sh : List (Nat × Nat)} {ex : Bool} {R : RM} {M : MM} {p1 : Int} (hE : Ext sh) (hL : Links R) : ∀ y, f_X12_fault M p1 = some y → MetC E m_X12_fault 0 0 [rV 88, iV p1] (sh, ex, R, M) (fun r w' => r = some (iV y.1) ∧ w' = (sh, ex, R, y.2)) := by
  intro y hy
  refine MetC.seg (o := f_X12_fault M p1) (t := (fun K y => K (some (iV y.1)) (sh, ex, R, y.2))) (L := [some (rV 88), some (iV p1)]) (by decide) rfl (Nat.le_of_ble_eq_true rfl) ?_ hy ⟨rfl, rfl⟩
  unfold f_X12_fault
  refine Seg.step (pc' := 1) (I_aload_n (i := 0) dX12_fault_0 rfl rfl) ?_
  refine Seg.step (pc' := 2) (I_iconst dX12_fault_1 ⟨by decide, by decide⟩) ?_
  refine Seg.step (pc' := 5) (I_putI cls12 (by decide) wf_12_175 (hE _ _ sk_12) rfl rfl dX12_fault_2) ?_
  refine S_bM fun M1 => ?_
  refine Seg.step (pc' := 6) (I_iload_n (i := 1) dX12_fault_5 rfl rfl) ?_
  refine S_if_ne (tgt := 16) dX12_fault_6 (by decide) (fun h2 => ?_) (fun h2 => ?_)
  · refine Seg.step (pc' := 10) (I_aload_n (i := 0) dX12_fault_9 rfl rfl) ?_
    refine Seg.step (pc' := 13) (I_getI cls12 (by decide) wf_12_181 (hE _ _ sk_12) rfl dX12_fault_10) ?_
    refine Seg.step (pc' := 29) (I_goto (tgt := 29) dX12_fault_13 (by decide)) ?_
    exact S_iret dX12_fault_29 rfl (by decide) (by decide) (fun K hK => hK)
  refine Seg.step (pc' := 17) (I_iload_n (i := 1) dX12_fault_16 rfl rfl) ?_
  refine Seg.step (pc' := 18) (I_iconst dX12_fault_17 ⟨by decide, by decide⟩) ?_
  refine S_icmp_ne (tgt := 28) dX12_fault_18 (by decide) (fun h3 => ?_) (fun h3 => ?_)
  · refine Seg.step (pc' := 22) (I_aload_n (i := 0) dX12_fault_21 rfl rfl) ?_
    refine Seg.step (pc' := 25) (I_getI cls12 (by decide) wf_12_16 (hE _ _ sk_12) rfl dX12_fault_22) ?_
    refine Seg.step (pc' := 29) (I_goto (tgt := 29) dX12_fault_25 (by decide)) ?_
    exact S_iret dX12_fault_29 rfl (by decide) (by decide) (fun K hK => hK)
  refine Seg.step (pc' := 29) (I_iconst dX12_fault_28 ⟨by decide, by decide⟩) ?_
  exact S_iret dX12_fault_29 rfl (by decide) (by decide) (fun K hK => hK)
theorem dX12_named_0 : decode cX12_named 0 = .ok (.aload_n 0, 1) := by decide +kernel
theorem dX12_named_1 : decode cX12_named 1 = .ok (.iconst 0, 1) := by decide +kernel
theorem dX12_named_2 : decode cX12_named 2 = .ok (.putfield 175, 3) := by decide +kernel
theorem dX12_named_5 : decode cX12_named 5 = .ok (.iload_n 1, 1) := by decide +kernel
theorem dX12_named_6 : decode cX12_named 6 = .ok (.ifCond .ne 19, 3) := by decide +kernel
theorem dX12_named_9 : decode cX12_named 9 = .ok (.aload_n 0, 1) := by decide +kernel
theorem dX12_named_10 : decode cX12_named 10 = .ok (.getfield 27, 3) := by decide +kernel
theorem dX12_named_13 : decode cX12_named 13 = .ok (.iconst 0, 1) := by decide +kernel
theorem dX12_named_14 : decode cX12_named 14 = .ok (.aload_n 0, 1) := by decide +kernel
theorem dX12_named_15 : decode cX12_named 15 = .ok (.getfield 255, 3) := by decide +kernel
theorem dX12_named_18 : decode cX12_named 18 = .ok (.iload_n 2, 1) := by decide +kernel
theorem dX12_named_19 : decode cX12_named 19 = .ok (.invokestatic 277, 3) := by decide +kernel
theorem dX12_named_22 : decode cX12_named 22 = .ok (.goto 25, 3) := by decide +kernel
theorem dX12_named_25 : decode cX12_named 25 = .ok (.iload_n 1, 1) := by decide +kernel
theorem dX12_named_26 : decode cX12_named 26 = .ok (.iconst 1, 1) := by decide +kernel
theorem dX12_named_27 : decode cX12_named 27 = .ok (.if_icmp .ne 19, 3) := by decide +kernel
theorem dX12_named_30 : decode cX12_named 30 = .ok (.aload_n 0, 1) := by decide +kernel
theorem dX12_named_31 : decode cX12_named 31 = .ok (.getfield 39, 3) := by decide +kernel
theorem dX12_named_34 : decode cX12_named 34 = .ok (.iconst 0, 1) := by decide +kernel
theorem dX12_named_35 : decode cX12_named 35 = .ok (.aload_n 0, 1) := by decide +kernel
theorem dX12_named_36 : decode cX12_named 36 = .ok (.getfield 258, 3) := by decide +kernel
theorem dX12_named_39 : decode cX12_named 39 = .ok (.iload_n 2, 1) := by decide +kernel
theorem dX12_named_40 : decode cX12_named 40 = .ok (.invokestatic 277, 3) := by decide +kernel
theorem dX12_named_43 : decode cX12_named 43 = .ok (.goto 4, 3) := by decide +kernel
theorem dX12_named_46 : decode cX12_named 46 = .ok (.iconst (-1), 1) := by decide +kernel
theorem dX12_named_47 : decode cX12_named 47 = .ok (.ireturn, 1) := by decide +kernel
def f_X12_named (M : MM) (p1 : Int) (p2 : Int) : Option (Int × MM) :=
bM (upM M 88 2 0) fun M1 =>
if p1 = 0 then
((f_X12_find M1 93 10 0 (M1 88 12) p2).bind fun x3 =>
some (x3, M1))
else
if p1 = 1 then
((f_X12_find M1 97 10 0 (M1 88 13) p2).bind fun x5 =>
some (x5, M1))
else
some ((-1), M1)
set_option maxRecDepth 4000 in
theorem c_X12_named {E : EE} {sh : List (Nat × Nat)} {ex : Bool} {R : RM} {M : MM} {p1 : Int} {p2 : Int} (hE : Ext sh) (hL : Links R) : ∀ y, f_X12_named M p1 p2 = some y → MetC E m_X12_named 0 0 [rV 88, iV p1, iV p2] (sh, ex, R, M) (fun r w' => r = some (iV y.1) ∧ w' = (sh, ex, R, y.2)) := by
  intro y hy
  refine MetC.seg (o := f_X12_named M p1 p2) (t := (fun K y => K (some (iV y.1)) (sh, ex, R, y.2))) (L := [some (rV 88), some (iV p1), some (iV p2)]) (by decide) rfl (Nat.le_of_ble_eq_true rfl) ?_ hy ⟨rfl, rfl⟩
  unfold f_X12_named
  refine Seg.step (pc' := 1) (I_aload_n (i := 0) dX12_named_0 rfl rfl) ?_
  refine Seg.step (pc' := 2) (I_iconst dX12_named_1 ⟨by decide, by decide⟩) ?_
  refine Seg.step (pc' := 5) (I_putI cls12 (by decide) wf_12_175 (hE _ _ sk_12) rfl rfl dX12_named_2) ?_
  refine S_bM fun M1 => ?_
  refine Seg.step (pc' := 6) (I_iload_n (i := 1) dX12_named_5 rfl rfl) ?_
  refine S_if_ne (tgt := 25) dX12_named_6 (by decide) (fun h2 => ?_) (fun h2 => ?_)
  · refine Seg.step (pc' := 10) (I_aload_n (i := 0) dX12_named_9 rfl rfl) ?_
    refine Seg.step (pc' := 13) (I_getR cls12 (by decide) wf_12_27 (hE _ _ sk_12) rfl (lk_12_24 hL) dX12_named_10) ?_
    refine Seg.step (pc' := 14) (I_iconst dX12_named_13 ⟨by decide, by decide⟩) ?_
    refine Seg.step (pc' := 15) (I_aload_n (i := 0) dX12_named_14 rfl rfl) ?_
    refine Seg.step (pc' := 18) (I_getI cls12 (by decide) wf_12_255 (hE _ _ sk_12) rfl dX12_named_15) ?_
    refine Seg.step (pc' := 19) (I_iload_n (i := 2) dX12_named_18 rfl rfl) ?_
    refine S_callS4 (md' := m_X12_find) (fun y => some (iV y)) (fun y => (sh, ex, R, M1)) mm_X12_find wm_12_277 ⟨rfl, rfl, by decide, by decide, by decide, by decide⟩ (Nat.le_of_ble_eq_true rfl) dX12_named_19 (fun y hy => c_X12_find hE hL sk_12_24 y hy) (fun x3 => ?_)
    refine Seg.step (pc' := 47) (I_goto (tgt := 47) dX12_named_22 (by decide)) ?_
    exact S_iret dX12_named_47 rfl (by decide) (by decide) (fun K hK => hK)
  refine Seg.step (pc' := 26) (I_iload_n (i := 1) dX12_named_25 rfl rfl) ?_
  refine Seg.step (pc' := 27) (I_iconst dX12_named_26 ⟨by decide, by decide⟩) ?_
  refine S_icmp_ne (tgt := 46) dX12_named_27 (by decide) (fun h4 => ?_) (fun h4 => ?_)
  · refine Seg.step (pc' := 31) (I_aload_n (i := 0) dX12_named_30 rfl rfl) ?_
    refine Seg.step (pc' := 34) (I_getR cls12 (by decide) wf_12_39 (hE _ _ sk_12) rfl (lk_12_28 hL) dX12_named_31) ?_
    refine Seg.step (pc' := 35) (I_iconst dX12_named_34 ⟨by decide, by decide⟩) ?_
    refine Seg.step (pc' := 36) (I_aload_n (i := 0) dX12_named_35 rfl rfl) ?_
    refine Seg.step (pc' := 39) (I_getI cls12 (by decide) wf_12_258 (hE _ _ sk_12) rfl dX12_named_36) ?_
    refine Seg.step (pc' := 40) (I_iload_n (i := 2) dX12_named_39 rfl rfl) ?_
    refine S_callS4 (md' := m_X12_find) (fun y => some (iV y)) (fun y => (sh, ex, R, M1)) mm_X12_find wm_12_277 ⟨rfl, rfl, by decide, by decide, by decide, by decide⟩ (Nat.le_of_ble_eq_true rfl) dX12_named_40 (fun y hy => c_X12_find hE hL sk_12_28 y hy) (fun x5 => ?_)
    refine Seg.step (pc' := 47) (I_goto (tgt := 47) dX12_named_43 (by decide)) ?_
    exact S_iret dX12_named_47 rfl (by decide) (by decide) (fun K hK => hK)
  refine Seg.step (pc' := 47) (I_iconst dX12_named_46 ⟨by decide, by decide⟩) ?_
  exact S_iret dX12_named_47 rfl (by decide) (by decide) (fun K hK => hK)
theorem dX12_bounded_0 : decode cX12_bounded 0 = .ok (.aload_n 0, 1) := by decide +kernel
theorem dX12_bounded_1 : decode cX12_bounded 1 = .ok (.aload_n 0, 1) := by decide +kernel
theorem dX12_bounded_2 : decode cX12_bounded 2 = .ok (.getfield 363, 3) := by decide +kernel
theorem dX12_bounded_5 : decode cX12_bounded 5 = .ok (.ifCond .ne 19, 3) := by decide +kernel
theorem dX12_bounded_8 : decode cX12_bounded 8 = .ok (.lload_n 1, 1) := by decide +kernel
theorem dX12_bounded_9 : decode cX12_bounded 9 = .ok (.ldc2_w 366, 3) := by decide +kernel
theorem dX12_bounded_12 : decode cX12_bounded 12 = .ok (.lcmp, 1) := by decide +kernel
theorem dX12_bounded_13 : decode cX12_bounded 13 = .ok (.ifCond .gt 11, 3) := by decide +kernel
theorem dX12_bounded_16 : decode cX12_bounded 16 = .ok (.lload_n 1, 1) := by decide +kernel
theorem dX12_bounded_17 : decode cX12_bounded 17 = .ok (.ldc2_w 368, 3) := by decide +kernel
theorem dX12_bounded_20 : decode cX12_bounded 20 = .ok (.lcmp, 1) := by decide +kernel
theorem dX12_bounded_21 : decode cX12_bounded 21 = .ok (.ifCond .ge 7, 3) := by decide +kernel
theorem dX12_bounded_24 : decode cX12_bounded 24 = .ok (.iconst 1, 1) := by decide +kernel
theorem dX12_bounded_25 : decode cX12_bounded 25 = .ok (.goto 4, 3) := by decide +kernel
theorem dX12_bounded_28 : decode cX12_bounded 28 = .ok (.iconst 0, 1) := by decide +kernel
theorem dX12_bounded_29 : decode cX12_bounded 29 = .ok (.putfield 363, 3) := by decide +kernel
theorem dX12_bounded_32 : decode cX12_bounded 32 = .ok (.aload_n 0, 1) := by decide +kernel
theorem dX12_bounded_33 : decode cX12_bounded 33 = .ok (.getfield 363, 3) := by decide +kernel
theorem dX12_bounded_36 : decode cX12_bounded 36 = .ok (.ifCond .eq 7, 3) := by decide +kernel
theorem dX12_bounded_39 : decode cX12_bounded 39 = .ok (.lconst 0, 1) := by decide +kernel
theorem dX12_bounded_40 : decode cX12_bounded 40 = .ok (.goto 4, 3) := by decide +kernel
theorem dX12_bounded_43 : decode cX12_bounded 43 = .ok (.lload_n 1, 1) := by decide +kernel
theorem dX12_bounded_44 : decode cX12_bounded 44 = .ok (.lreturn, 1) := by decide +kernel
def f_X12_bounded (M : MM) (p1 : Int) : Option (Int × MM) :=
((if (M 88 53) = 0 then
(if 0 < (cmpI p1 1000000000000) then
(some 1)
else
if (cmpI p1 (-1000000000000)) < 0 then
(some 1)
else
some 0)
else
some 1) : Option (Int)).bind fun x4 =>
gd (x4 = 0 ∨ x4 = 1) <|
bM (upM M 88 53 x4) fun M6 =>
if (M6 88 53) = 0 then
(some (p1, M6))
else
some (0, M6)
set_option maxRecDepth 4000 in
theorem c_X12_bounded {E : EE} {sh : List (Nat × Nat)} {ex : Bool} {R : RM} {M : MM} {p1 : Int} (hE : Ext sh) (hL : Links R) : ∀ y, f_X12_bounded M p1 = some y → MetC E m_X12_bounded 0 0 [rV 88, jV p1] (sh, ex, R, M) (fun r w' => r = some (jV y.1) ∧ w' = (sh, ex, R, y.2)) := by
  intro y hy
  refine MetC.seg (o := f_X12_bounded M p1) (t := (fun K y => K (some (jV y.1)) (sh, ex, R, y.2))) (L := [some (rV 88), some (jV p1), none]) (by decide) rfl (Nat.le_of_ble_eq_true rfl) ?_ hy ⟨rfl, rfl⟩
  unfold f_X12_bounded
  refine Seg.step (pc' := 1) (I_aload_n (i := 0) dX12_bounded_0 rfl rfl) ?_
  refine Seg.step (pc' := 2) (I_aload_n (i := 0) dX12_bounded_1 rfl rfl) ?_
  refine Seg.step (pc' := 5) (I_getZ cls12 (by decide) wf_12_363 (hE _ _ sk_12) rfl dX12_bounded_2) ?_
  refine S_bind (Y := Int) (k' := 0) (n' := 0) 29 (fun y => [some (rV 88), some (jV p1), none]) (fun y => [iV y, rV 88]) (fun y => (sh, ex, R, M)) ?_ (fun x4 => ?_)
  · refine S_if_ne (tgt := 24) dX12_bounded_5 (by decide) (fun h1 => ?_) (fun h1 => ?_)
    · refine Seg.step (pc' := 9) (I_lload_n (i := 1) dX12_bounded_8 rfl rfl) ?_
      refine Seg.step (pc' := 12) (I_ldc2 (z := 1000000000000) dX12_bounded_9 wk_12_366 ⟨by decide, by decide⟩) ?_
      refine Seg.step (pc' := 13) (I_lcmp dX12_bounded_12) ?_
      refine S_if_gt (tgt := 24) dX12_bounded_13 (by decide) (fun h2 => ?_) (fun h2 => ?_)
      · refine Seg.step (pc' := 25) (I_iconst dX12_bounded_24 ⟨by decide, by decide⟩) ?_
        refine Seg.step (pc' := 29) (I_goto (tgt := 29) dX12_bounded_25 (by decide)) ?_
        exact S_arr (fun K hK => GG.forget (Lle.ye (Lle.ye (Lle.no (Lle.nil)))) hK)
      refine Seg.step (pc' := 17) (I_lload_n (i := 1) dX12_bounded_16 rfl rfl) ?_
      refine Seg.step (pc' := 20) (I_ldc2 (z := -1000000000000) dX12_bounded_17 wk_12_368 ⟨by decide, by decide⟩) ?_
      refine Seg.step (pc' := 21) (I_lcmp dX12_bounded_20) ?_
      refine S_if_ge (tgt := 28) dX12_bounded_21 (by decide) (fun h3 => ?_) (fun h3 => ?_)
      · refine Seg.step (pc' := 25) (I_iconst dX12_bounded_24 ⟨by decide, by decide⟩) ?_
        refine Seg.step (pc' := 29) (I_goto (tgt := 29) dX12_bounded_25 (by decide)) ?_
        exact S_arr (fun K hK => GG.forget (Lle.ye (Lle.ye (Lle.no (Lle.nil)))) hK)
      refine Seg.step (pc' := 29) (I_iconst dX12_bounded_28 ⟨by decide, by decide⟩) ?_
      exact S_arr (fun K hK => GG.forget (Lle.ye (Lle.ye (Lle.no (Lle.nil)))) hK)
    refine Seg.step (pc' := 25) (I_iconst dX12_bounded_24 ⟨by decide, by decide⟩) ?_
    refine Seg.step (pc' := 29) (I_goto (tgt := 29) dX12_bounded_25 (by decide)) ?_
    exact S_arr (fun K hK => GG.forget (Lle.ye (Lle.ye (Lle.no (Lle.nil)))) hK)
  refine S_gd fun h5 => ?_
  refine Seg.step (pc' := 32) (I_putZ cls12 (by decide) wf_12_363 (hE _ _ sk_12) rfl rfl h5 dX12_bounded_29) ?_
  refine S_bM fun M6 => ?_
  refine Seg.step (pc' := 33) (I_aload_n (i := 0) dX12_bounded_32 rfl rfl) ?_
  refine Seg.step (pc' := 36) (I_getZ cls12 (by decide) wf_12_363 (hE _ _ sk_12) rfl dX12_bounded_33) ?_
  refine S_if_eq (tgt := 43) dX12_bounded_36 (by decide) (fun h7 => ?_) (fun h7 => ?_)
  · refine Seg.step (pc' := 44) (I_lload_n (i := 1) dX12_bounded_43 rfl rfl) ?_
    exact S_lret dX12_bounded_44 rfl (by decide) (by decide) (fun K hK => hK)
  refine Seg.step (pc' := 40) (I_lconst (z := 0) dX12_bounded_39 (by decide) ⟨by decide, by decide⟩) ?_
  refine Seg.step (pc' := 44) (I_goto (tgt := 44) dX12_bounded_40 (by decide)) ?_
  exact S_lret dX12_bounded_44 rfl (by decide) (by decide) (fun K hK => hK)
theorem dX12_compares_0 : decode cX12_compares 0 = .ok (.iload_n 0, 1) := by decide +kernel
theorem dX12_compares_1 : decode cX12_compares 1 = .ok (.tableswitch 95 5 9 #[35, 47, 59, 71, 83], 35) := by decide +kernel
theorem dX12_compares_36 : decode cX12_compares 36 = .ok (.lload_n 1, 1) := by decide +kernel
theorem dX12_compares_37 : decode cX12_compares 37 = .ok (.lload_n 3, 1) := by decide +kernel
theorem dX12_compares_38 : decode cX12_compares 38 = .ok (.lcmp, 1) := by decide +kernel
theorem dX12_compares_39 : decode cX12_compares 39 = .ok (.ifCond .ge 7, 3) := by decide +kernel
theorem dX12_compares_42 : decode cX12_compares 42 = .ok (.iconst 1, 1) := by decide +kernel
theorem dX12_compares_43 : decode cX12_compares 43 = .ok (.goto 4, 3) := by decide +kernel
theorem dX12_compares_46 : decode cX12_compares 46 = .ok (.iconst 0, 1) := by decide +kernel
theorem dX12_compares_47 : decode cX12_compares 47 = .ok (.ireturn, 1) := by decide +kernel
theorem dX12_compares_48 : decode cX12_compares 48 = .ok (.lload_n 1, 1) := by decide +kernel
theorem dX12_compares_49 : decode cX12_compares 49 = .ok (.lload_n 3, 1) := by decide +kernel
theorem dX12_compares_50 : decode cX12_compares 50 = .ok (.lcmp, 1) := by decide +kernel
theorem dX12_compares_51 : decode cX12_compares 51 = .ok (.ifCond .gt 7, 3) := by decide +kernel
theorem dX12_compares_54 : decode cX12_compares 54 = .ok (.iconst 1, 1) := by decide +kernel
theorem dX12_compares_55 : decode cX12_compares 55 = .ok (.goto 4, 3) := by decide +kernel
theorem dX12_compares_58 : decode cX12_compares 58 = .ok (.iconst 0, 1) := by decide +kernel
theorem dX12_compares_59 : decode cX12_compares 59 = .ok (.ireturn, 1) := by decide +kernel
theorem dX12_compares_60 : decode cX12_compares 60 = .ok (.lload_n 1, 1) := by decide +kernel
theorem dX12_compares_61 : decode cX12_compares 61 = .ok (.lload_n 3, 1) := by decide +kernel
theorem dX12_compares_62 : decode cX12_compares 62 = .ok (.lcmp, 1) := by decide +kernel
theorem dX12_compares_63 : decode cX12_compares 63 = .ok (.ifCond .ne 7, 3) := by decide +kernel
theorem dX12_compares_66 : decode cX12_compares 66 = .ok (.iconst 1, 1) := by decide +kernel
theorem dX12_compares_67 : decode cX12_compares 67 = .ok (.goto 4, 3) := by decide +kernel
theorem dX12_compares_70 : decode cX12_compares 70 = .ok (.iconst 0, 1) := by decide +kernel
theorem dX12_compares_71 : decode cX12_compares 71 = .ok (.ireturn, 1) := by decide +kernel
theorem dX12_compares_72 : decode cX12_compares 72 = .ok (.lload_n 1, 1) := by decide +kernel
theorem dX12_compares_73 : decode cX12_compares 73 = .ok (.lload_n 3, 1) := by decide +kernel
theorem dX12_compares_74 : decode cX12_compares 74 = .ok (.lcmp, 1) := by decide +kernel
theorem dX12_compares_75 : decode cX12_compares 75 = .ok (.ifCond .eq 7, 3) := by decide +kernel
theorem dX12_compares_78 : decode cX12_compares 78 = .ok (.iconst 1, 1) := by decide +kernel
theorem dX12_compares_79 : decode cX12_compares 79 = .ok (.goto 4, 3) := by decide +kernel
theorem dX12_compares_82 : decode cX12_compares 82 = .ok (.iconst 0, 1) := by decide +kernel
theorem dX12_compares_83 : decode cX12_compares 83 = .ok (.ireturn, 1) := by decide +kernel
theorem dX12_compares_84 : decode cX12_compares 84 = .ok (.lload_n 1, 1) := by decide +kernel
theorem dX12_compares_85 : decode cX12_compares 85 = .ok (.lload_n 3, 1) := by decide +kernel
theorem dX12_compares_86 : decode cX12_compares 86 = .ok (.lcmp, 1) := by decide +kernel
theorem dX12_compares_87 : decode cX12_compares 87 = .ok (.ifCond .lt 7, 3) := by decide +kernel
theorem dX12_compares_90 : decode cX12_compares 90 = .ok (.iconst 1, 1) := by decide +kernel
theorem dX12_compares_91 : decode cX12_compares 91 = .ok (.goto 4, 3) := by decide +kernel
theorem dX12_compares_94 : decode cX12_compares 94 = .ok (.iconst 0, 1) := by decide +kernel
theorem dX12_compares_95 : decode cX12_compares 95 = .ok (.ireturn, 1) := by decide +kernel
theorem dX12_compares_96 : decode cX12_compares 96 = .ok (.lload_n 1, 1) := by decide +kernel
theorem dX12_compares_97 : decode cX12_compares 97 = .ok (.lload_n 3, 1) := by decide +kernel
theorem dX12_compares_98 : decode cX12_compares 98 = .ok (.lcmp, 1) := by decide +kernel
theorem dX12_compares_99 : decode cX12_compares 99 = .ok (.ifCond .le 7, 3) := by decide +kernel
theorem dX12_compares_102 : decode cX12_compares 102 = .ok (.iconst 1, 1) := by decide +kernel
theorem dX12_compares_103 : decode cX12_compares 103 = .ok (.goto 4, 3) := by decide +kernel
theorem dX12_compares_106 : decode cX12_compares 106 = .ok (.iconst 0, 1) := by decide +kernel
theorem dX12_compares_107 : decode cX12_compares 107 = .ok (.ireturn, 1) := by decide +kernel
def f_X12_compares (M : MM) (p1 : Int) (p2 : Int) (p3 : Int) : Option (Int) :=
if p1 = 5 then
(if (cmpI p2 p3) < 0 then
(some 1)
else
some 0)
else
if p1 = 6 then
(if 0 < (cmpI p2 p3) then
(some 0)
else
some 1)
else
if p1 = 7 then
(if (cmpI p2 p3) = 0 then
(some 1)
else
some 0)
else
if p1 = 8 then
(if (cmpI p2 p3) = 0 then
(some 0)
else
some 1)
else
if p1 = 9 then
(if (cmpI p2 p3) < 0 then
(some 0)
else
some 1)
else
if 0 < (cmpI p2 p3) then
(some 1)
else
some 0
set_option maxRecDepth 4000 in
theorem c_X12_compares {E : EE} {sh : List (Nat × Nat)} {ex : Bool} {R : RM} {M : MM} {p1 : Int} {p2 : Int} {p3 : Int} (hE : Ext sh) (hL : Links R) : ∀ y, f_X12_compares M p1 p2 p3 = some y → MetC E m_X12_compares 0 0 [iV p1, jV p2, jV p3] (sh, ex, R, M) (fun r w' => r = some (iV y) ∧ w' = (sh, ex, R, M)) := by
  intro y hy
  refine MetC.seg (o := f_X12_compares M p1 p2 p3) (t := (fun K y => K (some (iV y)) (sh, ex, R, M))) (L := [some (iV p1), some (jV p2), none, some (jV p3), none]) (by decide) rfl (Nat.le_of_ble_eq_true rfl) ?_ hy ⟨rfl, rfl⟩
  unfold f_X12_compares
  refine Seg.step (pc' := 1) (I_iload_n (i := 0) dX12_compares_0 rfl rfl) ?_
  refine S_ite (fun h1 => ?_) (fun h1 => ?_)
  · refine Seg.step (I_tsw (v := 5) (off := 35) (tgt := 36) dX12_compares_1 h1 (by decide) rfl (by decide)) ?_
    refine Seg.step (pc' := 37) (I_lload_n (i := 1) dX12_compares_36 rfl rfl) ?_
    refine Seg.step (pc' := 38) (I_lload_n (i := 3) dX12_compares_37 rfl rfl) ?_
    refine Seg.step (pc' := 39) (I_lcmp dX12_compares_38) ?_
    refine S_if_ge (tgt := 46) dX12_compares_39 (by decide) (fun h2 => ?_) (fun h2 => ?_)
    · refine Seg.step (pc' := 43) (I_iconst dX12_compares_42 ⟨by decide, by decide⟩) ?_
      refine Seg.step (pc' := 47) (I_goto (tgt := 47) dX12_compares_43 (by decide)) ?_
      exact S_zret dX12_compares_47 rfl (by decide) (by decide) (by decide) (fun K hK => hK)
    refine Seg.step (pc' := 47) (I_iconst dX12_compares_46 ⟨by decide, by decide⟩) ?_
    exact S_zret dX12_compares_47 rfl (by decide) (by decide) (by decide) (fun K hK => hK)
  refine S_ite (fun h3 => ?_) (fun h3 => ?_)
  · refine Seg.step (I_tsw (v := 6) (off := 47) (tgt := 48) dX12_compares_1 h3 (by decide) rfl (by decide)) ?_
    refine Seg.step (pc' := 49) (I_lload_n (i := 1) dX12_compares_48 rfl rfl) ?_
    refine Seg.step (pc' := 50) (I_lload_n (i := 3) dX12_compares_49 rfl rfl) ?_
    refine Seg.step (pc' := 51) (I_lcmp dX12_compares_50) ?_
    refine S_if_gt (tgt := 58) dX12_compares_51 (by decide) (fun h4 => ?_) (fun h4 => ?_)
    · refine Seg.step (pc' := 59) (I_iconst dX12_compares_58 ⟨by decide, by decide⟩) ?_
      exact S_zret dX12_compares_59 rfl (by decide) (by decide) (by decide) (fun K hK => hK)
    refine Seg.step (pc' := 55) (I_iconst dX12_compares_54 ⟨by decide, by decide⟩) ?_
    refine Seg.step (pc' := 59) (I_goto (tgt := 59) dX12_compares_55 (by decide)) ?_
    exact S_zret dX12_compares_59 rfl (by decide) (by decide) (by decide) (fun K hK => hK)
  refine S_ite (fun h5 => ?_) (fun h5 => ?_)
  · refine Seg.step (I_tsw (v := 7) (off := 59) (tgt := 60) dX12_compares_1 h5 (by decide) rfl (by decide)) ?_
    refine Seg.step (pc' := 61) (I_lload_n (i := 1) dX12_compares_60 rfl rfl) ?_
    refine Seg.step (pc' := 62) (I_lload_n (i := 3) dX12_compares_61 rfl rfl) ?_
    refine Seg.step (pc' := 63) (I_lcmp dX12_compares_62) ?_
    refine S_if_ne (tgt := 70) dX12_compares_63 (by decide) (fun h6 => ?_) (fun h6 => ?_)
    · refine Seg.step (pc' := 67) (I_iconst dX12_compares_66 ⟨by decide, by decide⟩) ?_
      refine Seg.step (pc' := 71) (I_goto (tgt := 71) dX12_compares_67 (by decide)) ?_
      exact S_zret dX12_compares_71 rfl (by decide) (by decide) (by decide) (fun K hK => hK)
    refine Seg.step (pc' := 71) (I_iconst dX12_compares_70 ⟨by decide, by decide⟩) ?_
    exact S_zret dX12_compares_71 rfl (by decide) (by decide) (by decide) (fun K hK => hK)
  refine S_ite (fun h7 => ?_) (fun h7 => ?_)
  · refine Seg.step (I_tsw (v := 8) (off := 71) (tgt := 72) dX12_compares_1 h7 (by decide) rfl (by decide)) ?_
    refine Seg.step (pc' := 73) (I_lload_n (i := 1) dX12_compares_72 rfl rfl) ?_
    refine Seg.step (pc' := 74) (I_lload_n (i := 3) dX12_compares_73 rfl rfl) ?_
    refine Seg.step (pc' := 75) (I_lcmp dX12_compares_74) ?_
    refine S_if_eq (tgt := 82) dX12_compares_75 (by decide) (fun h8 => ?_) (fun h8 => ?_)
    · refine Seg.step (pc' := 83) (I_iconst dX12_compares_82 ⟨by decide, by decide⟩) ?_
      exact S_zret dX12_compares_83 rfl (by decide) (by decide) (by decide) (fun K hK => hK)
    refine Seg.step (pc' := 79) (I_iconst dX12_compares_78 ⟨by decide, by decide⟩) ?_
    refine Seg.step (pc' := 83) (I_goto (tgt := 83) dX12_compares_79 (by decide)) ?_
    exact S_zret dX12_compares_83 rfl (by decide) (by decide) (by decide) (fun K hK => hK)
  refine S_ite (fun h9 => ?_) (fun h9 => ?_)
  · refine Seg.step (I_tsw (v := 9) (off := 83) (tgt := 84) dX12_compares_1 h9 (by decide) rfl (by decide)) ?_
    refine Seg.step (pc' := 85) (I_lload_n (i := 1) dX12_compares_84 rfl rfl) ?_
    refine Seg.step (pc' := 86) (I_lload_n (i := 3) dX12_compares_85 rfl rfl) ?_
    refine Seg.step (pc' := 87) (I_lcmp dX12_compares_86) ?_
    refine S_if_lt (tgt := 94) dX12_compares_87 (by decide) (fun h10 => ?_) (fun h10 => ?_)
    · refine Seg.step (pc' := 95) (I_iconst dX12_compares_94 ⟨by decide, by decide⟩) ?_
      exact S_zret dX12_compares_95 rfl (by decide) (by decide) (by decide) (fun K hK => hK)
    refine Seg.step (pc' := 91) (I_iconst dX12_compares_90 ⟨by decide, by decide⟩) ?_
    refine Seg.step (pc' := 95) (I_goto (tgt := 95) dX12_compares_91 (by decide)) ?_
    exact S_zret dX12_compares_95 rfl (by decide) (by decide) (by decide) (fun K hK => hK)
  refine Seg.step (I_tswd (tgt := 96) dX12_compares_1 (by omega) (by decide)) ?_
  refine Seg.step (pc' := 97) (I_lload_n (i := 1) dX12_compares_96 rfl rfl) ?_
  refine Seg.step (pc' := 98) (I_lload_n (i := 3) dX12_compares_97 rfl rfl) ?_
  refine Seg.step (pc' := 99) (I_lcmp dX12_compares_98) ?_
  refine S_if_le (tgt := 106) dX12_compares_99 (by decide) (fun h11 => ?_) (fun h11 => ?_)
  · refine Seg.step (pc' := 103) (I_iconst dX12_compares_102 ⟨by decide, by decide⟩) ?_
    refine Seg.step (pc' := 107) (I_goto (tgt := 107) dX12_compares_103 (by decide)) ?_
    exact S_zret dX12_compares_107 rfl (by decide) (by decide) (by decide) (fun K hK => hK)
  refine Seg.step (pc' := 107) (I_iconst dX12_compares_106 ⟨by decide, by decide⟩) ?_
  exact S_zret dX12_compares_107 rfl (by decide) (by decide) (by decide) (fun K hK => hK)
theorem dX12_times_0 : decode cX12_times 0 = .ok (.lload_n 1, 1) := by decide +kernel
theorem dX12_times_1 : decode cX12_times 1 = .ok (.lconst 0, 1) := by decide +kernel
theorem dX12_times_2 : decode cX12_times 2 = .ok (.lcmp, 1) := by decide +kernel
theorem dX12_times_3 : decode cX12_times 3 = .ok (.ifCond .eq 45, 3) := by decide +kernel
theorem dX12_times_6 : decode cX12_times 6 = .ok (.lload_n 3, 1) := by decide +kernel
theorem dX12_times_7 : decode cX12_times 7 = .ok (.lconst 0, 1) := by decide +kernel
theorem dX12_times_8 : decode cX12_times 8 = .ok (.lcmp, 1) := by decide +kernel
theorem dX12_times_9 : decode cX12_times 9 = .ok (.ifCond .eq 39, 3) := by decide +kernel
theorem dX12_times_12 : decode cX12_times 12 = .ok (.lload_n 3, 1) := by decide +kernel
theorem dX12_times_13 : decode cX12_times 13 = .ok (.lconst 0, 1) := by decide +kernel
theorem dX12_times_14 : decode cX12_times 14 = .ok (.lcmp, 1) := by decide +kernel
theorem dX12_times_15 : decode cX12_times 15 = .ok (.ifCond .ge 8, 3) := by decide +kernel
theorem dX12_times_18 : decode cX12_times 18 = .ok (.lload_n 3, 1) := by decide +kernel
theorem dX12_times_19 : decode cX12_times 19 = .ok (.lneg, 1) := by decide +kernel
theorem dX12_times_20 : decode cX12_times 20 = .ok (.goto 4, 3) := by decide +kernel
theorem dX12_times_23 : decode cX12_times 23 = .ok (.lload_n 3, 1) := by decide +kernel
theorem dX12_times_24 : decode cX12_times 24 = .ok (.ldc2_w 366, 3) := by decide +kernel
theorem dX12_times_27 : decode cX12_times 27 = .ok (.lload_n 1, 1) := by decide +kernel
theorem dX12_times_28 : decode cX12_times 28 = .ok (.lconst 0, 1) := by decide +kernel
theorem dX12_times_29 : decode cX12_times 29 = .ok (.lcmp, 1) := by decide +kernel
theorem dX12_times_30 : decode cX12_times 30 = .ok (.ifCond .ge 8, 3) := by decide +kernel
theorem dX12_times_33 : decode cX12_times 33 = .ok (.lload_n 1, 1) := by decide +kernel
theorem dX12_times_34 : decode cX12_times 34 = .ok (.lneg, 1) := by decide +kernel
theorem dX12_times_35 : decode cX12_times 35 = .ok (.goto 4, 3) := by decide +kernel
theorem dX12_times_38 : decode cX12_times 38 = .ok (.lload_n 1, 1) := by decide +kernel
theorem dX12_times_39 : decode cX12_times 39 = .ok (.ldiv, 1) := by decide +kernel
theorem dX12_times_40 : decode cX12_times 40 = .ok (.lcmp, 1) := by decide +kernel
theorem dX12_times_41 : decode cX12_times 41 = .ok (.ifCond .le 7, 3) := by decide +kernel
theorem dX12_times_44 : decode cX12_times 44 = .ok (.iconst 1, 1) := by decide +kernel
theorem dX12_times_45 : decode cX12_times 45 = .ok (.goto 4, 3) := by decide +kernel
theorem dX12_times_48 : decode cX12_times 48 = .ok (.iconst 0, 1) := by decide +kernel
theorem dX12_times_49 : decode cX12_times 49 = .ok (.istore 5, 2) := by decide +kernel
theorem dX12_times_51 : decode cX12_times 51 = .ok (.aload_n 0, 1) := by decide +kernel
theorem dX12_times_52 : decode cX12_times 52 = .ok (.aload_n 0, 1) := by decide +kernel
theorem dX12_times_53 : decode cX12_times 53 = .ok (.getfield 363, 3) := by decide +kernel
theorem dX12_times_56 : decode cX12_times 56 = .ok (.ifCond .ne 8, 3) := by decide +kernel
theorem dX12_times_59 : decode cX12_times 59 = .ok (.iload 5, 2) := by decide +kernel
theorem dX12_times_61 : decode cX12_times 61 = .ok (.ifCond .eq 7, 3) := by decide +kernel
theorem dX12_times_64 : decode cX12_times 64 = .ok (.iconst 1, 1) := by decide +kernel
theorem dX12_times_65 : decode cX12_times 65 = .ok (.goto 4, 3) := by decide +kernel
theorem dX12_times_68 : decode cX12_times 68 = .ok (.iconst 0, 1) := by decide +kernel
theorem dX12_times_69 : decode cX12_times 69 = .ok (.putfield 363, 3) := by decide +kernel
theorem dX12_times_72 : decode cX12_times 72 = .ok (.aload_n 0, 1) := by decide +kernel
theorem dX12_times_73 : decode cX12_times 73 = .ok (.getfield 363, 3) := by decide +kernel
theorem dX12_times_76 : decode cX12_times 76 = .ok (.ifCond .eq 7, 3) := by decide +kernel
theorem dX12_times_79 : decode cX12_times 79 = .ok (.lconst 0, 1) := by decide +kernel
theorem dX12_times_80 : decode cX12_times 80 = .ok (.goto 6, 3) := by decide +kernel
theorem dX12_times_83 : decode cX12_times 83 = .ok (.lload_n 1, 1) := by decide +kernel
theorem dX12_times_84 : decode cX12_times 84 = .ok (.lload_n 3, 1) := by decide +kernel
theorem dX12_times_85 : decode cX12_times 85 = .ok (.lmul, 1) := by decide +kernel
theorem dX12_times_86 : decode cX12_times 86 = .ok (.lreturn, 1) := by decide +kernel
def f_X12_times (M : MM) (p1 : Int) (p2 : Int) : Option (Int × MM) :=
((if (cmpI p1 0) = 0 then
(some 0)
else
if (cmpI p2 0) = 0 then
(some 0)
else
((if (cmpI p2 0) < 0 then
(some (w64 (-p2)))
else
some p2) : Option (Int)).bind fun x4 =>
((if (cmpI p1 0) < 0 then
(some (w64 (-p1)))
else
some p1) : Option (Int)).bind fun x6 =>
gd (x6 ≠ 0) <|
if 0 < (cmpI x4 (w64 (Int.tdiv 1000000000000 x6))) then
(some 1)
else
some 0) : Option (Int)).bind fun x9 =>
((if (M 88 53) = 0 then
(if x9 = 0 then
(some 0)
else
some 1)
else
some 1) : Option (Int)).bind fun x12 =>
gd (x12 = 0 ∨ x12 = 1) <|
bM (upM M 88 53 x12) fun M14 =>
if (M14 88 53) = 0 then
(some (w64 (p1 * p2), M14))
else
some (0, M14)
set_option maxRecDepth 4000 in
theorem c_X12_times {E : EE} {sh : List (Nat × Nat)} {ex : Bool} {R : RM} {M : MM} {p1 : Int} {p2 : Int} (hE : Ext sh) (hL : Links R) : ∀ y, f_X12_times M p1 p2 = some y → MetC E m_X12_times 0 0 [rV 88, jV p1, jV p2] (sh, ex, R, M) (fun r w' => r = some (jV y.1) ∧ w' = (sh, ex, R, y.2)) := by
  intro y hy
  refine MetC.seg (o := f_X12_times M p1 p2) (t := (fun K y => K (some (jV y.1)) (sh, ex, R, y.2))) (L := [some (rV 88), some (jV p1), none, some (jV p2), none, none]) (by decide) rfl (Nat.le_of_ble_eq_true rfl) ?_ hy ⟨rfl, rfl⟩
  unfold f_X12_times
  refine Seg.step (pc' := 1) (I_lload_n (i := 1) dX12_times_0 rfl rfl) ?_
  refine Seg.step (pc' := 2) (I_lconst (z := 0) dX12_times_1 (by decide) ⟨by decide, by decide⟩) ?_
  refine Seg.step (pc' := 3) (I_lcmp dX12_times_2) ?_
  refine S_bind (Y := Int) (k' := 0) (n' := 0) 49 (fun y => [some (rV 88), some (jV p1), none, some (jV p2), none, none]) (fun y => [iV y]) (fun y => (sh, ex, R, M)) ?_ (fun x9 => ?_)
  · refine S_if_eq (tgt := 48) dX12_times_3 (by decide) (fun h1 => ?_) (fun h1 => ?_)
    · refine Seg.step (pc' := 49) (I_iconst dX12_times_48 ⟨by decide, by decide⟩) ?_
      exact S_arr (fun K hK => GG.forget (Lle.ye (Lle.ye (Lle.no (Lle.ye (Lle.no (Lle.no (Lle.nil))))))) hK)
    refine Seg.step (pc' := 7) (I_lload_n (i := 3) dX12_times_6 rfl rfl) ?_
    refine Seg.step (pc' := 8) (I_lconst (z := 0) dX12_times_7 (by decide) ⟨by decide, by decide⟩) ?_
    refine Seg.step (pc' := 9) (I_lcmp dX12_times_8) ?_
    refine S_if_eq (tgt := 48) dX12_times_9 (by decide) (fun h2 => ?_) (fun h2 => ?_)
    · refine Seg.step (pc' := 49) (I_iconst dX12_times_48 ⟨by decide, by decide⟩) ?_
      exact S_arr (fun K hK => GG.forget (Lle.ye (Lle.ye (Lle.no (Lle.ye (Lle.no (Lle.no (Lle.nil))))))) hK)
    refine Seg.step (pc' := 13) (I_lload_n (i := 3) dX12_times_12 rfl rfl) ?_
    refine Seg.step (pc' := 14) (I_lconst (z := 0) dX12_times_13 (by decide) ⟨by decide, by decide⟩) ?_
    refine Seg.step (pc' := 15) (I_lcmp dX12_times_14) ?_
    refine S_bind (Y := Int) (k' := 0) (n' := 0) 24 (fun y => [some (rV 88), some (jV p1), none, some (jV p2), none, none]) (fun y => [jV y]) (fun y => (sh, ex, R, M)) ?_ (fun x4 => ?_)
    · refine S_if_ge (tgt := 23) dX12_times_15 (by decide) (fun h3 => ?_) (fun h3 => ?_)
      · refine Seg.step (pc' := 19) (I_lload_n (i := 3) dX12_times_18 rfl rfl) ?_
        refine Seg.step (pc' := 20) (I_lneg dX12_times_19) ?_
        refine Seg.step (pc' := 24) (I_goto (tgt := 24) dX12_times_20 (by decide)) ?_
        exact S_arr (fun K hK => GG.forget (Lle.ye (Lle.ye (Lle.no (Lle.ye (Lle.no (Lle.no (Lle.nil))))))) hK)
      refine Seg.step (pc' := 24) (I_lload_n (i := 3) dX12_times_23 rfl rfl) ?_
      exact S_arr (fun K hK => GG.forget (Lle.ye (Lle.ye (Lle.no (Lle.ye (Lle.no (Lle.no (Lle.nil))))))) hK)
    refine Seg.step (pc' := 27) (I_ldc2 (z := 1000000000000) dX12_times_24 wk_12_366 ⟨by decide, by decide⟩) ?_
    refine Seg.step (pc' := 28) (I_lload_n (i := 1) dX12_times_27 rfl rfl) ?_
    refine Seg.step (pc' := 29) (I_lconst (z := 0) dX12_times_28 (by decide) ⟨by decide, by decide⟩) ?_
    refine Seg.step (pc' := 30) (I_lcmp dX12_times_29) ?_
    refine S_bind (Y := Int) (k' := 0) (n' := 0) 39 (fun y => [some (rV 88), some (jV p1), none, some (jV p2), none, none]) (fun y => [jV y, jV 1000000000000, jV x4]) (fun y => (sh, ex, R, M)) ?_ (fun x6 => ?_)
    · refine S_if_ge (tgt := 38) dX12_times_30 (by decide) (fun h5 => ?_) (fun h5 => ?_)
      · refine Seg.step (pc' := 34) (I_lload_n (i := 1) dX12_times_33 rfl rfl) ?_
        refine Seg.step (pc' := 35) (I_lneg dX12_times_34) ?_
        refine Seg.step (pc' := 39) (I_goto (tgt := 39) dX12_times_35 (by decide)) ?_
        exact S_arr (fun K hK => GG.forget (Lle.ye (Lle.ye (Lle.no (Lle.ye (Lle.no (Lle.no (Lle.nil))))))) hK)
      refine Seg.step (pc' := 39) (I_lload_n (i := 1) dX12_times_38 rfl rfl) ?_
      exact S_arr (fun K hK => GG.forget (Lle.ye (Lle.ye (Lle.no (Lle.ye (Lle.no (Lle.no (Lle.nil))))))) hK)
    refine S_gd fun h7 => ?_
    refine Seg.step (pc' := 40) (I_ldiv dX12_times_39 h7) ?_
    refine Seg.step (pc' := 41) (I_lcmp dX12_times_40) ?_
    refine S_if_le (tgt := 48) dX12_times_41 (by decide) (fun h8 => ?_) (fun h8 => ?_)
    · refine Seg.step (pc' := 45) (I_iconst dX12_times_44 ⟨by decide, by decide⟩) ?_
      refine Seg.step (pc' := 49) (I_goto (tgt := 49) dX12_times_45 (by decide)) ?_
      exact S_arr (fun K hK => GG.forget (Lle.ye (Lle.ye (Lle.no (Lle.ye (Lle.no (Lle.no (Lle.nil))))))) hK)
    refine Seg.step (pc' := 49) (I_iconst dX12_times_48 ⟨by decide, by decide⟩) ?_
    exact S_arr (fun K hK => GG.forget (Lle.ye (Lle.ye (Lle.no (Lle.ye (Lle.no (Lle.no (Lle.nil))))))) hK)
  refine Seg.step (pc' := 51) (I_istore dX12_times_49 (by decide) rfl) ?_
  refine Seg.step (pc' := 52) (I_aload_n (i := 0) dX12_times_51 rfl rfl) ?_
  refine Seg.step (pc' := 53) (I_aload_n (i := 0) dX12_times_52 rfl rfl) ?_
  refine Seg.step (pc' := 56) (I_getZ cls12 (by decide) wf_12_363 (hE _ _ sk_12) rfl dX12_times_53) ?_
  refine S_bind (Y := Int) (k' := 0) (n' := 0) 69 (fun y => [some (rV 88), some (jV p1), none, some (jV p2), none, none]) (fun y => [iV y, rV 88]) (fun y => (sh, ex, R, M)) ?_ (fun x12 => ?_)
  · refine S_if_ne (tgt := 64) dX12_times_56 (by decide) (fun h10 => ?_) (fun h10 => ?_)
    · refine Seg.step (pc' := 61) (I_iload dX12_times_59 rfl) ?_
      refine S_if_eq (tgt := 68) dX12_times_61 (by decide) (fun h11 => ?_) (fun h11 => ?_)
      · refine Seg.step (pc' := 69) (I_iconst dX12_times_68 ⟨by decide, by decide⟩) ?_
        exact S_arr (fun K hK => GG.forget (Lle.ye (Lle.ye (Lle.no (Lle.ye (Lle.no (Lle.no (Lle.nil))))))) hK)
      refine Seg.step (pc' := 65) (I_iconst dX12_times_64 ⟨by decide, by decide⟩) ?_
      refine Seg.step (pc' := 69) (I_goto (tgt := 69) dX12_times_65 (by decide)) ?_
      exact S_arr (fun K hK => GG.forget (Lle.ye (Lle.ye (Lle.no (Lle.ye (Lle.no (Lle.no (Lle.nil))))))) hK)
    refine Seg.step (pc' := 65) (I_iconst dX12_times_64 ⟨by decide, by decide⟩) ?_
    refine Seg.step (pc' := 69) (I_goto (tgt := 69) dX12_times_65 (by decide)) ?_
    exact S_arr (fun K hK => GG.forget (Lle.ye (Lle.ye (Lle.no (Lle.ye (Lle.no (Lle.no (Lle.nil))))))) hK)
  refine S_gd fun h13 => ?_
  refine Seg.step (pc' := 72) (I_putZ cls12 (by decide) wf_12_363 (hE _ _ sk_12) rfl rfl h13 dX12_times_69) ?_
  refine S_bM fun M14 => ?_
  refine Seg.step (pc' := 73) (I_aload_n (i := 0) dX12_times_72 rfl rfl) ?_
  refine Seg.step (pc' := 76) (I_getZ cls12 (by decide) wf_12_363 (hE _ _ sk_12) rfl dX12_times_73) ?_
  refine S_if_eq (tgt := 83) dX12_times_76 (by decide) (fun h15 => ?_) (fun h15 => ?_)
  · refine Seg.step (pc' := 84) (I_lload_n (i := 1) dX12_times_83 rfl rfl) ?_
    refine Seg.step (pc' := 85) (I_lload_n (i := 3) dX12_times_84 rfl rfl) ?_
    refine Seg.step (pc' := 86) (I_lmul dX12_times_85) ?_
    exact S_lret dX12_times_86 rfl (by decide) (by decide) (fun K hK => hK)
  refine Seg.step (pc' := 80) (I_lconst (z := 0) dX12_times_79 (by decide) ⟨by decide, by decide⟩) ?_
  refine Seg.step (pc' := 86) (I_goto (tgt := 86) dX12_times_80 (by decide)) ?_
  exact S_lret dX12_times_86 rfl (by decide) (by decide) (fun K hK => hK)
theorem dX12_valueOf_0 : decode cX12_valueOf 0 = .ok (.aload_n 0, 1) := by decide +kernel
theorem dX12_valueOf_1 : decode cX12_valueOf 1 = .ok (.getfield 75, 3) := by decide +kernel
theorem dX12_valueOf_4 : decode cX12_valueOf 4 = .ok (.iload_n 1, 1) := by decide +kernel
theorem dX12_valueOf_5 : decode cX12_valueOf 5 = .ok (.iaload, 1) := by decide +kernel
theorem dX12_valueOf_6 : decode cX12_valueOf 6 = .ok (.ifCond .ne 11, 3) := by decide +kernel
theorem dX12_valueOf_9 : decode cX12_valueOf 9 = .ok (.aload_n 0, 1) := by decide +kernel
theorem dX12_valueOf_10 : decode cX12_valueOf 10 = .ok (.getfield 78, 3) := by decide +kernel
theorem dX12_valueOf_13 : decode cX12_valueOf 13 = .ok (.iload_n 1, 1) := by decide +kernel
theorem dX12_valueOf_14 : decode cX12_valueOf 14 = .ok (.iaload, 1) := by decide +kernel
theorem dX12_valueOf_15 : decode cX12_valueOf 15 = .ok (.i2l, 1) := by decide +kernel
theorem dX12_valueOf_16 : decode cX12_valueOf 16 = .ok (.lreturn, 1) := by decide +kernel
theorem dX12_valueOf_17 : decode cX12_valueOf 17 = .ok (.aload_n 0, 1) := by decide +kernel
theorem dX12_valueOf_18 : decode cX12_valueOf 18 = .ok (.getfield 75, 3) := by decide +kernel
theorem dX12_valueOf_21 : decode cX12_valueOf 21 = .ok (.iload_n 1, 1) := by decide +kernel
theorem dX12_valueOf_22 : decode cX12_valueOf 22 = .ok (.iaload, 1) := by decide +kernel
theorem dX12_valueOf_23 : decode cX12_valueOf 23 = .ok (.iconst 1, 1) := by decide +kernel
theorem dX12_valueOf_24 : decode cX12_valueOf 24 = .ok (.if_icmp .ne 15, 3) := by decide +kernel
theorem dX12_valueOf_27 : decode cX12_valueOf 27 = .ok (.aload_n 0, 1) := by decide +kernel
theorem dX12_valueOf_28 : decode cX12_valueOf 28 = .ok (.getfield 90, 3) := by decide +kernel
theorem dX12_valueOf_31 : decode cX12_valueOf 31 = .ok (.aload_n 0, 1) := by decide +kernel
theorem dX12_valueOf_32 : decode cX12_valueOf 32 = .ok (.getfield 78, 3) := by decide +kernel
theorem dX12_valueOf_35 : decode cX12_valueOf 35 = .ok (.iload_n 1, 1) := by decide +kernel
theorem dX12_valueOf_36 : decode cX12_valueOf 36 = .ok (.iaload, 1) := by decide +kernel
theorem dX12_valueOf_37 : decode cX12_valueOf 37 = .ok (.laload, 1) := by decide +kernel
theorem dX12_valueOf_38 : decode cX12_valueOf 38 = .ok (.lreturn, 1) := by decide +kernel
theorem dX12_valueOf_39 : decode cX12_valueOf 39 = .ok (.aload_n 0, 1) := by decide +kernel
theorem dX12_valueOf_40 : decode cX12_valueOf 40 = .ok (.getfield 94, 3) := by decide +kernel
theorem dX12_valueOf_43 : decode cX12_valueOf 43 = .ok (.aload_n 0, 1) := by decide +kernel
theorem dX12_valueOf_44 : decode cX12_valueOf 44 = .ok (.getfield 78, 3) := by decide +kernel
theorem dX12_valueOf_47 : decode cX12_valueOf 47 = .ok (.iload_n 1, 1) := by decide +kernel
theorem dX12_valueOf_48 : decode cX12_valueOf 48 = .ok (.iaload, 1) := by decide +kernel
theorem dX12_valueOf_49 : decode cX12_valueOf 49 = .ok (.laload, 1) := by decide +kernel
theorem dX12_valueOf_50 : decode cX12_valueOf 50 = .ok (.lstore_n 2, 1) := by decide +kernel
theorem dX12_valueOf_51 : decode cX12_valueOf 51 = .ok (.aload_n 0, 1) := by decide +kernel
theorem dX12_valueOf_52 : decode cX12_valueOf 52 = .ok (.getfield 75, 3) := by decide +kernel
theorem dX12_valueOf_55 : decode cX12_valueOf 55 = .ok (.iload_n 1, 1) := by decide +kernel
theorem dX12_valueOf_56 : decode cX12_valueOf 56 = .ok (.iaload, 1) := by decide +kernel
theorem dX12_valueOf_57 : decode cX12_valueOf 57 = .ok (.iconst 2, 1) := by decide +kernel
theorem dX12_valueOf_58 : decode cX12_valueOf 58 = .ok (.if_icmp .ne 15, 3) := by decide +kernel
theorem dX12_valueOf_61 : decode cX12_valueOf 61 = .ok (.lload_n 2, 1) := by decide +kernel
theorem dX12_valueOf_62 : decode cX12_valueOf 62 = .ok (.lconst 0, 1) := by decide +kernel
theorem dX12_valueOf_63 : decode cX12_valueOf 63 = .ok (.lcmp, 1) := by decide +kernel
theorem dX12_valueOf_64 : decode cX12_valueOf 64 = .ok (.ifCond .ne 7, 3) := by decide +kernel
theorem dX12_valueOf_67 : decode cX12_valueOf 67 = .ok (.lconst 1, 1) := by decide +kernel
theorem dX12_valueOf_68 : decode cX12_valueOf 68 = .ok (.goto 4, 3) := by decide +kernel
theorem dX12_valueOf_71 : decode cX12_valueOf 71 = .ok (.lconst 0, 1) := by decide +kernel
theorem dX12_valueOf_72 : decode cX12_valueOf 72 = .ok (.lreturn, 1) := by decide +kernel
theorem dX12_valueOf_73 : decode cX12_valueOf 73 = .ok (.aload_n 0, 1) := by decide +kernel
theorem dX12_valueOf_74 : decode cX12_valueOf 74 = .ok (.getfield 94, 3) := by decide +kernel
theorem dX12_valueOf_77 : decode cX12_valueOf 77 = .ok (.aload_n 0, 1) := by decide +kernel
theorem dX12_valueOf_78 : decode cX12_valueOf 78 = .ok (.getfield 81, 3) := by decide +kernel
theorem dX12_valueOf_81 : decode cX12_valueOf 81 = .ok (.iload_n 1, 1) := by decide +kernel
theorem dX12_valueOf_82 : decode cX12_valueOf 82 = .ok (.iaload, 1) := by decide +kernel
theorem dX12_valueOf_83 : decode cX12_valueOf 83 = .ok (.laload, 1) := by decide +kernel
theorem dX12_valueOf_84 : decode cX12_valueOf 84 = .ok (.lstore 4, 2) := by decide +kernel
theorem dX12_valueOf_86 : decode cX12_valueOf 86 = .ok (.aload_n 0, 1) := by decide +kernel
theorem dX12_valueOf_87 : decode cX12_valueOf 87 = .ok (.getfield 75, 3) := by decide +kernel
theorem dX12_valueOf_90 : decode cX12_valueOf 90 = .ok (.iload_n 1, 1) := by decide +kernel
theorem dX12_valueOf_91 : decode cX12_valueOf 91 = .ok (.iaload, 1) := by decide +kernel
theorem dX12_valueOf_92 : decode cX12_valueOf 92 = .ok (.tableswitch 167 3 14 #[64, 83, 167, 167, 167, 167, 167, 167, 102, 111, 120, 128], 64) := by decide +kernel
theorem dX12_valueOf_156 : decode cX12_valueOf 156 = .ok (.lload_n 2, 1) := by decide +kernel
theorem dX12_valueOf_157 : decode cX12_valueOf 157 = .ok (.lconst 0, 1) := by decide +kernel
theorem dX12_valueOf_158 : decode cX12_valueOf 158 = .ok (.lcmp, 1) := by decide +kernel
theorem dX12_valueOf_159 : decode cX12_valueOf 159 = .ok (.ifCond .eq 14, 3) := by decide +kernel
theorem dX12_valueOf_162 : decode cX12_valueOf 162 = .ok (.lload 4, 2) := by decide +kernel
theorem dX12_valueOf_164 : decode cX12_valueOf 164 = .ok (.lconst 0, 1) := by decide +kernel
theorem dX12_valueOf_165 : decode cX12_valueOf 165 = .ok (.lcmp, 1) := by decide +kernel
theorem dX12_valueOf_166 : decode cX12_valueOf 166 = .ok (.ifCond .eq 7, 3) := by decide +kernel
theorem dX12_valueOf_169 : decode cX12_valueOf 169 = .ok (.lconst 1, 1) := by decide +kernel
theorem dX12_valueOf_170 : decode cX12_valueOf 170 = .ok (.goto 4, 3) := by decide +kernel
theorem dX12_valueOf_173 : decode cX12_valueOf 173 = .ok (.lconst 0, 1) := by decide +kernel
theorem dX12_valueOf_174 : decode cX12_valueOf 174 = .ok (.lreturn, 1) := by decide +kernel
theorem dX12_valueOf_175 : decode cX12_valueOf 175 = .ok (.lload_n 2, 1) := by decide +kernel
theorem dX12_valueOf_176 : decode cX12_valueOf 176 = .ok (.lconst 0, 1) := by decide +kernel
theorem dX12_valueOf_177 : decode cX12_valueOf 177 = .ok (.lcmp, 1) := by decide +kernel
theorem dX12_valueOf_178 : decode cX12_valueOf 178 = .ok (.ifCond .ne 10, 3) := by decide +kernel
theorem dX12_valueOf_181 : decode cX12_valueOf 181 = .ok (.lload 4, 2) := by decide +kernel
theorem dX12_valueOf_183 : decode cX12_valueOf 183 = .ok (.lconst 0, 1) := by decide +kernel
theorem dX12_valueOf_184 : decode cX12_valueOf 184 = .ok (.lcmp, 1) := by decide +kernel
theorem dX12_valueOf_185 : decode cX12_valueOf 185 = .ok (.ifCond .eq 7, 3) := by decide +kernel
theorem dX12_valueOf_188 : decode cX12_valueOf 188 = .ok (.lconst 1, 1) := by decide +kernel
theorem dX12_valueOf_189 : decode cX12_valueOf 189 = .ok (.goto 4, 3) := by decide +kernel
theorem dX12_valueOf_192 : decode cX12_valueOf 192 = .ok (.lconst 0, 1) := by decide +kernel
theorem dX12_valueOf_193 : decode cX12_valueOf 193 = .ok (.lreturn, 1) := by decide +kernel
theorem dX12_valueOf_194 : decode cX12_valueOf 194 = .ok (.aload_n 0, 1) := by decide +kernel
theorem dX12_valueOf_195 : decode cX12_valueOf 195 = .ok (.lload_n 2, 1) := by decide +kernel
theorem dX12_valueOf_196 : decode cX12_valueOf 196 = .ok (.lload 4, 2) := by decide +kernel
theorem dX12_valueOf_198 : decode cX12_valueOf 198 = .ok (.ladd, 1) := by decide +kernel
theorem dX12_valueOf_199 : decode cX12_valueOf 199 = .ok (.invokevirtual 370, 3) := by decide +kernel
theorem dX12_valueOf_202 : decode cX12_valueOf 202 = .ok (.lreturn, 1) := by decide +kernel
theorem dX12_valueOf_203 : decode cX12_valueOf 203 = .ok (.aload_n 0, 1) := by decide +kernel
theorem dX12_valueOf_204 : decode cX12_valueOf 204 = .ok (.lload_n 2, 1) := by decide +kernel
theorem dX12_valueOf_205 : decode cX12_valueOf 205 = .ok (.lload 4, 2) := by decide +kernel
theorem dX12_valueOf_207 : decode cX12_valueOf 207 = .ok (.lsub, 1) := by decide +kernel
theorem dX12_valueOf_208 : decode cX12_valueOf 208 = .ok (.invokevirtual 370, 3) := by decide +kernel
theorem dX12_valueOf_211 : decode cX12_valueOf 211 = .ok (.lreturn, 1) := by decide +kernel
theorem dX12_valueOf_212 : decode cX12_valueOf 212 = .ok (.aload_n 0, 1) := by decide +kernel
theorem dX12_valueOf_213 : decode cX12_valueOf 213 = .ok (.lload_n 2, 1) := by decide +kernel
theorem dX12_valueOf_214 : decode cX12_valueOf 214 = .ok (.lload 4, 2) := by decide +kernel
theorem dX12_valueOf_216 : decode cX12_valueOf 216 = .ok (.invokevirtual 374, 3) := by decide +kernel
theorem dX12_valueOf_219 : decode cX12_valueOf 219 = .ok (.lreturn, 1) := by decide +kernel
theorem dX12_valueOf_220 : decode cX12_valueOf 220 = .ok (.aload_n 0, 1) := by decide +kernel
theorem dX12_valueOf_221 : decode cX12_valueOf 221 = .ok (.aload_n 0, 1) := by decide +kernel
theorem dX12_valueOf_222 : decode cX12_valueOf 222 = .ok (.getfield 363, 3) := by decide +kernel
theorem dX12_valueOf_225 : decode cX12_valueOf 225 = .ok (.ifCond .ne 10, 3) := by decide +kernel
theorem dX12_valueOf_228 : decode cX12_valueOf 228 = .ok (.lload 4, 2) := by decide +kernel
theorem dX12_valueOf_230 : decode cX12_valueOf 230 = .ok (.lconst 0, 1) := by decide +kernel
theorem dX12_valueOf_231 : decode cX12_valueOf 231 = .ok (.lcmp, 1) := by decide +kernel
theorem dX12_valueOf_232 : decode cX12_valueOf 232 = .ok (.ifCond .ne 7, 3) := by decide +kernel
theorem dX12_valueOf_235 : decode cX12_valueOf 235 = .ok (.iconst 1, 1) := by decide +kernel
theorem dX12_valueOf_236 : decode cX12_valueOf 236 = .ok (.goto 4, 3) := by decide +kernel
theorem dX12_valueOf_239 : decode cX12_valueOf 239 = .ok (.iconst 0, 1) := by decide +kernel
theorem dX12_valueOf_240 : decode cX12_valueOf 240 = .ok (.putfield 363, 3) := by decide +kernel
theorem dX12_valueOf_243 : decode cX12_valueOf 243 = .ok (.aload_n 0, 1) := by decide +kernel
theorem dX12_valueOf_244 : decode cX12_valueOf 244 = .ok (.getfield 363, 3) := by decide +kernel
theorem dX12_valueOf_247 : decode cX12_valueOf 247 = .ok (.ifCond .eq 7, 3) := by decide +kernel
theorem dX12_valueOf_250 : decode cX12_valueOf 250 = .ok (.lconst 0, 1) := by decide +kernel
theorem dX12_valueOf_251 : decode cX12_valueOf 251 = .ok (.goto 7, 3) := by decide +kernel
theorem dX12_valueOf_254 : decode cX12_valueOf 254 = .ok (.lload_n 2, 1) := by decide +kernel
theorem dX12_valueOf_255 : decode cX12_valueOf 255 = .ok (.lload 4, 2) := by decide +kernel
theorem dX12_valueOf_257 : decode cX12_valueOf 257 = .ok (.ldiv, 1) := by decide +kernel
theorem dX12_valueOf_258 : decode cX12_valueOf 258 = .ok (.lreturn, 1) := by decide +kernel
theorem dX12_valueOf_259 : decode cX12_valueOf 259 = .ok (.aload_n 0, 1) := by decide +kernel
theorem dX12_valueOf_260 : decode cX12_valueOf 260 = .ok (.getfield 75, 3) := by decide +kernel
theorem dX12_valueOf_263 : decode cX12_valueOf 263 = .ok (.iload_n 1, 1) := by decide +kernel
theorem dX12_valueOf_264 : decode cX12_valueOf 264 = .ok (.iaload, 1) := by decide +kernel
theorem dX12_valueOf_265 : decode cX12_valueOf 265 = .ok (.lload_n 2, 1) := by decide +kernel
theorem dX12_valueOf_266 : decode cX12_valueOf 266 = .ok (.lload 4, 2) := by decide +kernel
theorem dX12_valueOf_268 : decode cX12_valueOf 268 = .ok (.invokestatic 378, 3) := by decide +kernel
theorem dX12_valueOf_271 : decode cX12_valueOf 271 = .ok (.ifCond .eq 7, 3) := by decide +kernel
theorem dX12_valueOf_274 : decode cX12_valueOf 274 = .ok (.lconst 1, 1) := by decide +kernel
theorem dX12_valueOf_275 : decode cX12_valueOf 275 = .ok (.goto 4, 3) := by decide +kernel
theorem dX12_valueOf_278 : decode cX12_valueOf 278 = .ok (.lconst 0, 1) := by decide +kernel
theorem dX12_valueOf_279 : decode cX12_valueOf 279 = .ok (.lreturn, 1) := by decide +kernel
def f_X12_valueOf (M : MM) (p1 : Int) : Option (Int × MM) :=
gd (0 ≤ p1 ∧ p1 < (128 : Int)) <|
if (M 109 (p1).toNat) = 0 then
(gd (0 ≤ p1 ∧ p1 < (128 : Int)) <|
some (M 110 (p1).toNat, M))
else
gd (0 ≤ p1 ∧ p1 < (128 : Int)) <|
if (M 109 (p1).toNat) = 1 then
(gd (0 ≤ p1 ∧ p1 < (128 : Int)) <|
gd (0 ≤ M 110 (p1).toNat ∧ M 110 (p1).toNat < (7 : Int)) <|
some (M 114 (M 110 (p1).toNat).toNat, M))
else
gd (0 ≤ p1 ∧ p1 < (128 : Int)) <|
gd (0 ≤ M 110 (p1).toNat ∧ M 110 (p1).toNat < (64 : Int)) <|
bI (M 115 (M 110 (p1).toNat).toNat) fun x10 =>
gd (0 ≤ p1 ∧ p1 < (128 : Int)) <|
if (M 109 (p1).toNat) = 2 then
(if (cmpI x10 0) = 0 then
(some (1, M))
else
some (0, M))
else
gd (0 ≤ p1 ∧ p1 < (128 : Int)) <|
gd (0 ≤ M 111 (p1).toNat ∧ M 111 (p1).toNat < (64 : Int)) <|
bI (M 115 (M 111 (p1).toNat).toNat) fun x16 =>
gd (0 ≤ p1 ∧ p1 < (128 : Int)) <|
if (M 109 (p1).toNat) = 3 then
(if (cmpI x10 0) = 0 then
(some (0, M))
else
if (cmpI x16 0) = 0 then
(some (0, M))
else
some (1, M))
else
if (M 109 (p1).toNat) = 4 then
(if (cmpI x10 0) = 0 then
(if (cmpI x16 0) = 0 then
(some (0, M))
else
some (1, M))
else
some (1, M))
else
if (M 109 (p1).toNat) = 5 then
(gd (0 ≤ p1 ∧ p1 < (128 : Int)) <|
(f_X12_compares M (M 109 (p1).toNat) x10 x16).bind fun x26 =>
if x26 = 0 then
(some (0, M))
else
some (1, M))
else
if (M 109 (p1).toNat) = 6 then
(gd (0 ≤ p1 ∧ p1 < (128 : Int)) <|
(f_X12_compares M (M 109 (p1).toNat) x10 x16).bind fun x30 =>
if x30 = 0 then
(some (0, M))
else
some (1, M))
else
if (M 109 (p1).toNat) = 7 then
(gd (0 ≤ p1 ∧ p1 < (128 : Int)) <|
(f_X12_compares M (M 109 (p1).toNat) x10 x16).bind fun x34 =>
if x34 = 0 then
(some (0, M))
else
some (1, M))
else
if (M 109 (p1).toNat) = 8 then
(gd (0 ≤ p1 ∧ p1 < (128 : Int)) <|
(f_X12_compares M (M 109 (p1).toNat) x10 x16).bind fun x38 =>
if x38 = 0 then
(some (0, M))
else
some (1, M))
else
if (M 109 (p1).toNat) = 9 then
(gd (0 ≤ p1 ∧ p1 < (128 : Int)) <|
(f_X12_compares M (M 109 (p1).toNat) x10 x16).bind fun x42 =>
if x42 = 0 then
(some (0, M))
else
some (1, M))
else
if (M 109 (p1).toNat) = 10 then
(gd (0 ≤ p1 ∧ p1 < (128 : Int)) <|
(f_X12_compares M (M 109 (p1).toNat) x10 x16).bind fun x46 =>
if x46 = 0 then
(some (0, M))
else
some (1, M))
else
if (M 109 (p1).toNat) = 11 then
((f_X12_bounded M (w64 (x10 + x16))).bind fun x49 =>
some (x49.1, x49.2))
else
if (M 109 (p1).toNat) = 12 then
((f_X12_bounded M (w64 (x10 - x16))).bind fun x51 =>
some (x51.1, x51.2))
else
if (M 109 (p1).toNat) = 13 then
((f_X12_times M x10 x16).bind fun x53 =>
some (x53.1, x53.2))
else
if (M 109 (p1).toNat) = 14 then
(((if (M 88 53) = 0 then
(if (cmpI x16 0) = 0 then
(some 1)
else
some 0)
else
some 1) : Option (Int)).bind fun x57 =>
gd (x57 = 0 ∨ x57 = 1) <|
bM (upM M 88 53 x57) fun M59 =>
if (M59 88 53) = 0 then
(gd (x16 ≠ 0) <|
some (w64 (Int.tdiv x10 x16), M59))
else
some (0, M59))
else
gd (0 ≤ p1 ∧ p1 < (128 : Int)) <|
(f_X12_compares M (M 109 (p1).toNat) x10 x16).bind fun x63 =>
if x63 = 0 then
(some (0, M))
else
some (1, M)
set_option maxRecDepth 4000 in
theorem c_X12_valueOf {E : EE} {sh : List (Nat × Nat)} {ex : Bool} {R : RM} {M : MM} {p1 : Int} (hE : Ext sh) (hL : Links R) : ∀ y, f_X12_valueOf M p1 = some y → MetC E m_X12_valueOf 0 0 [rV 88, iV p1] (sh, ex, R, M) (fun r w' => r = some (jV y.1) ∧ w' = (sh, ex, R, y.2)) := by
  intro y hy
  refine MetC.seg (o := f_X12_valueOf M p1) (t := (fun K y => K (some (jV y.1)) (sh, ex, R, y.2))) (L := [some (rV 88), some (iV p1), none, none, none, none]) (by decide) rfl (Nat.le_of_ble_eq_true rfl) ?_ hy ⟨rfl, rfl⟩
  unfold f_X12_valueOf
  refine Seg.step (pc' := 1) (I_aload_n (i := 0) dX12_valueOf_0 rfl rfl) ?_
  refine Seg.step (pc' := 4) (I_getR cls12 (by decide) wf_12_75 (hE _ _ sk_12) rfl (lk_12_40 hL) dX12_valueOf_1) ?_
  refine Seg.step (pc' := 5) (I_iload_n (i := 1) dX12_valueOf_4 rfl rfl) ?_
  refine S_gd fun h1 => ?_
  refine Seg.step (pc' := 6) (I_iald (hE _ _ sk_12_40) h1 dX12_valueOf_5) ?_
  refine S_if_ne (tgt := 17) dX12_valueOf_6 (by decide) (fun h2 => ?_) (fun h2 => ?_)
  · refine Seg.step (pc' := 10) (I_aload_n (i := 0) dX12_valueOf_9 rfl rfl) ?_
    refine Seg.step (pc' := 13) (I_getR cls12 (by decide) wf_12_78 (hE _ _ sk_12) rfl (lk_12_41 hL) dX12_valueOf_10) ?_
    refine Seg.step (pc' := 14) (I_iload_n (i := 1) dX12_valueOf_13 rfl rfl) ?_
    refine S_gd fun h3 => ?_
    refine Seg.step (pc' := 15) (I_iald (hE _ _ sk_12_41) h3 dX12_valueOf_14) ?_
    refine Seg.step (pc' := 16) (I_i2l dX12_valueOf_15) ?_
    exact S_lret dX12_valueOf_16 rfl (by decide) (by decide) (fun K hK => hK)
  refine Seg.step (pc' := 18) (I_aload_n (i := 0) dX12_valueOf_17 rfl rfl) ?_
  refine Seg.step (pc' := 21) (I_getR cls12 (by decide) wf_12_75 (hE _ _ sk_12) rfl (lk_12_40 hL) dX12_valueOf_18) ?_
  refine Seg.step (pc' := 22) (I_iload_n (i := 1) dX12_valueOf_21 rfl rfl) ?_
  refine S_gd fun h4 => ?_
  refine Seg.step (pc' := 23) (I_iald (hE _ _ sk_12_40) h4 dX12_valueOf_22) ?_
  refine Seg.step (pc' := 24) (I_iconst dX12_valueOf_23 ⟨by decide, by decide⟩) ?_
  refine S_icmp_ne (tgt := 39) dX12_valueOf_24 (by decide) (fun h5 => ?_) (fun h5 => ?_)
  · refine Seg.step (pc' := 28) (I_aload_n (i := 0) dX12_valueOf_27 rfl rfl) ?_
    refine Seg.step (pc' := 31) (I_getR cls12 (by decide) wf_12_90 (hE _ _ sk_12) rfl (lk_12_51 hL) dX12_valueOf_28) ?_
    refine Seg.step (pc' := 32) (I_aload_n (i := 0) dX12_valueOf_31 rfl rfl) ?_
    refine Seg.step (pc' := 35) (I_getR cls12 (by decide) wf_12_78 (hE _ _ sk_12) rfl (lk_12_41 hL) dX12_valueOf_32) ?_
    refine Seg.step (pc' := 36) (I_iload_n (i := 1) dX12_valueOf_35 rfl rfl) ?_
    refine S_gd fun h6 => ?_
    refine Seg.step (pc' := 37) (I_iald (hE _ _ sk_12_41) h6 dX12_valueOf_36) ?_
    refine S_gd fun h7 => ?_
    refine Seg.step (pc' := 38) (I_lald (hE _ _ sk_12_51) h7 dX12_valueOf_37) ?_
    exact S_lret dX12_valueOf_38 rfl (by decide) (by decide) (fun K hK => hK)
  refine Seg.step (pc' := 40) (I_aload_n (i := 0) dX12_valueOf_39 rfl rfl) ?_
  refine Seg.step (pc' := 43) (I_getR cls12 (by decide) wf_12_94 (hE _ _ sk_12) rfl (lk_12_52 hL) dX12_valueOf_40) ?_
  refine Seg.step (pc' := 44) (I_aload_n (i := 0) dX12_valueOf_43 rfl rfl) ?_
  refine Seg.step (pc' := 47) (I_getR cls12 (by decide) wf_12_78 (hE _ _ sk_12) rfl (lk_12_41 hL) dX12_valueOf_44) ?_
  refine Seg.step (pc' := 48) (I_iload_n (i := 1) dX12_valueOf_47 rfl rfl) ?_
  refine S_gd fun h8 => ?_
  refine Seg.step (pc' := 49) (I_iald (hE _ _ sk_12_41) h8 dX12_valueOf_48) ?_
  refine S_gd fun h9 => ?_
  refine Seg.step (pc' := 50) (I_lald (hE _ _ sk_12_52) h9 dX12_valueOf_49) ?_
  refine S_bJ fun x10 => ?_
  refine Seg.step (pc' := 51) (I_lstore_n (i := 2) dX12_valueOf_50 rfl (by decide) rfl) ?_
  refine Seg.step (pc' := 52) (I_aload_n (i := 0) dX12_valueOf_51 rfl rfl) ?_
  refine Seg.step (pc' := 55) (I_getR cls12 (by decide) wf_12_75 (hE _ _ sk_12) rfl (lk_12_40 hL) dX12_valueOf_52) ?_
  refine Seg.step (pc' := 56) (I_iload_n (i := 1) dX12_valueOf_55 rfl rfl) ?_
  refine S_gd fun h11 => ?_
  refine Seg.step (pc' := 57) (I_iald (hE _ _ sk_12_40) h11 dX12_valueOf_56) ?_
  refine Seg.step (pc' := 58) (I_iconst dX12_valueOf_57 ⟨by decide, by decide⟩) ?_
  refine S_icmp_ne (tgt := 73) dX12_valueOf_58 (by decide) (fun h12 => ?_) (fun h12 => ?_)
  · refine Seg.step (pc' := 62) (I_lload_n (i := 2) dX12_valueOf_61 rfl rfl) ?_
    refine Seg.step (pc' := 63) (I_lconst (z := 0) dX12_valueOf_62 (by decide) ⟨by decide, by decide⟩) ?_
    refine Seg.step (pc' := 64) (I_lcmp dX12_valueOf_63) ?_
    refine S_if_ne (tgt := 71) dX12_valueOf_64 (by decide) (fun h13 => ?_) (fun h13 => ?_)
    · refine Seg.step (pc' := 68) (I_lconst (z := 1) dX12_valueOf_67 (by decide) ⟨by decide, by decide⟩) ?_
      refine Seg.step (pc' := 72) (I_goto (tgt := 72) dX12_valueOf_68 (by decide)) ?_
      exact S_lret dX12_valueOf_72 rfl (by decide) (by decide) (fun K hK => hK)
    refine Seg.step (pc' := 72) (I_lconst (z := 0) dX12_valueOf_71 (by decide) ⟨by decide, by decide⟩) ?_
    exact S_lret dX12_valueOf_72 rfl (by decide) (by decide) (fun K hK => hK)
  refine Seg.step (pc' := 74) (I_aload_n (i := 0) dX12_valueOf_73 rfl rfl) ?_
  refine Seg.step (pc' := 77) (I_getR cls12 (by decide) wf_12_94 (hE _ _ sk_12) rfl (lk_12_52 hL) dX12_valueOf_74) ?_
  refine Seg.step (pc' := 78) (I_aload_n (i := 0) dX12_valueOf_77 rfl rfl) ?_
  refine Seg.step (pc' := 81) (I_getR cls12 (by decide) wf_12_81 (hE _ _ sk_12) rfl (lk_12_42 hL) dX12_valueOf_78) ?_
  refine Seg.step (pc' := 82) (I_iload_n (i := 1) dX12_valueOf_81 rfl rfl) ?_
  refine S_gd fun h14 => ?_
  refine Seg.step (pc' := 83) (I_iald (hE _ _ sk_12_42) h14 dX12_valueOf_82) ?_
  refine S_gd fun h15 => ?_
  refine Seg.step (pc' := 84) (I_lald (hE _ _ sk_12_52) h15 dX12_valueOf_83) ?_
  refine S_bJ fun x16 => ?_
  refine Seg.step (pc' := 86) (I_lstore dX12_valueOf_84 (by decide) rfl) ?_
  refine Seg.step (pc' := 87) (I_aload_n (i := 0) dX12_valueOf_86 rfl rfl) ?_
  refine Seg.step (pc' := 90) (I_getR cls12 (by decide) wf_12_75 (hE _ _ sk_12) rfl (lk_12_40 hL) dX12_valueOf_87) ?_
  refine Seg.step (pc' := 91) (I_iload_n (i := 1) dX12_valueOf_90 rfl rfl) ?_
  refine S_gd fun h17 => ?_
  refine Seg.step (pc' := 92) (I_iald (hE _ _ sk_12_40) h17 dX12_valueOf_91) ?_
  refine S_ite (fun h18 => ?_) (fun h18 => ?_)
  · refine Seg.step (I_tsw (v := 3) (off := 64) (tgt := 156) dX12_valueOf_92 h18 (by decide) rfl (by decide)) ?_
    refine Seg.step (pc' := 157) (I_lload_n (i := 2) dX12_valueOf_156 rfl rfl) ?_
    refine Seg.step (pc' := 158) (I_lconst (z := 0) dX12_valueOf_157 (by decide) ⟨by decide, by decide⟩) ?_
    refine Seg.step (pc' := 159) (I_lcmp dX12_valueOf_158) ?_
    refine S_if_eq (tgt := 173) dX12_valueOf_159 (by decide) (fun h19 => ?_) (fun h19 => ?_)
    · refine Seg.step (pc' := 174) (I_lconst (z := 0) dX12_valueOf_173 (by decide) ⟨by decide, by decide⟩) ?_
      exact S_lret dX12_valueOf_174 rfl (by decide) (by decide) (fun K hK => hK)
    refine Seg.step (pc' := 164) (I_lload dX12_valueOf_162 rfl) ?_
    refine Seg.step (pc' := 165) (I_lconst (z := 0) dX12_valueOf_164 (by decide) ⟨by decide, by decide⟩) ?_
    refine Seg.step (pc' := 166) (I_lcmp dX12_valueOf_165) ?_
    refine S_if_eq (tgt := 173) dX12_valueOf_166 (by decide) (fun h20 => ?_) (fun h20 => ?_)
    · refine Seg.step (pc' := 174) (I_lconst (z := 0) dX12_valueOf_173 (by decide) ⟨by decide, by decide⟩) ?_
      exact S_lret dX12_valueOf_174 rfl (by decide) (by decide) (fun K hK => hK)
    refine Seg.step (pc' := 170) (I_lconst (z := 1) dX12_valueOf_169 (by decide) ⟨by decide, by decide⟩) ?_
    refine Seg.step (pc' := 174) (I_goto (tgt := 174) dX12_valueOf_170 (by decide)) ?_
    exact S_lret dX12_valueOf_174 rfl (by decide) (by decide) (fun K hK => hK)
  refine S_ite (fun h21 => ?_) (fun h21 => ?_)
  · refine Seg.step (I_tsw (v := 4) (off := 83) (tgt := 175) dX12_valueOf_92 h21 (by decide) rfl (by decide)) ?_
    refine Seg.step (pc' := 176) (I_lload_n (i := 2) dX12_valueOf_175 rfl rfl) ?_
    refine Seg.step (pc' := 177) (I_lconst (z := 0) dX12_valueOf_176 (by decide) ⟨by decide, by decide⟩) ?_
    refine Seg.step (pc' := 178) (I_lcmp dX12_valueOf_177) ?_
    refine S_if_ne (tgt := 188) dX12_valueOf_178 (by decide) (fun h22 => ?_) (fun h22 => ?_)
    · refine Seg.step (pc' := 183) (I_lload dX12_valueOf_181 rfl) ?_
      refine Seg.step (pc' := 184) (I_lconst (z := 0) dX12_valueOf_183 (by decide) ⟨by decide, by decide⟩) ?_
      refine Seg.step (pc' := 185) (I_lcmp dX12_valueOf_184) ?_
      refine S_if_eq (tgt := 192) dX12_valueOf_185 (by decide) (fun h23 => ?_) (fun h23 => ?_)
      · refine Seg.step (pc' := 193) (I_lconst (z := 0) dX12_valueOf_192 (by decide) ⟨by decide, by decide⟩) ?_
        exact S_lret dX12_valueOf_193 rfl (by decide) (by decide) (fun K hK => hK)
      refine Seg.step (pc' := 189) (I_lconst (z := 1) dX12_valueOf_188 (by decide) ⟨by decide, by decide⟩) ?_
      refine Seg.step (pc' := 193) (I_goto (tgt := 193) dX12_valueOf_189 (by decide)) ?_
      exact S_lret dX12_valueOf_193 rfl (by decide) (by decide) (fun K hK => hK)
    refine Seg.step (pc' := 189) (I_lconst (z := 1) dX12_valueOf_188 (by decide) ⟨by decide, by decide⟩) ?_
    refine Seg.step (pc' := 193) (I_goto (tgt := 193) dX12_valueOf_189 (by decide)) ?_
    exact S_lret dX12_valueOf_193 rfl (by decide) (by decide) (fun K hK => hK)
  refine S_ite (fun h24 => ?_) (fun h24 => ?_)
  · refine Seg.step (I_tsw (v := 5) (off := 167) (tgt := 259) dX12_valueOf_92 h24 (by decide) rfl (by decide)) ?_
    refine Seg.step (pc' := 260) (I_aload_n (i := 0) dX12_valueOf_259 rfl rfl) ?_
    refine Seg.step (pc' := 263) (I_getR cls12 (by decide) wf_12_75 (hE _ _ sk_12) rfl (lk_12_40 hL) dX12_valueOf_260) ?_
    refine Seg.step (pc' := 264) (I_iload_n (i := 1) dX12_valueOf_263 rfl rfl) ?_
    refine S_gd fun h25 => ?_
    refine Seg.step (pc' := 265) (I_iald (hE _ _ sk_12_40) h25 dX12_valueOf_264) ?_
    refine Seg.step (pc' := 266) (I_lload_n (i := 2) dX12_valueOf_265 rfl rfl) ?_
    refine Seg.step (pc' := 268) (I_lload dX12_valueOf_266 rfl) ?_
    refine S_callS3 (md' := m_X12_compares) (fun y => some (iV y)) (fun y => (sh, ex, R, M)) mm_X12_compares wm_12_378 ⟨rfl, rfl, by decide, by decide, by decide, by decide⟩ (Nat.le_of_ble_eq_true rfl) dX12_valueOf_268 (fun y hy => c_X12_compares hE hL y hy) (fun x26 => ?_)
    refine S_if_eq (tgt := 278) dX12_valueOf_271 (by decide) (fun h27 => ?_) (fun h27 => ?_)
    · refine Seg.step (pc' := 279) (I_lconst (z := 0) dX12_valueOf_278 (by decide) ⟨by decide, by decide⟩) ?_
      exact S_lret dX12_valueOf_279 rfl (by decide) (by decide) (fun K hK => hK)
    refine Seg.step (pc' := 275) (I_lconst (z := 1) dX12_valueOf_274 (by decide) ⟨by decide, by decide⟩) ?_
    refine Seg.step (pc' := 279) (I_goto (tgt := 279) dX12_valueOf_275 (by decide)) ?_
    exact S_lret dX12_valueOf_279 rfl (by decide) (by decide) (fun K hK => hK)
  refine S_ite (fun h28 => ?_) (fun h28 => ?_)
  · refine Seg.step (I_tsw (v := 6) (off := 167) (tgt := 259) dX12_valueOf_92 h28 (by decide) rfl (by decide)) ?_
    refine Seg.step (pc' := 260) (I_aload_n (i := 0) dX12_valueOf_259 rfl rfl) ?_
    refine Seg.step (pc' := 263) (I_getR cls12 (by decide) wf_12_75 (hE _ _ sk_12) rfl (lk_12_40 hL) dX12_valueOf_260) ?_
    refine Seg.step (pc' := 264) (I_iload_n (i := 1) dX12_valueOf_263 rfl rfl) ?_
    refine S_gd fun h29 => ?_
    refine Seg.step (pc' := 265) (I_iald (hE _ _ sk_12_40) h29 dX12_valueOf_264) ?_
    refine Seg.step (pc' := 266) (I_lload_n (i := 2) dX12_valueOf_265 rfl rfl) ?_
    refine Seg.step (pc' := 268) (I_lload dX12_valueOf_266 rfl) ?_
    refine S_callS3 (md' := m_X12_compares) (fun y => some (iV y)) (fun y => (sh, ex, R, M)) mm_X12_compares wm_12_378 ⟨rfl, rfl, by decide, by decide, by decide, by decide⟩ (Nat.le_of_ble_eq_true rfl) dX12_valueOf_268 (fun y hy => c_X12_compares hE hL y hy) (fun x30 => ?_)
    refine S_if_eq (tgt := 278) dX12_valueOf_271 (by decide) (fun h31 => ?_) (fun h31 => ?_)
    · refine Seg.step (pc' := 279) (I_lconst (z := 0) dX12_valueOf_278 (by decide) ⟨by decide, by decide⟩) ?_
      exact S_lret dX12_valueOf_279 rfl (by decide) (by decide) (fun K hK => hK)
    refine Seg.step (pc' := 275) (I_lconst (z := 1) dX12_valueOf_274 (by decide) ⟨by decide, by decide⟩) ?_
    refine Seg.step (pc' := 279) (I_goto (tgt := 279) dX12_valueOf_275 (by decide)) ?_
    exact S_lret dX12_valueOf_279 rfl (by decide) (by decide) (fun K hK => hK)
  refine S_ite (fun h32 => ?_) (fun h32 => ?_)
  · refine Seg.step (I_tsw (v := 7) (off := 167) (tgt := 259) dX12_valueOf_92 h32 (by decide) rfl (by decide)) ?_
    refine Seg.step (pc' := 260) (I_aload_n (i := 0) dX12_valueOf_259 rfl rfl) ?_
    refine Seg.step (pc' := 263) (I_getR cls12 (by decide) wf_12_75 (hE _ _ sk_12) rfl (lk_12_40 hL) dX12_valueOf_260) ?_
    refine Seg.step (pc' := 264) (I_iload_n (i := 1) dX12_valueOf_263 rfl rfl) ?_
    refine S_gd fun h33 => ?_
    refine Seg.step (pc' := 265) (I_iald (hE _ _ sk_12_40) h33 dX12_valueOf_264) ?_
    refine Seg.step (pc' := 266) (I_lload_n (i := 2) dX12_valueOf_265 rfl rfl) ?_
    refine Seg.step (pc' := 268) (I_lload dX12_valueOf_266 rfl) ?_
    refine S_callS3 (md' := m_X12_compares) (fun y => some (iV y)) (fun y => (sh, ex, R, M)) mm_X12_compares wm_12_378 ⟨rfl, rfl, by decide, by decide, by decide, by decide⟩ (Nat.le_of_ble_eq_true rfl) dX12_valueOf_268 (fun y hy => c_X12_compares hE hL y hy) (fun x34 => ?_)
    refine S_if_eq (tgt := 278) dX12_valueOf_271 (by decide) (fun h35 => ?_) (fun h35 => ?_)
    · refine Seg.step (pc' := 279) (I_lconst (z := 0) dX12_valueOf_278 (by decide) ⟨by decide, by decide⟩) ?_
      exact S_lret dX12_valueOf_279 rfl (by decide) (by decide) (fun K hK => hK)
    refine Seg.step (pc' := 275) (I_lconst (z := 1) dX12_valueOf_274 (by decide) ⟨by decide, by decide⟩) ?_
    refine Seg.step (pc' := 279) (I_goto (tgt := 279) dX12_valueOf_275 (by decide)) ?_
    exact S_lret dX12_valueOf_279 rfl (by decide) (by decide) (fun K hK => hK)
  refine S_ite (fun h36 => ?_) (fun h36 => ?_)
  · refine Seg.step (I_tsw (v := 8) (off := 167) (tgt := 259) dX12_valueOf_92 h36 (by decide) rfl (by decide)) ?_
    refine Seg.step (pc' := 260) (I_aload_n (i := 0) dX12_valueOf_259 rfl rfl) ?_
    refine Seg.step (pc' := 263) (I_getR cls12 (by decide) wf_12_75 (hE _ _ sk_12) rfl (lk_12_40 hL) dX12_valueOf_260) ?_
    refine Seg.step (pc' := 264) (I_iload_n (i := 1) dX12_valueOf_263 rfl rfl) ?_
    refine S_gd fun h37 => ?_
    refine Seg.step (pc' := 265) (I_iald (hE _ _ sk_12_40) h37 dX12_valueOf_264) ?_
    refine Seg.step (pc' := 266) (I_lload_n (i := 2) dX12_valueOf_265 rfl rfl) ?_
    refine Seg.step (pc' := 268) (I_lload dX12_valueOf_266 rfl) ?_
    refine S_callS3 (md' := m_X12_compares) (fun y => some (iV y)) (fun y => (sh, ex, R, M)) mm_X12_compares wm_12_378 ⟨rfl, rfl, by decide, by decide, by decide, by decide⟩ (Nat.le_of_ble_eq_true rfl) dX12_valueOf_268 (fun y hy => c_X12_compares hE hL y hy) (fun x38 => ?_)
    refine S_if_eq (tgt := 278) dX12_valueOf_271 (by decide) (fun h39 => ?_) (fun h39 => ?_)
    · refine Seg.step (pc' := 279) (I_lconst (z := 0) dX12_valueOf_278 (by decide) ⟨by decide, by decide⟩) ?_
      exact S_lret dX12_valueOf_279 rfl (by decide) (by decide) (fun K hK => hK)
    refine Seg.step (pc' := 275) (I_lconst (z := 1) dX12_valueOf_274 (by decide) ⟨by decide, by decide⟩) ?_
    refine Seg.step (pc' := 279) (I_goto (tgt := 279) dX12_valueOf_275 (by decide)) ?_
    exact S_lret dX12_valueOf_279 rfl (by decide) (by decide) (fun K hK => hK)
  refine S_ite (fun h40 => ?_) (fun h40 => ?_)
  · refine Seg.step (I_tsw (v := 9) (off := 167) (tgt := 259) dX12_valueOf_92 h40 (by decide) rfl (by decide)) ?_
    refine Seg.step (pc' := 260) (I_aload_n (i := 0) dX12_valueOf_259 rfl rfl) ?_
    refine Seg.step (pc' := 263) (I_getR cls12 (by decide) wf_12_75 (hE _ _ sk_12) rfl (lk_12_40 hL) dX12_valueOf_260) ?_
    refine Seg.step (pc' := 264) (I_iload_n (i := 1) dX12_valueOf_263 rfl rfl) ?_
    refine S_gd fun h41 => ?_
    refine Seg.step (pc' := 265) (I_iald (hE _ _ sk_12_40) h41 dX12_valueOf_264) ?_
    refine Seg.step (pc' := 266) (I_lload_n (i := 2) dX12_valueOf_265 rfl rfl) ?_
    refine Seg.step (pc' := 268) (I_lload dX12_valueOf_266 rfl) ?_
    refine S_callS3 (md' := m_X12_compares) (fun y => some (iV y)) (fun y => (sh, ex, R, M)) mm_X12_compares wm_12_378 ⟨rfl, rfl, by decide, by decide, by decide, by decide⟩ (Nat.le_of_ble_eq_true rfl) dX12_valueOf_268 (fun y hy => c_X12_compares hE hL y hy) (fun x42 => ?_)
    refine S_if_eq (tgt := 278) dX12_valueOf_271 (by decide) (fun h43 => ?_) (fun h43 => ?_)
    · refine Seg.step (pc' := 279) (I_lconst (z := 0) dX12_valueOf_278 (by decide) ⟨by decide, by decide⟩) ?_
      exact S_lret dX12_valueOf_279 rfl (by decide) (by decide) (fun K hK => hK)
    refine Seg.step (pc' := 275) (I_lconst (z := 1) dX12_valueOf_274 (by decide) ⟨by decide, by decide⟩) ?_
    refine Seg.step (pc' := 279) (I_goto (tgt := 279) dX12_valueOf_275 (by decide)) ?_
    exact S_lret dX12_valueOf_279 rfl (by decide) (by decide) (fun K hK => hK)
  refine S_ite (fun h44 => ?_) (fun h44 => ?_)
  · refine Seg.step (I_tsw (v := 10) (off := 167) (tgt := 259) dX12_valueOf_92 h44 (by decide) rfl (by decide)) ?_
    refine Seg.step (pc' := 260) (I_aload_n (i := 0) dX12_valueOf_259 rfl rfl) ?_
    refine Seg.step (pc' := 263) (I_getR cls12 (by decide) wf_12_75 (hE _ _ sk_12) rfl (lk_12_40 hL) dX12_valueOf_260) ?_
    refine Seg.step (pc' := 264) (I_iload_n (i := 1) dX12_valueOf_263 rfl rfl) ?_
    refine S_gd fun h45 => ?_
    refine Seg.step (pc' := 265) (I_iald (hE _ _ sk_12_40) h45 dX12_valueOf_264) ?_
    refine Seg.step (pc' := 266) (I_lload_n (i := 2) dX12_valueOf_265 rfl rfl) ?_
    refine Seg.step (pc' := 268) (I_lload dX12_valueOf_266 rfl) ?_
    refine S_callS3 (md' := m_X12_compares) (fun y => some (iV y)) (fun y => (sh, ex, R, M)) mm_X12_compares wm_12_378 ⟨rfl, rfl, by decide, by decide, by decide, by decide⟩ (Nat.le_of_ble_eq_true rfl) dX12_valueOf_268 (fun y hy => c_X12_compares hE hL y hy) (fun x46 => ?_)
    refine S_if_eq (tgt := 278) dX12_valueOf_271 (by decide) (fun h47 => ?_) (fun h47 => ?_)
    · refine Seg.step (pc' := 279) (I_lconst (z := 0) dX12_valueOf_278 (by decide) ⟨by decide, by decide⟩) ?_
      exact S_lret dX12_valueOf_279 rfl (by decide) (by decide) (fun K hK => hK)
    refine Seg.step (pc' := 275) (I_lconst (z := 1) dX12_valueOf_274 (by decide) ⟨by decide, by decide⟩) ?_
    refine Seg.step (pc' := 279) (I_goto (tgt := 279) dX12_valueOf_275 (by decide)) ?_
    exact S_lret dX12_valueOf_279 rfl (by decide) (by decide) (fun K hK => hK)
  refine S_ite (fun h48 => ?_) (fun h48 => ?_)
  · refine Seg.step (I_tsw (v := 11) (off := 102) (tgt := 194) dX12_valueOf_92 h48 (by decide) rfl (by decide)) ?_
    refine Seg.step (pc' := 195) (I_aload_n (i := 0) dX12_valueOf_194 rfl rfl) ?_
    refine Seg.step (pc' := 196) (I_lload_n (i := 2) dX12_valueOf_195 rfl rfl) ?_
    refine Seg.step (pc' := 198) (I_lload dX12_valueOf_196 rfl) ?_
    refine Seg.step (pc' := 199) (I_ladd dX12_valueOf_198) ?_
    refine S_callV1 (md' := m_X12_bounded) (fun y => some (jV y.1)) (fun y => (sh, ex, R, y.2)) (hE _ _ sk_12) ⟨by decide, rfl⟩ mm_X12_bounded wm_12_370 ⟨rfl, rfl, by decide, by decide, by decide, by decide⟩ (Nat.le_of_ble_eq_true rfl) dX12_valueOf_199 (fun y hy => c_X12_bounded hE hL y hy) (fun x49 => ?_)
    exact S_lret dX12_valueOf_202 rfl (by decide) (by decide) (fun K hK => hK)
  refine S_ite (fun h50 => ?_) (fun h50 => ?_)
  · refine Seg.step (I_tsw (v := 12) (off := 111) (tgt := 203) dX12_valueOf_92 h50 (by decide) rfl (by decide)) ?_
    refine Seg.step (pc' := 204) (I_aload_n (i := 0) dX12_valueOf_203 rfl rfl) ?_
    refine Seg.step (pc' := 205) (I_lload_n (i := 2) dX12_valueOf_204 rfl rfl) ?_
    refine Seg.step (pc' := 207) (I_lload dX12_valueOf_205 rfl) ?_
    refine Seg.step (pc' := 208) (I_lsub dX12_valueOf_207) ?_
    refine S_callV1 (md' := m_X12_bounded) (fun y => some (jV y.1)) (fun y => (sh, ex, R, y.2)) (hE _ _ sk_12) ⟨by decide, rfl⟩ mm_X12_bounded wm_12_370 ⟨rfl, rfl, by decide, by decide, by decide, by decide⟩ (Nat.le_of_ble_eq_true rfl) dX12_valueOf_208 (fun y hy => c_X12_bounded hE hL y hy) (fun x51 => ?_)
    exact S_lret dX12_valueOf_211 rfl (by decide) (by decide) (fun K hK => hK)
  refine S_ite (fun h52 => ?_) (fun h52 => ?_)
  · refine Seg.step (I_tsw (v := 13) (off := 120) (tgt := 212) dX12_valueOf_92 h52 (by decide) rfl (by decide)) ?_
    refine Seg.step (pc' := 213) (I_aload_n (i := 0) dX12_valueOf_212 rfl rfl) ?_
    refine Seg.step (pc' := 214) (I_lload_n (i := 2) dX12_valueOf_213 rfl rfl) ?_
    refine Seg.step (pc' := 216) (I_lload dX12_valueOf_214 rfl) ?_
    refine S_callV2 (md' := m_X12_times) (fun y => some (jV y.1)) (fun y => (sh, ex, R, y.2)) (hE _ _ sk_12) ⟨by decide, rfl⟩ mm_X12_times wm_12_374 ⟨rfl, rfl, by decide, by decide, by decide, by decide⟩ (Nat.le_of_ble_eq_true rfl) dX12_valueOf_216 (fun y hy => c_X12_times hE hL y hy) (fun x53 => ?_)
    exact S_lret dX12_valueOf_219 rfl (by decide) (by decide) (fun K hK => hK)
  refine S_ite (fun h54 => ?_) (fun h54 => ?_)
  · refine Seg.step (I_tsw (v := 14) (off := 128) (tgt := 220) dX12_valueOf_92 h54 (by decide) rfl (by decide)) ?_
    refine Seg.step (pc' := 221) (I_aload_n (i := 0) dX12_valueOf_220 rfl rfl) ?_
    refine Seg.step (pc' := 222) (I_aload_n (i := 0) dX12_valueOf_221 rfl rfl) ?_
    refine Seg.step (pc' := 225) (I_getZ cls12 (by decide) wf_12_363 (hE _ _ sk_12) rfl dX12_valueOf_222) ?_
    refine S_bind (Y := Int) (k' := 0) (n' := 0) 240 (fun y => [some (rV 88), none, some (jV x10), none, some (jV x16), none]) (fun y => [iV y, rV 88]) (fun y => (sh, ex, R, M)) ?_ (fun x57 => ?_)
    · refine S_if_ne (tgt := 235) dX12_valueOf_225 (by decide) (fun h55 => ?_) (fun h55 => ?_)
      · refine Seg.step (pc' := 230) (I_lload dX12_valueOf_228 rfl) ?_
        refine Seg.step (pc' := 231) (I_lconst (z := 0) dX12_valueOf_230 (by decide) ⟨by decide, by decide⟩) ?_
        refine Seg.step (pc' := 232) (I_lcmp dX12_valueOf_231) ?_
        refine S_if_ne (tgt := 239) dX12_valueOf_232 (by decide) (fun h56 => ?_) (fun h56 => ?_)
        · refine Seg.step (pc' := 236) (I_iconst dX12_valueOf_235 ⟨by decide, by decide⟩) ?_
          refine Seg.step (pc' := 240) (I_goto (tgt := 240) dX12_valueOf_236 (by decide)) ?_
          exact S_arr (fun K hK => GG.forget (Lle.ye (Lle.no (Lle.ye (Lle.no (Lle.ye (Lle.no (Lle.nil))))))) hK)
        refine Seg.step (pc' := 240) (I_iconst dX12_valueOf_239 ⟨by decide, by decide⟩) ?_
        exact S_arr (fun K hK => GG.forget (Lle.ye (Lle.no (Lle.ye (Lle.no (Lle.ye (Lle.no (Lle.nil))))))) hK)
      refine Seg.step (pc' := 236) (I_iconst dX12_valueOf_235 ⟨by decide, by decide⟩) ?_
      refine Seg.step (pc' := 240) (I_goto (tgt := 240) dX12_valueOf_236 (by decide)) ?_
      exact S_arr (fun K hK => GG.forget (Lle.ye (Lle.no (Lle.ye (Lle.no (Lle.ye (Lle.no (Lle.nil))))))) hK)
    refine S_gd fun h58 => ?_
    refine Seg.step (pc' := 243) (I_putZ cls12 (by decide) wf_12_363 (hE _ _ sk_12) rfl rfl h58 dX12_valueOf_240) ?_
    refine S_bM fun M59 => ?_
    refine Seg.step (pc' := 244) (I_aload_n (i := 0) dX12_valueOf_243 rfl rfl) ?_
    refine Seg.step (pc' := 247) (I_getZ cls12 (by decide) wf_12_363 (hE _ _ sk_12) rfl dX12_valueOf_244) ?_
    refine S_if_eq (tgt := 254) dX12_valueOf_247 (by decide) (fun h60 => ?_) (fun h60 => ?_)
    · refine Seg.step (pc' := 255) (I_lload_n (i := 2) dX12_valueOf_254 rfl rfl) ?_
      refine Seg.step (pc' := 257) (I_lload dX12_valueOf_255 rfl) ?_
      refine S_gd fun h61 => ?_
      refine Seg.step (pc' := 258) (I_ldiv dX12_valueOf_257 h61) ?_
      exact S_lret dX12_valueOf_258 rfl (by decide) (by decide) (fun K hK => hK)
    refine Seg.step (pc' := 251) (I_lconst (z := 0) dX12_valueOf_250 (by decide) ⟨by decide, by decide⟩) ?_
    refine Seg.step (pc' := 258) (I_goto (tgt := 258) dX12_valueOf_251 (by decide)) ?_
    exact S_lret dX12_valueOf_258 rfl (by decide) (by decide) (fun K hK => hK)
  refine Seg.step (I_tswd (tgt := 259) dX12_valueOf_92 (by omega) (by decide)) ?_
  refine Seg.step (pc' := 260) (I_aload_n (i := 0) dX12_valueOf_259 rfl rfl) ?_
  refine Seg.step (pc' := 263) (I_getR cls12 (by decide) wf_12_75 (hE _ _ sk_12) rfl (lk_12_40 hL) dX12_valueOf_260) ?_
  refine Seg.step (pc' := 264) (I_iload_n (i := 1) dX12_valueOf_263 rfl rfl) ?_
  refine S_gd fun h62 => ?_
  refine Seg.step (pc' := 265) (I_iald (hE _ _ sk_12_40) h62 dX12_valueOf_264) ?_
  refine Seg.step (pc' := 266) (I_lload_n (i := 2) dX12_valueOf_265 rfl rfl) ?_
  refine Seg.step (pc' := 268) (I_lload dX12_valueOf_266 rfl) ?_
  refine S_callS3 (md' := m_X12_compares) (fun y => some (iV y)) (fun y => (sh, ex, R, M)) mm_X12_compares wm_12_378 ⟨rfl, rfl, by decide, by decide, by decide, by decide⟩ (Nat.le_of_ble_eq_true rfl) dX12_valueOf_268 (fun y hy => c_X12_compares hE hL y hy) (fun x63 => ?_)
  refine S_if_eq (tgt := 278) dX12_valueOf_271 (by decide) (fun h64 => ?_) (fun h64 => ?_)
  · refine Seg.step (pc' := 279) (I_lconst (z := 0) dX12_valueOf_278 (by decide) ⟨by decide, by decide⟩) ?_
    exact S_lret dX12_valueOf_279 rfl (by decide) (by decide) (fun K hK => hK)
  refine Seg.step (pc' := 275) (I_lconst (z := 1) dX12_valueOf_274 (by decide) ⟨by decide, by decide⟩) ?_
  refine Seg.step (pc' := 279) (I_goto (tgt := 279) dX12_valueOf_275 (by decide)) ?_
  exact S_lret dX12_valueOf_279 rfl (by decide) (by decide) (fun K hK => hK)
theorem dX12_layTried_0 : decode cX12_layTried 0 = .ok (.iconst 0, 1) := by decide +kernel
theorem dX12_layTried_1 : decode cX12_layTried 1 = .ok (.istore_n 1, 1) := by decide +kernel
theorem dX12_layTried_2 : decode cX12_layTried 2 = .ok (.iload_n 1, 1) := by decide +kernel
theorem dX12_layTried_3 : decode cX12_layTried 3 = .ok (.iconst 5, 1) := by decide +kernel
theorem dX12_layTried_4 : decode cX12_layTried 4 = .ok (.if_icmp .ge 23, 3) := by decide +kernel
theorem dX12_layTried_7 : decode cX12_layTried 7 = .ok (.aload_n 0, 1) := by decide +kernel
theorem dX12_layTried_8 : decode cX12_layTried 8 = .ok (.getfield 97, 3) := by decide +kernel
theorem dX12_layTried_11 : decode cX12_layTried 11 = .ok (.iconst 5, 1) := by decide +kernel
theorem dX12_layTried_12 : decode cX12_layTried 12 = .ok (.iload_n 1, 1) := by decide +kernel
theorem dX12_layTried_13 : decode cX12_layTried 13 = .ok (.iadd, 1) := by decide +kernel
theorem dX12_layTried_14 : decode cX12_layTried 14 = .ok (.aload_n 0, 1) := by decide +kernel
theorem dX12_layTried_15 : decode cX12_layTried 15 = .ok (.getfield 97, 3) := by decide +kernel
theorem dX12_layTried_18 : decode cX12_layTried 18 = .ok (.iload_n 1, 1) := by decide +kernel
theorem dX12_layTried_19 : decode cX12_layTried 19 = .ok (.iaload, 1) := by decide +kernel
theorem dX12_layTried_20 : decode cX12_layTried 20 = .ok (.iastore, 1) := by decide +kernel
theorem dX12_layTried_21 : decode cX12_layTried 21 = .ok (.iinc 1 1, 3) := by decide +kernel
theorem dX12_layTried_24 : decode cX12_layTried 24 = .ok (.goto (-22), 3) := by decide +kernel
theorem dX12_layTried_27 : decode cX12_layTried 27 = .ok (.iconst 0, 1) := by decide +kernel
theorem dX12_layTried_28 : decode cX12_layTried 28 = .ok (.istore_n 1, 1) := by decide +kernel
theorem dX12_layTried_29 : decode cX12_layTried 29 = .ok (.iload_n 1, 1) := by decide +kernel
theorem dX12_layTried_30 : decode cX12_layTried 30 = .ok (.bipush 30, 2) := by decide +kernel
theorem dX12_layTried_32 : decode cX12_layTried 32 = .ok (.if_icmp .ge 24, 3) := by decide +kernel
theorem dX12_layTried_35 : decode cX12_layTried 35 = .ok (.aload_n 0, 1) := by decide +kernel
theorem dX12_layTried_36 : decode cX12_layTried 36 = .ok (.getfield 100, 3) := by decide +kernel
theorem dX12_layTried_39 : decode cX12_layTried 39 = .ok (.bipush 30, 2) := by decide +kernel
theorem dX12_layTried_41 : decode cX12_layTried 41 = .ok (.iload_n 1, 1) := by decide +kernel
theorem dX12_layTried_42 : decode cX12_layTried 42 = .ok (.iadd, 1) := by decide +kernel
theorem dX12_layTried_43 : decode cX12_layTried 43 = .ok (.aload_n 0, 1) := by decide +kernel
theorem dX12_layTried_44 : decode cX12_layTried 44 = .ok (.getfield 100, 3) := by decide +kernel
theorem dX12_layTried_47 : decode cX12_layTried 47 = .ok (.iload_n 1, 1) := by decide +kernel
theorem dX12_layTried_48 : decode cX12_layTried 48 = .ok (.iaload, 1) := by decide +kernel
theorem dX12_layTried_49 : decode cX12_layTried 49 = .ok (.iastore, 1) := by decide +kernel
theorem dX12_layTried_50 : decode cX12_layTried 50 = .ok (.iinc 1 1, 3) := by decide +kernel
theorem dX12_layTried_53 : decode cX12_layTried 53 = .ok (.goto (-24), 3) := by decide +kernel
theorem dX12_layTried_56 : decode cX12_layTried 56 = .ok (.iconst 0, 1) := by decide +kernel
theorem dX12_layTried_57 : decode cX12_layTried 57 = .ok (.istore_n 1, 1) := by decide +kernel
theorem dX12_layTried_58 : decode cX12_layTried 58 = .ok (.iload_n 1, 1) := by decide +kernel
theorem dX12_layTried_59 : decode cX12_layTried 59 = .ok (.iconst 5, 1) := by decide +kernel
theorem dX12_layTried_60 : decode cX12_layTried 60 = .ok (.if_icmp .ge 51, 3) := by decide +kernel
theorem dX12_layTried_63 : decode cX12_layTried 63 = .ok (.aload_n 0, 1) := by decide +kernel
theorem dX12_layTried_64 : decode cX12_layTried 64 = .ok (.getfield 103, 3) := by decide +kernel
theorem dX12_layTried_67 : decode cX12_layTried 67 = .ok (.iconst 5, 1) := by decide +kernel
theorem dX12_layTried_68 : decode cX12_layTried 68 = .ok (.iload_n 1, 1) := by decide +kernel
theorem dX12_layTried_69 : decode cX12_layTried 69 = .ok (.iadd, 1) := by decide +kernel
theorem dX12_layTried_70 : decode cX12_layTried 70 = .ok (.aload_n 0, 1) := by decide +kernel
theorem dX12_layTried_71 : decode cX12_layTried 71 = .ok (.getfield 103, 3) := by decide +kernel
theorem dX12_layTried_74 : decode cX12_layTried 74 = .ok (.iload_n 1, 1) := by decide +kernel
theorem dX12_layTried_75 : decode cX12_layTried 75 = .ok (.iaload, 1) := by decide +kernel
theorem dX12_layTried_76 : decode cX12_layTried 76 = .ok (.iastore, 1) := by decide +kernel
theorem dX12_layTried_77 : decode cX12_layTried 77 = .ok (.aload_n 0, 1) := by decide +kernel
theorem dX12_layTried_78 : decode cX12_layTried 78 = .ok (.getfield 106, 3) := by decide +kernel
theorem dX12_layTried_81 : decode cX12_layTried 81 = .ok (.iconst 5, 1) := by decide +kernel
theorem dX12_layTried_82 : decode cX12_layTried 82 = .ok (.iload_n 1, 1) := by decide +kernel
theorem dX12_layTried_83 : decode cX12_layTried 83 = .ok (.iadd, 1) := by decide +kernel
theorem dX12_layTried_84 : decode cX12_layTried 84 = .ok (.aload_n 0, 1) := by decide +kernel
theorem dX12_layTried_85 : decode cX12_layTried 85 = .ok (.getfield 106, 3) := by decide +kernel
theorem dX12_layTried_88 : decode cX12_layTried 88 = .ok (.iload_n 1, 1) := by decide +kernel
theorem dX12_layTried_89 : decode cX12_layTried 89 = .ok (.iaload, 1) := by decide +kernel
theorem dX12_layTried_90 : decode cX12_layTried 90 = .ok (.iastore, 1) := by decide +kernel
theorem dX12_layTried_91 : decode cX12_layTried 91 = .ok (.aload_n 0, 1) := by decide +kernel
theorem dX12_layTried_92 : decode cX12_layTried 92 = .ok (.getfield 109, 3) := by decide +kernel
theorem dX12_layTried_95 : decode cX12_layTried 95 = .ok (.iconst 5, 1) := by decide +kernel
theorem dX12_layTried_96 : decode cX12_layTried 96 = .ok (.iload_n 1, 1) := by decide +kernel
theorem dX12_layTried_97 : decode cX12_layTried 97 = .ok (.iadd, 1) := by decide +kernel
theorem dX12_layTried_98 : decode cX12_layTried 98 = .ok (.aload_n 0, 1) := by decide +kernel
theorem dX12_layTried_99 : decode cX12_layTried 99 = .ok (.getfield 109, 3) := by decide +kernel
theorem dX12_layTried_102 : decode cX12_layTried 102 = .ok (.iload_n 1, 1) := by decide +kernel
theorem dX12_layTried_103 : decode cX12_layTried 103 = .ok (.baload, 1) := by decide +kernel
theorem dX12_layTried_104 : decode cX12_layTried 104 = .ok (.bastore, 1) := by decide +kernel
theorem dX12_layTried_105 : decode cX12_layTried 105 = .ok (.iinc 1 1, 3) := by decide +kernel
theorem dX12_layTried_108 : decode cX12_layTried 108 = .ok (.goto (-50), 3) := by decide +kernel
theorem dX12_layTried_111 : decode cX12_layTried 111 = .ok (.aload_n 0, 1) := by decide +kernel
theorem dX12_layTried_112 : decode cX12_layTried 112 = .ok (.getfield 112, 3) := by decide +kernel
theorem dX12_layTried_115 : decode cX12_layTried 115 = .ok (.iconst 1, 1) := by decide +kernel
theorem dX12_layTried_116 : decode cX12_layTried 116 = .ok (.aload_n 0, 1) := by decide +kernel
theorem dX12_layTried_117 : decode cX12_layTried 117 = .ok (.getfield 112, 3) := by decide +kernel
theorem dX12_layTried_120 : decode cX12_layTried 120 = .ok (.iconst 0, 1) := by decide +kernel
theorem dX12_layTried_121 : decode cX12_layTried 121 = .ok (.iaload, 1) := by decide +kernel
theorem dX12_layTried_122 : decode cX12_layTried 122 = .ok (.iastore, 1) := by decide +kernel
theorem dX12_layTried_123 : decode cX12_layTried 123 = .ok (.aload_n 0, 1) := by decide +kernel
theorem dX12_layTried_124 : decode cX12_layTried 124 = .ok (.getfield 115, 3) := by decide +kernel
theorem dX12_layTried_127 : decode cX12_layTried 127 = .ok (.iconst 1, 1) := by decide +kernel
theorem dX12_layTried_128 : decode cX12_layTried 128 = .ok (.aload_n 0, 1) := by decide +kernel
theorem dX12_layTried_129 : decode cX12_layTried 129 = .ok (.getfield 115, 3) := by decide +kernel
theorem dX12_layTried_132 : decode cX12_layTried 132 = .ok (.iconst 0, 1) := by decide +kernel
theorem dX12_layTried_133 : decode cX12_layTried 133 = .ok (.iaload, 1) := by decide +kernel
theorem dX12_layTried_134 : decode cX12_layTried 134 = .ok (.iastore, 1) := by decide +kernel
theorem dX12_layTried_135 : decode cX12_layTried 135 = .ok (.aload_n 0, 1) := by decide +kernel
theorem dX12_layTried_136 : decode cX12_layTried 136 = .ok (.getfield 118, 3) := by decide +kernel
theorem dX12_layTried_139 : decode cX12_layTried 139 = .ok (.iconst 1, 1) := by decide +kernel
theorem dX12_layTried_140 : decode cX12_layTried 140 = .ok (.aload_n 0, 1) := by decide +kernel
theorem dX12_layTried_141 : decode cX12_layTried 141 = .ok (.getfield 118, 3) := by decide +kernel
theorem dX12_layTried_144 : decode cX12_layTried 144 = .ok (.iconst 0, 1) := by decide +kernel
theorem dX12_layTried_145 : decode cX12_layTried 145 = .ok (.baload, 1) := by decide +kernel
theorem dX12_layTried_146 : decode cX12_layTried 146 = .ok (.bastore, 1) := by decide +kernel
theorem dX12_layTried_147 : decode cX12_layTried 147 = .ok (.aload_n 0, 1) := by decide +kernel
theorem dX12_layTried_148 : decode cX12_layTried 148 = .ok (.getfield 121, 3) := by decide +kernel
theorem dX12_layTried_151 : decode cX12_layTried 151 = .ok (.iconst 1, 1) := by decide +kernel
theorem dX12_layTried_152 : decode cX12_layTried 152 = .ok (.aload_n 0, 1) := by decide +kernel
theorem dX12_layTried_153 : decode cX12_layTried 153 = .ok (.getfield 121, 3) := by decide +kernel
theorem dX12_layTried_156 : decode cX12_layTried 156 = .ok (.iconst 0, 1) := by decide +kernel
theorem dX12_layTried_157 : decode cX12_layTried 157 = .ok (.iaload, 1) := by decide +kernel
theorem dX12_layTried_158 : decode cX12_layTried 158 = .ok (.iastore, 1) := by decide +kernel
theorem dX12_layTried_159 : decode cX12_layTried 159 = .ok (.aload_n 0, 1) := by decide +kernel
theorem dX12_layTried_160 : decode cX12_layTried 160 = .ok (.getfield 124, 3) := by decide +kernel
theorem dX12_layTried_163 : decode cX12_layTried 163 = .ok (.iconst 1, 1) := by decide +kernel
theorem dX12_layTried_164 : decode cX12_layTried 164 = .ok (.aload_n 0, 1) := by decide +kernel
theorem dX12_layTried_165 : decode cX12_layTried 165 = .ok (.getfield 124, 3) := by decide +kernel
theorem dX12_layTried_168 : decode cX12_layTried 168 = .ok (.iconst 0, 1) := by decide +kernel
theorem dX12_layTried_169 : decode cX12_layTried 169 = .ok (.iaload, 1) := by decide +kernel
theorem dX12_layTried_170 : decode cX12_layTried 170 = .ok (.iastore, 1) := by decide +kernel
theorem dX12_layTried_171 : decode cX12_layTried 171 = .ok (.aload_n 0, 1) := by decide +kernel
theorem dX12_layTried_172 : decode cX12_layTried 172 = .ok (.getfield 127, 3) := by decide +kernel
theorem dX12_layTried_175 : decode cX12_layTried 175 = .ok (.iconst 1, 1) := by decide +kernel
theorem dX12_layTried_176 : decode cX12_layTried 176 = .ok (.aload_n 0, 1) := by decide +kernel
theorem dX12_layTried_177 : decode cX12_layTried 177 = .ok (.getfield 127, 3) := by decide +kernel
theorem dX12_layTried_180 : decode cX12_layTried 180 = .ok (.iconst 0, 1) := by decide +kernel
theorem dX12_layTried_181 : decode cX12_layTried 181 = .ok (.iaload, 1) := by decide +kernel
theorem dX12_layTried_182 : decode cX12_layTried 182 = .ok (.iastore, 1) := by decide +kernel
theorem dX12_layTried_183 : decode cX12_layTried 183 = .ok (.aload_n 0, 1) := by decide +kernel
theorem dX12_layTried_184 : decode cX12_layTried 184 = .ok (.getfield 130, 3) := by decide +kernel
theorem dX12_layTried_187 : decode cX12_layTried 187 = .ok (.iconst 1, 1) := by decide +kernel
theorem dX12_layTried_188 : decode cX12_layTried 188 = .ok (.aload_n 0, 1) := by decide +kernel
theorem dX12_layTried_189 : decode cX12_layTried 189 = .ok (.getfield 130, 3) := by decide +kernel
theorem dX12_layTried_192 : decode cX12_layTried 192 = .ok (.iconst 0, 1) := by decide +kernel
theorem dX12_layTried_193 : decode cX12_layTried 193 = .ok (.iaload, 1) := by decide +kernel
theorem dX12_layTried_194 : decode cX12_layTried 194 = .ok (.iastore, 1) := by decide +kernel
theorem dX12_layTried_195 : decode cX12_layTried 195 = .ok (.aload_n 0, 1) := by decide +kernel
theorem dX12_layTried_196 : decode cX12_layTried 196 = .ok (.invokevirtual 385, 3) := by decide +kernel
theorem dX12_layTried_199 : decode cX12_layTried 199 = .ok (.return_, 1) := by decide +kernel
def f_X12_layTried (M : MM)  : Option (MM) :=
(lp (X := Int × MM) (Y := MM) (fun x1 =>
if x1.1 < 5 then
(gd (0 ≤ x1.1 ∧ x1.1 < (10 : Int)) <|
gd (0 ≤ w32 (5 + x1.1) ∧ w32 (5 + x1.1) < (10 : Int)) <|
bM (upM x1.2 116 (w32 (5 + x1.1)).toNat (x1.2 116 (x1.1).toNat)) fun M5 =>
some (Sum.inl (w32 (x1.1 + 1), M5)))
else
some (Sum.inr x1.2)) FU (0, M)).bind fun x6 =>
(lp (X := Int × MM) (Y := MM) (fun x7 =>
if x7.1 < 30 then
(gd (0 ≤ x7.1 ∧ x7.1 < (60 : Int)) <|
gd (0 ≤ w32 (30 + x7.1) ∧ w32 (30 + x7.1) < (60 : Int)) <|
bM (upM x7.2 117 (w32 (30 + x7.1)).toNat (x7.2 117 (x7.1).toNat)) fun M11 =>
some (Sum.inl (w32 (x7.1 + 1), M11)))
else
some (Sum.inr x7.2)) FU (0, x6)).bind fun x12 =>
(lp (X := Int × MM) (Y := MM) (fun x13 =>
if x13.1 < 5 then
(gd (0 ≤ x13.1 ∧ x13.1 < (10 : Int)) <|
gd (0 ≤ w32 (5 + x13.1) ∧ w32 (5 + x13.1) < (10 : Int)) <|
bM (upM x13.2 118 (w32 (5 + x13.1)).toNat (x13.2 118 (x13.1).toNat)) fun M17 =>
gd (0 ≤ x13.1 ∧ x13.1 < (10 : Int)) <|
gd (0 ≤ w32 (5 + x13.1) ∧ w32 (5 + x13.1) < (10 : Int)) <|
bM (upM M17 119 (w32 (5 + x13.1)).toNat (M17 119 (x13.1).toNat)) fun M20 =>
gd (0 ≤ x13.1 ∧ x13.1 < (10 : Int)) <|
gd (0 ≤ w32 (5 + x13.1) ∧ w32 (5 + x13.1) < (10 : Int)) <|
gd ((M20 120 (x13.1).toNat) = 0 ∨ (M20 120 (x13.1).toNat) = 1) <|
bM (upM M20 120 (w32 (5 + x13.1)).toNat (M20 120 (x13.1).toNat)) fun M24 =>
some (Sum.inl (w32 (x13.1 + 1), M24)))
else
some (Sum.inr x13.2)) FU (0, x12)).bind fun x25 =>
bM (upM x25 121 1 (x25 121 0)) fun M26 =>
bM (upM M26 122 1 (M26 122 0)) fun M27 =>
gd ((M27 123 0) = 0 ∨ (M27 123 0) = 1) <|
bM (upM M27 123 1 (M27 123 0)) fun M29 =>
bM (upM M29 124 1 (M29 124 0)) fun M30 =>
bM (upM M30 125 1 (M30 125 0)) fun M31 =>
bM (upM M31 126 1 (M31 126 0)) fun M32 =>
bM (upM M32 127 1 (M32 127 0)) fun M33 =>
(f_X12_plainTried M33).bind fun x34 =>
some x34
set_option maxRecDepth 4000 in
theorem c_X12_layTried {E : EE} {sh : List (Nat × Nat)} {ex : Bool} {R : RM} {M : MM}  (hE : Ext sh) (hL : Links R) : ∀ y, f_X12_layTried M = some y → MetC E m_X12_layTried 0 0 [rV 88] (sh, ex, R, M) (fun r w' => r = none ∧ w' = (sh, ex, R, y)) := by
  intro y hy
  refine MetC.seg (o := f_X12_layTried M) (t := (fun K y => K (none) (sh, ex, R, y))) (L := [some (rV 88), none]) (by decide) rfl (Nat.le_of_ble_eq_true rfl) ?_ hy ⟨rfl, rfl⟩
  unfold f_X12_layTried
  refine Seg.step (pc' := 1) (I_iconst dX12_layTried_0 ⟨by decide, by decide⟩) ?_
  refine Seg.step (pc' := 2) (I_istore_n (i := 1) dX12_layTried_1 rfl (by decide) rfl) ?_
  refine Seg.forget (Lle.ye (Lle.ye (Lle.nil))) ?_
  refine S_bind (Y := MM) (k' := 0) (n' := 0) 27 (fun y => [some (rV 88), none]) (fun y => []) (fun y => (sh, ex, R, y)) (S_loop (Y := Int × MM) (fun y => [some (rV 88), some (iV y.1)]) (fun y => []) (fun y => (sh, ex, R, y.2)) (fun x1 => ?_) FU (0, M)) (fun x6 => ?_)
  · refine Seg.step (pc' := 3) (I_iload_n (i := 1) dX12_layTried_2 rfl rfl) ?_
    refine Seg.step (pc' := 4) (I_iconst dX12_layTried_3 ⟨by decide, by decide⟩) ?_
    refine S_icmp_ge (tgt := 27) dX12_layTried_4 (by decide) (fun h2 => ?_) (fun h2 => ?_)
    · refine Seg.step (pc' := 8) (I_aload_n (i := 0) dX12_layTried_7 rfl rfl) ?_
      refine Seg.step (pc' := 11) (I_getR cls12 (by decide) wf_12_97 (hE _ _ sk_12) rfl (lk_12_54 hL) dX12_layTried_8) ?_
      refine Seg.step (pc' := 12) (I_iconst dX12_layTried_11 ⟨by decide, by decide⟩) ?_
      refine Seg.step (pc' := 13) (I_iload_n (i := 1) dX12_layTried_12 rfl rfl) ?_
      refine Seg.step (pc' := 14) (I_iadd dX12_layTried_13) ?_
      refine Seg.step (pc' := 15) (I_aload_n (i := 0) dX12_layTried_14 rfl rfl) ?_
      refine Seg.step (pc' := 18) (I_getR cls12 (by decide) wf_12_97 (hE _ _ sk_12) rfl (lk_12_54 hL) dX12_layTried_15) ?_
      refine Seg.step (pc' := 19) (I_iload_n (i := 1) dX12_layTried_18 rfl rfl) ?_
      refine S_gd fun h3 => ?_
      refine Seg.step (pc' := 20) (I_iald (hE _ _ sk_12_54) h3 dX12_layTried_19) ?_
      refine S_gd fun h4 => ?_
      refine Seg.step (pc' := 21) (I_iast (hE _ _ sk_12_54) h4 dX12_layTried_20) ?_
      refine S_bM fun M5 => ?_
      refine Seg.step (pc' := 24) (I_iinc dX12_layTried_21 rfl (by decide) rfl) ?_
      refine Seg.step (pc' := 2) (I_goto (tgt := 2) dX12_layTried_24 (by decide)) ?_
      exact S_arr (fun K hK => GG.forget (Lle.ye (Lle.ye (Lle.nil))) hK)
    exact S_arr (fun K hK => GG.forget (Lle.ye (Lle.no (Lle.nil))) hK)
  refine Seg.step (pc' := 28) (I_iconst dX12_layTried_27 ⟨by decide, by decide⟩) ?_
  refine Seg.step (pc' := 29) (I_istore_n (i := 1) dX12_layTried_28 rfl (by decide) rfl) ?_
  refine Seg.forget (Lle.ye (Lle.ye (Lle.nil))) ?_
  refine S_bind (Y := MM) (k' := 0) (n' := 0) 56 (fun y => [some (rV 88), none]) (fun y => []) (fun y => (sh, ex, R, y)) (S_loop (Y := Int × MM) (fun y => [some (rV 88), some (iV y.1)]) (fun y => []) (fun y => (sh, ex, R, y.2)) (fun x7 => ?_) FU (0, x6)) (fun x12 => ?_)
  · refine Seg.step (pc' := 30) (I_iload_n (i := 1) dX12_layTried_29 rfl rfl) ?_
    refine Seg.step (pc' := 32) (I_bipush dX12_layTried_30 (by decide) ⟨by decide, by decide⟩) ?_
    refine S_icmp_ge (tgt := 56) dX12_layTried_32 (by decide) (fun h8 => ?_) (fun h8 => ?_)
    · refine Seg.step (pc' := 36) (I_aload_n (i := 0) dX12_layTried_35 rfl rfl) ?_
      refine Seg.step (pc' := 39) (I_getR cls12 (by decide) wf_12_100 (hE _ _ sk_12) rfl (lk_12_55 hL) dX12_layTried_36) ?_
      refine Seg.step (pc' := 41) (I_bipush dX12_layTried_39 (by decide) ⟨by decide, by decide⟩) ?_
      refine Seg.step (pc' := 42) (I_iload_n (i := 1) dX12_layTried_41 rfl rfl) ?_
      refine Seg.step (pc' := 43) (I_iadd dX12_layTried_42) ?_
      refine Seg.step (pc' := 44) (I_aload_n (i := 0) dX12_layTried_43 rfl rfl) ?_
      refine Seg.step (pc' := 47) (I_getR cls12 (by decide) wf_12_100 (hE _ _ sk_12) rfl (lk_12_55 hL) dX12_layTried_44) ?_
      refine Seg.step (pc' := 48) (I_iload_n (i := 1) dX12_layTried_47 rfl rfl) ?_
      refine S_gd fun h9 => ?_
      refine Seg.step (pc' := 49) (I_iald (hE _ _ sk_12_55) h9 dX12_layTried_48) ?_
      refine S_gd fun h10 => ?_
      refine Seg.step (pc' := 50) (I_iast (hE _ _ sk_12_55) h10 dX12_layTried_49) ?_
      refine S_bM fun M11 => ?_
      refine Seg.step (pc' := 53) (I_iinc dX12_layTried_50 rfl (by decide) rfl) ?_
      refine Seg.step (pc' := 29) (I_goto (tgt := 29) dX12_layTried_53 (by decide)) ?_
      exact S_arr (fun K hK => GG.forget (Lle.ye (Lle.ye (Lle.nil))) hK)
    exact S_arr (fun K hK => GG.forget (Lle.ye (Lle.no (Lle.nil))) hK)
  refine Seg.step (pc' := 57) (I_iconst dX12_layTried_56 ⟨by decide, by decide⟩) ?_
  refine Seg.step (pc' := 58) (I_istore_n (i := 1) dX12_layTried_57 rfl (by decide) rfl) ?_
  refine Seg.forget (Lle.ye (Lle.ye (Lle.nil))) ?_
  refine S_bind (Y := MM) (k' := 0) (n' := 0) 111 (fun y => [some (rV 88), none]) (fun y => []) (fun y => (sh, ex, R, y)) (S_loop (Y := Int × MM) (fun y => [some (rV 88), some (iV y.1)]) (fun y => []) (fun y => (sh, ex, R, y.2)) (fun x13 => ?_) FU (0, x12)) (fun x25 => ?_)
  · refine Seg.step (pc' := 59) (I_iload_n (i := 1) dX12_layTried_58 rfl rfl) ?_
    refine Seg.step (pc' := 60) (I_iconst dX12_layTried_59 ⟨by decide, by decide⟩) ?_
    refine S_icmp_ge (tgt := 111) dX12_layTried_60 (by decide) (fun h14 => ?_) (fun h14 => ?_)
    · refine Seg.step (pc' := 64) (I_aload_n (i := 0) dX12_layTried_63 rfl rfl) ?_
      refine Seg.step (pc' := 67) (I_getR cls12 (by decide) wf_12_103 (hE _ _ sk_12) rfl (lk_12_56 hL) dX12_layTried_64) ?_
      refine Seg.step (pc' := 68) (I_iconst dX12_layTried_67 ⟨by decide, by decide⟩) ?_
      refine Seg.step (pc' := 69) (I_iload_n (i := 1) dX12_layTried_68 rfl rfl) ?_
      refine Seg.step (pc' := 70) (I_iadd dX12_layTried_69) ?_
      refine Seg.step (pc' := 71) (I_aload_n (i := 0) dX12_layTried_70 rfl rfl) ?_
      refine Seg.step (pc' := 74) (I_getR cls12 (by decide) wf_12_103 (hE _ _ sk_12) rfl (lk_12_56 hL) dX12_layTried_71) ?_
      refine Seg.step (pc' := 75) (I_iload_n (i := 1) dX12_layTried_74 rfl rfl) ?_
      refine S_gd fun h15 => ?_
      refine Seg.step (pc' := 76) (I_iald (hE _ _ sk_12_56) h15 dX12_layTried_75) ?_
      refine S_gd fun h16 => ?_
      refine Seg.step (pc' := 77) (I_iast (hE _ _ sk_12_56) h16 dX12_layTried_76) ?_
      refine S_bM fun M17 => ?_
      refine Seg.step (pc' := 78) (I_aload_n (i := 0) dX12_layTried_77 rfl rfl) ?_
      refine Seg.step (pc' := 81) (I_getR cls12 (by decide) wf_12_106 (hE _ _ sk_12) rfl (lk_12_57 hL) dX12_layTried_78) ?_
      refine Seg.step (pc' := 82) (I_iconst dX12_layTried_81 ⟨by decide, by decide⟩) ?_
      refine Seg.step (pc' := 83) (I_iload_n (i := 1) dX12_layTried_82 rfl rfl) ?_
      refine Seg.step (pc' := 84) (I_iadd dX12_layTried_83) ?_
      refine Seg.step (pc' := 85) (I_aload_n (i := 0) dX12_layTried_84 rfl rfl) ?_
      refine Seg.step (pc' := 88) (I_getR cls12 (by decide) wf_12_106 (hE _ _ sk_12) rfl (lk_12_57 hL) dX12_layTried_85) ?_
      refine Seg.step (pc' := 89) (I_iload_n (i := 1) dX12_layTried_88 rfl rfl) ?_
      refine S_gd fun h18 => ?_
      refine Seg.step (pc' := 90) (I_iald (hE _ _ sk_12_57) h18 dX12_layTried_89) ?_
      refine S_gd fun h19 => ?_
      refine Seg.step (pc' := 91) (I_iast (hE _ _ sk_12_57) h19 dX12_layTried_90) ?_
      refine S_bM fun M20 => ?_
      refine Seg.step (pc' := 92) (I_aload_n (i := 0) dX12_layTried_91 rfl rfl) ?_
      refine Seg.step (pc' := 95) (I_getR cls12 (by decide) wf_12_109 (hE _ _ sk_12) rfl (lk_12_58 hL) dX12_layTried_92) ?_
      refine Seg.step (pc' := 96) (I_iconst dX12_layTried_95 ⟨by decide, by decide⟩) ?_
      refine Seg.step (pc' := 97) (I_iload_n (i := 1) dX12_layTried_96 rfl rfl) ?_
      refine Seg.step (pc' := 98) (I_iadd dX12_layTried_97) ?_
      refine Seg.step (pc' := 99) (I_aload_n (i := 0) dX12_layTried_98 rfl rfl) ?_
      refine Seg.step (pc' := 102) (I_getR cls12 (by decide) wf_12_109 (hE _ _ sk_12) rfl (lk_12_58 hL) dX12_layTried_99) ?_
      refine Seg.step (pc' := 103) (I_iload_n (i := 1) dX12_layTried_102 rfl rfl) ?_
      refine S_gd fun h21 => ?_
      refine Seg.step (pc' := 104) (I_zald (hE _ _ sk_12_58) h21 dX12_layTried_103) ?_
      refine S_gd fun h22 => ?_
      refine S_gd fun h23 => ?_
      refine Seg.step (pc' := 105) (I_zast (hE _ _ sk_12_58) h22 h23 dX12_layTried_104) ?_
      refine S_bM fun M24 => ?_
      refine Seg.step (pc' := 108) (I_iinc dX12_layTried_105 rfl (by decide) rfl) ?_
      refine Seg.step (pc' := 58) (I_goto (tgt := 58) dX12_layTried_108 (by decide)) ?_
      exact S_arr (fun K hK => GG.forget (Lle.ye (Lle.ye (Lle.nil))) hK)
    exact S_arr (fun K hK => GG.forget (Lle.ye (Lle.no (Lle.nil))) hK)
  refine Seg.step (pc' := 112) (I_aload_n (i := 0) dX12_layTried_111 rfl rfl) ?_
  refine Seg.step (pc' := 115) (I_getR cls12 (by decide) wf_12_112 (hE _ _ sk_12) rfl (lk_12_59 hL) dX12_layTried_112) ?_
  refine Seg.step (pc' := 116) (I_iconst dX12_layTried_115 ⟨by decide, by decide⟩) ?_
  refine Seg.step (pc' := 117) (I_aload_n (i := 0) dX12_layTried_116 rfl rfl) ?_
  refine Seg.step (pc' := 120) (I_getR cls12 (by decide) wf_12_112 (hE _ _ sk_12) rfl (lk_12_59 hL) dX12_layTried_117) ?_
  refine Seg.step (pc' := 121) (I_iconst dX12_layTried_120 ⟨by decide, by decide⟩) ?_
  refine Seg.step (pc' := 122) (I_iald (hE _ _ sk_12_59) ⟨by decide, by decide⟩ dX12_layTried_121) ?_
  refine Seg.step (pc' := 123) (I_iast (hE _ _ sk_12_59) ⟨by decide, by decide⟩ dX12_layTried_122) ?_
  refine S_bM fun M26 => ?_
  refine Seg.step (pc' := 124) (I_aload_n (i := 0) dX12_layTried_123 rfl rfl) ?_
  refine Seg.step (pc' := 127) (I_getR cls12 (by decide) wf_12_115 (hE _ _ sk_12) rfl (lk_12_60 hL) dX12_layTried_124) ?_
  refine Seg.step (pc' := 128) (I_iconst dX12_layTried_127 ⟨by decide, by decide⟩) ?_
  refine Seg.step (pc' := 129) (I_aload_n (i := 0) dX12_layTried_128 rfl rfl) ?_
  refine Seg.step (pc' := 132) (I_getR cls12 (by decide) wf_12_115 (hE _ _ sk_12) rfl (lk_12_60 hL) dX12_layTried_129) ?_
  refine Seg.step (pc' := 133) (I_iconst dX12_layTried_132 ⟨by decide, by decide⟩) ?_
  refine Seg.step (pc' := 134) (I_iald (hE _ _ sk_12_60) ⟨by decide, by decide⟩ dX12_layTried_133) ?_
  refine Seg.step (pc' := 135) (I_iast (hE _ _ sk_12_60) ⟨by decide, by decide⟩ dX12_layTried_134) ?_
  refine S_bM fun M27 => ?_
  refine Seg.step (pc' := 136) (I_aload_n (i := 0) dX12_layTried_135 rfl rfl) ?_
  refine Seg.step (pc' := 139) (I_getR cls12 (by decide) wf_12_118 (hE _ _ sk_12) rfl (lk_12_61 hL) dX12_layTried_136) ?_
  refine Seg.step (pc' := 140) (I_iconst dX12_layTried_139 ⟨by decide, by decide⟩) ?_
  refine Seg.step (pc' := 141) (I_aload_n (i := 0) dX12_layTried_140 rfl rfl) ?_
  refine Seg.step (pc' := 144) (I_getR cls12 (by decide) wf_12_118 (hE _ _ sk_12) rfl (lk_12_61 hL) dX12_layTried_141) ?_
  refine Seg.step (pc' := 145) (I_iconst dX12_layTried_144 ⟨by decide, by decide⟩) ?_
  refine Seg.step (pc' := 146) (I_zald (hE _ _ sk_12_61) ⟨by decide, by decide⟩ dX12_layTried_145) ?_
  refine S_gd fun h28 => ?_
  refine Seg.step (pc' := 147) (I_zast (hE _ _ sk_12_61) ⟨by decide, by decide⟩ h28 dX12_layTried_146) ?_
  refine S_bM fun M29 => ?_
  refine Seg.step (pc' := 148) (I_aload_n (i := 0) dX12_layTried_147 rfl rfl) ?_
  refine Seg.step (pc' := 151) (I_getR cls12 (by decide) wf_12_121 (hE _ _ sk_12) rfl (lk_12_62 hL) dX12_layTried_148) ?_
  refine Seg.step (pc' := 152) (I_iconst dX12_layTried_151 ⟨by decide, by decide⟩) ?_
  refine Seg.step (pc' := 153) (I_aload_n (i := 0) dX12_layTried_152 rfl rfl) ?_
  refine Seg.step (pc' := 156) (I_getR cls12 (by decide) wf_12_121 (hE _ _ sk_12) rfl (lk_12_62 hL) dX12_layTried_153) ?_
  refine Seg.step (pc' := 157) (I_iconst dX12_layTried_156 ⟨by decide, by decide⟩) ?_
  refine Seg.step (pc' := 158) (I_iald (hE _ _ sk_12_62) ⟨by decide, by decide⟩ dX12_layTried_157) ?_
  refine Seg.step (pc' := 159) (I_iast (hE _ _ sk_12_62) ⟨by decide, by decide⟩ dX12_layTried_158) ?_
  refine S_bM fun M30 => ?_
  refine Seg.step (pc' := 160) (I_aload_n (i := 0) dX12_layTried_159 rfl rfl) ?_
  refine Seg.step (pc' := 163) (I_getR cls12 (by decide) wf_12_124 (hE _ _ sk_12) rfl (lk_12_63 hL) dX12_layTried_160) ?_
  refine Seg.step (pc' := 164) (I_iconst dX12_layTried_163 ⟨by decide, by decide⟩) ?_
  refine Seg.step (pc' := 165) (I_aload_n (i := 0) dX12_layTried_164 rfl rfl) ?_
  refine Seg.step (pc' := 168) (I_getR cls12 (by decide) wf_12_124 (hE _ _ sk_12) rfl (lk_12_63 hL) dX12_layTried_165) ?_
  refine Seg.step (pc' := 169) (I_iconst dX12_layTried_168 ⟨by decide, by decide⟩) ?_
  refine Seg.step (pc' := 170) (I_iald (hE _ _ sk_12_63) ⟨by decide, by decide⟩ dX12_layTried_169) ?_
  refine Seg.step (pc' := 171) (I_iast (hE _ _ sk_12_63) ⟨by decide, by decide⟩ dX12_layTried_170) ?_
  refine S_bM fun M31 => ?_
  refine Seg.step (pc' := 172) (I_aload_n (i := 0) dX12_layTried_171 rfl rfl) ?_
  refine Seg.step (pc' := 175) (I_getR cls12 (by decide) wf_12_127 (hE _ _ sk_12) rfl (lk_12_64 hL) dX12_layTried_172) ?_
  refine Seg.step (pc' := 176) (I_iconst dX12_layTried_175 ⟨by decide, by decide⟩) ?_
  refine Seg.step (pc' := 177) (I_aload_n (i := 0) dX12_layTried_176 rfl rfl) ?_
  refine Seg.step (pc' := 180) (I_getR cls12 (by decide) wf_12_127 (hE _ _ sk_12) rfl (lk_12_64 hL) dX12_layTried_177) ?_
  refine Seg.step (pc' := 181) (I_iconst dX12_layTried_180 ⟨by decide, by decide⟩) ?_
  refine Seg.step (pc' := 182) (I_iald (hE _ _ sk_12_64) ⟨by decide, by decide⟩ dX12_layTried_181) ?_
  refine Seg.step (pc' := 183) (I_iast (hE _ _ sk_12_64) ⟨by decide, by decide⟩ dX12_layTried_182) ?_
  refine S_bM fun M32 => ?_
  refine Seg.step (pc' := 184) (I_aload_n (i := 0) dX12_layTried_183 rfl rfl) ?_
  refine Seg.step (pc' := 187) (I_getR cls12 (by decide) wf_12_130 (hE _ _ sk_12) rfl (lk_12_65 hL) dX12_layTried_184) ?_
  refine Seg.step (pc' := 188) (I_iconst dX12_layTried_187 ⟨by decide, by decide⟩) ?_
  refine Seg.step (pc' := 189) (I_aload_n (i := 0) dX12_layTried_188 rfl rfl) ?_
  refine Seg.step (pc' := 192) (I_getR cls12 (by decide) wf_12_130 (hE _ _ sk_12) rfl (lk_12_65 hL) dX12_layTried_189) ?_
  refine Seg.step (pc' := 193) (I_iconst dX12_layTried_192 ⟨by decide, by decide⟩) ?_
  refine Seg.step (pc' := 194) (I_iald (hE _ _ sk_12_65) ⟨by decide, by decide⟩ dX12_layTried_193) ?_
  refine Seg.step (pc' := 195) (I_iast (hE _ _ sk_12_65) ⟨by decide, by decide⟩ dX12_layTried_194) ?_
  refine S_bM fun M33 => ?_
  refine Seg.step (pc' := 196) (I_aload_n (i := 0) dX12_layTried_195 rfl rfl) ?_
  refine S_callV0 (md' := m_X12_plainTried) (fun y => none) (fun y => (sh, ex, R, y)) (hE _ _ sk_12) ⟨by decide, rfl⟩ mm_X12_plainTried wm_12_385 ⟨rfl, rfl, by decide, by decide, by decide, by decide⟩ (Nat.le_of_ble_eq_true rfl) dX12_layTried_196 (fun y hy => c_X12_plainTried hE hL y hy) (fun x34 => ?_)
  exact S_vret dX12_layTried_199 rfl (by decide) (by decide) (fun K hK => hK)
