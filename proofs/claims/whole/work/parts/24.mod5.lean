theorem dX12_noted_0 : decode cX12_noted 0 = .ok (.aload_n 0, 1) := by decide +kernel
theorem dX12_noted_1 : decode cX12_noted 1 = .ok (.getfield 145, 3) := by decide +kernel
theorem dX12_noted_4 : decode cX12_noted 4 = .ok (.iconst 3, 1) := by decide +kernel
theorem dX12_noted_5 : decode cX12_noted 5 = .ok (.aload_n 0, 1) := by decide +kernel
theorem dX12_noted_6 : decode cX12_noted 6 = .ok (.getfield 388, 3) := by decide +kernel
theorem dX12_noted_9 : decode cX12_noted 9 = .ok (.imul, 1) := by decide +kernel
theorem dX12_noted_10 : decode cX12_noted 10 = .ok (.iload_n 1, 1) := by decide +kernel
theorem dX12_noted_11 : decode cX12_noted 11 = .ok (.iastore, 1) := by decide +kernel
theorem dX12_noted_12 : decode cX12_noted 12 = .ok (.aload_n 0, 1) := by decide +kernel
theorem dX12_noted_13 : decode cX12_noted 13 = .ok (.getfield 145, 3) := by decide +kernel
theorem dX12_noted_16 : decode cX12_noted 16 = .ok (.iconst 3, 1) := by decide +kernel
theorem dX12_noted_17 : decode cX12_noted 17 = .ok (.aload_n 0, 1) := by decide +kernel
theorem dX12_noted_18 : decode cX12_noted 18 = .ok (.getfield 388, 3) := by decide +kernel
theorem dX12_noted_21 : decode cX12_noted 21 = .ok (.imul, 1) := by decide +kernel
theorem dX12_noted_22 : decode cX12_noted 22 = .ok (.iconst 1, 1) := by decide +kernel
theorem dX12_noted_23 : decode cX12_noted 23 = .ok (.iadd, 1) := by decide +kernel
theorem dX12_noted_24 : decode cX12_noted 24 = .ok (.iload_n 2, 1) := by decide +kernel
theorem dX12_noted_25 : decode cX12_noted 25 = .ok (.iastore, 1) := by decide +kernel
theorem dX12_noted_26 : decode cX12_noted 26 = .ok (.aload_n 0, 1) := by decide +kernel
theorem dX12_noted_27 : decode cX12_noted 27 = .ok (.getfield 145, 3) := by decide +kernel
theorem dX12_noted_30 : decode cX12_noted 30 = .ok (.iconst 3, 1) := by decide +kernel
theorem dX12_noted_31 : decode cX12_noted 31 = .ok (.aload_n 0, 1) := by decide +kernel
theorem dX12_noted_32 : decode cX12_noted 32 = .ok (.getfield 388, 3) := by decide +kernel
theorem dX12_noted_35 : decode cX12_noted 35 = .ok (.imul, 1) := by decide +kernel
theorem dX12_noted_36 : decode cX12_noted 36 = .ok (.iconst 2, 1) := by decide +kernel
theorem dX12_noted_37 : decode cX12_noted 37 = .ok (.iadd, 1) := by decide +kernel
theorem dX12_noted_38 : decode cX12_noted 38 = .ok (.iload_n 3, 1) := by decide +kernel
theorem dX12_noted_39 : decode cX12_noted 39 = .ok (.iastore, 1) := by decide +kernel
theorem dX12_noted_40 : decode cX12_noted 40 = .ok (.aload_n 0, 1) := by decide +kernel
theorem dX12_noted_41 : decode cX12_noted 41 = .ok (.dup, 1) := by decide +kernel
theorem dX12_noted_42 : decode cX12_noted 42 = .ok (.getfield 388, 3) := by decide +kernel
theorem dX12_noted_45 : decode cX12_noted 45 = .ok (.iconst 1, 1) := by decide +kernel
theorem dX12_noted_46 : decode cX12_noted 46 = .ok (.iadd, 1) := by decide +kernel
theorem dX12_noted_47 : decode cX12_noted 47 = .ok (.putfield 388, 3) := by decide +kernel
theorem dX12_noted_50 : decode cX12_noted 50 = .ok (.aload_n 0, 1) := by decide +kernel
theorem dX12_noted_51 : decode cX12_noted 51 = .ok (.getfield 388, 3) := by decide +kernel
theorem dX12_noted_54 : decode cX12_noted 54 = .ok (.iconst 1, 1) := by decide +kernel
theorem dX12_noted_55 : decode cX12_noted 55 = .ok (.isub, 1) := by decide +kernel
theorem dX12_noted_56 : decode cX12_noted 56 = .ok (.ireturn, 1) := by decide +kernel
def f_X12_noted (M : MM) (p1 : Int) (p2 : Int) (p3 : Int) : Option (Int × MM) :=
gd (0 ≤ w32 (3 * (M 88 80)) ∧ w32 (3 * (M 88 80)) < (72 : Int)) <|
bM (upM M 131 (w32 (3 * (M 88 80))).toNat p1) fun M2 =>
gd (0 ≤ w32 ((w32 (3 * (M2 88 80))) + 1) ∧ w32 ((w32 (3 * (M2 88 80))) + 1) < (72 : Int)) <|
bM (upM M2 131 (w32 ((w32 (3 * (M2 88 80))) + 1)).toNat p2) fun M4 =>
gd (0 ≤ w32 ((w32 (3 * (M4 88 80))) + 2) ∧ w32 ((w32 (3 * (M4 88 80))) + 2) < (72 : Int)) <|
bM (upM M4 131 (w32 ((w32 (3 * (M4 88 80))) + 2)).toNat p3) fun M6 =>
bM (upM M6 88 80 (w32 ((M6 88 80) + 1))) fun M7 =>
some (w32 ((M7 88 80) - 1), M7)
set_option maxRecDepth 4000 in
theorem c_X12_noted {E : EE} {sh : List (Nat × Nat)} {ex : Bool} {R : RM} {M : MM} {p1 : Int} {p2 : Int} {p3 : Int} (hE : Ext sh) (hL : Links R) : ∀ y, f_X12_noted M p1 p2 p3 = some y → MetC E m_X12_noted 0 0 [rV 88, iV p1, iV p2, iV p3] (sh, ex, R, M) (fun r w' => r = some (iV y.1) ∧ w' = (sh, ex, R, y.2)) := by
  intro y hy
  refine MetC.seg (o := f_X12_noted M p1 p2 p3) (t := (fun K y => K (some (iV y.1)) (sh, ex, R, y.2))) (L := [some (rV 88), some (iV p1), some (iV p2), some (iV p3)]) (by decide) rfl (Nat.le_of_ble_eq_true rfl) ?_ hy ⟨rfl, rfl⟩
  unfold f_X12_noted
  refine Seg.step (pc' := 1) (I_aload_n (i := 0) dX12_noted_0 rfl rfl) ?_
  refine Seg.step (pc' := 4) (I_getR cls12 (by decide) wf_12_145 (hE _ _ sk_12) rfl (lk_12_82 hL) dX12_noted_1) ?_
  refine Seg.step (pc' := 5) (I_iconst dX12_noted_4 ⟨by decide, by decide⟩) ?_
  refine Seg.step (pc' := 6) (I_aload_n (i := 0) dX12_noted_5 rfl rfl) ?_
  refine Seg.step (pc' := 9) (I_getI cls12 (by decide) wf_12_388 (hE _ _ sk_12) rfl dX12_noted_6) ?_
  refine Seg.step (pc' := 10) (I_imul dX12_noted_9) ?_
  refine Seg.step (pc' := 11) (I_iload_n (i := 1) dX12_noted_10 rfl rfl) ?_
  refine S_gd fun h1 => ?_
  refine Seg.step (pc' := 12) (I_iast (hE _ _ sk_12_82) h1 dX12_noted_11) ?_
  refine S_bM fun M2 => ?_
  refine Seg.step (pc' := 13) (I_aload_n (i := 0) dX12_noted_12 rfl rfl) ?_
  refine Seg.step (pc' := 16) (I_getR cls12 (by decide) wf_12_145 (hE _ _ sk_12) rfl (lk_12_82 hL) dX12_noted_13) ?_
  refine Seg.step (pc' := 17) (I_iconst dX12_noted_16 ⟨by decide, by decide⟩) ?_
  refine Seg.step (pc' := 18) (I_aload_n (i := 0) dX12_noted_17 rfl rfl) ?_
  refine Seg.step (pc' := 21) (I_getI cls12 (by decide) wf_12_388 (hE _ _ sk_12) rfl dX12_noted_18) ?_
  refine Seg.step (pc' := 22) (I_imul dX12_noted_21) ?_
  refine Seg.step (pc' := 23) (I_iconst dX12_noted_22 ⟨by decide, by decide⟩) ?_
  refine Seg.step (pc' := 24) (I_iadd dX12_noted_23) ?_
  refine Seg.step (pc' := 25) (I_iload_n (i := 2) dX12_noted_24 rfl rfl) ?_
  refine S_gd fun h3 => ?_
  refine Seg.step (pc' := 26) (I_iast (hE _ _ sk_12_82) h3 dX12_noted_25) ?_
  refine S_bM fun M4 => ?_
  refine Seg.step (pc' := 27) (I_aload_n (i := 0) dX12_noted_26 rfl rfl) ?_
  refine Seg.step (pc' := 30) (I_getR cls12 (by decide) wf_12_145 (hE _ _ sk_12) rfl (lk_12_82 hL) dX12_noted_27) ?_
  refine Seg.step (pc' := 31) (I_iconst dX12_noted_30 ⟨by decide, by decide⟩) ?_
  refine Seg.step (pc' := 32) (I_aload_n (i := 0) dX12_noted_31 rfl rfl) ?_
  refine Seg.step (pc' := 35) (I_getI cls12 (by decide) wf_12_388 (hE _ _ sk_12) rfl dX12_noted_32) ?_
  refine Seg.step (pc' := 36) (I_imul dX12_noted_35) ?_
  refine Seg.step (pc' := 37) (I_iconst dX12_noted_36 ⟨by decide, by decide⟩) ?_
  refine Seg.step (pc' := 38) (I_iadd dX12_noted_37) ?_
  refine Seg.step (pc' := 39) (I_iload_n (i := 3) dX12_noted_38 rfl rfl) ?_
  refine S_gd fun h5 => ?_
  refine Seg.step (pc' := 40) (I_iast (hE _ _ sk_12_82) h5 dX12_noted_39) ?_
  refine S_bM fun M6 => ?_
  refine Seg.step (pc' := 41) (I_aload_n (i := 0) dX12_noted_40 rfl rfl) ?_
  refine Seg.step (pc' := 42) (I_dup dX12_noted_41 (fun _ h => by cases h)) ?_
  refine Seg.step (pc' := 45) (I_getI cls12 (by decide) wf_12_388 (hE _ _ sk_12) rfl dX12_noted_42) ?_
  refine Seg.step (pc' := 46) (I_iconst dX12_noted_45 ⟨by decide, by decide⟩) ?_
  refine Seg.step (pc' := 47) (I_iadd dX12_noted_46) ?_
  refine Seg.step (pc' := 50) (I_putI cls12 (by decide) wf_12_388 (hE _ _ sk_12) rfl rfl dX12_noted_47) ?_
  refine S_bM fun M7 => ?_
  refine Seg.step (pc' := 51) (I_aload_n (i := 0) dX12_noted_50 rfl rfl) ?_
  refine Seg.step (pc' := 54) (I_getI cls12 (by decide) wf_12_388 (hE _ _ sk_12) rfl dX12_noted_51) ?_
  refine Seg.step (pc' := 55) (I_iconst dX12_noted_54 ⟨by decide, by decide⟩) ?_
  refine Seg.step (pc' := 56) (I_isub dX12_noted_55) ?_
  exact S_iret dX12_noted_56 rfl (by decide) (by decide) (fun K hK => hK)
theorem dX12_wear_0 : decode cX12_wear 0 = .ok (.aload_n 0, 1) := by decide +kernel
theorem dX12_wear_1 : decode cX12_wear 1 = .ok (.iconst 0, 1) := by decide +kernel
theorem dX12_wear_2 : decode cX12_wear 2 = .ok (.putfield 175, 3) := by decide +kernel
theorem dX12_wear_5 : decode cX12_wear 5 = .ok (.aload_n 0, 1) := by decide +kernel
theorem dX12_wear_6 : decode cX12_wear 6 = .ok (.getfield 388, 3) := by decide +kernel
theorem dX12_wear_9 : decode cX12_wear 9 = .ok (.bipush 24, 2) := by decide +kernel
theorem dX12_wear_11 : decode cX12_wear 11 = .ok (.if_icmp .eq 20, 3) := by decide +kernel
theorem dX12_wear_14 : decode cX12_wear 14 = .ok (.iload_n 1, 1) := by decide +kernel
theorem dX12_wear_15 : decode cX12_wear 15 = .ok (.iconst 1, 1) := by decide +kernel
theorem dX12_wear_16 : decode cX12_wear 16 = .ok (.bipush 60, 2) := by decide +kernel
theorem dX12_wear_18 : decode cX12_wear 18 = .ok (.invokestatic 220, 3) := by decide +kernel
theorem dX12_wear_21 : decode cX12_wear 21 = .ok (.ifCond .eq 10, 3) := by decide +kernel
theorem dX12_wear_24 : decode cX12_wear 24 = .ok (.iload_n 2, 1) := by decide +kernel
theorem dX12_wear_25 : decode cX12_wear 25 = .ok (.invokestatic 493, 3) := by decide +kernel
theorem dX12_wear_28 : decode cX12_wear 28 = .ok (.ifCond .ne 7, 3) := by decide +kernel
theorem dX12_wear_31 : decode cX12_wear 31 = .ok (.iconst (-1), 1) := by decide +kernel
theorem dX12_wear_32 : decode cX12_wear 32 = .ok (.goto 18, 3) := by decide +kernel
theorem dX12_wear_35 : decode cX12_wear 35 = .ok (.aload_n 0, 1) := by decide +kernel
theorem dX12_wear_36 : decode cX12_wear 36 = .ok (.iload_n 1, 1) := by decide +kernel
theorem dX12_wear_37 : decode cX12_wear 37 = .ok (.iload_n 2, 1) := by decide +kernel
theorem dX12_wear_38 : decode cX12_wear 38 = .ok (.iload_n 3, 1) := by decide +kernel
theorem dX12_wear_39 : decode cX12_wear 39 = .ok (.ifCond .eq 7, 3) := by decide +kernel
theorem dX12_wear_42 : decode cX12_wear 42 = .ok (.iconst 1, 1) := by decide +kernel
theorem dX12_wear_43 : decode cX12_wear 43 = .ok (.goto 4, 3) := by decide +kernel
theorem dX12_wear_46 : decode cX12_wear 46 = .ok (.iconst 0, 1) := by decide +kernel
theorem dX12_wear_47 : decode cX12_wear 47 = .ok (.invokevirtual 533, 3) := by decide +kernel
theorem dX12_wear_50 : decode cX12_wear 50 = .ok (.ireturn, 1) := by decide +kernel
def f_X12_wear (M : MM) (p1 : Int) (p2 : Int) (p3 : Int) : Option (Int × MM) :=
bM (upM M 88 2 0) fun M1 =>
if (M1 88 80) = 24 then
(some ((-1), M1))
else
(f_X12_isIn M1 p1 1 60).bind fun x3 =>
if x3 = 0 then
(some ((-1), M1))
else
(f_X12_isSet M1 p2).bind fun x5 =>
if x5 = 0 then
(some ((-1), M1))
else
((if p3 = 0 then
(some 0)
else
some 1) : Option (Int)).bind fun x8 =>
(f_X12_noted M1 p1 p2 x8).bind fun x9 =>
some (x9.1, x9.2)
set_option maxRecDepth 4000 in
theorem c_X12_wear {E : EE} {sh : List (Nat × Nat)} {ex : Bool} {R : RM} {M : MM} {p1 : Int} {p2 : Int} {p3 : Int} (hE : Ext sh) (hL : Links R) : ∀ y, f_X12_wear M p1 p2 p3 = some y → MetC E m_X12_wear 0 0 [rV 88, iV p1, iV p2, iV p3] (sh, ex, R, M) (fun r w' => r = some (iV y.1) ∧ w' = (sh, ex, R, y.2)) := by
  intro y hy
  refine MetC.seg (o := f_X12_wear M p1 p2 p3) (t := (fun K y => K (some (iV y.1)) (sh, ex, R, y.2))) (L := [some (rV 88), some (iV p1), some (iV p2), some (iV p3)]) (by decide) rfl (Nat.le_of_ble_eq_true rfl) ?_ hy ⟨rfl, rfl⟩
  unfold f_X12_wear
  refine Seg.step (pc' := 1) (I_aload_n (i := 0) dX12_wear_0 rfl rfl) ?_
  refine Seg.step (pc' := 2) (I_iconst dX12_wear_1 ⟨by decide, by decide⟩) ?_
  refine Seg.step (pc' := 5) (I_putI cls12 (by decide) wf_12_175 (hE _ _ sk_12) rfl rfl dX12_wear_2) ?_
  refine S_bM fun M1 => ?_
  refine Seg.step (pc' := 6) (I_aload_n (i := 0) dX12_wear_5 rfl rfl) ?_
  refine Seg.step (pc' := 9) (I_getI cls12 (by decide) wf_12_388 (hE _ _ sk_12) rfl dX12_wear_6) ?_
  refine Seg.step (pc' := 11) (I_bipush dX12_wear_9 (by decide) ⟨by decide, by decide⟩) ?_
  refine S_icmp_eq (tgt := 31) dX12_wear_11 (by decide) (fun h2 => ?_) (fun h2 => ?_)
  · refine Seg.step (pc' := 32) (I_iconst dX12_wear_31 ⟨by decide, by decide⟩) ?_
    refine Seg.step (pc' := 50) (I_goto (tgt := 50) dX12_wear_32 (by decide)) ?_
    exact S_iret dX12_wear_50 rfl (by decide) (by decide) (fun K hK => hK)
  refine Seg.step (pc' := 15) (I_iload_n (i := 1) dX12_wear_14 rfl rfl) ?_
  refine Seg.step (pc' := 16) (I_iconst dX12_wear_15 ⟨by decide, by decide⟩) ?_
  refine Seg.step (pc' := 18) (I_bipush dX12_wear_16 (by decide) ⟨by decide, by decide⟩) ?_
  refine S_callS3 (md' := m_X12_isIn) (fun y => some (iV y)) (fun y => (sh, ex, R, M1)) mm_X12_isIn wm_12_220 ⟨rfl, rfl, by decide, by decide, by decide, by decide⟩ (Nat.le_of_ble_eq_true rfl) dX12_wear_18 (fun y hy => c_X12_isIn hE hL y hy) (fun x3 => ?_)
  refine S_if_eq (tgt := 31) dX12_wear_21 (by decide) (fun h4 => ?_) (fun h4 => ?_)
  · refine Seg.step (pc' := 32) (I_iconst dX12_wear_31 ⟨by decide, by decide⟩) ?_
    refine Seg.step (pc' := 50) (I_goto (tgt := 50) dX12_wear_32 (by decide)) ?_
    exact S_iret dX12_wear_50 rfl (by decide) (by decide) (fun K hK => hK)
  refine Seg.step (pc' := 25) (I_iload_n (i := 2) dX12_wear_24 rfl rfl) ?_
  refine S_callS1 (md' := m_X12_isSet) (fun y => some (iV y)) (fun y => (sh, ex, R, M1)) mm_X12_isSet wm_12_493 ⟨rfl, rfl, by decide, by decide, by decide, by decide⟩ (Nat.le_of_ble_eq_true rfl) dX12_wear_25 (fun y hy => c_X12_isSet hE hL y hy) (fun x5 => ?_)
  refine S_if_ne (tgt := 35) dX12_wear_28 (by decide) (fun h6 => ?_) (fun h6 => ?_)
  · refine Seg.step (pc' := 32) (I_iconst dX12_wear_31 ⟨by decide, by decide⟩) ?_
    refine Seg.step (pc' := 50) (I_goto (tgt := 50) dX12_wear_32 (by decide)) ?_
    exact S_iret dX12_wear_50 rfl (by decide) (by decide) (fun K hK => hK)
  refine Seg.step (pc' := 36) (I_aload_n (i := 0) dX12_wear_35 rfl rfl) ?_
  refine Seg.step (pc' := 37) (I_iload_n (i := 1) dX12_wear_36 rfl rfl) ?_
  refine Seg.step (pc' := 38) (I_iload_n (i := 2) dX12_wear_37 rfl rfl) ?_
  refine Seg.step (pc' := 39) (I_iload_n (i := 3) dX12_wear_38 rfl rfl) ?_
  refine S_bind (Y := Int) (k' := 0) (n' := 0) 47 (fun y => [none, none, none, none]) (fun y => [iV y, iV p2, iV p1, rV 88]) (fun y => (sh, ex, R, M1)) ?_ (fun x8 => ?_)
  · refine S_if_eq (tgt := 46) dX12_wear_39 (by decide) (fun h7 => ?_) (fun h7 => ?_)
    · refine Seg.step (pc' := 47) (I_iconst dX12_wear_46 ⟨by decide, by decide⟩) ?_
      exact S_arr (fun K hK => GG.forget (Lle.no (Lle.no (Lle.no (Lle.no (Lle.nil))))) hK)
    refine Seg.step (pc' := 43) (I_iconst dX12_wear_42 ⟨by decide, by decide⟩) ?_
    refine Seg.step (pc' := 47) (I_goto (tgt := 47) dX12_wear_43 (by decide)) ?_
    exact S_arr (fun K hK => GG.forget (Lle.no (Lle.no (Lle.no (Lle.no (Lle.nil))))) hK)
  refine S_callV3 (md' := m_X12_noted) (fun y => some (iV y.1)) (fun y => (sh, ex, R, y.2)) (hE _ _ sk_12) ⟨by decide, rfl⟩ mm_X12_noted wm_12_533 ⟨rfl, rfl, by decide, by decide, by decide, by decide⟩ (Nat.le_of_ble_eq_true rfl) dX12_wear_47 (fun y hy => c_X12_noted hE hL y hy) (fun x9 => ?_)
  exact S_iret dX12_wear_50 rfl (by decide) (by decide) (fun K hK => hK)
theorem dX12_strike_0 : decode cX12_strike 0 = .ok (.aload_n 0, 1) := by decide +kernel
theorem dX12_strike_1 : decode cX12_strike 1 = .ok (.iconst 0, 1) := by decide +kernel
theorem dX12_strike_2 : decode cX12_strike 2 = .ok (.putfield 175, 3) := by decide +kernel
theorem dX12_strike_5 : decode cX12_strike 5 = .ok (.aload_n 0, 1) := by decide +kernel
theorem dX12_strike_6 : decode cX12_strike 6 = .ok (.getfield 388, 3) := by decide +kernel
theorem dX12_strike_9 : decode cX12_strike 9 = .ok (.bipush 24, 2) := by decide +kernel
theorem dX12_strike_11 : decode cX12_strike 11 = .ok (.if_icmp .eq 15, 3) := by decide +kernel
theorem dX12_strike_14 : decode cX12_strike 14 = .ok (.iload_n 1, 1) := by decide +kernel
theorem dX12_strike_15 : decode cX12_strike 15 = .ok (.ifCond .lt 11, 3) := by decide +kernel
theorem dX12_strike_18 : decode cX12_strike 18 = .ok (.iload_n 1, 1) := by decide +kernel
theorem dX12_strike_19 : decode cX12_strike 19 = .ok (.aload_n 0, 1) := by decide +kernel
theorem dX12_strike_20 : decode cX12_strike 20 = .ok (.getfield 388, 3) := by decide +kernel
theorem dX12_strike_23 : decode cX12_strike 23 = .ok (.if_icmp .lt 7, 3) := by decide +kernel
theorem dX12_strike_26 : decode cX12_strike 26 = .ok (.iconst (-1), 1) := by decide +kernel
theorem dX12_strike_27 : decode cX12_strike 27 = .ok (.goto 10, 3) := by decide +kernel
theorem dX12_strike_30 : decode cX12_strike 30 = .ok (.aload_n 0, 1) := by decide +kernel
theorem dX12_strike_31 : decode cX12_strike 31 = .ok (.iconst (-1), 1) := by decide +kernel
theorem dX12_strike_32 : decode cX12_strike 32 = .ok (.iload_n 1, 1) := by decide +kernel
theorem dX12_strike_33 : decode cX12_strike 33 = .ok (.iconst 0, 1) := by decide +kernel
theorem dX12_strike_34 : decode cX12_strike 34 = .ok (.invokevirtual 533, 3) := by decide +kernel
theorem dX12_strike_37 : decode cX12_strike 37 = .ok (.ireturn, 1) := by decide +kernel
def f_X12_strike (M : MM) (p1 : Int) : Option (Int × MM) :=
bM (upM M 88 2 0) fun M1 =>
if (M1 88 80) = 24 then
(some ((-1), M1))
else
if p1 < 0 then
(some ((-1), M1))
else
if p1 < (M1 88 80) then
((f_X12_noted M1 (-1) p1 0).bind fun x5 =>
some (x5.1, x5.2))
else
some ((-1), M1)
set_option maxRecDepth 4000 in
theorem c_X12_strike {E : EE} {sh : List (Nat × Nat)} {ex : Bool} {R : RM} {M : MM} {p1 : Int} (hE : Ext sh) (hL : Links R) : ∀ y, f_X12_strike M p1 = some y → MetC E m_X12_strike 0 0 [rV 88, iV p1] (sh, ex, R, M) (fun r w' => r = some (iV y.1) ∧ w' = (sh, ex, R, y.2)) := by
  intro y hy
  refine MetC.seg (o := f_X12_strike M p1) (t := (fun K y => K (some (iV y.1)) (sh, ex, R, y.2))) (L := [some (rV 88), some (iV p1)]) (by decide) rfl (Nat.le_of_ble_eq_true rfl) ?_ hy ⟨rfl, rfl⟩
  unfold f_X12_strike
  refine Seg.step (pc' := 1) (I_aload_n (i := 0) dX12_strike_0 rfl rfl) ?_
  refine Seg.step (pc' := 2) (I_iconst dX12_strike_1 ⟨by decide, by decide⟩) ?_
  refine Seg.step (pc' := 5) (I_putI cls12 (by decide) wf_12_175 (hE _ _ sk_12) rfl rfl dX12_strike_2) ?_
  refine S_bM fun M1 => ?_
  refine Seg.step (pc' := 6) (I_aload_n (i := 0) dX12_strike_5 rfl rfl) ?_
  refine Seg.step (pc' := 9) (I_getI cls12 (by decide) wf_12_388 (hE _ _ sk_12) rfl dX12_strike_6) ?_
  refine Seg.step (pc' := 11) (I_bipush dX12_strike_9 (by decide) ⟨by decide, by decide⟩) ?_
  refine S_icmp_eq (tgt := 26) dX12_strike_11 (by decide) (fun h2 => ?_) (fun h2 => ?_)
  · refine Seg.step (pc' := 27) (I_iconst dX12_strike_26 ⟨by decide, by decide⟩) ?_
    refine Seg.step (pc' := 37) (I_goto (tgt := 37) dX12_strike_27 (by decide)) ?_
    exact S_iret dX12_strike_37 rfl (by decide) (by decide) (fun K hK => hK)
  refine Seg.step (pc' := 15) (I_iload_n (i := 1) dX12_strike_14 rfl rfl) ?_
  refine S_if_lt (tgt := 26) dX12_strike_15 (by decide) (fun h3 => ?_) (fun h3 => ?_)
  · refine Seg.step (pc' := 27) (I_iconst dX12_strike_26 ⟨by decide, by decide⟩) ?_
    refine Seg.step (pc' := 37) (I_goto (tgt := 37) dX12_strike_27 (by decide)) ?_
    exact S_iret dX12_strike_37 rfl (by decide) (by decide) (fun K hK => hK)
  refine Seg.step (pc' := 19) (I_iload_n (i := 1) dX12_strike_18 rfl rfl) ?_
  refine Seg.step (pc' := 20) (I_aload_n (i := 0) dX12_strike_19 rfl rfl) ?_
  refine Seg.step (pc' := 23) (I_getI cls12 (by decide) wf_12_388 (hE _ _ sk_12) rfl dX12_strike_20) ?_
  refine S_icmp_lt (tgt := 30) dX12_strike_23 (by decide) (fun h4 => ?_) (fun h4 => ?_)
  · refine Seg.step (pc' := 31) (I_aload_n (i := 0) dX12_strike_30 rfl rfl) ?_
    refine Seg.step (pc' := 32) (I_iconst dX12_strike_31 ⟨by decide, by decide⟩) ?_
    refine Seg.step (pc' := 33) (I_iload_n (i := 1) dX12_strike_32 rfl rfl) ?_
    refine Seg.step (pc' := 34) (I_iconst dX12_strike_33 ⟨by decide, by decide⟩) ?_
    refine S_callV3 (md' := m_X12_noted) (fun y => some (iV y.1)) (fun y => (sh, ex, R, y.2)) (hE _ _ sk_12) ⟨by decide, rfl⟩ mm_X12_noted wm_12_533 ⟨rfl, rfl, by decide, by decide, by decide, by decide⟩ (Nat.le_of_ble_eq_true rfl) dX12_strike_34 (fun y hy => c_X12_noted hE hL y hy) (fun x5 => ?_)
    exact S_iret dX12_strike_37 rfl (by decide) (by decide) (fun K hK => hK)
  refine Seg.step (pc' := 27) (I_iconst dX12_strike_26 ⟨by decide, by decide⟩) ?_
  refine Seg.step (pc' := 37) (I_goto (tgt := 37) dX12_strike_27 (by decide)) ?_
  exact S_iret dX12_strike_37 rfl (by decide) (by decide) (fun K hK => hK)
theorem dX12_known_0 : decode cX12_known 0 = .ok (.aload_n 0, 1) := by decide +kernel
theorem dX12_known_1 : decode cX12_known 1 = .ok (.iconst 0, 1) := by decide +kernel
theorem dX12_known_2 : decode cX12_known 2 = .ok (.putfield 175, 3) := by decide +kernel
theorem dX12_known_5 : decode cX12_known 5 = .ok (.iload_n 1, 1) := by decide +kernel
theorem dX12_known_6 : decode cX12_known 6 = .ok (.iconst (-1), 1) := by decide +kernel
theorem dX12_known_7 : decode cX12_known 7 = .ok (.aload_n 0, 1) := by decide +kernel
theorem dX12_known_8 : decode cX12_known 8 = .ok (.getfield 388, 3) := by decide +kernel
theorem dX12_known_11 : decode cX12_known 11 = .ok (.invokestatic 220, 3) := by decide +kernel
theorem dX12_known_14 : decode cX12_known 14 = .ok (.ifCond .ne 5, 3) := by decide +kernel
theorem dX12_known_17 : decode cX12_known 17 = .ok (.iconst 0, 1) := by decide +kernel
theorem dX12_known_18 : decode cX12_known 18 = .ok (.ireturn, 1) := by decide +kernel
theorem dX12_known_19 : decode cX12_known 19 = .ok (.aload_n 0, 1) := by decide +kernel
theorem dX12_known_20 : decode cX12_known 20 = .ok (.iload_n 1, 1) := by decide +kernel
theorem dX12_known_21 : decode cX12_known 21 = .ok (.putfield 142, 3) := by decide +kernel
theorem dX12_known_24 : decode cX12_known 24 = .ok (.iconst 1, 1) := by decide +kernel
theorem dX12_known_25 : decode cX12_known 25 = .ok (.ireturn, 1) := by decide +kernel
def f_X12_known (M : MM) (p1 : Int) : Option (Int × MM) :=
bM (upM M 88 2 0) fun M1 =>
(f_X12_isIn M1 p1 (-1) (M1 88 80)).bind fun x2 =>
if x2 = 0 then
(some (0, M1))
else
bM (upM M1 88 81 p1) fun M4 =>
some (1, M4)
set_option maxRecDepth 4000 in
theorem c_X12_known {E : EE} {sh : List (Nat × Nat)} {ex : Bool} {R : RM} {M : MM} {p1 : Int} (hE : Ext sh) (hL : Links R) : ∀ y, f_X12_known M p1 = some y → MetC E m_X12_known 0 0 [rV 88, iV p1] (sh, ex, R, M) (fun r w' => r = some (iV y.1) ∧ w' = (sh, ex, R, y.2)) := by
  intro y hy
  refine MetC.seg (o := f_X12_known M p1) (t := (fun K y => K (some (iV y.1)) (sh, ex, R, y.2))) (L := [some (rV 88), some (iV p1)]) (by decide) rfl (Nat.le_of_ble_eq_true rfl) ?_ hy ⟨rfl, rfl⟩
  unfold f_X12_known
  refine Seg.step (pc' := 1) (I_aload_n (i := 0) dX12_known_0 rfl rfl) ?_
  refine Seg.step (pc' := 2) (I_iconst dX12_known_1 ⟨by decide, by decide⟩) ?_
  refine Seg.step (pc' := 5) (I_putI cls12 (by decide) wf_12_175 (hE _ _ sk_12) rfl rfl dX12_known_2) ?_
  refine S_bM fun M1 => ?_
  refine Seg.step (pc' := 6) (I_iload_n (i := 1) dX12_known_5 rfl rfl) ?_
  refine Seg.step (pc' := 7) (I_iconst dX12_known_6 ⟨by decide, by decide⟩) ?_
  refine Seg.step (pc' := 8) (I_aload_n (i := 0) dX12_known_7 rfl rfl) ?_
  refine Seg.step (pc' := 11) (I_getI cls12 (by decide) wf_12_388 (hE _ _ sk_12) rfl dX12_known_8) ?_
  refine S_callS3 (md' := m_X12_isIn) (fun y => some (iV y)) (fun y => (sh, ex, R, M1)) mm_X12_isIn wm_12_220 ⟨rfl, rfl, by decide, by decide, by decide, by decide⟩ (Nat.le_of_ble_eq_true rfl) dX12_known_11 (fun y hy => c_X12_isIn hE hL y hy) (fun x2 => ?_)
  refine S_if_ne (tgt := 19) dX12_known_14 (by decide) (fun h3 => ?_) (fun h3 => ?_)
  · refine Seg.step (pc' := 18) (I_iconst dX12_known_17 ⟨by decide, by decide⟩) ?_
    exact S_zret dX12_known_18 rfl (by decide) (by decide) (by decide) (fun K hK => hK)
  refine Seg.step (pc' := 20) (I_aload_n (i := 0) dX12_known_19 rfl rfl) ?_
  refine Seg.step (pc' := 21) (I_iload_n (i := 1) dX12_known_20 rfl rfl) ?_
  refine Seg.step (pc' := 24) (I_putI cls12 (by decide) wf_12_142 (hE _ _ sk_12) rfl rfl dX12_known_21) ?_
  refine S_bM fun M4 => ?_
  refine Seg.step (pc' := 25) (I_iconst dX12_known_24 ⟨by decide, by decide⟩) ?_
  exact S_zret dX12_known_25 rfl (by decide) (by decide) (by decide) (fun K hK => hK)
theorem dX12_knownBy_0 : decode cX12_knownBy 0 = .ok (.aload_n 0, 1) := by decide +kernel
theorem dX12_knownBy_1 : decode cX12_knownBy 1 = .ok (.getfield 142, 3) := by decide +kernel
theorem dX12_knownBy_4 : decode cX12_knownBy 4 = .ok (.ifCond .ge 10, 3) := by decide +kernel
theorem dX12_knownBy_7 : decode cX12_knownBy 7 = .ok (.aload_n 0, 1) := by decide +kernel
theorem dX12_knownBy_8 : decode cX12_knownBy 8 = .ok (.getfield 388, 3) := by decide +kernel
theorem dX12_knownBy_11 : decode cX12_knownBy 11 = .ok (.goto 7, 3) := by decide +kernel
theorem dX12_knownBy_14 : decode cX12_knownBy 14 = .ok (.aload_n 0, 1) := by decide +kernel
theorem dX12_knownBy_15 : decode cX12_knownBy 15 = .ok (.getfield 142, 3) := by decide +kernel
theorem dX12_knownBy_18 : decode cX12_knownBy 18 = .ok (.ireturn, 1) := by decide +kernel
def f_X12_knownBy (M : MM)  : Option (Int) :=
if (M 88 81) < 0 then
(some (M 88 80))
else
some (M 88 81)
set_option maxRecDepth 4000 in
theorem c_X12_knownBy {E : EE} {sh : List (Nat × Nat)} {ex : Bool} {R : RM} {M : MM}  (hE : Ext sh) (hL : Links R) : ∀ y, f_X12_knownBy M = some y → MetC E m_X12_knownBy 0 0 [rV 88] (sh, ex, R, M) (fun r w' => r = some (iV y) ∧ w' = (sh, ex, R, M)) := by
  intro y hy
  refine MetC.seg (o := f_X12_knownBy M) (t := (fun K y => K (some (iV y)) (sh, ex, R, M))) (L := [some (rV 88)]) (by decide) rfl (Nat.le_of_ble_eq_true rfl) ?_ hy ⟨rfl, rfl⟩
  unfold f_X12_knownBy
  refine Seg.step (pc' := 1) (I_aload_n (i := 0) dX12_knownBy_0 rfl rfl) ?_
  refine Seg.step (pc' := 4) (I_getI cls12 (by decide) wf_12_142 (hE _ _ sk_12) rfl dX12_knownBy_1) ?_
  refine S_if_ge (tgt := 14) dX12_knownBy_4 (by decide) (fun h1 => ?_) (fun h1 => ?_)
  · refine Seg.step (pc' := 8) (I_aload_n (i := 0) dX12_knownBy_7 rfl rfl) ?_
    refine Seg.step (pc' := 11) (I_getI cls12 (by decide) wf_12_388 (hE _ _ sk_12) rfl dX12_knownBy_8) ?_
    refine Seg.step (pc' := 18) (I_goto (tgt := 18) dX12_knownBy_11 (by decide)) ?_
    exact S_iret dX12_knownBy_18 rfl (by decide) (by decide) (fun K hK => hK)
  refine Seg.step (pc' := 15) (I_aload_n (i := 0) dX12_knownBy_14 rfl rfl) ?_
  refine Seg.step (pc' := 18) (I_getI cls12 (by decide) wf_12_142 (hE _ _ sk_12) rfl dX12_knownBy_15) ?_
  exact S_iret dX12_knownBy_18 rfl (by decide) (by decide) (fun K hK => hK)
theorem dX12_isSo_0 : decode cX12_isSo 0 = .ok (.iconst 0, 1) := by decide +kernel
theorem dX12_isSo_1 : decode cX12_isSo 1 = .ok (.istore_n 2, 1) := by decide +kernel
theorem dX12_isSo_2 : decode cX12_isSo 2 = .ok (.iload_n 2, 1) := by decide +kernel
theorem dX12_isSo_3 : decode cX12_isSo 3 = .ok (.aload_n 0, 1) := by decide +kernel
theorem dX12_isSo_4 : decode cX12_isSo 4 = .ok (.invokevirtual 536, 3) := by decide +kernel
theorem dX12_isSo_7 : decode cX12_isSo 7 = .ok (.if_icmp .ge 81, 3) := by decide +kernel
theorem dX12_isSo_10 : decode cX12_isSo 10 = .ok (.aload_n 0, 1) := by decide +kernel
theorem dX12_isSo_11 : decode cX12_isSo 11 = .ok (.getfield 148, 3) := by decide +kernel
theorem dX12_isSo_14 : decode cX12_isSo 14 = .ok (.iload_n 2, 1) := by decide +kernel
theorem dX12_isSo_15 : decode cX12_isSo 15 = .ok (.baload, 1) := by decide +kernel
theorem dX12_isSo_16 : decode cX12_isSo 16 = .ok (.ifCond .eq 66, 3) := by decide +kernel
theorem dX12_isSo_19 : decode cX12_isSo 19 = .ok (.aload_n 0, 1) := by decide +kernel
theorem dX12_isSo_20 : decode cX12_isSo 20 = .ok (.getfield 145, 3) := by decide +kernel
theorem dX12_isSo_23 : decode cX12_isSo 23 = .ok (.iconst 3, 1) := by decide +kernel
theorem dX12_isSo_24 : decode cX12_isSo 24 = .ok (.iload_n 2, 1) := by decide +kernel
theorem dX12_isSo_25 : decode cX12_isSo 25 = .ok (.imul, 1) := by decide +kernel
theorem dX12_isSo_26 : decode cX12_isSo 26 = .ok (.iaload, 1) := by decide +kernel
theorem dX12_isSo_27 : decode cX12_isSo 27 = .ok (.iload_n 1, 1) := by decide +kernel
theorem dX12_isSo_28 : decode cX12_isSo 28 = .ok (.if_icmp .eq 6, 3) := by decide +kernel
theorem dX12_isSo_31 : decode cX12_isSo 31 = .ok (.goto 51, 3) := by decide +kernel
theorem dX12_isSo_34 : decode cX12_isSo 34 = .ok (.aload_n 0, 1) := by decide +kernel
theorem dX12_isSo_35 : decode cX12_isSo 35 = .ok (.getfield 112, 3) := by decide +kernel
theorem dX12_isSo_38 : decode cX12_isSo 38 = .ok (.iconst 1, 1) := by decide +kernel
theorem dX12_isSo_39 : decode cX12_isSo 39 = .ok (.iaload, 1) := by decide +kernel
theorem dX12_isSo_40 : decode cX12_isSo 40 = .ok (.aload_n 0, 1) := by decide +kernel
theorem dX12_isSo_41 : decode cX12_isSo 41 = .ok (.getfield 145, 3) := by decide +kernel
theorem dX12_isSo_44 : decode cX12_isSo 44 = .ok (.iconst 3, 1) := by decide +kernel
theorem dX12_isSo_45 : decode cX12_isSo 45 = .ok (.iload_n 2, 1) := by decide +kernel
theorem dX12_isSo_46 : decode cX12_isSo 46 = .ok (.imul, 1) := by decide +kernel
theorem dX12_isSo_47 : decode cX12_isSo 47 = .ok (.iconst 1, 1) := by decide +kernel
theorem dX12_isSo_48 : decode cX12_isSo 48 = .ok (.iadd, 1) := by decide +kernel
theorem dX12_isSo_49 : decode cX12_isSo 49 = .ok (.iaload, 1) := by decide +kernel
theorem dX12_isSo_50 : decode cX12_isSo 50 = .ok (.if_icmp .lt 7, 3) := by decide +kernel
theorem dX12_isSo_53 : decode cX12_isSo 53 = .ok (.iconst 1, 1) := by decide +kernel
theorem dX12_isSo_54 : decode cX12_isSo 54 = .ok (.goto 4, 3) := by decide +kernel
theorem dX12_isSo_57 : decode cX12_isSo 57 = .ok (.iconst 0, 1) := by decide +kernel
theorem dX12_isSo_58 : decode cX12_isSo 58 = .ok (.aload_n 0, 1) := by decide +kernel
theorem dX12_isSo_59 : decode cX12_isSo 59 = .ok (.getfield 145, 3) := by decide +kernel
theorem dX12_isSo_62 : decode cX12_isSo 62 = .ok (.iconst 3, 1) := by decide +kernel
theorem dX12_isSo_63 : decode cX12_isSo 63 = .ok (.iload_n 2, 1) := by decide +kernel
theorem dX12_isSo_64 : decode cX12_isSo 64 = .ok (.imul, 1) := by decide +kernel
theorem dX12_isSo_65 : decode cX12_isSo 65 = .ok (.iconst 2, 1) := by decide +kernel
theorem dX12_isSo_66 : decode cX12_isSo 66 = .ok (.iadd, 1) := by decide +kernel
theorem dX12_isSo_67 : decode cX12_isSo 67 = .ok (.iaload, 1) := by decide +kernel
theorem dX12_isSo_68 : decode cX12_isSo 68 = .ok (.iconst 1, 1) := by decide +kernel
theorem dX12_isSo_69 : decode cX12_isSo 69 = .ok (.if_icmp .ne 7, 3) := by decide +kernel
theorem dX12_isSo_72 : decode cX12_isSo 72 = .ok (.iconst 1, 1) := by decide +kernel
theorem dX12_isSo_73 : decode cX12_isSo 73 = .ok (.goto 4, 3) := by decide +kernel
theorem dX12_isSo_76 : decode cX12_isSo 76 = .ok (.iconst 0, 1) := by decide +kernel
theorem dX12_isSo_77 : decode cX12_isSo 77 = .ok (.if_icmp .eq 5, 3) := by decide +kernel
theorem dX12_isSo_80 : decode cX12_isSo 80 = .ok (.iconst 0, 1) := by decide +kernel
theorem dX12_isSo_81 : decode cX12_isSo 81 = .ok (.ireturn, 1) := by decide +kernel
theorem dX12_isSo_82 : decode cX12_isSo 82 = .ok (.iinc 2 1, 3) := by decide +kernel
theorem dX12_isSo_85 : decode cX12_isSo 85 = .ok (.goto (-83), 3) := by decide +kernel
theorem dX12_isSo_88 : decode cX12_isSo 88 = .ok (.iconst 1, 1) := by decide +kernel
theorem dX12_isSo_89 : decode cX12_isSo 89 = .ok (.ireturn, 1) := by decide +kernel
def f_X12_isSo (M : MM) (p1 : Int) : Option (Int) :=
lp (X := Int) (Y := Int) (fun x1 =>
(f_X12_knownBy M).bind fun x2 =>
if x1 < x2 then
(gd (0 ≤ x1 ∧ x1 < (24 : Int)) <|
bS ((if (M 132 (x1).toNat) = 0 then
(some (Sum.inl ()))
else
gd (0 ≤ w32 (3 * x1) ∧ w32 (3 * x1) < (72 : Int)) <|
if (M 131 (w32 (3 * x1)).toNat) = p1 then
(gd (0 ≤ w32 ((w32 (3 * x1)) + 1) ∧ w32 ((w32 (3 * x1)) + 1) < (72 : Int)) <|
((if (M 121 1) < (M 131 (w32 ((w32 (3 * x1)) + 1)).toNat) then
(some 0)
else
some 1) : Option (Int)).bind fun x10 =>
gd (0 ≤ w32 ((w32 (3 * x1)) + 2) ∧ w32 ((w32 (3 * x1)) + 2) < (72 : Int)) <|
((if (M 131 (w32 ((w32 (3 * x1)) + 2)).toNat) = 1 then
(some 1)
else
some 0) : Option (Int)).bind fun x13 =>
if x10 = x13 then
(some (Sum.inl ()))
else
some (Sum.inr 0))
else
some (Sum.inl ())) : Option ((Unit) ⊕ (Int))) (fun x15 =>
some (Sum.inl (w32 (x1 + 1)))) (fun r => (Sum.inr r)))
else
some (Sum.inr 1)) FU 0
set_option maxRecDepth 4000 in
theorem c_X12_isSo {E : EE} {sh : List (Nat × Nat)} {ex : Bool} {R : RM} {M : MM} {p1 : Int} (hE : Ext sh) (hL : Links R) : ∀ y, f_X12_isSo M p1 = some y → MetC E m_X12_isSo 0 0 [rV 88, iV p1] (sh, ex, R, M) (fun r w' => r = some (iV y) ∧ w' = (sh, ex, R, M)) := by
  intro y hy
  refine MetC.seg (o := f_X12_isSo M p1) (t := (fun K y => K (some (iV y)) (sh, ex, R, M))) (L := [some (rV 88), some (iV p1), none]) (by decide) rfl (Nat.le_of_ble_eq_true rfl) ?_ hy ⟨rfl, rfl⟩
  unfold f_X12_isSo
  refine Seg.step (pc' := 1) (I_iconst dX12_isSo_0 ⟨by decide, by decide⟩) ?_
  refine Seg.step (pc' := 2) (I_istore_n (i := 2) dX12_isSo_1 rfl (by decide) rfl) ?_
  refine Seg.forget (Lle.ye (Lle.ye (Lle.ye (Lle.nil)))) ?_
  refine S_loop (Y := Int) (fun y => [some (rV 88), some (iV p1), some (iV y)]) (fun y => []) (fun y => (sh, ex, R, M)) (fun x1 => ?_) FU 0
  refine Seg.step (pc' := 3) (I_iload_n (i := 2) dX12_isSo_2 rfl rfl) ?_
  refine Seg.step (pc' := 4) (I_aload_n (i := 0) dX12_isSo_3 rfl rfl) ?_
  refine S_callV0 (md' := m_X12_knownBy) (fun y => some (iV y)) (fun y => (sh, ex, R, M)) (hE _ _ sk_12) ⟨by decide, rfl⟩ mm_X12_knownBy wm_12_536 ⟨rfl, rfl, by decide, by decide, by decide, by decide⟩ (Nat.le_of_ble_eq_true rfl) dX12_isSo_4 (fun y hy => c_X12_knownBy hE hL y hy) (fun x2 => ?_)
  refine S_icmp_ge (tgt := 88) dX12_isSo_7 (by decide) (fun h3 => ?_) (fun h3 => ?_)
  · refine Seg.step (pc' := 11) (I_aload_n (i := 0) dX12_isSo_10 rfl rfl) ?_
    refine Seg.step (pc' := 14) (I_getR cls12 (by decide) wf_12_148 (hE _ _ sk_12) rfl (lk_12_83 hL) dX12_isSo_11) ?_
    refine Seg.step (pc' := 15) (I_iload_n (i := 2) dX12_isSo_14 rfl rfl) ?_
    refine S_gd fun h4 => ?_
    refine Seg.step (pc' := 16) (I_zald (hE _ _ sk_12_83) h4 dX12_isSo_15) ?_
    refine S_bind2 (Y := Unit) (k' := 0) (n' := 0) 82 (fun y => [some (rV 88), some (iV p1), some (iV x1)]) (fun y => []) (fun y => (sh, ex, R, M)) ?_ (fun x15 => ?_)
    · refine S_if_eq (tgt := 82) dX12_isSo_16 (by decide) (fun h5 => ?_) (fun h5 => ?_)
      · exact S_arr (fun K hK => GG.forget (Lle.ye (Lle.ye (Lle.ye (Lle.nil)))) hK)
      refine Seg.step (pc' := 20) (I_aload_n (i := 0) dX12_isSo_19 rfl rfl) ?_
      refine Seg.step (pc' := 23) (I_getR cls12 (by decide) wf_12_145 (hE _ _ sk_12) rfl (lk_12_82 hL) dX12_isSo_20) ?_
      refine Seg.step (pc' := 24) (I_iconst dX12_isSo_23 ⟨by decide, by decide⟩) ?_
      refine Seg.step (pc' := 25) (I_iload_n (i := 2) dX12_isSo_24 rfl rfl) ?_
      refine Seg.step (pc' := 26) (I_imul dX12_isSo_25) ?_
      refine S_gd fun h6 => ?_
      refine Seg.step (pc' := 27) (I_iald (hE _ _ sk_12_82) h6 dX12_isSo_26) ?_
      refine Seg.step (pc' := 28) (I_iload_n (i := 1) dX12_isSo_27 rfl rfl) ?_
      refine S_icmp_eq (tgt := 34) dX12_isSo_28 (by decide) (fun h7 => ?_) (fun h7 => ?_)
      · refine Seg.step (pc' := 35) (I_aload_n (i := 0) dX12_isSo_34 rfl rfl) ?_
        refine Seg.step (pc' := 38) (I_getR cls12 (by decide) wf_12_112 (hE _ _ sk_12) rfl (lk_12_59 hL) dX12_isSo_35) ?_
        refine Seg.step (pc' := 39) (I_iconst dX12_isSo_38 ⟨by decide, by decide⟩) ?_
        refine Seg.step (pc' := 40) (I_iald (hE _ _ sk_12_59) ⟨by decide, by decide⟩ dX12_isSo_39) ?_
        refine Seg.step (pc' := 41) (I_aload_n (i := 0) dX12_isSo_40 rfl rfl) ?_
        refine Seg.step (pc' := 44) (I_getR cls12 (by decide) wf_12_145 (hE _ _ sk_12) rfl (lk_12_82 hL) dX12_isSo_41) ?_
        refine Seg.step (pc' := 45) (I_iconst dX12_isSo_44 ⟨by decide, by decide⟩) ?_
        refine Seg.step (pc' := 46) (I_iload_n (i := 2) dX12_isSo_45 rfl rfl) ?_
        refine Seg.step (pc' := 47) (I_imul dX12_isSo_46) ?_
        refine Seg.step (pc' := 48) (I_iconst dX12_isSo_47 ⟨by decide, by decide⟩) ?_
        refine Seg.step (pc' := 49) (I_iadd dX12_isSo_48) ?_
        refine S_gd fun h8 => ?_
        refine Seg.step (pc' := 50) (I_iald (hE _ _ sk_12_82) h8 dX12_isSo_49) ?_
        refine S_bind (Y := Int) (k' := 0) (n' := 0) 58 (fun y => [some (rV 88), some (iV p1), some (iV x1)]) (fun y => [iV y]) (fun y => (sh, ex, R, M)) ?_ (fun x10 => ?_)
        · refine S_icmp_lt (tgt := 57) dX12_isSo_50 (by decide) (fun h9 => ?_) (fun h9 => ?_)
          · refine Seg.step (pc' := 58) (I_iconst dX12_isSo_57 ⟨by decide, by decide⟩) ?_
            exact S_arr (fun K hK => GG.forget (Lle.ye (Lle.ye (Lle.ye (Lle.nil)))) hK)
          refine Seg.step (pc' := 54) (I_iconst dX12_isSo_53 ⟨by decide, by decide⟩) ?_
          refine Seg.step (pc' := 58) (I_goto (tgt := 58) dX12_isSo_54 (by decide)) ?_
          exact S_arr (fun K hK => GG.forget (Lle.ye (Lle.ye (Lle.ye (Lle.nil)))) hK)
        refine Seg.step (pc' := 59) (I_aload_n (i := 0) dX12_isSo_58 rfl rfl) ?_
        refine Seg.step (pc' := 62) (I_getR cls12 (by decide) wf_12_145 (hE _ _ sk_12) rfl (lk_12_82 hL) dX12_isSo_59) ?_
        refine Seg.step (pc' := 63) (I_iconst dX12_isSo_62 ⟨by decide, by decide⟩) ?_
        refine Seg.step (pc' := 64) (I_iload_n (i := 2) dX12_isSo_63 rfl rfl) ?_
        refine Seg.step (pc' := 65) (I_imul dX12_isSo_64) ?_
        refine Seg.step (pc' := 66) (I_iconst dX12_isSo_65 ⟨by decide, by decide⟩) ?_
        refine Seg.step (pc' := 67) (I_iadd dX12_isSo_66) ?_
        refine S_gd fun h11 => ?_
        refine Seg.step (pc' := 68) (I_iald (hE _ _ sk_12_82) h11 dX12_isSo_67) ?_
        refine Seg.step (pc' := 69) (I_iconst dX12_isSo_68 ⟨by decide, by decide⟩) ?_
        refine S_bind (Y := Int) (k' := 0) (n' := 0) 77 (fun y => [some (rV 88), some (iV p1), some (iV x1)]) (fun y => [iV y, iV x10]) (fun y => (sh, ex, R, M)) ?_ (fun x13 => ?_)
        · refine S_icmp_ne (tgt := 76) dX12_isSo_69 (by decide) (fun h12 => ?_) (fun h12 => ?_)
          · refine Seg.step (pc' := 73) (I_iconst dX12_isSo_72 ⟨by decide, by decide⟩) ?_
            refine Seg.step (pc' := 77) (I_goto (tgt := 77) dX12_isSo_73 (by decide)) ?_
            exact S_arr (fun K hK => GG.forget (Lle.ye (Lle.ye (Lle.ye (Lle.nil)))) hK)
          refine Seg.step (pc' := 77) (I_iconst dX12_isSo_76 ⟨by decide, by decide⟩) ?_
          exact S_arr (fun K hK => GG.forget (Lle.ye (Lle.ye (Lle.ye (Lle.nil)))) hK)
        refine S_icmp_eq (tgt := 82) dX12_isSo_77 (by decide) (fun h14 => ?_) (fun h14 => ?_)
        · exact S_arr (fun K hK => GG.forget (Lle.ye (Lle.ye (Lle.ye (Lle.nil)))) hK)
        refine Seg.step (pc' := 81) (I_iconst dX12_isSo_80 ⟨by decide, by decide⟩) ?_
        exact S_zret dX12_isSo_81 rfl (by decide) (by decide) (by decide) (fun K hK => hK)
      refine Seg.step (pc' := 82) (I_goto (tgt := 82) dX12_isSo_31 (by decide)) ?_
      exact S_arr (fun K hK => GG.forget (Lle.ye (Lle.ye (Lle.ye (Lle.nil)))) hK)
    refine Seg.step (pc' := 85) (I_iinc dX12_isSo_82 rfl (by decide) rfl) ?_
    refine Seg.step (pc' := 2) (I_goto (tgt := 2) dX12_isSo_85 (by decide)) ?_
    exact S_arr (fun K hK => GG.forget (Lle.ye (Lle.ye (Lle.ye (Lle.nil)))) hK)
  refine Seg.step (pc' := 89) (I_iconst dX12_isSo_88 ⟨by decide, by decide⟩) ?_
  exact S_zret dX12_isSo_89 rfl (by decide) (by decide) (by decide) (fun K hK => hK)
theorem dX12_fits_0 : decode cX12_fits 0 = .ok (.aload_n 0, 1) := by decide +kernel
theorem dX12_fits_1 : decode cX12_fits 1 = .ok (.iconst 1, 1) := by decide +kernel
theorem dX12_fits_2 : decode cX12_fits 2 = .ok (.invokevirtual 382, 3) := by decide +kernel
theorem dX12_fits_5 : decode cX12_fits 5 = .ok (.aload_n 0, 1) := by decide +kernel
theorem dX12_fits_6 : decode cX12_fits 6 = .ok (.invokevirtual 385, 3) := by decide +kernel
theorem dX12_fits_9 : decode cX12_fits 9 = .ok (.aload_n 0, 1) := by decide +kernel
theorem dX12_fits_10 : decode cX12_fits 10 = .ok (.iload_n 1, 1) := by decide +kernel
theorem dX12_fits_11 : decode cX12_fits 11 = .ok (.putfield 415, 3) := by decide +kernel
theorem dX12_fits_14 : decode cX12_fits 14 = .ok (.aload_n 0, 1) := by decide +kernel
theorem dX12_fits_15 : decode cX12_fits 15 = .ok (.iload_n 2, 1) := by decide +kernel
theorem dX12_fits_16 : decode cX12_fits 16 = .ok (.putfield 418, 3) := by decide +kernel
theorem dX12_fits_19 : decode cX12_fits 19 = .ok (.iconst 1, 1) := by decide +kernel
theorem dX12_fits_20 : decode cX12_fits 20 = .ok (.istore_n 3, 1) := by decide +kernel
theorem dX12_fits_21 : decode cX12_fits 21 = .ok (.iload_n 3, 1) := by decide +kernel
theorem dX12_fits_22 : decode cX12_fits 22 = .ok (.bipush 60, 2) := by decide +kernel
theorem dX12_fits_24 : decode cX12_fits 24 = .ok (.if_icmp .gt 24, 3) := by decide +kernel
theorem dX12_fits_27 : decode cX12_fits 27 = .ok (.aload_n 0, 1) := by decide +kernel
theorem dX12_fits_28 : decode cX12_fits 28 = .ok (.iconst 1, 1) := by decide +kernel
theorem dX12_fits_29 : decode cX12_fits 29 = .ok (.invokevirtual 479, 3) := by decide +kernel
theorem dX12_fits_32 : decode cX12_fits 32 = .ok (.aload_n 0, 1) := by decide +kernel
theorem dX12_fits_33 : decode cX12_fits 33 = .ok (.iload_n 3, 1) := by decide +kernel
theorem dX12_fits_34 : decode cX12_fits 34 = .ok (.invokevirtual 539, 3) := by decide +kernel
theorem dX12_fits_37 : decode cX12_fits 37 = .ok (.ifCond .ne 5, 3) := by decide +kernel
theorem dX12_fits_40 : decode cX12_fits 40 = .ok (.iconst 0, 1) := by decide +kernel
theorem dX12_fits_41 : decode cX12_fits 41 = .ok (.ireturn, 1) := by decide +kernel
theorem dX12_fits_42 : decode cX12_fits 42 = .ok (.iinc 3 1, 3) := by decide +kernel
theorem dX12_fits_45 : decode cX12_fits 45 = .ok (.goto (-24), 3) := by decide +kernel
theorem dX12_fits_48 : decode cX12_fits 48 = .ok (.iconst 1, 1) := by decide +kernel
theorem dX12_fits_49 : decode cX12_fits 49 = .ok (.ireturn, 1) := by decide +kernel
def f_X12_fits (M : MM) (p1 : Int) (p2 : Int) : Option (Int × MM) :=
(f_X12_atFirst M 1).bind fun x1 =>
(f_X12_plainTried x1).bind fun x2 =>
bM (upM x2 88 75 p1) fun M3 =>
bM (upM M3 88 76 p2) fun M4 =>
lp (X := Int × MM) (Y := Int × MM) (fun x5 =>
if 60 < x5.1 then
(some (Sum.inr (1, x5.2)))
else
(f_X12_goOn x5.2 1).bind fun x7 =>
(f_X12_isSo x7 x5.1).bind fun x8 =>
if x8 = 0 then
(some (Sum.inr (0, x7)))
else
some (Sum.inl (w32 (x5.1 + 1), x7))) FU (1, M4)
set_option maxRecDepth 4000 in
theorem c_X12_fits {E : EE} {sh : List (Nat × Nat)} {ex : Bool} {R : RM} {M : MM} {p1 : Int} {p2 : Int} (hE : Ext sh) (hL : Links R) : ∀ y, f_X12_fits M p1 p2 = some y → MetC E m_X12_fits 0 0 [rV 88, iV p1, iV p2] (sh, ex, R, M) (fun r w' => r = some (iV y.1) ∧ w' = (sh, ex, R, y.2)) := by
  intro y hy
  refine MetC.seg (o := f_X12_fits M p1 p2) (t := (fun K y => K (some (iV y.1)) (sh, ex, R, y.2))) (L := [some (rV 88), some (iV p1), some (iV p2), none]) (by decide) rfl (Nat.le_of_ble_eq_true rfl) ?_ hy ⟨rfl, rfl⟩
  unfold f_X12_fits
  refine Seg.step (pc' := 1) (I_aload_n (i := 0) dX12_fits_0 rfl rfl) ?_
  refine Seg.step (pc' := 2) (I_iconst dX12_fits_1 ⟨by decide, by decide⟩) ?_
  refine S_callV1 (md' := m_X12_atFirst) (fun y => none) (fun y => (sh, ex, R, y)) (hE _ _ sk_12) ⟨by decide, rfl⟩ mm_X12_atFirst wm_12_382 ⟨rfl, rfl, by decide, by decide, by decide, by decide⟩ (Nat.le_of_ble_eq_true rfl) dX12_fits_2 (fun y hy => c_X12_atFirst hE hL y hy) (fun x1 => ?_)
  refine Seg.step (pc' := 6) (I_aload_n (i := 0) dX12_fits_5 rfl rfl) ?_
  refine S_callV0 (md' := m_X12_plainTried) (fun y => none) (fun y => (sh, ex, R, y)) (hE _ _ sk_12) ⟨by decide, rfl⟩ mm_X12_plainTried wm_12_385 ⟨rfl, rfl, by decide, by decide, by decide, by decide⟩ (Nat.le_of_ble_eq_true rfl) dX12_fits_6 (fun y hy => c_X12_plainTried hE hL y hy) (fun x2 => ?_)
  refine Seg.step (pc' := 10) (I_aload_n (i := 0) dX12_fits_9 rfl rfl) ?_
  refine Seg.step (pc' := 11) (I_iload_n (i := 1) dX12_fits_10 rfl rfl) ?_
  refine Seg.step (pc' := 14) (I_putI cls12 (by decide) wf_12_415 (hE _ _ sk_12) rfl rfl dX12_fits_11) ?_
  refine S_bM fun M3 => ?_
  refine Seg.step (pc' := 15) (I_aload_n (i := 0) dX12_fits_14 rfl rfl) ?_
  refine Seg.step (pc' := 16) (I_iload_n (i := 2) dX12_fits_15 rfl rfl) ?_
  refine Seg.step (pc' := 19) (I_putI cls12 (by decide) wf_12_418 (hE _ _ sk_12) rfl rfl dX12_fits_16) ?_
  refine S_bM fun M4 => ?_
  refine Seg.step (pc' := 20) (I_iconst dX12_fits_19 ⟨by decide, by decide⟩) ?_
  refine Seg.step (pc' := 21) (I_istore_n (i := 3) dX12_fits_20 rfl (by decide) rfl) ?_
  refine Seg.forget (Lle.ye (Lle.no (Lle.no (Lle.ye (Lle.nil))))) ?_
  refine S_loop (Y := Int × MM) (fun y => [some (rV 88), none, none, some (iV y.1)]) (fun y => []) (fun y => (sh, ex, R, y.2)) (fun x5 => ?_) FU (1, M4)
  refine Seg.step (pc' := 22) (I_iload_n (i := 3) dX12_fits_21 rfl rfl) ?_
  refine Seg.step (pc' := 24) (I_bipush dX12_fits_22 (by decide) ⟨by decide, by decide⟩) ?_
  refine S_icmp_gt (tgt := 48) dX12_fits_24 (by decide) (fun h6 => ?_) (fun h6 => ?_)
  · refine Seg.step (pc' := 49) (I_iconst dX12_fits_48 ⟨by decide, by decide⟩) ?_
    exact S_zret dX12_fits_49 rfl (by decide) (by decide) (by decide) (fun K hK => hK)
  refine Seg.step (pc' := 28) (I_aload_n (i := 0) dX12_fits_27 rfl rfl) ?_
  refine Seg.step (pc' := 29) (I_iconst dX12_fits_28 ⟨by decide, by decide⟩) ?_
  refine S_callV1 (md' := m_X12_goOn) (fun y => none) (fun y => (sh, ex, R, y)) (hE _ _ sk_12) ⟨by decide, rfl⟩ mm_X12_goOn wm_12_479 ⟨rfl, rfl, by decide, by decide, by decide, by decide⟩ (Nat.le_of_ble_eq_true rfl) dX12_fits_29 (fun y hy => c_X12_goOn hE hL y hy) (fun x7 => ?_)
  refine Seg.step (pc' := 33) (I_aload_n (i := 0) dX12_fits_32 rfl rfl) ?_
  refine Seg.step (pc' := 34) (I_iload_n (i := 3) dX12_fits_33 rfl rfl) ?_
  refine S_callV1 (md' := m_X12_isSo) (fun y => some (iV y)) (fun y => (sh, ex, R, x7)) (hE _ _ sk_12) ⟨by decide, rfl⟩ mm_X12_isSo wm_12_539 ⟨rfl, rfl, by decide, by decide, by decide, by decide⟩ (Nat.le_of_ble_eq_true rfl) dX12_fits_34 (fun y hy => c_X12_isSo hE hL y hy) (fun x8 => ?_)
  refine S_if_ne (tgt := 42) dX12_fits_37 (by decide) (fun h9 => ?_) (fun h9 => ?_)
  · refine Seg.step (pc' := 41) (I_iconst dX12_fits_40 ⟨by decide, by decide⟩) ?_
    exact S_zret dX12_fits_41 rfl (by decide) (by decide) (by decide) (fun K hK => hK)
  refine Seg.step (pc' := 45) (I_iinc dX12_fits_42 rfl (by decide) rfl) ?_
  refine Seg.step (pc' := 21) (I_goto (tgt := 21) dX12_fits_45 (by decide)) ?_
  exact S_arr (fun K hK => GG.forget (Lle.ye (Lle.no (Lle.no (Lle.ye (Lle.nil))))) hK)
theorem dX12_lately_0 : decode cX12_lately 0 = .ok (.aload_n 0, 1) := by decide +kernel
theorem dX12_lately_1 : decode cX12_lately 1 = .ok (.iconst 0, 1) := by decide +kernel
theorem dX12_lately_2 : decode cX12_lately 2 = .ok (.putfield 175, 3) := by decide +kernel
theorem dX12_lately_5 : decode cX12_lately 5 = .ok (.aload_n 0, 1) := by decide +kernel
theorem dX12_lately_6 : decode cX12_lately 6 = .ok (.iload_n 1, 1) := by decide +kernel
theorem dX12_lately_7 : decode cX12_lately 7 = .ok (.invokevirtual 482, 3) := by decide +kernel
theorem dX12_lately_10 : decode cX12_lately 10 = .ok (.ifCond .ne 5, 3) := by decide +kernel
theorem dX12_lately_13 : decode cX12_lately 13 = .ok (.iconst (-1), 1) := by decide +kernel
theorem dX12_lately_14 : decode cX12_lately 14 = .ok (.ireturn, 1) := by decide +kernel
theorem dX12_lately_15 : decode cX12_lately 15 = .ok (.iconst 0, 1) := by decide +kernel
theorem dX12_lately_16 : decode cX12_lately 16 = .ok (.istore_n 2, 1) := by decide +kernel
theorem dX12_lately_17 : decode cX12_lately 17 = .ok (.iload_n 2, 1) := by decide +kernel
theorem dX12_lately_18 : decode cX12_lately 18 = .ok (.aload_n 0, 1) := by decide +kernel
theorem dX12_lately_19 : decode cX12_lately 19 = .ok (.invokevirtual 536, 3) := by decide +kernel
theorem dX12_lately_22 : decode cX12_lately 22 = .ok (.if_icmp .ge 16, 3) := by decide +kernel
theorem dX12_lately_25 : decode cX12_lately 25 = .ok (.aload_n 0, 1) := by decide +kernel
theorem dX12_lately_26 : decode cX12_lately 26 = .ok (.getfield 148, 3) := by decide +kernel
theorem dX12_lately_29 : decode cX12_lately 29 = .ok (.iload_n 2, 1) := by decide +kernel
theorem dX12_lately_30 : decode cX12_lately 30 = .ok (.iconst 1, 1) := by decide +kernel
theorem dX12_lately_31 : decode cX12_lately 31 = .ok (.bastore, 1) := by decide +kernel
theorem dX12_lately_32 : decode cX12_lately 32 = .ok (.iinc 2 1, 3) := by decide +kernel
theorem dX12_lately_35 : decode cX12_lately 35 = .ok (.goto (-18), 3) := by decide +kernel
theorem dX12_lately_38 : decode cX12_lately 38 = .ok (.aload_n 0, 1) := by decide +kernel
theorem dX12_lately_39 : decode cX12_lately 39 = .ok (.invokevirtual 536, 3) := by decide +kernel
theorem dX12_lately_42 : decode cX12_lately 42 = .ok (.iconst 1, 1) := by decide +kernel
theorem dX12_lately_43 : decode cX12_lately 43 = .ok (.isub, 1) := by decide +kernel
theorem dX12_lately_44 : decode cX12_lately 44 = .ok (.istore_n 2, 1) := by decide +kernel
theorem dX12_lately_45 : decode cX12_lately 45 = .ok (.iload_n 2, 1) := by decide +kernel
theorem dX12_lately_46 : decode cX12_lately 46 = .ok (.ifCond .lt 45, 3) := by decide +kernel
theorem dX12_lately_49 : decode cX12_lately 49 = .ok (.aload_n 0, 1) := by decide +kernel
theorem dX12_lately_50 : decode cX12_lately 50 = .ok (.getfield 148, 3) := by decide +kernel
theorem dX12_lately_53 : decode cX12_lately 53 = .ok (.iload_n 2, 1) := by decide +kernel
theorem dX12_lately_54 : decode cX12_lately 54 = .ok (.baload, 1) := by decide +kernel
theorem dX12_lately_55 : decode cX12_lately 55 = .ok (.ifCond .eq 30, 3) := by decide +kernel
theorem dX12_lately_58 : decode cX12_lately 58 = .ok (.aload_n 0, 1) := by decide +kernel
theorem dX12_lately_59 : decode cX12_lately 59 = .ok (.getfield 145, 3) := by decide +kernel
theorem dX12_lately_62 : decode cX12_lately 62 = .ok (.iconst 3, 1) := by decide +kernel
theorem dX12_lately_63 : decode cX12_lately 63 = .ok (.iload_n 2, 1) := by decide +kernel
theorem dX12_lately_64 : decode cX12_lately 64 = .ok (.imul, 1) := by decide +kernel
theorem dX12_lately_65 : decode cX12_lately 65 = .ok (.iaload, 1) := by decide +kernel
theorem dX12_lately_66 : decode cX12_lately 66 = .ok (.ifCond .ge 19, 3) := by decide +kernel
theorem dX12_lately_69 : decode cX12_lately 69 = .ok (.aload_n 0, 1) := by decide +kernel
theorem dX12_lately_70 : decode cX12_lately 70 = .ok (.getfield 148, 3) := by decide +kernel
theorem dX12_lately_73 : decode cX12_lately 73 = .ok (.aload_n 0, 1) := by decide +kernel
theorem dX12_lately_74 : decode cX12_lately 74 = .ok (.getfield 145, 3) := by decide +kernel
theorem dX12_lately_77 : decode cX12_lately 77 = .ok (.iconst 3, 1) := by decide +kernel
theorem dX12_lately_78 : decode cX12_lately 78 = .ok (.iload_n 2, 1) := by decide +kernel
theorem dX12_lately_79 : decode cX12_lately 79 = .ok (.imul, 1) := by decide +kernel
theorem dX12_lately_80 : decode cX12_lately 80 = .ok (.iconst 1, 1) := by decide +kernel
theorem dX12_lately_81 : decode cX12_lately 81 = .ok (.iadd, 1) := by decide +kernel
theorem dX12_lately_82 : decode cX12_lately 82 = .ok (.iaload, 1) := by decide +kernel
theorem dX12_lately_83 : decode cX12_lately 83 = .ok (.iconst 0, 1) := by decide +kernel
theorem dX12_lately_84 : decode cX12_lately 84 = .ok (.bastore, 1) := by decide +kernel
theorem dX12_lately_85 : decode cX12_lately 85 = .ok (.iinc 2 (-1), 3) := by decide +kernel
theorem dX12_lately_88 : decode cX12_lately 88 = .ok (.goto (-43), 3) := by decide +kernel
theorem dX12_lately_91 : decode cX12_lately 91 = .ok (.iconst 0, 1) := by decide +kernel
theorem dX12_lately_92 : decode cX12_lately 92 = .ok (.istore_n 2, 1) := by decide +kernel
theorem dX12_lately_93 : decode cX12_lately 93 = .ok (.iconst 0, 1) := by decide +kernel
theorem dX12_lately_94 : decode cX12_lately 94 = .ok (.istore_n 3, 1) := by decide +kernel
theorem dX12_lately_95 : decode cX12_lately 95 = .ok (.iload_n 3, 1) := by decide +kernel
theorem dX12_lately_96 : decode cX12_lately 96 = .ok (.bipush 6, 2) := by decide +kernel
theorem dX12_lately_98 : decode cX12_lately 98 = .ok (.if_icmp .ge 28, 3) := by decide +kernel
theorem dX12_lately_101 : decode cX12_lately 101 = .ok (.iload_n 2, 1) := by decide +kernel
theorem dX12_lately_102 : decode cX12_lately 102 = .ok (.aload_n 0, 1) := by decide +kernel
theorem dX12_lately_103 : decode cX12_lately 103 = .ok (.iload_n 1, 1) := by decide +kernel
theorem dX12_lately_104 : decode cX12_lately 104 = .ok (.iload_n 3, 1) := by decide +kernel
theorem dX12_lately_105 : decode cX12_lately 105 = .ok (.invokevirtual 542, 3) := by decide +kernel
theorem dX12_lately_108 : decode cX12_lately 108 = .ok (.ifCond .eq 9, 3) := by decide +kernel
theorem dX12_lately_111 : decode cX12_lately 111 = .ok (.iconst 1, 1) := by decide +kernel
theorem dX12_lately_112 : decode cX12_lately 112 = .ok (.iload_n 3, 1) := by decide +kernel
theorem dX12_lately_113 : decode cX12_lately 113 = .ok (.ishl, 1) := by decide +kernel
theorem dX12_lately_114 : decode cX12_lately 114 = .ok (.goto 4, 3) := by decide +kernel
theorem dX12_lately_117 : decode cX12_lately 117 = .ok (.iconst 0, 1) := by decide +kernel
theorem dX12_lately_118 : decode cX12_lately 118 = .ok (.ior, 1) := by decide +kernel
theorem dX12_lately_119 : decode cX12_lately 119 = .ok (.istore_n 2, 1) := by decide +kernel
theorem dX12_lately_120 : decode cX12_lately 120 = .ok (.iinc 3 1, 3) := by decide +kernel
theorem dX12_lately_123 : decode cX12_lately 123 = .ok (.goto (-28), 3) := by decide +kernel
theorem dX12_lately_126 : decode cX12_lately 126 = .ok (.aload_n 0, 1) := by decide +kernel
theorem dX12_lately_127 : decode cX12_lately 127 = .ok (.invokevirtual 385, 3) := by decide +kernel
theorem dX12_lately_130 : decode cX12_lately 130 = .ok (.iload_n 2, 1) := by decide +kernel
theorem dX12_lately_131 : decode cX12_lately 131 = .ok (.ireturn, 1) := by decide +kernel
def f_X12_lately (M : MM) (p1 : Int) : Option (Int × MM) :=
bM (upM M 88 2 0) fun M1 =>
(f_X12_isPerson M1 p1).bind fun x2 =>
if x2 = 0 then
(some ((-1), M1))
else
(lp (X := Int × MM) (Y := MM) (fun x4 =>
(f_X12_knownBy x4.2).bind fun x5 =>
if x4.1 < x5 then
(gd (0 ≤ x4.1 ∧ x4.1 < (24 : Int)) <|
bM (upM x4.2 132 (x4.1).toNat 1) fun M8 =>
some (Sum.inl (w32 (x4.1 + 1), M8)))
else
some (Sum.inr x4.2)) FU (0, M1)).bind fun x9 =>
(f_X12_knownBy x9).bind fun x10 =>
bI (w32 (x10 - 1)) fun x11 =>
(lp (X := Int × MM) (Y := MM) (fun x12 =>
if x12.1 < 0 then
(some (Sum.inr x12.2))
else
gd (0 ≤ x12.1 ∧ x12.1 < (24 : Int)) <|
((if (x12.2 132 (x12.1).toNat) = 0 then
(some x12.2)
else
gd (0 ≤ w32 (3 * x12.1) ∧ w32 (3 * x12.1) < (72 : Int)) <|
if (x12.2 131 (w32 (3 * x12.1)).toNat) < 0 then
(gd (0 ≤ w32 ((w32 (3 * x12.1)) + 1) ∧ w32 ((w32 (3 * x12.1)) + 1) < (72 : Int)) <|
gd (0 ≤ x12.2 131 (w32 ((w32 (3 * x12.1)) + 1)).toNat ∧ x12.2 131 (w32 ((w32 (3 * x12.1)) + 1)).toNat < (24 : Int)) <|
bM (upM x12.2 132 (x12.2 131 (w32 ((w32 (3 * x12.1)) + 1)).toNat).toNat 0) fun M20 =>
some M20)
else
some x12.2) : Option (MM)).bind fun x21 =>
some (Sum.inl (w32 (x12.1 + (-1)), x21))) FU (x11, x9)).bind fun x22 =>
(lp (X := Int × Int × MM) (Y := Int × MM) (fun x23 =>
if x23.2.1 < 6 then
((f_X12_fits x23.2.2 p1 x23.2.1).bind fun x25 =>
((if x25.1 = 0 then
(some 0)
else
some (shl32 1 x23.2.1)) : Option (Int)).bind fun x27 =>
bI (or32 x23.1 x27) fun x28 =>
some (Sum.inl (x28, w32 (x23.2.1 + 1), x25.2)))
else
some (Sum.inr (x23.1, x23.2.2))) FU (0, 0, x22)).bind fun x29 =>
(f_X12_plainTried x29.2).bind fun x30 =>
some (x29.1, x30)
set_option maxRecDepth 4000 in
theorem c_X12_lately {E : EE} {sh : List (Nat × Nat)} {ex : Bool} {R : RM} {M : MM} {p1 : Int} (hE : Ext sh) (hL : Links R) : ∀ y, f_X12_lately M p1 = some y → MetC E m_X12_lately 0 0 [rV 88, iV p1] (sh, ex, R, M) (fun r w' => r = some (iV y.1) ∧ w' = (sh, ex, R, y.2)) := by
  intro y hy
  refine MetC.seg (o := f_X12_lately M p1) (t := (fun K y => K (some (iV y.1)) (sh, ex, R, y.2))) (L := [some (rV 88), some (iV p1), none, none]) (by decide) rfl (Nat.le_of_ble_eq_true rfl) ?_ hy ⟨rfl, rfl⟩
  unfold f_X12_lately
  refine Seg.step (pc' := 1) (I_aload_n (i := 0) dX12_lately_0 rfl rfl) ?_
  refine Seg.step (pc' := 2) (I_iconst dX12_lately_1 ⟨by decide, by decide⟩) ?_
  refine Seg.step (pc' := 5) (I_putI cls12 (by decide) wf_12_175 (hE _ _ sk_12) rfl rfl dX12_lately_2) ?_
  refine S_bM fun M1 => ?_
  refine Seg.step (pc' := 6) (I_aload_n (i := 0) dX12_lately_5 rfl rfl) ?_
  refine Seg.step (pc' := 7) (I_iload_n (i := 1) dX12_lately_6 rfl rfl) ?_
  refine S_callV1 (md' := m_X12_isPerson) (fun y => some (iV y)) (fun y => (sh, ex, R, M1)) (hE _ _ sk_12) ⟨by decide, rfl⟩ mm_X12_isPerson wm_12_482 ⟨rfl, rfl, by decide, by decide, by decide, by decide⟩ (Nat.le_of_ble_eq_true rfl) dX12_lately_7 (fun y hy => c_X12_isPerson hE hL y hy) (fun x2 => ?_)
  refine S_if_ne (tgt := 15) dX12_lately_10 (by decide) (fun h3 => ?_) (fun h3 => ?_)
  · refine Seg.step (pc' := 14) (I_iconst dX12_lately_13 ⟨by decide, by decide⟩) ?_
    exact S_iret dX12_lately_14 rfl (by decide) (by decide) (fun K hK => hK)
  refine Seg.step (pc' := 16) (I_iconst dX12_lately_15 ⟨by decide, by decide⟩) ?_
  refine Seg.step (pc' := 17) (I_istore_n (i := 2) dX12_lately_16 rfl (by decide) rfl) ?_
  refine Seg.forget (Lle.ye (Lle.ye (Lle.ye (Lle.no (Lle.nil))))) ?_
  refine S_bind (Y := MM) (k' := 0) (n' := 0) 38 (fun y => [some (rV 88), some (iV p1), none, none]) (fun y => []) (fun y => (sh, ex, R, y)) (S_loop (Y := Int × MM) (fun y => [some (rV 88), some (iV p1), some (iV y.1), none]) (fun y => []) (fun y => (sh, ex, R, y.2)) (fun x4 => ?_) FU (0, M1)) (fun x9 => ?_)
  · refine Seg.step (pc' := 18) (I_iload_n (i := 2) dX12_lately_17 rfl rfl) ?_
    refine Seg.step (pc' := 19) (I_aload_n (i := 0) dX12_lately_18 rfl rfl) ?_
    refine S_callV0 (md' := m_X12_knownBy) (fun y => some (iV y)) (fun y => (sh, ex, R, x4.2)) (hE _ _ sk_12) ⟨by decide, rfl⟩ mm_X12_knownBy wm_12_536 ⟨rfl, rfl, by decide, by decide, by decide, by decide⟩ (Nat.le_of_ble_eq_true rfl) dX12_lately_19 (fun y hy => c_X12_knownBy hE hL y hy) (fun x5 => ?_)
    refine S_icmp_ge (tgt := 38) dX12_lately_22 (by decide) (fun h6 => ?_) (fun h6 => ?_)
    · refine Seg.step (pc' := 26) (I_aload_n (i := 0) dX12_lately_25 rfl rfl) ?_
      refine Seg.step (pc' := 29) (I_getR cls12 (by decide) wf_12_148 (hE _ _ sk_12) rfl (lk_12_83 hL) dX12_lately_26) ?_
      refine Seg.step (pc' := 30) (I_iload_n (i := 2) dX12_lately_29 rfl rfl) ?_
      refine Seg.step (pc' := 31) (I_iconst dX12_lately_30 ⟨by decide, by decide⟩) ?_
      refine S_gd fun h7 => ?_
      refine Seg.step (pc' := 32) (I_zast (hE _ _ sk_12_83) h7 (by decide) dX12_lately_31) ?_
      refine S_bM fun M8 => ?_
      refine Seg.step (pc' := 35) (I_iinc dX12_lately_32 rfl (by decide) rfl) ?_
      refine Seg.step (pc' := 17) (I_goto (tgt := 17) dX12_lately_35 (by decide)) ?_
      exact S_arr (fun K hK => GG.forget (Lle.ye (Lle.ye (Lle.ye (Lle.no (Lle.nil))))) hK)
    exact S_arr (fun K hK => GG.forget (Lle.ye (Lle.ye (Lle.no (Lle.no (Lle.nil))))) hK)
  refine Seg.step (pc' := 39) (I_aload_n (i := 0) dX12_lately_38 rfl rfl) ?_
  refine S_callV0 (md' := m_X12_knownBy) (fun y => some (iV y)) (fun y => (sh, ex, R, x9)) (hE _ _ sk_12) ⟨by decide, rfl⟩ mm_X12_knownBy wm_12_536 ⟨rfl, rfl, by decide, by decide, by decide, by decide⟩ (Nat.le_of_ble_eq_true rfl) dX12_lately_39 (fun y hy => c_X12_knownBy hE hL y hy) (fun x10 => ?_)
  refine Seg.step (pc' := 43) (I_iconst dX12_lately_42 ⟨by decide, by decide⟩) ?_
  refine Seg.step (pc' := 44) (I_isub dX12_lately_43) ?_
  refine S_bI fun x11 => ?_
  refine Seg.step (pc' := 45) (I_istore_n (i := 2) dX12_lately_44 rfl (by decide) rfl) ?_
  refine Seg.forget (Lle.ye (Lle.ye (Lle.ye (Lle.no (Lle.nil))))) ?_
  refine S_bind (Y := MM) (k' := 0) (n' := 0) 91 (fun y => [some (rV 88), some (iV p1), none, none]) (fun y => []) (fun y => (sh, ex, R, y)) (S_loop (Y := Int × MM) (fun y => [some (rV 88), some (iV p1), some (iV y.1), none]) (fun y => []) (fun y => (sh, ex, R, y.2)) (fun x12 => ?_) FU (x11, x9)) (fun x22 => ?_)
  · refine Seg.step (pc' := 46) (I_iload_n (i := 2) dX12_lately_45 rfl rfl) ?_
    refine S_if_lt (tgt := 91) dX12_lately_46 (by decide) (fun h13 => ?_) (fun h13 => ?_)
    · exact S_arr (fun K hK => GG.forget (Lle.ye (Lle.ye (Lle.no (Lle.no (Lle.nil))))) hK)
    refine Seg.step (pc' := 50) (I_aload_n (i := 0) dX12_lately_49 rfl rfl) ?_
    refine Seg.step (pc' := 53) (I_getR cls12 (by decide) wf_12_148 (hE _ _ sk_12) rfl (lk_12_83 hL) dX12_lately_50) ?_
    refine Seg.step (pc' := 54) (I_iload_n (i := 2) dX12_lately_53 rfl rfl) ?_
    refine S_gd fun h14 => ?_
    refine Seg.step (pc' := 55) (I_zald (hE _ _ sk_12_83) h14 dX12_lately_54) ?_
    refine S_bind (Y := MM) (k' := 0) (n' := 0) 85 (fun y => [some (rV 88), some (iV p1), some (iV x12.1), none]) (fun y => []) (fun y => (sh, ex, R, y)) ?_ (fun x21 => ?_)
    · refine S_if_eq (tgt := 85) dX12_lately_55 (by decide) (fun h15 => ?_) (fun h15 => ?_)
      · exact S_arr (fun K hK => GG.forget (Lle.ye (Lle.ye (Lle.ye (Lle.no (Lle.nil))))) hK)
      refine Seg.step (pc' := 59) (I_aload_n (i := 0) dX12_lately_58 rfl rfl) ?_
      refine Seg.step (pc' := 62) (I_getR cls12 (by decide) wf_12_145 (hE _ _ sk_12) rfl (lk_12_82 hL) dX12_lately_59) ?_
      refine Seg.step (pc' := 63) (I_iconst dX12_lately_62 ⟨by decide, by decide⟩) ?_
      refine Seg.step (pc' := 64) (I_iload_n (i := 2) dX12_lately_63 rfl rfl) ?_
      refine Seg.step (pc' := 65) (I_imul dX12_lately_64) ?_
      refine S_gd fun h16 => ?_
      refine Seg.step (pc' := 66) (I_iald (hE _ _ sk_12_82) h16 dX12_lately_65) ?_
      refine S_if_ge (tgt := 85) dX12_lately_66 (by decide) (fun h17 => ?_) (fun h17 => ?_)
      · refine Seg.step (pc' := 70) (I_aload_n (i := 0) dX12_lately_69 rfl rfl) ?_
        refine Seg.step (pc' := 73) (I_getR cls12 (by decide) wf_12_148 (hE _ _ sk_12) rfl (lk_12_83 hL) dX12_lately_70) ?_
        refine Seg.step (pc' := 74) (I_aload_n (i := 0) dX12_lately_73 rfl rfl) ?_
        refine Seg.step (pc' := 77) (I_getR cls12 (by decide) wf_12_145 (hE _ _ sk_12) rfl (lk_12_82 hL) dX12_lately_74) ?_
        refine Seg.step (pc' := 78) (I_iconst dX12_lately_77 ⟨by decide, by decide⟩) ?_
        refine Seg.step (pc' := 79) (I_iload_n (i := 2) dX12_lately_78 rfl rfl) ?_
        refine Seg.step (pc' := 80) (I_imul dX12_lately_79) ?_
        refine Seg.step (pc' := 81) (I_iconst dX12_lately_80 ⟨by decide, by decide⟩) ?_
        refine Seg.step (pc' := 82) (I_iadd dX12_lately_81) ?_
        refine S_gd fun h18 => ?_
        refine Seg.step (pc' := 83) (I_iald (hE _ _ sk_12_82) h18 dX12_lately_82) ?_
        refine Seg.step (pc' := 84) (I_iconst dX12_lately_83 ⟨by decide, by decide⟩) ?_
        refine S_gd fun h19 => ?_
        refine Seg.step (pc' := 85) (I_zast (hE _ _ sk_12_83) h19 (by decide) dX12_lately_84) ?_
        refine S_bM fun M20 => ?_
        exact S_arr (fun K hK => GG.forget (Lle.ye (Lle.ye (Lle.ye (Lle.no (Lle.nil))))) hK)
      exact S_arr (fun K hK => GG.forget (Lle.ye (Lle.ye (Lle.ye (Lle.no (Lle.nil))))) hK)
    refine Seg.step (pc' := 88) (I_iinc dX12_lately_85 rfl (by decide) rfl) ?_
    refine Seg.step (pc' := 45) (I_goto (tgt := 45) dX12_lately_88 (by decide)) ?_
    exact S_arr (fun K hK => GG.forget (Lle.ye (Lle.ye (Lle.ye (Lle.no (Lle.nil))))) hK)
  refine Seg.step (pc' := 92) (I_iconst dX12_lately_91 ⟨by decide, by decide⟩) ?_
  refine Seg.step (pc' := 93) (I_istore_n (i := 2) dX12_lately_92 rfl (by decide) rfl) ?_
  refine Seg.step (pc' := 94) (I_iconst dX12_lately_93 ⟨by decide, by decide⟩) ?_
  refine Seg.step (pc' := 95) (I_istore_n (i := 3) dX12_lately_94 rfl (by decide) rfl) ?_
  refine Seg.forget (Lle.ye (Lle.ye (Lle.ye (Lle.ye (Lle.nil))))) ?_
  refine S_bind (Y := Int × MM) (k' := 0) (n' := 0) 126 (fun y => [some (rV 88), none, some (iV y.1), none]) (fun y => []) (fun y => (sh, ex, R, y.2)) (S_loop (Y := Int × Int × MM) (fun y => [some (rV 88), some (iV p1), some (iV y.1), some (iV y.2.1)]) (fun y => []) (fun y => (sh, ex, R, y.2.2)) (fun x23 => ?_) FU (0, 0, x22)) (fun x29 => ?_)
  · refine Seg.step (pc' := 96) (I_iload_n (i := 3) dX12_lately_95 rfl rfl) ?_
    refine Seg.step (pc' := 98) (I_bipush dX12_lately_96 (by decide) ⟨by decide, by decide⟩) ?_
    refine S_icmp_ge (tgt := 126) dX12_lately_98 (by decide) (fun h24 => ?_) (fun h24 => ?_)
    · refine Seg.step (pc' := 102) (I_iload_n (i := 2) dX12_lately_101 rfl rfl) ?_
      refine Seg.step (pc' := 103) (I_aload_n (i := 0) dX12_lately_102 rfl rfl) ?_
      refine Seg.step (pc' := 104) (I_iload_n (i := 1) dX12_lately_103 rfl rfl) ?_
      refine Seg.step (pc' := 105) (I_iload_n (i := 3) dX12_lately_104 rfl rfl) ?_
      refine S_callV2 (md' := m_X12_fits) (fun y => some (iV y.1)) (fun y => (sh, ex, R, y.2)) (hE _ _ sk_12) ⟨by decide, rfl⟩ mm_X12_fits wm_12_542 ⟨rfl, rfl, by decide, by decide, by decide, by decide⟩ (Nat.le_of_ble_eq_true rfl) dX12_lately_105 (fun y hy => c_X12_fits hE hL y hy) (fun x25 => ?_)
      refine S_bind (Y := Int) (k' := 0) (n' := 0) 118 (fun y => [some (rV 88), some (iV p1), none, some (iV x23.2.1)]) (fun y => [iV y, iV x23.1]) (fun y => (sh, ex, R, x25.2)) ?_ (fun x27 => ?_)
      · refine S_if_eq (tgt := 117) dX12_lately_108 (by decide) (fun h26 => ?_) (fun h26 => ?_)
        · refine Seg.step (pc' := 118) (I_iconst dX12_lately_117 ⟨by decide, by decide⟩) ?_
          exact S_arr (fun K hK => GG.forget (Lle.ye (Lle.ye (Lle.no (Lle.ye (Lle.nil))))) hK)
        refine Seg.step (pc' := 112) (I_iconst dX12_lately_111 ⟨by decide, by decide⟩) ?_
        refine Seg.step (pc' := 113) (I_iload_n (i := 3) dX12_lately_112 rfl rfl) ?_
        refine Seg.step (pc' := 114) (I_ishl dX12_lately_113) ?_
        refine Seg.step (pc' := 118) (I_goto (tgt := 118) dX12_lately_114 (by decide)) ?_
        exact S_arr (fun K hK => GG.forget (Lle.ye (Lle.ye (Lle.no (Lle.ye (Lle.nil))))) hK)
      refine Seg.step (pc' := 119) (I_ior dX12_lately_118) ?_
      refine S_bI fun x28 => ?_
      refine Seg.step (pc' := 120) (I_istore_n (i := 2) dX12_lately_119 rfl (by decide) rfl) ?_
      refine Seg.step (pc' := 123) (I_iinc dX12_lately_120 rfl (by decide) rfl) ?_
      refine Seg.step (pc' := 95) (I_goto (tgt := 95) dX12_lately_123 (by decide)) ?_
      exact S_arr (fun K hK => GG.forget (Lle.ye (Lle.ye (Lle.ye (Lle.ye (Lle.nil))))) hK)
    exact S_arr (fun K hK => GG.forget (Lle.ye (Lle.no (Lle.ye (Lle.no (Lle.nil))))) hK)
  refine Seg.step (pc' := 127) (I_aload_n (i := 0) dX12_lately_126 rfl rfl) ?_
  refine S_callV0 (md' := m_X12_plainTried) (fun y => none) (fun y => (sh, ex, R, y)) (hE _ _ sk_12) ⟨by decide, rfl⟩ mm_X12_plainTried wm_12_385 ⟨rfl, rfl, by decide, by decide, by decide, by decide⟩ (Nat.le_of_ble_eq_true rfl) dX12_lately_127 (fun y hy => c_X12_plainTried hE hL y hy) (fun x30 => ?_)
  refine Seg.step (pc' := 131) (I_iload_n (i := 2) dX12_lately_130 rfl rfl) ?_
  exact S_iret dX12_lately_131 rfl (by decide) (by decide) (fun K hK => hK)
theorem dX12_number1_0 : decode cX12_number1 0 = .ok (.aload_n 0, 1) := by decide +kernel
theorem dX12_number1_1 : decode cX12_number1 1 = .ok (.aload_n 0, 1) := by decide +kernel
theorem dX12_number1_2 : decode cX12_number1 2 = .ok (.getfield 545, 3) := by decide +kernel
theorem dX12_number1_5 : decode cX12_number1 5 = .ok (.ldc2_w 549, 3) := by decide +kernel
theorem dX12_number1_8 : decode cX12_number1 8 = .ok (.lmul, 1) := by decide +kernel
theorem dX12_number1_9 : decode cX12_number1 9 = .ok (.ldc2_w 551, 3) := by decide +kernel
theorem dX12_number1_12 : decode cX12_number1 12 = .ok (.ladd, 1) := by decide +kernel
theorem dX12_number1_13 : decode cX12_number1 13 = .ok (.ldc2_w 553, 3) := by decide +kernel
theorem dX12_number1_16 : decode cX12_number1 16 = .ok (.land, 1) := by decide +kernel
theorem dX12_number1_17 : decode cX12_number1 17 = .ok (.putfield 545, 3) := by decide +kernel
theorem dX12_number1_20 : decode cX12_number1 20 = .ok (.aload_n 0, 1) := by decide +kernel
theorem dX12_number1_21 : decode cX12_number1 21 = .ok (.getfield 545, 3) := by decide +kernel
theorem dX12_number1_24 : decode cX12_number1 24 = .ok (.ldc2_w 555, 3) := by decide +kernel
theorem dX12_number1_27 : decode cX12_number1 27 = .ok (.ldiv, 1) := by decide +kernel
theorem dX12_number1_28 : decode cX12_number1 28 = .ok (.iload_n 1, 1) := by decide +kernel
theorem dX12_number1_29 : decode cX12_number1 29 = .ok (.i2l, 1) := by decide +kernel
theorem dX12_number1_30 : decode cX12_number1 30 = .ok (.lrem, 1) := by decide +kernel
theorem dX12_number1_31 : decode cX12_number1 31 = .ok (.l2i, 1) := by decide +kernel
theorem dX12_number1_32 : decode cX12_number1 32 = .ok (.ireturn, 1) := by decide +kernel
def f_X12_number1 (M : MM) (p1 : Int) : Option (Int × MM) :=
bM (upM M 88 84 (and64 (w64 ((w64 ((M 88 84) * 1103515245)) + 12345)) 2147483647)) fun M1 =>
gd (p1 ≠ 0) <|
some (w32 (w64 (Int.tmod (w64 (Int.tdiv (M1 88 84) 65536)) p1)), M1)
set_option maxRecDepth 4000 in
theorem c_X12_number1 {E : EE} {sh : List (Nat × Nat)} {ex : Bool} {R : RM} {M : MM} {p1 : Int} (hE : Ext sh) (hL : Links R) : ∀ y, f_X12_number1 M p1 = some y → MetC E m_X12_number1 0 0 [rV 88, iV p1] (sh, ex, R, M) (fun r w' => r = some (iV y.1) ∧ w' = (sh, ex, R, y.2)) := by
  intro y hy
  refine MetC.seg (o := f_X12_number1 M p1) (t := (fun K y => K (some (iV y.1)) (sh, ex, R, y.2))) (L := [some (rV 88), some (iV p1)]) (by decide) rfl (Nat.le_of_ble_eq_true rfl) ?_ hy ⟨rfl, rfl⟩
  unfold f_X12_number1
  refine Seg.step (pc' := 1) (I_aload_n (i := 0) dX12_number1_0 rfl rfl) ?_
  refine Seg.step (pc' := 2) (I_aload_n (i := 0) dX12_number1_1 rfl rfl) ?_
  refine Seg.step (pc' := 5) (I_getJ cls12 (by decide) wf_12_545 (hE _ _ sk_12) rfl dX12_number1_2) ?_
  refine Seg.step (pc' := 8) (I_ldc2 (z := 1103515245) dX12_number1_5 wk_12_549 ⟨by decide, by decide⟩) ?_
  refine Seg.step (pc' := 9) (I_lmul dX12_number1_8) ?_
  refine Seg.step (pc' := 12) (I_ldc2 (z := 12345) dX12_number1_9 wk_12_551 ⟨by decide, by decide⟩) ?_
  refine Seg.step (pc' := 13) (I_ladd dX12_number1_12) ?_
  refine Seg.step (pc' := 16) (I_ldc2 (z := 2147483647) dX12_number1_13 wk_12_553 ⟨by decide, by decide⟩) ?_
  refine Seg.step (pc' := 17) (I_land dX12_number1_16) ?_
  refine Seg.step (pc' := 20) (I_putJ cls12 (by decide) wf_12_545 (hE _ _ sk_12) rfl rfl dX12_number1_17) ?_
  refine S_bM fun M1 => ?_
  refine Seg.step (pc' := 21) (I_aload_n (i := 0) dX12_number1_20 rfl rfl) ?_
  refine Seg.step (pc' := 24) (I_getJ cls12 (by decide) wf_12_545 (hE _ _ sk_12) rfl dX12_number1_21) ?_
  refine Seg.step (pc' := 27) (I_ldc2 (z := 65536) dX12_number1_24 wk_12_555 ⟨by decide, by decide⟩) ?_
  refine Seg.step (pc' := 28) (I_ldiv dX12_number1_27 (by decide)) ?_
  refine Seg.step (pc' := 29) (I_iload_n (i := 1) dX12_number1_28 rfl rfl) ?_
  refine Seg.step (pc' := 30) (I_i2l dX12_number1_29) ?_
  refine S_gd fun h2 => ?_
  refine Seg.step (pc' := 31) (I_lrem dX12_number1_30 h2) ?_
  refine Seg.step (pc' := 32) (I_l2i dX12_number1_31) ?_
  exact S_iret dX12_number1_32 rfl (by decide) (by decide) (fun K hK => hK)
theorem dX12_chance_0 : decode cX12_chance 0 = .ok (.aload_n 0, 1) := by decide +kernel
theorem dX12_chance_1 : decode cX12_chance 1 = .ok (.iconst 0, 1) := by decide +kernel
theorem dX12_chance_2 : decode cX12_chance 2 = .ok (.putfield 175, 3) := by decide +kernel
theorem dX12_chance_5 : decode cX12_chance 5 = .ok (.iload_n 1, 1) := by decide +kernel
theorem dX12_chance_6 : decode cX12_chance 6 = .ok (.ifCond .lt 33, 3) := by decide +kernel
theorem dX12_chance_9 : decode cX12_chance 9 = .ok (.iload_n 2, 1) := by decide +kernel
theorem dX12_chance_10 : decode cX12_chance 10 = .ok (.iconst 1, 1) := by decide +kernel
theorem dX12_chance_11 : decode cX12_chance 11 = .ok (.bipush 99, 2) := by decide +kernel
theorem dX12_chance_13 : decode cX12_chance 13 = .ok (.invokestatic 220, 3) := by decide +kernel
theorem dX12_chance_16 : decode cX12_chance 16 = .ok (.ifCond .eq 23, 3) := by decide +kernel
theorem dX12_chance_19 : decode cX12_chance 19 = .ok (.aload_n 0, 1) := by decide +kernel
theorem dX12_chance_20 : decode cX12_chance 20 = .ok (.iload_n 3, 1) := by decide +kernel
theorem dX12_chance_21 : decode cX12_chance 21 = .ok (.invokevirtual 488, 3) := by decide +kernel
theorem dX12_chance_24 : decode cX12_chance 24 = .ok (.ifCond .eq 15, 3) := by decide +kernel
theorem dX12_chance_27 : decode cX12_chance 27 = .ok (.iload 4, 2) := by decide +kernel
theorem dX12_chance_29 : decode cX12_chance 29 = .ok (.iconst 0, 1) := by decide +kernel
theorem dX12_chance_30 : decode cX12_chance 30 = .ok (.sipush 600, 3) := by decide +kernel
theorem dX12_chance_33 : decode cX12_chance 33 = .ok (.invokestatic 220, 3) := by decide +kernel
theorem dX12_chance_36 : decode cX12_chance 36 = .ok (.ifCond .ne 5, 3) := by decide +kernel
theorem dX12_chance_39 : decode cX12_chance 39 = .ok (.iconst (-1), 1) := by decide +kernel
theorem dX12_chance_40 : decode cX12_chance 40 = .ok (.ireturn, 1) := by decide +kernel
theorem dX12_chance_41 : decode cX12_chance 41 = .ok (.aload_n 0, 1) := by decide +kernel
theorem dX12_chance_42 : decode cX12_chance 42 = .ok (.iload_n 1, 1) := by decide +kernel
theorem dX12_chance_43 : decode cX12_chance 43 = .ok (.i2l, 1) := by decide +kernel
theorem dX12_chance_44 : decode cX12_chance 44 = .ok (.putfield 545, 3) := by decide +kernel
theorem dX12_chance_47 : decode cX12_chance 47 = .ok (.iconst 0, 1) := by decide +kernel
theorem dX12_chance_48 : decode cX12_chance 48 = .ok (.istore 5, 2) := by decide +kernel
theorem dX12_chance_50 : decode cX12_chance 50 = .ok (.iconst 0, 1) := by decide +kernel
theorem dX12_chance_51 : decode cX12_chance 51 = .ok (.istore 6, 2) := by decide +kernel
theorem dX12_chance_53 : decode cX12_chance 53 = .ok (.iload 6, 2) := by decide +kernel
theorem dX12_chance_55 : decode cX12_chance 55 = .ok (.bipush 10, 2) := by decide +kernel
theorem dX12_chance_57 : decode cX12_chance 57 = .ok (.if_icmp .ge 69, 3) := by decide +kernel
theorem dX12_chance_60 : decode cX12_chance 60 = .ok (.aload_n 0, 1) := by decide +kernel
theorem dX12_chance_61 : decode cX12_chance 61 = .ok (.invokevirtual 430, 3) := by decide +kernel
theorem dX12_chance_64 : decode cX12_chance 64 = .ok (.iconst 0, 1) := by decide +kernel
theorem dX12_chance_65 : decode cX12_chance 65 = .ok (.istore 7, 2) := by decide +kernel
theorem dX12_chance_67 : decode cX12_chance 67 = .ok (.iload 7, 2) := by decide +kernel
theorem dX12_chance_69 : decode cX12_chance 69 = .ok (.iload_n 2, 1) := by decide +kernel
theorem dX12_chance_70 : decode cX12_chance 70 = .ok (.if_icmp .ge 27, 3) := by decide +kernel
theorem dX12_chance_73 : decode cX12_chance 73 = .ok (.aload_n 0, 1) := by decide +kernel
theorem dX12_chance_74 : decode cX12_chance 74 = .ok (.aload_n 0, 1) := by decide +kernel
theorem dX12_chance_75 : decode cX12_chance 75 = .ok (.bipush 101, 2) := by decide +kernel
theorem dX12_chance_77 : decode cX12_chance 77 = .ok (.invokevirtual 557, 3) := by decide +kernel
theorem dX12_chance_80 : decode cX12_chance 80 = .ok (.bipush 50, 2) := by decide +kernel
theorem dX12_chance_82 : decode cX12_chance 82 = .ok (.isub, 1) := by decide +kernel
theorem dX12_chance_83 : decode cX12_chance 83 = .ok (.putfield 421, 3) := by decide +kernel
theorem dX12_chance_86 : decode cX12_chance 86 = .ok (.aload_n 0, 1) := by decide +kernel
theorem dX12_chance_87 : decode cX12_chance 87 = .ok (.iconst 1, 1) := by decide +kernel
theorem dX12_chance_88 : decode cX12_chance 88 = .ok (.invokevirtual 479, 3) := by decide +kernel
theorem dX12_chance_91 : decode cX12_chance 91 = .ok (.iinc 7 1, 3) := by decide +kernel
theorem dX12_chance_94 : decode cX12_chance 94 = .ok (.goto (-27), 3) := by decide +kernel
theorem dX12_chance_97 : decode cX12_chance 97 = .ok (.iload 5, 2) := by decide +kernel
theorem dX12_chance_99 : decode cX12_chance 99 = .ok (.aload_n 0, 1) := by decide +kernel
theorem dX12_chance_100 : decode cX12_chance 100 = .ok (.getfield 97, 3) := by decide +kernel
theorem dX12_chance_103 : decode cX12_chance 103 = .ok (.iconst 5, 1) := by decide +kernel
theorem dX12_chance_104 : decode cX12_chance 104 = .ok (.iload_n 3, 1) := by decide +kernel
theorem dX12_chance_105 : decode cX12_chance 105 = .ok (.iadd, 1) := by decide +kernel
theorem dX12_chance_106 : decode cX12_chance 106 = .ok (.iaload, 1) := by decide +kernel
theorem dX12_chance_107 : decode cX12_chance 107 = .ok (.iload 4, 2) := by decide +kernel
theorem dX12_chance_109 : decode cX12_chance 109 = .ok (.if_icmp .lt 7, 3) := by decide +kernel
theorem dX12_chance_112 : decode cX12_chance 112 = .ok (.iconst 1, 1) := by decide +kernel
theorem dX12_chance_113 : decode cX12_chance 113 = .ok (.goto 4, 3) := by decide +kernel
theorem dX12_chance_116 : decode cX12_chance 116 = .ok (.iconst 0, 1) := by decide +kernel
theorem dX12_chance_117 : decode cX12_chance 117 = .ok (.iadd, 1) := by decide +kernel
theorem dX12_chance_118 : decode cX12_chance 118 = .ok (.istore 5, 2) := by decide +kernel
theorem dX12_chance_120 : decode cX12_chance 120 = .ok (.iinc 6 1, 3) := by decide +kernel
theorem dX12_chance_123 : decode cX12_chance 123 = .ok (.goto (-70), 3) := by decide +kernel
theorem dX12_chance_126 : decode cX12_chance 126 = .ok (.aload_n 0, 1) := by decide +kernel
theorem dX12_chance_127 : decode cX12_chance 127 = .ok (.invokevirtual 385, 3) := by decide +kernel
theorem dX12_chance_130 : decode cX12_chance 130 = .ok (.iload 5, 2) := by decide +kernel
theorem dX12_chance_132 : decode cX12_chance 132 = .ok (.ireturn, 1) := by decide +kernel
def f_X12_chance (M : MM) (p1 : Int) (p2 : Int) (p3 : Int) (p4 : Int) : Option (Int × MM) :=
bM (upM M 88 2 0) fun M1 =>
if p1 < 0 then
(some ((-1), M1))
else
(f_X12_isIn M1 p2 1 99).bind fun x3 =>
if x3 = 0 then
(some ((-1), M1))
else
(f_X12_isRoom M1 p3).bind fun x5 =>
if x5 = 0 then
(some ((-1), M1))
else
(f_X12_isIn M1 p4 0 600).bind fun x7 =>
if x7 = 0 then
(some ((-1), M1))
else
bM (upM M1 88 84 p1) fun M9 =>
(lp (X := Int × Int × MM) (Y := Int × MM) (fun x10 =>
if x10.2.1 < 10 then
((f_X12_layTried x10.2.2).bind fun x12 =>
(lp (X := Int × MM) (Y := MM) (fun x13 =>
if x13.1 < p2 then
((f_X12_number1 x13.2 101).bind fun x15 =>
bM (upM x15.2 88 77 (w32 (x15.1 - 50))) fun M16 =>
(f_X12_goOn M16 1).bind fun x17 =>
some (Sum.inl (w32 (x13.1 + 1), x17)))
else
some (Sum.inr x13.2)) FU (0, x12)).bind fun x18 =>
gd (0 ≤ w32 (5 + p3) ∧ w32 (5 + p3) < (10 : Int)) <|
((if (x18 116 (w32 (5 + p3)).toNat) < p4 then
(some 0)
else
some 1) : Option (Int)).bind fun x21 =>
bI (w32 (x10.1 + x21)) fun x22 =>
some (Sum.inl (x22, w32 (x10.2.1 + 1), x18)))
else
some (Sum.inr (x10.1, x10.2.2))) FU (0, 0, M9)).bind fun x23 =>
(f_X12_plainTried x23.2).bind fun x24 =>
some (x23.1, x24)
set_option maxRecDepth 4000 in
theorem c_X12_chance {E : EE} {sh : List (Nat × Nat)} {ex : Bool} {R : RM} {M : MM} {p1 : Int} {p2 : Int} {p3 : Int} {p4 : Int} (hE : Ext sh) (hL : Links R) : ∀ y, f_X12_chance M p1 p2 p3 p4 = some y → MetC E m_X12_chance 0 0 [rV 88, iV p1, iV p2, iV p3, iV p4] (sh, ex, R, M) (fun r w' => r = some (iV y.1) ∧ w' = (sh, ex, R, y.2)) := by
  intro y hy
  refine MetC.seg (o := f_X12_chance M p1 p2 p3 p4) (t := (fun K y => K (some (iV y.1)) (sh, ex, R, y.2))) (L := [some (rV 88), some (iV p1), some (iV p2), some (iV p3), some (iV p4), none, none, none]) (by decide) rfl (Nat.le_of_ble_eq_true rfl) ?_ hy ⟨rfl, rfl⟩
  unfold f_X12_chance
  refine Seg.step (pc' := 1) (I_aload_n (i := 0) dX12_chance_0 rfl rfl) ?_
  refine Seg.step (pc' := 2) (I_iconst dX12_chance_1 ⟨by decide, by decide⟩) ?_
  refine Seg.step (pc' := 5) (I_putI cls12 (by decide) wf_12_175 (hE _ _ sk_12) rfl rfl dX12_chance_2) ?_
  refine S_bM fun M1 => ?_
  refine Seg.step (pc' := 6) (I_iload_n (i := 1) dX12_chance_5 rfl rfl) ?_
  refine S_if_lt (tgt := 39) dX12_chance_6 (by decide) (fun h2 => ?_) (fun h2 => ?_)
  · refine Seg.step (pc' := 40) (I_iconst dX12_chance_39 ⟨by decide, by decide⟩) ?_
    exact S_iret dX12_chance_40 rfl (by decide) (by decide) (fun K hK => hK)
  refine Seg.step (pc' := 10) (I_iload_n (i := 2) dX12_chance_9 rfl rfl) ?_
  refine Seg.step (pc' := 11) (I_iconst dX12_chance_10 ⟨by decide, by decide⟩) ?_
  refine Seg.step (pc' := 13) (I_bipush dX12_chance_11 (by decide) ⟨by decide, by decide⟩) ?_
  refine S_callS3 (md' := m_X12_isIn) (fun y => some (iV y)) (fun y => (sh, ex, R, M1)) mm_X12_isIn wm_12_220 ⟨rfl, rfl, by decide, by decide, by decide, by decide⟩ (Nat.le_of_ble_eq_true rfl) dX12_chance_13 (fun y hy => c_X12_isIn hE hL y hy) (fun x3 => ?_)
  refine S_if_eq (tgt := 39) dX12_chance_16 (by decide) (fun h4 => ?_) (fun h4 => ?_)
  · refine Seg.step (pc' := 40) (I_iconst dX12_chance_39 ⟨by decide, by decide⟩) ?_
    exact S_iret dX12_chance_40 rfl (by decide) (by decide) (fun K hK => hK)
  refine Seg.step (pc' := 20) (I_aload_n (i := 0) dX12_chance_19 rfl rfl) ?_
  refine Seg.step (pc' := 21) (I_iload_n (i := 3) dX12_chance_20 rfl rfl) ?_
  refine S_callV1 (md' := m_X12_isRoom) (fun y => some (iV y)) (fun y => (sh, ex, R, M1)) (hE _ _ sk_12) ⟨by decide, rfl⟩ mm_X12_isRoom wm_12_488 ⟨rfl, rfl, by decide, by decide, by decide, by decide⟩ (Nat.le_of_ble_eq_true rfl) dX12_chance_21 (fun y hy => c_X12_isRoom hE hL y hy) (fun x5 => ?_)
  refine S_if_eq (tgt := 39) dX12_chance_24 (by decide) (fun h6 => ?_) (fun h6 => ?_)
  · refine Seg.step (pc' := 40) (I_iconst dX12_chance_39 ⟨by decide, by decide⟩) ?_
    exact S_iret dX12_chance_40 rfl (by decide) (by decide) (fun K hK => hK)
  refine Seg.step (pc' := 29) (I_iload dX12_chance_27 rfl) ?_
  refine Seg.step (pc' := 30) (I_iconst dX12_chance_29 ⟨by decide, by decide⟩) ?_
  refine Seg.step (pc' := 33) (I_sipush dX12_chance_30 (by decide) ⟨by decide, by decide⟩) ?_
  refine S_callS3 (md' := m_X12_isIn) (fun y => some (iV y)) (fun y => (sh, ex, R, M1)) mm_X12_isIn wm_12_220 ⟨rfl, rfl, by decide, by decide, by decide, by decide⟩ (Nat.le_of_ble_eq_true rfl) dX12_chance_33 (fun y hy => c_X12_isIn hE hL y hy) (fun x7 => ?_)
  refine S_if_ne (tgt := 41) dX12_chance_36 (by decide) (fun h8 => ?_) (fun h8 => ?_)
  · refine Seg.step (pc' := 40) (I_iconst dX12_chance_39 ⟨by decide, by decide⟩) ?_
    exact S_iret dX12_chance_40 rfl (by decide) (by decide) (fun K hK => hK)
  refine Seg.step (pc' := 42) (I_aload_n (i := 0) dX12_chance_41 rfl rfl) ?_
  refine Seg.step (pc' := 43) (I_iload_n (i := 1) dX12_chance_42 rfl rfl) ?_
  refine Seg.step (pc' := 44) (I_i2l dX12_chance_43) ?_
  refine Seg.step (pc' := 47) (I_putJ cls12 (by decide) wf_12_545 (hE _ _ sk_12) rfl rfl dX12_chance_44) ?_
  refine S_bM fun M9 => ?_
  refine Seg.step (pc' := 48) (I_iconst dX12_chance_47 ⟨by decide, by decide⟩) ?_
  refine Seg.step (pc' := 50) (I_istore dX12_chance_48 (by decide) rfl) ?_
  refine Seg.step (pc' := 51) (I_iconst dX12_chance_50 ⟨by decide, by decide⟩) ?_
  refine Seg.step (pc' := 53) (I_istore dX12_chance_51 (by decide) rfl) ?_
  refine Seg.forget (Lle.ye (Lle.no (Lle.ye (Lle.ye (Lle.ye (Lle.ye (Lle.ye (Lle.no (Lle.nil))))))))) ?_
  refine S_bind (Y := Int × MM) (k' := 0) (n' := 0) 126 (fun y => [some (rV 88), none, none, none, none, some (iV y.1), none, none]) (fun y => []) (fun y => (sh, ex, R, y.2)) (S_loop (Y := Int × Int × MM) (fun y => [some (rV 88), none, some (iV p2), some (iV p3), some (iV p4), some (iV y.1), some (iV y.2.1), none]) (fun y => []) (fun y => (sh, ex, R, y.2.2)) (fun x10 => ?_) FU (0, 0, M9)) (fun x23 => ?_)
  · refine Seg.step (pc' := 55) (I_iload dX12_chance_53 rfl) ?_
    refine Seg.step (pc' := 57) (I_bipush dX12_chance_55 (by decide) ⟨by decide, by decide⟩) ?_
    refine S_icmp_ge (tgt := 126) dX12_chance_57 (by decide) (fun h11 => ?_) (fun h11 => ?_)
    · refine Seg.step (pc' := 61) (I_aload_n (i := 0) dX12_chance_60 rfl rfl) ?_
      refine S_callV0 (md' := m_X12_layTried) (fun y => none) (fun y => (sh, ex, R, y)) (hE _ _ sk_12) ⟨by decide, rfl⟩ mm_X12_layTried wm_12_430 ⟨rfl, rfl, by decide, by decide, by decide, by decide⟩ (Nat.le_of_ble_eq_true rfl) dX12_chance_61 (fun y hy => c_X12_layTried hE hL y hy) (fun x12 => ?_)
      refine Seg.step (pc' := 65) (I_iconst dX12_chance_64 ⟨by decide, by decide⟩) ?_
      refine Seg.step (pc' := 67) (I_istore dX12_chance_65 (by decide) rfl) ?_
      refine Seg.forget (Lle.ye (Lle.no (Lle.ye (Lle.ye (Lle.ye (Lle.ye (Lle.ye (Lle.ye (Lle.nil))))))))) ?_
      refine S_bind (Y := MM) (k' := 0) (n' := 0) 97 (fun y => [some (rV 88), none, some (iV p2), some (iV p3), some (iV p4), some (iV x10.1), some (iV x10.2.1), none]) (fun y => []) (fun y => (sh, ex, R, y)) (S_loop (Y := Int × MM) (fun y => [some (rV 88), none, some (iV p2), some (iV p3), some (iV p4), some (iV x10.1), some (iV x10.2.1), some (iV y.1)]) (fun y => []) (fun y => (sh, ex, R, y.2)) (fun x13 => ?_) FU (0, x12)) (fun x18 => ?_)
      · refine Seg.step (pc' := 69) (I_iload dX12_chance_67 rfl) ?_
        refine Seg.step (pc' := 70) (I_iload_n (i := 2) dX12_chance_69 rfl rfl) ?_
        refine S_icmp_ge (tgt := 97) dX12_chance_70 (by decide) (fun h14 => ?_) (fun h14 => ?_)
        · refine Seg.step (pc' := 74) (I_aload_n (i := 0) dX12_chance_73 rfl rfl) ?_
          refine Seg.step (pc' := 75) (I_aload_n (i := 0) dX12_chance_74 rfl rfl) ?_
          refine Seg.step (pc' := 77) (I_bipush dX12_chance_75 (by decide) ⟨by decide, by decide⟩) ?_
          refine S_callV1 (md' := m_X12_number1) (fun y => some (iV y.1)) (fun y => (sh, ex, R, y.2)) (hE _ _ sk_12) ⟨by decide, rfl⟩ mm_X12_number1 wm_12_557 ⟨rfl, rfl, by decide, by decide, by decide, by decide⟩ (Nat.le_of_ble_eq_true rfl) dX12_chance_77 (fun y hy => c_X12_number1 hE hL y hy) (fun x15 => ?_)
          refine Seg.step (pc' := 82) (I_bipush dX12_chance_80 (by decide) ⟨by decide, by decide⟩) ?_
          refine Seg.step (pc' := 83) (I_isub dX12_chance_82) ?_
          refine Seg.step (pc' := 86) (I_putI cls12 (by decide) wf_12_421 (hE _ _ sk_12) rfl rfl dX12_chance_83) ?_
          refine S_bM fun M16 => ?_
          refine Seg.step (pc' := 87) (I_aload_n (i := 0) dX12_chance_86 rfl rfl) ?_
          refine Seg.step (pc' := 88) (I_iconst dX12_chance_87 ⟨by decide, by decide⟩) ?_
          refine S_callV1 (md' := m_X12_goOn) (fun y => none) (fun y => (sh, ex, R, y)) (hE _ _ sk_12) ⟨by decide, rfl⟩ mm_X12_goOn wm_12_479 ⟨rfl, rfl, by decide, by decide, by decide, by decide⟩ (Nat.le_of_ble_eq_true rfl) dX12_chance_88 (fun y hy => c_X12_goOn hE hL y hy) (fun x17 => ?_)
          refine Seg.step (pc' := 94) (I_iinc dX12_chance_91 rfl (by decide) rfl) ?_
          refine Seg.step (pc' := 67) (I_goto (tgt := 67) dX12_chance_94 (by decide)) ?_
          exact S_arr (fun K hK => GG.forget (Lle.ye (Lle.no (Lle.ye (Lle.ye (Lle.ye (Lle.ye (Lle.ye (Lle.ye (Lle.nil))))))))) hK)
        exact S_arr (fun K hK => GG.forget (Lle.ye (Lle.no (Lle.ye (Lle.ye (Lle.ye (Lle.ye (Lle.ye (Lle.no (Lle.nil))))))))) hK)
      refine Seg.step (pc' := 99) (I_iload dX12_chance_97 rfl) ?_
      refine Seg.step (pc' := 100) (I_aload_n (i := 0) dX12_chance_99 rfl rfl) ?_
      refine Seg.step (pc' := 103) (I_getR cls12 (by decide) wf_12_97 (hE _ _ sk_12) rfl (lk_12_54 hL) dX12_chance_100) ?_
      refine Seg.step (pc' := 104) (I_iconst dX12_chance_103 ⟨by decide, by decide⟩) ?_
      refine Seg.step (pc' := 105) (I_iload_n (i := 3) dX12_chance_104 rfl rfl) ?_
      refine Seg.step (pc' := 106) (I_iadd dX12_chance_105) ?_
      refine S_gd fun h19 => ?_
      refine Seg.step (pc' := 107) (I_iald (hE _ _ sk_12_54) h19 dX12_chance_106) ?_
      refine Seg.step (pc' := 109) (I_iload dX12_chance_107 rfl) ?_
      refine S_bind (Y := Int) (k' := 0) (n' := 0) 117 (fun y => [some (rV 88), none, some (iV p2), some (iV p3), some (iV p4), none, some (iV x10.2.1), none]) (fun y => [iV y, iV x10.1]) (fun y => (sh, ex, R, x18)) ?_ (fun x21 => ?_)
      · refine S_icmp_lt (tgt := 116) dX12_chance_109 (by decide) (fun h20 => ?_) (fun h20 => ?_)
        · refine Seg.step (pc' := 117) (I_iconst dX12_chance_116 ⟨by decide, by decide⟩) ?_
          exact S_arr (fun K hK => GG.forget (Lle.ye (Lle.no (Lle.ye (Lle.ye (Lle.ye (Lle.no (Lle.ye (Lle.no (Lle.nil))))))))) hK)
        refine Seg.step (pc' := 113) (I_iconst dX12_chance_112 ⟨by decide, by decide⟩) ?_
        refine Seg.step (pc' := 117) (I_goto (tgt := 117) dX12_chance_113 (by decide)) ?_
        exact S_arr (fun K hK => GG.forget (Lle.ye (Lle.no (Lle.ye (Lle.ye (Lle.ye (Lle.no (Lle.ye (Lle.no (Lle.nil))))))))) hK)
      refine Seg.step (pc' := 118) (I_iadd dX12_chance_117) ?_
      refine S_bI fun x22 => ?_
      refine Seg.step (pc' := 120) (I_istore dX12_chance_118 (by decide) rfl) ?_
      refine Seg.step (pc' := 123) (I_iinc dX12_chance_120 rfl (by decide) rfl) ?_
      refine Seg.step (pc' := 53) (I_goto (tgt := 53) dX12_chance_123 (by decide)) ?_
      exact S_arr (fun K hK => GG.forget (Lle.ye (Lle.no (Lle.ye (Lle.ye (Lle.ye (Lle.ye (Lle.ye (Lle.no (Lle.nil))))))))) hK)
    exact S_arr (fun K hK => GG.forget (Lle.ye (Lle.no (Lle.no (Lle.no (Lle.no (Lle.ye (Lle.no (Lle.no (Lle.nil))))))))) hK)
  refine Seg.step (pc' := 127) (I_aload_n (i := 0) dX12_chance_126 rfl rfl) ?_
  refine S_callV0 (md' := m_X12_plainTried) (fun y => none) (fun y => (sh, ex, R, y)) (hE _ _ sk_12) ⟨by decide, rfl⟩ mm_X12_plainTried wm_12_385 ⟨rfl, rfl, by decide, by decide, by decide, by decide⟩ (Nat.le_of_ble_eq_true rfl) dX12_chance_127 (fun y hy => c_X12_plainTried hE hL y hy) (fun x24 => ?_)
  refine Seg.step (pc' := 132) (I_iload dX12_chance_130 rfl) ?_
  exact S_iret dX12_chance_132 rfl (by decide) (by decide) (fun K hK => hK)
theorem dX12_tried_0 : decode cX12_tried 0 = .ok (.aload_n 0, 1) := by decide +kernel
theorem dX12_tried_1 : decode cX12_tried 1 = .ok (.iconst 0, 1) := by decide +kernel
theorem dX12_tried_2 : decode cX12_tried 2 = .ok (.putfield 175, 3) := by decide +kernel
theorem dX12_tried_5 : decode cX12_tried 5 = .ok (.iload_n 1, 1) := by decide +kernel
theorem dX12_tried_6 : decode cX12_tried 6 = .ok (.iconst 0, 1) := by decide +kernel
theorem dX12_tried_7 : decode cX12_tried 7 = .ok (.iconst 4, 1) := by decide +kernel
theorem dX12_tried_8 : decode cX12_tried 8 = .ok (.invokestatic 220, 3) := by decide +kernel
theorem dX12_tried_11 : decode cX12_tried 11 = .ok (.ifCond .eq 33, 3) := by decide +kernel
theorem dX12_tried_14 : decode cX12_tried 14 = .ok (.iload_n 3, 1) := by decide +kernel
theorem dX12_tried_15 : decode cX12_tried 15 = .ok (.iconst 0, 1) := by decide +kernel
theorem dX12_tried_16 : decode cX12_tried 16 = .ok (.bipush 99, 2) := by decide +kernel
theorem dX12_tried_18 : decode cX12_tried 18 = .ok (.invokestatic 220, 3) := by decide +kernel
theorem dX12_tried_21 : decode cX12_tried 21 = .ok (.ifCond .eq 23, 3) := by decide +kernel
theorem dX12_tried_24 : decode cX12_tried 24 = .ok (.iload_n 1, 1) := by decide +kernel
theorem dX12_tried_25 : decode cX12_tried 25 = .ok (.iconst 2, 1) := by decide +kernel
theorem dX12_tried_26 : decode cX12_tried 26 = .ok (.if_icmp .ne 14, 3) := by decide +kernel
theorem dX12_tried_29 : decode cX12_tried 29 = .ok (.aload_n 0, 1) := by decide +kernel
theorem dX12_tried_30 : decode cX12_tried 30 = .ok (.iload_n 2, 1) := by decide +kernel
theorem dX12_tried_31 : decode cX12_tried 31 = .ok (.invokevirtual 482, 3) := by decide +kernel
theorem dX12_tried_34 : decode cX12_tried 34 = .ok (.ifCond .ne 12, 3) := by decide +kernel
theorem dX12_tried_37 : decode cX12_tried 37 = .ok (.goto 7, 3) := by decide +kernel
theorem dX12_tried_40 : decode cX12_tried 40 = .ok (.iload_n 2, 1) := by decide +kernel
theorem dX12_tried_41 : decode cX12_tried 41 = .ok (.ifCond .eq 5, 3) := by decide +kernel
theorem dX12_tried_44 : decode cX12_tried 44 = .ok (.iconst (-1), 1) := by decide +kernel
theorem dX12_tried_45 : decode cX12_tried 45 = .ok (.ireturn, 1) := by decide +kernel
theorem dX12_tried_46 : decode cX12_tried 46 = .ok (.aload_n 0, 1) := by decide +kernel
theorem dX12_tried_47 : decode cX12_tried 47 = .ok (.invokevirtual 430, 3) := by decide +kernel
theorem dX12_tried_50 : decode cX12_tried 50 = .ok (.aload_n 0, 1) := by decide +kernel
theorem dX12_tried_51 : decode cX12_tried 51 = .ok (.iload_n 1, 1) := by decide +kernel
theorem dX12_tried_52 : decode cX12_tried 52 = .ok (.ifCond .ne 7, 3) := by decide +kernel
theorem dX12_tried_55 : decode cX12_tried 55 = .ok (.iconst 1, 1) := by decide +kernel
theorem dX12_tried_56 : decode cX12_tried 56 = .ok (.goto 4, 3) := by decide +kernel
theorem dX12_tried_59 : decode cX12_tried 59 = .ok (.iconst 0, 1) := by decide +kernel
theorem dX12_tried_60 : decode cX12_tried 60 = .ok (.putfield 397, 3) := by decide +kernel
theorem dX12_tried_63 : decode cX12_tried 63 = .ok (.aload_n 0, 1) := by decide +kernel
theorem dX12_tried_64 : decode cX12_tried 64 = .ok (.iload_n 1, 1) := by decide +kernel
theorem dX12_tried_65 : decode cX12_tried 65 = .ok (.iconst 1, 1) := by decide +kernel
theorem dX12_tried_66 : decode cX12_tried 66 = .ok (.if_icmp .ne 7, 3) := by decide +kernel
theorem dX12_tried_69 : decode cX12_tried 69 = .ok (.iconst 1, 1) := by decide +kernel
theorem dX12_tried_70 : decode cX12_tried 70 = .ok (.goto 4, 3) := by decide +kernel
theorem dX12_tried_73 : decode cX12_tried 73 = .ok (.iconst 0, 1) := by decide +kernel
theorem dX12_tried_74 : decode cX12_tried 74 = .ok (.putfield 400, 3) := by decide +kernel
theorem dX12_tried_77 : decode cX12_tried 77 = .ok (.aload_n 0, 1) := by decide +kernel
theorem dX12_tried_78 : decode cX12_tried 78 = .ok (.iload_n 1, 1) := by decide +kernel
theorem dX12_tried_79 : decode cX12_tried 79 = .ok (.iconst 2, 1) := by decide +kernel
theorem dX12_tried_80 : decode cX12_tried 80 = .ok (.if_icmp .ne 7, 3) := by decide +kernel
theorem dX12_tried_83 : decode cX12_tried 83 = .ok (.iload_n 2, 1) := by decide +kernel
theorem dX12_tried_84 : decode cX12_tried 84 = .ok (.goto 4, 3) := by decide +kernel
theorem dX12_tried_87 : decode cX12_tried 87 = .ok (.iconst (-1), 1) := by decide +kernel
theorem dX12_tried_88 : decode cX12_tried 88 = .ok (.putfield 409, 3) := by decide +kernel
theorem dX12_tried_91 : decode cX12_tried 91 = .ok (.aload_n 0, 1) := by decide +kernel
theorem dX12_tried_92 : decode cX12_tried 92 = .ok (.iload_n 1, 1) := by decide +kernel
theorem dX12_tried_93 : decode cX12_tried 93 = .ok (.iconst 3, 1) := by decide +kernel
theorem dX12_tried_94 : decode cX12_tried 94 = .ok (.if_icmp .ne 7, 3) := by decide +kernel
theorem dX12_tried_97 : decode cX12_tried 97 = .ok (.iconst 1, 1) := by decide +kernel
theorem dX12_tried_98 : decode cX12_tried 98 = .ok (.goto 4, 3) := by decide +kernel
theorem dX12_tried_101 : decode cX12_tried 101 = .ok (.iconst 0, 1) := by decide +kernel
theorem dX12_tried_102 : decode cX12_tried 102 = .ok (.putfield 403, 3) := by decide +kernel
theorem dX12_tried_105 : decode cX12_tried 105 = .ok (.aload_n 0, 1) := by decide +kernel
theorem dX12_tried_106 : decode cX12_tried 106 = .ok (.iload_n 1, 1) := by decide +kernel
theorem dX12_tried_107 : decode cX12_tried 107 = .ok (.iconst 4, 1) := by decide +kernel
theorem dX12_tried_108 : decode cX12_tried 108 = .ok (.if_icmp .ne 7, 3) := by decide +kernel
theorem dX12_tried_111 : decode cX12_tried 111 = .ok (.iconst 1, 1) := by decide +kernel
theorem dX12_tried_112 : decode cX12_tried 112 = .ok (.goto 4, 3) := by decide +kernel
theorem dX12_tried_115 : decode cX12_tried 115 = .ok (.iconst 0, 1) := by decide +kernel
theorem dX12_tried_116 : decode cX12_tried 116 = .ok (.putfield 406, 3) := by decide +kernel
theorem dX12_tried_119 : decode cX12_tried 119 = .ok (.aload_n 0, 1) := by decide +kernel
theorem dX12_tried_120 : decode cX12_tried 120 = .ok (.iload_n 3, 1) := by decide +kernel
theorem dX12_tried_121 : decode cX12_tried 121 = .ok (.invokevirtual 499, 3) := by decide +kernel
theorem dX12_tried_124 : decode cX12_tried 124 = .ok (.aload_n 0, 1) := by decide +kernel
theorem dX12_tried_125 : decode cX12_tried 125 = .ok (.invokevirtual 385, 3) := by decide +kernel
theorem dX12_tried_128 : decode cX12_tried 128 = .ok (.aload_n 0, 1) := by decide +kernel
theorem dX12_tried_129 : decode cX12_tried 129 = .ok (.invokevirtual 502, 3) := by decide +kernel
theorem dX12_tried_132 : decode cX12_tried 132 = .ok (.ireturn, 1) := by decide +kernel
def f_X12_tried (M : MM) (p1 : Int) (p2 : Int) (p3 : Int) : Option (Int × MM) :=
bM (upM M 88 2 0) fun M1 =>
(f_X12_isIn M1 p1 0 4).bind fun x2 =>
if x2 = 0 then
(some ((-1), M1))
else
(f_X12_isIn M1 p3 0 99).bind fun x4 =>
if x4 = 0 then
(some ((-1), M1))
else
bS ((if p1 = 2 then
((f_X12_isPerson M1 p2).bind fun x7 =>
if x7 = 0 then
(some (Sum.inr ((-1), M1)))
else
some (Sum.inl ()))
else
if p2 = 0 then
(some (Sum.inl ()))
else
some (Sum.inr ((-1), M1))) : Option ((Unit) ⊕ (Int × MM))) (fun x10 =>
(f_X12_layTried M1).bind fun x11 =>
((if p1 = 0 then
(some 1)
else
some 0) : Option (Int)).bind fun x13 =>
gd (x13 = 0 ∨ x13 = 1) <|
bM (upM x11 88 69 x13) fun M15 =>
((if p1 = 1 then
(some 1)
else
some 0) : Option (Int)).bind fun x17 =>
gd (x17 = 0 ∨ x17 = 1) <|
bM (upM M15 88 70 x17) fun M19 =>
((if p1 = 2 then
(some p2)
else
some (-1)) : Option (Int)).bind fun x21 =>
bM (upM M19 88 73 x21) fun M22 =>
((if p1 = 3 then
(some 1)
else
some 0) : Option (Int)).bind fun x24 =>
gd (x24 = 0 ∨ x24 = 1) <|
bM (upM M22 88 71 x24) fun M26 =>
((if p1 = 4 then
(some 1)
else
some 0) : Option (Int)).bind fun x28 =>
gd (x28 = 0 ∨ x28 = 1) <|
bM (upM M26 88 72 x28) fun M30 =>
(f_X12_goMany M30 p3).bind fun x31 =>
(f_X12_plainTried x31).bind fun x32 =>
(f_X12_crossMore x32).bind fun x33 =>
some (x33, x32)) (fun r => r)
set_option maxRecDepth 4000 in
theorem c_X12_tried {E : EE} {sh : List (Nat × Nat)} {ex : Bool} {R : RM} {M : MM} {p1 : Int} {p2 : Int} {p3 : Int} (hE : Ext sh) (hL : Links R) : ∀ y, f_X12_tried M p1 p2 p3 = some y → MetC E m_X12_tried 0 0 [rV 88, iV p1, iV p2, iV p3] (sh, ex, R, M) (fun r w' => r = some (iV y.1) ∧ w' = (sh, ex, R, y.2)) := by
  intro y hy
  refine MetC.seg (o := f_X12_tried M p1 p2 p3) (t := (fun K y => K (some (iV y.1)) (sh, ex, R, y.2))) (L := [some (rV 88), some (iV p1), some (iV p2), some (iV p3)]) (by decide) rfl (Nat.le_of_ble_eq_true rfl) ?_ hy ⟨rfl, rfl⟩
  unfold f_X12_tried
  refine Seg.step (pc' := 1) (I_aload_n (i := 0) dX12_tried_0 rfl rfl) ?_
  refine Seg.step (pc' := 2) (I_iconst dX12_tried_1 ⟨by decide, by decide⟩) ?_
  refine Seg.step (pc' := 5) (I_putI cls12 (by decide) wf_12_175 (hE _ _ sk_12) rfl rfl dX12_tried_2) ?_
  refine S_bM fun M1 => ?_
  refine Seg.step (pc' := 6) (I_iload_n (i := 1) dX12_tried_5 rfl rfl) ?_
  refine Seg.step (pc' := 7) (I_iconst dX12_tried_6 ⟨by decide, by decide⟩) ?_
  refine Seg.step (pc' := 8) (I_iconst dX12_tried_7 ⟨by decide, by decide⟩) ?_
  refine S_callS3 (md' := m_X12_isIn) (fun y => some (iV y)) (fun y => (sh, ex, R, M1)) mm_X12_isIn wm_12_220 ⟨rfl, rfl, by decide, by decide, by decide, by decide⟩ (Nat.le_of_ble_eq_true rfl) dX12_tried_8 (fun y hy => c_X12_isIn hE hL y hy) (fun x2 => ?_)
  refine S_if_eq (tgt := 44) dX12_tried_11 (by decide) (fun h3 => ?_) (fun h3 => ?_)
  · refine Seg.step (pc' := 45) (I_iconst dX12_tried_44 ⟨by decide, by decide⟩) ?_
    exact S_iret dX12_tried_45 rfl (by decide) (by decide) (fun K hK => hK)
  refine Seg.step (pc' := 15) (I_iload_n (i := 3) dX12_tried_14 rfl rfl) ?_
  refine Seg.step (pc' := 16) (I_iconst dX12_tried_15 ⟨by decide, by decide⟩) ?_
  refine Seg.step (pc' := 18) (I_bipush dX12_tried_16 (by decide) ⟨by decide, by decide⟩) ?_
  refine S_callS3 (md' := m_X12_isIn) (fun y => some (iV y)) (fun y => (sh, ex, R, M1)) mm_X12_isIn wm_12_220 ⟨rfl, rfl, by decide, by decide, by decide, by decide⟩ (Nat.le_of_ble_eq_true rfl) dX12_tried_18 (fun y hy => c_X12_isIn hE hL y hy) (fun x4 => ?_)
  refine S_if_eq (tgt := 44) dX12_tried_21 (by decide) (fun h5 => ?_) (fun h5 => ?_)
  · refine Seg.step (pc' := 45) (I_iconst dX12_tried_44 ⟨by decide, by decide⟩) ?_
    exact S_iret dX12_tried_45 rfl (by decide) (by decide) (fun K hK => hK)
  refine Seg.step (pc' := 25) (I_iload_n (i := 1) dX12_tried_24 rfl rfl) ?_
  refine Seg.step (pc' := 26) (I_iconst dX12_tried_25 ⟨by decide, by decide⟩) ?_
  refine S_bind2 (Y := Unit) (k' := 0) (n' := 0) 46 (fun y => [some (rV 88), some (iV p1), some (iV p2), some (iV p3)]) (fun y => []) (fun y => (sh, ex, R, M1)) ?_ (fun x10 => ?_)
  · refine S_icmp_ne (tgt := 40) dX12_tried_26 (by decide) (fun h6 => ?_) (fun h6 => ?_)
    · refine Seg.step (pc' := 30) (I_aload_n (i := 0) dX12_tried_29 rfl rfl) ?_
      refine Seg.step (pc' := 31) (I_iload_n (i := 2) dX12_tried_30 rfl rfl) ?_
      refine S_callV1 (md' := m_X12_isPerson) (fun y => some (iV y)) (fun y => (sh, ex, R, M1)) (hE _ _ sk_12) ⟨by decide, rfl⟩ mm_X12_isPerson wm_12_482 ⟨rfl, rfl, by decide, by decide, by decide, by decide⟩ (Nat.le_of_ble_eq_true rfl) dX12_tried_31 (fun y hy => c_X12_isPerson hE hL y hy) (fun x7 => ?_)
      refine S_if_ne (tgt := 46) dX12_tried_34 (by decide) (fun h8 => ?_) (fun h8 => ?_)
      · refine Seg.step (pc' := 44) (I_goto (tgt := 44) dX12_tried_37 (by decide)) ?_
        refine Seg.step (pc' := 45) (I_iconst dX12_tried_44 ⟨by decide, by decide⟩) ?_
        exact S_iret dX12_tried_45 rfl (by decide) (by decide) (fun K hK => hK)
      exact S_arr (fun K hK => GG.forget (Lle.ye (Lle.ye (Lle.ye (Lle.ye (Lle.nil))))) hK)
    refine Seg.step (pc' := 41) (I_iload_n (i := 2) dX12_tried_40 rfl rfl) ?_
    refine S_if_eq (tgt := 46) dX12_tried_41 (by decide) (fun h9 => ?_) (fun h9 => ?_)
    · exact S_arr (fun K hK => GG.forget (Lle.ye (Lle.ye (Lle.ye (Lle.ye (Lle.nil))))) hK)
    refine Seg.step (pc' := 45) (I_iconst dX12_tried_44 ⟨by decide, by decide⟩) ?_
    exact S_iret dX12_tried_45 rfl (by decide) (by decide) (fun K hK => hK)
  refine Seg.step (pc' := 47) (I_aload_n (i := 0) dX12_tried_46 rfl rfl) ?_
  refine S_callV0 (md' := m_X12_layTried) (fun y => none) (fun y => (sh, ex, R, y)) (hE _ _ sk_12) ⟨by decide, rfl⟩ mm_X12_layTried wm_12_430 ⟨rfl, rfl, by decide, by decide, by decide, by decide⟩ (Nat.le_of_ble_eq_true rfl) dX12_tried_47 (fun y hy => c_X12_layTried hE hL y hy) (fun x11 => ?_)
  refine Seg.step (pc' := 51) (I_aload_n (i := 0) dX12_tried_50 rfl rfl) ?_
  refine Seg.step (pc' := 52) (I_iload_n (i := 1) dX12_tried_51 rfl rfl) ?_
  refine S_bind (Y := Int) (k' := 0) (n' := 0) 60 (fun y => [some (rV 88), some (iV p1), some (iV p2), some (iV p3)]) (fun y => [iV y, rV 88]) (fun y => (sh, ex, R, x11)) ?_ (fun x13 => ?_)
  · refine S_if_ne (tgt := 59) dX12_tried_52 (by decide) (fun h12 => ?_) (fun h12 => ?_)
    · refine Seg.step (pc' := 56) (I_iconst dX12_tried_55 ⟨by decide, by decide⟩) ?_
      refine Seg.step (pc' := 60) (I_goto (tgt := 60) dX12_tried_56 (by decide)) ?_
      exact S_arr (fun K hK => GG.forget (Lle.ye (Lle.ye (Lle.ye (Lle.ye (Lle.nil))))) hK)
    refine Seg.step (pc' := 60) (I_iconst dX12_tried_59 ⟨by decide, by decide⟩) ?_
    exact S_arr (fun K hK => GG.forget (Lle.ye (Lle.ye (Lle.ye (Lle.ye (Lle.nil))))) hK)
  refine S_gd fun h14 => ?_
  refine Seg.step (pc' := 63) (I_putZ cls12 (by decide) wf_12_397 (hE _ _ sk_12) rfl rfl h14 dX12_tried_60) ?_
  refine S_bM fun M15 => ?_
  refine Seg.step (pc' := 64) (I_aload_n (i := 0) dX12_tried_63 rfl rfl) ?_
  refine Seg.step (pc' := 65) (I_iload_n (i := 1) dX12_tried_64 rfl rfl) ?_
  refine Seg.step (pc' := 66) (I_iconst dX12_tried_65 ⟨by decide, by decide⟩) ?_
  refine S_bind (Y := Int) (k' := 0) (n' := 0) 74 (fun y => [some (rV 88), some (iV p1), some (iV p2), some (iV p3)]) (fun y => [iV y, rV 88]) (fun y => (sh, ex, R, M15)) ?_ (fun x17 => ?_)
  · refine S_icmp_ne (tgt := 73) dX12_tried_66 (by decide) (fun h16 => ?_) (fun h16 => ?_)
    · refine Seg.step (pc' := 70) (I_iconst dX12_tried_69 ⟨by decide, by decide⟩) ?_
      refine Seg.step (pc' := 74) (I_goto (tgt := 74) dX12_tried_70 (by decide)) ?_
      exact S_arr (fun K hK => GG.forget (Lle.ye (Lle.ye (Lle.ye (Lle.ye (Lle.nil))))) hK)
    refine Seg.step (pc' := 74) (I_iconst dX12_tried_73 ⟨by decide, by decide⟩) ?_
    exact S_arr (fun K hK => GG.forget (Lle.ye (Lle.ye (Lle.ye (Lle.ye (Lle.nil))))) hK)
  refine S_gd fun h18 => ?_
  refine Seg.step (pc' := 77) (I_putZ cls12 (by decide) wf_12_400 (hE _ _ sk_12) rfl rfl h18 dX12_tried_74) ?_
  refine S_bM fun M19 => ?_
  refine Seg.step (pc' := 78) (I_aload_n (i := 0) dX12_tried_77 rfl rfl) ?_
  refine Seg.step (pc' := 79) (I_iload_n (i := 1) dX12_tried_78 rfl rfl) ?_
  refine Seg.step (pc' := 80) (I_iconst dX12_tried_79 ⟨by decide, by decide⟩) ?_
  refine S_bind (Y := Int) (k' := 0) (n' := 0) 88 (fun y => [some (rV 88), some (iV p1), none, some (iV p3)]) (fun y => [iV y, rV 88]) (fun y => (sh, ex, R, M19)) ?_ (fun x21 => ?_)
  · refine S_icmp_ne (tgt := 87) dX12_tried_80 (by decide) (fun h20 => ?_) (fun h20 => ?_)
    · refine Seg.step (pc' := 84) (I_iload_n (i := 2) dX12_tried_83 rfl rfl) ?_
      refine Seg.step (pc' := 88) (I_goto (tgt := 88) dX12_tried_84 (by decide)) ?_
      exact S_arr (fun K hK => GG.forget (Lle.ye (Lle.ye (Lle.no (Lle.ye (Lle.nil))))) hK)
    refine Seg.step (pc' := 88) (I_iconst dX12_tried_87 ⟨by decide, by decide⟩) ?_
    exact S_arr (fun K hK => GG.forget (Lle.ye (Lle.ye (Lle.no (Lle.ye (Lle.nil))))) hK)
  refine Seg.step (pc' := 91) (I_putI cls12 (by decide) wf_12_409 (hE _ _ sk_12) rfl rfl dX12_tried_88) ?_
  refine S_bM fun M22 => ?_
  refine Seg.step (pc' := 92) (I_aload_n (i := 0) dX12_tried_91 rfl rfl) ?_
  refine Seg.step (pc' := 93) (I_iload_n (i := 1) dX12_tried_92 rfl rfl) ?_
  refine Seg.step (pc' := 94) (I_iconst dX12_tried_93 ⟨by decide, by decide⟩) ?_
  refine S_bind (Y := Int) (k' := 0) (n' := 0) 102 (fun y => [some (rV 88), some (iV p1), none, some (iV p3)]) (fun y => [iV y, rV 88]) (fun y => (sh, ex, R, M22)) ?_ (fun x24 => ?_)
  · refine S_icmp_ne (tgt := 101) dX12_tried_94 (by decide) (fun h23 => ?_) (fun h23 => ?_)
    · refine Seg.step (pc' := 98) (I_iconst dX12_tried_97 ⟨by decide, by decide⟩) ?_
      refine Seg.step (pc' := 102) (I_goto (tgt := 102) dX12_tried_98 (by decide)) ?_
      exact S_arr (fun K hK => GG.forget (Lle.ye (Lle.ye (Lle.no (Lle.ye (Lle.nil))))) hK)
    refine Seg.step (pc' := 102) (I_iconst dX12_tried_101 ⟨by decide, by decide⟩) ?_
    exact S_arr (fun K hK => GG.forget (Lle.ye (Lle.ye (Lle.no (Lle.ye (Lle.nil))))) hK)
  refine S_gd fun h25 => ?_
  refine Seg.step (pc' := 105) (I_putZ cls12 (by decide) wf_12_403 (hE _ _ sk_12) rfl rfl h25 dX12_tried_102) ?_
  refine S_bM fun M26 => ?_
  refine Seg.step (pc' := 106) (I_aload_n (i := 0) dX12_tried_105 rfl rfl) ?_
  refine Seg.step (pc' := 107) (I_iload_n (i := 1) dX12_tried_106 rfl rfl) ?_
  refine Seg.step (pc' := 108) (I_iconst dX12_tried_107 ⟨by decide, by decide⟩) ?_
  refine S_bind (Y := Int) (k' := 0) (n' := 0) 116 (fun y => [some (rV 88), none, none, some (iV p3)]) (fun y => [iV y, rV 88]) (fun y => (sh, ex, R, M26)) ?_ (fun x28 => ?_)
  · refine S_icmp_ne (tgt := 115) dX12_tried_108 (by decide) (fun h27 => ?_) (fun h27 => ?_)
    · refine Seg.step (pc' := 112) (I_iconst dX12_tried_111 ⟨by decide, by decide⟩) ?_
      refine Seg.step (pc' := 116) (I_goto (tgt := 116) dX12_tried_112 (by decide)) ?_
      exact S_arr (fun K hK => GG.forget (Lle.ye (Lle.no (Lle.no (Lle.ye (Lle.nil))))) hK)
    refine Seg.step (pc' := 116) (I_iconst dX12_tried_115 ⟨by decide, by decide⟩) ?_
    exact S_arr (fun K hK => GG.forget (Lle.ye (Lle.no (Lle.no (Lle.ye (Lle.nil))))) hK)
  refine S_gd fun h29 => ?_
  refine Seg.step (pc' := 119) (I_putZ cls12 (by decide) wf_12_406 (hE _ _ sk_12) rfl rfl h29 dX12_tried_116) ?_
  refine S_bM fun M30 => ?_
  refine Seg.step (pc' := 120) (I_aload_n (i := 0) dX12_tried_119 rfl rfl) ?_
  refine Seg.step (pc' := 121) (I_iload_n (i := 3) dX12_tried_120 rfl rfl) ?_
  refine S_callV1 (md' := m_X12_goMany) (fun y => none) (fun y => (sh, ex, R, y)) (hE _ _ sk_12) ⟨by decide, rfl⟩ mm_X12_goMany wm_12_499 ⟨rfl, rfl, by decide, by decide, by decide, by decide⟩ (Nat.le_of_ble_eq_true rfl) dX12_tried_121 (fun y hy => c_X12_goMany hE hL y hy) (fun x31 => ?_)
  refine Seg.step (pc' := 125) (I_aload_n (i := 0) dX12_tried_124 rfl rfl) ?_
  refine S_callV0 (md' := m_X12_plainTried) (fun y => none) (fun y => (sh, ex, R, y)) (hE _ _ sk_12) ⟨by decide, rfl⟩ mm_X12_plainTried wm_12_385 ⟨rfl, rfl, by decide, by decide, by decide, by decide⟩ (Nat.le_of_ble_eq_true rfl) dX12_tried_125 (fun y hy => c_X12_plainTried hE hL y hy) (fun x32 => ?_)
  refine Seg.step (pc' := 129) (I_aload_n (i := 0) dX12_tried_128 rfl rfl) ?_
  refine S_callV0 (md' := m_X12_crossMore) (fun y => some (iV y)) (fun y => (sh, ex, R, x32)) (hE _ _ sk_12) ⟨by decide, rfl⟩ mm_X12_crossMore wm_12_502 ⟨rfl, rfl, by decide, by decide, by decide, by decide⟩ (Nat.le_of_ble_eq_true rfl) dX12_tried_129 (fun y hy => c_X12_crossMore hE hL y hy) (fun x33 => ?_)
  exact S_iret dX12_tried_132 rfl (by decide) (by decide) (fun K hK => hK)
theorem dX12_take_0 : decode cX12_take 0 = .ok (.aload_n 0, 1) := by decide +kernel
theorem dX12_take_1 : decode cX12_take 1 = .ok (.getfield 112, 3) := by decide +kernel
theorem dX12_take_4 : decode cX12_take 4 = .ok (.iconst 0, 1) := by decide +kernel
theorem dX12_take_5 : decode cX12_take 5 = .ok (.aload_n 1, 1) := by decide +kernel
theorem dX12_take_6 : decode cX12_take 6 = .ok (.iload_n 2, 1) := by decide +kernel
theorem dX12_take_7 : decode cX12_take 7 = .ok (.iaload, 1) := by decide +kernel
theorem dX12_take_8 : decode cX12_take 8 = .ok (.iastore, 1) := by decide +kernel
theorem dX12_take_9 : decode cX12_take 9 = .ok (.aload_n 0, 1) := by decide +kernel
theorem dX12_take_10 : decode cX12_take 10 = .ok (.getfield 115, 3) := by decide +kernel
theorem dX12_take_13 : decode cX12_take 13 = .ok (.iconst 0, 1) := by decide +kernel
theorem dX12_take_14 : decode cX12_take 14 = .ok (.aload_n 1, 1) := by decide +kernel
theorem dX12_take_15 : decode cX12_take 15 = .ok (.iload_n 2, 1) := by decide +kernel
theorem dX12_take_16 : decode cX12_take 16 = .ok (.iconst 1, 1) := by decide +kernel
theorem dX12_take_17 : decode cX12_take 17 = .ok (.iadd, 1) := by decide +kernel
theorem dX12_take_18 : decode cX12_take 18 = .ok (.iaload, 1) := by decide +kernel
theorem dX12_take_19 : decode cX12_take 19 = .ok (.iastore, 1) := by decide +kernel
theorem dX12_take_20 : decode cX12_take 20 = .ok (.aload_n 0, 1) := by decide +kernel
theorem dX12_take_21 : decode cX12_take 21 = .ok (.getfield 118, 3) := by decide +kernel
theorem dX12_take_24 : decode cX12_take 24 = .ok (.iconst 0, 1) := by decide +kernel
theorem dX12_take_25 : decode cX12_take 25 = .ok (.aload_n 1, 1) := by decide +kernel
theorem dX12_take_26 : decode cX12_take 26 = .ok (.iload_n 2, 1) := by decide +kernel
theorem dX12_take_27 : decode cX12_take 27 = .ok (.iconst 2, 1) := by decide +kernel
theorem dX12_take_28 : decode cX12_take 28 = .ok (.iadd, 1) := by decide +kernel
theorem dX12_take_29 : decode cX12_take 29 = .ok (.iaload, 1) := by decide +kernel
theorem dX12_take_30 : decode cX12_take 30 = .ok (.iconst 1, 1) := by decide +kernel
theorem dX12_take_31 : decode cX12_take 31 = .ok (.if_icmp .ne 7, 3) := by decide +kernel
theorem dX12_take_34 : decode cX12_take 34 = .ok (.iconst 1, 1) := by decide +kernel
theorem dX12_take_35 : decode cX12_take 35 = .ok (.goto 4, 3) := by decide +kernel
theorem dX12_take_38 : decode cX12_take 38 = .ok (.iconst 0, 1) := by decide +kernel
theorem dX12_take_39 : decode cX12_take 39 = .ok (.bastore, 1) := by decide +kernel
theorem dX12_take_40 : decode cX12_take 40 = .ok (.iconst 0, 1) := by decide +kernel
theorem dX12_take_41 : decode cX12_take 41 = .ok (.istore_n 3, 1) := by decide +kernel
theorem dX12_take_42 : decode cX12_take 42 = .ok (.iload_n 3, 1) := by decide +kernel
theorem dX12_take_43 : decode cX12_take 43 = .ok (.iconst 5, 1) := by decide +kernel
theorem dX12_take_44 : decode cX12_take 44 = .ok (.if_icmp .ge 31, 3) := by decide +kernel
theorem dX12_take_47 : decode cX12_take 47 = .ok (.aload_n 0, 1) := by decide +kernel
theorem dX12_take_48 : decode cX12_take 48 = .ok (.getfield 109, 3) := by decide +kernel
theorem dX12_take_51 : decode cX12_take 51 = .ok (.iload_n 3, 1) := by decide +kernel
theorem dX12_take_52 : decode cX12_take 52 = .ok (.aload_n 1, 1) := by decide +kernel
theorem dX12_take_53 : decode cX12_take 53 = .ok (.iload_n 2, 1) := by decide +kernel
theorem dX12_take_54 : decode cX12_take 54 = .ok (.iconst 3, 1) := by decide +kernel
theorem dX12_take_55 : decode cX12_take 55 = .ok (.iadd, 1) := by decide +kernel
theorem dX12_take_56 : decode cX12_take 56 = .ok (.iload_n 3, 1) := by decide +kernel
theorem dX12_take_57 : decode cX12_take 57 = .ok (.iadd, 1) := by decide +kernel
theorem dX12_take_58 : decode cX12_take 58 = .ok (.iaload, 1) := by decide +kernel
theorem dX12_take_59 : decode cX12_take 59 = .ok (.iconst 1, 1) := by decide +kernel
theorem dX12_take_60 : decode cX12_take 60 = .ok (.if_icmp .ne 7, 3) := by decide +kernel
theorem dX12_take_63 : decode cX12_take 63 = .ok (.iconst 1, 1) := by decide +kernel
theorem dX12_take_64 : decode cX12_take 64 = .ok (.goto 4, 3) := by decide +kernel
theorem dX12_take_67 : decode cX12_take 67 = .ok (.iconst 0, 1) := by decide +kernel
theorem dX12_take_68 : decode cX12_take 68 = .ok (.bastore, 1) := by decide +kernel
theorem dX12_take_69 : decode cX12_take 69 = .ok (.iinc 3 1, 3) := by decide +kernel
theorem dX12_take_72 : decode cX12_take 72 = .ok (.goto (-30), 3) := by decide +kernel
theorem dX12_take_75 : decode cX12_take 75 = .ok (.return_, 1) := by decide +kernel
def f_X12_take (M : MM) (a1 n1 : Nat) (p2 : Int) : Option (MM) :=
gd (0 ≤ p2 ∧ p2 < (n1 : Int)) <|
bM (upM M 121 0 (M a1 (p2).toNat)) fun M2 =>
gd (0 ≤ w32 (p2 + 1) ∧ w32 (p2 + 1) < (n1 : Int)) <|
bM (upM M2 122 0 (M2 a1 (w32 (p2 + 1)).toNat)) fun M4 =>
gd (0 ≤ w32 (p2 + 2) ∧ w32 (p2 + 2) < (n1 : Int)) <|
((if (M4 a1 (w32 (p2 + 2)).toNat) = 1 then
(some 1)
else
some 0) : Option (Int)).bind fun x7 =>
gd (x7 = 0 ∨ x7 = 1) <|
bM (upM M4 123 0 x7) fun M9 =>
lp (X := Int × MM) (Y := MM) (fun x10 =>
if x10.1 < 5 then
(gd (0 ≤ w32 ((w32 (p2 + 3)) + x10.1) ∧ w32 ((w32 (p2 + 3)) + x10.1) < (n1 : Int)) <|
((if (x10.2 a1 (w32 ((w32 (p2 + 3)) + x10.1)).toNat) = 1 then
(some 1)
else
some 0) : Option (Int)).bind fun x14 =>
gd (0 ≤ x10.1 ∧ x10.1 < (10 : Int)) <|
gd (x14 = 0 ∨ x14 = 1) <|
bM (upM x10.2 120 (x10.1).toNat x14) fun M17 =>
some (Sum.inl (w32 (x10.1 + 1), M17)))
else
some (Sum.inr x10.2)) FU (0, M9)
set_option maxRecDepth 4000 in
theorem c_X12_take {E : EE} {sh : List (Nat × Nat)} {ex : Bool} {R : RM} {M : MM} {a1 n1 : Nat} {p2 : Int} (hE : Ext sh) (hL : Links R) (hs1 : SH0[a1]? = some (50, n1)) : ∀ y, f_X12_take M a1 n1 p2 = some y → MetC E m_X12_take 0 0 [rV 88, rV a1, iV p2] (sh, ex, R, M) (fun r w' => r = none ∧ w' = (sh, ex, R, y)) := by
  intro y hy
  refine MetC.seg (o := f_X12_take M a1 n1 p2) (t := (fun K y => K (none) (sh, ex, R, y))) (L := [some (rV 88), some (rV a1), some (iV p2), none]) (by decide) rfl (Nat.le_of_ble_eq_true rfl) ?_ hy ⟨rfl, rfl⟩
  unfold f_X12_take
  refine Seg.step (pc' := 1) (I_aload_n (i := 0) dX12_take_0 rfl rfl) ?_
  refine Seg.step (pc' := 4) (I_getR cls12 (by decide) wf_12_112 (hE _ _ sk_12) rfl (lk_12_59 hL) dX12_take_1) ?_
  refine Seg.step (pc' := 5) (I_iconst dX12_take_4 ⟨by decide, by decide⟩) ?_
  refine Seg.step (pc' := 6) (I_aload_n (i := 1) dX12_take_5 rfl rfl) ?_
  refine Seg.step (pc' := 7) (I_iload_n (i := 2) dX12_take_6 rfl rfl) ?_
  refine S_gd fun h1 => ?_
  refine Seg.step (pc' := 8) (I_iald (hE _ _ hs1) h1 dX12_take_7) ?_
  refine Seg.step (pc' := 9) (I_iast (hE _ _ sk_12_59) ⟨by decide, by decide⟩ dX12_take_8) ?_
  refine S_bM fun M2 => ?_
  refine Seg.step (pc' := 10) (I_aload_n (i := 0) dX12_take_9 rfl rfl) ?_
  refine Seg.step (pc' := 13) (I_getR cls12 (by decide) wf_12_115 (hE _ _ sk_12) rfl (lk_12_60 hL) dX12_take_10) ?_
  refine Seg.step (pc' := 14) (I_iconst dX12_take_13 ⟨by decide, by decide⟩) ?_
  refine Seg.step (pc' := 15) (I_aload_n (i := 1) dX12_take_14 rfl rfl) ?_
  refine Seg.step (pc' := 16) (I_iload_n (i := 2) dX12_take_15 rfl rfl) ?_
  refine Seg.step (pc' := 17) (I_iconst dX12_take_16 ⟨by decide, by decide⟩) ?_
  refine Seg.step (pc' := 18) (I_iadd dX12_take_17) ?_
  refine S_gd fun h3 => ?_
  refine Seg.step (pc' := 19) (I_iald (hE _ _ hs1) h3 dX12_take_18) ?_
  refine Seg.step (pc' := 20) (I_iast (hE _ _ sk_12_60) ⟨by decide, by decide⟩ dX12_take_19) ?_
  refine S_bM fun M4 => ?_
  refine Seg.step (pc' := 21) (I_aload_n (i := 0) dX12_take_20 rfl rfl) ?_
  refine Seg.step (pc' := 24) (I_getR cls12 (by decide) wf_12_118 (hE _ _ sk_12) rfl (lk_12_61 hL) dX12_take_21) ?_
  refine Seg.step (pc' := 25) (I_iconst dX12_take_24 ⟨by decide, by decide⟩) ?_
  refine Seg.step (pc' := 26) (I_aload_n (i := 1) dX12_take_25 rfl rfl) ?_
  refine Seg.step (pc' := 27) (I_iload_n (i := 2) dX12_take_26 rfl rfl) ?_
  refine Seg.step (pc' := 28) (I_iconst dX12_take_27 ⟨by decide, by decide⟩) ?_
  refine Seg.step (pc' := 29) (I_iadd dX12_take_28) ?_
  refine S_gd fun h5 => ?_
  refine Seg.step (pc' := 30) (I_iald (hE _ _ hs1) h5 dX12_take_29) ?_
  refine Seg.step (pc' := 31) (I_iconst dX12_take_30 ⟨by decide, by decide⟩) ?_
  refine S_bind (Y := Int) (k' := 0) (n' := 0) 39 (fun y => [some (rV 88), some (rV a1), some (iV p2), none]) (fun y => [iV y, iV 0, rV 123]) (fun y => (sh, ex, R, M4)) ?_ (fun x7 => ?_)
  · refine S_icmp_ne (tgt := 38) dX12_take_31 (by decide) (fun h6 => ?_) (fun h6 => ?_)
    · refine Seg.step (pc' := 35) (I_iconst dX12_take_34 ⟨by decide, by decide⟩) ?_
      refine Seg.step (pc' := 39) (I_goto (tgt := 39) dX12_take_35 (by decide)) ?_
      exact S_arr (fun K hK => GG.forget (Lle.ye (Lle.ye (Lle.ye (Lle.no (Lle.nil))))) hK)
    refine Seg.step (pc' := 39) (I_iconst dX12_take_38 ⟨by decide, by decide⟩) ?_
    exact S_arr (fun K hK => GG.forget (Lle.ye (Lle.ye (Lle.ye (Lle.no (Lle.nil))))) hK)
  refine S_gd fun h8 => ?_
  refine Seg.step (pc' := 40) (I_zast (hE _ _ sk_12_61) ⟨by decide, by decide⟩ h8 dX12_take_39) ?_
  refine S_bM fun M9 => ?_
  refine Seg.step (pc' := 41) (I_iconst dX12_take_40 ⟨by decide, by decide⟩) ?_
  refine Seg.step (pc' := 42) (I_istore_n (i := 3) dX12_take_41 rfl (by decide) rfl) ?_
  refine Seg.forget (Lle.ye (Lle.ye (Lle.ye (Lle.ye (Lle.nil))))) ?_
  refine S_loop (Y := Int × MM) (fun y => [some (rV 88), some (rV a1), some (iV p2), some (iV y.1)]) (fun y => []) (fun y => (sh, ex, R, y.2)) (fun x10 => ?_) FU (0, M9)
  refine Seg.step (pc' := 43) (I_iload_n (i := 3) dX12_take_42 rfl rfl) ?_
  refine Seg.step (pc' := 44) (I_iconst dX12_take_43 ⟨by decide, by decide⟩) ?_
  refine S_icmp_ge (tgt := 75) dX12_take_44 (by decide) (fun h11 => ?_) (fun h11 => ?_)
  · refine Seg.step (pc' := 48) (I_aload_n (i := 0) dX12_take_47 rfl rfl) ?_
    refine Seg.step (pc' := 51) (I_getR cls12 (by decide) wf_12_109 (hE _ _ sk_12) rfl (lk_12_58 hL) dX12_take_48) ?_
    refine Seg.step (pc' := 52) (I_iload_n (i := 3) dX12_take_51 rfl rfl) ?_
    refine Seg.step (pc' := 53) (I_aload_n (i := 1) dX12_take_52 rfl rfl) ?_
    refine Seg.step (pc' := 54) (I_iload_n (i := 2) dX12_take_53 rfl rfl) ?_
    refine Seg.step (pc' := 55) (I_iconst dX12_take_54 ⟨by decide, by decide⟩) ?_
    refine Seg.step (pc' := 56) (I_iadd dX12_take_55) ?_
    refine Seg.step (pc' := 57) (I_iload_n (i := 3) dX12_take_56 rfl rfl) ?_
    refine Seg.step (pc' := 58) (I_iadd dX12_take_57) ?_
    refine S_gd fun h12 => ?_
    refine Seg.step (pc' := 59) (I_iald (hE _ _ hs1) h12 dX12_take_58) ?_
    refine Seg.step (pc' := 60) (I_iconst dX12_take_59 ⟨by decide, by decide⟩) ?_
    refine S_bind (Y := Int) (k' := 0) (n' := 0) 68 (fun y => [some (rV 88), some (rV a1), some (iV p2), some (iV x10.1)]) (fun y => [iV y, iV x10.1, rV 120]) (fun y => (sh, ex, R, x10.2)) ?_ (fun x14 => ?_)
    · refine S_icmp_ne (tgt := 67) dX12_take_60 (by decide) (fun h13 => ?_) (fun h13 => ?_)
      · refine Seg.step (pc' := 64) (I_iconst dX12_take_63 ⟨by decide, by decide⟩) ?_
        refine Seg.step (pc' := 68) (I_goto (tgt := 68) dX12_take_64 (by decide)) ?_
        exact S_arr (fun K hK => GG.forget (Lle.ye (Lle.ye (Lle.ye (Lle.ye (Lle.nil))))) hK)
      refine Seg.step (pc' := 68) (I_iconst dX12_take_67 ⟨by decide, by decide⟩) ?_
      exact S_arr (fun K hK => GG.forget (Lle.ye (Lle.ye (Lle.ye (Lle.ye (Lle.nil))))) hK)
    refine S_gd fun h15 => ?_
    refine S_gd fun h16 => ?_
    refine Seg.step (pc' := 69) (I_zast (hE _ _ sk_12_58) h15 h16 dX12_take_68) ?_
    refine S_bM fun M17 => ?_
    refine Seg.step (pc' := 72) (I_iinc dX12_take_69 rfl (by decide) rfl) ?_
    refine Seg.step (pc' := 42) (I_goto (tgt := 42) dX12_take_72 (by decide)) ?_
    exact S_arr (fun K hK => GG.forget (Lle.ye (Lle.ye (Lle.ye (Lle.ye (Lle.nil))))) hK)
  exact S_vret dX12_take_75 rfl (by decide) (by decide) (fun K hK => hK)
theorem dX12_undo_0 : decode cX12_undo 0 = .ok (.aload_n 0, 1) := by decide +kernel
theorem dX12_undo_1 : decode cX12_undo 1 = .ok (.iconst 0, 1) := by decide +kernel
theorem dX12_undo_2 : decode cX12_undo 2 = .ok (.putfield 175, 3) := by decide +kernel
theorem dX12_undo_5 : decode cX12_undo 5 = .ok (.aload_n 0, 1) := by decide +kernel
theorem dX12_undo_6 : decode cX12_undo 6 = .ok (.getfield 391, 3) := by decide +kernel
theorem dX12_undo_9 : decode cX12_undo 9 = .ok (.ifCond .ne 5, 3) := by decide +kernel
theorem dX12_undo_12 : decode cX12_undo 12 = .ok (.iconst (-1), 1) := by decide +kernel
theorem dX12_undo_13 : decode cX12_undo 13 = .ok (.ireturn, 1) := by decide +kernel
theorem dX12_undo_14 : decode cX12_undo 14 = .ok (.aload_n 0, 1) := by decide +kernel
theorem dX12_undo_15 : decode cX12_undo 15 = .ok (.dup, 1) := by decide +kernel
theorem dX12_undo_16 : decode cX12_undo 16 = .ok (.getfield 391, 3) := by decide +kernel
theorem dX12_undo_19 : decode cX12_undo 19 = .ok (.iconst 1, 1) := by decide +kernel
theorem dX12_undo_20 : decode cX12_undo 20 = .ok (.isub, 1) := by decide +kernel
theorem dX12_undo_21 : decode cX12_undo 21 = .ok (.putfield 391, 3) := by decide +kernel
theorem dX12_undo_24 : decode cX12_undo 24 = .ok (.aload_n 0, 1) := by decide +kernel
theorem dX12_undo_25 : decode cX12_undo 25 = .ok (.aload_n 0, 1) := by decide +kernel
theorem dX12_undo_26 : decode cX12_undo 26 = .ok (.getfield 151, 3) := by decide +kernel
theorem dX12_undo_29 : decode cX12_undo 29 = .ok (.bipush 8, 2) := by decide +kernel
theorem dX12_undo_31 : decode cX12_undo 31 = .ok (.aload_n 0, 1) := by decide +kernel
theorem dX12_undo_32 : decode cX12_undo 32 = .ok (.getfield 391, 3) := by decide +kernel
theorem dX12_undo_35 : decode cX12_undo 35 = .ok (.imul, 1) := by decide +kernel
theorem dX12_undo_36 : decode cX12_undo 36 = .ok (.invokevirtual 563, 3) := by decide +kernel
theorem dX12_undo_39 : decode cX12_undo 39 = .ok (.aload_n 0, 1) := by decide +kernel
theorem dX12_undo_40 : decode cX12_undo 40 = .ok (.getfield 391, 3) := by decide +kernel
theorem dX12_undo_43 : decode cX12_undo 43 = .ok (.ireturn, 1) := by decide +kernel
def f_X12_undo (M : MM)  : Option (Int × MM) :=
bM (upM M 88 2 0) fun M1 =>
if (M1 88 85) = 0 then
(some ((-1), M1))
else
bM (upM M1 88 85 (w32 ((M1 88 85) - 1))) fun M3 =>
(f_X12_take M3 133 160 (w32 (8 * (M3 88 85)))).bind fun x4 =>
some (x4 88 85, x4)
set_option maxRecDepth 4000 in
theorem c_X12_undo {E : EE} {sh : List (Nat × Nat)} {ex : Bool} {R : RM} {M : MM}  (hE : Ext sh) (hL : Links R) : ∀ y, f_X12_undo M = some y → MetC E m_X12_undo 0 0 [rV 88] (sh, ex, R, M) (fun r w' => r = some (iV y.1) ∧ w' = (sh, ex, R, y.2)) := by
  intro y hy
  refine MetC.seg (o := f_X12_undo M) (t := (fun K y => K (some (iV y.1)) (sh, ex, R, y.2))) (L := [some (rV 88)]) (by decide) rfl (Nat.le_of_ble_eq_true rfl) ?_ hy ⟨rfl, rfl⟩
  unfold f_X12_undo
  refine Seg.step (pc' := 1) (I_aload_n (i := 0) dX12_undo_0 rfl rfl) ?_
  refine Seg.step (pc' := 2) (I_iconst dX12_undo_1 ⟨by decide, by decide⟩) ?_
  refine Seg.step (pc' := 5) (I_putI cls12 (by decide) wf_12_175 (hE _ _ sk_12) rfl rfl dX12_undo_2) ?_
  refine S_bM fun M1 => ?_
  refine Seg.step (pc' := 6) (I_aload_n (i := 0) dX12_undo_5 rfl rfl) ?_
  refine Seg.step (pc' := 9) (I_getI cls12 (by decide) wf_12_391 (hE _ _ sk_12) rfl dX12_undo_6) ?_
  refine S_if_ne (tgt := 14) dX12_undo_9 (by decide) (fun h2 => ?_) (fun h2 => ?_)
  · refine Seg.step (pc' := 13) (I_iconst dX12_undo_12 ⟨by decide, by decide⟩) ?_
    exact S_iret dX12_undo_13 rfl (by decide) (by decide) (fun K hK => hK)
  refine Seg.step (pc' := 15) (I_aload_n (i := 0) dX12_undo_14 rfl rfl) ?_
  refine Seg.step (pc' := 16) (I_dup dX12_undo_15 (fun _ h => by cases h)) ?_
  refine Seg.step (pc' := 19) (I_getI cls12 (by decide) wf_12_391 (hE _ _ sk_12) rfl dX12_undo_16) ?_
  refine Seg.step (pc' := 20) (I_iconst dX12_undo_19 ⟨by decide, by decide⟩) ?_
  refine Seg.step (pc' := 21) (I_isub dX12_undo_20) ?_
  refine Seg.step (pc' := 24) (I_putI cls12 (by decide) wf_12_391 (hE _ _ sk_12) rfl rfl dX12_undo_21) ?_
  refine S_bM fun M3 => ?_
  refine Seg.step (pc' := 25) (I_aload_n (i := 0) dX12_undo_24 rfl rfl) ?_
  refine Seg.step (pc' := 26) (I_aload_n (i := 0) dX12_undo_25 rfl rfl) ?_
  refine Seg.step (pc' := 29) (I_getR cls12 (by decide) wf_12_151 (hE _ _ sk_12) rfl (lk_12_86 hL) dX12_undo_26) ?_
  refine Seg.step (pc' := 31) (I_bipush dX12_undo_29 (by decide) ⟨by decide, by decide⟩) ?_
  refine Seg.step (pc' := 32) (I_aload_n (i := 0) dX12_undo_31 rfl rfl) ?_
  refine Seg.step (pc' := 35) (I_getI cls12 (by decide) wf_12_391 (hE _ _ sk_12) rfl dX12_undo_32) ?_
  refine Seg.step (pc' := 36) (I_imul dX12_undo_35) ?_
  refine S_callV2 (md' := m_X12_take) (fun y => none) (fun y => (sh, ex, R, y)) (hE _ _ sk_12) ⟨by decide, rfl⟩ mm_X12_take wm_12_563 ⟨rfl, rfl, by decide, by decide, by decide, by decide⟩ (Nat.le_of_ble_eq_true rfl) dX12_undo_36 (fun y hy => c_X12_take hE hL sk_12_86 y hy) (fun x4 => ?_)
  refine Seg.step (pc' := 40) (I_aload_n (i := 0) dX12_undo_39 rfl rfl) ?_
  refine Seg.step (pc' := 43) (I_getI cls12 (by decide) wf_12_391 (hE _ _ sk_12) rfl dX12_undo_40) ?_
  exact S_iret dX12_undo_43 rfl (by decide) (by decide) (fun K hK => hK)
theorem dX12_keep_0 : decode cX12_keep 0 = .ok (.aload_n 0, 1) := by decide +kernel
theorem dX12_keep_1 : decode cX12_keep 1 = .ok (.iconst 0, 1) := by decide +kernel
theorem dX12_keep_2 : decode cX12_keep 2 = .ok (.putfield 175, 3) := by decide +kernel
theorem dX12_keep_5 : decode cX12_keep 5 = .ok (.aload_n 0, 1) := by decide +kernel
theorem dX12_keep_6 : decode cX12_keep 6 = .ok (.iconst 1, 1) := by decide +kernel
theorem dX12_keep_7 : decode cX12_keep 7 = .ok (.putfield 394, 3) := by decide +kernel
theorem dX12_keep_10 : decode cX12_keep 10 = .ok (.aload_n 0, 1) := by decide +kernel
theorem dX12_keep_11 : decode cX12_keep 11 = .ok (.aload_n 0, 1) := by decide +kernel
theorem dX12_keep_12 : decode cX12_keep 12 = .ok (.getfield 154, 3) := by decide +kernel
theorem dX12_keep_15 : decode cX12_keep 15 = .ok (.iconst 0, 1) := by decide +kernel
theorem dX12_keep_16 : decode cX12_keep 16 = .ok (.invokevirtual 560, 3) := by decide +kernel
theorem dX12_keep_19 : decode cX12_keep 19 = .ok (.iconst 0, 1) := by decide +kernel
theorem dX12_keep_20 : decode cX12_keep 20 = .ok (.istore_n 1, 1) := by decide +kernel
theorem dX12_keep_21 : decode cX12_keep 21 = .ok (.iload_n 1, 1) := by decide +kernel
theorem dX12_keep_22 : decode cX12_keep 22 = .ok (.iconst 5, 1) := by decide +kernel
theorem dX12_keep_23 : decode cX12_keep 23 = .ok (.if_icmp .ge 21, 3) := by decide +kernel
theorem dX12_keep_26 : decode cX12_keep 26 = .ok (.aload_n 0, 1) := by decide +kernel
theorem dX12_keep_27 : decode cX12_keep 27 = .ok (.getfield 157, 3) := by decide +kernel
theorem dX12_keep_30 : decode cX12_keep 30 = .ok (.iload_n 1, 1) := by decide +kernel
theorem dX12_keep_31 : decode cX12_keep 31 = .ok (.aload_n 0, 1) := by decide +kernel
theorem dX12_keep_32 : decode cX12_keep 32 = .ok (.getfield 97, 3) := by decide +kernel
theorem dX12_keep_35 : decode cX12_keep 35 = .ok (.iload_n 1, 1) := by decide +kernel
theorem dX12_keep_36 : decode cX12_keep 36 = .ok (.iaload, 1) := by decide +kernel
theorem dX12_keep_37 : decode cX12_keep 37 = .ok (.iastore, 1) := by decide +kernel
theorem dX12_keep_38 : decode cX12_keep 38 = .ok (.iinc 1 1, 3) := by decide +kernel
theorem dX12_keep_41 : decode cX12_keep 41 = .ok (.goto (-20), 3) := by decide +kernel
theorem dX12_keep_44 : decode cX12_keep 44 = .ok (.iconst 0, 1) := by decide +kernel
theorem dX12_keep_45 : decode cX12_keep 45 = .ok (.istore_n 1, 1) := by decide +kernel
theorem dX12_keep_46 : decode cX12_keep 46 = .ok (.iload_n 1, 1) := by decide +kernel
theorem dX12_keep_47 : decode cX12_keep 47 = .ok (.bipush 30, 2) := by decide +kernel
theorem dX12_keep_49 : decode cX12_keep 49 = .ok (.if_icmp .ge 23, 3) := by decide +kernel
theorem dX12_keep_52 : decode cX12_keep 52 = .ok (.aload_n 0, 1) := by decide +kernel
theorem dX12_keep_53 : decode cX12_keep 53 = .ok (.getfield 157, 3) := by decide +kernel
theorem dX12_keep_56 : decode cX12_keep 56 = .ok (.iconst 5, 1) := by decide +kernel
theorem dX12_keep_57 : decode cX12_keep 57 = .ok (.iload_n 1, 1) := by decide +kernel
theorem dX12_keep_58 : decode cX12_keep 58 = .ok (.iadd, 1) := by decide +kernel
theorem dX12_keep_59 : decode cX12_keep 59 = .ok (.aload_n 0, 1) := by decide +kernel
theorem dX12_keep_60 : decode cX12_keep 60 = .ok (.getfield 100, 3) := by decide +kernel
theorem dX12_keep_63 : decode cX12_keep 63 = .ok (.iload_n 1, 1) := by decide +kernel
theorem dX12_keep_64 : decode cX12_keep 64 = .ok (.iaload, 1) := by decide +kernel
theorem dX12_keep_65 : decode cX12_keep 65 = .ok (.iastore, 1) := by decide +kernel
theorem dX12_keep_66 : decode cX12_keep 66 = .ok (.iinc 1 1, 3) := by decide +kernel
theorem dX12_keep_69 : decode cX12_keep 69 = .ok (.goto (-23), 3) := by decide +kernel
theorem dX12_keep_72 : decode cX12_keep 72 = .ok (.iconst 0, 1) := by decide +kernel
theorem dX12_keep_73 : decode cX12_keep 73 = .ok (.istore_n 1, 1) := by decide +kernel
theorem dX12_keep_74 : decode cX12_keep 74 = .ok (.iload_n 1, 1) := by decide +kernel
theorem dX12_keep_75 : decode cX12_keep 75 = .ok (.iconst 5, 1) := by decide +kernel
theorem dX12_keep_76 : decode cX12_keep 76 = .ok (.if_icmp .ge 35, 3) := by decide +kernel
theorem dX12_keep_79 : decode cX12_keep 79 = .ok (.aload_n 0, 1) := by decide +kernel
theorem dX12_keep_80 : decode cX12_keep 80 = .ok (.getfield 160, 3) := by decide +kernel
theorem dX12_keep_83 : decode cX12_keep 83 = .ok (.iload_n 1, 1) := by decide +kernel
theorem dX12_keep_84 : decode cX12_keep 84 = .ok (.aload_n 0, 1) := by decide +kernel
theorem dX12_keep_85 : decode cX12_keep 85 = .ok (.getfield 103, 3) := by decide +kernel
theorem dX12_keep_88 : decode cX12_keep 88 = .ok (.iload_n 1, 1) := by decide +kernel
theorem dX12_keep_89 : decode cX12_keep 89 = .ok (.iaload, 1) := by decide +kernel
theorem dX12_keep_90 : decode cX12_keep 90 = .ok (.iastore, 1) := by decide +kernel
theorem dX12_keep_91 : decode cX12_keep 91 = .ok (.aload_n 0, 1) := by decide +kernel
theorem dX12_keep_92 : decode cX12_keep 92 = .ok (.getfield 160, 3) := by decide +kernel
theorem dX12_keep_95 : decode cX12_keep 95 = .ok (.iconst 5, 1) := by decide +kernel
theorem dX12_keep_96 : decode cX12_keep 96 = .ok (.iload_n 1, 1) := by decide +kernel
theorem dX12_keep_97 : decode cX12_keep 97 = .ok (.iadd, 1) := by decide +kernel
theorem dX12_keep_98 : decode cX12_keep 98 = .ok (.aload_n 0, 1) := by decide +kernel
theorem dX12_keep_99 : decode cX12_keep 99 = .ok (.getfield 106, 3) := by decide +kernel
theorem dX12_keep_102 : decode cX12_keep 102 = .ok (.iload_n 1, 1) := by decide +kernel
theorem dX12_keep_103 : decode cX12_keep 103 = .ok (.iaload, 1) := by decide +kernel
theorem dX12_keep_104 : decode cX12_keep 104 = .ok (.iastore, 1) := by decide +kernel
theorem dX12_keep_105 : decode cX12_keep 105 = .ok (.iinc 1 1, 3) := by decide +kernel
theorem dX12_keep_108 : decode cX12_keep 108 = .ok (.goto (-34), 3) := by decide +kernel
theorem dX12_keep_111 : decode cX12_keep 111 = .ok (.iconst 0, 1) := by decide +kernel
theorem dX12_keep_112 : decode cX12_keep 112 = .ok (.istore_n 1, 1) := by decide +kernel
theorem dX12_keep_113 : decode cX12_keep 113 = .ok (.iload_n 1, 1) := by decide +kernel
theorem dX12_keep_114 : decode cX12_keep 114 = .ok (.bipush 24, 2) := by decide +kernel
theorem dX12_keep_116 : decode cX12_keep 116 = .ok (.if_icmp .ge 36, 3) := by decide +kernel
theorem dX12_keep_119 : decode cX12_keep 119 = .ok (.aload_n 0, 1) := by decide +kernel
theorem dX12_keep_120 : decode cX12_keep 120 = .ok (.getfield 163, 3) := by decide +kernel
theorem dX12_keep_123 : decode cX12_keep 123 = .ok (.iload_n 1, 1) := by decide +kernel
theorem dX12_keep_124 : decode cX12_keep 124 = .ok (.aload_n 0, 1) := by decide +kernel
theorem dX12_keep_125 : decode cX12_keep 125 = .ok (.getfield 133, 3) := by decide +kernel
theorem dX12_keep_128 : decode cX12_keep 128 = .ok (.iload_n 1, 1) := by decide +kernel
theorem dX12_keep_129 : decode cX12_keep 129 = .ok (.iaload, 1) := by decide +kernel
theorem dX12_keep_130 : decode cX12_keep 130 = .ok (.iastore, 1) := by decide +kernel
theorem dX12_keep_131 : decode cX12_keep 131 = .ok (.aload_n 0, 1) := by decide +kernel
theorem dX12_keep_132 : decode cX12_keep 132 = .ok (.getfield 163, 3) := by decide +kernel
theorem dX12_keep_135 : decode cX12_keep 135 = .ok (.bipush 24, 2) := by decide +kernel
theorem dX12_keep_137 : decode cX12_keep 137 = .ok (.iload_n 1, 1) := by decide +kernel
theorem dX12_keep_138 : decode cX12_keep 138 = .ok (.iadd, 1) := by decide +kernel
theorem dX12_keep_139 : decode cX12_keep 139 = .ok (.aload_n 0, 1) := by decide +kernel
theorem dX12_keep_140 : decode cX12_keep 140 = .ok (.getfield 136, 3) := by decide +kernel
theorem dX12_keep_143 : decode cX12_keep 143 = .ok (.iload_n 1, 1) := by decide +kernel
theorem dX12_keep_144 : decode cX12_keep 144 = .ok (.iaload, 1) := by decide +kernel
theorem dX12_keep_145 : decode cX12_keep 145 = .ok (.iastore, 1) := by decide +kernel
theorem dX12_keep_146 : decode cX12_keep 146 = .ok (.iinc 1 1, 3) := by decide +kernel
theorem dX12_keep_149 : decode cX12_keep 149 = .ok (.goto (-36), 3) := by decide +kernel
theorem dX12_keep_152 : decode cX12_keep 152 = .ok (.aload_n 0, 1) := by decide +kernel
theorem dX12_keep_153 : decode cX12_keep 153 = .ok (.getfield 166, 3) := by decide +kernel
theorem dX12_keep_156 : decode cX12_keep 156 = .ok (.iconst 0, 1) := by decide +kernel
theorem dX12_keep_157 : decode cX12_keep 157 = .ok (.aload_n 0, 1) := by decide +kernel
theorem dX12_keep_158 : decode cX12_keep 158 = .ok (.getfield 121, 3) := by decide +kernel
theorem dX12_keep_161 : decode cX12_keep 161 = .ok (.iconst 0, 1) := by decide +kernel
theorem dX12_keep_162 : decode cX12_keep 162 = .ok (.iaload, 1) := by decide +kernel
theorem dX12_keep_163 : decode cX12_keep 163 = .ok (.iastore, 1) := by decide +kernel
theorem dX12_keep_164 : decode cX12_keep 164 = .ok (.aload_n 0, 1) := by decide +kernel
theorem dX12_keep_165 : decode cX12_keep 165 = .ok (.getfield 166, 3) := by decide +kernel
theorem dX12_keep_168 : decode cX12_keep 168 = .ok (.iconst 1, 1) := by decide +kernel
theorem dX12_keep_169 : decode cX12_keep 169 = .ok (.aload_n 0, 1) := by decide +kernel
theorem dX12_keep_170 : decode cX12_keep 170 = .ok (.getfield 124, 3) := by decide +kernel
theorem dX12_keep_173 : decode cX12_keep 173 = .ok (.iconst 0, 1) := by decide +kernel
theorem dX12_keep_174 : decode cX12_keep 174 = .ok (.iaload, 1) := by decide +kernel
theorem dX12_keep_175 : decode cX12_keep 175 = .ok (.iastore, 1) := by decide +kernel
theorem dX12_keep_176 : decode cX12_keep 176 = .ok (.aload_n 0, 1) := by decide +kernel
theorem dX12_keep_177 : decode cX12_keep 177 = .ok (.getfield 166, 3) := by decide +kernel
theorem dX12_keep_180 : decode cX12_keep 180 = .ok (.iconst 2, 1) := by decide +kernel
theorem dX12_keep_181 : decode cX12_keep 181 = .ok (.aload_n 0, 1) := by decide +kernel
theorem dX12_keep_182 : decode cX12_keep 182 = .ok (.getfield 127, 3) := by decide +kernel
theorem dX12_keep_185 : decode cX12_keep 185 = .ok (.iconst 0, 1) := by decide +kernel
theorem dX12_keep_186 : decode cX12_keep 186 = .ok (.iaload, 1) := by decide +kernel
theorem dX12_keep_187 : decode cX12_keep 187 = .ok (.iastore, 1) := by decide +kernel
theorem dX12_keep_188 : decode cX12_keep 188 = .ok (.aload_n 0, 1) := by decide +kernel
theorem dX12_keep_189 : decode cX12_keep 189 = .ok (.getfield 166, 3) := by decide +kernel
theorem dX12_keep_192 : decode cX12_keep 192 = .ok (.iconst 3, 1) := by decide +kernel
theorem dX12_keep_193 : decode cX12_keep 193 = .ok (.aload_n 0, 1) := by decide +kernel
theorem dX12_keep_194 : decode cX12_keep 194 = .ok (.getfield 130, 3) := by decide +kernel
theorem dX12_keep_197 : decode cX12_keep 197 = .ok (.iconst 0, 1) := by decide +kernel
theorem dX12_keep_198 : decode cX12_keep 198 = .ok (.iaload, 1) := by decide +kernel
theorem dX12_keep_199 : decode cX12_keep 199 = .ok (.iastore, 1) := by decide +kernel
theorem dX12_keep_200 : decode cX12_keep 200 = .ok (.aload_n 0, 1) := by decide +kernel
theorem dX12_keep_201 : decode cX12_keep 201 = .ok (.getfield 130, 3) := by decide +kernel
theorem dX12_keep_204 : decode cX12_keep 204 = .ok (.iconst 0, 1) := by decide +kernel
theorem dX12_keep_205 : decode cX12_keep 205 = .ok (.iaload, 1) := by decide +kernel
theorem dX12_keep_206 : decode cX12_keep 206 = .ok (.ireturn, 1) := by decide +kernel
def f_X12_keep (M : MM)  : Option (Int × MM) :=
bM (upM M 88 2 0) fun M1 =>
bM (upM M1 88 87 1) fun M2 =>
(f_X12_put M2 134 8 0).bind fun x3 =>
(lp (X := Int × MM) (Y := MM) (fun x4 =>
if x4.1 < 5 then
(gd (0 ≤ x4.1 ∧ x4.1 < (10 : Int)) <|
gd (0 ≤ x4.1 ∧ x4.1 < (35 : Int)) <|
bM (upM x4.2 135 (x4.1).toNat (x4.2 116 (x4.1).toNat)) fun M8 =>
some (Sum.inl (w32 (x4.1 + 1), M8)))
else
some (Sum.inr x4.2)) FU (0, x3)).bind fun x9 =>
(lp (X := Int × MM) (Y := MM) (fun x10 =>
if x10.1 < 30 then
(gd (0 ≤ x10.1 ∧ x10.1 < (60 : Int)) <|
gd (0 ≤ w32 (5 + x10.1) ∧ w32 (5 + x10.1) < (35 : Int)) <|
bM (upM x10.2 135 (w32 (5 + x10.1)).toNat (x10.2 117 (x10.1).toNat)) fun M14 =>
some (Sum.inl (w32 (x10.1 + 1), M14)))
else
some (Sum.inr x10.2)) FU (0, x9)).bind fun x15 =>
(lp (X := Int × MM) (Y := MM) (fun x16 =>
if x16.1 < 5 then
(gd (0 ≤ x16.1 ∧ x16.1 < (10 : Int)) <|
gd (0 ≤ x16.1 ∧ x16.1 < (10 : Int)) <|
bM (upM x16.2 136 (x16.1).toNat (x16.2 118 (x16.1).toNat)) fun M20 =>
gd (0 ≤ x16.1 ∧ x16.1 < (10 : Int)) <|
gd (0 ≤ w32 (5 + x16.1) ∧ w32 (5 + x16.1) < (10 : Int)) <|
bM (upM M20 136 (w32 (5 + x16.1)).toNat (M20 119 (x16.1).toNat)) fun M23 =>
some (Sum.inl (w32 (x16.1 + 1), M23)))
else
some (Sum.inr x16.2)) FU (0, x15)).bind fun x24 =>
(lp (X := Int × MM) (Y := MM) (fun x25 =>
if x25.1 < 24 then
(gd (0 ≤ x25.1 ∧ x25.1 < (24 : Int)) <|
gd (0 ≤ x25.1 ∧ x25.1 < (48 : Int)) <|
bM (upM x25.2 137 (x25.1).toNat (x25.2 128 (x25.1).toNat)) fun M29 =>
gd (0 ≤ x25.1 ∧ x25.1 < (24 : Int)) <|
gd (0 ≤ w32 (24 + x25.1) ∧ w32 (24 + x25.1) < (48 : Int)) <|
bM (upM M29 137 (w32 (24 + x25.1)).toNat (M29 129 (x25.1).toNat)) fun M32 =>
some (Sum.inl (w32 (x25.1 + 1), M32)))
else
some (Sum.inr x25.2)) FU (0, x24)).bind fun x33 =>
bM (upM x33 138 0 (x33 124 0)) fun M34 =>
bM (upM M34 138 1 (M34 125 0)) fun M35 =>
bM (upM M35 138 2 (M35 126 0)) fun M36 =>
bM (upM M36 138 3 (M36 127 0)) fun M37 =>
some (M37 127 0, M37)
set_option maxRecDepth 4000 in
theorem c_X12_keep {E : EE} {sh : List (Nat × Nat)} {ex : Bool} {R : RM} {M : MM}  (hE : Ext sh) (hL : Links R) : ∀ y, f_X12_keep M = some y → MetC E m_X12_keep 0 0 [rV 88] (sh, ex, R, M) (fun r w' => r = some (iV y.1) ∧ w' = (sh, ex, R, y.2)) := by
  intro y hy
  refine MetC.seg (o := f_X12_keep M) (t := (fun K y => K (some (iV y.1)) (sh, ex, R, y.2))) (L := [some (rV 88), none]) (by decide) rfl (Nat.le_of_ble_eq_true rfl) ?_ hy ⟨rfl, rfl⟩
  unfold f_X12_keep
  refine Seg.step (pc' := 1) (I_aload_n (i := 0) dX12_keep_0 rfl rfl) ?_
  refine Seg.step (pc' := 2) (I_iconst dX12_keep_1 ⟨by decide, by decide⟩) ?_
  refine Seg.step (pc' := 5) (I_putI cls12 (by decide) wf_12_175 (hE _ _ sk_12) rfl rfl dX12_keep_2) ?_
  refine S_bM fun M1 => ?_
  refine Seg.step (pc' := 6) (I_aload_n (i := 0) dX12_keep_5 rfl rfl) ?_
  refine Seg.step (pc' := 7) (I_iconst dX12_keep_6 ⟨by decide, by decide⟩) ?_
  refine Seg.step (pc' := 10) (I_putZ cls12 (by decide) wf_12_394 (hE _ _ sk_12) rfl rfl (by decide) dX12_keep_7) ?_
  refine S_bM fun M2 => ?_
  refine Seg.step (pc' := 11) (I_aload_n (i := 0) dX12_keep_10 rfl rfl) ?_
  refine Seg.step (pc' := 12) (I_aload_n (i := 0) dX12_keep_11 rfl rfl) ?_
  refine Seg.step (pc' := 15) (I_getR cls12 (by decide) wf_12_154 (hE _ _ sk_12) rfl (lk_12_88 hL) dX12_keep_12) ?_
  refine Seg.step (pc' := 16) (I_iconst dX12_keep_15 ⟨by decide, by decide⟩) ?_
  refine S_callV2 (md' := m_X12_put) (fun y => none) (fun y => (sh, ex, R, y)) (hE _ _ sk_12) ⟨by decide, rfl⟩ mm_X12_put wm_12_560 ⟨rfl, rfl, by decide, by decide, by decide, by decide⟩ (Nat.le_of_ble_eq_true rfl) dX12_keep_16 (fun y hy => c_X12_put hE hL sk_12_88 y hy) (fun x3 => ?_)
  refine Seg.step (pc' := 20) (I_iconst dX12_keep_19 ⟨by decide, by decide⟩) ?_
  refine Seg.step (pc' := 21) (I_istore_n (i := 1) dX12_keep_20 rfl (by decide) rfl) ?_
  refine Seg.forget (Lle.ye (Lle.ye (Lle.nil))) ?_
  refine S_bind (Y := MM) (k' := 0) (n' := 0) 44 (fun y => [some (rV 88), none]) (fun y => []) (fun y => (sh, ex, R, y)) (S_loop (Y := Int × MM) (fun y => [some (rV 88), some (iV y.1)]) (fun y => []) (fun y => (sh, ex, R, y.2)) (fun x4 => ?_) FU (0, x3)) (fun x9 => ?_)
  · refine Seg.step (pc' := 22) (I_iload_n (i := 1) dX12_keep_21 rfl rfl) ?_
    refine Seg.step (pc' := 23) (I_iconst dX12_keep_22 ⟨by decide, by decide⟩) ?_
    refine S_icmp_ge (tgt := 44) dX12_keep_23 (by decide) (fun h5 => ?_) (fun h5 => ?_)
    · refine Seg.step (pc' := 27) (I_aload_n (i := 0) dX12_keep_26 rfl rfl) ?_
      refine Seg.step (pc' := 30) (I_getR cls12 (by decide) wf_12_157 (hE _ _ sk_12) rfl (lk_12_89 hL) dX12_keep_27) ?_
      refine Seg.step (pc' := 31) (I_iload_n (i := 1) dX12_keep_30 rfl rfl) ?_
      refine Seg.step (pc' := 32) (I_aload_n (i := 0) dX12_keep_31 rfl rfl) ?_
      refine Seg.step (pc' := 35) (I_getR cls12 (by decide) wf_12_97 (hE _ _ sk_12) rfl (lk_12_54 hL) dX12_keep_32) ?_
      refine Seg.step (pc' := 36) (I_iload_n (i := 1) dX12_keep_35 rfl rfl) ?_
      refine S_gd fun h6 => ?_
      refine Seg.step (pc' := 37) (I_iald (hE _ _ sk_12_54) h6 dX12_keep_36) ?_
      refine S_gd fun h7 => ?_
      refine Seg.step (pc' := 38) (I_iast (hE _ _ sk_12_89) h7 dX12_keep_37) ?_
      refine S_bM fun M8 => ?_
      refine Seg.step (pc' := 41) (I_iinc dX12_keep_38 rfl (by decide) rfl) ?_
      refine Seg.step (pc' := 21) (I_goto (tgt := 21) dX12_keep_41 (by decide)) ?_
      exact S_arr (fun K hK => GG.forget (Lle.ye (Lle.ye (Lle.nil))) hK)
    exact S_arr (fun K hK => GG.forget (Lle.ye (Lle.no (Lle.nil))) hK)
  refine Seg.step (pc' := 45) (I_iconst dX12_keep_44 ⟨by decide, by decide⟩) ?_
  refine Seg.step (pc' := 46) (I_istore_n (i := 1) dX12_keep_45 rfl (by decide) rfl) ?_
  refine Seg.forget (Lle.ye (Lle.ye (Lle.nil))) ?_
  refine S_bind (Y := MM) (k' := 0) (n' := 0) 72 (fun y => [some (rV 88), none]) (fun y => []) (fun y => (sh, ex, R, y)) (S_loop (Y := Int × MM) (fun y => [some (rV 88), some (iV y.1)]) (fun y => []) (fun y => (sh, ex, R, y.2)) (fun x10 => ?_) FU (0, x9)) (fun x15 => ?_)
  · refine Seg.step (pc' := 47) (I_iload_n (i := 1) dX12_keep_46 rfl rfl) ?_
    refine Seg.step (pc' := 49) (I_bipush dX12_keep_47 (by decide) ⟨by decide, by decide⟩) ?_
    refine S_icmp_ge (tgt := 72) dX12_keep_49 (by decide) (fun h11 => ?_) (fun h11 => ?_)
    · refine Seg.step (pc' := 53) (I_aload_n (i := 0) dX12_keep_52 rfl rfl) ?_
      refine Seg.step (pc' := 56) (I_getR cls12 (by decide) wf_12_157 (hE _ _ sk_12) rfl (lk_12_89 hL) dX12_keep_53) ?_
      refine Seg.step (pc' := 57) (I_iconst dX12_keep_56 ⟨by decide, by decide⟩) ?_
      refine Seg.step (pc' := 58) (I_iload_n (i := 1) dX12_keep_57 rfl rfl) ?_
      refine Seg.step (pc' := 59) (I_iadd dX12_keep_58) ?_
      refine Seg.step (pc' := 60) (I_aload_n (i := 0) dX12_keep_59 rfl rfl) ?_
      refine Seg.step (pc' := 63) (I_getR cls12 (by decide) wf_12_100 (hE _ _ sk_12) rfl (lk_12_55 hL) dX12_keep_60) ?_
      refine Seg.step (pc' := 64) (I_iload_n (i := 1) dX12_keep_63 rfl rfl) ?_
      refine S_gd fun h12 => ?_
      refine Seg.step (pc' := 65) (I_iald (hE _ _ sk_12_55) h12 dX12_keep_64) ?_
      refine S_gd fun h13 => ?_
      refine Seg.step (pc' := 66) (I_iast (hE _ _ sk_12_89) h13 dX12_keep_65) ?_
      refine S_bM fun M14 => ?_
      refine Seg.step (pc' := 69) (I_iinc dX12_keep_66 rfl (by decide) rfl) ?_
      refine Seg.step (pc' := 46) (I_goto (tgt := 46) dX12_keep_69 (by decide)) ?_
      exact S_arr (fun K hK => GG.forget (Lle.ye (Lle.ye (Lle.nil))) hK)
    exact S_arr (fun K hK => GG.forget (Lle.ye (Lle.no (Lle.nil))) hK)
  refine Seg.step (pc' := 73) (I_iconst dX12_keep_72 ⟨by decide, by decide⟩) ?_
  refine Seg.step (pc' := 74) (I_istore_n (i := 1) dX12_keep_73 rfl (by decide) rfl) ?_
  refine Seg.forget (Lle.ye (Lle.ye (Lle.nil))) ?_
  refine S_bind (Y := MM) (k' := 0) (n' := 0) 111 (fun y => [some (rV 88), none]) (fun y => []) (fun y => (sh, ex, R, y)) (S_loop (Y := Int × MM) (fun y => [some (rV 88), some (iV y.1)]) (fun y => []) (fun y => (sh, ex, R, y.2)) (fun x16 => ?_) FU (0, x15)) (fun x24 => ?_)
  · refine Seg.step (pc' := 75) (I_iload_n (i := 1) dX12_keep_74 rfl rfl) ?_
    refine Seg.step (pc' := 76) (I_iconst dX12_keep_75 ⟨by decide, by decide⟩) ?_
    refine S_icmp_ge (tgt := 111) dX12_keep_76 (by decide) (fun h17 => ?_) (fun h17 => ?_)
    · refine Seg.step (pc' := 80) (I_aload_n (i := 0) dX12_keep_79 rfl rfl) ?_
      refine Seg.step (pc' := 83) (I_getR cls12 (by decide) wf_12_160 (hE _ _ sk_12) rfl (lk_12_90 hL) dX12_keep_80) ?_
      refine Seg.step (pc' := 84) (I_iload_n (i := 1) dX12_keep_83 rfl rfl) ?_
      refine Seg.step (pc' := 85) (I_aload_n (i := 0) dX12_keep_84 rfl rfl) ?_
      refine Seg.step (pc' := 88) (I_getR cls12 (by decide) wf_12_103 (hE _ _ sk_12) rfl (lk_12_56 hL) dX12_keep_85) ?_
      refine Seg.step (pc' := 89) (I_iload_n (i := 1) dX12_keep_88 rfl rfl) ?_
      refine S_gd fun h18 => ?_
      refine Seg.step (pc' := 90) (I_iald (hE _ _ sk_12_56) h18 dX12_keep_89) ?_
      refine S_gd fun h19 => ?_
      refine Seg.step (pc' := 91) (I_iast (hE _ _ sk_12_90) h19 dX12_keep_90) ?_
      refine S_bM fun M20 => ?_
      refine Seg.step (pc' := 92) (I_aload_n (i := 0) dX12_keep_91 rfl rfl) ?_
      refine Seg.step (pc' := 95) (I_getR cls12 (by decide) wf_12_160 (hE _ _ sk_12) rfl (lk_12_90 hL) dX12_keep_92) ?_
      refine Seg.step (pc' := 96) (I_iconst dX12_keep_95 ⟨by decide, by decide⟩) ?_
      refine Seg.step (pc' := 97) (I_iload_n (i := 1) dX12_keep_96 rfl rfl) ?_
      refine Seg.step (pc' := 98) (I_iadd dX12_keep_97) ?_
      refine Seg.step (pc' := 99) (I_aload_n (i := 0) dX12_keep_98 rfl rfl) ?_
      refine Seg.step (pc' := 102) (I_getR cls12 (by decide) wf_12_106 (hE _ _ sk_12) rfl (lk_12_57 hL) dX12_keep_99) ?_
      refine Seg.step (pc' := 103) (I_iload_n (i := 1) dX12_keep_102 rfl rfl) ?_
      refine S_gd fun h21 => ?_
      refine Seg.step (pc' := 104) (I_iald (hE _ _ sk_12_57) h21 dX12_keep_103) ?_
      refine S_gd fun h22 => ?_
      refine Seg.step (pc' := 105) (I_iast (hE _ _ sk_12_90) h22 dX12_keep_104) ?_
      refine S_bM fun M23 => ?_
      refine Seg.step (pc' := 108) (I_iinc dX12_keep_105 rfl (by decide) rfl) ?_
      refine Seg.step (pc' := 74) (I_goto (tgt := 74) dX12_keep_108 (by decide)) ?_
      exact S_arr (fun K hK => GG.forget (Lle.ye (Lle.ye (Lle.nil))) hK)
    exact S_arr (fun K hK => GG.forget (Lle.ye (Lle.no (Lle.nil))) hK)
  refine Seg.step (pc' := 112) (I_iconst dX12_keep_111 ⟨by decide, by decide⟩) ?_
  refine Seg.step (pc' := 113) (I_istore_n (i := 1) dX12_keep_112 rfl (by decide) rfl) ?_
  refine Seg.forget (Lle.ye (Lle.ye (Lle.nil))) ?_
  refine S_bind (Y := MM) (k' := 0) (n' := 0) 152 (fun y => [some (rV 88), none]) (fun y => []) (fun y => (sh, ex, R, y)) (S_loop (Y := Int × MM) (fun y => [some (rV 88), some (iV y.1)]) (fun y => []) (fun y => (sh, ex, R, y.2)) (fun x25 => ?_) FU (0, x24)) (fun x33 => ?_)
  · refine Seg.step (pc' := 114) (I_iload_n (i := 1) dX12_keep_113 rfl rfl) ?_
    refine Seg.step (pc' := 116) (I_bipush dX12_keep_114 (by decide) ⟨by decide, by decide⟩) ?_
    refine S_icmp_ge (tgt := 152) dX12_keep_116 (by decide) (fun h26 => ?_) (fun h26 => ?_)
    · refine Seg.step (pc' := 120) (I_aload_n (i := 0) dX12_keep_119 rfl rfl) ?_
      refine Seg.step (pc' := 123) (I_getR cls12 (by decide) wf_12_163 (hE _ _ sk_12) rfl (lk_12_91 hL) dX12_keep_120) ?_
      refine Seg.step (pc' := 124) (I_iload_n (i := 1) dX12_keep_123 rfl rfl) ?_
      refine Seg.step (pc' := 125) (I_aload_n (i := 0) dX12_keep_124 rfl rfl) ?_
      refine Seg.step (pc' := 128) (I_getR cls12 (by decide) wf_12_133 (hE _ _ sk_12) rfl (lk_12_66 hL) dX12_keep_125) ?_
      refine Seg.step (pc' := 129) (I_iload_n (i := 1) dX12_keep_128 rfl rfl) ?_
      refine S_gd fun h27 => ?_
      refine Seg.step (pc' := 130) (I_iald (hE _ _ sk_12_66) h27 dX12_keep_129) ?_
      refine S_gd fun h28 => ?_
      refine Seg.step (pc' := 131) (I_iast (hE _ _ sk_12_91) h28 dX12_keep_130) ?_
      refine S_bM fun M29 => ?_
      refine Seg.step (pc' := 132) (I_aload_n (i := 0) dX12_keep_131 rfl rfl) ?_
      refine Seg.step (pc' := 135) (I_getR cls12 (by decide) wf_12_163 (hE _ _ sk_12) rfl (lk_12_91 hL) dX12_keep_132) ?_
      refine Seg.step (pc' := 137) (I_bipush dX12_keep_135 (by decide) ⟨by decide, by decide⟩) ?_
      refine Seg.step (pc' := 138) (I_iload_n (i := 1) dX12_keep_137 rfl rfl) ?_
      refine Seg.step (pc' := 139) (I_iadd dX12_keep_138) ?_
      refine Seg.step (pc' := 140) (I_aload_n (i := 0) dX12_keep_139 rfl rfl) ?_
      refine Seg.step (pc' := 143) (I_getR cls12 (by decide) wf_12_136 (hE _ _ sk_12) rfl (lk_12_67 hL) dX12_keep_140) ?_
      refine Seg.step (pc' := 144) (I_iload_n (i := 1) dX12_keep_143 rfl rfl) ?_
      refine S_gd fun h30 => ?_
      refine Seg.step (pc' := 145) (I_iald (hE _ _ sk_12_67) h30 dX12_keep_144) ?_
      refine S_gd fun h31 => ?_
      refine Seg.step (pc' := 146) (I_iast (hE _ _ sk_12_91) h31 dX12_keep_145) ?_
      refine S_bM fun M32 => ?_
      refine Seg.step (pc' := 149) (I_iinc dX12_keep_146 rfl (by decide) rfl) ?_
      refine Seg.step (pc' := 113) (I_goto (tgt := 113) dX12_keep_149 (by decide)) ?_
      exact S_arr (fun K hK => GG.forget (Lle.ye (Lle.ye (Lle.nil))) hK)
    exact S_arr (fun K hK => GG.forget (Lle.ye (Lle.no (Lle.nil))) hK)
  refine Seg.step (pc' := 153) (I_aload_n (i := 0) dX12_keep_152 rfl rfl) ?_
  refine Seg.step (pc' := 156) (I_getR cls12 (by decide) wf_12_166 (hE _ _ sk_12) rfl (lk_12_92 hL) dX12_keep_153) ?_
  refine Seg.step (pc' := 157) (I_iconst dX12_keep_156 ⟨by decide, by decide⟩) ?_
  refine Seg.step (pc' := 158) (I_aload_n (i := 0) dX12_keep_157 rfl rfl) ?_
  refine Seg.step (pc' := 161) (I_getR cls12 (by decide) wf_12_121 (hE _ _ sk_12) rfl (lk_12_62 hL) dX12_keep_158) ?_
  refine Seg.step (pc' := 162) (I_iconst dX12_keep_161 ⟨by decide, by decide⟩) ?_
  refine Seg.step (pc' := 163) (I_iald (hE _ _ sk_12_62) ⟨by decide, by decide⟩ dX12_keep_162) ?_
  refine Seg.step (pc' := 164) (I_iast (hE _ _ sk_12_92) ⟨by decide, by decide⟩ dX12_keep_163) ?_
  refine S_bM fun M34 => ?_
  refine Seg.step (pc' := 165) (I_aload_n (i := 0) dX12_keep_164 rfl rfl) ?_
  refine Seg.step (pc' := 168) (I_getR cls12 (by decide) wf_12_166 (hE _ _ sk_12) rfl (lk_12_92 hL) dX12_keep_165) ?_
  refine Seg.step (pc' := 169) (I_iconst dX12_keep_168 ⟨by decide, by decide⟩) ?_
  refine Seg.step (pc' := 170) (I_aload_n (i := 0) dX12_keep_169 rfl rfl) ?_
  refine Seg.step (pc' := 173) (I_getR cls12 (by decide) wf_12_124 (hE _ _ sk_12) rfl (lk_12_63 hL) dX12_keep_170) ?_
  refine Seg.step (pc' := 174) (I_iconst dX12_keep_173 ⟨by decide, by decide⟩) ?_
  refine Seg.step (pc' := 175) (I_iald (hE _ _ sk_12_63) ⟨by decide, by decide⟩ dX12_keep_174) ?_
  refine Seg.step (pc' := 176) (I_iast (hE _ _ sk_12_92) ⟨by decide, by decide⟩ dX12_keep_175) ?_
  refine S_bM fun M35 => ?_
  refine Seg.step (pc' := 177) (I_aload_n (i := 0) dX12_keep_176 rfl rfl) ?_
  refine Seg.step (pc' := 180) (I_getR cls12 (by decide) wf_12_166 (hE _ _ sk_12) rfl (lk_12_92 hL) dX12_keep_177) ?_
  refine Seg.step (pc' := 181) (I_iconst dX12_keep_180 ⟨by decide, by decide⟩) ?_
  refine Seg.step (pc' := 182) (I_aload_n (i := 0) dX12_keep_181 rfl rfl) ?_
  refine Seg.step (pc' := 185) (I_getR cls12 (by decide) wf_12_127 (hE _ _ sk_12) rfl (lk_12_64 hL) dX12_keep_182) ?_
  refine Seg.step (pc' := 186) (I_iconst dX12_keep_185 ⟨by decide, by decide⟩) ?_
  refine Seg.step (pc' := 187) (I_iald (hE _ _ sk_12_64) ⟨by decide, by decide⟩ dX12_keep_186) ?_
  refine Seg.step (pc' := 188) (I_iast (hE _ _ sk_12_92) ⟨by decide, by decide⟩ dX12_keep_187) ?_
  refine S_bM fun M36 => ?_
  refine Seg.step (pc' := 189) (I_aload_n (i := 0) dX12_keep_188 rfl rfl) ?_
  refine Seg.step (pc' := 192) (I_getR cls12 (by decide) wf_12_166 (hE _ _ sk_12) rfl (lk_12_92 hL) dX12_keep_189) ?_
  refine Seg.step (pc' := 193) (I_iconst dX12_keep_192 ⟨by decide, by decide⟩) ?_
  refine Seg.step (pc' := 194) (I_aload_n (i := 0) dX12_keep_193 rfl rfl) ?_
  refine Seg.step (pc' := 197) (I_getR cls12 (by decide) wf_12_130 (hE _ _ sk_12) rfl (lk_12_65 hL) dX12_keep_194) ?_
  refine Seg.step (pc' := 198) (I_iconst dX12_keep_197 ⟨by decide, by decide⟩) ?_
  refine Seg.step (pc' := 199) (I_iald (hE _ _ sk_12_65) ⟨by decide, by decide⟩ dX12_keep_198) ?_
  refine Seg.step (pc' := 200) (I_iast (hE _ _ sk_12_92) ⟨by decide, by decide⟩ dX12_keep_199) ?_
  refine S_bM fun M37 => ?_
  refine Seg.step (pc' := 201) (I_aload_n (i := 0) dX12_keep_200 rfl rfl) ?_
  refine Seg.step (pc' := 204) (I_getR cls12 (by decide) wf_12_130 (hE _ _ sk_12) rfl (lk_12_65 hL) dX12_keep_201) ?_
  refine Seg.step (pc' := 205) (I_iconst dX12_keep_204 ⟨by decide, by decide⟩) ?_
  refine Seg.step (pc' := 206) (I_iald (hE _ _ sk_12_65) ⟨by decide, by decide⟩ dX12_keep_205) ?_
  exact S_iret dX12_keep_206 rfl (by decide) (by decide) (fun K hK => hK)
theorem dX12_back_0 : decode cX12_back 0 = .ok (.aload_n 0, 1) := by decide +kernel
theorem dX12_back_1 : decode cX12_back 1 = .ok (.iconst 0, 1) := by decide +kernel
theorem dX12_back_2 : decode cX12_back 2 = .ok (.putfield 175, 3) := by decide +kernel
theorem dX12_back_5 : decode cX12_back 5 = .ok (.aload_n 0, 1) := by decide +kernel
theorem dX12_back_6 : decode cX12_back 6 = .ok (.getfield 394, 3) := by decide +kernel
theorem dX12_back_9 : decode cX12_back 9 = .ok (.ifCond .ne 5, 3) := by decide +kernel
theorem dX12_back_12 : decode cX12_back 12 = .ok (.iconst (-1), 1) := by decide +kernel
theorem dX12_back_13 : decode cX12_back 13 = .ok (.ireturn, 1) := by decide +kernel
theorem dX12_back_14 : decode cX12_back 14 = .ok (.aload_n 0, 1) := by decide +kernel
theorem dX12_back_15 : decode cX12_back 15 = .ok (.aload_n 0, 1) := by decide +kernel
theorem dX12_back_16 : decode cX12_back 16 = .ok (.getfield 154, 3) := by decide +kernel
theorem dX12_back_19 : decode cX12_back 19 = .ok (.iconst 0, 1) := by decide +kernel
theorem dX12_back_20 : decode cX12_back 20 = .ok (.invokevirtual 563, 3) := by decide +kernel
theorem dX12_back_23 : decode cX12_back 23 = .ok (.iconst 0, 1) := by decide +kernel
theorem dX12_back_24 : decode cX12_back 24 = .ok (.istore_n 1, 1) := by decide +kernel
theorem dX12_back_25 : decode cX12_back 25 = .ok (.iload_n 1, 1) := by decide +kernel
theorem dX12_back_26 : decode cX12_back 26 = .ok (.iconst 5, 1) := by decide +kernel
theorem dX12_back_27 : decode cX12_back 27 = .ok (.if_icmp .ge 21, 3) := by decide +kernel
theorem dX12_back_30 : decode cX12_back 30 = .ok (.aload_n 0, 1) := by decide +kernel
theorem dX12_back_31 : decode cX12_back 31 = .ok (.getfield 97, 3) := by decide +kernel
theorem dX12_back_34 : decode cX12_back 34 = .ok (.iload_n 1, 1) := by decide +kernel
theorem dX12_back_35 : decode cX12_back 35 = .ok (.aload_n 0, 1) := by decide +kernel
theorem dX12_back_36 : decode cX12_back 36 = .ok (.getfield 157, 3) := by decide +kernel
theorem dX12_back_39 : decode cX12_back 39 = .ok (.iload_n 1, 1) := by decide +kernel
theorem dX12_back_40 : decode cX12_back 40 = .ok (.iaload, 1) := by decide +kernel
theorem dX12_back_41 : decode cX12_back 41 = .ok (.iastore, 1) := by decide +kernel
theorem dX12_back_42 : decode cX12_back 42 = .ok (.iinc 1 1, 3) := by decide +kernel
theorem dX12_back_45 : decode cX12_back 45 = .ok (.goto (-20), 3) := by decide +kernel
theorem dX12_back_48 : decode cX12_back 48 = .ok (.iconst 0, 1) := by decide +kernel
theorem dX12_back_49 : decode cX12_back 49 = .ok (.istore_n 1, 1) := by decide +kernel
theorem dX12_back_50 : decode cX12_back 50 = .ok (.iload_n 1, 1) := by decide +kernel
theorem dX12_back_51 : decode cX12_back 51 = .ok (.bipush 30, 2) := by decide +kernel
theorem dX12_back_53 : decode cX12_back 53 = .ok (.if_icmp .ge 23, 3) := by decide +kernel
theorem dX12_back_56 : decode cX12_back 56 = .ok (.aload_n 0, 1) := by decide +kernel
theorem dX12_back_57 : decode cX12_back 57 = .ok (.getfield 100, 3) := by decide +kernel
theorem dX12_back_60 : decode cX12_back 60 = .ok (.iload_n 1, 1) := by decide +kernel
theorem dX12_back_61 : decode cX12_back 61 = .ok (.aload_n 0, 1) := by decide +kernel
theorem dX12_back_62 : decode cX12_back 62 = .ok (.getfield 157, 3) := by decide +kernel
theorem dX12_back_65 : decode cX12_back 65 = .ok (.iconst 5, 1) := by decide +kernel
theorem dX12_back_66 : decode cX12_back 66 = .ok (.iload_n 1, 1) := by decide +kernel
theorem dX12_back_67 : decode cX12_back 67 = .ok (.iadd, 1) := by decide +kernel
theorem dX12_back_68 : decode cX12_back 68 = .ok (.iaload, 1) := by decide +kernel
theorem dX12_back_69 : decode cX12_back 69 = .ok (.iastore, 1) := by decide +kernel
theorem dX12_back_70 : decode cX12_back 70 = .ok (.iinc 1 1, 3) := by decide +kernel
theorem dX12_back_73 : decode cX12_back 73 = .ok (.goto (-23), 3) := by decide +kernel
theorem dX12_back_76 : decode cX12_back 76 = .ok (.iconst 0, 1) := by decide +kernel
theorem dX12_back_77 : decode cX12_back 77 = .ok (.istore_n 1, 1) := by decide +kernel
theorem dX12_back_78 : decode cX12_back 78 = .ok (.iload_n 1, 1) := by decide +kernel
theorem dX12_back_79 : decode cX12_back 79 = .ok (.iconst 5, 1) := by decide +kernel
theorem dX12_back_80 : decode cX12_back 80 = .ok (.if_icmp .ge 35, 3) := by decide +kernel
theorem dX12_back_83 : decode cX12_back 83 = .ok (.aload_n 0, 1) := by decide +kernel
theorem dX12_back_84 : decode cX12_back 84 = .ok (.getfield 103, 3) := by decide +kernel
theorem dX12_back_87 : decode cX12_back 87 = .ok (.iload_n 1, 1) := by decide +kernel
theorem dX12_back_88 : decode cX12_back 88 = .ok (.aload_n 0, 1) := by decide +kernel
theorem dX12_back_89 : decode cX12_back 89 = .ok (.getfield 160, 3) := by decide +kernel
theorem dX12_back_92 : decode cX12_back 92 = .ok (.iload_n 1, 1) := by decide +kernel
theorem dX12_back_93 : decode cX12_back 93 = .ok (.iaload, 1) := by decide +kernel
theorem dX12_back_94 : decode cX12_back 94 = .ok (.iastore, 1) := by decide +kernel
theorem dX12_back_95 : decode cX12_back 95 = .ok (.aload_n 0, 1) := by decide +kernel
theorem dX12_back_96 : decode cX12_back 96 = .ok (.getfield 106, 3) := by decide +kernel
theorem dX12_back_99 : decode cX12_back 99 = .ok (.iload_n 1, 1) := by decide +kernel
theorem dX12_back_100 : decode cX12_back 100 = .ok (.aload_n 0, 1) := by decide +kernel
theorem dX12_back_101 : decode cX12_back 101 = .ok (.getfield 160, 3) := by decide +kernel
theorem dX12_back_104 : decode cX12_back 104 = .ok (.iconst 5, 1) := by decide +kernel
theorem dX12_back_105 : decode cX12_back 105 = .ok (.iload_n 1, 1) := by decide +kernel
theorem dX12_back_106 : decode cX12_back 106 = .ok (.iadd, 1) := by decide +kernel
theorem dX12_back_107 : decode cX12_back 107 = .ok (.iaload, 1) := by decide +kernel
theorem dX12_back_108 : decode cX12_back 108 = .ok (.iastore, 1) := by decide +kernel
theorem dX12_back_109 : decode cX12_back 109 = .ok (.iinc 1 1, 3) := by decide +kernel
theorem dX12_back_112 : decode cX12_back 112 = .ok (.goto (-34), 3) := by decide +kernel
theorem dX12_back_115 : decode cX12_back 115 = .ok (.iconst 0, 1) := by decide +kernel
theorem dX12_back_116 : decode cX12_back 116 = .ok (.istore_n 1, 1) := by decide +kernel
theorem dX12_back_117 : decode cX12_back 117 = .ok (.iload_n 1, 1) := by decide +kernel
theorem dX12_back_118 : decode cX12_back 118 = .ok (.bipush 24, 2) := by decide +kernel
theorem dX12_back_120 : decode cX12_back 120 = .ok (.if_icmp .ge 36, 3) := by decide +kernel
theorem dX12_back_123 : decode cX12_back 123 = .ok (.aload_n 0, 1) := by decide +kernel
theorem dX12_back_124 : decode cX12_back 124 = .ok (.getfield 133, 3) := by decide +kernel
theorem dX12_back_127 : decode cX12_back 127 = .ok (.iload_n 1, 1) := by decide +kernel
theorem dX12_back_128 : decode cX12_back 128 = .ok (.aload_n 0, 1) := by decide +kernel
theorem dX12_back_129 : decode cX12_back 129 = .ok (.getfield 163, 3) := by decide +kernel
theorem dX12_back_132 : decode cX12_back 132 = .ok (.iload_n 1, 1) := by decide +kernel
theorem dX12_back_133 : decode cX12_back 133 = .ok (.iaload, 1) := by decide +kernel
theorem dX12_back_134 : decode cX12_back 134 = .ok (.iastore, 1) := by decide +kernel
theorem dX12_back_135 : decode cX12_back 135 = .ok (.aload_n 0, 1) := by decide +kernel
theorem dX12_back_136 : decode cX12_back 136 = .ok (.getfield 136, 3) := by decide +kernel
theorem dX12_back_139 : decode cX12_back 139 = .ok (.iload_n 1, 1) := by decide +kernel
theorem dX12_back_140 : decode cX12_back 140 = .ok (.aload_n 0, 1) := by decide +kernel
theorem dX12_back_141 : decode cX12_back 141 = .ok (.getfield 163, 3) := by decide +kernel
theorem dX12_back_144 : decode cX12_back 144 = .ok (.bipush 24, 2) := by decide +kernel
theorem dX12_back_146 : decode cX12_back 146 = .ok (.iload_n 1, 1) := by decide +kernel
theorem dX12_back_147 : decode cX12_back 147 = .ok (.iadd, 1) := by decide +kernel
theorem dX12_back_148 : decode cX12_back 148 = .ok (.iaload, 1) := by decide +kernel
theorem dX12_back_149 : decode cX12_back 149 = .ok (.iastore, 1) := by decide +kernel
theorem dX12_back_150 : decode cX12_back 150 = .ok (.iinc 1 1, 3) := by decide +kernel
theorem dX12_back_153 : decode cX12_back 153 = .ok (.goto (-36), 3) := by decide +kernel
theorem dX12_back_156 : decode cX12_back 156 = .ok (.aload_n 0, 1) := by decide +kernel
theorem dX12_back_157 : decode cX12_back 157 = .ok (.getfield 121, 3) := by decide +kernel
theorem dX12_back_160 : decode cX12_back 160 = .ok (.iconst 0, 1) := by decide +kernel
theorem dX12_back_161 : decode cX12_back 161 = .ok (.aload_n 0, 1) := by decide +kernel
theorem dX12_back_162 : decode cX12_back 162 = .ok (.getfield 166, 3) := by decide +kernel
theorem dX12_back_165 : decode cX12_back 165 = .ok (.iconst 0, 1) := by decide +kernel
theorem dX12_back_166 : decode cX12_back 166 = .ok (.iaload, 1) := by decide +kernel
theorem dX12_back_167 : decode cX12_back 167 = .ok (.iastore, 1) := by decide +kernel
theorem dX12_back_168 : decode cX12_back 168 = .ok (.aload_n 0, 1) := by decide +kernel
theorem dX12_back_169 : decode cX12_back 169 = .ok (.getfield 124, 3) := by decide +kernel
theorem dX12_back_172 : decode cX12_back 172 = .ok (.iconst 0, 1) := by decide +kernel
theorem dX12_back_173 : decode cX12_back 173 = .ok (.aload_n 0, 1) := by decide +kernel
theorem dX12_back_174 : decode cX12_back 174 = .ok (.getfield 166, 3) := by decide +kernel
theorem dX12_back_177 : decode cX12_back 177 = .ok (.iconst 1, 1) := by decide +kernel
theorem dX12_back_178 : decode cX12_back 178 = .ok (.iaload, 1) := by decide +kernel
theorem dX12_back_179 : decode cX12_back 179 = .ok (.iastore, 1) := by decide +kernel
theorem dX12_back_180 : decode cX12_back 180 = .ok (.aload_n 0, 1) := by decide +kernel
theorem dX12_back_181 : decode cX12_back 181 = .ok (.getfield 127, 3) := by decide +kernel
theorem dX12_back_184 : decode cX12_back 184 = .ok (.iconst 0, 1) := by decide +kernel
theorem dX12_back_185 : decode cX12_back 185 = .ok (.aload_n 0, 1) := by decide +kernel
theorem dX12_back_186 : decode cX12_back 186 = .ok (.getfield 166, 3) := by decide +kernel
theorem dX12_back_189 : decode cX12_back 189 = .ok (.iconst 2, 1) := by decide +kernel
theorem dX12_back_190 : decode cX12_back 190 = .ok (.iaload, 1) := by decide +kernel
theorem dX12_back_191 : decode cX12_back 191 = .ok (.iastore, 1) := by decide +kernel
theorem dX12_back_192 : decode cX12_back 192 = .ok (.aload_n 0, 1) := by decide +kernel
theorem dX12_back_193 : decode cX12_back 193 = .ok (.getfield 130, 3) := by decide +kernel
theorem dX12_back_196 : decode cX12_back 196 = .ok (.iconst 0, 1) := by decide +kernel
theorem dX12_back_197 : decode cX12_back 197 = .ok (.aload_n 0, 1) := by decide +kernel
theorem dX12_back_198 : decode cX12_back 198 = .ok (.getfield 166, 3) := by decide +kernel
theorem dX12_back_201 : decode cX12_back 201 = .ok (.iconst 3, 1) := by decide +kernel
theorem dX12_back_202 : decode cX12_back 202 = .ok (.iaload, 1) := by decide +kernel
theorem dX12_back_203 : decode cX12_back 203 = .ok (.iastore, 1) := by decide +kernel
theorem dX12_back_204 : decode cX12_back 204 = .ok (.aload_n 0, 1) := by decide +kernel
theorem dX12_back_205 : decode cX12_back 205 = .ok (.iconst 0, 1) := by decide +kernel
theorem dX12_back_206 : decode cX12_back 206 = .ok (.putfield 391, 3) := by decide +kernel
theorem dX12_back_209 : decode cX12_back 209 = .ok (.aload_n 0, 1) := by decide +kernel
theorem dX12_back_210 : decode cX12_back 210 = .ok (.getfield 130, 3) := by decide +kernel
theorem dX12_back_213 : decode cX12_back 213 = .ok (.iconst 0, 1) := by decide +kernel
theorem dX12_back_214 : decode cX12_back 214 = .ok (.iaload, 1) := by decide +kernel
theorem dX12_back_215 : decode cX12_back 215 = .ok (.ireturn, 1) := by decide +kernel
def f_X12_back (M : MM)  : Option (Int × MM) :=
bM (upM M 88 2 0) fun M1 =>
if (M1 88 87) = 0 then
(some ((-1), M1))
else
(f_X12_take M1 134 8 0).bind fun x3 =>
(lp (X := Int × MM) (Y := MM) (fun x4 =>
if x4.1 < 5 then
(gd (0 ≤ x4.1 ∧ x4.1 < (35 : Int)) <|
gd (0 ≤ x4.1 ∧ x4.1 < (10 : Int)) <|
bM (upM x4.2 116 (x4.1).toNat (x4.2 135 (x4.1).toNat)) fun M8 =>
some (Sum.inl (w32 (x4.1 + 1), M8)))
else
some (Sum.inr x4.2)) FU (0, x3)).bind fun x9 =>
(lp (X := Int × MM) (Y := MM) (fun x10 =>
if x10.1 < 30 then
(gd (0 ≤ w32 (5 + x10.1) ∧ w32 (5 + x10.1) < (35 : Int)) <|
gd (0 ≤ x10.1 ∧ x10.1 < (60 : Int)) <|
bM (upM x10.2 117 (x10.1).toNat (x10.2 135 (w32 (5 + x10.1)).toNat)) fun M14 =>
some (Sum.inl (w32 (x10.1 + 1), M14)))
else
some (Sum.inr x10.2)) FU (0, x9)).bind fun x15 =>
(lp (X := Int × MM) (Y := MM) (fun x16 =>
if x16.1 < 5 then
(gd (0 ≤ x16.1 ∧ x16.1 < (10 : Int)) <|
gd (0 ≤ x16.1 ∧ x16.1 < (10 : Int)) <|
bM (upM x16.2 118 (x16.1).toNat (x16.2 136 (x16.1).toNat)) fun M20 =>
gd (0 ≤ w32 (5 + x16.1) ∧ w32 (5 + x16.1) < (10 : Int)) <|
gd (0 ≤ x16.1 ∧ x16.1 < (10 : Int)) <|
bM (upM M20 119 (x16.1).toNat (M20 136 (w32 (5 + x16.1)).toNat)) fun M23 =>
some (Sum.inl (w32 (x16.1 + 1), M23)))
else
some (Sum.inr x16.2)) FU (0, x15)).bind fun x24 =>
(lp (X := Int × MM) (Y := MM) (fun x25 =>
if x25.1 < 24 then
(gd (0 ≤ x25.1 ∧ x25.1 < (48 : Int)) <|
gd (0 ≤ x25.1 ∧ x25.1 < (24 : Int)) <|
bM (upM x25.2 128 (x25.1).toNat (x25.2 137 (x25.1).toNat)) fun M29 =>
gd (0 ≤ w32 (24 + x25.1) ∧ w32 (24 + x25.1) < (48 : Int)) <|
gd (0 ≤ x25.1 ∧ x25.1 < (24 : Int)) <|
bM (upM M29 129 (x25.1).toNat (M29 137 (w32 (24 + x25.1)).toNat)) fun M32 =>
some (Sum.inl (w32 (x25.1 + 1), M32)))
else
some (Sum.inr x25.2)) FU (0, x24)).bind fun x33 =>
bM (upM x33 124 0 (x33 138 0)) fun M34 =>
bM (upM M34 125 0 (M34 138 1)) fun M35 =>
bM (upM M35 126 0 (M35 138 2)) fun M36 =>
bM (upM M36 127 0 (M36 138 3)) fun M37 =>
bM (upM M37 88 85 0) fun M38 =>
some (M38 127 0, M38)
set_option maxRecDepth 4000 in
theorem c_X12_back {E : EE} {sh : List (Nat × Nat)} {ex : Bool} {R : RM} {M : MM}  (hE : Ext sh) (hL : Links R) : ∀ y, f_X12_back M = some y → MetC E m_X12_back 0 0 [rV 88] (sh, ex, R, M) (fun r w' => r = some (iV y.1) ∧ w' = (sh, ex, R, y.2)) := by
  intro y hy
  refine MetC.seg (o := f_X12_back M) (t := (fun K y => K (some (iV y.1)) (sh, ex, R, y.2))) (L := [some (rV 88), none]) (by decide) rfl (Nat.le_of_ble_eq_true rfl) ?_ hy ⟨rfl, rfl⟩
  unfold f_X12_back
  refine Seg.step (pc' := 1) (I_aload_n (i := 0) dX12_back_0 rfl rfl) ?_
  refine Seg.step (pc' := 2) (I_iconst dX12_back_1 ⟨by decide, by decide⟩) ?_
  refine Seg.step (pc' := 5) (I_putI cls12 (by decide) wf_12_175 (hE _ _ sk_12) rfl rfl dX12_back_2) ?_
  refine S_bM fun M1 => ?_
  refine Seg.step (pc' := 6) (I_aload_n (i := 0) dX12_back_5 rfl rfl) ?_
  refine Seg.step (pc' := 9) (I_getZ cls12 (by decide) wf_12_394 (hE _ _ sk_12) rfl dX12_back_6) ?_
  refine S_if_ne (tgt := 14) dX12_back_9 (by decide) (fun h2 => ?_) (fun h2 => ?_)
  · refine Seg.step (pc' := 13) (I_iconst dX12_back_12 ⟨by decide, by decide⟩) ?_
    exact S_iret dX12_back_13 rfl (by decide) (by decide) (fun K hK => hK)
  refine Seg.step (pc' := 15) (I_aload_n (i := 0) dX12_back_14 rfl rfl) ?_
  refine Seg.step (pc' := 16) (I_aload_n (i := 0) dX12_back_15 rfl rfl) ?_
  refine Seg.step (pc' := 19) (I_getR cls12 (by decide) wf_12_154 (hE _ _ sk_12) rfl (lk_12_88 hL) dX12_back_16) ?_
  refine Seg.step (pc' := 20) (I_iconst dX12_back_19 ⟨by decide, by decide⟩) ?_
  refine S_callV2 (md' := m_X12_take) (fun y => none) (fun y => (sh, ex, R, y)) (hE _ _ sk_12) ⟨by decide, rfl⟩ mm_X12_take wm_12_563 ⟨rfl, rfl, by decide, by decide, by decide, by decide⟩ (Nat.le_of_ble_eq_true rfl) dX12_back_20 (fun y hy => c_X12_take hE hL sk_12_88 y hy) (fun x3 => ?_)
  refine Seg.step (pc' := 24) (I_iconst dX12_back_23 ⟨by decide, by decide⟩) ?_
  refine Seg.step (pc' := 25) (I_istore_n (i := 1) dX12_back_24 rfl (by decide) rfl) ?_
  refine Seg.forget (Lle.ye (Lle.ye (Lle.nil))) ?_
  refine S_bind (Y := MM) (k' := 0) (n' := 0) 48 (fun y => [some (rV 88), none]) (fun y => []) (fun y => (sh, ex, R, y)) (S_loop (Y := Int × MM) (fun y => [some (rV 88), some (iV y.1)]) (fun y => []) (fun y => (sh, ex, R, y.2)) (fun x4 => ?_) FU (0, x3)) (fun x9 => ?_)
  · refine Seg.step (pc' := 26) (I_iload_n (i := 1) dX12_back_25 rfl rfl) ?_
    refine Seg.step (pc' := 27) (I_iconst dX12_back_26 ⟨by decide, by decide⟩) ?_
    refine S_icmp_ge (tgt := 48) dX12_back_27 (by decide) (fun h5 => ?_) (fun h5 => ?_)
    · refine Seg.step (pc' := 31) (I_aload_n (i := 0) dX12_back_30 rfl rfl) ?_
      refine Seg.step (pc' := 34) (I_getR cls12 (by decide) wf_12_97 (hE _ _ sk_12) rfl (lk_12_54 hL) dX12_back_31) ?_
      refine Seg.step (pc' := 35) (I_iload_n (i := 1) dX12_back_34 rfl rfl) ?_
      refine Seg.step (pc' := 36) (I_aload_n (i := 0) dX12_back_35 rfl rfl) ?_
      refine Seg.step (pc' := 39) (I_getR cls12 (by decide) wf_12_157 (hE _ _ sk_12) rfl (lk_12_89 hL) dX12_back_36) ?_
      refine Seg.step (pc' := 40) (I_iload_n (i := 1) dX12_back_39 rfl rfl) ?_
      refine S_gd fun h6 => ?_
      refine Seg.step (pc' := 41) (I_iald (hE _ _ sk_12_89) h6 dX12_back_40) ?_
      refine S_gd fun h7 => ?_
      refine Seg.step (pc' := 42) (I_iast (hE _ _ sk_12_54) h7 dX12_back_41) ?_
      refine S_bM fun M8 => ?_
      refine Seg.step (pc' := 45) (I_iinc dX12_back_42 rfl (by decide) rfl) ?_
      refine Seg.step (pc' := 25) (I_goto (tgt := 25) dX12_back_45 (by decide)) ?_
      exact S_arr (fun K hK => GG.forget (Lle.ye (Lle.ye (Lle.nil))) hK)
    exact S_arr (fun K hK => GG.forget (Lle.ye (Lle.no (Lle.nil))) hK)
  refine Seg.step (pc' := 49) (I_iconst dX12_back_48 ⟨by decide, by decide⟩) ?_
  refine Seg.step (pc' := 50) (I_istore_n (i := 1) dX12_back_49 rfl (by decide) rfl) ?_
  refine Seg.forget (Lle.ye (Lle.ye (Lle.nil))) ?_
  refine S_bind (Y := MM) (k' := 0) (n' := 0) 76 (fun y => [some (rV 88), none]) (fun y => []) (fun y => (sh, ex, R, y)) (S_loop (Y := Int × MM) (fun y => [some (rV 88), some (iV y.1)]) (fun y => []) (fun y => (sh, ex, R, y.2)) (fun x10 => ?_) FU (0, x9)) (fun x15 => ?_)
  · refine Seg.step (pc' := 51) (I_iload_n (i := 1) dX12_back_50 rfl rfl) ?_
    refine Seg.step (pc' := 53) (I_bipush dX12_back_51 (by decide) ⟨by decide, by decide⟩) ?_
    refine S_icmp_ge (tgt := 76) dX12_back_53 (by decide) (fun h11 => ?_) (fun h11 => ?_)
    · refine Seg.step (pc' := 57) (I_aload_n (i := 0) dX12_back_56 rfl rfl) ?_
      refine Seg.step (pc' := 60) (I_getR cls12 (by decide) wf_12_100 (hE _ _ sk_12) rfl (lk_12_55 hL) dX12_back_57) ?_
      refine Seg.step (pc' := 61) (I_iload_n (i := 1) dX12_back_60 rfl rfl) ?_
      refine Seg.step (pc' := 62) (I_aload_n (i := 0) dX12_back_61 rfl rfl) ?_
      refine Seg.step (pc' := 65) (I_getR cls12 (by decide) wf_12_157 (hE _ _ sk_12) rfl (lk_12_89 hL) dX12_back_62) ?_
      refine Seg.step (pc' := 66) (I_iconst dX12_back_65 ⟨by decide, by decide⟩) ?_
      refine Seg.step (pc' := 67) (I_iload_n (i := 1) dX12_back_66 rfl rfl) ?_
      refine Seg.step (pc' := 68) (I_iadd dX12_back_67) ?_
      refine S_gd fun h12 => ?_
      refine Seg.step (pc' := 69) (I_iald (hE _ _ sk_12_89) h12 dX12_back_68) ?_
      refine S_gd fun h13 => ?_
      refine Seg.step (pc' := 70) (I_iast (hE _ _ sk_12_55) h13 dX12_back_69) ?_
      refine S_bM fun M14 => ?_
      refine Seg.step (pc' := 73) (I_iinc dX12_back_70 rfl (by decide) rfl) ?_
      refine Seg.step (pc' := 50) (I_goto (tgt := 50) dX12_back_73 (by decide)) ?_
      exact S_arr (fun K hK => GG.forget (Lle.ye (Lle.ye (Lle.nil))) hK)
    exact S_arr (fun K hK => GG.forget (Lle.ye (Lle.no (Lle.nil))) hK)
  refine Seg.step (pc' := 77) (I_iconst dX12_back_76 ⟨by decide, by decide⟩) ?_
  refine Seg.step (pc' := 78) (I_istore_n (i := 1) dX12_back_77 rfl (by decide) rfl) ?_
  refine Seg.forget (Lle.ye (Lle.ye (Lle.nil))) ?_
  refine S_bind (Y := MM) (k' := 0) (n' := 0) 115 (fun y => [some (rV 88), none]) (fun y => []) (fun y => (sh, ex, R, y)) (S_loop (Y := Int × MM) (fun y => [some (rV 88), some (iV y.1)]) (fun y => []) (fun y => (sh, ex, R, y.2)) (fun x16 => ?_) FU (0, x15)) (fun x24 => ?_)
  · refine Seg.step (pc' := 79) (I_iload_n (i := 1) dX12_back_78 rfl rfl) ?_
    refine Seg.step (pc' := 80) (I_iconst dX12_back_79 ⟨by decide, by decide⟩) ?_
    refine S_icmp_ge (tgt := 115) dX12_back_80 (by decide) (fun h17 => ?_) (fun h17 => ?_)
    · refine Seg.step (pc' := 84) (I_aload_n (i := 0) dX12_back_83 rfl rfl) ?_
      refine Seg.step (pc' := 87) (I_getR cls12 (by decide) wf_12_103 (hE _ _ sk_12) rfl (lk_12_56 hL) dX12_back_84) ?_
      refine Seg.step (pc' := 88) (I_iload_n (i := 1) dX12_back_87 rfl rfl) ?_
      refine Seg.step (pc' := 89) (I_aload_n (i := 0) dX12_back_88 rfl rfl) ?_
      refine Seg.step (pc' := 92) (I_getR cls12 (by decide) wf_12_160 (hE _ _ sk_12) rfl (lk_12_90 hL) dX12_back_89) ?_
      refine Seg.step (pc' := 93) (I_iload_n (i := 1) dX12_back_92 rfl rfl) ?_
      refine S_gd fun h18 => ?_
      refine Seg.step (pc' := 94) (I_iald (hE _ _ sk_12_90) h18 dX12_back_93) ?_
      refine S_gd fun h19 => ?_
      refine Seg.step (pc' := 95) (I_iast (hE _ _ sk_12_56) h19 dX12_back_94) ?_
      refine S_bM fun M20 => ?_
      refine Seg.step (pc' := 96) (I_aload_n (i := 0) dX12_back_95 rfl rfl) ?_
      refine Seg.step (pc' := 99) (I_getR cls12 (by decide) wf_12_106 (hE _ _ sk_12) rfl (lk_12_57 hL) dX12_back_96) ?_
      refine Seg.step (pc' := 100) (I_iload_n (i := 1) dX12_back_99 rfl rfl) ?_
      refine Seg.step (pc' := 101) (I_aload_n (i := 0) dX12_back_100 rfl rfl) ?_
      refine Seg.step (pc' := 104) (I_getR cls12 (by decide) wf_12_160 (hE _ _ sk_12) rfl (lk_12_90 hL) dX12_back_101) ?_
      refine Seg.step (pc' := 105) (I_iconst dX12_back_104 ⟨by decide, by decide⟩) ?_
      refine Seg.step (pc' := 106) (I_iload_n (i := 1) dX12_back_105 rfl rfl) ?_
      refine Seg.step (pc' := 107) (I_iadd dX12_back_106) ?_
      refine S_gd fun h21 => ?_
      refine Seg.step (pc' := 108) (I_iald (hE _ _ sk_12_90) h21 dX12_back_107) ?_
      refine S_gd fun h22 => ?_
      refine Seg.step (pc' := 109) (I_iast (hE _ _ sk_12_57) h22 dX12_back_108) ?_
      refine S_bM fun M23 => ?_
      refine Seg.step (pc' := 112) (I_iinc dX12_back_109 rfl (by decide) rfl) ?_
      refine Seg.step (pc' := 78) (I_goto (tgt := 78) dX12_back_112 (by decide)) ?_
      exact S_arr (fun K hK => GG.forget (Lle.ye (Lle.ye (Lle.nil))) hK)
    exact S_arr (fun K hK => GG.forget (Lle.ye (Lle.no (Lle.nil))) hK)
  refine Seg.step (pc' := 116) (I_iconst dX12_back_115 ⟨by decide, by decide⟩) ?_
  refine Seg.step (pc' := 117) (I_istore_n (i := 1) dX12_back_116 rfl (by decide) rfl) ?_
  refine Seg.forget (Lle.ye (Lle.ye (Lle.nil))) ?_
  refine S_bind (Y := MM) (k' := 0) (n' := 0) 156 (fun y => [some (rV 88), none]) (fun y => []) (fun y => (sh, ex, R, y)) (S_loop (Y := Int × MM) (fun y => [some (rV 88), some (iV y.1)]) (fun y => []) (fun y => (sh, ex, R, y.2)) (fun x25 => ?_) FU (0, x24)) (fun x33 => ?_)
  · refine Seg.step (pc' := 118) (I_iload_n (i := 1) dX12_back_117 rfl rfl) ?_
    refine Seg.step (pc' := 120) (I_bipush dX12_back_118 (by decide) ⟨by decide, by decide⟩) ?_
    refine S_icmp_ge (tgt := 156) dX12_back_120 (by decide) (fun h26 => ?_) (fun h26 => ?_)
    · refine Seg.step (pc' := 124) (I_aload_n (i := 0) dX12_back_123 rfl rfl) ?_
      refine Seg.step (pc' := 127) (I_getR cls12 (by decide) wf_12_133 (hE _ _ sk_12) rfl (lk_12_66 hL) dX12_back_124) ?_
      refine Seg.step (pc' := 128) (I_iload_n (i := 1) dX12_back_127 rfl rfl) ?_
      refine Seg.step (pc' := 129) (I_aload_n (i := 0) dX12_back_128 rfl rfl) ?_
      refine Seg.step (pc' := 132) (I_getR cls12 (by decide) wf_12_163 (hE _ _ sk_12) rfl (lk_12_91 hL) dX12_back_129) ?_
      refine Seg.step (pc' := 133) (I_iload_n (i := 1) dX12_back_132 rfl rfl) ?_
      refine S_gd fun h27 => ?_
      refine Seg.step (pc' := 134) (I_iald (hE _ _ sk_12_91) h27 dX12_back_133) ?_
      refine S_gd fun h28 => ?_
      refine Seg.step (pc' := 135) (I_iast (hE _ _ sk_12_66) h28 dX12_back_134) ?_
      refine S_bM fun M29 => ?_
      refine Seg.step (pc' := 136) (I_aload_n (i := 0) dX12_back_135 rfl rfl) ?_
      refine Seg.step (pc' := 139) (I_getR cls12 (by decide) wf_12_136 (hE _ _ sk_12) rfl (lk_12_67 hL) dX12_back_136) ?_
      refine Seg.step (pc' := 140) (I_iload_n (i := 1) dX12_back_139 rfl rfl) ?_
      refine Seg.step (pc' := 141) (I_aload_n (i := 0) dX12_back_140 rfl rfl) ?_
      refine Seg.step (pc' := 144) (I_getR cls12 (by decide) wf_12_163 (hE _ _ sk_12) rfl (lk_12_91 hL) dX12_back_141) ?_
      refine Seg.step (pc' := 146) (I_bipush dX12_back_144 (by decide) ⟨by decide, by decide⟩) ?_
      refine Seg.step (pc' := 147) (I_iload_n (i := 1) dX12_back_146 rfl rfl) ?_
      refine Seg.step (pc' := 148) (I_iadd dX12_back_147) ?_
      refine S_gd fun h30 => ?_
      refine Seg.step (pc' := 149) (I_iald (hE _ _ sk_12_91) h30 dX12_back_148) ?_
      refine S_gd fun h31 => ?_
      refine Seg.step (pc' := 150) (I_iast (hE _ _ sk_12_67) h31 dX12_back_149) ?_
      refine S_bM fun M32 => ?_
      refine Seg.step (pc' := 153) (I_iinc dX12_back_150 rfl (by decide) rfl) ?_
      refine Seg.step (pc' := 117) (I_goto (tgt := 117) dX12_back_153 (by decide)) ?_
      exact S_arr (fun K hK => GG.forget (Lle.ye (Lle.ye (Lle.nil))) hK)
    exact S_arr (fun K hK => GG.forget (Lle.ye (Lle.no (Lle.nil))) hK)
  refine Seg.step (pc' := 157) (I_aload_n (i := 0) dX12_back_156 rfl rfl) ?_
  refine Seg.step (pc' := 160) (I_getR cls12 (by decide) wf_12_121 (hE _ _ sk_12) rfl (lk_12_62 hL) dX12_back_157) ?_
  refine Seg.step (pc' := 161) (I_iconst dX12_back_160 ⟨by decide, by decide⟩) ?_
  refine Seg.step (pc' := 162) (I_aload_n (i := 0) dX12_back_161 rfl rfl) ?_
  refine Seg.step (pc' := 165) (I_getR cls12 (by decide) wf_12_166 (hE _ _ sk_12) rfl (lk_12_92 hL) dX12_back_162) ?_
  refine Seg.step (pc' := 166) (I_iconst dX12_back_165 ⟨by decide, by decide⟩) ?_
  refine Seg.step (pc' := 167) (I_iald (hE _ _ sk_12_92) ⟨by decide, by decide⟩ dX12_back_166) ?_
  refine Seg.step (pc' := 168) (I_iast (hE _ _ sk_12_62) ⟨by decide, by decide⟩ dX12_back_167) ?_
  refine S_bM fun M34 => ?_
  refine Seg.step (pc' := 169) (I_aload_n (i := 0) dX12_back_168 rfl rfl) ?_
  refine Seg.step (pc' := 172) (I_getR cls12 (by decide) wf_12_124 (hE _ _ sk_12) rfl (lk_12_63 hL) dX12_back_169) ?_
  refine Seg.step (pc' := 173) (I_iconst dX12_back_172 ⟨by decide, by decide⟩) ?_
  refine Seg.step (pc' := 174) (I_aload_n (i := 0) dX12_back_173 rfl rfl) ?_
  refine Seg.step (pc' := 177) (I_getR cls12 (by decide) wf_12_166 (hE _ _ sk_12) rfl (lk_12_92 hL) dX12_back_174) ?_
  refine Seg.step (pc' := 178) (I_iconst dX12_back_177 ⟨by decide, by decide⟩) ?_
  refine Seg.step (pc' := 179) (I_iald (hE _ _ sk_12_92) ⟨by decide, by decide⟩ dX12_back_178) ?_
  refine Seg.step (pc' := 180) (I_iast (hE _ _ sk_12_63) ⟨by decide, by decide⟩ dX12_back_179) ?_
  refine S_bM fun M35 => ?_
  refine Seg.step (pc' := 181) (I_aload_n (i := 0) dX12_back_180 rfl rfl) ?_
  refine Seg.step (pc' := 184) (I_getR cls12 (by decide) wf_12_127 (hE _ _ sk_12) rfl (lk_12_64 hL) dX12_back_181) ?_
  refine Seg.step (pc' := 185) (I_iconst dX12_back_184 ⟨by decide, by decide⟩) ?_
  refine Seg.step (pc' := 186) (I_aload_n (i := 0) dX12_back_185 rfl rfl) ?_
  refine Seg.step (pc' := 189) (I_getR cls12 (by decide) wf_12_166 (hE _ _ sk_12) rfl (lk_12_92 hL) dX12_back_186) ?_
  refine Seg.step (pc' := 190) (I_iconst dX12_back_189 ⟨by decide, by decide⟩) ?_
  refine Seg.step (pc' := 191) (I_iald (hE _ _ sk_12_92) ⟨by decide, by decide⟩ dX12_back_190) ?_
  refine Seg.step (pc' := 192) (I_iast (hE _ _ sk_12_64) ⟨by decide, by decide⟩ dX12_back_191) ?_
  refine S_bM fun M36 => ?_
  refine Seg.step (pc' := 193) (I_aload_n (i := 0) dX12_back_192 rfl rfl) ?_
  refine Seg.step (pc' := 196) (I_getR cls12 (by decide) wf_12_130 (hE _ _ sk_12) rfl (lk_12_65 hL) dX12_back_193) ?_
  refine Seg.step (pc' := 197) (I_iconst dX12_back_196 ⟨by decide, by decide⟩) ?_
  refine Seg.step (pc' := 198) (I_aload_n (i := 0) dX12_back_197 rfl rfl) ?_
  refine Seg.step (pc' := 201) (I_getR cls12 (by decide) wf_12_166 (hE _ _ sk_12) rfl (lk_12_92 hL) dX12_back_198) ?_
  refine Seg.step (pc' := 202) (I_iconst dX12_back_201 ⟨by decide, by decide⟩) ?_
  refine Seg.step (pc' := 203) (I_iald (hE _ _ sk_12_92) ⟨by decide, by decide⟩ dX12_back_202) ?_
  refine Seg.step (pc' := 204) (I_iast (hE _ _ sk_12_65) ⟨by decide, by decide⟩ dX12_back_203) ?_
  refine S_bM fun M37 => ?_
  refine Seg.step (pc' := 205) (I_aload_n (i := 0) dX12_back_204 rfl rfl) ?_
  refine Seg.step (pc' := 206) (I_iconst dX12_back_205 ⟨by decide, by decide⟩) ?_
  refine Seg.step (pc' := 209) (I_putI cls12 (by decide) wf_12_391 (hE _ _ sk_12) rfl rfl dX12_back_206) ?_
  refine S_bM fun M38 => ?_
  refine Seg.step (pc' := 210) (I_aload_n (i := 0) dX12_back_209 rfl rfl) ?_
  refine Seg.step (pc' := 213) (I_getR cls12 (by decide) wf_12_130 (hE _ _ sk_12) rfl (lk_12_65 hL) dX12_back_210) ?_
  refine Seg.step (pc' := 214) (I_iconst dX12_back_213 ⟨by decide, by decide⟩) ?_
  refine Seg.step (pc' := 215) (I_iald (hE _ _ sk_12_65) ⟨by decide, by decide⟩ dX12_back_214) ?_
  exact S_iret dX12_back_215 rfl (by decide) (by decide) (fun K hK => hK)
theorem dX12_count_0 : decode cX12_count 0 = .ok (.aload_n 0, 1) := by decide +kernel
theorem dX12_count_1 : decode cX12_count 1 = .ok (.iconst 0, 1) := by decide +kernel
theorem dX12_count_2 : decode cX12_count 2 = .ok (.putfield 175, 3) := by decide +kernel
theorem dX12_count_5 : decode cX12_count 5 = .ok (.aload_n 0, 1) := by decide +kernel
theorem dX12_count_6 : decode cX12_count 6 = .ok (.invokevirtual 385, 3) := by decide +kernel
theorem dX12_count_9 : decode cX12_count 9 = .ok (.iconst 0, 1) := by decide +kernel
theorem dX12_count_10 : decode cX12_count 10 = .ok (.istore_n 2, 1) := by decide +kernel
theorem dX12_count_11 : decode cX12_count 11 = .ok (.iload_n 1, 1) := by decide +kernel
theorem dX12_count_12 : decode cX12_count 12 = .ok (.tableswitch 215 0 14 #[76, 81, 86, 91, 98, 105, 123, 138, 152, 159, 166, 173, 200, 205, 210], 76) := by decide +kernel
theorem dX12_count_88 : decode cX12_count 88 = .ok (.aload_n 0, 1) := by decide +kernel
theorem dX12_count_89 : decode cX12_count 89 = .ok (.getfield 255, 3) := by decide +kernel
theorem dX12_count_92 : decode cX12_count 92 = .ok (.ireturn, 1) := by decide +kernel
theorem dX12_count_93 : decode cX12_count 93 = .ok (.aload_n 0, 1) := by decide +kernel
theorem dX12_count_94 : decode cX12_count 94 = .ok (.getfield 258, 3) := by decide +kernel
theorem dX12_count_97 : decode cX12_count 97 = .ok (.ireturn, 1) := by decide +kernel
theorem dX12_count_98 : decode cX12_count 98 = .ok (.aload_n 0, 1) := by decide +kernel
theorem dX12_count_99 : decode cX12_count 99 = .ok (.getfield 267, 3) := by decide +kernel
theorem dX12_count_102 : decode cX12_count 102 = .ok (.ireturn, 1) := by decide +kernel
theorem dX12_count_103 : decode cX12_count 103 = .ok (.aload_n 0, 1) := by decide +kernel
theorem dX12_count_104 : decode cX12_count 104 = .ok (.getfield 130, 3) := by decide +kernel
theorem dX12_count_107 : decode cX12_count 107 = .ok (.iconst 0, 1) := by decide +kernel
theorem dX12_count_108 : decode cX12_count 108 = .ok (.iaload, 1) := by decide +kernel
theorem dX12_count_109 : decode cX12_count 109 = .ok (.ireturn, 1) := by decide +kernel
theorem dX12_count_110 : decode cX12_count 110 = .ok (.aload_n 0, 1) := by decide +kernel
theorem dX12_count_111 : decode cX12_count 111 = .ok (.getfield 112, 3) := by decide +kernel
theorem dX12_count_114 : decode cX12_count 114 = .ok (.iconst 0, 1) := by decide +kernel
theorem dX12_count_115 : decode cX12_count 115 = .ok (.iaload, 1) := by decide +kernel
theorem dX12_count_116 : decode cX12_count 116 = .ok (.ireturn, 1) := by decide +kernel
theorem dX12_count_117 : decode cX12_count 117 = .ok (.aload_n 0, 1) := by decide +kernel
theorem dX12_count_118 : decode cX12_count 118 = .ok (.getfield 255, 3) := by decide +kernel
theorem dX12_count_121 : decode cX12_count 121 = .ok (.ifCond .ne 7, 3) := by decide +kernel
theorem dX12_count_124 : decode cX12_count 124 = .ok (.iconst (-1), 1) := by decide +kernel
theorem dX12_count_125 : decode cX12_count 125 = .ok (.goto 9, 3) := by decide +kernel
theorem dX12_count_128 : decode cX12_count 128 = .ok (.aload_n 0, 1) := by decide +kernel
theorem dX12_count_129 : decode cX12_count 129 = .ok (.getfield 115, 3) := by decide +kernel
theorem dX12_count_132 : decode cX12_count 132 = .ok (.iconst 0, 1) := by decide +kernel
theorem dX12_count_133 : decode cX12_count 133 = .ok (.iaload, 1) := by decide +kernel
theorem dX12_count_134 : decode cX12_count 134 = .ok (.ireturn, 1) := by decide +kernel
theorem dX12_count_135 : decode cX12_count 135 = .ok (.aload_n 0, 1) := by decide +kernel
theorem dX12_count_136 : decode cX12_count 136 = .ok (.getfield 118, 3) := by decide +kernel
theorem dX12_count_139 : decode cX12_count 139 = .ok (.iconst 0, 1) := by decide +kernel
theorem dX12_count_140 : decode cX12_count 140 = .ok (.baload, 1) := by decide +kernel
theorem dX12_count_141 : decode cX12_count 141 = .ok (.ifCond .eq 7, 3) := by decide +kernel
theorem dX12_count_144 : decode cX12_count 144 = .ok (.iconst 1, 1) := by decide +kernel
theorem dX12_count_145 : decode cX12_count 145 = .ok (.goto 4, 3) := by decide +kernel
theorem dX12_count_148 : decode cX12_count 148 = .ok (.iconst 0, 1) := by decide +kernel
theorem dX12_count_149 : decode cX12_count 149 = .ok (.ireturn, 1) := by decide +kernel
theorem dX12_count_150 : decode cX12_count 150 = .ok (.aload_n 0, 1) := by decide +kernel
theorem dX12_count_151 : decode cX12_count 151 = .ok (.iconst 0, 1) := by decide +kernel
theorem dX12_count_152 : decode cX12_count 152 = .ok (.invokevirtual 461, 3) := by decide +kernel
theorem dX12_count_155 : decode cX12_count 155 = .ok (.ifCond .eq 7, 3) := by decide +kernel
theorem dX12_count_158 : decode cX12_count 158 = .ok (.iconst 1, 1) := by decide +kernel
theorem dX12_count_159 : decode cX12_count 159 = .ok (.goto 4, 3) := by decide +kernel
theorem dX12_count_162 : decode cX12_count 162 = .ok (.iconst 0, 1) := by decide +kernel
theorem dX12_count_163 : decode cX12_count 163 = .ok (.ireturn, 1) := by decide +kernel
theorem dX12_count_164 : decode cX12_count 164 = .ok (.aload_n 0, 1) := by decide +kernel
theorem dX12_count_165 : decode cX12_count 165 = .ok (.getfield 121, 3) := by decide +kernel
theorem dX12_count_168 : decode cX12_count 168 = .ok (.iconst 0, 1) := by decide +kernel
theorem dX12_count_169 : decode cX12_count 169 = .ok (.iaload, 1) := by decide +kernel
theorem dX12_count_170 : decode cX12_count 170 = .ok (.ireturn, 1) := by decide +kernel
theorem dX12_count_171 : decode cX12_count 171 = .ok (.aload_n 0, 1) := by decide +kernel
theorem dX12_count_172 : decode cX12_count 172 = .ok (.getfield 124, 3) := by decide +kernel
theorem dX12_count_175 : decode cX12_count 175 = .ok (.iconst 0, 1) := by decide +kernel
theorem dX12_count_176 : decode cX12_count 176 = .ok (.iaload, 1) := by decide +kernel
theorem dX12_count_177 : decode cX12_count 177 = .ok (.ireturn, 1) := by decide +kernel
theorem dX12_count_178 : decode cX12_count 178 = .ok (.aload_n 0, 1) := by decide +kernel
theorem dX12_count_179 : decode cX12_count 179 = .ok (.getfield 127, 3) := by decide +kernel
theorem dX12_count_182 : decode cX12_count 182 = .ok (.iconst 0, 1) := by decide +kernel
theorem dX12_count_183 : decode cX12_count 183 = .ok (.iaload, 1) := by decide +kernel
theorem dX12_count_184 : decode cX12_count 184 = .ok (.ireturn, 1) := by decide +kernel
theorem dX12_count_185 : decode cX12_count 185 = .ok (.iconst 0, 1) := by decide +kernel
theorem dX12_count_186 : decode cX12_count 186 = .ok (.istore_n 3, 1) := by decide +kernel
theorem dX12_count_187 : decode cX12_count 187 = .ok (.iload_n 3, 1) := by decide +kernel
theorem dX12_count_188 : decode cX12_count 188 = .ok (.aload_n 0, 1) := by decide +kernel
theorem dX12_count_189 : decode cX12_count 189 = .ok (.getfield 258, 3) := by decide +kernel
theorem dX12_count_192 : decode cX12_count 192 = .ok (.if_icmp .ge 18, 3) := by decide +kernel
theorem dX12_count_195 : decode cX12_count 195 = .ok (.iload_n 2, 1) := by decide +kernel
theorem dX12_count_196 : decode cX12_count 196 = .ok (.aload_n 0, 1) := by decide +kernel
theorem dX12_count_197 : decode cX12_count 197 = .ok (.getfield 103, 3) := by decide +kernel
theorem dX12_count_200 : decode cX12_count 200 = .ok (.iload_n 3, 1) := by decide +kernel
theorem dX12_count_201 : decode cX12_count 201 = .ok (.iaload, 1) := by decide +kernel
theorem dX12_count_202 : decode cX12_count 202 = .ok (.iadd, 1) := by decide +kernel
theorem dX12_count_203 : decode cX12_count 203 = .ok (.istore_n 2, 1) := by decide +kernel
theorem dX12_count_204 : decode cX12_count 204 = .ok (.iinc 3 1, 3) := by decide +kernel
theorem dX12_count_207 : decode cX12_count 207 = .ok (.goto (-20), 3) := by decide +kernel
theorem dX12_count_210 : decode cX12_count 210 = .ok (.iload_n 2, 1) := by decide +kernel
theorem dX12_count_211 : decode cX12_count 211 = .ok (.ireturn, 1) := by decide +kernel
theorem dX12_count_212 : decode cX12_count 212 = .ok (.aload_n 0, 1) := by decide +kernel
theorem dX12_count_213 : decode cX12_count 213 = .ok (.getfield 388, 3) := by decide +kernel
theorem dX12_count_216 : decode cX12_count 216 = .ok (.ireturn, 1) := by decide +kernel
theorem dX12_count_217 : decode cX12_count 217 = .ok (.aload_n 0, 1) := by decide +kernel
theorem dX12_count_218 : decode cX12_count 218 = .ok (.invokevirtual 536, 3) := by decide +kernel
theorem dX12_count_221 : decode cX12_count 221 = .ok (.ireturn, 1) := by decide +kernel
theorem dX12_count_222 : decode cX12_count 222 = .ok (.aload_n 0, 1) := by decide +kernel
theorem dX12_count_223 : decode cX12_count 223 = .ok (.getfield 391, 3) := by decide +kernel
theorem dX12_count_226 : decode cX12_count 226 = .ok (.ireturn, 1) := by decide +kernel
theorem dX12_count_227 : decode cX12_count 227 = .ok (.iconst (-1), 1) := by decide +kernel
theorem dX12_count_228 : decode cX12_count 228 = .ok (.ireturn, 1) := by decide +kernel
def f_X12_count (M : MM) (p1 : Int) : Option (Int × MM) :=
bM (upM M 88 2 0) fun M1 =>
(f_X12_plainTried M1).bind fun x2 =>
if p1 = 0 then
(some (x2 88 12, x2))
else
if p1 = 1 then
(some (x2 88 13, x2))
else
if p1 = 2 then
(some (x2 88 16, x2))
else
if p1 = 3 then
(some (x2 127 0, x2))
else
if p1 = 4 then
(some (x2 121 0, x2))
else
if p1 = 5 then
(if (x2 88 12) = 0 then
(some ((-1), x2))
else
some (x2 122 0, x2))
else
if p1 = 6 then
(if (x2 123 0) = 0 then
(some (0, x2))
else
some (1, x2))
else
if p1 = 7 then
((f_X12_isOn x2 0).bind fun x13 =>
if x13 = 0 then
(some (0, x2))
else
some (1, x2))
else
if p1 = 8 then
(some (x2 124 0, x2))
else
if p1 = 9 then
(some (x2 125 0, x2))
else
if p1 = 10 then
(some (x2 126 0, x2))
else
if p1 = 11 then
(lp (X := Int × Int) (Y := Int × MM) (fun x19 =>
if x19.2 < (x2 88 13) then
(gd (0 ≤ x19.2 ∧ x19.2 < (10 : Int)) <|
bI (w32 (x19.1 + (x2 118 (x19.2).toNat))) fun x22 =>
some (Sum.inl (x22, w32 (x19.2 + 1))))
else
some (Sum.inr (x19.1, x2))) FU (0, 0))
else
if p1 = 12 then
(some (x2 88 80, x2))
else
if p1 = 13 then
((f_X12_knownBy x2).bind fun x25 =>
some (x25, x2))
else
if p1 = 14 then
(some (x2 88 85, x2))
else
some ((-1), x2)
set_option maxRecDepth 4000 in
theorem c_X12_count {E : EE} {sh : List (Nat × Nat)} {ex : Bool} {R : RM} {M : MM} {p1 : Int} (hE : Ext sh) (hL : Links R) : ∀ y, f_X12_count M p1 = some y → MetC E m_X12_count 0 0 [rV 88, iV p1] (sh, ex, R, M) (fun r w' => r = some (iV y.1) ∧ w' = (sh, ex, R, y.2)) := by
  intro y hy
  refine MetC.seg (o := f_X12_count M p1) (t := (fun K y => K (some (iV y.1)) (sh, ex, R, y.2))) (L := [some (rV 88), some (iV p1), none, none]) (by decide) rfl (Nat.le_of_ble_eq_true rfl) ?_ hy ⟨rfl, rfl⟩
  unfold f_X12_count
  refine Seg.step (pc' := 1) (I_aload_n (i := 0) dX12_count_0 rfl rfl) ?_
  refine Seg.step (pc' := 2) (I_iconst dX12_count_1 ⟨by decide, by decide⟩) ?_
  refine Seg.step (pc' := 5) (I_putI cls12 (by decide) wf_12_175 (hE _ _ sk_12) rfl rfl dX12_count_2) ?_
  refine S_bM fun M1 => ?_
  refine Seg.step (pc' := 6) (I_aload_n (i := 0) dX12_count_5 rfl rfl) ?_
  refine S_callV0 (md' := m_X12_plainTried) (fun y => none) (fun y => (sh, ex, R, y)) (hE _ _ sk_12) ⟨by decide, rfl⟩ mm_X12_plainTried wm_12_385 ⟨rfl, rfl, by decide, by decide, by decide, by decide⟩ (Nat.le_of_ble_eq_true rfl) dX12_count_6 (fun y hy => c_X12_plainTried hE hL y hy) (fun x2 => ?_)
  refine Seg.step (pc' := 10) (I_iconst dX12_count_9 ⟨by decide, by decide⟩) ?_
  refine Seg.step (pc' := 11) (I_istore_n (i := 2) dX12_count_10 rfl (by decide) rfl) ?_
  refine Seg.step (pc' := 12) (I_iload_n (i := 1) dX12_count_11 rfl rfl) ?_
  refine S_ite (fun h3 => ?_) (fun h3 => ?_)
  · refine Seg.step (I_tsw (v := 0) (off := 76) (tgt := 88) dX12_count_12 h3 (by decide) rfl (by decide)) ?_
    refine Seg.step (pc' := 89) (I_aload_n (i := 0) dX12_count_88 rfl rfl) ?_
    refine Seg.step (pc' := 92) (I_getI cls12 (by decide) wf_12_255 (hE _ _ sk_12) rfl dX12_count_89) ?_
    exact S_iret dX12_count_92 rfl (by decide) (by decide) (fun K hK => hK)
  refine S_ite (fun h4 => ?_) (fun h4 => ?_)
  · refine Seg.step (I_tsw (v := 1) (off := 81) (tgt := 93) dX12_count_12 h4 (by decide) rfl (by decide)) ?_
    refine Seg.step (pc' := 94) (I_aload_n (i := 0) dX12_count_93 rfl rfl) ?_
    refine Seg.step (pc' := 97) (I_getI cls12 (by decide) wf_12_258 (hE _ _ sk_12) rfl dX12_count_94) ?_
    exact S_iret dX12_count_97 rfl (by decide) (by decide) (fun K hK => hK)
  refine S_ite (fun h5 => ?_) (fun h5 => ?_)
  · refine Seg.step (I_tsw (v := 2) (off := 86) (tgt := 98) dX12_count_12 h5 (by decide) rfl (by decide)) ?_
    refine Seg.step (pc' := 99) (I_aload_n (i := 0) dX12_count_98 rfl rfl) ?_
    refine Seg.step (pc' := 102) (I_getI cls12 (by decide) wf_12_267 (hE _ _ sk_12) rfl dX12_count_99) ?_
    exact S_iret dX12_count_102 rfl (by decide) (by decide) (fun K hK => hK)
  refine S_ite (fun h6 => ?_) (fun h6 => ?_)
  · refine Seg.step (I_tsw (v := 3) (off := 91) (tgt := 103) dX12_count_12 h6 (by decide) rfl (by decide)) ?_
    refine Seg.step (pc' := 104) (I_aload_n (i := 0) dX12_count_103 rfl rfl) ?_
    refine Seg.step (pc' := 107) (I_getR cls12 (by decide) wf_12_130 (hE _ _ sk_12) rfl (lk_12_65 hL) dX12_count_104) ?_
    refine Seg.step (pc' := 108) (I_iconst dX12_count_107 ⟨by decide, by decide⟩) ?_
    refine Seg.step (pc' := 109) (I_iald (hE _ _ sk_12_65) ⟨by decide, by decide⟩ dX12_count_108) ?_
    exact S_iret dX12_count_109 rfl (by decide) (by decide) (fun K hK => hK)
  refine S_ite (fun h7 => ?_) (fun h7 => ?_)
  · refine Seg.step (I_tsw (v := 4) (off := 98) (tgt := 110) dX12_count_12 h7 (by decide) rfl (by decide)) ?_
    refine Seg.step (pc' := 111) (I_aload_n (i := 0) dX12_count_110 rfl rfl) ?_
    refine Seg.step (pc' := 114) (I_getR cls12 (by decide) wf_12_112 (hE _ _ sk_12) rfl (lk_12_59 hL) dX12_count_111) ?_
    refine Seg.step (pc' := 115) (I_iconst dX12_count_114 ⟨by decide, by decide⟩) ?_
    refine Seg.step (pc' := 116) (I_iald (hE _ _ sk_12_59) ⟨by decide, by decide⟩ dX12_count_115) ?_
    exact S_iret dX12_count_116 rfl (by decide) (by decide) (fun K hK => hK)
  refine S_ite (fun h8 => ?_) (fun h8 => ?_)
  · refine Seg.step (I_tsw (v := 5) (off := 105) (tgt := 117) dX12_count_12 h8 (by decide) rfl (by decide)) ?_
    refine Seg.step (pc' := 118) (I_aload_n (i := 0) dX12_count_117 rfl rfl) ?_
    refine Seg.step (pc' := 121) (I_getI cls12 (by decide) wf_12_255 (hE _ _ sk_12) rfl dX12_count_118) ?_
    refine S_if_ne (tgt := 128) dX12_count_121 (by decide) (fun h9 => ?_) (fun h9 => ?_)
    · refine Seg.step (pc' := 125) (I_iconst dX12_count_124 ⟨by decide, by decide⟩) ?_
      refine Seg.step (pc' := 134) (I_goto (tgt := 134) dX12_count_125 (by decide)) ?_
      exact S_iret dX12_count_134 rfl (by decide) (by decide) (fun K hK => hK)
    refine Seg.step (pc' := 129) (I_aload_n (i := 0) dX12_count_128 rfl rfl) ?_
    refine Seg.step (pc' := 132) (I_getR cls12 (by decide) wf_12_115 (hE _ _ sk_12) rfl (lk_12_60 hL) dX12_count_129) ?_
    refine Seg.step (pc' := 133) (I_iconst dX12_count_132 ⟨by decide, by decide⟩) ?_
    refine Seg.step (pc' := 134) (I_iald (hE _ _ sk_12_60) ⟨by decide, by decide⟩ dX12_count_133) ?_
    exact S_iret dX12_count_134 rfl (by decide) (by decide) (fun K hK => hK)
  refine S_ite (fun h10 => ?_) (fun h10 => ?_)
  · refine Seg.step (I_tsw (v := 6) (off := 123) (tgt := 135) dX12_count_12 h10 (by decide) rfl (by decide)) ?_
    refine Seg.step (pc' := 136) (I_aload_n (i := 0) dX12_count_135 rfl rfl) ?_
    refine Seg.step (pc' := 139) (I_getR cls12 (by decide) wf_12_118 (hE _ _ sk_12) rfl (lk_12_61 hL) dX12_count_136) ?_
    refine Seg.step (pc' := 140) (I_iconst dX12_count_139 ⟨by decide, by decide⟩) ?_
    refine Seg.step (pc' := 141) (I_zald (hE _ _ sk_12_61) ⟨by decide, by decide⟩ dX12_count_140) ?_
    refine S_if_eq (tgt := 148) dX12_count_141 (by decide) (fun h11 => ?_) (fun h11 => ?_)
    · refine Seg.step (pc' := 149) (I_iconst dX12_count_148 ⟨by decide, by decide⟩) ?_
      exact S_iret dX12_count_149 rfl (by decide) (by decide) (fun K hK => hK)
    refine Seg.step (pc' := 145) (I_iconst dX12_count_144 ⟨by decide, by decide⟩) ?_
    refine Seg.step (pc' := 149) (I_goto (tgt := 149) dX12_count_145 (by decide)) ?_
    exact S_iret dX12_count_149 rfl (by decide) (by decide) (fun K hK => hK)
  refine S_ite (fun h12 => ?_) (fun h12 => ?_)
  · refine Seg.step (I_tsw (v := 7) (off := 138) (tgt := 150) dX12_count_12 h12 (by decide) rfl (by decide)) ?_
    refine Seg.step (pc' := 151) (I_aload_n (i := 0) dX12_count_150 rfl rfl) ?_
    refine Seg.step (pc' := 152) (I_iconst dX12_count_151 ⟨by decide, by decide⟩) ?_
    refine S_callV1 (md' := m_X12_isOn) (fun y => some (iV y)) (fun y => (sh, ex, R, x2)) (hE _ _ sk_12) ⟨by decide, rfl⟩ mm_X12_isOn wm_12_461 ⟨rfl, rfl, by decide, by decide, by decide, by decide⟩ (Nat.le_of_ble_eq_true rfl) dX12_count_152 (fun y hy => c_X12_isOn hE hL y hy) (fun x13 => ?_)
    refine S_if_eq (tgt := 162) dX12_count_155 (by decide) (fun h14 => ?_) (fun h14 => ?_)
    · refine Seg.step (pc' := 163) (I_iconst dX12_count_162 ⟨by decide, by decide⟩) ?_
      exact S_iret dX12_count_163 rfl (by decide) (by decide) (fun K hK => hK)
    refine Seg.step (pc' := 159) (I_iconst dX12_count_158 ⟨by decide, by decide⟩) ?_
    refine Seg.step (pc' := 163) (I_goto (tgt := 163) dX12_count_159 (by decide)) ?_
    exact S_iret dX12_count_163 rfl (by decide) (by decide) (fun K hK => hK)
  refine S_ite (fun h15 => ?_) (fun h15 => ?_)
  · refine Seg.step (I_tsw (v := 8) (off := 152) (tgt := 164) dX12_count_12 h15 (by decide) rfl (by decide)) ?_
    refine Seg.step (pc' := 165) (I_aload_n (i := 0) dX12_count_164 rfl rfl) ?_
    refine Seg.step (pc' := 168) (I_getR cls12 (by decide) wf_12_121 (hE _ _ sk_12) rfl (lk_12_62 hL) dX12_count_165) ?_
    refine Seg.step (pc' := 169) (I_iconst dX12_count_168 ⟨by decide, by decide⟩) ?_
    refine Seg.step (pc' := 170) (I_iald (hE _ _ sk_12_62) ⟨by decide, by decide⟩ dX12_count_169) ?_
    exact S_iret dX12_count_170 rfl (by decide) (by decide) (fun K hK => hK)
  refine S_ite (fun h16 => ?_) (fun h16 => ?_)
  · refine Seg.step (I_tsw (v := 9) (off := 159) (tgt := 171) dX12_count_12 h16 (by decide) rfl (by decide)) ?_
    refine Seg.step (pc' := 172) (I_aload_n (i := 0) dX12_count_171 rfl rfl) ?_
    refine Seg.step (pc' := 175) (I_getR cls12 (by decide) wf_12_124 (hE _ _ sk_12) rfl (lk_12_63 hL) dX12_count_172) ?_
    refine Seg.step (pc' := 176) (I_iconst dX12_count_175 ⟨by decide, by decide⟩) ?_
    refine Seg.step (pc' := 177) (I_iald (hE _ _ sk_12_63) ⟨by decide, by decide⟩ dX12_count_176) ?_
    exact S_iret dX12_count_177 rfl (by decide) (by decide) (fun K hK => hK)
  refine S_ite (fun h17 => ?_) (fun h17 => ?_)
  · refine Seg.step (I_tsw (v := 10) (off := 166) (tgt := 178) dX12_count_12 h17 (by decide) rfl (by decide)) ?_
    refine Seg.step (pc' := 179) (I_aload_n (i := 0) dX12_count_178 rfl rfl) ?_
    refine Seg.step (pc' := 182) (I_getR cls12 (by decide) wf_12_127 (hE _ _ sk_12) rfl (lk_12_64 hL) dX12_count_179) ?_
    refine Seg.step (pc' := 183) (I_iconst dX12_count_182 ⟨by decide, by decide⟩) ?_
    refine Seg.step (pc' := 184) (I_iald (hE _ _ sk_12_64) ⟨by decide, by decide⟩ dX12_count_183) ?_
    exact S_iret dX12_count_184 rfl (by decide) (by decide) (fun K hK => hK)
  refine S_ite (fun h18 => ?_) (fun h18 => ?_)
  · refine Seg.step (I_tsw (v := 11) (off := 173) (tgt := 185) dX12_count_12 h18 (by decide) rfl (by decide)) ?_
    refine Seg.step (pc' := 186) (I_iconst dX12_count_185 ⟨by decide, by decide⟩) ?_
    refine Seg.step (pc' := 187) (I_istore_n (i := 3) dX12_count_186 rfl (by decide) rfl) ?_
    refine Seg.forget (Lle.ye (Lle.no (Lle.ye (Lle.ye (Lle.nil))))) ?_
    refine S_loop (Y := Int × Int) (fun y => [some (rV 88), none, some (iV y.1), some (iV y.2)]) (fun y => []) (fun y => (sh, ex, R, x2)) (fun x19 => ?_) FU (0, 0)
    refine Seg.step (pc' := 188) (I_iload_n (i := 3) dX12_count_187 rfl rfl) ?_
    refine Seg.step (pc' := 189) (I_aload_n (i := 0) dX12_count_188 rfl rfl) ?_
    refine Seg.step (pc' := 192) (I_getI cls12 (by decide) wf_12_258 (hE _ _ sk_12) rfl dX12_count_189) ?_
    refine S_icmp_ge (tgt := 210) dX12_count_192 (by decide) (fun h20 => ?_) (fun h20 => ?_)
    · refine Seg.step (pc' := 196) (I_iload_n (i := 2) dX12_count_195 rfl rfl) ?_
      refine Seg.step (pc' := 197) (I_aload_n (i := 0) dX12_count_196 rfl rfl) ?_
      refine Seg.step (pc' := 200) (I_getR cls12 (by decide) wf_12_103 (hE _ _ sk_12) rfl (lk_12_56 hL) dX12_count_197) ?_
      refine Seg.step (pc' := 201) (I_iload_n (i := 3) dX12_count_200 rfl rfl) ?_
      refine S_gd fun h21 => ?_
      refine Seg.step (pc' := 202) (I_iald (hE _ _ sk_12_56) h21 dX12_count_201) ?_
      refine Seg.step (pc' := 203) (I_iadd dX12_count_202) ?_
      refine S_bI fun x22 => ?_
      refine Seg.step (pc' := 204) (I_istore_n (i := 2) dX12_count_203 rfl (by decide) rfl) ?_
      refine Seg.step (pc' := 207) (I_iinc dX12_count_204 rfl (by decide) rfl) ?_
      refine Seg.step (pc' := 187) (I_goto (tgt := 187) dX12_count_207 (by decide)) ?_
      exact S_arr (fun K hK => GG.forget (Lle.ye (Lle.no (Lle.ye (Lle.ye (Lle.nil))))) hK)
    refine Seg.step (pc' := 211) (I_iload_n (i := 2) dX12_count_210 rfl rfl) ?_
    exact S_iret dX12_count_211 rfl (by decide) (by decide) (fun K hK => hK)
  refine S_ite (fun h23 => ?_) (fun h23 => ?_)
  · refine Seg.step (I_tsw (v := 12) (off := 200) (tgt := 212) dX12_count_12 h23 (by decide) rfl (by decide)) ?_
    refine Seg.step (pc' := 213) (I_aload_n (i := 0) dX12_count_212 rfl rfl) ?_
    refine Seg.step (pc' := 216) (I_getI cls12 (by decide) wf_12_388 (hE _ _ sk_12) rfl dX12_count_213) ?_
    exact S_iret dX12_count_216 rfl (by decide) (by decide) (fun K hK => hK)
  refine S_ite (fun h24 => ?_) (fun h24 => ?_)
  · refine Seg.step (I_tsw (v := 13) (off := 205) (tgt := 217) dX12_count_12 h24 (by decide) rfl (by decide)) ?_
    refine Seg.step (pc' := 218) (I_aload_n (i := 0) dX12_count_217 rfl rfl) ?_
    refine S_callV0 (md' := m_X12_knownBy) (fun y => some (iV y)) (fun y => (sh, ex, R, x2)) (hE _ _ sk_12) ⟨by decide, rfl⟩ mm_X12_knownBy wm_12_536 ⟨rfl, rfl, by decide, by decide, by decide, by decide⟩ (Nat.le_of_ble_eq_true rfl) dX12_count_218 (fun y hy => c_X12_knownBy hE hL y hy) (fun x25 => ?_)
    exact S_iret dX12_count_221 rfl (by decide) (by decide) (fun K hK => hK)
  refine S_ite (fun h26 => ?_) (fun h26 => ?_)
  · refine Seg.step (I_tsw (v := 14) (off := 210) (tgt := 222) dX12_count_12 h26 (by decide) rfl (by decide)) ?_
    refine Seg.step (pc' := 223) (I_aload_n (i := 0) dX12_count_222 rfl rfl) ?_
    refine Seg.step (pc' := 226) (I_getI cls12 (by decide) wf_12_391 (hE _ _ sk_12) rfl dX12_count_223) ?_
    exact S_iret dX12_count_226 rfl (by decide) (by decide) (fun K hK => hK)
  refine Seg.step (I_tswd (tgt := 227) dX12_count_12 (by omega) (by decide)) ?_
  refine Seg.step (pc' := 228) (I_iconst dX12_count_227 ⟨by decide, by decide⟩) ?_
  exact S_iret dX12_count_228 rfl (by decide) (by decide) (fun K hK => hK)
