theorem dX0_forget_0 : decode cX0_forget 0 = .ok (.iconst 0, 1) := by decide +kernel
theorem dX0_forget_1 : decode cX0_forget 1 = .ok (.istore_n 1, 1) := by decide +kernel
theorem dX0_forget_2 : decode cX0_forget 2 = .ok (.iload_n 1, 1) := by decide +kernel
theorem dX0_forget_3 : decode cX0_forget 3 = .ok (.iconst 5, 1) := by decide +kernel
theorem dX0_forget_4 : decode cX0_forget 4 = .ok (.if_icmp .ge 23, 3) := by decide +kernel
theorem dX0_forget_7 : decode cX0_forget 7 = .ok (.aload_n 0, 1) := by decide +kernel
theorem dX0_forget_8 : decode cX0_forget 8 = .ok (.getfield 26, 3) := by decide +kernel
theorem dX0_forget_11 : decode cX0_forget 11 = .ok (.iload_n 1, 1) := by decide +kernel
theorem dX0_forget_12 : decode cX0_forget 12 = .ok (.iconst 0, 1) := by decide +kernel
theorem dX0_forget_13 : decode cX0_forget 13 = .ok (.iastore, 1) := by decide +kernel
theorem dX0_forget_14 : decode cX0_forget 14 = .ok (.aload_n 0, 1) := by decide +kernel
theorem dX0_forget_15 : decode cX0_forget 15 = .ok (.getfield 29, 3) := by decide +kernel
theorem dX0_forget_18 : decode cX0_forget 18 = .ok (.iload_n 1, 1) := by decide +kernel
theorem dX0_forget_19 : decode cX0_forget 19 = .ok (.iconst 0, 1) := by decide +kernel
theorem dX0_forget_20 : decode cX0_forget 20 = .ok (.iastore, 1) := by decide +kernel
theorem dX0_forget_21 : decode cX0_forget 21 = .ok (.iinc 1 1, 3) := by decide +kernel
theorem dX0_forget_24 : decode cX0_forget 24 = .ok (.goto (-22), 3) := by decide +kernel
theorem dX0_forget_27 : decode cX0_forget 27 = .ok (.aload_n 0, 1) := by decide +kernel
theorem dX0_forget_28 : decode cX0_forget 28 = .ok (.iconst 0, 1) := by decide +kernel
theorem dX0_forget_29 : decode cX0_forget 29 = .ok (.putfield 73, 3) := by decide +kernel
theorem dX0_forget_32 : decode cX0_forget 32 = .ok (.aload_n 0, 1) := by decide +kernel
theorem dX0_forget_33 : decode cX0_forget 33 = .ok (.iconst 0, 1) := by decide +kernel
theorem dX0_forget_34 : decode cX0_forget 34 = .ok (.putfield 76, 3) := by decide +kernel
theorem dX0_forget_37 : decode cX0_forget 37 = .ok (.aload_n 0, 1) := by decide +kernel
theorem dX0_forget_38 : decode cX0_forget 38 = .ok (.iconst 0, 1) := by decide +kernel
theorem dX0_forget_39 : decode cX0_forget 39 = .ok (.putfield 79, 3) := by decide +kernel
theorem dX0_forget_42 : decode cX0_forget 42 = .ok (.aload_n 0, 1) := by decide +kernel
theorem dX0_forget_43 : decode cX0_forget 43 = .ok (.iconst 0, 1) := by decide +kernel
theorem dX0_forget_44 : decode cX0_forget 44 = .ok (.putfield 82, 3) := by decide +kernel
theorem dX0_forget_47 : decode cX0_forget 47 = .ok (.return_, 1) := by decide +kernel
def f_X0_forget (M : MM) (a0 : Nat) : Option (MM) :=
(lp (X := Int × MM) (Y := MM) (fun x1 =>
if x1.1 < 5 then
(gd (0 ≤ x1.1 ∧ x1.1 < (5 : Int)) <|
bM (upM x1.2 (a0 + 4) (x1.1).toNat 0) fun M4 =>
gd (0 ≤ x1.1 ∧ x1.1 < (5 : Int)) <|
bM (upM M4 (a0 + 5) (x1.1).toNat 0) fun M6 =>
some (Sum.inl (w32 (x1.1 + 1), M6)))
else
some (Sum.inr x1.2)) FU (0, M)).bind fun x7 =>
bM (upM x7 a0 13 0) fun M8 =>
bM (upM M8 a0 15 0) fun M9 =>
bM (upM M9 a0 16 0) fun M10 =>
bM (upM M10 a0 17 0) fun M11 =>
some M11
set_option maxRecDepth 4000 in
theorem c_X0_forget {E : EE} {sh : List (Nat × Nat)} {ex : Bool} {R : RM} {M : MM} {a0 : Nat} (hE : Ext sh) (hL : Links R) (hs0 : SH0[a0]? = some (0, 18)) : ∀ y, f_X0_forget M a0 = some y → MetC E m_X0_forget 0 0 [rV a0] (sh, ex, R, M) (fun r w' => r = none ∧ w' = (sh, ex, R, y)) := by
  intro y hy
  refine MetC.seg (o := f_X0_forget M a0) (t := (fun K y => K (none) (sh, ex, R, y))) (L := [some (rV a0), none]) (by decide) rfl (Nat.le_of_ble_eq_true rfl) ?_ hy ⟨rfl, rfl⟩
  unfold f_X0_forget
  refine Seg.step (pc' := 1) (I_iconst dX0_forget_0 ⟨by decide, by decide⟩) ?_
  refine Seg.step (pc' := 2) (I_istore_n (i := 1) dX0_forget_1 rfl (by decide) rfl) ?_
  refine Seg.forget (Lle.ye (Lle.ye (Lle.nil))) ?_
  refine S_bind (Y := MM) (k' := 0) (n' := 0) 27 (fun y => [some (rV a0), none]) (fun y => []) (fun y => (sh, ex, R, y)) (S_loop (Y := Int × MM) (fun y => [some (rV a0), some (iV y.1)]) (fun y => []) (fun y => (sh, ex, R, y.2)) (fun x1 => ?_) FU (0, M)) (fun x7 => ?_)
  · refine Seg.step (pc' := 3) (I_iload_n (i := 1) dX0_forget_2 rfl rfl) ?_
    refine Seg.step (pc' := 4) (I_iconst dX0_forget_3 ⟨by decide, by decide⟩) ?_
    refine S_icmp_ge (tgt := 27) dX0_forget_4 (by decide) (fun h2 => ?_) (fun h2 => ?_)
    · refine Seg.step (pc' := 8) (I_aload_n (i := 0) dX0_forget_7 rfl rfl) ?_
      refine Seg.step (pc' := 11) (I_getR cls0 (by decide) wf_0_26 (hE _ _ hs0) rfl (lk_0_9 hL hs0) dX0_forget_8) ?_
      refine Seg.step (pc' := 12) (I_iload_n (i := 1) dX0_forget_11 rfl rfl) ?_
      refine Seg.step (pc' := 13) (I_iconst dX0_forget_12 ⟨by decide, by decide⟩) ?_
      refine S_gd fun h3 => ?_
      refine Seg.step (pc' := 14) (I_iast (hE _ _ (sk_0_9 hs0)) h3 dX0_forget_13) ?_
      refine S_bM fun M4 => ?_
      refine Seg.step (pc' := 15) (I_aload_n (i := 0) dX0_forget_14 rfl rfl) ?_
      refine Seg.step (pc' := 18) (I_getR cls0 (by decide) wf_0_29 (hE _ _ hs0) rfl (lk_0_10 hL hs0) dX0_forget_15) ?_
      refine Seg.step (pc' := 19) (I_iload_n (i := 1) dX0_forget_18 rfl rfl) ?_
      refine Seg.step (pc' := 20) (I_iconst dX0_forget_19 ⟨by decide, by decide⟩) ?_
      refine S_gd fun h5 => ?_
      refine Seg.step (pc' := 21) (I_iast (hE _ _ (sk_0_10 hs0)) h5 dX0_forget_20) ?_
      refine S_bM fun M6 => ?_
      refine Seg.step (pc' := 24) (I_iinc dX0_forget_21 rfl (by decide) rfl) ?_
      refine Seg.step (pc' := 2) (I_goto (tgt := 2) dX0_forget_24 (by decide)) ?_
      exact S_arr (fun K hK => GG.forget (Lle.ye (Lle.ye (Lle.nil))) hK)
    exact S_arr (fun K hK => GG.forget (Lle.ye (Lle.no (Lle.nil))) hK)
  refine Seg.step (pc' := 28) (I_aload_n (i := 0) dX0_forget_27 rfl rfl) ?_
  refine Seg.step (pc' := 29) (I_iconst dX0_forget_28 ⟨by decide, by decide⟩) ?_
  refine Seg.step (pc' := 32) (I_putI cls0 (by decide) wf_0_73 (hE _ _ hs0) rfl rfl dX0_forget_29) ?_
  refine S_bM fun M8 => ?_
  refine Seg.step (pc' := 33) (I_aload_n (i := 0) dX0_forget_32 rfl rfl) ?_
  refine Seg.step (pc' := 34) (I_iconst dX0_forget_33 ⟨by decide, by decide⟩) ?_
  refine Seg.step (pc' := 37) (I_putI cls0 (by decide) wf_0_76 (hE _ _ hs0) rfl rfl dX0_forget_34) ?_
  refine S_bM fun M9 => ?_
  refine Seg.step (pc' := 38) (I_aload_n (i := 0) dX0_forget_37 rfl rfl) ?_
  refine Seg.step (pc' := 39) (I_iconst dX0_forget_38 ⟨by decide, by decide⟩) ?_
  refine Seg.step (pc' := 42) (I_putI cls0 (by decide) wf_0_79 (hE _ _ hs0) rfl rfl dX0_forget_39) ?_
  refine S_bM fun M10 => ?_
  refine Seg.step (pc' := 43) (I_aload_n (i := 0) dX0_forget_42 rfl rfl) ?_
  refine Seg.step (pc' := 44) (I_iconst dX0_forget_43 ⟨by decide, by decide⟩) ?_
  refine Seg.step (pc' := 47) (I_putI cls0 (by decide) wf_0_82 (hE _ _ hs0) rfl rfl dX0_forget_44) ?_
  refine S_bM fun M11 => ?_
  exact S_vret dX0_forget_47 rfl (by decide) (by decide) (fun K hK => hK)
theorem dX0_begin_0 : decode cX0_begin 0 = .ok (.aload_n 0, 1) := by decide +kernel
theorem dX0_begin_1 : decode cX0_begin 1 = .ok (.aload_n 1, 1) := by decide +kernel
theorem dX0_begin_2 : decode cX0_begin 2 = .ok (.putfield 38, 3) := by decide +kernel
theorem dX0_begin_5 : decode cX0_begin 5 = .ok (.aload_n 0, 1) := by decide +kernel
theorem dX0_begin_6 : decode cX0_begin 6 = .ok (.iconst 0, 1) := by decide +kernel
theorem dX0_begin_7 : decode cX0_begin 7 = .ok (.putfield 49, 3) := by decide +kernel
theorem dX0_begin_10 : decode cX0_begin 10 = .ok (.aload_n 0, 1) := by decide +kernel
theorem dX0_begin_11 : decode cX0_begin 11 = .ok (.aload_n 0, 1) := by decide +kernel
theorem dX0_begin_12 : decode cX0_begin 12 = .ok (.getfield 38, 3) := by decide +kernel
theorem dX0_begin_15 : decode cX0_begin 15 = .ok (.getfield 42, 3) := by decide +kernel
theorem dX0_begin_18 : decode cX0_begin 18 = .ok (.putfield 48, 3) := by decide +kernel
theorem dX0_begin_21 : decode cX0_begin 21 = .ok (.aload_n 0, 1) := by decide +kernel
theorem dX0_begin_22 : decode cX0_begin 22 = .ok (.aload_n 0, 1) := by decide +kernel
theorem dX0_begin_23 : decode cX0_begin 23 = .ok (.getfield 38, 3) := by decide +kernel
theorem dX0_begin_26 : decode cX0_begin 26 = .ok (.getfield 52, 3) := by decide +kernel
theorem dX0_begin_29 : decode cX0_begin 29 = .ok (.putfield 55, 3) := by decide +kernel
theorem dX0_begin_32 : decode cX0_begin 32 = .ok (.aload_n 0, 1) := by decide +kernel
theorem dX0_begin_33 : decode cX0_begin 33 = .ok (.iconst 0, 1) := by decide +kernel
theorem dX0_begin_34 : decode cX0_begin 34 = .ok (.putfield 56, 3) := by decide +kernel
theorem dX0_begin_37 : decode cX0_begin 37 = .ok (.iconst 0, 1) := by decide +kernel
theorem dX0_begin_38 : decode cX0_begin 38 = .ok (.istore_n 2, 1) := by decide +kernel
theorem dX0_begin_39 : decode cX0_begin 39 = .ok (.iload_n 2, 1) := by decide +kernel
theorem dX0_begin_40 : decode cX0_begin 40 = .ok (.iconst 5, 1) := by decide +kernel
theorem dX0_begin_41 : decode cX0_begin 41 = .ok (.if_icmp .ge 16, 3) := by decide +kernel
theorem dX0_begin_44 : decode cX0_begin 44 = .ok (.aload_n 0, 1) := by decide +kernel
theorem dX0_begin_45 : decode cX0_begin 45 = .ok (.getfield 18, 3) := by decide +kernel
theorem dX0_begin_48 : decode cX0_begin 48 = .ok (.iload_n 2, 1) := by decide +kernel
theorem dX0_begin_49 : decode cX0_begin 49 = .ok (.iconst 0, 1) := by decide +kernel
theorem dX0_begin_50 : decode cX0_begin 50 = .ok (.bastore, 1) := by decide +kernel
theorem dX0_begin_51 : decode cX0_begin 51 = .ok (.iinc 2 1, 3) := by decide +kernel
theorem dX0_begin_54 : decode cX0_begin 54 = .ok (.goto (-15), 3) := by decide +kernel
theorem dX0_begin_57 : decode cX0_begin 57 = .ok (.iconst 0, 1) := by decide +kernel
theorem dX0_begin_58 : decode cX0_begin 58 = .ok (.istore_n 2, 1) := by decide +kernel
theorem dX0_begin_59 : decode cX0_begin 59 = .ok (.iload_n 2, 1) := by decide +kernel
theorem dX0_begin_60 : decode cX0_begin 60 = .ok (.aload_n 0, 1) := by decide +kernel
theorem dX0_begin_61 : decode cX0_begin 61 = .ok (.getfield 22, 3) := by decide +kernel
theorem dX0_begin_64 : decode cX0_begin 64 = .ok (.arraylength, 1) := by decide +kernel
theorem dX0_begin_65 : decode cX0_begin 65 = .ok (.if_icmp .ge 29, 3) := by decide +kernel
theorem dX0_begin_68 : decode cX0_begin 68 = .ok (.aload_n 0, 1) := by decide +kernel
theorem dX0_begin_69 : decode cX0_begin 69 = .ok (.getfield 22, 3) := by decide +kernel
theorem dX0_begin_72 : decode cX0_begin 72 = .ok (.iload_n 2, 1) := by decide +kernel
theorem dX0_begin_73 : decode cX0_begin 73 = .ok (.aload_n 0, 1) := by decide +kernel
theorem dX0_begin_74 : decode cX0_begin 74 = .ok (.getfield 38, 3) := by decide +kernel
theorem dX0_begin_77 : decode cX0_begin 77 = .ok (.getfield 60, 3) := by decide +kernel
theorem dX0_begin_80 : decode cX0_begin 80 = .ok (.getfield 64, 3) := by decide +kernel
theorem dX0_begin_83 : decode cX0_begin 83 = .ok (.iload_n 2, 1) := by decide +kernel
theorem dX0_begin_84 : decode cX0_begin 84 = .ok (.iconst 5, 1) := by decide +kernel
theorem dX0_begin_85 : decode cX0_begin 85 = .ok (.irem, 1) := by decide +kernel
theorem dX0_begin_86 : decode cX0_begin 86 = .ok (.iaload, 1) := by decide +kernel
theorem dX0_begin_87 : decode cX0_begin 87 = .ok (.iastore, 1) := by decide +kernel
theorem dX0_begin_88 : decode cX0_begin 88 = .ok (.iinc 2 1, 3) := by decide +kernel
theorem dX0_begin_91 : decode cX0_begin 91 = .ok (.goto (-32), 3) := by decide +kernel
theorem dX0_begin_94 : decode cX0_begin 94 = .ok (.iconst 0, 1) := by decide +kernel
theorem dX0_begin_95 : decode cX0_begin 95 = .ok (.istore_n 2, 1) := by decide +kernel
theorem dX0_begin_96 : decode cX0_begin 96 = .ok (.iload_n 2, 1) := by decide +kernel
theorem dX0_begin_97 : decode cX0_begin 97 = .ok (.bipush 24, 2) := by decide +kernel
theorem dX0_begin_99 : decode cX0_begin 99 = .ok (.if_icmp .ge 23, 3) := by decide +kernel
theorem dX0_begin_102 : decode cX0_begin 102 = .ok (.aload_n 0, 1) := by decide +kernel
theorem dX0_begin_103 : decode cX0_begin 103 = .ok (.getfield 32, 3) := by decide +kernel
theorem dX0_begin_106 : decode cX0_begin 106 = .ok (.iload_n 2, 1) := by decide +kernel
theorem dX0_begin_107 : decode cX0_begin 107 = .ok (.iconst 0, 1) := by decide +kernel
theorem dX0_begin_108 : decode cX0_begin 108 = .ok (.iastore, 1) := by decide +kernel
theorem dX0_begin_109 : decode cX0_begin 109 = .ok (.aload_n 0, 1) := by decide +kernel
theorem dX0_begin_110 : decode cX0_begin 110 = .ok (.getfield 35, 3) := by decide +kernel
theorem dX0_begin_113 : decode cX0_begin 113 = .ok (.iload_n 2, 1) := by decide +kernel
theorem dX0_begin_114 : decode cX0_begin 114 = .ok (.iconst 0, 1) := by decide +kernel
theorem dX0_begin_115 : decode cX0_begin 115 = .ok (.iastore, 1) := by decide +kernel
theorem dX0_begin_116 : decode cX0_begin 116 = .ok (.iinc 2 1, 3) := by decide +kernel
theorem dX0_begin_119 : decode cX0_begin 119 = .ok (.goto (-23), 3) := by decide +kernel
theorem dX0_begin_122 : decode cX0_begin 122 = .ok (.aload_n 0, 1) := by decide +kernel
theorem dX0_begin_123 : decode cX0_begin 123 = .ok (.iconst 0, 1) := by decide +kernel
theorem dX0_begin_124 : decode cX0_begin 124 = .ok (.putfield 67, 3) := by decide +kernel
theorem dX0_begin_127 : decode cX0_begin 127 = .ok (.aload_n 0, 1) := by decide +kernel
theorem dX0_begin_128 : decode cX0_begin 128 = .ok (.invokevirtual 70, 3) := by decide +kernel
theorem dX0_begin_131 : decode cX0_begin 131 = .ok (.return_, 1) := by decide +kernel
def f_X0_begin (M : MM) (a0 : Nat) (a1 : Nat) : Option (MM) :=
bM (upM M a0 1 (a1 : Int)) fun M1 =>
bM (upM M1 a0 2 0) fun M2 =>
gH (M2 a0 1) fun b3 =>
bM (upM M2 a0 3 (M2 b3 9)) fun M4 =>
gH (M4 a0 1) fun b5 =>
bM (upM M4 a0 4 (M4 b5 10)) fun M6 =>
bM (upM M6 a0 5 0) fun M7 =>
(lp (X := Int × MM) (Y := MM) (fun x8 =>
if x8.1 < 5 then
(gd (0 ≤ x8.1 ∧ x8.1 < (5 : Int)) <|
bM (upM x8.2 (a0 + 2) (x8.1).toNat 0) fun M11 =>
some (Sum.inl (w32 (x8.1 + 1), M11)))
else
some (Sum.inr x8.2)) FU (0, M7)).bind fun x12 =>
(lp (X := Int × MM) (Y := MM) (fun x13 =>
if x13.1 < 30 then
(gH (x13.2 a0 1) fun b15 =>
gd (0 ≤ w32 (Int.tmod x13.1 5) ∧ w32 (Int.tmod x13.1 5) < (5 : Int)) <|
gd (0 ≤ x13.1 ∧ x13.1 < (30 : Int)) <|
bM (upM x13.2 (a0 + 3) (x13.1).toNat (x13.2 (b15 + 3) (w32 (Int.tmod x13.1 5)).toNat)) fun M18 =>
some (Sum.inl (w32 (x13.1 + 1), M18)))
else
some (Sum.inr x13.2)) FU (0, x12)).bind fun x19 =>
(lp (X := Int × MM) (Y := MM) (fun x20 =>
if x20.1 < 24 then
(gd (0 ≤ x20.1 ∧ x20.1 < (24 : Int)) <|
bM (upM x20.2 (a0 + 6) (x20.1).toNat 0) fun M23 =>
gd (0 ≤ x20.1 ∧ x20.1 < (24 : Int)) <|
bM (upM M23 (a0 + 7) (x20.1).toNat 0) fun M25 =>
some (Sum.inl (w32 (x20.1 + 1), M25)))
else
some (Sum.inr x20.2)) FU (0, x19)).bind fun x26 =>
bM (upM x26 a0 14 0) fun M27 =>
(f_X0_forget M27 a0).bind fun x28 =>
some x28
set_option maxRecDepth 4000 in
theorem c_X0_begin {E : EE} {sh : List (Nat × Nat)} {ex : Bool} {R : RM} {M : MM} {a0 : Nat} {a1 : Nat} (hE : Ext sh) (hL : Links R) (hs0 : SH0[a0]? = some (0, 18)) (hs1 : SH0[a1]? = some (2, 15)) : ∀ y, f_X0_begin M a0 a1 = some y → MetC E m_X0_begin 0 0 [rV a0, rV a1] (sh, ex, R, M) (fun r w' => r = none ∧ w' = (sh, ex, R, y)) := by
  intro y hy
  refine MetC.seg (o := f_X0_begin M a0 a1) (t := (fun K y => K (none) (sh, ex, R, y))) (L := [some (rV a0), some (rV a1), none]) (by decide) rfl (Nat.le_of_ble_eq_true rfl) ?_ hy ⟨rfl, rfl⟩
  unfold f_X0_begin
  refine Seg.step (pc' := 1) (I_aload_n (i := 0) dX0_begin_0 rfl rfl) ?_
  refine Seg.step (pc' := 2) (I_aload_n (i := 1) dX0_begin_1 rfl rfl) ?_
  refine Seg.step (pc' := 5) (I_putH cls0 (by decide) wf_0_38 (hE _ _ hs0) rfl (hkq hs1) rfl dX0_begin_2) ?_
  refine S_bM fun M1 => ?_
  refine Seg.step (pc' := 6) (I_aload_n (i := 0) dX0_begin_5 rfl rfl) ?_
  refine Seg.step (pc' := 7) (I_iconst dX0_begin_6 ⟨by decide, by decide⟩) ?_
  refine Seg.step (pc' := 10) (I_putI cls0 (by decide) wf_0_49 (hE _ _ hs0) rfl rfl dX0_begin_7) ?_
  refine S_bM fun M2 => ?_
  refine Seg.step (pc' := 11) (I_aload_n (i := 0) dX0_begin_10 rfl rfl) ?_
  refine Seg.step (pc' := 12) (I_aload_n (i := 0) dX0_begin_11 rfl rfl) ?_
  refine S_gH fun b3 hb3 zb3 => ?_
  refine Seg.step (pc' := 15) (I_getH cls0 (by decide) wf_0_38 (hE _ _ hs0) rfl zb3 (hkp hb3) dX0_begin_12) ?_
  refine Seg.step (pc' := 18) (I_getI cls2 (by decide) wf_0_42 (hE _ _ (hks hb3)) rfl dX0_begin_15) ?_
  refine Seg.step (pc' := 21) (I_putI cls0 (by decide) wf_0_48 (hE _ _ hs0) rfl rfl dX0_begin_18) ?_
  refine S_bM fun M4 => ?_
  refine Seg.step (pc' := 22) (I_aload_n (i := 0) dX0_begin_21 rfl rfl) ?_
  refine Seg.step (pc' := 23) (I_aload_n (i := 0) dX0_begin_22 rfl rfl) ?_
  refine S_gH fun b5 hb5 zb5 => ?_
  refine Seg.step (pc' := 26) (I_getH cls0 (by decide) wf_0_38 (hE _ _ hs0) rfl zb5 (hkp hb5) dX0_begin_23) ?_
  refine Seg.step (pc' := 29) (I_getI cls2 (by decide) wf_0_52 (hE _ _ (hks hb5)) rfl dX0_begin_26) ?_
  refine Seg.step (pc' := 32) (I_putI cls0 (by decide) wf_0_55 (hE _ _ hs0) rfl rfl dX0_begin_29) ?_
  refine S_bM fun M6 => ?_
  refine Seg.step (pc' := 33) (I_aload_n (i := 0) dX0_begin_32 rfl rfl) ?_
  refine Seg.step (pc' := 34) (I_iconst dX0_begin_33 ⟨by decide, by decide⟩) ?_
  refine Seg.step (pc' := 37) (I_putZ cls0 (by decide) wf_0_56 (hE _ _ hs0) rfl rfl (by decide) dX0_begin_34) ?_
  refine S_bM fun M7 => ?_
  refine Seg.step (pc' := 38) (I_iconst dX0_begin_37 ⟨by decide, by decide⟩) ?_
  refine Seg.step (pc' := 39) (I_istore_n (i := 2) dX0_begin_38 rfl (by decide) rfl) ?_
  refine Seg.forget (Lle.ye (Lle.no (Lle.ye (Lle.nil)))) ?_
  refine S_bind (Y := MM) (k' := 0) (n' := 0) 57 (fun y => [some (rV a0), none, none]) (fun y => []) (fun y => (sh, ex, R, y)) (S_loop (Y := Int × MM) (fun y => [some (rV a0), none, some (iV y.1)]) (fun y => []) (fun y => (sh, ex, R, y.2)) (fun x8 => ?_) FU (0, M7)) (fun x12 => ?_)
  · refine Seg.step (pc' := 40) (I_iload_n (i := 2) dX0_begin_39 rfl rfl) ?_
    refine Seg.step (pc' := 41) (I_iconst dX0_begin_40 ⟨by decide, by decide⟩) ?_
    refine S_icmp_ge (tgt := 57) dX0_begin_41 (by decide) (fun h9 => ?_) (fun h9 => ?_)
    · refine Seg.step (pc' := 45) (I_aload_n (i := 0) dX0_begin_44 rfl rfl) ?_
      refine Seg.step (pc' := 48) (I_getR cls0 (by decide) wf_0_18 (hE _ _ hs0) rfl (lk_0_7 hL hs0) dX0_begin_45) ?_
      refine Seg.step (pc' := 49) (I_iload_n (i := 2) dX0_begin_48 rfl rfl) ?_
      refine Seg.step (pc' := 50) (I_iconst dX0_begin_49 ⟨by decide, by decide⟩) ?_
      refine S_gd fun h10 => ?_
      refine Seg.step (pc' := 51) (I_zast (hE _ _ (sk_0_7 hs0)) h10 (by decide) dX0_begin_50) ?_
      refine S_bM fun M11 => ?_
      refine Seg.step (pc' := 54) (I_iinc dX0_begin_51 rfl (by decide) rfl) ?_
      refine Seg.step (pc' := 39) (I_goto (tgt := 39) dX0_begin_54 (by decide)) ?_
      exact S_arr (fun K hK => GG.forget (Lle.ye (Lle.no (Lle.ye (Lle.nil)))) hK)
    exact S_arr (fun K hK => GG.forget (Lle.ye (Lle.no (Lle.no (Lle.nil)))) hK)
  refine Seg.step (pc' := 58) (I_iconst dX0_begin_57 ⟨by decide, by decide⟩) ?_
  refine Seg.step (pc' := 59) (I_istore_n (i := 2) dX0_begin_58 rfl (by decide) rfl) ?_
  refine Seg.forget (Lle.ye (Lle.no (Lle.ye (Lle.nil)))) ?_
  refine S_bind (Y := MM) (k' := 0) (n' := 0) 94 (fun y => [some (rV a0), none, none]) (fun y => []) (fun y => (sh, ex, R, y)) (S_loop (Y := Int × MM) (fun y => [some (rV a0), none, some (iV y.1)]) (fun y => []) (fun y => (sh, ex, R, y.2)) (fun x13 => ?_) FU (0, x12)) (fun x19 => ?_)
  · refine Seg.step (pc' := 60) (I_iload_n (i := 2) dX0_begin_59 rfl rfl) ?_
    refine Seg.step (pc' := 61) (I_aload_n (i := 0) dX0_begin_60 rfl rfl) ?_
    refine Seg.step (pc' := 64) (I_getR cls0 (by decide) wf_0_22 (hE _ _ hs0) rfl (lk_0_8 hL hs0) dX0_begin_61) ?_
    refine Seg.step (pc' := 65) (I_alen (hE _ _ (sk_0_8 hs0)) (by decide) ⟨by decide, by decide⟩ dX0_begin_64) ?_
    refine S_icmp_ge (tgt := 94) dX0_begin_65 (by decide) (fun h14 => ?_) (fun h14 => ?_)
    · refine Seg.step (pc' := 69) (I_aload_n (i := 0) dX0_begin_68 rfl rfl) ?_
      refine Seg.step (pc' := 72) (I_getR cls0 (by decide) wf_0_22 (hE _ _ hs0) rfl (lk_0_8 hL hs0) dX0_begin_69) ?_
      refine Seg.step (pc' := 73) (I_iload_n (i := 2) dX0_begin_72 rfl rfl) ?_
      refine Seg.step (pc' := 74) (I_aload_n (i := 0) dX0_begin_73 rfl rfl) ?_
      refine S_gH fun b15 hb15 zb15 => ?_
      refine Seg.step (pc' := 77) (I_getH cls0 (by decide) wf_0_38 (hE _ _ hs0) rfl zb15 (hkp hb15) dX0_begin_74) ?_
      refine Seg.step (pc' := 80) (I_getR cls2 (by decide) wf_0_60 (hE _ _ (hks hb15)) rfl (lk_2_0 hL (hks hb15)) dX0_begin_77) ?_
      refine Seg.step (pc' := 83) (I_getR cls8 (by decide) wf_0_64 (hE _ _ (sk_2_0 (hks hb15))) rfl (lk_8_2 hL (sk_2_0 (hks hb15))) dX0_begin_80) ?_
      refine Seg.step (pc' := 84) (I_iload_n (i := 2) dX0_begin_83 rfl rfl) ?_
      refine Seg.step (pc' := 85) (I_iconst dX0_begin_84 ⟨by decide, by decide⟩) ?_
      refine Seg.step (pc' := 86) (I_irem dX0_begin_85 (by decide)) ?_
      refine S_gd fun h16 => ?_
      refine Seg.step (pc' := 87) (I_iald (hE _ _ (sk_8_2 (sk_2_0 (hks hb15)))) h16 dX0_begin_86) ?_
      refine S_gd fun h17 => ?_
      refine Seg.step (pc' := 88) (I_iast (hE _ _ (sk_0_8 hs0)) h17 dX0_begin_87) ?_
      refine S_bM fun M18 => ?_
      refine Seg.step (pc' := 91) (I_iinc dX0_begin_88 rfl (by decide) rfl) ?_
      refine Seg.step (pc' := 59) (I_goto (tgt := 59) dX0_begin_91 (by decide)) ?_
      exact S_arr (fun K hK => GG.forget (Lle.ye (Lle.no (Lle.ye (Lle.nil)))) hK)
    exact S_arr (fun K hK => GG.forget (Lle.ye (Lle.no (Lle.no (Lle.nil)))) hK)
  refine Seg.step (pc' := 95) (I_iconst dX0_begin_94 ⟨by decide, by decide⟩) ?_
  refine Seg.step (pc' := 96) (I_istore_n (i := 2) dX0_begin_95 rfl (by decide) rfl) ?_
  refine Seg.forget (Lle.ye (Lle.no (Lle.ye (Lle.nil)))) ?_
  refine S_bind (Y := MM) (k' := 0) (n' := 0) 122 (fun y => [some (rV a0), none, none]) (fun y => []) (fun y => (sh, ex, R, y)) (S_loop (Y := Int × MM) (fun y => [some (rV a0), none, some (iV y.1)]) (fun y => []) (fun y => (sh, ex, R, y.2)) (fun x20 => ?_) FU (0, x19)) (fun x26 => ?_)
  · refine Seg.step (pc' := 97) (I_iload_n (i := 2) dX0_begin_96 rfl rfl) ?_
    refine Seg.step (pc' := 99) (I_bipush dX0_begin_97 (by decide) ⟨by decide, by decide⟩) ?_
    refine S_icmp_ge (tgt := 122) dX0_begin_99 (by decide) (fun h21 => ?_) (fun h21 => ?_)
    · refine Seg.step (pc' := 103) (I_aload_n (i := 0) dX0_begin_102 rfl rfl) ?_
      refine Seg.step (pc' := 106) (I_getR cls0 (by decide) wf_0_32 (hE _ _ hs0) rfl (lk_0_11 hL hs0) dX0_begin_103) ?_
      refine Seg.step (pc' := 107) (I_iload_n (i := 2) dX0_begin_106 rfl rfl) ?_
      refine Seg.step (pc' := 108) (I_iconst dX0_begin_107 ⟨by decide, by decide⟩) ?_
      refine S_gd fun h22 => ?_
      refine Seg.step (pc' := 109) (I_iast (hE _ _ (sk_0_11 hs0)) h22 dX0_begin_108) ?_
      refine S_bM fun M23 => ?_
      refine Seg.step (pc' := 110) (I_aload_n (i := 0) dX0_begin_109 rfl rfl) ?_
      refine Seg.step (pc' := 113) (I_getR cls0 (by decide) wf_0_35 (hE _ _ hs0) rfl (lk_0_12 hL hs0) dX0_begin_110) ?_
      refine Seg.step (pc' := 114) (I_iload_n (i := 2) dX0_begin_113 rfl rfl) ?_
      refine Seg.step (pc' := 115) (I_iconst dX0_begin_114 ⟨by decide, by decide⟩) ?_
      refine S_gd fun h24 => ?_
      refine Seg.step (pc' := 116) (I_iast (hE _ _ (sk_0_12 hs0)) h24 dX0_begin_115) ?_
      refine S_bM fun M25 => ?_
      refine Seg.step (pc' := 119) (I_iinc dX0_begin_116 rfl (by decide) rfl) ?_
      refine Seg.step (pc' := 96) (I_goto (tgt := 96) dX0_begin_119 (by decide)) ?_
      exact S_arr (fun K hK => GG.forget (Lle.ye (Lle.no (Lle.ye (Lle.nil)))) hK)
    exact S_arr (fun K hK => GG.forget (Lle.ye (Lle.no (Lle.no (Lle.nil)))) hK)
  refine Seg.step (pc' := 123) (I_aload_n (i := 0) dX0_begin_122 rfl rfl) ?_
  refine Seg.step (pc' := 124) (I_iconst dX0_begin_123 ⟨by decide, by decide⟩) ?_
  refine Seg.step (pc' := 127) (I_putI cls0 (by decide) wf_0_67 (hE _ _ hs0) rfl rfl dX0_begin_124) ?_
  refine S_bM fun M27 => ?_
  refine Seg.step (pc' := 128) (I_aload_n (i := 0) dX0_begin_127 rfl rfl) ?_
  refine S_callV0 (md' := m_X0_forget) (fun y => none) (fun y => (sh, ex, R, y)) (hE _ _ hs0) ⟨by decide, rfl⟩ mm_X0_forget wm_0_70 ⟨rfl, rfl, by decide, by decide, by decide, by decide⟩ (Nat.le_of_ble_eq_true rfl) dX0_begin_128 (fun y hy => c_X0_forget hE hL hs0 y hy) (fun x28 => ?_)
  exact S_vret dX0_begin_131 rfl (by decide) (by decide) (fun K hK => hK)
theorem dX0_copy_0 : decode cX0_copy 0 = .ok (.aload_n 0, 1) := by decide +kernel
theorem dX0_copy_1 : decode cX0_copy 1 = .ok (.aload_n 1, 1) := by decide +kernel
theorem dX0_copy_2 : decode cX0_copy 2 = .ok (.getfield 38, 3) := by decide +kernel
theorem dX0_copy_5 : decode cX0_copy 5 = .ok (.putfield 38, 3) := by decide +kernel
theorem dX0_copy_8 : decode cX0_copy 8 = .ok (.aload_n 0, 1) := by decide +kernel
theorem dX0_copy_9 : decode cX0_copy 9 = .ok (.aload_n 1, 1) := by decide +kernel
theorem dX0_copy_10 : decode cX0_copy 10 = .ok (.getfield 49, 3) := by decide +kernel
theorem dX0_copy_13 : decode cX0_copy 13 = .ok (.putfield 49, 3) := by decide +kernel
theorem dX0_copy_16 : decode cX0_copy 16 = .ok (.aload_n 0, 1) := by decide +kernel
theorem dX0_copy_17 : decode cX0_copy 17 = .ok (.aload_n 1, 1) := by decide +kernel
theorem dX0_copy_18 : decode cX0_copy 18 = .ok (.getfield 48, 3) := by decide +kernel
theorem dX0_copy_21 : decode cX0_copy 21 = .ok (.putfield 48, 3) := by decide +kernel
theorem dX0_copy_24 : decode cX0_copy 24 = .ok (.aload_n 0, 1) := by decide +kernel
theorem dX0_copy_25 : decode cX0_copy 25 = .ok (.aload_n 1, 1) := by decide +kernel
theorem dX0_copy_26 : decode cX0_copy 26 = .ok (.getfield 55, 3) := by decide +kernel
theorem dX0_copy_29 : decode cX0_copy 29 = .ok (.putfield 55, 3) := by decide +kernel
theorem dX0_copy_32 : decode cX0_copy 32 = .ok (.aload_n 0, 1) := by decide +kernel
theorem dX0_copy_33 : decode cX0_copy 33 = .ok (.aload_n 1, 1) := by decide +kernel
theorem dX0_copy_34 : decode cX0_copy 34 = .ok (.getfield 56, 3) := by decide +kernel
theorem dX0_copy_37 : decode cX0_copy 37 = .ok (.putfield 56, 3) := by decide +kernel
theorem dX0_copy_40 : decode cX0_copy 40 = .ok (.iconst 0, 1) := by decide +kernel
theorem dX0_copy_41 : decode cX0_copy 41 = .ok (.istore_n 2, 1) := by decide +kernel
theorem dX0_copy_42 : decode cX0_copy 42 = .ok (.iload_n 2, 1) := by decide +kernel
theorem dX0_copy_43 : decode cX0_copy 43 = .ok (.iconst 5, 1) := by decide +kernel
theorem dX0_copy_44 : decode cX0_copy 44 = .ok (.if_icmp .ge 21, 3) := by decide +kernel
theorem dX0_copy_47 : decode cX0_copy 47 = .ok (.aload_n 0, 1) := by decide +kernel
theorem dX0_copy_48 : decode cX0_copy 48 = .ok (.getfield 18, 3) := by decide +kernel
theorem dX0_copy_51 : decode cX0_copy 51 = .ok (.iload_n 2, 1) := by decide +kernel
theorem dX0_copy_52 : decode cX0_copy 52 = .ok (.aload_n 1, 1) := by decide +kernel
theorem dX0_copy_53 : decode cX0_copy 53 = .ok (.getfield 18, 3) := by decide +kernel
theorem dX0_copy_56 : decode cX0_copy 56 = .ok (.iload_n 2, 1) := by decide +kernel
theorem dX0_copy_57 : decode cX0_copy 57 = .ok (.baload, 1) := by decide +kernel
theorem dX0_copy_58 : decode cX0_copy 58 = .ok (.bastore, 1) := by decide +kernel
theorem dX0_copy_59 : decode cX0_copy 59 = .ok (.iinc 2 1, 3) := by decide +kernel
theorem dX0_copy_62 : decode cX0_copy 62 = .ok (.goto (-20), 3) := by decide +kernel
theorem dX0_copy_65 : decode cX0_copy 65 = .ok (.aload_n 1, 1) := by decide +kernel
theorem dX0_copy_66 : decode cX0_copy 66 = .ok (.getfield 22, 3) := by decide +kernel
theorem dX0_copy_69 : decode cX0_copy 69 = .ok (.iconst 0, 1) := by decide +kernel
theorem dX0_copy_70 : decode cX0_copy 70 = .ok (.aload_n 0, 1) := by decide +kernel
theorem dX0_copy_71 : decode cX0_copy 71 = .ok (.getfield 22, 3) := by decide +kernel
theorem dX0_copy_74 : decode cX0_copy 74 = .ok (.iconst 0, 1) := by decide +kernel
theorem dX0_copy_75 : decode cX0_copy 75 = .ok (.aload_n 0, 1) := by decide +kernel
theorem dX0_copy_76 : decode cX0_copy 76 = .ok (.getfield 22, 3) := by decide +kernel
theorem dX0_copy_79 : decode cX0_copy 79 = .ok (.arraylength, 1) := by decide +kernel
theorem dX0_copy_80 : decode cX0_copy 80 = .ok (.invokestatic 85, 3) := by decide +kernel
theorem dX0_copy_83 : decode cX0_copy 83 = .ok (.aload_n 1, 1) := by decide +kernel
theorem dX0_copy_84 : decode cX0_copy 84 = .ok (.getfield 26, 3) := by decide +kernel
theorem dX0_copy_87 : decode cX0_copy 87 = .ok (.iconst 0, 1) := by decide +kernel
theorem dX0_copy_88 : decode cX0_copy 88 = .ok (.aload_n 0, 1) := by decide +kernel
theorem dX0_copy_89 : decode cX0_copy 89 = .ok (.getfield 26, 3) := by decide +kernel
theorem dX0_copy_92 : decode cX0_copy 92 = .ok (.iconst 0, 1) := by decide +kernel
theorem dX0_copy_93 : decode cX0_copy 93 = .ok (.aload_n 0, 1) := by decide +kernel
theorem dX0_copy_94 : decode cX0_copy 94 = .ok (.getfield 26, 3) := by decide +kernel
theorem dX0_copy_97 : decode cX0_copy 97 = .ok (.arraylength, 1) := by decide +kernel
theorem dX0_copy_98 : decode cX0_copy 98 = .ok (.invokestatic 85, 3) := by decide +kernel
theorem dX0_copy_101 : decode cX0_copy 101 = .ok (.aload_n 1, 1) := by decide +kernel
theorem dX0_copy_102 : decode cX0_copy 102 = .ok (.getfield 29, 3) := by decide +kernel
theorem dX0_copy_105 : decode cX0_copy 105 = .ok (.iconst 0, 1) := by decide +kernel
theorem dX0_copy_106 : decode cX0_copy 106 = .ok (.aload_n 0, 1) := by decide +kernel
theorem dX0_copy_107 : decode cX0_copy 107 = .ok (.getfield 29, 3) := by decide +kernel
theorem dX0_copy_110 : decode cX0_copy 110 = .ok (.iconst 0, 1) := by decide +kernel
theorem dX0_copy_111 : decode cX0_copy 111 = .ok (.aload_n 0, 1) := by decide +kernel
theorem dX0_copy_112 : decode cX0_copy 112 = .ok (.getfield 29, 3) := by decide +kernel
theorem dX0_copy_115 : decode cX0_copy 115 = .ok (.arraylength, 1) := by decide +kernel
theorem dX0_copy_116 : decode cX0_copy 116 = .ok (.invokestatic 85, 3) := by decide +kernel
theorem dX0_copy_119 : decode cX0_copy 119 = .ok (.aload_n 1, 1) := by decide +kernel
theorem dX0_copy_120 : decode cX0_copy 120 = .ok (.getfield 32, 3) := by decide +kernel
theorem dX0_copy_123 : decode cX0_copy 123 = .ok (.iconst 0, 1) := by decide +kernel
theorem dX0_copy_124 : decode cX0_copy 124 = .ok (.aload_n 0, 1) := by decide +kernel
theorem dX0_copy_125 : decode cX0_copy 125 = .ok (.getfield 32, 3) := by decide +kernel
theorem dX0_copy_128 : decode cX0_copy 128 = .ok (.iconst 0, 1) := by decide +kernel
theorem dX0_copy_129 : decode cX0_copy 129 = .ok (.bipush 24, 2) := by decide +kernel
theorem dX0_copy_131 : decode cX0_copy 131 = .ok (.invokestatic 85, 3) := by decide +kernel
theorem dX0_copy_134 : decode cX0_copy 134 = .ok (.aload_n 1, 1) := by decide +kernel
theorem dX0_copy_135 : decode cX0_copy 135 = .ok (.getfield 35, 3) := by decide +kernel
theorem dX0_copy_138 : decode cX0_copy 138 = .ok (.iconst 0, 1) := by decide +kernel
theorem dX0_copy_139 : decode cX0_copy 139 = .ok (.aload_n 0, 1) := by decide +kernel
theorem dX0_copy_140 : decode cX0_copy 140 = .ok (.getfield 35, 3) := by decide +kernel
theorem dX0_copy_143 : decode cX0_copy 143 = .ok (.iconst 0, 1) := by decide +kernel
theorem dX0_copy_144 : decode cX0_copy 144 = .ok (.bipush 24, 2) := by decide +kernel
theorem dX0_copy_146 : decode cX0_copy 146 = .ok (.invokestatic 85, 3) := by decide +kernel
theorem dX0_copy_149 : decode cX0_copy 149 = .ok (.aload_n 0, 1) := by decide +kernel
theorem dX0_copy_150 : decode cX0_copy 150 = .ok (.aload_n 1, 1) := by decide +kernel
theorem dX0_copy_151 : decode cX0_copy 151 = .ok (.getfield 73, 3) := by decide +kernel
theorem dX0_copy_154 : decode cX0_copy 154 = .ok (.putfield 73, 3) := by decide +kernel
theorem dX0_copy_157 : decode cX0_copy 157 = .ok (.aload_n 0, 1) := by decide +kernel
theorem dX0_copy_158 : decode cX0_copy 158 = .ok (.aload_n 1, 1) := by decide +kernel
theorem dX0_copy_159 : decode cX0_copy 159 = .ok (.getfield 67, 3) := by decide +kernel
theorem dX0_copy_162 : decode cX0_copy 162 = .ok (.putfield 67, 3) := by decide +kernel
theorem dX0_copy_165 : decode cX0_copy 165 = .ok (.aload_n 0, 1) := by decide +kernel
theorem dX0_copy_166 : decode cX0_copy 166 = .ok (.aload_n 1, 1) := by decide +kernel
theorem dX0_copy_167 : decode cX0_copy 167 = .ok (.getfield 76, 3) := by decide +kernel
theorem dX0_copy_170 : decode cX0_copy 170 = .ok (.putfield 76, 3) := by decide +kernel
theorem dX0_copy_173 : decode cX0_copy 173 = .ok (.aload_n 0, 1) := by decide +kernel
theorem dX0_copy_174 : decode cX0_copy 174 = .ok (.aload_n 1, 1) := by decide +kernel
theorem dX0_copy_175 : decode cX0_copy 175 = .ok (.getfield 79, 3) := by decide +kernel
theorem dX0_copy_178 : decode cX0_copy 178 = .ok (.putfield 79, 3) := by decide +kernel
theorem dX0_copy_181 : decode cX0_copy 181 = .ok (.aload_n 0, 1) := by decide +kernel
theorem dX0_copy_182 : decode cX0_copy 182 = .ok (.aload_n 1, 1) := by decide +kernel
theorem dX0_copy_183 : decode cX0_copy 183 = .ok (.getfield 82, 3) := by decide +kernel
theorem dX0_copy_186 : decode cX0_copy 186 = .ok (.putfield 82, 3) := by decide +kernel
theorem dX0_copy_189 : decode cX0_copy 189 = .ok (.return_, 1) := by decide +kernel
def f_X0_copy (M : MM) (a0 : Nat) (a1 : Nat) : Option (MM) :=
gH (M a1 1) fun b1 =>
bM (upM M a0 1 (b1 : Int)) fun M2 =>
bM (upM M2 a0 2 (M2 a1 2)) fun M3 =>
bM (upM M3 a0 3 (M3 a1 3)) fun M4 =>
bM (upM M4 a0 4 (M4 a1 4)) fun M5 =>
gd ((M5 a1 5) = 0 ∨ (M5 a1 5) = 1) <|
bM (upM M5 a0 5 (M5 a1 5)) fun M7 =>
(lp (X := Int × MM) (Y := MM) (fun x8 =>
if x8.1 < 5 then
(gd (0 ≤ x8.1 ∧ x8.1 < (5 : Int)) <|
gd (0 ≤ x8.1 ∧ x8.1 < (5 : Int)) <|
gd ((x8.2 (a1 + 2) (x8.1).toNat) = 0 ∨ (x8.2 (a1 + 2) (x8.1).toNat) = 1) <|
bM (upM x8.2 (a0 + 2) (x8.1).toNat (x8.2 (a1 + 2) (x8.1).toNat)) fun M13 =>
some (Sum.inl (w32 (x8.1 + 1), M13)))
else
some (Sum.inr x8.2)) FU (0, M7)).bind fun x14 =>
bM (cpM x14 (a1 + 3) (a0 + 3) 0 0 30) fun M15 =>
bM (cpM M15 (a1 + 4) (a0 + 4) 0 0 5) fun M16 =>
bM (cpM M16 (a1 + 5) (a0 + 5) 0 0 5) fun M17 =>
bM (cpM M17 (a1 + 6) (a0 + 6) 0 0 24) fun M18 =>
bM (cpM M18 (a1 + 7) (a0 + 7) 0 0 24) fun M19 =>
bM (upM M19 a0 13 (M19 a1 13)) fun M20 =>
bM (upM M20 a0 14 (M20 a1 14)) fun M21 =>
bM (upM M21 a0 15 (M21 a1 15)) fun M22 =>
bM (upM M22 a0 16 (M22 a1 16)) fun M23 =>
bM (upM M23 a0 17 (M23 a1 17)) fun M24 =>
some M24
set_option maxRecDepth 4000 in
theorem c_X0_copy {E : EE} {sh : List (Nat × Nat)} {R : RM} {M : MM} {a0 : Nat} {a1 : Nat} (hE : Ext sh) (hL : Links R) (hs0 : SH0[a0]? = some (0, 18)) (hs1 : SH0[a1]? = some (0, 18)) : ∀ y, f_X0_copy M a0 a1 = some y → MetC E m_X0_copy 0 0 [rV a0, rV a1] (sh, false, R, M) (fun r w' => r = none ∧ w' = (sh, false, R, y)) := by
  intro y hy
  refine MetC.seg (o := f_X0_copy M a0 a1) (t := (fun K y => K (none) (sh, false, R, y))) (L := [some (rV a0), some (rV a1), none]) (by decide) rfl (Nat.le_of_ble_eq_true rfl) ?_ hy ⟨rfl, rfl⟩
  unfold f_X0_copy
  refine Seg.step (pc' := 1) (I_aload_n (i := 0) dX0_copy_0 rfl rfl) ?_
  refine Seg.step (pc' := 2) (I_aload_n (i := 1) dX0_copy_1 rfl rfl) ?_
  refine S_gH fun b1 hb1 zb1 => ?_
  refine Seg.step (pc' := 5) (I_getH cls0 (by decide) wf_0_38 (hE _ _ hs1) rfl zb1 (hkp hb1) dX0_copy_2) ?_
  refine Seg.step (pc' := 8) (I_putH cls0 (by decide) wf_0_38 (hE _ _ hs0) rfl (hkq (hks hb1)) rfl dX0_copy_5) ?_
  refine S_bM fun M2 => ?_
  refine Seg.step (pc' := 9) (I_aload_n (i := 0) dX0_copy_8 rfl rfl) ?_
  refine Seg.step (pc' := 10) (I_aload_n (i := 1) dX0_copy_9 rfl rfl) ?_
  refine Seg.step (pc' := 13) (I_getI cls0 (by decide) wf_0_49 (hE _ _ hs1) rfl dX0_copy_10) ?_
  refine Seg.step (pc' := 16) (I_putI cls0 (by decide) wf_0_49 (hE _ _ hs0) rfl rfl dX0_copy_13) ?_
  refine S_bM fun M3 => ?_
  refine Seg.step (pc' := 17) (I_aload_n (i := 0) dX0_copy_16 rfl rfl) ?_
  refine Seg.step (pc' := 18) (I_aload_n (i := 1) dX0_copy_17 rfl rfl) ?_
  refine Seg.step (pc' := 21) (I_getI cls0 (by decide) wf_0_48 (hE _ _ hs1) rfl dX0_copy_18) ?_
  refine Seg.step (pc' := 24) (I_putI cls0 (by decide) wf_0_48 (hE _ _ hs0) rfl rfl dX0_copy_21) ?_
  refine S_bM fun M4 => ?_
  refine Seg.step (pc' := 25) (I_aload_n (i := 0) dX0_copy_24 rfl rfl) ?_
  refine Seg.step (pc' := 26) (I_aload_n (i := 1) dX0_copy_25 rfl rfl) ?_
  refine Seg.step (pc' := 29) (I_getI cls0 (by decide) wf_0_55 (hE _ _ hs1) rfl dX0_copy_26) ?_
  refine Seg.step (pc' := 32) (I_putI cls0 (by decide) wf_0_55 (hE _ _ hs0) rfl rfl dX0_copy_29) ?_
  refine S_bM fun M5 => ?_
  refine Seg.step (pc' := 33) (I_aload_n (i := 0) dX0_copy_32 rfl rfl) ?_
  refine Seg.step (pc' := 34) (I_aload_n (i := 1) dX0_copy_33 rfl rfl) ?_
  refine Seg.step (pc' := 37) (I_getZ cls0 (by decide) wf_0_56 (hE _ _ hs1) rfl dX0_copy_34) ?_
  refine S_gd fun h6 => ?_
  refine Seg.step (pc' := 40) (I_putZ cls0 (by decide) wf_0_56 (hE _ _ hs0) rfl rfl h6 dX0_copy_37) ?_
  refine S_bM fun M7 => ?_
  refine Seg.step (pc' := 41) (I_iconst dX0_copy_40 ⟨by decide, by decide⟩) ?_
  refine Seg.step (pc' := 42) (I_istore_n (i := 2) dX0_copy_41 rfl (by decide) rfl) ?_
  refine Seg.forget (Lle.ye (Lle.ye (Lle.ye (Lle.nil)))) ?_
  refine S_bind (Y := MM) (k' := 0) (n' := 0) 65 (fun y => [some (rV a0), some (rV a1), none]) (fun y => []) (fun y => (sh, false, R, y)) (S_loop (Y := Int × MM) (fun y => [some (rV a0), some (rV a1), some (iV y.1)]) (fun y => []) (fun y => (sh, false, R, y.2)) (fun x8 => ?_) FU (0, M7)) (fun x14 => ?_)
  · refine Seg.step (pc' := 43) (I_iload_n (i := 2) dX0_copy_42 rfl rfl) ?_
    refine Seg.step (pc' := 44) (I_iconst dX0_copy_43 ⟨by decide, by decide⟩) ?_
    refine S_icmp_ge (tgt := 65) dX0_copy_44 (by decide) (fun h9 => ?_) (fun h9 => ?_)
    · refine Seg.step (pc' := 48) (I_aload_n (i := 0) dX0_copy_47 rfl rfl) ?_
      refine Seg.step (pc' := 51) (I_getR cls0 (by decide) wf_0_18 (hE _ _ hs0) rfl (lk_0_7 hL hs0) dX0_copy_48) ?_
      refine Seg.step (pc' := 52) (I_iload_n (i := 2) dX0_copy_51 rfl rfl) ?_
      refine Seg.step (pc' := 53) (I_aload_n (i := 1) dX0_copy_52 rfl rfl) ?_
      refine Seg.step (pc' := 56) (I_getR cls0 (by decide) wf_0_18 (hE _ _ hs1) rfl (lk_0_7 hL hs1) dX0_copy_53) ?_
      refine Seg.step (pc' := 57) (I_iload_n (i := 2) dX0_copy_56 rfl rfl) ?_
      refine S_gd fun h10 => ?_
      refine Seg.step (pc' := 58) (I_zald (hE _ _ (sk_0_7 hs1)) h10 dX0_copy_57) ?_
      refine S_gd fun h11 => ?_
      refine S_gd fun h12 => ?_
      refine Seg.step (pc' := 59) (I_zast (hE _ _ (sk_0_7 hs0)) h11 h12 dX0_copy_58) ?_
      refine S_bM fun M13 => ?_
      refine Seg.step (pc' := 62) (I_iinc dX0_copy_59 rfl (by decide) rfl) ?_
      refine Seg.step (pc' := 42) (I_goto (tgt := 42) dX0_copy_62 (by decide)) ?_
      exact S_arr (fun K hK => GG.forget (Lle.ye (Lle.ye (Lle.ye (Lle.nil)))) hK)
    exact S_arr (fun K hK => GG.forget (Lle.ye (Lle.ye (Lle.no (Lle.nil)))) hK)
  refine Seg.step (pc' := 66) (I_aload_n (i := 1) dX0_copy_65 rfl rfl) ?_
  refine Seg.step (pc' := 69) (I_getR cls0 (by decide) wf_0_22 (hE _ _ hs1) rfl (lk_0_8 hL hs1) dX0_copy_66) ?_
  refine Seg.step (pc' := 70) (I_iconst dX0_copy_69 ⟨by decide, by decide⟩) ?_
  refine Seg.step (pc' := 71) (I_aload_n (i := 0) dX0_copy_70 rfl rfl) ?_
  refine Seg.step (pc' := 74) (I_getR cls0 (by decide) wf_0_22 (hE _ _ hs0) rfl (lk_0_8 hL hs0) dX0_copy_71) ?_
  refine Seg.step (pc' := 75) (I_iconst dX0_copy_74 ⟨by decide, by decide⟩) ?_
  refine Seg.step (pc' := 76) (I_aload_n (i := 0) dX0_copy_75 rfl rfl) ?_
  refine Seg.step (pc' := 79) (I_getR cls0 (by decide) wf_0_22 (hE _ _ hs0) rfl (lk_0_8 hL hs0) dX0_copy_76) ?_
  refine Seg.step (pc' := 80) (I_alen (hE _ _ (sk_0_8 hs0)) (by decide) ⟨by decide, by decide⟩ dX0_copy_79) ?_
  refine Seg.step (I_copy wm_0_85 wj_ac_n wj_ac_s wj_ac_i (hE _ _ (sk_0_8 hs1)) (hE _ _ (sk_0_8 hs0)) (by decide) (by decide) (Nat.le_of_ble_eq_true rfl) dX0_copy_80) ?_
  refine S_bM fun M15 => ?_
  refine Seg.step (pc' := 84) (I_aload_n (i := 1) dX0_copy_83 rfl rfl) ?_
  refine Seg.step (pc' := 87) (I_getR cls0 (by decide) wf_0_26 (hE _ _ hs1) rfl (lk_0_9 hL hs1) dX0_copy_84) ?_
  refine Seg.step (pc' := 88) (I_iconst dX0_copy_87 ⟨by decide, by decide⟩) ?_
  refine Seg.step (pc' := 89) (I_aload_n (i := 0) dX0_copy_88 rfl rfl) ?_
  refine Seg.step (pc' := 92) (I_getR cls0 (by decide) wf_0_26 (hE _ _ hs0) rfl (lk_0_9 hL hs0) dX0_copy_89) ?_
  refine Seg.step (pc' := 93) (I_iconst dX0_copy_92 ⟨by decide, by decide⟩) ?_
  refine Seg.step (pc' := 94) (I_aload_n (i := 0) dX0_copy_93 rfl rfl) ?_
  refine Seg.step (pc' := 97) (I_getR cls0 (by decide) wf_0_26 (hE _ _ hs0) rfl (lk_0_9 hL hs0) dX0_copy_94) ?_
  refine Seg.step (pc' := 98) (I_alen (hE _ _ (sk_0_9 hs0)) (by decide) ⟨by decide, by decide⟩ dX0_copy_97) ?_
  refine Seg.step (I_copy wm_0_85 wj_ac_n wj_ac_s wj_ac_i (hE _ _ (sk_0_9 hs1)) (hE _ _ (sk_0_9 hs0)) (by decide) (by decide) (Nat.le_of_ble_eq_true rfl) dX0_copy_98) ?_
  refine S_bM fun M16 => ?_
  refine Seg.step (pc' := 102) (I_aload_n (i := 1) dX0_copy_101 rfl rfl) ?_
  refine Seg.step (pc' := 105) (I_getR cls0 (by decide) wf_0_29 (hE _ _ hs1) rfl (lk_0_10 hL hs1) dX0_copy_102) ?_
  refine Seg.step (pc' := 106) (I_iconst dX0_copy_105 ⟨by decide, by decide⟩) ?_
  refine Seg.step (pc' := 107) (I_aload_n (i := 0) dX0_copy_106 rfl rfl) ?_
  refine Seg.step (pc' := 110) (I_getR cls0 (by decide) wf_0_29 (hE _ _ hs0) rfl (lk_0_10 hL hs0) dX0_copy_107) ?_
  refine Seg.step (pc' := 111) (I_iconst dX0_copy_110 ⟨by decide, by decide⟩) ?_
  refine Seg.step (pc' := 112) (I_aload_n (i := 0) dX0_copy_111 rfl rfl) ?_
  refine Seg.step (pc' := 115) (I_getR cls0 (by decide) wf_0_29 (hE _ _ hs0) rfl (lk_0_10 hL hs0) dX0_copy_112) ?_
  refine Seg.step (pc' := 116) (I_alen (hE _ _ (sk_0_10 hs0)) (by decide) ⟨by decide, by decide⟩ dX0_copy_115) ?_
  refine Seg.step (I_copy wm_0_85 wj_ac_n wj_ac_s wj_ac_i (hE _ _ (sk_0_10 hs1)) (hE _ _ (sk_0_10 hs0)) (by decide) (by decide) (Nat.le_of_ble_eq_true rfl) dX0_copy_116) ?_
  refine S_bM fun M17 => ?_
  refine Seg.step (pc' := 120) (I_aload_n (i := 1) dX0_copy_119 rfl rfl) ?_
  refine Seg.step (pc' := 123) (I_getR cls0 (by decide) wf_0_32 (hE _ _ hs1) rfl (lk_0_11 hL hs1) dX0_copy_120) ?_
  refine Seg.step (pc' := 124) (I_iconst dX0_copy_123 ⟨by decide, by decide⟩) ?_
  refine Seg.step (pc' := 125) (I_aload_n (i := 0) dX0_copy_124 rfl rfl) ?_
  refine Seg.step (pc' := 128) (I_getR cls0 (by decide) wf_0_32 (hE _ _ hs0) rfl (lk_0_11 hL hs0) dX0_copy_125) ?_
  refine Seg.step (pc' := 129) (I_iconst dX0_copy_128 ⟨by decide, by decide⟩) ?_
  refine Seg.step (pc' := 131) (I_bipush dX0_copy_129 (by decide) ⟨by decide, by decide⟩) ?_
  refine Seg.step (I_copy wm_0_85 wj_ac_n wj_ac_s wj_ac_i (hE _ _ (sk_0_11 hs1)) (hE _ _ (sk_0_11 hs0)) (by decide) (by decide) (Nat.le_of_ble_eq_true rfl) dX0_copy_131) ?_
  refine S_bM fun M18 => ?_
  refine Seg.step (pc' := 135) (I_aload_n (i := 1) dX0_copy_134 rfl rfl) ?_
  refine Seg.step (pc' := 138) (I_getR cls0 (by decide) wf_0_35 (hE _ _ hs1) rfl (lk_0_12 hL hs1) dX0_copy_135) ?_
  refine Seg.step (pc' := 139) (I_iconst dX0_copy_138 ⟨by decide, by decide⟩) ?_
  refine Seg.step (pc' := 140) (I_aload_n (i := 0) dX0_copy_139 rfl rfl) ?_
  refine Seg.step (pc' := 143) (I_getR cls0 (by decide) wf_0_35 (hE _ _ hs0) rfl (lk_0_12 hL hs0) dX0_copy_140) ?_
  refine Seg.step (pc' := 144) (I_iconst dX0_copy_143 ⟨by decide, by decide⟩) ?_
  refine Seg.step (pc' := 146) (I_bipush dX0_copy_144 (by decide) ⟨by decide, by decide⟩) ?_
  refine Seg.step (I_copy wm_0_85 wj_ac_n wj_ac_s wj_ac_i (hE _ _ (sk_0_12 hs1)) (hE _ _ (sk_0_12 hs0)) (by decide) (by decide) (Nat.le_of_ble_eq_true rfl) dX0_copy_146) ?_
  refine S_bM fun M19 => ?_
  refine Seg.step (pc' := 150) (I_aload_n (i := 0) dX0_copy_149 rfl rfl) ?_
  refine Seg.step (pc' := 151) (I_aload_n (i := 1) dX0_copy_150 rfl rfl) ?_
  refine Seg.step (pc' := 154) (I_getI cls0 (by decide) wf_0_73 (hE _ _ hs1) rfl dX0_copy_151) ?_
  refine Seg.step (pc' := 157) (I_putI cls0 (by decide) wf_0_73 (hE _ _ hs0) rfl rfl dX0_copy_154) ?_
  refine S_bM fun M20 => ?_
  refine Seg.step (pc' := 158) (I_aload_n (i := 0) dX0_copy_157 rfl rfl) ?_
  refine Seg.step (pc' := 159) (I_aload_n (i := 1) dX0_copy_158 rfl rfl) ?_
  refine Seg.step (pc' := 162) (I_getI cls0 (by decide) wf_0_67 (hE _ _ hs1) rfl dX0_copy_159) ?_
  refine Seg.step (pc' := 165) (I_putI cls0 (by decide) wf_0_67 (hE _ _ hs0) rfl rfl dX0_copy_162) ?_
  refine S_bM fun M21 => ?_
  refine Seg.step (pc' := 166) (I_aload_n (i := 0) dX0_copy_165 rfl rfl) ?_
  refine Seg.step (pc' := 167) (I_aload_n (i := 1) dX0_copy_166 rfl rfl) ?_
  refine Seg.step (pc' := 170) (I_getI cls0 (by decide) wf_0_76 (hE _ _ hs1) rfl dX0_copy_167) ?_
  refine Seg.step (pc' := 173) (I_putI cls0 (by decide) wf_0_76 (hE _ _ hs0) rfl rfl dX0_copy_170) ?_
  refine S_bM fun M22 => ?_
  refine Seg.step (pc' := 174) (I_aload_n (i := 0) dX0_copy_173 rfl rfl) ?_
  refine Seg.step (pc' := 175) (I_aload_n (i := 1) dX0_copy_174 rfl rfl) ?_
  refine Seg.step (pc' := 178) (I_getI cls0 (by decide) wf_0_79 (hE _ _ hs1) rfl dX0_copy_175) ?_
  refine Seg.step (pc' := 181) (I_putI cls0 (by decide) wf_0_79 (hE _ _ hs0) rfl rfl dX0_copy_178) ?_
  refine S_bM fun M23 => ?_
  refine Seg.step (pc' := 182) (I_aload_n (i := 0) dX0_copy_181 rfl rfl) ?_
  refine Seg.step (pc' := 183) (I_aload_n (i := 1) dX0_copy_182 rfl rfl) ?_
  refine Seg.step (pc' := 186) (I_getI cls0 (by decide) wf_0_82 (hE _ _ hs1) rfl dX0_copy_183) ?_
  refine Seg.step (pc' := 189) (I_putI cls0 (by decide) wf_0_82 (hE _ _ hs0) rfl rfl dX0_copy_186) ?_
  refine S_bM fun M24 => ?_
  exact S_vret dX0_copy_189 rfl (by decide) (by decide) (fun K hK => hK)
theorem dX0_isOn_0 : decode cX0_isOn 0 = .ok (.aload_n 0, 1) := by decide +kernel
theorem dX0_isOn_1 : decode cX0_isOn 1 = .ok (.getfield 38, 3) := by decide +kernel
theorem dX0_isOn_4 : decode cX0_isOn 4 = .ok (.getfield 60, 3) := by decide +kernel
theorem dX0_isOn_7 : decode cX0_isOn 7 = .ok (.getfield 91, 3) := by decide +kernel
theorem dX0_isOn_10 : decode cX0_isOn 10 = .ok (.ifCond .le 40, 3) := by decide +kernel
theorem dX0_isOn_13 : decode cX0_isOn 13 = .ok (.aload_n 0, 1) := by decide +kernel
theorem dX0_isOn_14 : decode cX0_isOn 14 = .ok (.getfield 22, 3) := by decide +kernel
theorem dX0_isOn_17 : decode cX0_isOn 17 = .ok (.aload_n 0, 1) := by decide +kernel
theorem dX0_isOn_18 : decode cX0_isOn 18 = .ok (.getfield 55, 3) := by decide +kernel
theorem dX0_isOn_21 : decode cX0_isOn 21 = .ok (.iaload, 1) := by decide +kernel
theorem dX0_isOn_22 : decode cX0_isOn 22 = .ok (.aload_n 0, 1) := by decide +kernel
theorem dX0_isOn_23 : decode cX0_isOn 23 = .ok (.getfield 56, 3) := by decide +kernel
theorem dX0_isOn_26 : decode cX0_isOn 26 = .ok (.ifCond .eq 8, 3) := by decide +kernel
theorem dX0_isOn_29 : decode cX0_isOn 29 = .ok (.bipush 50, 2) := by decide +kernel
theorem dX0_isOn_31 : decode cX0_isOn 31 = .ok (.goto 4, 3) := by decide +kernel
theorem dX0_isOn_34 : decode cX0_isOn 34 = .ok (.iconst 0, 1) := by decide +kernel
theorem dX0_isOn_35 : decode cX0_isOn 35 = .ok (.iadd, 1) := by decide +kernel
theorem dX0_isOn_36 : decode cX0_isOn 36 = .ok (.bipush 10, 2) := by decide +kernel
theorem dX0_isOn_38 : decode cX0_isOn 38 = .ok (.aload_n 0, 1) := by decide +kernel
theorem dX0_isOn_39 : decode cX0_isOn 39 = .ok (.getfield 48, 3) := by decide +kernel
theorem dX0_isOn_42 : decode cX0_isOn 42 = .ok (.imul, 1) := by decide +kernel
theorem dX0_isOn_43 : decode cX0_isOn 43 = .ok (.if_icmp .ge 7, 3) := by decide +kernel
theorem dX0_isOn_46 : decode cX0_isOn 46 = .ok (.iconst 1, 1) := by decide +kernel
theorem dX0_isOn_47 : decode cX0_isOn 47 = .ok (.goto 4, 3) := by decide +kernel
theorem dX0_isOn_50 : decode cX0_isOn 50 = .ok (.iconst 0, 1) := by decide +kernel
theorem dX0_isOn_51 : decode cX0_isOn 51 = .ok (.ireturn, 1) := by decide +kernel
def f_X0_isOn (M : MM) (a0 : Nat) : Option (Int) :=
gH (M a0 1) fun b1 =>
if 0 < (M (b1 + 1) 0) then
(gd (0 ≤ M a0 4 ∧ M a0 4 < (30 : Int)) <|
((if (M a0 5) = 0 then
(some 0)
else
some 50) : Option (Int)).bind fun x5 =>
if (w32 ((M (a0 + 3) (M a0 4).toNat) + x5)) < (w32 (10 * (M a0 3))) then
(some 1)
else
some 0)
else
some 0
set_option maxRecDepth 4000 in
theorem c_X0_isOn {E : EE} {sh : List (Nat × Nat)} {ex : Bool} {R : RM} {M : MM} {a0 : Nat} (hE : Ext sh) (hL : Links R) (hs0 : SH0[a0]? = some (0, 18)) : ∀ y, f_X0_isOn M a0 = some y → MetC E m_X0_isOn 0 0 [rV a0] (sh, ex, R, M) (fun r w' => r = some (iV y) ∧ w' = (sh, ex, R, M)) := by
  intro y hy
  refine MetC.seg (o := f_X0_isOn M a0) (t := (fun K y => K (some (iV y)) (sh, ex, R, M))) (L := [some (rV a0)]) (by decide) rfl (Nat.le_of_ble_eq_true rfl) ?_ hy ⟨rfl, rfl⟩
  unfold f_X0_isOn
  refine Seg.step (pc' := 1) (I_aload_n (i := 0) dX0_isOn_0 rfl rfl) ?_
  refine S_gH fun b1 hb1 zb1 => ?_
  refine Seg.step (pc' := 4) (I_getH cls0 (by decide) wf_0_38 (hE _ _ hs0) rfl zb1 (hkp hb1) dX0_isOn_1) ?_
  refine Seg.step (pc' := 7) (I_getR cls2 (by decide) wf_0_60 (hE _ _ (hks hb1)) rfl (lk_2_0 hL (hks hb1)) dX0_isOn_4) ?_
  refine Seg.step (pc' := 10) (I_getI cls8 (by decide) wf_0_91 (hE _ _ (sk_2_0 (hks hb1))) rfl dX0_isOn_7) ?_
  refine S_if_le (tgt := 50) dX0_isOn_10 (by decide) (fun h2 => ?_) (fun h2 => ?_)
  · refine Seg.step (pc' := 14) (I_aload_n (i := 0) dX0_isOn_13 rfl rfl) ?_
    refine Seg.step (pc' := 17) (I_getR cls0 (by decide) wf_0_22 (hE _ _ hs0) rfl (lk_0_8 hL hs0) dX0_isOn_14) ?_
    refine Seg.step (pc' := 18) (I_aload_n (i := 0) dX0_isOn_17 rfl rfl) ?_
    refine Seg.step (pc' := 21) (I_getI cls0 (by decide) wf_0_55 (hE _ _ hs0) rfl dX0_isOn_18) ?_
    refine S_gd fun h3 => ?_
    refine Seg.step (pc' := 22) (I_iald (hE _ _ (sk_0_8 hs0)) h3 dX0_isOn_21) ?_
    refine Seg.step (pc' := 23) (I_aload_n (i := 0) dX0_isOn_22 rfl rfl) ?_
    refine Seg.step (pc' := 26) (I_getZ cls0 (by decide) wf_0_56 (hE _ _ hs0) rfl dX0_isOn_23) ?_
    refine S_bind (Y := Int) (k' := 0) (n' := 0) 35 (fun y => [some (rV a0)]) (fun y => [iV y, iV (M (a0 + 3) (M a0 4).toNat)]) (fun y => (sh, ex, R, M)) ?_ (fun x5 => ?_)
    · refine S_if_eq (tgt := 34) dX0_isOn_26 (by decide) (fun h4 => ?_) (fun h4 => ?_)
      · refine Seg.step (pc' := 35) (I_iconst dX0_isOn_34 ⟨by decide, by decide⟩) ?_
        exact S_arr (fun K hK => GG.forget (Lle.ye (Lle.nil)) hK)
      refine Seg.step (pc' := 31) (I_bipush dX0_isOn_29 (by decide) ⟨by decide, by decide⟩) ?_
      refine Seg.step (pc' := 35) (I_goto (tgt := 35) dX0_isOn_31 (by decide)) ?_
      exact S_arr (fun K hK => GG.forget (Lle.ye (Lle.nil)) hK)
    refine Seg.step (pc' := 36) (I_iadd dX0_isOn_35) ?_
    refine Seg.step (pc' := 38) (I_bipush dX0_isOn_36 (by decide) ⟨by decide, by decide⟩) ?_
    refine Seg.step (pc' := 39) (I_aload_n (i := 0) dX0_isOn_38 rfl rfl) ?_
    refine Seg.step (pc' := 42) (I_getI cls0 (by decide) wf_0_48 (hE _ _ hs0) rfl dX0_isOn_39) ?_
    refine Seg.step (pc' := 43) (I_imul dX0_isOn_42) ?_
    refine S_icmp_ge (tgt := 50) dX0_isOn_43 (by decide) (fun h6 => ?_) (fun h6 => ?_)
    · refine Seg.step (pc' := 47) (I_iconst dX0_isOn_46 ⟨by decide, by decide⟩) ?_
      refine Seg.step (pc' := 51) (I_goto (tgt := 51) dX0_isOn_47 (by decide)) ?_
      exact S_zret dX0_isOn_51 rfl (by decide) (by decide) (by decide) (fun K hK => hK)
    refine Seg.step (pc' := 51) (I_iconst dX0_isOn_50 ⟨by decide, by decide⟩) ?_
    exact S_zret dX0_isOn_51 rfl (by decide) (by decide) (by decide) (fun K hK => hK)
  refine Seg.step (pc' := 51) (I_iconst dX0_isOn_50 ⟨by decide, by decide⟩) ?_
  exact S_zret dX0_isOn_51 rfl (by decide) (by decide) (by decide) (fun K hK => hK)
theorem dX10_lateOf_0 : decode cX10_lateOf 0 = .ok (.iload_n 1, 1) := by decide +kernel
theorem dX10_lateOf_1 : decode cX10_lateOf 1 = .ok (.aload_n 0, 1) := by decide +kernel
theorem dX10_lateOf_2 : decode cX10_lateOf 2 = .ok (.getfield 18, 3) := by decide +kernel
theorem dX10_lateOf_5 : decode cX10_lateOf 5 = .ok (.if_icmp .ne 8, 3) := by decide +kernel
theorem dX10_lateOf_8 : decode cX10_lateOf 8 = .ok (.aload_n 0, 1) := by decide +kernel
theorem dX10_lateOf_9 : decode cX10_lateOf 9 = .ok (.getfield 40, 3) := by decide +kernel
theorem dX10_lateOf_12 : decode cX10_lateOf 12 = .ok (.ireturn, 1) := by decide +kernel
theorem dX10_lateOf_13 : decode cX10_lateOf 13 = .ok (.aload_n 0, 1) := by decide +kernel
theorem dX10_lateOf_14 : decode cX10_lateOf 14 = .ok (.getfield 31, 3) := by decide +kernel
theorem dX10_lateOf_17 : decode cX10_lateOf 17 = .ok (.ifCond .eq 7, 3) := by decide +kernel
theorem dX10_lateOf_20 : decode cX10_lateOf 20 = .ok (.iconst 0, 1) := by decide +kernel
theorem dX10_lateOf_21 : decode cX10_lateOf 21 = .ok (.goto 4, 3) := by decide +kernel
theorem dX10_lateOf_24 : decode cX10_lateOf 24 = .ok (.iload_n 2, 1) := by decide +kernel
theorem dX10_lateOf_25 : decode cX10_lateOf 25 = .ok (.ireturn, 1) := by decide +kernel
def f_X10_lateOf (M : MM) (a0 : Nat) (p1 : Int) (p2 : Int) : Option (Int) :=
if p1 = (M a0 7) then
(some (M a0 8))
else
if (M a0 3) = 0 then
(some p2)
else
some 0
set_option maxRecDepth 4000 in
theorem c_X10_lateOf {E : EE} {sh : List (Nat × Nat)} {ex : Bool} {R : RM} {M : MM} {a0 : Nat} {p1 : Int} {p2 : Int} (hE : Ext sh) (hL : Links R) (hs0 : SH0[a0]? = some (10, 11)) : ∀ y, f_X10_lateOf M a0 p1 p2 = some y → MetC E m_X10_lateOf 0 0 [rV a0, iV p1, iV p2] (sh, ex, R, M) (fun r w' => r = some (iV y) ∧ w' = (sh, ex, R, M)) := by
  intro y hy
  refine MetC.seg (o := f_X10_lateOf M a0 p1 p2) (t := (fun K y => K (some (iV y)) (sh, ex, R, M))) (L := [some (rV a0), some (iV p1), some (iV p2)]) (by decide) rfl (Nat.le_of_ble_eq_true rfl) ?_ hy ⟨rfl, rfl⟩
  unfold f_X10_lateOf
  refine Seg.step (pc' := 1) (I_iload_n (i := 1) dX10_lateOf_0 rfl rfl) ?_
  refine Seg.step (pc' := 2) (I_aload_n (i := 0) dX10_lateOf_1 rfl rfl) ?_
  refine Seg.step (pc' := 5) (I_getI cls10 (by decide) wf_10_18 (hE _ _ hs0) rfl dX10_lateOf_2) ?_
  refine S_icmp_ne (tgt := 13) dX10_lateOf_5 (by decide) (fun h1 => ?_) (fun h1 => ?_)
  · refine Seg.step (pc' := 9) (I_aload_n (i := 0) dX10_lateOf_8 rfl rfl) ?_
    refine Seg.step (pc' := 12) (I_getI cls10 (by decide) wf_10_40 (hE _ _ hs0) rfl dX10_lateOf_9) ?_
    exact S_iret dX10_lateOf_12 rfl (by decide) (by decide) (fun K hK => hK)
  refine Seg.step (pc' := 14) (I_aload_n (i := 0) dX10_lateOf_13 rfl rfl) ?_
  refine Seg.step (pc' := 17) (I_getZ cls10 (by decide) wf_10_31 (hE _ _ hs0) rfl dX10_lateOf_14) ?_
  refine S_if_eq (tgt := 24) dX10_lateOf_17 (by decide) (fun h2 => ?_) (fun h2 => ?_)
  · refine Seg.step (pc' := 25) (I_iload_n (i := 2) dX10_lateOf_24 rfl rfl) ?_
    exact S_iret dX10_lateOf_25 rfl (by decide) (by decide) (fun K hK => hK)
  refine Seg.step (pc' := 21) (I_iconst dX10_lateOf_20 ⟨by decide, by decide⟩) ?_
  refine Seg.step (pc' := 25) (I_goto (tgt := 25) dX10_lateOf_21 (by decide)) ?_
  exact S_iret dX10_lateOf_25 rfl (by decide) (by decide) (fun K hK => hK)
theorem dX0_feltBy_0 : decode cX0_feltBy 0 = .ok (.aload_n 0, 1) := by decide +kernel
theorem dX0_feltBy_1 : decode cX0_feltBy 1 = .ok (.getfield 12, 3) := by decide +kernel
theorem dX0_feltBy_4 : decode cX0_feltBy 4 = .ok (.iload_n 1, 1) := by decide +kernel
theorem dX0_feltBy_5 : decode cX0_feltBy 5 = .ok (.aload_n 0, 1) := by decide +kernel
theorem dX0_feltBy_6 : decode cX0_feltBy 6 = .ok (.getfield 38, 3) := by decide +kernel
theorem dX0_feltBy_9 : decode cX0_feltBy 9 = .ok (.getfield 94, 3) := by decide +kernel
theorem dX0_feltBy_12 : decode cX0_feltBy 12 = .ok (.getfield 98, 3) := by decide +kernel
theorem dX0_feltBy_15 : decode cX0_feltBy 15 = .ok (.iload_n 1, 1) := by decide +kernel
theorem dX0_feltBy_16 : decode cX0_feltBy 16 = .ok (.iaload, 1) := by decide +kernel
theorem dX0_feltBy_17 : decode cX0_feltBy 17 = .ok (.invokevirtual 103, 3) := by decide +kernel
theorem dX0_feltBy_20 : decode cX0_feltBy 20 = .ok (.istore_n 2, 1) := by decide +kernel
theorem dX0_feltBy_21 : decode cX0_feltBy 21 = .ok (.aload_n 0, 1) := by decide +kernel
theorem dX0_feltBy_22 : decode cX0_feltBy 22 = .ok (.getfield 22, 3) := by decide +kernel
theorem dX0_feltBy_25 : decode cX0_feltBy 25 = .ok (.iload_n 2, 1) := by decide +kernel
theorem dX0_feltBy_26 : decode cX0_feltBy 26 = .ok (.iconst 5, 1) := by decide +kernel
theorem dX0_feltBy_27 : decode cX0_feltBy 27 = .ok (.imul, 1) := by decide +kernel
theorem dX0_feltBy_28 : decode cX0_feltBy 28 = .ok (.aload_n 0, 1) := by decide +kernel
theorem dX0_feltBy_29 : decode cX0_feltBy 29 = .ok (.getfield 38, 3) := by decide +kernel
theorem dX0_feltBy_32 : decode cX0_feltBy 32 = .ok (.getfield 94, 3) := by decide +kernel
theorem dX0_feltBy_35 : decode cX0_feltBy 35 = .ok (.getfield 107, 3) := by decide +kernel
theorem dX0_feltBy_38 : decode cX0_feltBy 38 = .ok (.iload_n 1, 1) := by decide +kernel
theorem dX0_feltBy_39 : decode cX0_feltBy 39 = .ok (.iaload, 1) := by decide +kernel
theorem dX0_feltBy_40 : decode cX0_feltBy 40 = .ok (.iadd, 1) := by decide +kernel
theorem dX0_feltBy_41 : decode cX0_feltBy 41 = .ok (.iaload, 1) := by decide +kernel
theorem dX0_feltBy_42 : decode cX0_feltBy 42 = .ok (.aload_n 0, 1) := by decide +kernel
theorem dX0_feltBy_43 : decode cX0_feltBy 43 = .ok (.getfield 18, 3) := by decide +kernel
theorem dX0_feltBy_46 : decode cX0_feltBy 46 = .ok (.iload_n 1, 1) := by decide +kernel
theorem dX0_feltBy_47 : decode cX0_feltBy 47 = .ok (.baload, 1) := by decide +kernel
theorem dX0_feltBy_48 : decode cX0_feltBy 48 = .ok (.ifCond .eq 8, 3) := by decide +kernel
theorem dX0_feltBy_51 : decode cX0_feltBy 51 = .ok (.bipush 20, 2) := by decide +kernel
theorem dX0_feltBy_53 : decode cX0_feltBy 53 = .ok (.goto 4, 3) := by decide +kernel
theorem dX0_feltBy_56 : decode cX0_feltBy 56 = .ok (.iconst 0, 1) := by decide +kernel
theorem dX0_feltBy_57 : decode cX0_feltBy 57 = .ok (.iadd, 1) := by decide +kernel
theorem dX0_feltBy_58 : decode cX0_feltBy 58 = .ok (.ireturn, 1) := by decide +kernel
def f_X0_feltBy (M : MM) (a0 : Nat) (p1 : Int) : Option (Int) :=
gH (M a0 1) fun b1 =>
gd (0 ≤ p1 ∧ p1 < (5 : Int)) <|
(f_X10_lateOf M (a0 + 1) p1 (M (b1 + 10) (p1).toNat)).bind fun x3 =>
gH (M a0 1) fun b4 =>
gd (0 ≤ p1 ∧ p1 < (5 : Int)) <|
gd (0 ≤ w32 ((w32 (x3 * 5)) + (M (b4 + 8) (p1).toNat)) ∧ w32 ((w32 (x3 * 5)) + (M (b4 + 8) (p1).toNat)) < (30 : Int)) <|
gd (0 ≤ p1 ∧ p1 < (5 : Int)) <|
((if (M (a0 + 2) (p1).toNat) = 0 then
(some 0)
else
some 20) : Option (Int)).bind fun x9 =>
some (w32 ((M (a0 + 3) (w32 ((w32 (x3 * 5)) + (M (b4 + 8) (p1).toNat))).toNat) + x9))
set_option maxRecDepth 4000 in
theorem c_X0_feltBy {E : EE} {sh : List (Nat × Nat)} {ex : Bool} {R : RM} {M : MM} {a0 : Nat} {p1 : Int} (hE : Ext sh) (hL : Links R) (hs0 : SH0[a0]? = some (0, 18)) : ∀ y, f_X0_feltBy M a0 p1 = some y → MetC E m_X0_feltBy 0 0 [rV a0, iV p1] (sh, ex, R, M) (fun r w' => r = some (iV y) ∧ w' = (sh, ex, R, M)) := by
  intro y hy
  refine MetC.seg (o := f_X0_feltBy M a0 p1) (t := (fun K y => K (some (iV y)) (sh, ex, R, M))) (L := [some (rV a0), some (iV p1), none]) (by decide) rfl (Nat.le_of_ble_eq_true rfl) ?_ hy ⟨rfl, rfl⟩
  unfold f_X0_feltBy
  refine Seg.step (pc' := 1) (I_aload_n (i := 0) dX0_feltBy_0 rfl rfl) ?_
  refine Seg.step (pc' := 4) (I_getR cls0 (by decide) wf_0_12 (hE _ _ hs0) rfl (lk_0_0 hL hs0) dX0_feltBy_1) ?_
  refine Seg.step (pc' := 5) (I_iload_n (i := 1) dX0_feltBy_4 rfl rfl) ?_
  refine Seg.step (pc' := 6) (I_aload_n (i := 0) dX0_feltBy_5 rfl rfl) ?_
  refine S_gH fun b1 hb1 zb1 => ?_
  refine Seg.step (pc' := 9) (I_getH cls0 (by decide) wf_0_38 (hE _ _ hs0) rfl zb1 (hkp hb1) dX0_feltBy_6) ?_
  refine Seg.step (pc' := 12) (I_getR cls2 (by decide) wf_0_94 (hE _ _ (hks hb1)) rfl (lk_2_1 hL (hks hb1)) dX0_feltBy_9) ?_
  refine Seg.step (pc' := 15) (I_getR cls6 (by decide) wf_0_98 (hE _ _ (sk_2_1 (hks hb1))) rfl (lk_6_4 hL (sk_2_1 (hks hb1))) dX0_feltBy_12) ?_
  refine Seg.step (pc' := 16) (I_iload_n (i := 1) dX0_feltBy_15 rfl rfl) ?_
  refine S_gd fun h2 => ?_
  refine Seg.step (pc' := 17) (I_iald (hE _ _ (sk_6_4 (sk_2_1 (hks hb1)))) h2 dX0_feltBy_16) ?_
  refine S_callV2 (md' := m_X10_lateOf) (fun y => some (iV y)) (fun y => (sh, ex, R, M)) (hE _ _ (sk_0_0 hs0)) ⟨by decide, rfl⟩ mm_X10_lateOf wm_0_103 ⟨rfl, rfl, by decide, by decide, by decide, by decide⟩ (Nat.le_of_ble_eq_true rfl) dX0_feltBy_17 (fun y hy => c_X10_lateOf hE hL (sk_0_0 hs0) y hy) (fun x3 => ?_)
  refine Seg.step (pc' := 21) (I_istore_n (i := 2) dX0_feltBy_20 rfl (by decide) rfl) ?_
  refine Seg.step (pc' := 22) (I_aload_n (i := 0) dX0_feltBy_21 rfl rfl) ?_
  refine Seg.step (pc' := 25) (I_getR cls0 (by decide) wf_0_22 (hE _ _ hs0) rfl (lk_0_8 hL hs0) dX0_feltBy_22) ?_
  refine Seg.step (pc' := 26) (I_iload_n (i := 2) dX0_feltBy_25 rfl rfl) ?_
  refine Seg.step (pc' := 27) (I_iconst dX0_feltBy_26 ⟨by decide, by decide⟩) ?_
  refine Seg.step (pc' := 28) (I_imul dX0_feltBy_27) ?_
  refine Seg.step (pc' := 29) (I_aload_n (i := 0) dX0_feltBy_28 rfl rfl) ?_
  refine S_gH fun b4 hb4 zb4 => ?_
  refine Seg.step (pc' := 32) (I_getH cls0 (by decide) wf_0_38 (hE _ _ hs0) rfl zb4 (hkp hb4) dX0_feltBy_29) ?_
  refine Seg.step (pc' := 35) (I_getR cls2 (by decide) wf_0_94 (hE _ _ (hks hb4)) rfl (lk_2_1 hL (hks hb4)) dX0_feltBy_32) ?_
  refine Seg.step (pc' := 38) (I_getR cls6 (by decide) wf_0_107 (hE _ _ (sk_2_1 (hks hb4))) rfl (lk_6_2 hL (sk_2_1 (hks hb4))) dX0_feltBy_35) ?_
  refine Seg.step (pc' := 39) (I_iload_n (i := 1) dX0_feltBy_38 rfl rfl) ?_
  refine S_gd fun h5 => ?_
  refine Seg.step (pc' := 40) (I_iald (hE _ _ (sk_6_2 (sk_2_1 (hks hb4)))) h5 dX0_feltBy_39) ?_
  refine Seg.step (pc' := 41) (I_iadd dX0_feltBy_40) ?_
  refine S_gd fun h6 => ?_
  refine Seg.step (pc' := 42) (I_iald (hE _ _ (sk_0_8 hs0)) h6 dX0_feltBy_41) ?_
  refine Seg.step (pc' := 43) (I_aload_n (i := 0) dX0_feltBy_42 rfl rfl) ?_
  refine Seg.step (pc' := 46) (I_getR cls0 (by decide) wf_0_18 (hE _ _ hs0) rfl (lk_0_7 hL hs0) dX0_feltBy_43) ?_
  refine Seg.step (pc' := 47) (I_iload_n (i := 1) dX0_feltBy_46 rfl rfl) ?_
  refine S_gd fun h7 => ?_
  refine Seg.step (pc' := 48) (I_zald (hE _ _ (sk_0_7 hs0)) h7 dX0_feltBy_47) ?_
  refine S_bind (Y := Int) (k' := 0) (n' := 0) 57 (fun y => [none, none, none]) (fun y => [iV y, iV (M (a0 + 3) (w32 ((w32 (x3 * 5)) + (M (b4 + 8) (p1).toNat))).toNat)]) (fun y => (sh, ex, R, M)) ?_ (fun x9 => ?_)
  · refine S_if_eq (tgt := 56) dX0_feltBy_48 (by decide) (fun h8 => ?_) (fun h8 => ?_)
    · refine Seg.step (pc' := 57) (I_iconst dX0_feltBy_56 ⟨by decide, by decide⟩) ?_
      exact S_arr (fun K hK => GG.forget (Lle.no (Lle.no (Lle.no (Lle.nil)))) hK)
    refine Seg.step (pc' := 53) (I_bipush dX0_feltBy_51 (by decide) ⟨by decide, by decide⟩) ?_
    refine Seg.step (pc' := 57) (I_goto (tgt := 57) dX0_feltBy_53 (by decide)) ?_
    exact S_arr (fun K hK => GG.forget (Lle.no (Lle.no (Lle.no (Lle.nil)))) hK)
  refine Seg.step (pc' := 58) (I_iadd dX0_feltBy_57) ?_
  exact S_iret dX0_feltBy_58 rfl (by decide) (by decide) (fun K hK => hK)
theorem dX0_crossOfAll_0 : decode cX0_crossOfAll 0 = .ok (.iconst 0, 1) := by decide +kernel
theorem dX0_crossOfAll_1 : decode cX0_crossOfAll 1 = .ok (.istore_n 1, 1) := by decide +kernel
theorem dX0_crossOfAll_2 : decode cX0_crossOfAll 2 = .ok (.iconst 0, 1) := by decide +kernel
theorem dX0_crossOfAll_3 : decode cX0_crossOfAll 3 = .ok (.istore_n 2, 1) := by decide +kernel
theorem dX0_crossOfAll_4 : decode cX0_crossOfAll 4 = .ok (.iload_n 2, 1) := by decide +kernel
theorem dX0_crossOfAll_5 : decode cX0_crossOfAll 5 = .ok (.aload_n 0, 1) := by decide +kernel
theorem dX0_crossOfAll_6 : decode cX0_crossOfAll 6 = .ok (.getfield 38, 3) := by decide +kernel
theorem dX0_crossOfAll_9 : decode cX0_crossOfAll 9 = .ok (.getfield 94, 3) := by decide +kernel
theorem dX0_crossOfAll_12 : decode cX0_crossOfAll 12 = .ok (.getfield 110, 3) := by decide +kernel
theorem dX0_crossOfAll_15 : decode cX0_crossOfAll 15 = .ok (.if_icmp .ge 18, 3) := by decide +kernel
theorem dX0_crossOfAll_18 : decode cX0_crossOfAll 18 = .ok (.iload_n 1, 1) := by decide +kernel
theorem dX0_crossOfAll_19 : decode cX0_crossOfAll 19 = .ok (.aload_n 0, 1) := by decide +kernel
theorem dX0_crossOfAll_20 : decode cX0_crossOfAll 20 = .ok (.getfield 26, 3) := by decide +kernel
theorem dX0_crossOfAll_23 : decode cX0_crossOfAll 23 = .ok (.iload_n 2, 1) := by decide +kernel
theorem dX0_crossOfAll_24 : decode cX0_crossOfAll 24 = .ok (.iaload, 1) := by decide +kernel
theorem dX0_crossOfAll_25 : decode cX0_crossOfAll 25 = .ok (.iadd, 1) := by decide +kernel
theorem dX0_crossOfAll_26 : decode cX0_crossOfAll 26 = .ok (.istore_n 1, 1) := by decide +kernel
theorem dX0_crossOfAll_27 : decode cX0_crossOfAll 27 = .ok (.iinc 2 1, 3) := by decide +kernel
theorem dX0_crossOfAll_30 : decode cX0_crossOfAll 30 = .ok (.goto (-26), 3) := by decide +kernel
theorem dX0_crossOfAll_33 : decode cX0_crossOfAll 33 = .ok (.iload_n 1, 1) := by decide +kernel
theorem dX0_crossOfAll_34 : decode cX0_crossOfAll 34 = .ok (.ireturn, 1) := by decide +kernel
def f_X0_crossOfAll (M : MM) (a0 : Nat) : Option (Int) :=
lp (X := Int × Int) (Y := Int) (fun x1 =>
gH (M a0 1) fun b2 =>
if x1.2 < (M (b2 + 6) 0) then
(gd (0 ≤ x1.2 ∧ x1.2 < (5 : Int)) <|
bI (w32 (x1.1 + (M (a0 + 4) (x1.2).toNat))) fun x5 =>
some (Sum.inl (x5, w32 (x1.2 + 1))))
else
some (Sum.inr x1.1)) FU (0, 0)
set_option maxRecDepth 4000 in
theorem c_X0_crossOfAll {E : EE} {sh : List (Nat × Nat)} {ex : Bool} {R : RM} {M : MM} {a0 : Nat} (hE : Ext sh) (hL : Links R) (hs0 : SH0[a0]? = some (0, 18)) : ∀ y, f_X0_crossOfAll M a0 = some y → MetC E m_X0_crossOfAll 0 0 [rV a0] (sh, ex, R, M) (fun r w' => r = some (iV y) ∧ w' = (sh, ex, R, M)) := by
  intro y hy
  refine MetC.seg (o := f_X0_crossOfAll M a0) (t := (fun K y => K (some (iV y)) (sh, ex, R, M))) (L := [some (rV a0), none, none]) (by decide) rfl (Nat.le_of_ble_eq_true rfl) ?_ hy ⟨rfl, rfl⟩
  unfold f_X0_crossOfAll
  refine Seg.step (pc' := 1) (I_iconst dX0_crossOfAll_0 ⟨by decide, by decide⟩) ?_
  refine Seg.step (pc' := 2) (I_istore_n (i := 1) dX0_crossOfAll_1 rfl (by decide) rfl) ?_
  refine Seg.step (pc' := 3) (I_iconst dX0_crossOfAll_2 ⟨by decide, by decide⟩) ?_
  refine Seg.step (pc' := 4) (I_istore_n (i := 2) dX0_crossOfAll_3 rfl (by decide) rfl) ?_
  refine Seg.forget (Lle.ye (Lle.ye (Lle.ye (Lle.nil)))) ?_
  refine S_loop (Y := Int × Int) (fun y => [some (rV a0), some (iV y.1), some (iV y.2)]) (fun y => []) (fun y => (sh, ex, R, M)) (fun x1 => ?_) FU (0, 0)
  refine Seg.step (pc' := 5) (I_iload_n (i := 2) dX0_crossOfAll_4 rfl rfl) ?_
  refine Seg.step (pc' := 6) (I_aload_n (i := 0) dX0_crossOfAll_5 rfl rfl) ?_
  refine S_gH fun b2 hb2 zb2 => ?_
  refine Seg.step (pc' := 9) (I_getH cls0 (by decide) wf_0_38 (hE _ _ hs0) rfl zb2 (hkp hb2) dX0_crossOfAll_6) ?_
  refine Seg.step (pc' := 12) (I_getR cls2 (by decide) wf_0_94 (hE _ _ (hks hb2)) rfl (lk_2_1 hL (hks hb2)) dX0_crossOfAll_9) ?_
  refine Seg.step (pc' := 15) (I_getI cls6 (by decide) wf_0_110 (hE _ _ (sk_2_1 (hks hb2))) rfl dX0_crossOfAll_12) ?_
  refine S_icmp_ge (tgt := 33) dX0_crossOfAll_15 (by decide) (fun h3 => ?_) (fun h3 => ?_)
  · refine Seg.step (pc' := 19) (I_iload_n (i := 1) dX0_crossOfAll_18 rfl rfl) ?_
    refine Seg.step (pc' := 20) (I_aload_n (i := 0) dX0_crossOfAll_19 rfl rfl) ?_
    refine Seg.step (pc' := 23) (I_getR cls0 (by decide) wf_0_26 (hE _ _ hs0) rfl (lk_0_9 hL hs0) dX0_crossOfAll_20) ?_
    refine Seg.step (pc' := 24) (I_iload_n (i := 2) dX0_crossOfAll_23 rfl rfl) ?_
    refine S_gd fun h4 => ?_
    refine Seg.step (pc' := 25) (I_iald (hE _ _ (sk_0_9 hs0)) h4 dX0_crossOfAll_24) ?_
    refine Seg.step (pc' := 26) (I_iadd dX0_crossOfAll_25) ?_
    refine S_bI fun x5 => ?_
    refine Seg.step (pc' := 27) (I_istore_n (i := 1) dX0_crossOfAll_26 rfl (by decide) rfl) ?_
    refine Seg.step (pc' := 30) (I_iinc dX0_crossOfAll_27 rfl (by decide) rfl) ?_
    refine Seg.step (pc' := 4) (I_goto (tgt := 4) dX0_crossOfAll_30 (by decide)) ?_
    exact S_arr (fun K hK => GG.forget (Lle.ye (Lle.ye (Lle.ye (Lle.nil)))) hK)
  refine Seg.step (pc' := 34) (I_iload_n (i := 1) dX0_crossOfAll_33 rfl rfl) ?_
  exact S_iret dX0_crossOfAll_34 rfl (by decide) (by decide) (fun K hK => hK)
theorem dX0_spreadNow_0 : decode cX0_spreadNow 0 = .ok (.aload_n 0, 1) := by decide +kernel
theorem dX0_spreadNow_1 : decode cX0_spreadNow 1 = .ok (.getfield 38, 3) := by decide +kernel
theorem dX0_spreadNow_4 : decode cX0_spreadNow 4 = .ok (.getfield 60, 3) := by decide +kernel
theorem dX0_spreadNow_7 : decode cX0_spreadNow 7 = .ok (.getfield 91, 3) := by decide +kernel
theorem dX0_spreadNow_10 : decode cX0_spreadNow 10 = .ok (.ifCond .ne 5, 3) := by decide +kernel
theorem dX0_spreadNow_13 : decode cX0_spreadNow 13 = .ok (.iconst 0, 1) := by decide +kernel
theorem dX0_spreadNow_14 : decode cX0_spreadNow 14 = .ok (.ireturn, 1) := by decide +kernel
theorem dX0_spreadNow_15 : decode cX0_spreadNow 15 = .ok (.aload_n 0, 1) := by decide +kernel
theorem dX0_spreadNow_16 : decode cX0_spreadNow 16 = .ok (.getfield 22, 3) := by decide +kernel
theorem dX0_spreadNow_19 : decode cX0_spreadNow 19 = .ok (.iconst 0, 1) := by decide +kernel
theorem dX0_spreadNow_20 : decode cX0_spreadNow 20 = .ok (.iaload, 1) := by decide +kernel
theorem dX0_spreadNow_21 : decode cX0_spreadNow 21 = .ok (.istore_n 1, 1) := by decide +kernel
theorem dX0_spreadNow_22 : decode cX0_spreadNow 22 = .ok (.aload_n 0, 1) := by decide +kernel
theorem dX0_spreadNow_23 : decode cX0_spreadNow 23 = .ok (.getfield 22, 3) := by decide +kernel
theorem dX0_spreadNow_26 : decode cX0_spreadNow 26 = .ok (.iconst 0, 1) := by decide +kernel
theorem dX0_spreadNow_27 : decode cX0_spreadNow 27 = .ok (.iaload, 1) := by decide +kernel
theorem dX0_spreadNow_28 : decode cX0_spreadNow 28 = .ok (.istore_n 2, 1) := by decide +kernel
theorem dX0_spreadNow_29 : decode cX0_spreadNow 29 = .ok (.iconst 1, 1) := by decide +kernel
theorem dX0_spreadNow_30 : decode cX0_spreadNow 30 = .ok (.istore_n 3, 1) := by decide +kernel
theorem dX0_spreadNow_31 : decode cX0_spreadNow 31 = .ok (.iload_n 3, 1) := by decide +kernel
theorem dX0_spreadNow_32 : decode cX0_spreadNow 32 = .ok (.aload_n 0, 1) := by decide +kernel
theorem dX0_spreadNow_33 : decode cX0_spreadNow 33 = .ok (.getfield 38, 3) := by decide +kernel
theorem dX0_spreadNow_36 : decode cX0_spreadNow 36 = .ok (.getfield 60, 3) := by decide +kernel
theorem dX0_spreadNow_39 : decode cX0_spreadNow 39 = .ok (.getfield 91, 3) := by decide +kernel
theorem dX0_spreadNow_42 : decode cX0_spreadNow 42 = .ok (.if_icmp .ge 31, 3) := by decide +kernel
theorem dX0_spreadNow_45 : decode cX0_spreadNow 45 = .ok (.iload_n 1, 1) := by decide +kernel
theorem dX0_spreadNow_46 : decode cX0_spreadNow 46 = .ok (.aload_n 0, 1) := by decide +kernel
theorem dX0_spreadNow_47 : decode cX0_spreadNow 47 = .ok (.getfield 22, 3) := by decide +kernel
theorem dX0_spreadNow_50 : decode cX0_spreadNow 50 = .ok (.iload_n 3, 1) := by decide +kernel
theorem dX0_spreadNow_51 : decode cX0_spreadNow 51 = .ok (.iaload, 1) := by decide +kernel
theorem dX0_spreadNow_52 : decode cX0_spreadNow 52 = .ok (.invokestatic 111, 3) := by decide +kernel
theorem dX0_spreadNow_55 : decode cX0_spreadNow 55 = .ok (.istore_n 1, 1) := by decide +kernel
theorem dX0_spreadNow_56 : decode cX0_spreadNow 56 = .ok (.iload_n 2, 1) := by decide +kernel
theorem dX0_spreadNow_57 : decode cX0_spreadNow 57 = .ok (.aload_n 0, 1) := by decide +kernel
theorem dX0_spreadNow_58 : decode cX0_spreadNow 58 = .ok (.getfield 22, 3) := by decide +kernel
theorem dX0_spreadNow_61 : decode cX0_spreadNow 61 = .ok (.iload_n 3, 1) := by decide +kernel
theorem dX0_spreadNow_62 : decode cX0_spreadNow 62 = .ok (.iaload, 1) := by decide +kernel
theorem dX0_spreadNow_63 : decode cX0_spreadNow 63 = .ok (.invokestatic 116, 3) := by decide +kernel
theorem dX0_spreadNow_66 : decode cX0_spreadNow 66 = .ok (.istore_n 2, 1) := by decide +kernel
theorem dX0_spreadNow_67 : decode cX0_spreadNow 67 = .ok (.iinc 3 1, 3) := by decide +kernel
theorem dX0_spreadNow_70 : decode cX0_spreadNow 70 = .ok (.goto (-39), 3) := by decide +kernel
theorem dX0_spreadNow_73 : decode cX0_spreadNow 73 = .ok (.iload_n 1, 1) := by decide +kernel
theorem dX0_spreadNow_74 : decode cX0_spreadNow 74 = .ok (.iload_n 2, 1) := by decide +kernel
theorem dX0_spreadNow_75 : decode cX0_spreadNow 75 = .ok (.isub, 1) := by decide +kernel
theorem dX0_spreadNow_76 : decode cX0_spreadNow 76 = .ok (.ireturn, 1) := by decide +kernel
def f_X0_spreadNow (M : MM) (a0 : Nat) : Option (Int) :=
gH (M a0 1) fun b1 =>
if (M (b1 + 1) 0) = 0 then
(some 0)
else
bI (M (a0 + 3) 0) fun x3 =>
bI (M (a0 + 3) 0) fun x4 =>
(lp (X := Int × Int × Int) (Y := Int × Int) (fun x5 =>
gH (M a0 1) fun b6 =>
if x5.2.2 < (M (b6 + 1) 0) then
(gd (0 ≤ x5.2.2 ∧ x5.2.2 < (30 : Int)) <|
bI (if x5.1 < M (a0 + 3) (x5.2.2).toNat then M (a0 + 3) (x5.2.2).toNat else x5.1) fun x9 =>
gd (0 ≤ x5.2.2 ∧ x5.2.2 < (30 : Int)) <|
bI (if M (a0 + 3) (x5.2.2).toNat < x5.2.1 then M (a0 + 3) (x5.2.2).toNat else x5.2.1) fun x11 =>
some (Sum.inl (x9, x11, w32 (x5.2.2 + 1))))
else
some (Sum.inr (x5.1, x5.2.1))) FU (x3, x4, 1)).bind fun x12 =>
some (w32 (x12.1 - x12.2))
set_option maxRecDepth 4000 in
theorem c_X0_spreadNow {E : EE} {sh : List (Nat × Nat)} {ex : Bool} {R : RM} {M : MM} {a0 : Nat} (hE : Ext sh) (hL : Links R) (hs0 : SH0[a0]? = some (0, 18)) : ∀ y, f_X0_spreadNow M a0 = some y → MetC E m_X0_spreadNow 0 0 [rV a0] (sh, ex, R, M) (fun r w' => r = some (iV y) ∧ w' = (sh, ex, R, M)) := by
  intro y hy
  refine MetC.seg (o := f_X0_spreadNow M a0) (t := (fun K y => K (some (iV y)) (sh, ex, R, M))) (L := [some (rV a0), none, none, none]) (by decide) rfl (Nat.le_of_ble_eq_true rfl) ?_ hy ⟨rfl, rfl⟩
  unfold f_X0_spreadNow
  refine Seg.step (pc' := 1) (I_aload_n (i := 0) dX0_spreadNow_0 rfl rfl) ?_
  refine S_gH fun b1 hb1 zb1 => ?_
  refine Seg.step (pc' := 4) (I_getH cls0 (by decide) wf_0_38 (hE _ _ hs0) rfl zb1 (hkp hb1) dX0_spreadNow_1) ?_
  refine Seg.step (pc' := 7) (I_getR cls2 (by decide) wf_0_60 (hE _ _ (hks hb1)) rfl (lk_2_0 hL (hks hb1)) dX0_spreadNow_4) ?_
  refine Seg.step (pc' := 10) (I_getI cls8 (by decide) wf_0_91 (hE _ _ (sk_2_0 (hks hb1))) rfl dX0_spreadNow_7) ?_
  refine S_if_ne (tgt := 15) dX0_spreadNow_10 (by decide) (fun h2 => ?_) (fun h2 => ?_)
  · refine Seg.step (pc' := 14) (I_iconst dX0_spreadNow_13 ⟨by decide, by decide⟩) ?_
    exact S_iret dX0_spreadNow_14 rfl (by decide) (by decide) (fun K hK => hK)
  refine Seg.step (pc' := 16) (I_aload_n (i := 0) dX0_spreadNow_15 rfl rfl) ?_
  refine Seg.step (pc' := 19) (I_getR cls0 (by decide) wf_0_22 (hE _ _ hs0) rfl (lk_0_8 hL hs0) dX0_spreadNow_16) ?_
  refine Seg.step (pc' := 20) (I_iconst dX0_spreadNow_19 ⟨by decide, by decide⟩) ?_
  refine Seg.step (pc' := 21) (I_iald (hE _ _ (sk_0_8 hs0)) ⟨by decide, by decide⟩ dX0_spreadNow_20) ?_
  refine S_bI fun x3 => ?_
  refine Seg.step (pc' := 22) (I_istore_n (i := 1) dX0_spreadNow_21 rfl (by decide) rfl) ?_
  refine Seg.step (pc' := 23) (I_aload_n (i := 0) dX0_spreadNow_22 rfl rfl) ?_
  refine Seg.step (pc' := 26) (I_getR cls0 (by decide) wf_0_22 (hE _ _ hs0) rfl (lk_0_8 hL hs0) dX0_spreadNow_23) ?_
  refine Seg.step (pc' := 27) (I_iconst dX0_spreadNow_26 ⟨by decide, by decide⟩) ?_
  refine Seg.step (pc' := 28) (I_iald (hE _ _ (sk_0_8 hs0)) ⟨by decide, by decide⟩ dX0_spreadNow_27) ?_
  refine S_bI fun x4 => ?_
  refine Seg.step (pc' := 29) (I_istore_n (i := 2) dX0_spreadNow_28 rfl (by decide) rfl) ?_
  refine Seg.step (pc' := 30) (I_iconst dX0_spreadNow_29 ⟨by decide, by decide⟩) ?_
  refine Seg.step (pc' := 31) (I_istore_n (i := 3) dX0_spreadNow_30 rfl (by decide) rfl) ?_
  refine Seg.forget (Lle.ye (Lle.ye (Lle.ye (Lle.ye (Lle.nil))))) ?_
  refine S_bind (Y := Int × Int) (k' := 0) (n' := 0) 73 (fun y => [none, some (iV y.1), some (iV y.2), none]) (fun y => []) (fun y => (sh, ex, R, M)) (S_loop (Y := Int × Int × Int) (fun y => [some (rV a0), some (iV y.1), some (iV y.2.1), some (iV y.2.2)]) (fun y => []) (fun y => (sh, ex, R, M)) (fun x5 => ?_) FU (x3, x4, 1)) (fun x12 => ?_)
  · refine Seg.step (pc' := 32) (I_iload_n (i := 3) dX0_spreadNow_31 rfl rfl) ?_
    refine Seg.step (pc' := 33) (I_aload_n (i := 0) dX0_spreadNow_32 rfl rfl) ?_
    refine S_gH fun b6 hb6 zb6 => ?_
    refine Seg.step (pc' := 36) (I_getH cls0 (by decide) wf_0_38 (hE _ _ hs0) rfl zb6 (hkp hb6) dX0_spreadNow_33) ?_
    refine Seg.step (pc' := 39) (I_getR cls2 (by decide) wf_0_60 (hE _ _ (hks hb6)) rfl (lk_2_0 hL (hks hb6)) dX0_spreadNow_36) ?_
    refine Seg.step (pc' := 42) (I_getI cls8 (by decide) wf_0_91 (hE _ _ (sk_2_0 (hks hb6))) rfl dX0_spreadNow_39) ?_
    refine S_icmp_ge (tgt := 73) dX0_spreadNow_42 (by decide) (fun h7 => ?_) (fun h7 => ?_)
    · refine Seg.step (pc' := 46) (I_iload_n (i := 1) dX0_spreadNow_45 rfl rfl) ?_
      refine Seg.step (pc' := 47) (I_aload_n (i := 0) dX0_spreadNow_46 rfl rfl) ?_
      refine Seg.step (pc' := 50) (I_getR cls0 (by decide) wf_0_22 (hE _ _ hs0) rfl (lk_0_8 hL hs0) dX0_spreadNow_47) ?_
      refine Seg.step (pc' := 51) (I_iload_n (i := 3) dX0_spreadNow_50 rfl rfl) ?_
      refine S_gd fun h8 => ?_
      refine Seg.step (pc' := 52) (I_iald (hE _ _ (sk_0_8 hs0)) h8 dX0_spreadNow_51) ?_
      refine Seg.step (I_mmax wm_0_111 wj_max_s wj_Math_i wj_max_c (by decide) (Nat.le_of_ble_eq_true rfl) (by decide) (by decide) dX0_spreadNow_52) ?_
      refine S_bI fun x9 => ?_
      refine Seg.step (pc' := 56) (I_istore_n (i := 1) dX0_spreadNow_55 rfl (by decide) rfl) ?_
      refine Seg.step (pc' := 57) (I_iload_n (i := 2) dX0_spreadNow_56 rfl rfl) ?_
      refine Seg.step (pc' := 58) (I_aload_n (i := 0) dX0_spreadNow_57 rfl rfl) ?_
      refine Seg.step (pc' := 61) (I_getR cls0 (by decide) wf_0_22 (hE _ _ hs0) rfl (lk_0_8 hL hs0) dX0_spreadNow_58) ?_
      refine Seg.step (pc' := 62) (I_iload_n (i := 3) dX0_spreadNow_61 rfl rfl) ?_
      refine S_gd fun h10 => ?_
      refine Seg.step (pc' := 63) (I_iald (hE _ _ (sk_0_8 hs0)) h10 dX0_spreadNow_62) ?_
      refine Seg.step (I_mmin wm_0_116 wj_min_s wj_Math_i wj_min_c (by decide) (Nat.le_of_ble_eq_true rfl) (by decide) (by decide) dX0_spreadNow_63) ?_
      refine S_bI fun x11 => ?_
      refine Seg.step (pc' := 67) (I_istore_n (i := 2) dX0_spreadNow_66 rfl (by decide) rfl) ?_
      refine Seg.step (pc' := 70) (I_iinc dX0_spreadNow_67 rfl (by decide) rfl) ?_
      refine Seg.step (pc' := 31) (I_goto (tgt := 31) dX0_spreadNow_70 (by decide)) ?_
      exact S_arr (fun K hK => GG.forget (Lle.ye (Lle.ye (Lle.ye (Lle.ye (Lle.nil))))) hK)
    exact S_arr (fun K hK => GG.forget (Lle.no (Lle.ye (Lle.ye (Lle.no (Lle.nil))))) hK)
  refine Seg.step (pc' := 74) (I_iload_n (i := 1) dX0_spreadNow_73 rfl rfl) ?_
  refine Seg.step (pc' := 75) (I_iload_n (i := 2) dX0_spreadNow_74 rfl rfl) ?_
  refine Seg.step (pc' := 76) (I_isub dX0_spreadNow_75) ?_
  exact S_iret dX0_spreadNow_76 rfl (by decide) (by decide) (fun K hK => hK)
theorem dX2_outAt_0 : decode cX2_outAt 0 = .ok (.aload_n 0, 1) := by decide +kernel
theorem dX2_outAt_1 : decode cX2_outAt 1 = .ok (.getfield 62, 3) := by decide +kernel
theorem dX2_outAt_4 : decode cX2_outAt 4 = .ok (.ifCond .le 21, 3) := by decide +kernel
theorem dX2_outAt_7 : decode cX2_outAt 7 = .ok (.iload_n 1, 1) := by decide +kernel
theorem dX2_outAt_8 : decode cX2_outAt 8 = .ok (.ifCond .lt 17, 3) := by decide +kernel
theorem dX2_outAt_11 : decode cX2_outAt 11 = .ok (.aload_n 0, 1) := by decide +kernel
theorem dX2_outAt_12 : decode cX2_outAt 12 = .ok (.getfield 42, 3) := by decide +kernel
theorem dX2_outAt_15 : decode cX2_outAt 15 = .ok (.iload_n 1, 1) := by decide +kernel
theorem dX2_outAt_16 : decode cX2_outAt 16 = .ok (.aload_n 0, 1) := by decide +kernel
theorem dX2_outAt_17 : decode cX2_outAt 17 = .ok (.getfield 62, 3) := by decide +kernel
theorem dX2_outAt_20 : decode cX2_outAt 20 = .ok (.irem, 1) := by decide +kernel
theorem dX2_outAt_21 : decode cX2_outAt 21 = .ok (.iaload, 1) := by decide +kernel
theorem dX2_outAt_22 : decode cX2_outAt 22 = .ok (.goto 5, 3) := by decide +kernel
theorem dX2_outAt_25 : decode cX2_outAt 25 = .ok (.bipush 100, 2) := by decide +kernel
theorem dX2_outAt_27 : decode cX2_outAt 27 = .ok (.ireturn, 1) := by decide +kernel
def f_X2_outAt (M : MM) (a0 : Nat) (p1 : Int) : Option (Int) :=
if 0 < (M a0 7) then
(if p1 < 0 then
(some 100)
else
gd (M a0 7 ≠ 0) <|
gd (0 ≤ w32 (Int.tmod p1 (M a0 7)) ∧ w32 (Int.tmod p1 (M a0 7)) < (8 : Int)) <|
some (M (a0 + 22) (w32 (Int.tmod p1 (M a0 7))).toNat))
else
some 100
set_option maxRecDepth 4000 in
theorem c_X2_outAt {E : EE} {sh : List (Nat × Nat)} {ex : Bool} {R : RM} {M : MM} {a0 : Nat} {p1 : Int} (hE : Ext sh) (hL : Links R) (hs0 : SH0[a0]? = some (2, 15)) : ∀ y, f_X2_outAt M a0 p1 = some y → MetC E m_X2_outAt 0 0 [rV a0, iV p1] (sh, ex, R, M) (fun r w' => r = some (iV y) ∧ w' = (sh, ex, R, M)) := by
  intro y hy
  refine MetC.seg (o := f_X2_outAt M a0 p1) (t := (fun K y => K (some (iV y)) (sh, ex, R, M))) (L := [some (rV a0), some (iV p1)]) (by decide) rfl (Nat.le_of_ble_eq_true rfl) ?_ hy ⟨rfl, rfl⟩
  unfold f_X2_outAt
  refine Seg.step (pc' := 1) (I_aload_n (i := 0) dX2_outAt_0 rfl rfl) ?_
  refine Seg.step (pc' := 4) (I_getI cls2 (by decide) wf_2_62 (hE _ _ hs0) rfl dX2_outAt_1) ?_
  refine S_if_le (tgt := 25) dX2_outAt_4 (by decide) (fun h1 => ?_) (fun h1 => ?_)
  · refine Seg.step (pc' := 8) (I_iload_n (i := 1) dX2_outAt_7 rfl rfl) ?_
    refine S_if_lt (tgt := 25) dX2_outAt_8 (by decide) (fun h2 => ?_) (fun h2 => ?_)
    · refine Seg.step (pc' := 27) (I_bipush dX2_outAt_25 (by decide) ⟨by decide, by decide⟩) ?_
      exact S_iret dX2_outAt_27 rfl (by decide) (by decide) (fun K hK => hK)
    refine Seg.step (pc' := 12) (I_aload_n (i := 0) dX2_outAt_11 rfl rfl) ?_
    refine Seg.step (pc' := 15) (I_getR cls2 (by decide) wf_2_42 (hE _ _ hs0) rfl (lk_2_8 hL hs0) dX2_outAt_12) ?_
    refine Seg.step (pc' := 16) (I_iload_n (i := 1) dX2_outAt_15 rfl rfl) ?_
    refine Seg.step (pc' := 17) (I_aload_n (i := 0) dX2_outAt_16 rfl rfl) ?_
    refine Seg.step (pc' := 20) (I_getI cls2 (by decide) wf_2_62 (hE _ _ hs0) rfl dX2_outAt_17) ?_
    refine S_gd fun h3 => ?_
    refine Seg.step (pc' := 21) (I_irem dX2_outAt_20 h3) ?_
    refine S_gd fun h4 => ?_
    refine Seg.step (pc' := 22) (I_iald (hE _ _ (sk_2_8 hs0)) h4 dX2_outAt_21) ?_
    refine Seg.step (pc' := 27) (I_goto (tgt := 27) dX2_outAt_22 (by decide)) ?_
    exact S_iret dX2_outAt_27 rfl (by decide) (by decide) (fun K hK => hK)
  refine Seg.step (pc' := 27) (I_bipush dX2_outAt_25 (by decide) ⟨by decide, by decide⟩) ?_
  exact S_iret dX2_outAt_27 rfl (by decide) (by decide) (fun K hK => hK)
theorem dX11_limited_0 : decode cX11_limited 0 = .ok (.lload_n 0, 1) := by decide +kernel
theorem dX11_limited_1 : decode cX11_limited 1 = .ok (.iload_n 2, 1) := by decide +kernel
theorem dX11_limited_2 : decode cX11_limited 2 = .ok (.i2l, 1) := by decide +kernel
theorem dX11_limited_3 : decode cX11_limited 3 = .ok (.lcmp, 1) := by decide +kernel
theorem dX11_limited_4 : decode cX11_limited 4 = .ok (.ifCond .ge 5, 3) := by decide +kernel
theorem dX11_limited_7 : decode cX11_limited 7 = .ok (.iload_n 2, 1) := by decide +kernel
theorem dX11_limited_8 : decode cX11_limited 8 = .ok (.ireturn, 1) := by decide +kernel
theorem dX11_limited_9 : decode cX11_limited 9 = .ok (.lload_n 0, 1) := by decide +kernel
theorem dX11_limited_10 : decode cX11_limited 10 = .ok (.iload_n 3, 1) := by decide +kernel
theorem dX11_limited_11 : decode cX11_limited 11 = .ok (.i2l, 1) := by decide +kernel
theorem dX11_limited_12 : decode cX11_limited 12 = .ok (.lcmp, 1) := by decide +kernel
theorem dX11_limited_13 : decode cX11_limited 13 = .ok (.ifCond .le 7, 3) := by decide +kernel
theorem dX11_limited_16 : decode cX11_limited 16 = .ok (.iload_n 3, 1) := by decide +kernel
theorem dX11_limited_17 : decode cX11_limited 17 = .ok (.goto 5, 3) := by decide +kernel
theorem dX11_limited_20 : decode cX11_limited 20 = .ok (.lload_n 0, 1) := by decide +kernel
theorem dX11_limited_21 : decode cX11_limited 21 = .ok (.l2i, 1) := by decide +kernel
theorem dX11_limited_22 : decode cX11_limited 22 = .ok (.ireturn, 1) := by decide +kernel
def f_X11_limited (M : MM) (p1 : Int) (p2 : Int) (p3 : Int) : Option (Int) :=
if (cmpI p1 p2) < 0 then
(some p2)
else
if 0 < (cmpI p1 p3) then
(some p3)
else
some (w32 p1)
set_option maxRecDepth 4000 in
theorem c_X11_limited {E : EE} {sh : List (Nat × Nat)} {ex : Bool} {R : RM} {M : MM} {p1 : Int} {p2 : Int} {p3 : Int} (hE : Ext sh) (hL : Links R) : ∀ y, f_X11_limited M p1 p2 p3 = some y → MetC E m_X11_limited 0 0 [jV p1, iV p2, iV p3] (sh, ex, R, M) (fun r w' => r = some (iV y) ∧ w' = (sh, ex, R, M)) := by
  intro y hy
  refine MetC.seg (o := f_X11_limited M p1 p2 p3) (t := (fun K y => K (some (iV y)) (sh, ex, R, M))) (L := [some (jV p1), none, some (iV p2), some (iV p3)]) (by decide) rfl (Nat.le_of_ble_eq_true rfl) ?_ hy ⟨rfl, rfl⟩
  unfold f_X11_limited
  refine Seg.step (pc' := 1) (I_lload_n (i := 0) dX11_limited_0 rfl rfl) ?_
  refine Seg.step (pc' := 2) (I_iload_n (i := 2) dX11_limited_1 rfl rfl) ?_
  refine Seg.step (pc' := 3) (I_i2l dX11_limited_2) ?_
  refine Seg.step (pc' := 4) (I_lcmp dX11_limited_3) ?_
  refine S_if_ge (tgt := 9) dX11_limited_4 (by decide) (fun h1 => ?_) (fun h1 => ?_)
  · refine Seg.step (pc' := 8) (I_iload_n (i := 2) dX11_limited_7 rfl rfl) ?_
    exact S_iret dX11_limited_8 rfl (by decide) (by decide) (fun K hK => hK)
  refine Seg.step (pc' := 10) (I_lload_n (i := 0) dX11_limited_9 rfl rfl) ?_
  refine Seg.step (pc' := 11) (I_iload_n (i := 3) dX11_limited_10 rfl rfl) ?_
  refine Seg.step (pc' := 12) (I_i2l dX11_limited_11) ?_
  refine Seg.step (pc' := 13) (I_lcmp dX11_limited_12) ?_
  refine S_if_le (tgt := 20) dX11_limited_13 (by decide) (fun h2 => ?_) (fun h2 => ?_)
  · refine Seg.step (pc' := 17) (I_iload_n (i := 3) dX11_limited_16 rfl rfl) ?_
    refine Seg.step (pc' := 22) (I_goto (tgt := 22) dX11_limited_17 (by decide)) ?_
    exact S_iret dX11_limited_22 rfl (by decide) (by decide) (fun K hK => hK)
  refine Seg.step (pc' := 21) (I_lload_n (i := 0) dX11_limited_20 rfl rfl) ?_
  refine Seg.step (pc' := 22) (I_l2i dX11_limited_21) ?_
  exact S_iret dX11_limited_22 rfl (by decide) (by decide) (fun K hK => hK)
theorem dX10_outOf_0 : decode cX10_outOf 0 = .ok (.aload_n 0, 1) := by decide +kernel
theorem dX10_outOf_1 : decode cX10_outOf 1 = .ok (.getfield 37, 3) := by decide +kernel
theorem dX10_outOf_4 : decode cX10_outOf 4 = .ok (.ifCond .ne 5, 3) := by decide +kernel
theorem dX10_outOf_7 : decode cX10_outOf 7 = .ok (.iload_n 1, 1) := by decide +kernel
theorem dX10_outOf_8 : decode cX10_outOf 8 = .ok (.ireturn, 1) := by decide +kernel
theorem dX10_outOf_9 : decode cX10_outOf 9 = .ok (.aload_n 0, 1) := by decide +kernel
theorem dX10_outOf_10 : decode cX10_outOf 10 = .ok (.aload_n 0, 1) := by decide +kernel
theorem dX10_outOf_11 : decode cX10_outOf 11 = .ok (.getfield 43, 3) := by decide +kernel
theorem dX10_outOf_14 : decode cX10_outOf 14 = .ok (.ldc2_w 47, 3) := by decide +kernel
theorem dX10_outOf_17 : decode cX10_outOf 17 = .ok (.lmul, 1) := by decide +kernel
theorem dX10_outOf_18 : decode cX10_outOf 18 = .ok (.ldc2_w 49, 3) := by decide +kernel
theorem dX10_outOf_21 : decode cX10_outOf 21 = .ok (.ladd, 1) := by decide +kernel
theorem dX10_outOf_22 : decode cX10_outOf 22 = .ok (.ldc2_w 51, 3) := by decide +kernel
theorem dX10_outOf_25 : decode cX10_outOf 25 = .ok (.land, 1) := by decide +kernel
theorem dX10_outOf_26 : decode cX10_outOf 26 = .ok (.putfield 43, 3) := by decide +kernel
theorem dX10_outOf_29 : decode cX10_outOf 29 = .ok (.iload_n 1, 1) := by decide +kernel
theorem dX10_outOf_30 : decode cX10_outOf 30 = .ok (.i2l, 1) := by decide +kernel
theorem dX10_outOf_31 : decode cX10_outOf 31 = .ok (.aload_n 0, 1) := by decide +kernel
theorem dX10_outOf_32 : decode cX10_outOf 32 = .ok (.getfield 43, 3) := by decide +kernel
theorem dX10_outOf_35 : decode cX10_outOf 35 = .ok (.ldc2_w 53, 3) := by decide +kernel
theorem dX10_outOf_38 : decode cX10_outOf 38 = .ok (.ldiv, 1) := by decide +kernel
theorem dX10_outOf_39 : decode cX10_outOf 39 = .ok (.ldc2_w 55, 3) := by decide +kernel
theorem dX10_outOf_42 : decode cX10_outOf 42 = .ok (.lrem, 1) := by decide +kernel
theorem dX10_outOf_43 : decode cX10_outOf 43 = .ok (.ladd, 1) := by decide +kernel
theorem dX10_outOf_44 : decode cX10_outOf 44 = .ok (.ldc2_w 57, 3) := by decide +kernel
theorem dX10_outOf_47 : decode cX10_outOf 47 = .ok (.lsub, 1) := by decide +kernel
theorem dX10_outOf_48 : decode cX10_outOf 48 = .ok (.iconst 0, 1) := by decide +kernel
theorem dX10_outOf_49 : decode cX10_outOf 49 = .ok (.sipush 400, 3) := by decide +kernel
theorem dX10_outOf_52 : decode cX10_outOf 52 = .ok (.invokestatic 59, 3) := by decide +kernel
theorem dX10_outOf_55 : decode cX10_outOf 55 = .ok (.ireturn, 1) := by decide +kernel
def f_X10_outOf (M : MM) (a0 : Nat) (p1 : Int) : Option (Int × MM) :=
if (M a0 9) = 0 then
(some (p1, M))
else
bM (upM M a0 10 (and64 (w64 ((w64 ((M a0 10) * 1103515245)) + 12345)) 2147483647)) fun M2 =>
(f_X11_limited M2 (w64 ((w64 (p1 + (w64 (Int.tmod (w64 (Int.tdiv (M2 a0 10) 65536)) 101)))) - 50)) 0 400).bind fun x3 =>
some (x3, M2)
set_option maxRecDepth 4000 in
theorem c_X10_outOf {E : EE} {sh : List (Nat × Nat)} {ex : Bool} {R : RM} {M : MM} {a0 : Nat} {p1 : Int} (hE : Ext sh) (hL : Links R) (hs0 : SH0[a0]? = some (10, 11)) : ∀ y, f_X10_outOf M a0 p1 = some y → MetC E m_X10_outOf 0 0 [rV a0, iV p1] (sh, ex, R, M) (fun r w' => r = some (iV y.1) ∧ w' = (sh, ex, R, y.2)) := by
  intro y hy
  refine MetC.seg (o := f_X10_outOf M a0 p1) (t := (fun K y => K (some (iV y.1)) (sh, ex, R, y.2))) (L := [some (rV a0), some (iV p1)]) (by decide) rfl (Nat.le_of_ble_eq_true rfl) ?_ hy ⟨rfl, rfl⟩
  unfold f_X10_outOf
  refine Seg.step (pc' := 1) (I_aload_n (i := 0) dX10_outOf_0 rfl rfl) ?_
  refine Seg.step (pc' := 4) (I_getZ cls10 (by decide) wf_10_37 (hE _ _ hs0) rfl dX10_outOf_1) ?_
  refine S_if_ne (tgt := 9) dX10_outOf_4 (by decide) (fun h1 => ?_) (fun h1 => ?_)
  · refine Seg.step (pc' := 8) (I_iload_n (i := 1) dX10_outOf_7 rfl rfl) ?_
    exact S_iret dX10_outOf_8 rfl (by decide) (by decide) (fun K hK => hK)
  refine Seg.step (pc' := 10) (I_aload_n (i := 0) dX10_outOf_9 rfl rfl) ?_
  refine Seg.step (pc' := 11) (I_aload_n (i := 0) dX10_outOf_10 rfl rfl) ?_
  refine Seg.step (pc' := 14) (I_getJ cls10 (by decide) wf_10_43 (hE _ _ hs0) rfl dX10_outOf_11) ?_
  refine Seg.step (pc' := 17) (I_ldc2 (z := 1103515245) dX10_outOf_14 wk_10_47 ⟨by decide, by decide⟩) ?_
  refine Seg.step (pc' := 18) (I_lmul dX10_outOf_17) ?_
  refine Seg.step (pc' := 21) (I_ldc2 (z := 12345) dX10_outOf_18 wk_10_49 ⟨by decide, by decide⟩) ?_
  refine Seg.step (pc' := 22) (I_ladd dX10_outOf_21) ?_
  refine Seg.step (pc' := 25) (I_ldc2 (z := 2147483647) dX10_outOf_22 wk_10_51 ⟨by decide, by decide⟩) ?_
  refine Seg.step (pc' := 26) (I_land dX10_outOf_25) ?_
  refine Seg.step (pc' := 29) (I_putJ cls10 (by decide) wf_10_43 (hE _ _ hs0) rfl rfl dX10_outOf_26) ?_
  refine S_bM fun M2 => ?_
  refine Seg.step (pc' := 30) (I_iload_n (i := 1) dX10_outOf_29 rfl rfl) ?_
  refine Seg.step (pc' := 31) (I_i2l dX10_outOf_30) ?_
  refine Seg.step (pc' := 32) (I_aload_n (i := 0) dX10_outOf_31 rfl rfl) ?_
  refine Seg.step (pc' := 35) (I_getJ cls10 (by decide) wf_10_43 (hE _ _ hs0) rfl dX10_outOf_32) ?_
  refine Seg.step (pc' := 38) (I_ldc2 (z := 65536) dX10_outOf_35 wk_10_53 ⟨by decide, by decide⟩) ?_
  refine Seg.step (pc' := 39) (I_ldiv dX10_outOf_38 (by decide)) ?_
  refine Seg.step (pc' := 42) (I_ldc2 (z := 101) dX10_outOf_39 wk_10_55 ⟨by decide, by decide⟩) ?_
  refine Seg.step (pc' := 43) (I_lrem dX10_outOf_42 (by decide)) ?_
  refine Seg.step (pc' := 44) (I_ladd dX10_outOf_43) ?_
  refine Seg.step (pc' := 47) (I_ldc2 (z := 50) dX10_outOf_44 wk_10_57 ⟨by decide, by decide⟩) ?_
  refine Seg.step (pc' := 48) (I_lsub dX10_outOf_47) ?_
  refine Seg.step (pc' := 49) (I_iconst dX10_outOf_48 ⟨by decide, by decide⟩) ?_
  refine Seg.step (pc' := 52) (I_sipush dX10_outOf_49 (by decide) ⟨by decide, by decide⟩) ?_
  refine S_callN3 (md' := m_X11_limited) (fun y => some (iV y)) (fun y => (sh, ex, R, M2)) mm_X11_limited wn_10_59 ⟨rfl, rfl, by decide, by decide, by decide, by decide⟩ (Nat.le_of_ble_eq_true rfl) dX10_outOf_52 (fun y hy => c_X11_limited hE hL y hy) (fun x3 => ?_)
  exact S_iret dX10_outOf_55 rfl (by decide) (by decide) (fun K hK => hK)
theorem dX2_sunOn_0 : decode cX2_sunOn 0 = .ok (.iconst 0, 1) := by decide +kernel
theorem dX2_sunOn_1 : decode cX2_sunOn 1 = .ok (.istore_n 3, 1) := by decide +kernel
theorem dX2_sunOn_2 : decode cX2_sunOn 2 = .ok (.iconst 0, 1) := by decide +kernel
theorem dX2_sunOn_3 : decode cX2_sunOn 3 = .ok (.istore 4, 2) := by decide +kernel
theorem dX2_sunOn_5 : decode cX2_sunOn 5 = .ok (.iload 4, 2) := by decide +kernel
theorem dX2_sunOn_7 : decode cX2_sunOn 7 = .ok (.aload_n 0, 1) := by decide +kernel
theorem dX2_sunOn_8 : decode cX2_sunOn 8 = .ok (.getfield 59, 3) := by decide +kernel
theorem dX2_sunOn_11 : decode cX2_sunOn 11 = .ok (.if_icmp .ge 41, 3) := by decide +kernel
theorem dX2_sunOn_14 : decode cX2_sunOn 14 = .ok (.aload_n 0, 1) := by decide +kernel
theorem dX2_sunOn_15 : decode cX2_sunOn 15 = .ok (.getfield 32, 3) := by decide +kernel
theorem dX2_sunOn_18 : decode cX2_sunOn 18 = .ok (.iload 4, 2) := by decide +kernel
theorem dX2_sunOn_20 : decode cX2_sunOn 20 = .ok (.iaload, 1) := by decide +kernel
theorem dX2_sunOn_21 : decode cX2_sunOn 21 = .ok (.iload_n 1, 1) := by decide +kernel
theorem dX2_sunOn_22 : decode cX2_sunOn 22 = .ok (.if_icmp .ne 24, 3) := by decide +kernel
theorem dX2_sunOn_25 : decode cX2_sunOn 25 = .ok (.aload_n 0, 1) := by decide +kernel
theorem dX2_sunOn_26 : decode cX2_sunOn 26 = .ok (.getfield 36, 3) := by decide +kernel
theorem dX2_sunOn_29 : decode cX2_sunOn 29 = .ok (.iload 4, 2) := by decide +kernel
theorem dX2_sunOn_31 : decode cX2_sunOn 31 = .ok (.iaload, 1) := by decide +kernel
theorem dX2_sunOn_32 : decode cX2_sunOn 32 = .ok (.iload_n 2, 1) := by decide +kernel
theorem dX2_sunOn_33 : decode cX2_sunOn 33 = .ok (.if_icmp .ne 13, 3) := by decide +kernel
theorem dX2_sunOn_36 : decode cX2_sunOn 36 = .ok (.iload_n 3, 1) := by decide +kernel
theorem dX2_sunOn_37 : decode cX2_sunOn 37 = .ok (.aload_n 0, 1) := by decide +kernel
theorem dX2_sunOn_38 : decode cX2_sunOn 38 = .ok (.getfield 39, 3) := by decide +kernel
theorem dX2_sunOn_41 : decode cX2_sunOn 41 = .ok (.iload 4, 2) := by decide +kernel
theorem dX2_sunOn_43 : decode cX2_sunOn 43 = .ok (.iaload, 1) := by decide +kernel
theorem dX2_sunOn_44 : decode cX2_sunOn 44 = .ok (.iadd, 1) := by decide +kernel
theorem dX2_sunOn_45 : decode cX2_sunOn 45 = .ok (.istore_n 3, 1) := by decide +kernel
theorem dX2_sunOn_46 : decode cX2_sunOn 46 = .ok (.iinc 4 1, 3) := by decide +kernel
theorem dX2_sunOn_49 : decode cX2_sunOn 49 = .ok (.goto (-44), 3) := by decide +kernel
theorem dX2_sunOn_52 : decode cX2_sunOn 52 = .ok (.iload_n 3, 1) := by decide +kernel
theorem dX2_sunOn_53 : decode cX2_sunOn 53 = .ok (.ireturn, 1) := by decide +kernel
def f_X2_sunOn (M : MM) (a0 : Nat) (p1 : Int) (p2 : Int) : Option (Int) :=
lp (X := Int × Int) (Y := Int) (fun x1 =>
if x1.2 < (M a0 3) then
(gd (0 ≤ x1.2 ∧ x1.2 < (4 : Int)) <|
((if (M (a0 + 19) (x1.2).toNat) = p1 then
(gd (0 ≤ x1.2 ∧ x1.2 < (4 : Int)) <|
if (M (a0 + 20) (x1.2).toNat) = p2 then
(gd (0 ≤ x1.2 ∧ x1.2 < (4 : Int)) <|
bI (w32 (x1.1 + (M (a0 + 21) (x1.2).toNat))) fun x8 =>
some x8)
else
some x1.1)
else
some x1.1) : Option (Int)).bind fun x9 =>
some (Sum.inl (x9, w32 (x1.2 + 1))))
else
some (Sum.inr x1.1)) FU (0, 0)
set_option maxRecDepth 4000 in
theorem c_X2_sunOn {E : EE} {sh : List (Nat × Nat)} {ex : Bool} {R : RM} {M : MM} {a0 : Nat} {p1 : Int} {p2 : Int} (hE : Ext sh) (hL : Links R) (hs0 : SH0[a0]? = some (2, 15)) : ∀ y, f_X2_sunOn M a0 p1 p2 = some y → MetC E m_X2_sunOn 0 0 [rV a0, iV p1, iV p2] (sh, ex, R, M) (fun r w' => r = some (iV y) ∧ w' = (sh, ex, R, M)) := by
  intro y hy
  refine MetC.seg (o := f_X2_sunOn M a0 p1 p2) (t := (fun K y => K (some (iV y)) (sh, ex, R, M))) (L := [some (rV a0), some (iV p1), some (iV p2), none, none]) (by decide) rfl (Nat.le_of_ble_eq_true rfl) ?_ hy ⟨rfl, rfl⟩
  unfold f_X2_sunOn
  refine Seg.step (pc' := 1) (I_iconst dX2_sunOn_0 ⟨by decide, by decide⟩) ?_
  refine Seg.step (pc' := 2) (I_istore_n (i := 3) dX2_sunOn_1 rfl (by decide) rfl) ?_
  refine Seg.step (pc' := 3) (I_iconst dX2_sunOn_2 ⟨by decide, by decide⟩) ?_
  refine Seg.step (pc' := 5) (I_istore dX2_sunOn_3 (by decide) rfl) ?_
  refine Seg.forget (Lle.ye (Lle.ye (Lle.ye (Lle.ye (Lle.ye (Lle.nil)))))) ?_
  refine S_loop (Y := Int × Int) (fun y => [some (rV a0), some (iV p1), some (iV p2), some (iV y.1), some (iV y.2)]) (fun y => []) (fun y => (sh, ex, R, M)) (fun x1 => ?_) FU (0, 0)
  refine Seg.step (pc' := 7) (I_iload dX2_sunOn_5 rfl) ?_
  refine Seg.step (pc' := 8) (I_aload_n (i := 0) dX2_sunOn_7 rfl rfl) ?_
  refine Seg.step (pc' := 11) (I_getI cls2 (by decide) wf_2_59 (hE _ _ hs0) rfl dX2_sunOn_8) ?_
  refine S_icmp_ge (tgt := 52) dX2_sunOn_11 (by decide) (fun h2 => ?_) (fun h2 => ?_)
  · refine Seg.step (pc' := 15) (I_aload_n (i := 0) dX2_sunOn_14 rfl rfl) ?_
    refine Seg.step (pc' := 18) (I_getR cls2 (by decide) wf_2_32 (hE _ _ hs0) rfl (lk_2_4 hL hs0) dX2_sunOn_15) ?_
    refine Seg.step (pc' := 20) (I_iload dX2_sunOn_18 rfl) ?_
    refine S_gd fun h3 => ?_
    refine Seg.step (pc' := 21) (I_iald (hE _ _ (sk_2_4 hs0)) h3 dX2_sunOn_20) ?_
    refine Seg.step (pc' := 22) (I_iload_n (i := 1) dX2_sunOn_21 rfl rfl) ?_
    refine S_bind (Y := Int) (k' := 0) (n' := 0) 46 (fun y => [some (rV a0), some (iV p1), some (iV p2), some (iV y), some (iV x1.2)]) (fun y => []) (fun y => (sh, ex, R, M)) ?_ (fun x9 => ?_)
    · refine S_icmp_ne (tgt := 46) dX2_sunOn_22 (by decide) (fun h4 => ?_) (fun h4 => ?_)
      · refine Seg.step (pc' := 26) (I_aload_n (i := 0) dX2_sunOn_25 rfl rfl) ?_
        refine Seg.step (pc' := 29) (I_getR cls2 (by decide) wf_2_36 (hE _ _ hs0) rfl (lk_2_5 hL hs0) dX2_sunOn_26) ?_
        refine Seg.step (pc' := 31) (I_iload dX2_sunOn_29 rfl) ?_
        refine S_gd fun h5 => ?_
        refine Seg.step (pc' := 32) (I_iald (hE _ _ (sk_2_5 hs0)) h5 dX2_sunOn_31) ?_
        refine Seg.step (pc' := 33) (I_iload_n (i := 2) dX2_sunOn_32 rfl rfl) ?_
        refine S_icmp_ne (tgt := 46) dX2_sunOn_33 (by decide) (fun h6 => ?_) (fun h6 => ?_)
        · refine Seg.step (pc' := 37) (I_iload_n (i := 3) dX2_sunOn_36 rfl rfl) ?_
          refine Seg.step (pc' := 38) (I_aload_n (i := 0) dX2_sunOn_37 rfl rfl) ?_
          refine Seg.step (pc' := 41) (I_getR cls2 (by decide) wf_2_39 (hE _ _ hs0) rfl (lk_2_6 hL hs0) dX2_sunOn_38) ?_
          refine Seg.step (pc' := 43) (I_iload dX2_sunOn_41 rfl) ?_
          refine S_gd fun h7 => ?_
          refine Seg.step (pc' := 44) (I_iald (hE _ _ (sk_2_6 hs0)) h7 dX2_sunOn_43) ?_
          refine Seg.step (pc' := 45) (I_iadd dX2_sunOn_44) ?_
          refine S_bI fun x8 => ?_
          refine Seg.step (pc' := 46) (I_istore_n (i := 3) dX2_sunOn_45 rfl (by decide) rfl) ?_
          exact S_arr (fun K hK => GG.forget (Lle.ye (Lle.ye (Lle.ye (Lle.ye (Lle.ye (Lle.nil)))))) hK)
        exact S_arr (fun K hK => GG.forget (Lle.ye (Lle.ye (Lle.ye (Lle.ye (Lle.ye (Lle.nil)))))) hK)
      exact S_arr (fun K hK => GG.forget (Lle.ye (Lle.ye (Lle.ye (Lle.ye (Lle.ye (Lle.nil)))))) hK)
    refine Seg.step (pc' := 49) (I_iinc dX2_sunOn_46 rfl (by decide) rfl) ?_
    refine Seg.step (pc' := 5) (I_goto (tgt := 5) dX2_sunOn_49 (by decide)) ?_
    exact S_arr (fun K hK => GG.forget (Lle.ye (Lle.ye (Lle.ye (Lle.ye (Lle.ye (Lle.nil)))))) hK)
  refine Seg.step (pc' := 53) (I_iload_n (i := 3) dX2_sunOn_52 rfl rfl) ?_
  exact S_iret dX2_sunOn_53 rfl (by decide) (by decide) (fun K hK => hK)
theorem dX10_leakOf_0 : decode cX10_leakOf 0 = .ok (.iload_n 1, 1) := by decide +kernel
theorem dX10_leakOf_1 : decode cX10_leakOf 1 = .ok (.aload_n 0, 1) := by decide +kernel
theorem dX10_leakOf_2 : decode cX10_leakOf 2 = .ok (.getfield 15, 3) := by decide +kernel
theorem dX10_leakOf_5 : decode cX10_leakOf 5 = .ok (.if_icmp .ne 9, 3) := by decide +kernel
theorem dX10_leakOf_8 : decode cX10_leakOf 8 = .ok (.iload_n 2, 1) := by decide +kernel
theorem dX10_leakOf_9 : decode cX10_leakOf 9 = .ok (.iconst 2, 1) := by decide +kernel
theorem dX10_leakOf_10 : decode cX10_leakOf 10 = .ok (.idiv, 1) := by decide +kernel
theorem dX10_leakOf_11 : decode cX10_leakOf 11 = .ok (.goto 4, 3) := by decide +kernel
theorem dX10_leakOf_14 : decode cX10_leakOf 14 = .ok (.iload_n 2, 1) := by decide +kernel
theorem dX10_leakOf_15 : decode cX10_leakOf 15 = .ok (.ireturn, 1) := by decide +kernel
def f_X10_leakOf (M : MM) (a0 : Nat) (p1 : Int) (p2 : Int) : Option (Int) :=
if p1 = (M a0 6) then
(some (w32 (Int.tdiv p2 2)))
else
some p2
set_option maxRecDepth 4000 in
theorem c_X10_leakOf {E : EE} {sh : List (Nat × Nat)} {ex : Bool} {R : RM} {M : MM} {a0 : Nat} {p1 : Int} {p2 : Int} (hE : Ext sh) (hL : Links R) (hs0 : SH0[a0]? = some (10, 11)) : ∀ y, f_X10_leakOf M a0 p1 p2 = some y → MetC E m_X10_leakOf 0 0 [rV a0, iV p1, iV p2] (sh, ex, R, M) (fun r w' => r = some (iV y) ∧ w' = (sh, ex, R, M)) := by
  intro y hy
  refine MetC.seg (o := f_X10_leakOf M a0 p1 p2) (t := (fun K y => K (some (iV y)) (sh, ex, R, M))) (L := [some (rV a0), some (iV p1), some (iV p2)]) (by decide) rfl (Nat.le_of_ble_eq_true rfl) ?_ hy ⟨rfl, rfl⟩
  unfold f_X10_leakOf
  refine Seg.step (pc' := 1) (I_iload_n (i := 1) dX10_leakOf_0 rfl rfl) ?_
  refine Seg.step (pc' := 2) (I_aload_n (i := 0) dX10_leakOf_1 rfl rfl) ?_
  refine Seg.step (pc' := 5) (I_getI cls10 (by decide) wf_10_15 (hE _ _ hs0) rfl dX10_leakOf_2) ?_
  refine S_icmp_ne (tgt := 14) dX10_leakOf_5 (by decide) (fun h1 => ?_) (fun h1 => ?_)
  · refine Seg.step (pc' := 9) (I_iload_n (i := 2) dX10_leakOf_8 rfl rfl) ?_
    refine Seg.step (pc' := 10) (I_iconst dX10_leakOf_9 ⟨by decide, by decide⟩) ?_
    refine Seg.step (pc' := 11) (I_idiv dX10_leakOf_10 (by decide)) ?_
    refine Seg.step (pc' := 15) (I_goto (tgt := 15) dX10_leakOf_11 (by decide)) ?_
    exact S_iret dX10_leakOf_15 rfl (by decide) (by decide) (fun K hK => hK)
  refine Seg.step (pc' := 15) (I_iload_n (i := 2) dX10_leakOf_14 rfl rfl) ?_
  exact S_iret dX10_leakOf_15 rfl (by decide) (by decide) (fun K hK => hK)
theorem dX0_nameRoom_0 : decode cX0_nameRoom 0 = .ok (.aload_n 0, 1) := by decide +kernel
theorem dX0_nameRoom_1 : decode cX0_nameRoom 1 = .ok (.getfield 38, 3) := by decide +kernel
theorem dX0_nameRoom_4 : decode cX0_nameRoom 4 = .ok (.getfield 183, 3) := by decide +kernel
theorem dX0_nameRoom_7 : decode cX0_nameRoom 7 = .ok (.getfield 187, 3) := by decide +kernel
theorem dX0_nameRoom_10 : decode cX0_nameRoom 10 = .ok (.astore_n 3, 1) := by decide +kernel
theorem dX0_nameRoom_11 : decode cX0_nameRoom 11 = .ok (.aload_n 3, 1) := by decide +kernel
theorem dX0_nameRoom_12 : decode cX0_nameRoom 12 = .ok (.iconst 0, 1) := by decide +kernel
theorem dX0_nameRoom_13 : decode cX0_nameRoom 13 = .ok (.aload_n 0, 1) := by decide +kernel
theorem dX0_nameRoom_14 : decode cX0_nameRoom 14 = .ok (.getfield 22, 3) := by decide +kernel
theorem dX0_nameRoom_17 : decode cX0_nameRoom 17 = .ok (.iload_n 1, 1) := by decide +kernel
theorem dX0_nameRoom_18 : decode cX0_nameRoom 18 = .ok (.iaload, 1) := by decide +kernel
theorem dX0_nameRoom_19 : decode cX0_nameRoom 19 = .ok (.iastore, 1) := by decide +kernel
theorem dX0_nameRoom_20 : decode cX0_nameRoom 20 = .ok (.aload_n 3, 1) := by decide +kernel
theorem dX0_nameRoom_21 : decode cX0_nameRoom 21 = .ok (.iconst 1, 1) := by decide +kernel
theorem dX0_nameRoom_22 : decode cX0_nameRoom 22 = .ok (.aload_n 0, 1) := by decide +kernel
theorem dX0_nameRoom_23 : decode cX0_nameRoom 23 = .ok (.getfield 126, 3) := by decide +kernel
theorem dX0_nameRoom_26 : decode cX0_nameRoom 26 = .ok (.iastore, 1) := by decide +kernel
theorem dX0_nameRoom_27 : decode cX0_nameRoom 27 = .ok (.aload_n 3, 1) := by decide +kernel
theorem dX0_nameRoom_28 : decode cX0_nameRoom 28 = .ok (.iconst 2, 1) := by decide +kernel
theorem dX0_nameRoom_29 : decode cX0_nameRoom 29 = .ok (.iconst 0, 1) := by decide +kernel
theorem dX0_nameRoom_30 : decode cX0_nameRoom 30 = .ok (.iastore, 1) := by decide +kernel
theorem dX0_nameRoom_31 : decode cX0_nameRoom 31 = .ok (.aload_n 3, 1) := by decide +kernel
theorem dX0_nameRoom_32 : decode cX0_nameRoom 32 = .ok (.iconst 3, 1) := by decide +kernel
theorem dX0_nameRoom_33 : decode cX0_nameRoom 33 = .ok (.iconst 0, 1) := by decide +kernel
theorem dX0_nameRoom_34 : decode cX0_nameRoom 34 = .ok (.iastore, 1) := by decide +kernel
theorem dX0_nameRoom_35 : decode cX0_nameRoom 35 = .ok (.aload_n 3, 1) := by decide +kernel
theorem dX0_nameRoom_36 : decode cX0_nameRoom 36 = .ok (.iconst 4, 1) := by decide +kernel
theorem dX0_nameRoom_37 : decode cX0_nameRoom 37 = .ok (.bipush 10, 2) := by decide +kernel
theorem dX0_nameRoom_39 : decode cX0_nameRoom 39 = .ok (.aload_n 0, 1) := by decide +kernel
theorem dX0_nameRoom_40 : decode cX0_nameRoom 40 = .ok (.getfield 48, 3) := by decide +kernel
theorem dX0_nameRoom_43 : decode cX0_nameRoom 43 = .ok (.imul, 1) := by decide +kernel
theorem dX0_nameRoom_44 : decode cX0_nameRoom 44 = .ok (.iastore, 1) := by decide +kernel
theorem dX0_nameRoom_45 : decode cX0_nameRoom 45 = .ok (.aload_n 3, 1) := by decide +kernel
theorem dX0_nameRoom_46 : decode cX0_nameRoom 46 = .ok (.iconst 5, 1) := by decide +kernel
theorem dX0_nameRoom_47 : decode cX0_nameRoom 47 = .ok (.iload_n 2, 1) := by decide +kernel
theorem dX0_nameRoom_48 : decode cX0_nameRoom 48 = .ok (.iastore, 1) := by decide +kernel
theorem dX0_nameRoom_49 : decode cX0_nameRoom 49 = .ok (.aload_n 3, 1) := by decide +kernel
theorem dX0_nameRoom_50 : decode cX0_nameRoom 50 = .ok (.bipush 6, 2) := by decide +kernel
theorem dX0_nameRoom_52 : decode cX0_nameRoom 52 = .ok (.aload_n 0, 1) := by decide +kernel
theorem dX0_nameRoom_53 : decode cX0_nameRoom 53 = .ok (.getfield 49, 3) := by decide +kernel
theorem dX0_nameRoom_56 : decode cX0_nameRoom 56 = .ok (.bipush 24, 2) := by decide +kernel
theorem dX0_nameRoom_58 : decode cX0_nameRoom 58 = .ok (.irem, 1) := by decide +kernel
theorem dX0_nameRoom_59 : decode cX0_nameRoom 59 = .ok (.iastore, 1) := by decide +kernel
theorem dX0_nameRoom_60 : decode cX0_nameRoom 60 = .ok (.return_, 1) := by decide +kernel
def f_X0_nameRoom (M : MM) (a0 : Nat) (p1 : Int) (p2 : Int) : Option (MM) :=
gH (M a0 1) fun b1 =>
gd (0 ≤ p1 ∧ p1 < (30 : Int)) <|
bM (upM M (b1 + 18) 0 (M (a0 + 3) (p1).toNat)) fun M3 =>
bM (upM M3 (b1 + 18) 1 (M3 a0 6)) fun M4 =>
bM (upM M4 (b1 + 18) 2 0) fun M5 =>
bM (upM M5 (b1 + 18) 3 0) fun M6 =>
bM (upM M6 (b1 + 18) 4 (w32 (10 * (M6 a0 3)))) fun M7 =>
bM (upM M7 (b1 + 18) 5 p2) fun M8 =>
bM (upM M8 (b1 + 18) 6 (w32 (Int.tmod (M8 a0 2) 24))) fun M9 =>
some M9
set_option maxRecDepth 4000 in
theorem c_X0_nameRoom {E : EE} {sh : List (Nat × Nat)} {ex : Bool} {R : RM} {M : MM} {a0 : Nat} {p1 : Int} {p2 : Int} (hE : Ext sh) (hL : Links R) (hs0 : SH0[a0]? = some (0, 18)) : ∀ y, f_X0_nameRoom M a0 p1 p2 = some y → MetC E m_X0_nameRoom 0 0 [rV a0, iV p1, iV p2] (sh, ex, R, M) (fun r w' => r = none ∧ w' = (sh, ex, R, y)) := by
  intro y hy
  refine MetC.seg (o := f_X0_nameRoom M a0 p1 p2) (t := (fun K y => K (none) (sh, ex, R, y))) (L := [some (rV a0), some (iV p1), some (iV p2), none]) (by decide) rfl (Nat.le_of_ble_eq_true rfl) ?_ hy ⟨rfl, rfl⟩
  unfold f_X0_nameRoom
  refine Seg.step (pc' := 1) (I_aload_n (i := 0) dX0_nameRoom_0 rfl rfl) ?_
  refine S_gH fun b1 hb1 zb1 => ?_
  refine Seg.step (pc' := 4) (I_getH cls0 (by decide) wf_0_38 (hE _ _ hs0) rfl zb1 (hkp hb1) dX0_nameRoom_1) ?_
  refine Seg.step (pc' := 7) (I_getR cls2 (by decide) wf_0_183 (hE _ _ (hks hb1)) rfl (lk_2_2 hL (hks hb1)) dX0_nameRoom_4) ?_
  refine Seg.step (pc' := 10) (I_getR cls3 (by decide) wf_0_187 (hE _ _ (sk_2_2 (hks hb1))) rfl (lk_3_5 hL (sk_2_2 (hks hb1))) dX0_nameRoom_7) ?_
  refine Seg.step (pc' := 11) (I_astore_n (i := 3) dX0_nameRoom_10 rfl (by decide) rfl) ?_
  refine Seg.step (pc' := 12) (I_aload_n (i := 3) dX0_nameRoom_11 rfl rfl) ?_
  refine Seg.step (pc' := 13) (I_iconst dX0_nameRoom_12 ⟨by decide, by decide⟩) ?_
  refine Seg.step (pc' := 14) (I_aload_n (i := 0) dX0_nameRoom_13 rfl rfl) ?_
  refine Seg.step (pc' := 17) (I_getR cls0 (by decide) wf_0_22 (hE _ _ hs0) rfl (lk_0_8 hL hs0) dX0_nameRoom_14) ?_
  refine Seg.step (pc' := 18) (I_iload_n (i := 1) dX0_nameRoom_17 rfl rfl) ?_
  refine S_gd fun h2 => ?_
  refine Seg.step (pc' := 19) (I_iald (hE _ _ (sk_0_8 hs0)) h2 dX0_nameRoom_18) ?_
  refine Seg.step (pc' := 20) (I_iast (hE _ _ (sk_3_5 (sk_2_2 (hks hb1)))) ⟨by decide, by decide⟩ dX0_nameRoom_19) ?_
  refine S_bM fun M3 => ?_
  refine Seg.step (pc' := 21) (I_aload_n (i := 3) dX0_nameRoom_20 rfl rfl) ?_
  refine Seg.step (pc' := 22) (I_iconst dX0_nameRoom_21 ⟨by decide, by decide⟩) ?_
  refine Seg.step (pc' := 23) (I_aload_n (i := 0) dX0_nameRoom_22 rfl rfl) ?_
  refine Seg.step (pc' := 26) (I_getI cls0 (by decide) wf_0_126 (hE _ _ hs0) rfl dX0_nameRoom_23) ?_
  refine Seg.step (pc' := 27) (I_iast (hE _ _ (sk_3_5 (sk_2_2 (hks hb1)))) ⟨by decide, by decide⟩ dX0_nameRoom_26) ?_
  refine S_bM fun M4 => ?_
  refine Seg.step (pc' := 28) (I_aload_n (i := 3) dX0_nameRoom_27 rfl rfl) ?_
  refine Seg.step (pc' := 29) (I_iconst dX0_nameRoom_28 ⟨by decide, by decide⟩) ?_
  refine Seg.step (pc' := 30) (I_iconst dX0_nameRoom_29 ⟨by decide, by decide⟩) ?_
  refine Seg.step (pc' := 31) (I_iast (hE _ _ (sk_3_5 (sk_2_2 (hks hb1)))) ⟨by decide, by decide⟩ dX0_nameRoom_30) ?_
  refine S_bM fun M5 => ?_
  refine Seg.step (pc' := 32) (I_aload_n (i := 3) dX0_nameRoom_31 rfl rfl) ?_
  refine Seg.step (pc' := 33) (I_iconst dX0_nameRoom_32 ⟨by decide, by decide⟩) ?_
  refine Seg.step (pc' := 34) (I_iconst dX0_nameRoom_33 ⟨by decide, by decide⟩) ?_
  refine Seg.step (pc' := 35) (I_iast (hE _ _ (sk_3_5 (sk_2_2 (hks hb1)))) ⟨by decide, by decide⟩ dX0_nameRoom_34) ?_
  refine S_bM fun M6 => ?_
  refine Seg.step (pc' := 36) (I_aload_n (i := 3) dX0_nameRoom_35 rfl rfl) ?_
  refine Seg.step (pc' := 37) (I_iconst dX0_nameRoom_36 ⟨by decide, by decide⟩) ?_
  refine Seg.step (pc' := 39) (I_bipush dX0_nameRoom_37 (by decide) ⟨by decide, by decide⟩) ?_
  refine Seg.step (pc' := 40) (I_aload_n (i := 0) dX0_nameRoom_39 rfl rfl) ?_
  refine Seg.step (pc' := 43) (I_getI cls0 (by decide) wf_0_48 (hE _ _ hs0) rfl dX0_nameRoom_40) ?_
  refine Seg.step (pc' := 44) (I_imul dX0_nameRoom_43) ?_
  refine Seg.step (pc' := 45) (I_iast (hE _ _ (sk_3_5 (sk_2_2 (hks hb1)))) ⟨by decide, by decide⟩ dX0_nameRoom_44) ?_
  refine S_bM fun M7 => ?_
  refine Seg.step (pc' := 46) (I_aload_n (i := 3) dX0_nameRoom_45 rfl rfl) ?_
  refine Seg.step (pc' := 47) (I_iconst dX0_nameRoom_46 ⟨by decide, by decide⟩) ?_
  refine Seg.step (pc' := 48) (I_iload_n (i := 2) dX0_nameRoom_47 rfl rfl) ?_
  refine Seg.step (pc' := 49) (I_iast (hE _ _ (sk_3_5 (sk_2_2 (hks hb1)))) ⟨by decide, by decide⟩ dX0_nameRoom_48) ?_
  refine S_bM fun M8 => ?_
  refine Seg.step (pc' := 50) (I_aload_n (i := 3) dX0_nameRoom_49 rfl rfl) ?_
  refine Seg.step (pc' := 52) (I_bipush dX0_nameRoom_50 (by decide) ⟨by decide, by decide⟩) ?_
  refine Seg.step (pc' := 53) (I_aload_n (i := 0) dX0_nameRoom_52 rfl rfl) ?_
  refine Seg.step (pc' := 56) (I_getI cls0 (by decide) wf_0_49 (hE _ _ hs0) rfl dX0_nameRoom_53) ?_
  refine Seg.step (pc' := 58) (I_bipush dX0_nameRoom_56 (by decide) ⟨by decide, by decide⟩) ?_
  refine Seg.step (pc' := 59) (I_irem dX0_nameRoom_58 (by decide)) ?_
  refine Seg.step (pc' := 60) (I_iast (hE _ _ (sk_3_5 (sk_2_2 (hks hb1)))) ⟨by decide, by decide⟩ dX0_nameRoom_59) ?_
  refine S_bM fun M9 => ?_
  exact S_vret dX0_nameRoom_60 rfl (by decide) (by decide) (fun K hK => hK)
theorem dX9_isName_0 : decode cX9_isName 0 = .ok (.iload_n 0, 1) := by decide +kernel
theorem dX9_isName_1 : decode cX9_isName 1 = .ok (.sipush 313, 3) := by decide +kernel
theorem dX9_isName_4 : decode cX9_isName 4 = .ok (.if_icmp .lt 14, 3) := by decide +kernel
theorem dX9_isName_7 : decode cX9_isName 7 = .ok (.iload_n 0, 1) := by decide +kernel
theorem dX9_isName_8 : decode cX9_isName 8 = .ok (.sipush 320, 3) := by decide +kernel
theorem dX9_isName_11 : decode cX9_isName 11 = .ok (.if_icmp .ge 7, 3) := by decide +kernel
theorem dX9_isName_14 : decode cX9_isName 14 = .ok (.iconst 1, 1) := by decide +kernel
theorem dX9_isName_15 : decode cX9_isName 15 = .ok (.goto 4, 3) := by decide +kernel
theorem dX9_isName_18 : decode cX9_isName 18 = .ok (.iconst 0, 1) := by decide +kernel
theorem dX9_isName_19 : decode cX9_isName 19 = .ok (.ireturn, 1) := by decide +kernel
def f_X9_isName (M : MM) (p1 : Int) : Option (Int) :=
if p1 < 313 then
(some 0)
else
if p1 < 320 then
(some 1)
else
some 0
set_option maxRecDepth 4000 in
theorem c_X9_isName {E : EE} {sh : List (Nat × Nat)} {ex : Bool} {R : RM} {M : MM} {p1 : Int} (hE : Ext sh) (hL : Links R) : ∀ y, f_X9_isName M p1 = some y → MetC E m_X9_isName 0 0 [iV p1] (sh, ex, R, M) (fun r w' => r = some (iV y) ∧ w' = (sh, ex, R, M)) := by
  intro y hy
  refine MetC.seg (o := f_X9_isName M p1) (t := (fun K y => K (some (iV y)) (sh, ex, R, M))) (L := [some (iV p1)]) (by decide) rfl (Nat.le_of_ble_eq_true rfl) ?_ hy ⟨rfl, rfl⟩
  unfold f_X9_isName
  refine Seg.step (pc' := 1) (I_iload_n (i := 0) dX9_isName_0 rfl rfl) ?_
  refine Seg.step (pc' := 4) (I_sipush dX9_isName_1 (by decide) ⟨by decide, by decide⟩) ?_
  refine S_icmp_lt (tgt := 18) dX9_isName_4 (by decide) (fun h1 => ?_) (fun h1 => ?_)
  · refine Seg.step (pc' := 19) (I_iconst dX9_isName_18 ⟨by decide, by decide⟩) ?_
    exact S_zret dX9_isName_19 rfl (by decide) (by decide) (by decide) (fun K hK => hK)
  refine Seg.step (pc' := 8) (I_iload_n (i := 0) dX9_isName_7 rfl rfl) ?_
  refine Seg.step (pc' := 11) (I_sipush dX9_isName_8 (by decide) ⟨by decide, by decide⟩) ?_
  refine S_icmp_ge (tgt := 18) dX9_isName_11 (by decide) (fun h2 => ?_) (fun h2 => ?_)
  · refine Seg.step (pc' := 15) (I_iconst dX9_isName_14 ⟨by decide, by decide⟩) ?_
    refine Seg.step (pc' := 19) (I_goto (tgt := 19) dX9_isName_15 (by decide)) ?_
    exact S_zret dX9_isName_19 rfl (by decide) (by decide) (by decide) (fun K hK => hK)
  refine Seg.step (pc' := 19) (I_iconst dX9_isName_18 ⟨by decide, by decide⟩) ?_
  exact S_zret dX9_isName_19 rfl (by decide) (by decide) (by decide) (fun K hK => hK)
theorem dX3_joined_0 : decode cX3_joined 0 = .ok (.iload_n 0, 1) := by decide +kernel
theorem dX3_joined_1 : decode cX3_joined 1 = .ok (.lookupswitch 294 #[(42, 115), (43, 107), (45, 111), (47, 170), (60, 186), (61, 210), (62, 246), (256, 198), (257, 222), (258, 234), (310, 276), (311, 258)], 107) := by decide +kernel
theorem dX3_joined_108 : decode cX3_joined 108 = .ok (.lload_n 1, 1) := by decide +kernel
theorem dX3_joined_109 : decode cX3_joined 109 = .ok (.lload_n 3, 1) := by decide +kernel
theorem dX3_joined_110 : decode cX3_joined 110 = .ok (.ladd, 1) := by decide +kernel
theorem dX3_joined_111 : decode cX3_joined 111 = .ok (.lreturn, 1) := by decide +kernel
theorem dX3_joined_112 : decode cX3_joined 112 = .ok (.lload_n 1, 1) := by decide +kernel
theorem dX3_joined_113 : decode cX3_joined 113 = .ok (.lload_n 3, 1) := by decide +kernel
theorem dX3_joined_114 : decode cX3_joined 114 = .ok (.lsub, 1) := by decide +kernel
theorem dX3_joined_115 : decode cX3_joined 115 = .ok (.lreturn, 1) := by decide +kernel
theorem dX3_joined_116 : decode cX3_joined 116 = .ok (.lload_n 1, 1) := by decide +kernel
theorem dX3_joined_117 : decode cX3_joined 117 = .ok (.lconst 0, 1) := by decide +kernel
theorem dX3_joined_118 : decode cX3_joined 118 = .ok (.lcmp, 1) := by decide +kernel
theorem dX3_joined_119 : decode cX3_joined 119 = .ok (.ifCond .ne 9, 3) := by decide +kernel
theorem dX3_joined_122 : decode cX3_joined 122 = .ok (.ldc2_w 48, 3) := by decide +kernel
theorem dX3_joined_125 : decode cX3_joined 125 = .ok (.goto 19, 3) := by decide +kernel
theorem dX3_joined_128 : decode cX3_joined 128 = .ok (.ldc2_w 48, 3) := by decide +kernel
theorem dX3_joined_131 : decode cX3_joined 131 = .ok (.lload_n 1, 1) := by decide +kernel
theorem dX3_joined_132 : decode cX3_joined 132 = .ok (.lconst 0, 1) := by decide +kernel
theorem dX3_joined_133 : decode cX3_joined 133 = .ok (.lcmp, 1) := by decide +kernel
theorem dX3_joined_134 : decode cX3_joined 134 = .ok (.ifCond .ge 8, 3) := by decide +kernel
theorem dX3_joined_137 : decode cX3_joined 137 = .ok (.lload_n 1, 1) := by decide +kernel
theorem dX3_joined_138 : decode cX3_joined 138 = .ok (.lneg, 1) := by decide +kernel
theorem dX3_joined_139 : decode cX3_joined 139 = .ok (.goto 4, 3) := by decide +kernel
theorem dX3_joined_142 : decode cX3_joined 142 = .ok (.lload_n 1, 1) := by decide +kernel
theorem dX3_joined_143 : decode cX3_joined 143 = .ok (.ldiv, 1) := by decide +kernel
theorem dX3_joined_144 : decode cX3_joined 144 = .ok (.lstore 5, 2) := by decide +kernel
theorem dX3_joined_146 : decode cX3_joined 146 = .ok (.lload_n 3, 1) := by decide +kernel
theorem dX3_joined_147 : decode cX3_joined 147 = .ok (.lload 5, 2) := by decide +kernel
theorem dX3_joined_149 : decode cX3_joined 149 = .ok (.lcmp, 1) := by decide +kernel
theorem dX3_joined_150 : decode cX3_joined 150 = .ok (.ifCond .gt 11, 3) := by decide +kernel
theorem dX3_joined_153 : decode cX3_joined 153 = .ok (.lload_n 3, 1) := by decide +kernel
theorem dX3_joined_154 : decode cX3_joined 154 = .ok (.lload 5, 2) := by decide +kernel
theorem dX3_joined_156 : decode cX3_joined 156 = .ok (.lneg, 1) := by decide +kernel
theorem dX3_joined_157 : decode cX3_joined 157 = .ok (.lcmp, 1) := by decide +kernel
theorem dX3_joined_158 : decode cX3_joined 158 = .ok (.ifCond .ge 9, 3) := by decide +kernel
theorem dX3_joined_161 : decode cX3_joined 161 = .ok (.ldc2_w 52, 3) := by decide +kernel
theorem dX3_joined_164 : decode cX3_joined 164 = .ok (.goto 6, 3) := by decide +kernel
theorem dX3_joined_167 : decode cX3_joined 167 = .ok (.lload_n 1, 1) := by decide +kernel
theorem dX3_joined_168 : decode cX3_joined 168 = .ok (.lload_n 3, 1) := by decide +kernel
theorem dX3_joined_169 : decode cX3_joined 169 = .ok (.lmul, 1) := by decide +kernel
theorem dX3_joined_170 : decode cX3_joined 170 = .ok (.lreturn, 1) := by decide +kernel
theorem dX3_joined_171 : decode cX3_joined 171 = .ok (.lload_n 3, 1) := by decide +kernel
theorem dX3_joined_172 : decode cX3_joined 172 = .ok (.lconst 0, 1) := by decide +kernel
theorem dX3_joined_173 : decode cX3_joined 173 = .ok (.lcmp, 1) := by decide +kernel
theorem dX3_joined_174 : decode cX3_joined 174 = .ok (.ifCond .ne 9, 3) := by decide +kernel
theorem dX3_joined_177 : decode cX3_joined 177 = .ok (.ldc2_w 52, 3) := by decide +kernel
theorem dX3_joined_180 : decode cX3_joined 180 = .ok (.goto 6, 3) := by decide +kernel
theorem dX3_joined_183 : decode cX3_joined 183 = .ok (.lload_n 1, 1) := by decide +kernel
theorem dX3_joined_184 : decode cX3_joined 184 = .ok (.lload_n 3, 1) := by decide +kernel
theorem dX3_joined_185 : decode cX3_joined 185 = .ok (.ldiv, 1) := by decide +kernel
theorem dX3_joined_186 : decode cX3_joined 186 = .ok (.lreturn, 1) := by decide +kernel
theorem dX3_joined_187 : decode cX3_joined 187 = .ok (.lload_n 1, 1) := by decide +kernel
theorem dX3_joined_188 : decode cX3_joined 188 = .ok (.lload_n 3, 1) := by decide +kernel
theorem dX3_joined_189 : decode cX3_joined 189 = .ok (.lcmp, 1) := by decide +kernel
theorem dX3_joined_190 : decode cX3_joined 190 = .ok (.ifCond .ge 7, 3) := by decide +kernel
theorem dX3_joined_193 : decode cX3_joined 193 = .ok (.lconst 1, 1) := by decide +kernel
theorem dX3_joined_194 : decode cX3_joined 194 = .ok (.goto 4, 3) := by decide +kernel
theorem dX3_joined_197 : decode cX3_joined 197 = .ok (.lconst 0, 1) := by decide +kernel
theorem dX3_joined_198 : decode cX3_joined 198 = .ok (.lreturn, 1) := by decide +kernel
theorem dX3_joined_199 : decode cX3_joined 199 = .ok (.lload_n 1, 1) := by decide +kernel
theorem dX3_joined_200 : decode cX3_joined 200 = .ok (.lload_n 3, 1) := by decide +kernel
theorem dX3_joined_201 : decode cX3_joined 201 = .ok (.lcmp, 1) := by decide +kernel
theorem dX3_joined_202 : decode cX3_joined 202 = .ok (.ifCond .gt 7, 3) := by decide +kernel
theorem dX3_joined_205 : decode cX3_joined 205 = .ok (.lconst 1, 1) := by decide +kernel
theorem dX3_joined_206 : decode cX3_joined 206 = .ok (.goto 4, 3) := by decide +kernel
theorem dX3_joined_209 : decode cX3_joined 209 = .ok (.lconst 0, 1) := by decide +kernel
theorem dX3_joined_210 : decode cX3_joined 210 = .ok (.lreturn, 1) := by decide +kernel
theorem dX3_joined_211 : decode cX3_joined 211 = .ok (.lload_n 1, 1) := by decide +kernel
theorem dX3_joined_212 : decode cX3_joined 212 = .ok (.lload_n 3, 1) := by decide +kernel
theorem dX3_joined_213 : decode cX3_joined 213 = .ok (.lcmp, 1) := by decide +kernel
theorem dX3_joined_214 : decode cX3_joined 214 = .ok (.ifCond .ne 7, 3) := by decide +kernel
theorem dX3_joined_217 : decode cX3_joined 217 = .ok (.lconst 1, 1) := by decide +kernel
theorem dX3_joined_218 : decode cX3_joined 218 = .ok (.goto 4, 3) := by decide +kernel
theorem dX3_joined_221 : decode cX3_joined 221 = .ok (.lconst 0, 1) := by decide +kernel
theorem dX3_joined_222 : decode cX3_joined 222 = .ok (.lreturn, 1) := by decide +kernel
theorem dX3_joined_223 : decode cX3_joined 223 = .ok (.lload_n 1, 1) := by decide +kernel
theorem dX3_joined_224 : decode cX3_joined 224 = .ok (.lload_n 3, 1) := by decide +kernel
theorem dX3_joined_225 : decode cX3_joined 225 = .ok (.lcmp, 1) := by decide +kernel
theorem dX3_joined_226 : decode cX3_joined 226 = .ok (.ifCond .eq 7, 3) := by decide +kernel
theorem dX3_joined_229 : decode cX3_joined 229 = .ok (.lconst 1, 1) := by decide +kernel
theorem dX3_joined_230 : decode cX3_joined 230 = .ok (.goto 4, 3) := by decide +kernel
theorem dX3_joined_233 : decode cX3_joined 233 = .ok (.lconst 0, 1) := by decide +kernel
theorem dX3_joined_234 : decode cX3_joined 234 = .ok (.lreturn, 1) := by decide +kernel
theorem dX3_joined_235 : decode cX3_joined 235 = .ok (.lload_n 1, 1) := by decide +kernel
theorem dX3_joined_236 : decode cX3_joined 236 = .ok (.lload_n 3, 1) := by decide +kernel
theorem dX3_joined_237 : decode cX3_joined 237 = .ok (.lcmp, 1) := by decide +kernel
theorem dX3_joined_238 : decode cX3_joined 238 = .ok (.ifCond .lt 7, 3) := by decide +kernel
theorem dX3_joined_241 : decode cX3_joined 241 = .ok (.lconst 1, 1) := by decide +kernel
theorem dX3_joined_242 : decode cX3_joined 242 = .ok (.goto 4, 3) := by decide +kernel
theorem dX3_joined_245 : decode cX3_joined 245 = .ok (.lconst 0, 1) := by decide +kernel
theorem dX3_joined_246 : decode cX3_joined 246 = .ok (.lreturn, 1) := by decide +kernel
theorem dX3_joined_247 : decode cX3_joined 247 = .ok (.lload_n 1, 1) := by decide +kernel
theorem dX3_joined_248 : decode cX3_joined 248 = .ok (.lload_n 3, 1) := by decide +kernel
theorem dX3_joined_249 : decode cX3_joined 249 = .ok (.lcmp, 1) := by decide +kernel
theorem dX3_joined_250 : decode cX3_joined 250 = .ok (.ifCond .le 7, 3) := by decide +kernel
theorem dX3_joined_253 : decode cX3_joined 253 = .ok (.lconst 1, 1) := by decide +kernel
theorem dX3_joined_254 : decode cX3_joined 254 = .ok (.goto 4, 3) := by decide +kernel
theorem dX3_joined_257 : decode cX3_joined 257 = .ok (.lconst 0, 1) := by decide +kernel
theorem dX3_joined_258 : decode cX3_joined 258 = .ok (.lreturn, 1) := by decide +kernel
theorem dX3_joined_259 : decode cX3_joined 259 = .ok (.lload_n 1, 1) := by decide +kernel
theorem dX3_joined_260 : decode cX3_joined 260 = .ok (.lconst 0, 1) := by decide +kernel
theorem dX3_joined_261 : decode cX3_joined 261 = .ok (.lcmp, 1) := by decide +kernel
theorem dX3_joined_262 : decode cX3_joined 262 = .ok (.ifCond .eq 13, 3) := by decide +kernel
theorem dX3_joined_265 : decode cX3_joined 265 = .ok (.lload_n 3, 1) := by decide +kernel
theorem dX3_joined_266 : decode cX3_joined 266 = .ok (.lconst 0, 1) := by decide +kernel
theorem dX3_joined_267 : decode cX3_joined 267 = .ok (.lcmp, 1) := by decide +kernel
theorem dX3_joined_268 : decode cX3_joined 268 = .ok (.ifCond .eq 7, 3) := by decide +kernel
theorem dX3_joined_271 : decode cX3_joined 271 = .ok (.lconst 1, 1) := by decide +kernel
theorem dX3_joined_272 : decode cX3_joined 272 = .ok (.goto 4, 3) := by decide +kernel
theorem dX3_joined_275 : decode cX3_joined 275 = .ok (.lconst 0, 1) := by decide +kernel
theorem dX3_joined_276 : decode cX3_joined 276 = .ok (.lreturn, 1) := by decide +kernel
theorem dX3_joined_277 : decode cX3_joined 277 = .ok (.lload_n 1, 1) := by decide +kernel
theorem dX3_joined_278 : decode cX3_joined 278 = .ok (.lconst 0, 1) := by decide +kernel
theorem dX3_joined_279 : decode cX3_joined 279 = .ok (.lcmp, 1) := by decide +kernel
theorem dX3_joined_280 : decode cX3_joined 280 = .ok (.ifCond .ne 9, 3) := by decide +kernel
theorem dX3_joined_283 : decode cX3_joined 283 = .ok (.lload_n 3, 1) := by decide +kernel
theorem dX3_joined_284 : decode cX3_joined 284 = .ok (.lconst 0, 1) := by decide +kernel
theorem dX3_joined_285 : decode cX3_joined 285 = .ok (.lcmp, 1) := by decide +kernel
theorem dX3_joined_286 : decode cX3_joined 286 = .ok (.ifCond .eq 7, 3) := by decide +kernel
theorem dX3_joined_289 : decode cX3_joined 289 = .ok (.lconst 1, 1) := by decide +kernel
theorem dX3_joined_290 : decode cX3_joined 290 = .ok (.goto 4, 3) := by decide +kernel
theorem dX3_joined_293 : decode cX3_joined 293 = .ok (.lconst 0, 1) := by decide +kernel
theorem dX3_joined_294 : decode cX3_joined 294 = .ok (.lreturn, 1) := by decide +kernel
theorem dX3_joined_295 : decode cX3_joined 295 = .ok (.ldc2_w 52, 3) := by decide +kernel
theorem dX3_joined_298 : decode cX3_joined 298 = .ok (.lreturn, 1) := by decide +kernel
def f_X3_joined (M : MM) (p1 : Int) (p2 : Int) (p3 : Int) : Option (Int) :=
if p1 = 42 then
(((if (cmpI p2 0) = 0 then
(some 1000000000000)
else
((if (cmpI p2 0) < 0 then
(some (w64 (-p2)))
else
some p2) : Option (Int)).bind fun x4 =>
gd (x4 ≠ 0) <|
some (w64 (Int.tdiv 1000000000000 x4))) : Option (Int)).bind fun x6 =>
if 0 < (cmpI p3 x6) then
(some (-9223372036854775808))
else
if (cmpI p3 (w64 (-x6))) < 0 then
(some (-9223372036854775808))
else
some (w64 (p2 * p3)))
else
if p1 = 43 then
(some (w64 (p2 + p3)))
else
if p1 = 45 then
(some (w64 (p2 - p3)))
else
if p1 = 47 then
(if (cmpI p3 0) = 0 then
(some (-9223372036854775808))
else
gd (p3 ≠ 0) <|
some (w64 (Int.tdiv p2 p3)))
else
if p1 = 60 then
(if (cmpI p2 p3) < 0 then
(some 1)
else
some 0)
else
if p1 = 61 then
(if (cmpI p2 p3) = 0 then
(some 1)
else
some 0)
else
if p1 = 62 then
(if 0 < (cmpI p2 p3) then
(some 1)
else
some 0)
else
if p1 = 256 then
(if 0 < (cmpI p2 p3) then
(some 0)
else
some 1)
else
if p1 = 257 then
(if (cmpI p2 p3) = 0 then
(some 0)
else
some 1)
else
if p1 = 258 then
(if (cmpI p2 p3) < 0 then
(some 0)
else
some 1)
else
if p1 = 310 then
(if (cmpI p2 0) = 0 then
(if (cmpI p3 0) = 0 then
(some 0)
else
some 1)
else
some 1)
else
if p1 = 311 then
(if (cmpI p2 0) = 0 then
(some 0)
else
if (cmpI p3 0) = 0 then
(some 0)
else
some 1)
else
some (-9223372036854775808)
set_option maxRecDepth 4000 in
theorem c_X3_joined {E : EE} {sh : List (Nat × Nat)} {ex : Bool} {R : RM} {M : MM} {p1 : Int} {p2 : Int} {p3 : Int} (hE : Ext sh) (hL : Links R) : ∀ y, f_X3_joined M p1 p2 p3 = some y → MetC E m_X3_joined 0 0 [iV p1, jV p2, jV p3] (sh, ex, R, M) (fun r w' => r = some (jV y) ∧ w' = (sh, ex, R, M)) := by
  intro y hy
  refine MetC.seg (o := f_X3_joined M p1 p2 p3) (t := (fun K y => K (some (jV y)) (sh, ex, R, M))) (L := [some (iV p1), some (jV p2), none, some (jV p3), none, none, none]) (by decide) rfl (Nat.le_of_ble_eq_true rfl) ?_ hy ⟨rfl, rfl⟩
  unfold f_X3_joined
  refine Seg.step (pc' := 1) (I_iload_n (i := 0) dX3_joined_0 rfl rfl) ?_
  refine S_ite (fun h1 => ?_) (fun h1 => ?_)
  · refine Seg.step (I_lsw (off := 115) (tgt := 116) dX3_joined_1 (by decide) (by rw [h1]; rfl) (by decide)) ?_
    refine Seg.step (pc' := 117) (I_lload_n (i := 1) dX3_joined_116 rfl rfl) ?_
    refine Seg.step (pc' := 118) (I_lconst (z := 0) dX3_joined_117 (by decide) ⟨by decide, by decide⟩) ?_
    refine Seg.step (pc' := 119) (I_lcmp dX3_joined_118) ?_
    refine S_bind (Y := Int) (k' := 0) (n' := 0) 144 (fun y => [none, some (jV p2), none, some (jV p3), none, none, none]) (fun y => [jV y]) (fun y => (sh, ex, R, M)) ?_ (fun x6 => ?_)
    · refine S_if_ne (tgt := 128) dX3_joined_119 (by decide) (fun h2 => ?_) (fun h2 => ?_)
      · refine Seg.step (pc' := 125) (I_ldc2 (z := 1000000000000) dX3_joined_122 wk_3_48 ⟨by decide, by decide⟩) ?_
        refine Seg.step (pc' := 144) (I_goto (tgt := 144) dX3_joined_125 (by decide)) ?_
        exact S_arr (fun K hK => GG.forget (Lle.no (Lle.ye (Lle.no (Lle.ye (Lle.no (Lle.no (Lle.no (Lle.nil)))))))) hK)
      refine Seg.step (pc' := 131) (I_ldc2 (z := 1000000000000) dX3_joined_128 wk_3_48 ⟨by decide, by decide⟩) ?_
      refine Seg.step (pc' := 132) (I_lload_n (i := 1) dX3_joined_131 rfl rfl) ?_
      refine Seg.step (pc' := 133) (I_lconst (z := 0) dX3_joined_132 (by decide) ⟨by decide, by decide⟩) ?_
      refine Seg.step (pc' := 134) (I_lcmp dX3_joined_133) ?_
      refine S_bind (Y := Int) (k' := 0) (n' := 0) 143 (fun y => [none, some (jV p2), none, some (jV p3), none, none, none]) (fun y => [jV y, jV 1000000000000]) (fun y => (sh, ex, R, M)) ?_ (fun x4 => ?_)
      · refine S_if_ge (tgt := 142) dX3_joined_134 (by decide) (fun h3 => ?_) (fun h3 => ?_)
        · refine Seg.step (pc' := 138) (I_lload_n (i := 1) dX3_joined_137 rfl rfl) ?_
          refine Seg.step (pc' := 139) (I_lneg dX3_joined_138) ?_
          refine Seg.step (pc' := 143) (I_goto (tgt := 143) dX3_joined_139 (by decide)) ?_
          exact S_arr (fun K hK => GG.forget (Lle.no (Lle.ye (Lle.no (Lle.ye (Lle.no (Lle.no (Lle.no (Lle.nil)))))))) hK)
        refine Seg.step (pc' := 143) (I_lload_n (i := 1) dX3_joined_142 rfl rfl) ?_
        exact S_arr (fun K hK => GG.forget (Lle.no (Lle.ye (Lle.no (Lle.ye (Lle.no (Lle.no (Lle.no (Lle.nil)))))))) hK)
      refine S_gd fun h5 => ?_
      refine Seg.step (pc' := 144) (I_ldiv dX3_joined_143 h5) ?_
      exact S_arr (fun K hK => GG.forget (Lle.no (Lle.ye (Lle.no (Lle.ye (Lle.no (Lle.no (Lle.no (Lle.nil)))))))) hK)
    refine Seg.step (pc' := 146) (I_lstore dX3_joined_144 (by decide) rfl) ?_
    refine Seg.step (pc' := 147) (I_lload_n (i := 3) dX3_joined_146 rfl rfl) ?_
    refine Seg.step (pc' := 149) (I_lload dX3_joined_147 rfl) ?_
    refine Seg.step (pc' := 150) (I_lcmp dX3_joined_149) ?_
    refine S_if_gt (tgt := 161) dX3_joined_150 (by decide) (fun h7 => ?_) (fun h7 => ?_)
    · refine Seg.step (pc' := 164) (I_ldc2 (z := -9223372036854775808) dX3_joined_161 wk_3_52 ⟨by decide, by decide⟩) ?_
      refine Seg.step (pc' := 170) (I_goto (tgt := 170) dX3_joined_164 (by decide)) ?_
      exact S_lret dX3_joined_170 rfl (by decide) (by decide) (fun K hK => hK)
    refine Seg.step (pc' := 154) (I_lload_n (i := 3) dX3_joined_153 rfl rfl) ?_
    refine Seg.step (pc' := 156) (I_lload dX3_joined_154 rfl) ?_
    refine Seg.step (pc' := 157) (I_lneg dX3_joined_156) ?_
    refine Seg.step (pc' := 158) (I_lcmp dX3_joined_157) ?_
    refine S_if_ge (tgt := 167) dX3_joined_158 (by decide) (fun h8 => ?_) (fun h8 => ?_)
    · refine Seg.step (pc' := 164) (I_ldc2 (z := -9223372036854775808) dX3_joined_161 wk_3_52 ⟨by decide, by decide⟩) ?_
      refine Seg.step (pc' := 170) (I_goto (tgt := 170) dX3_joined_164 (by decide)) ?_
      exact S_lret dX3_joined_170 rfl (by decide) (by decide) (fun K hK => hK)
    refine Seg.step (pc' := 168) (I_lload_n (i := 1) dX3_joined_167 rfl rfl) ?_
    refine Seg.step (pc' := 169) (I_lload_n (i := 3) dX3_joined_168 rfl rfl) ?_
    refine Seg.step (pc' := 170) (I_lmul dX3_joined_169) ?_
    exact S_lret dX3_joined_170 rfl (by decide) (by decide) (fun K hK => hK)
  refine S_ite (fun h9 => ?_) (fun h9 => ?_)
  · refine Seg.step (I_lsw (off := 107) (tgt := 108) dX3_joined_1 (by decide) (by rw [h9]; rfl) (by decide)) ?_
    refine Seg.step (pc' := 109) (I_lload_n (i := 1) dX3_joined_108 rfl rfl) ?_
    refine Seg.step (pc' := 110) (I_lload_n (i := 3) dX3_joined_109 rfl rfl) ?_
    refine Seg.step (pc' := 111) (I_ladd dX3_joined_110) ?_
    exact S_lret dX3_joined_111 rfl (by decide) (by decide) (fun K hK => hK)
  refine S_ite (fun h10 => ?_) (fun h10 => ?_)
  · refine Seg.step (I_lsw (off := 111) (tgt := 112) dX3_joined_1 (by decide) (by rw [h10]; rfl) (by decide)) ?_
    refine Seg.step (pc' := 113) (I_lload_n (i := 1) dX3_joined_112 rfl rfl) ?_
    refine Seg.step (pc' := 114) (I_lload_n (i := 3) dX3_joined_113 rfl rfl) ?_
    refine Seg.step (pc' := 115) (I_lsub dX3_joined_114) ?_
    exact S_lret dX3_joined_115 rfl (by decide) (by decide) (fun K hK => hK)
  refine S_ite (fun h11 => ?_) (fun h11 => ?_)
  · refine Seg.step (I_lsw (off := 170) (tgt := 171) dX3_joined_1 (by decide) (by rw [h11]; rfl) (by decide)) ?_
    refine Seg.step (pc' := 172) (I_lload_n (i := 3) dX3_joined_171 rfl rfl) ?_
    refine Seg.step (pc' := 173) (I_lconst (z := 0) dX3_joined_172 (by decide) ⟨by decide, by decide⟩) ?_
    refine Seg.step (pc' := 174) (I_lcmp dX3_joined_173) ?_
    refine S_if_ne (tgt := 183) dX3_joined_174 (by decide) (fun h12 => ?_) (fun h12 => ?_)
    · refine Seg.step (pc' := 180) (I_ldc2 (z := -9223372036854775808) dX3_joined_177 wk_3_52 ⟨by decide, by decide⟩) ?_
      refine Seg.step (pc' := 186) (I_goto (tgt := 186) dX3_joined_180 (by decide)) ?_
      exact S_lret dX3_joined_186 rfl (by decide) (by decide) (fun K hK => hK)
    refine Seg.step (pc' := 184) (I_lload_n (i := 1) dX3_joined_183 rfl rfl) ?_
    refine Seg.step (pc' := 185) (I_lload_n (i := 3) dX3_joined_184 rfl rfl) ?_
    refine S_gd fun h13 => ?_
    refine Seg.step (pc' := 186) (I_ldiv dX3_joined_185 h13) ?_
    exact S_lret dX3_joined_186 rfl (by decide) (by decide) (fun K hK => hK)
  refine S_ite (fun h14 => ?_) (fun h14 => ?_)
  · refine Seg.step (I_lsw (off := 186) (tgt := 187) dX3_joined_1 (by decide) (by rw [h14]; rfl) (by decide)) ?_
    refine Seg.step (pc' := 188) (I_lload_n (i := 1) dX3_joined_187 rfl rfl) ?_
    refine Seg.step (pc' := 189) (I_lload_n (i := 3) dX3_joined_188 rfl rfl) ?_
    refine Seg.step (pc' := 190) (I_lcmp dX3_joined_189) ?_
    refine S_if_ge (tgt := 197) dX3_joined_190 (by decide) (fun h15 => ?_) (fun h15 => ?_)
    · refine Seg.step (pc' := 194) (I_lconst (z := 1) dX3_joined_193 (by decide) ⟨by decide, by decide⟩) ?_
      refine Seg.step (pc' := 198) (I_goto (tgt := 198) dX3_joined_194 (by decide)) ?_
      exact S_lret dX3_joined_198 rfl (by decide) (by decide) (fun K hK => hK)
    refine Seg.step (pc' := 198) (I_lconst (z := 0) dX3_joined_197 (by decide) ⟨by decide, by decide⟩) ?_
    exact S_lret dX3_joined_198 rfl (by decide) (by decide) (fun K hK => hK)
  refine S_ite (fun h16 => ?_) (fun h16 => ?_)
  · refine Seg.step (I_lsw (off := 210) (tgt := 211) dX3_joined_1 (by decide) (by rw [h16]; rfl) (by decide)) ?_
    refine Seg.step (pc' := 212) (I_lload_n (i := 1) dX3_joined_211 rfl rfl) ?_
    refine Seg.step (pc' := 213) (I_lload_n (i := 3) dX3_joined_212 rfl rfl) ?_
    refine Seg.step (pc' := 214) (I_lcmp dX3_joined_213) ?_
    refine S_if_ne (tgt := 221) dX3_joined_214 (by decide) (fun h17 => ?_) (fun h17 => ?_)
    · refine Seg.step (pc' := 218) (I_lconst (z := 1) dX3_joined_217 (by decide) ⟨by decide, by decide⟩) ?_
      refine Seg.step (pc' := 222) (I_goto (tgt := 222) dX3_joined_218 (by decide)) ?_
      exact S_lret dX3_joined_222 rfl (by decide) (by decide) (fun K hK => hK)
    refine Seg.step (pc' := 222) (I_lconst (z := 0) dX3_joined_221 (by decide) ⟨by decide, by decide⟩) ?_
    exact S_lret dX3_joined_222 rfl (by decide) (by decide) (fun K hK => hK)
  refine S_ite (fun h18 => ?_) (fun h18 => ?_)
  · refine Seg.step (I_lsw (off := 246) (tgt := 247) dX3_joined_1 (by decide) (by rw [h18]; rfl) (by decide)) ?_
    refine Seg.step (pc' := 248) (I_lload_n (i := 1) dX3_joined_247 rfl rfl) ?_
    refine Seg.step (pc' := 249) (I_lload_n (i := 3) dX3_joined_248 rfl rfl) ?_
    refine Seg.step (pc' := 250) (I_lcmp dX3_joined_249) ?_
    refine S_if_le (tgt := 257) dX3_joined_250 (by decide) (fun h19 => ?_) (fun h19 => ?_)
    · refine Seg.step (pc' := 254) (I_lconst (z := 1) dX3_joined_253 (by decide) ⟨by decide, by decide⟩) ?_
      refine Seg.step (pc' := 258) (I_goto (tgt := 258) dX3_joined_254 (by decide)) ?_
      exact S_lret dX3_joined_258 rfl (by decide) (by decide) (fun K hK => hK)
    refine Seg.step (pc' := 258) (I_lconst (z := 0) dX3_joined_257 (by decide) ⟨by decide, by decide⟩) ?_
    exact S_lret dX3_joined_258 rfl (by decide) (by decide) (fun K hK => hK)
  refine S_ite (fun h20 => ?_) (fun h20 => ?_)
  · refine Seg.step (I_lsw (off := 198) (tgt := 199) dX3_joined_1 (by decide) (by rw [h20]; rfl) (by decide)) ?_
    refine Seg.step (pc' := 200) (I_lload_n (i := 1) dX3_joined_199 rfl rfl) ?_
    refine Seg.step (pc' := 201) (I_lload_n (i := 3) dX3_joined_200 rfl rfl) ?_
    refine Seg.step (pc' := 202) (I_lcmp dX3_joined_201) ?_
    refine S_if_gt (tgt := 209) dX3_joined_202 (by decide) (fun h21 => ?_) (fun h21 => ?_)
    · refine Seg.step (pc' := 210) (I_lconst (z := 0) dX3_joined_209 (by decide) ⟨by decide, by decide⟩) ?_
      exact S_lret dX3_joined_210 rfl (by decide) (by decide) (fun K hK => hK)
    refine Seg.step (pc' := 206) (I_lconst (z := 1) dX3_joined_205 (by decide) ⟨by decide, by decide⟩) ?_
    refine Seg.step (pc' := 210) (I_goto (tgt := 210) dX3_joined_206 (by decide)) ?_
    exact S_lret dX3_joined_210 rfl (by decide) (by decide) (fun K hK => hK)
  refine S_ite (fun h22 => ?_) (fun h22 => ?_)
  · refine Seg.step (I_lsw (off := 222) (tgt := 223) dX3_joined_1 (by decide) (by rw [h22]; rfl) (by decide)) ?_
    refine Seg.step (pc' := 224) (I_lload_n (i := 1) dX3_joined_223 rfl rfl) ?_
    refine Seg.step (pc' := 225) (I_lload_n (i := 3) dX3_joined_224 rfl rfl) ?_
    refine Seg.step (pc' := 226) (I_lcmp dX3_joined_225) ?_
    refine S_if_eq (tgt := 233) dX3_joined_226 (by decide) (fun h23 => ?_) (fun h23 => ?_)
    · refine Seg.step (pc' := 234) (I_lconst (z := 0) dX3_joined_233 (by decide) ⟨by decide, by decide⟩) ?_
      exact S_lret dX3_joined_234 rfl (by decide) (by decide) (fun K hK => hK)
    refine Seg.step (pc' := 230) (I_lconst (z := 1) dX3_joined_229 (by decide) ⟨by decide, by decide⟩) ?_
    refine Seg.step (pc' := 234) (I_goto (tgt := 234) dX3_joined_230 (by decide)) ?_
    exact S_lret dX3_joined_234 rfl (by decide) (by decide) (fun K hK => hK)
  refine S_ite (fun h24 => ?_) (fun h24 => ?_)
  · refine Seg.step (I_lsw (off := 234) (tgt := 235) dX3_joined_1 (by decide) (by rw [h24]; rfl) (by decide)) ?_
    refine Seg.step (pc' := 236) (I_lload_n (i := 1) dX3_joined_235 rfl rfl) ?_
    refine Seg.step (pc' := 237) (I_lload_n (i := 3) dX3_joined_236 rfl rfl) ?_
    refine Seg.step (pc' := 238) (I_lcmp dX3_joined_237) ?_
    refine S_if_lt (tgt := 245) dX3_joined_238 (by decide) (fun h25 => ?_) (fun h25 => ?_)
    · refine Seg.step (pc' := 246) (I_lconst (z := 0) dX3_joined_245 (by decide) ⟨by decide, by decide⟩) ?_
      exact S_lret dX3_joined_246 rfl (by decide) (by decide) (fun K hK => hK)
    refine Seg.step (pc' := 242) (I_lconst (z := 1) dX3_joined_241 (by decide) ⟨by decide, by decide⟩) ?_
    refine Seg.step (pc' := 246) (I_goto (tgt := 246) dX3_joined_242 (by decide)) ?_
    exact S_lret dX3_joined_246 rfl (by decide) (by decide) (fun K hK => hK)
  refine S_ite (fun h26 => ?_) (fun h26 => ?_)
  · refine Seg.step (I_lsw (off := 276) (tgt := 277) dX3_joined_1 (by decide) (by rw [h26]; rfl) (by decide)) ?_
    refine Seg.step (pc' := 278) (I_lload_n (i := 1) dX3_joined_277 rfl rfl) ?_
    refine Seg.step (pc' := 279) (I_lconst (z := 0) dX3_joined_278 (by decide) ⟨by decide, by decide⟩) ?_
    refine Seg.step (pc' := 280) (I_lcmp dX3_joined_279) ?_
    refine S_if_ne (tgt := 289) dX3_joined_280 (by decide) (fun h27 => ?_) (fun h27 => ?_)
    · refine Seg.step (pc' := 284) (I_lload_n (i := 3) dX3_joined_283 rfl rfl) ?_
      refine Seg.step (pc' := 285) (I_lconst (z := 0) dX3_joined_284 (by decide) ⟨by decide, by decide⟩) ?_
      refine Seg.step (pc' := 286) (I_lcmp dX3_joined_285) ?_
      refine S_if_eq (tgt := 293) dX3_joined_286 (by decide) (fun h28 => ?_) (fun h28 => ?_)
      · refine Seg.step (pc' := 294) (I_lconst (z := 0) dX3_joined_293 (by decide) ⟨by decide, by decide⟩) ?_
        exact S_lret dX3_joined_294 rfl (by decide) (by decide) (fun K hK => hK)
      refine Seg.step (pc' := 290) (I_lconst (z := 1) dX3_joined_289 (by decide) ⟨by decide, by decide⟩) ?_
      refine Seg.step (pc' := 294) (I_goto (tgt := 294) dX3_joined_290 (by decide)) ?_
      exact S_lret dX3_joined_294 rfl (by decide) (by decide) (fun K hK => hK)
    refine Seg.step (pc' := 290) (I_lconst (z := 1) dX3_joined_289 (by decide) ⟨by decide, by decide⟩) ?_
    refine Seg.step (pc' := 294) (I_goto (tgt := 294) dX3_joined_290 (by decide)) ?_
    exact S_lret dX3_joined_294 rfl (by decide) (by decide) (fun K hK => hK)
  refine S_ite (fun h29 => ?_) (fun h29 => ?_)
  · refine Seg.step (I_lsw (off := 258) (tgt := 259) dX3_joined_1 (by decide) (by rw [h29]; rfl) (by decide)) ?_
    refine Seg.step (pc' := 260) (I_lload_n (i := 1) dX3_joined_259 rfl rfl) ?_
    refine Seg.step (pc' := 261) (I_lconst (z := 0) dX3_joined_260 (by decide) ⟨by decide, by decide⟩) ?_
    refine Seg.step (pc' := 262) (I_lcmp dX3_joined_261) ?_
    refine S_if_eq (tgt := 275) dX3_joined_262 (by decide) (fun h30 => ?_) (fun h30 => ?_)
    · refine Seg.step (pc' := 276) (I_lconst (z := 0) dX3_joined_275 (by decide) ⟨by decide, by decide⟩) ?_
      exact S_lret dX3_joined_276 rfl (by decide) (by decide) (fun K hK => hK)
    refine Seg.step (pc' := 266) (I_lload_n (i := 3) dX3_joined_265 rfl rfl) ?_
    refine Seg.step (pc' := 267) (I_lconst (z := 0) dX3_joined_266 (by decide) ⟨by decide, by decide⟩) ?_
    refine Seg.step (pc' := 268) (I_lcmp dX3_joined_267) ?_
    refine S_if_eq (tgt := 275) dX3_joined_268 (by decide) (fun h31 => ?_) (fun h31 => ?_)
    · refine Seg.step (pc' := 276) (I_lconst (z := 0) dX3_joined_275 (by decide) ⟨by decide, by decide⟩) ?_
      exact S_lret dX3_joined_276 rfl (by decide) (by decide) (fun K hK => hK)
    refine Seg.step (pc' := 272) (I_lconst (z := 1) dX3_joined_271 (by decide) ⟨by decide, by decide⟩) ?_
    refine Seg.step (pc' := 276) (I_goto (tgt := 276) dX3_joined_272 (by decide)) ?_
    exact S_lret dX3_joined_276 rfl (by decide) (by decide) (fun K hK => hK)
  refine Seg.step (I_lsw (off := 294) (tgt := 295) dX3_joined_1 (by decide) (by simp [Op.lookupswitch.offset, eq_comm, h1, h9, h10, h11, h14, h16, h18, h20, h22, h24, h26, h29]) (by decide)) ?_
  refine Seg.step (pc' := 298) (I_ldc2 (z := -9223372036854775808) dX3_joined_295 wk_3_52 ⟨by decide, by decide⟩) ?_
  exact S_lret dX3_joined_298 rfl (by decide) (by decide) (fun K hK => hK)
theorem dX3_value_0 : decode cX3_value 0 = .ok (.iconst 0, 1) := by decide +kernel
theorem dX3_value_1 : decode cX3_value 1 = .ok (.istore_n 2, 1) := by decide +kernel
theorem dX3_value_2 : decode cX3_value 2 = .ok (.aload_n 0, 1) := by decide +kernel
theorem dX3_value_3 : decode cX3_value 3 = .ok (.getfield 18, 3) := by decide +kernel
theorem dX3_value_6 : decode cX3_value 6 = .ok (.iload_n 1, 1) := by decide +kernel
theorem dX3_value_7 : decode cX3_value 7 = .ok (.iaload, 1) := by decide +kernel
theorem dX3_value_8 : decode cX3_value 8 = .ok (.istore_n 3, 1) := by decide +kernel
theorem dX3_value_9 : decode cX3_value 9 = .ok (.iload_n 3, 1) := by decide +kernel
theorem dX3_value_10 : decode cX3_value 10 = .ok (.aload_n 0, 1) := by decide +kernel
theorem dX3_value_11 : decode cX3_value 11 = .ok (.getfield 21, 3) := by decide +kernel
theorem dX3_value_14 : decode cX3_value 14 = .ok (.iload_n 1, 1) := by decide +kernel
theorem dX3_value_15 : decode cX3_value 15 = .ok (.iaload, 1) := by decide +kernel
theorem dX3_value_16 : decode cX3_value 16 = .ok (.if_icmp .ge 176, 3) := by decide +kernel
theorem dX3_value_19 : decode cX3_value 19 = .ok (.aload_n 0, 1) := by decide +kernel
theorem dX3_value_20 : decode cX3_value 20 = .ok (.getfield 9, 3) := by decide +kernel
theorem dX3_value_23 : decode cX3_value 23 = .ok (.iload_n 3, 1) := by decide +kernel
theorem dX3_value_24 : decode cX3_value 24 = .ok (.iaload, 1) := by decide +kernel
theorem dX3_value_25 : decode cX3_value 25 = .ok (.istore 4, 2) := by decide +kernel
theorem dX3_value_27 : decode cX3_value 27 = .ok (.iload 4, 2) := by decide +kernel
theorem dX3_value_29 : decode cX3_value 29 = .ok (.iconst 2, 1) := by decide +kernel
theorem dX3_value_30 : decode cX3_value 30 = .ok (.if_icmp .ne 22, 3) := by decide +kernel
theorem dX3_value_33 : decode cX3_value 33 = .ok (.aload_n 0, 1) := by decide +kernel
theorem dX3_value_34 : decode cX3_value 34 = .ok (.getfield 24, 3) := by decide +kernel
theorem dX3_value_37 : decode cX3_value 37 = .ok (.iload_n 2, 1) := by decide +kernel
theorem dX3_value_38 : decode cX3_value 38 = .ok (.aload_n 0, 1) := by decide +kernel
theorem dX3_value_39 : decode cX3_value 39 = .ok (.getfield 15, 3) := by decide +kernel
theorem dX3_value_42 : decode cX3_value 42 = .ok (.iload_n 3, 1) := by decide +kernel
theorem dX3_value_43 : decode cX3_value 43 = .ok (.iaload, 1) := by decide +kernel
theorem dX3_value_44 : decode cX3_value 44 = .ok (.i2l, 1) := by decide +kernel
theorem dX3_value_45 : decode cX3_value 45 = .ok (.lastore, 1) := by decide +kernel
theorem dX3_value_46 : decode cX3_value 46 = .ok (.iinc 2 1, 3) := by decide +kernel
theorem dX3_value_49 : decode cX3_value 49 = .ok (.goto 137, 3) := by decide +kernel
theorem dX3_value_52 : decode cX3_value 52 = .ok (.iload 4, 2) := by decide +kernel
theorem dX3_value_54 : decode cX3_value 54 = .ok (.invokestatic 40, 3) := by decide +kernel
theorem dX3_value_57 : decode cX3_value 57 = .ok (.ifCond .eq 27, 3) := by decide +kernel
theorem dX3_value_60 : decode cX3_value 60 = .ok (.aload_n 0, 1) := by decide +kernel
theorem dX3_value_61 : decode cX3_value 61 = .ok (.getfield 24, 3) := by decide +kernel
theorem dX3_value_64 : decode cX3_value 64 = .ok (.iload_n 2, 1) := by decide +kernel
theorem dX3_value_65 : decode cX3_value 65 = .ok (.aload_n 0, 1) := by decide +kernel
theorem dX3_value_66 : decode cX3_value 66 = .ok (.getfield 28, 3) := by decide +kernel
theorem dX3_value_69 : decode cX3_value 69 = .ok (.iload 4, 2) := by decide +kernel
theorem dX3_value_71 : decode cX3_value 71 = .ok (.sipush 313, 3) := by decide +kernel
theorem dX3_value_74 : decode cX3_value 74 = .ok (.isub, 1) := by decide +kernel
theorem dX3_value_75 : decode cX3_value 75 = .ok (.iaload, 1) := by decide +kernel
theorem dX3_value_76 : decode cX3_value 76 = .ok (.i2l, 1) := by decide +kernel
theorem dX3_value_77 : decode cX3_value 77 = .ok (.lastore, 1) := by decide +kernel
theorem dX3_value_78 : decode cX3_value 78 = .ok (.iinc 2 1, 3) := by decide +kernel
theorem dX3_value_81 : decode cX3_value 81 = .ok (.goto 105, 3) := by decide +kernel
theorem dX3_value_84 : decode cX3_value 84 = .ok (.iload_n 2, 1) := by decide +kernel
theorem dX3_value_85 : decode cX3_value 85 = .ok (.ifCond .le 40, 3) := by decide +kernel
theorem dX3_value_88 : decode cX3_value 88 = .ok (.iload 4, 2) := by decide +kernel
theorem dX3_value_90 : decode cX3_value 90 = .ok (.sipush 312, 3) := by decide +kernel
theorem dX3_value_93 : decode cX3_value 93 = .ok (.if_icmp .ne 32, 3) := by decide +kernel
theorem dX3_value_96 : decode cX3_value 96 = .ok (.aload_n 0, 1) := by decide +kernel
theorem dX3_value_97 : decode cX3_value 97 = .ok (.getfield 24, 3) := by decide +kernel
theorem dX3_value_100 : decode cX3_value 100 = .ok (.iload_n 2, 1) := by decide +kernel
theorem dX3_value_101 : decode cX3_value 101 = .ok (.iconst 1, 1) := by decide +kernel
theorem dX3_value_102 : decode cX3_value 102 = .ok (.isub, 1) := by decide +kernel
theorem dX3_value_103 : decode cX3_value 103 = .ok (.aload_n 0, 1) := by decide +kernel
theorem dX3_value_104 : decode cX3_value 104 = .ok (.getfield 24, 3) := by decide +kernel
theorem dX3_value_107 : decode cX3_value 107 = .ok (.iload_n 2, 1) := by decide +kernel
theorem dX3_value_108 : decode cX3_value 108 = .ok (.iconst 1, 1) := by decide +kernel
theorem dX3_value_109 : decode cX3_value 109 = .ok (.isub, 1) := by decide +kernel
theorem dX3_value_110 : decode cX3_value 110 = .ok (.laload, 1) := by decide +kernel
theorem dX3_value_111 : decode cX3_value 111 = .ok (.lconst 0, 1) := by decide +kernel
theorem dX3_value_112 : decode cX3_value 112 = .ok (.lcmp, 1) := by decide +kernel
theorem dX3_value_113 : decode cX3_value 113 = .ok (.ifCond .ne 7, 3) := by decide +kernel
theorem dX3_value_116 : decode cX3_value 116 = .ok (.lconst 1, 1) := by decide +kernel
theorem dX3_value_117 : decode cX3_value 117 = .ok (.goto 4, 3) := by decide +kernel
theorem dX3_value_120 : decode cX3_value 120 = .ok (.lconst 0, 1) := by decide +kernel
theorem dX3_value_121 : decode cX3_value 121 = .ok (.lastore, 1) := by decide +kernel
theorem dX3_value_122 : decode cX3_value 122 = .ok (.goto 64, 3) := by decide +kernel
theorem dX3_value_125 : decode cX3_value 125 = .ok (.iload_n 2, 1) := by decide +kernel
theorem dX3_value_126 : decode cX3_value 126 = .ok (.iconst 1, 1) := by decide +kernel
theorem dX3_value_127 : decode cX3_value 127 = .ok (.if_icmp .le 59, 3) := by decide +kernel
theorem dX3_value_130 : decode cX3_value 130 = .ok (.iinc 2 (-1), 3) := by decide +kernel
theorem dX3_value_133 : decode cX3_value 133 = .ok (.iload 4, 2) := by decide +kernel
theorem dX3_value_135 : decode cX3_value 135 = .ok (.aload_n 0, 1) := by decide +kernel
theorem dX3_value_136 : decode cX3_value 136 = .ok (.getfield 24, 3) := by decide +kernel
theorem dX3_value_139 : decode cX3_value 139 = .ok (.iload_n 2, 1) := by decide +kernel
theorem dX3_value_140 : decode cX3_value 140 = .ok (.iconst 1, 1) := by decide +kernel
theorem dX3_value_141 : decode cX3_value 141 = .ok (.isub, 1) := by decide +kernel
theorem dX3_value_142 : decode cX3_value 142 = .ok (.laload, 1) := by decide +kernel
theorem dX3_value_143 : decode cX3_value 143 = .ok (.aload_n 0, 1) := by decide +kernel
theorem dX3_value_144 : decode cX3_value 144 = .ok (.getfield 24, 3) := by decide +kernel
theorem dX3_value_147 : decode cX3_value 147 = .ok (.iload_n 2, 1) := by decide +kernel
theorem dX3_value_148 : decode cX3_value 148 = .ok (.laload, 1) := by decide +kernel
theorem dX3_value_149 : decode cX3_value 149 = .ok (.invokestatic 44, 3) := by decide +kernel
theorem dX3_value_152 : decode cX3_value 152 = .ok (.lstore 5, 2) := by decide +kernel
theorem dX3_value_154 : decode cX3_value 154 = .ok (.lload 5, 2) := by decide +kernel
theorem dX3_value_156 : decode cX3_value 156 = .ok (.ldc2_w 48, 3) := by decide +kernel
theorem dX3_value_159 : decode cX3_value 159 = .ok (.lcmp, 1) := by decide +kernel
theorem dX3_value_160 : decode cX3_value 160 = .ok (.ifCond .gt 12, 3) := by decide +kernel
theorem dX3_value_163 : decode cX3_value 163 = .ok (.lload 5, 2) := by decide +kernel
theorem dX3_value_165 : decode cX3_value 165 = .ok (.ldc2_w 50, 3) := by decide +kernel
theorem dX3_value_168 : decode cX3_value 168 = .ok (.lcmp, 1) := by decide +kernel
theorem dX3_value_169 : decode cX3_value 169 = .ok (.ifCond .ge 7, 3) := by decide +kernel
theorem dX3_value_172 : decode cX3_value 172 = .ok (.ldc2_w 52, 3) := by decide +kernel
theorem dX3_value_175 : decode cX3_value 175 = .ok (.lreturn, 1) := by decide +kernel
theorem dX3_value_176 : decode cX3_value 176 = .ok (.aload_n 0, 1) := by decide +kernel
theorem dX3_value_177 : decode cX3_value 177 = .ok (.getfield 24, 3) := by decide +kernel
theorem dX3_value_180 : decode cX3_value 180 = .ok (.iload_n 2, 1) := by decide +kernel
theorem dX3_value_181 : decode cX3_value 181 = .ok (.iconst 1, 1) := by decide +kernel
theorem dX3_value_182 : decode cX3_value 182 = .ok (.isub, 1) := by decide +kernel
theorem dX3_value_183 : decode cX3_value 183 = .ok (.lload 5, 2) := by decide +kernel
theorem dX3_value_185 : decode cX3_value 185 = .ok (.lastore, 1) := by decide +kernel
theorem dX3_value_186 : decode cX3_value 186 = .ok (.iinc 3 1, 3) := by decide +kernel
theorem dX3_value_189 : decode cX3_value 189 = .ok (.goto (-180), 3) := by decide +kernel
theorem dX3_value_192 : decode cX3_value 192 = .ok (.iload_n 2, 1) := by decide +kernel
theorem dX3_value_193 : decode cX3_value 193 = .ok (.ifCond .le 12, 3) := by decide +kernel
theorem dX3_value_196 : decode cX3_value 196 = .ok (.aload_n 0, 1) := by decide +kernel
theorem dX3_value_197 : decode cX3_value 197 = .ok (.getfield 24, 3) := by decide +kernel
theorem dX3_value_200 : decode cX3_value 200 = .ok (.iconst 0, 1) := by decide +kernel
theorem dX3_value_201 : decode cX3_value 201 = .ok (.laload, 1) := by decide +kernel
theorem dX3_value_202 : decode cX3_value 202 = .ok (.goto 6, 3) := by decide +kernel
theorem dX3_value_205 : decode cX3_value 205 = .ok (.ldc2_w 52, 3) := by decide +kernel
theorem dX3_value_208 : decode cX3_value 208 = .ok (.lreturn, 1) := by decide +kernel
def f_X3_value (M : MM) (a0 : Nat) (p1 : Int) : Option (Int × MM) :=
gd (0 ≤ p1 ∧ p1 < (3 : Int)) <|
bI (M (a0 + 3) (p1).toNat) fun x2 =>
bS (lp (X := Int × Int × MM) (Y := (Int × MM) ⊕ (Int × MM)) (fun x3 =>
gd (0 ≤ p1 ∧ p1 < (3 : Int)) <|
if x3.2.1 < (x3.2.2 (a0 + 4) (p1).toNat) then
(gd (0 ≤ x3.2.1 ∧ x3.2.1 < (64 : Int)) <|
bI (x3.2.2 (a0 + 1) (x3.2.1).toNat) fun x7 =>
bS ((if x7 = 2 then
(gd (0 ≤ x3.2.1 ∧ x3.2.1 < (64 : Int)) <|
gd (0 ≤ x3.1 ∧ x3.1 < (64 : Int)) <|
bM (upM x3.2.2 (a0 + 5) (x3.1).toNat (x3.2.2 (a0 + 2) (x3.2.1).toNat)) fun M11 =>
some (Sum.inl (w32 (x3.1 + 1), M11)))
else
(f_X9_isName x3.2.2 x7).bind fun x12 =>
if x12 = 0 then
(if 0 < x3.1 then
(if x7 = 312 then
(gd (0 ≤ w32 (x3.1 - 1) ∧ w32 (x3.1 - 1) < (64 : Int)) <|
((if (cmpI (x3.2.2 (a0 + 5) (w32 (x3.1 - 1)).toNat) 0) = 0 then
(some 1)
else
some 0) : Option (Int)).bind fun x18 =>
gd (0 ≤ w32 (x3.1 - 1) ∧ w32 (x3.1 - 1) < (64 : Int)) <|
bM (upM x3.2.2 (a0 + 5) (w32 (x3.1 - 1)).toNat x18) fun M20 =>
some (Sum.inl (x3.1, M20)))
else
if 1 < x3.1 then
(gd (0 ≤ w32 ((w32 (x3.1 + (-1))) - 1) ∧ w32 ((w32 (x3.1 + (-1))) - 1) < (64 : Int)) <|
gd (0 ≤ w32 (x3.1 + (-1)) ∧ w32 (x3.1 + (-1)) < (64 : Int)) <|
(f_X3_joined x3.2.2 x7 (x3.2.2 (a0 + 5) (w32 ((w32 (x3.1 + (-1))) - 1)).toNat) (x3.2.2 (a0 + 5) (w32 (x3.1 + (-1))).toNat)).bind fun x24 =>
if 0 < (cmpI x24 1000000000000) then
(some (Sum.inr ((-9223372036854775808), x3.2.2)))
else
if (cmpI x24 (-1000000000000)) < 0 then
(some (Sum.inr ((-9223372036854775808), x3.2.2)))
else
gd (0 ≤ w32 ((w32 (x3.1 + (-1))) - 1) ∧ w32 ((w32 (x3.1 + (-1))) - 1) < (64 : Int)) <|
bM (upM x3.2.2 (a0 + 5) (w32 ((w32 (x3.1 + (-1))) - 1)).toNat x24) fun M28 =>
some (Sum.inl (w32 (x3.1 + (-1)), M28)))
else
some (Sum.inl (x3.1, x3.2.2)))
else
if 1 < x3.1 then
(gd (0 ≤ w32 ((w32 (x3.1 + (-1))) - 1) ∧ w32 ((w32 (x3.1 + (-1))) - 1) < (64 : Int)) <|
gd (0 ≤ w32 (x3.1 + (-1)) ∧ w32 (x3.1 + (-1)) < (64 : Int)) <|
(f_X3_joined x3.2.2 x7 (x3.2.2 (a0 + 5) (w32 ((w32 (x3.1 + (-1))) - 1)).toNat) (x3.2.2 (a0 + 5) (w32 (x3.1 + (-1))).toNat)).bind fun x32 =>
if 0 < (cmpI x32 1000000000000) then
(some (Sum.inr ((-9223372036854775808), x3.2.2)))
else
if (cmpI x32 (-1000000000000)) < 0 then
(some (Sum.inr ((-9223372036854775808), x3.2.2)))
else
gd (0 ≤ w32 ((w32 (x3.1 + (-1))) - 1) ∧ w32 ((w32 (x3.1 + (-1))) - 1) < (64 : Int)) <|
bM (upM x3.2.2 (a0 + 5) (w32 ((w32 (x3.1 + (-1))) - 1)).toNat x32) fun M36 =>
some (Sum.inl (w32 (x3.1 + (-1)), M36)))
else
some (Sum.inl (x3.1, x3.2.2)))
else
gd (0 ≤ w32 (x7 - 313) ∧ w32 (x7 - 313) < (7 : Int)) <|
gd (0 ≤ x3.1 ∧ x3.1 < (64 : Int)) <|
bM (upM x3.2.2 (a0 + 5) (x3.1).toNat (x3.2.2 (a0 + 6) (w32 (x7 - 313)).toNat)) fun M39 =>
some (Sum.inl (w32 (x3.1 + 1), M39))) : Option ((Int × MM) ⊕ (Int × MM))) (fun x40 =>
some (Sum.inl (x40.1, w32 (x3.2.1 + 1), x40.2))) (fun r => (Sum.inr (Sum.inr r))))
else
some (Sum.inr (Sum.inl (x3.1, x3.2.2)))) FU (0, x2, M)) (fun x41 =>
if 0 < x41.1 then
(some (x41.2 (a0 + 5) 0, x41.2))
else
some ((-9223372036854775808), x41.2)) (fun r => r)
set_option maxRecDepth 4000 in
theorem c_X3_value {E : EE} {sh : List (Nat × Nat)} {ex : Bool} {R : RM} {M : MM} {a0 : Nat} {p1 : Int} (hE : Ext sh) (hL : Links R) (hs0 : SH0[a0]? = some (3, 8)) : ∀ y, f_X3_value M a0 p1 = some y → MetC E m_X3_value 0 0 [rV a0, iV p1] (sh, ex, R, M) (fun r w' => r = some (jV y.1) ∧ w' = (sh, ex, R, y.2)) := by
  intro y hy
  refine MetC.seg (o := f_X3_value M a0 p1) (t := (fun K y => K (some (jV y.1)) (sh, ex, R, y.2))) (L := [some (rV a0), some (iV p1), none, none, none, none, none]) (by decide) rfl (Nat.le_of_ble_eq_true rfl) ?_ hy ⟨rfl, rfl⟩
  unfold f_X3_value
  refine Seg.step (pc' := 1) (I_iconst dX3_value_0 ⟨by decide, by decide⟩) ?_
  refine Seg.step (pc' := 2) (I_istore_n (i := 2) dX3_value_1 rfl (by decide) rfl) ?_
  refine Seg.step (pc' := 3) (I_aload_n (i := 0) dX3_value_2 rfl rfl) ?_
  refine Seg.step (pc' := 6) (I_getR cls3 (by decide) wf_3_18 (hE _ _ hs0) rfl (lk_3_2 hL hs0) dX3_value_3) ?_
  refine Seg.step (pc' := 7) (I_iload_n (i := 1) dX3_value_6 rfl rfl) ?_
  refine S_gd fun h1 => ?_
  refine Seg.step (pc' := 8) (I_iald (hE _ _ (sk_3_2 hs0)) h1 dX3_value_7) ?_
  refine S_bI fun x2 => ?_
  refine Seg.step (pc' := 9) (I_istore_n (i := 3) dX3_value_8 rfl (by decide) rfl) ?_
  refine Seg.forget (Lle.ye (Lle.ye (Lle.ye (Lle.ye (Lle.no (Lle.no (Lle.no (Lle.nil)))))))) ?_
  refine S_bind2 (Y := Int × MM) (k' := 0) (n' := 0) 192 (fun y => [some (rV a0), none, some (iV y.1), none, none, none, none]) (fun y => []) (fun y => (sh, ex, R, y.2)) (S_loop (Y := Int × Int × MM) (fun y => [some (rV a0), some (iV p1), some (iV y.1), some (iV y.2.1), none, none, none]) (fun y => []) (fun y => (sh, ex, R, y.2.2)) (fun x3 => ?_) FU (0, x2, M)) (fun x41 => ?_)
  · refine Seg.step (pc' := 10) (I_iload_n (i := 3) dX3_value_9 rfl rfl) ?_
    refine Seg.step (pc' := 11) (I_aload_n (i := 0) dX3_value_10 rfl rfl) ?_
    refine Seg.step (pc' := 14) (I_getR cls3 (by decide) wf_3_21 (hE _ _ hs0) rfl (lk_3_3 hL hs0) dX3_value_11) ?_
    refine Seg.step (pc' := 15) (I_iload_n (i := 1) dX3_value_14 rfl rfl) ?_
    refine S_gd fun h4 => ?_
    refine Seg.step (pc' := 16) (I_iald (hE _ _ (sk_3_3 hs0)) h4 dX3_value_15) ?_
    refine S_icmp_ge (tgt := 192) dX3_value_16 (by decide) (fun h5 => ?_) (fun h5 => ?_)
    · refine Seg.step (pc' := 20) (I_aload_n (i := 0) dX3_value_19 rfl rfl) ?_
      refine Seg.step (pc' := 23) (I_getR cls3 (by decide) wf_3_9 (hE _ _ hs0) rfl (lk_3_0 hL hs0) dX3_value_20) ?_
      refine Seg.step (pc' := 24) (I_iload_n (i := 3) dX3_value_23 rfl rfl) ?_
      refine S_gd fun h6 => ?_
      refine Seg.step (pc' := 25) (I_iald (hE _ _ (sk_3_0 hs0)) h6 dX3_value_24) ?_
      refine S_bI fun x7 => ?_
      refine Seg.step (pc' := 27) (I_istore dX3_value_25 (by decide) rfl) ?_
      refine Seg.step (pc' := 29) (I_iload dX3_value_27 rfl) ?_
      refine Seg.step (pc' := 30) (I_iconst dX3_value_29 ⟨by decide, by decide⟩) ?_
      refine S_bind2 (Y := Int × MM) (k' := 0) (n' := 0) 186 (fun y => [some (rV a0), some (iV p1), some (iV y.1), some (iV x3.2.1), none, none, none]) (fun y => []) (fun y => (sh, ex, R, y.2)) ?_ (fun x40 => ?_)
      · refine S_icmp_ne (tgt := 52) dX3_value_30 (by decide) (fun h8 => ?_) (fun h8 => ?_)
        · refine Seg.step (pc' := 34) (I_aload_n (i := 0) dX3_value_33 rfl rfl) ?_
          refine Seg.step (pc' := 37) (I_getR cls3 (by decide) wf_3_24 (hE _ _ hs0) rfl (lk_3_4 hL hs0) dX3_value_34) ?_
          refine Seg.step (pc' := 38) (I_iload_n (i := 2) dX3_value_37 rfl rfl) ?_
          refine Seg.step (pc' := 39) (I_aload_n (i := 0) dX3_value_38 rfl rfl) ?_
          refine Seg.step (pc' := 42) (I_getR cls3 (by decide) wf_3_15 (hE _ _ hs0) rfl (lk_3_1 hL hs0) dX3_value_39) ?_
          refine Seg.step (pc' := 43) (I_iload_n (i := 3) dX3_value_42 rfl rfl) ?_
          refine S_gd fun h9 => ?_
          refine Seg.step (pc' := 44) (I_iald (hE _ _ (sk_3_1 hs0)) h9 dX3_value_43) ?_
          refine Seg.step (pc' := 45) (I_i2l dX3_value_44) ?_
          refine S_gd fun h10 => ?_
          refine Seg.step (pc' := 46) (I_last (hE _ _ (sk_3_4 hs0)) h10 dX3_value_45) ?_
          refine S_bM fun M11 => ?_
          refine Seg.step (pc' := 49) (I_iinc dX3_value_46 rfl (by decide) rfl) ?_
          refine Seg.step (pc' := 186) (I_goto (tgt := 186) dX3_value_49 (by decide)) ?_
          exact S_arr (fun K hK => GG.forget (Lle.ye (Lle.ye (Lle.ye (Lle.ye (Lle.no (Lle.no (Lle.no (Lle.nil)))))))) hK)
        refine Seg.step (pc' := 54) (I_iload dX3_value_52 rfl) ?_
        refine S_callS1 (md' := m_X9_isName) (fun y => some (iV y)) (fun y => (sh, ex, R, x3.2.2)) mm_X9_isName wm_3_40 ⟨rfl, rfl, by decide, by decide, by decide, by decide⟩ (Nat.le_of_ble_eq_true rfl) dX3_value_54 (fun y hy => c_X9_isName hE hL y hy) (fun x12 => ?_)
        refine S_if_eq (tgt := 84) dX3_value_57 (by decide) (fun h13 => ?_) (fun h13 => ?_)
        · refine Seg.step (pc' := 85) (I_iload_n (i := 2) dX3_value_84 rfl rfl) ?_
          refine S_if_le (tgt := 125) dX3_value_85 (by decide) (fun h14 => ?_) (fun h14 => ?_)
          · refine Seg.step (pc' := 90) (I_iload dX3_value_88 rfl) ?_
            refine Seg.step (pc' := 93) (I_sipush dX3_value_90 (by decide) ⟨by decide, by decide⟩) ?_
            refine S_icmp_ne (tgt := 125) dX3_value_93 (by decide) (fun h15 => ?_) (fun h15 => ?_)
            · refine Seg.step (pc' := 97) (I_aload_n (i := 0) dX3_value_96 rfl rfl) ?_
              refine Seg.step (pc' := 100) (I_getR cls3 (by decide) wf_3_24 (hE _ _ hs0) rfl (lk_3_4 hL hs0) dX3_value_97) ?_
              refine Seg.step (pc' := 101) (I_iload_n (i := 2) dX3_value_100 rfl rfl) ?_
              refine Seg.step (pc' := 102) (I_iconst dX3_value_101 ⟨by decide, by decide⟩) ?_
              refine Seg.step (pc' := 103) (I_isub dX3_value_102) ?_
              refine Seg.step (pc' := 104) (I_aload_n (i := 0) dX3_value_103 rfl rfl) ?_
              refine Seg.step (pc' := 107) (I_getR cls3 (by decide) wf_3_24 (hE _ _ hs0) rfl (lk_3_4 hL hs0) dX3_value_104) ?_
              refine Seg.step (pc' := 108) (I_iload_n (i := 2) dX3_value_107 rfl rfl) ?_
              refine Seg.step (pc' := 109) (I_iconst dX3_value_108 ⟨by decide, by decide⟩) ?_
              refine Seg.step (pc' := 110) (I_isub dX3_value_109) ?_
              refine S_gd fun h16 => ?_
              refine Seg.step (pc' := 111) (I_lald (hE _ _ (sk_3_4 hs0)) h16 dX3_value_110) ?_
              refine Seg.step (pc' := 112) (I_lconst (z := 0) dX3_value_111 (by decide) ⟨by decide, by decide⟩) ?_
              refine Seg.step (pc' := 113) (I_lcmp dX3_value_112) ?_
              refine S_bind (Y := Int) (k' := 0) (n' := 0) 121 (fun y => [some (rV a0), some (iV p1), some (iV x3.1), some (iV x3.2.1), none, none, none]) (fun y => [jV y, iV (w32 (x3.1 - 1)), rV (a0 + 5)]) (fun y => (sh, ex, R, x3.2.2)) ?_ (fun x18 => ?_)
              · refine S_if_ne (tgt := 120) dX3_value_113 (by decide) (fun h17 => ?_) (fun h17 => ?_)
                · refine Seg.step (pc' := 117) (I_lconst (z := 1) dX3_value_116 (by decide) ⟨by decide, by decide⟩) ?_
                  refine Seg.step (pc' := 121) (I_goto (tgt := 121) dX3_value_117 (by decide)) ?_
                  exact S_arr (fun K hK => GG.forget (Lle.ye (Lle.ye (Lle.ye (Lle.ye (Lle.no (Lle.no (Lle.no (Lle.nil)))))))) hK)
                refine Seg.step (pc' := 121) (I_lconst (z := 0) dX3_value_120 (by decide) ⟨by decide, by decide⟩) ?_
                exact S_arr (fun K hK => GG.forget (Lle.ye (Lle.ye (Lle.ye (Lle.ye (Lle.no (Lle.no (Lle.no (Lle.nil)))))))) hK)
              refine S_gd fun h19 => ?_
              refine Seg.step (pc' := 122) (I_last (hE _ _ (sk_3_4 hs0)) h19 dX3_value_121) ?_
              refine S_bM fun M20 => ?_
              refine Seg.step (pc' := 186) (I_goto (tgt := 186) dX3_value_122 (by decide)) ?_
              exact S_arr (fun K hK => GG.forget (Lle.ye (Lle.ye (Lle.ye (Lle.ye (Lle.no (Lle.no (Lle.no (Lle.nil)))))))) hK)
            refine Seg.step (pc' := 126) (I_iload_n (i := 2) dX3_value_125 rfl rfl) ?_
            refine Seg.step (pc' := 127) (I_iconst dX3_value_126 ⟨by decide, by decide⟩) ?_
            refine S_icmp_le (tgt := 186) dX3_value_127 (by decide) (fun h21 => ?_) (fun h21 => ?_)
            · refine Seg.step (pc' := 133) (I_iinc dX3_value_130 rfl (by decide) rfl) ?_
              refine Seg.step (pc' := 135) (I_iload dX3_value_133 rfl) ?_
              refine Seg.step (pc' := 136) (I_aload_n (i := 0) dX3_value_135 rfl rfl) ?_
              refine Seg.step (pc' := 139) (I_getR cls3 (by decide) wf_3_24 (hE _ _ hs0) rfl (lk_3_4 hL hs0) dX3_value_136) ?_
              refine Seg.step (pc' := 140) (I_iload_n (i := 2) dX3_value_139 rfl rfl) ?_
              refine Seg.step (pc' := 141) (I_iconst dX3_value_140 ⟨by decide, by decide⟩) ?_
              refine Seg.step (pc' := 142) (I_isub dX3_value_141) ?_
              refine S_gd fun h22 => ?_
              refine Seg.step (pc' := 143) (I_lald (hE _ _ (sk_3_4 hs0)) h22 dX3_value_142) ?_
              refine Seg.step (pc' := 144) (I_aload_n (i := 0) dX3_value_143 rfl rfl) ?_
              refine Seg.step (pc' := 147) (I_getR cls3 (by decide) wf_3_24 (hE _ _ hs0) rfl (lk_3_4 hL hs0) dX3_value_144) ?_
              refine Seg.step (pc' := 148) (I_iload_n (i := 2) dX3_value_147 rfl rfl) ?_
              refine S_gd fun h23 => ?_
              refine Seg.step (pc' := 149) (I_lald (hE _ _ (sk_3_4 hs0)) h23 dX3_value_148) ?_
              refine S_callS3 (md' := m_X3_joined) (fun y => some (jV y)) (fun y => (sh, ex, R, x3.2.2)) mm_X3_joined wm_3_44 ⟨rfl, rfl, by decide, by decide, by decide, by decide⟩ (Nat.le_of_ble_eq_true rfl) dX3_value_149 (fun y hy => c_X3_joined hE hL y hy) (fun x24 => ?_)
              refine Seg.step (pc' := 154) (I_lstore dX3_value_152 (by decide) rfl) ?_
              refine Seg.step (pc' := 156) (I_lload dX3_value_154 rfl) ?_
              refine Seg.step (pc' := 159) (I_ldc2 (z := 1000000000000) dX3_value_156 wk_3_48 ⟨by decide, by decide⟩) ?_
              refine Seg.step (pc' := 160) (I_lcmp dX3_value_159) ?_
              refine S_if_gt (tgt := 172) dX3_value_160 (by decide) (fun h25 => ?_) (fun h25 => ?_)
              · refine Seg.step (pc' := 175) (I_ldc2 (z := -9223372036854775808) dX3_value_172 wk_3_52 ⟨by decide, by decide⟩) ?_
                exact S_lret dX3_value_175 rfl (by decide) (by decide) (fun K hK => hK)
              refine Seg.step (pc' := 165) (I_lload dX3_value_163 rfl) ?_
              refine Seg.step (pc' := 168) (I_ldc2 (z := -1000000000000) dX3_value_165 wk_3_50 ⟨by decide, by decide⟩) ?_
              refine Seg.step (pc' := 169) (I_lcmp dX3_value_168) ?_
              refine S_if_ge (tgt := 176) dX3_value_169 (by decide) (fun h26 => ?_) (fun h26 => ?_)
              · refine Seg.step (pc' := 175) (I_ldc2 (z := -9223372036854775808) dX3_value_172 wk_3_52 ⟨by decide, by decide⟩) ?_
                exact S_lret dX3_value_175 rfl (by decide) (by decide) (fun K hK => hK)
              refine Seg.step (pc' := 177) (I_aload_n (i := 0) dX3_value_176 rfl rfl) ?_
              refine Seg.step (pc' := 180) (I_getR cls3 (by decide) wf_3_24 (hE _ _ hs0) rfl (lk_3_4 hL hs0) dX3_value_177) ?_
              refine Seg.step (pc' := 181) (I_iload_n (i := 2) dX3_value_180 rfl rfl) ?_
              refine Seg.step (pc' := 182) (I_iconst dX3_value_181 ⟨by decide, by decide⟩) ?_
              refine Seg.step (pc' := 183) (I_isub dX3_value_182) ?_
              refine Seg.step (pc' := 185) (I_lload dX3_value_183 rfl) ?_
              refine S_gd fun h27 => ?_
              refine Seg.step (pc' := 186) (I_last (hE _ _ (sk_3_4 hs0)) h27 dX3_value_185) ?_
              refine S_bM fun M28 => ?_
              exact S_arr (fun K hK => GG.forget (Lle.ye (Lle.ye (Lle.ye (Lle.ye (Lle.no (Lle.no (Lle.no (Lle.nil)))))))) hK)
            exact S_arr (fun K hK => GG.forget (Lle.ye (Lle.ye (Lle.ye (Lle.ye (Lle.no (Lle.no (Lle.no (Lle.nil)))))))) hK)
          refine Seg.step (pc' := 126) (I_iload_n (i := 2) dX3_value_125 rfl rfl) ?_
          refine Seg.step (pc' := 127) (I_iconst dX3_value_126 ⟨by decide, by decide⟩) ?_
          refine S_icmp_le (tgt := 186) dX3_value_127 (by decide) (fun h29 => ?_) (fun h29 => ?_)
          · refine Seg.step (pc' := 133) (I_iinc dX3_value_130 rfl (by decide) rfl) ?_
            refine Seg.step (pc' := 135) (I_iload dX3_value_133 rfl) ?_
            refine Seg.step (pc' := 136) (I_aload_n (i := 0) dX3_value_135 rfl rfl) ?_
            refine Seg.step (pc' := 139) (I_getR cls3 (by decide) wf_3_24 (hE _ _ hs0) rfl (lk_3_4 hL hs0) dX3_value_136) ?_
            refine Seg.step (pc' := 140) (I_iload_n (i := 2) dX3_value_139 rfl rfl) ?_
            refine Seg.step (pc' := 141) (I_iconst dX3_value_140 ⟨by decide, by decide⟩) ?_
            refine Seg.step (pc' := 142) (I_isub dX3_value_141) ?_
            refine S_gd fun h30 => ?_
            refine Seg.step (pc' := 143) (I_lald (hE _ _ (sk_3_4 hs0)) h30 dX3_value_142) ?_
            refine Seg.step (pc' := 144) (I_aload_n (i := 0) dX3_value_143 rfl rfl) ?_
            refine Seg.step (pc' := 147) (I_getR cls3 (by decide) wf_3_24 (hE _ _ hs0) rfl (lk_3_4 hL hs0) dX3_value_144) ?_
            refine Seg.step (pc' := 148) (I_iload_n (i := 2) dX3_value_147 rfl rfl) ?_
            refine S_gd fun h31 => ?_
            refine Seg.step (pc' := 149) (I_lald (hE _ _ (sk_3_4 hs0)) h31 dX3_value_148) ?_
            refine S_callS3 (md' := m_X3_joined) (fun y => some (jV y)) (fun y => (sh, ex, R, x3.2.2)) mm_X3_joined wm_3_44 ⟨rfl, rfl, by decide, by decide, by decide, by decide⟩ (Nat.le_of_ble_eq_true rfl) dX3_value_149 (fun y hy => c_X3_joined hE hL y hy) (fun x32 => ?_)
            refine Seg.step (pc' := 154) (I_lstore dX3_value_152 (by decide) rfl) ?_
            refine Seg.step (pc' := 156) (I_lload dX3_value_154 rfl) ?_
            refine Seg.step (pc' := 159) (I_ldc2 (z := 1000000000000) dX3_value_156 wk_3_48 ⟨by decide, by decide⟩) ?_
            refine Seg.step (pc' := 160) (I_lcmp dX3_value_159) ?_
            refine S_if_gt (tgt := 172) dX3_value_160 (by decide) (fun h33 => ?_) (fun h33 => ?_)
            · refine Seg.step (pc' := 175) (I_ldc2 (z := -9223372036854775808) dX3_value_172 wk_3_52 ⟨by decide, by decide⟩) ?_
              exact S_lret dX3_value_175 rfl (by decide) (by decide) (fun K hK => hK)
            refine Seg.step (pc' := 165) (I_lload dX3_value_163 rfl) ?_
            refine Seg.step (pc' := 168) (I_ldc2 (z := -1000000000000) dX3_value_165 wk_3_50 ⟨by decide, by decide⟩) ?_
            refine Seg.step (pc' := 169) (I_lcmp dX3_value_168) ?_
            refine S_if_ge (tgt := 176) dX3_value_169 (by decide) (fun h34 => ?_) (fun h34 => ?_)
            · refine Seg.step (pc' := 175) (I_ldc2 (z := -9223372036854775808) dX3_value_172 wk_3_52 ⟨by decide, by decide⟩) ?_
              exact S_lret dX3_value_175 rfl (by decide) (by decide) (fun K hK => hK)
            refine Seg.step (pc' := 177) (I_aload_n (i := 0) dX3_value_176 rfl rfl) ?_
            refine Seg.step (pc' := 180) (I_getR cls3 (by decide) wf_3_24 (hE _ _ hs0) rfl (lk_3_4 hL hs0) dX3_value_177) ?_
            refine Seg.step (pc' := 181) (I_iload_n (i := 2) dX3_value_180 rfl rfl) ?_
            refine Seg.step (pc' := 182) (I_iconst dX3_value_181 ⟨by decide, by decide⟩) ?_
            refine Seg.step (pc' := 183) (I_isub dX3_value_182) ?_
            refine Seg.step (pc' := 185) (I_lload dX3_value_183 rfl) ?_
            refine S_gd fun h35 => ?_
            refine Seg.step (pc' := 186) (I_last (hE _ _ (sk_3_4 hs0)) h35 dX3_value_185) ?_
            refine S_bM fun M36 => ?_
            exact S_arr (fun K hK => GG.forget (Lle.ye (Lle.ye (Lle.ye (Lle.ye (Lle.no (Lle.no (Lle.no (Lle.nil)))))))) hK)
          exact S_arr (fun K hK => GG.forget (Lle.ye (Lle.ye (Lle.ye (Lle.ye (Lle.no (Lle.no (Lle.no (Lle.nil)))))))) hK)
        refine Seg.step (pc' := 61) (I_aload_n (i := 0) dX3_value_60 rfl rfl) ?_
        refine Seg.step (pc' := 64) (I_getR cls3 (by decide) wf_3_24 (hE _ _ hs0) rfl (lk_3_4 hL hs0) dX3_value_61) ?_
        refine Seg.step (pc' := 65) (I_iload_n (i := 2) dX3_value_64 rfl rfl) ?_
        refine Seg.step (pc' := 66) (I_aload_n (i := 0) dX3_value_65 rfl rfl) ?_
        refine Seg.step (pc' := 69) (I_getR cls3 (by decide) wf_3_28 (hE _ _ hs0) rfl (lk_3_5 hL hs0) dX3_value_66) ?_
        refine Seg.step (pc' := 71) (I_iload dX3_value_69 rfl) ?_
        refine Seg.step (pc' := 74) (I_sipush dX3_value_71 (by decide) ⟨by decide, by decide⟩) ?_
        refine Seg.step (pc' := 75) (I_isub dX3_value_74) ?_
        refine S_gd fun h37 => ?_
        refine Seg.step (pc' := 76) (I_iald (hE _ _ (sk_3_5 hs0)) h37 dX3_value_75) ?_
        refine Seg.step (pc' := 77) (I_i2l dX3_value_76) ?_
        refine S_gd fun h38 => ?_
        refine Seg.step (pc' := 78) (I_last (hE _ _ (sk_3_4 hs0)) h38 dX3_value_77) ?_
        refine S_bM fun M39 => ?_
        refine Seg.step (pc' := 81) (I_iinc dX3_value_78 rfl (by decide) rfl) ?_
        refine Seg.step (pc' := 186) (I_goto (tgt := 186) dX3_value_81 (by decide)) ?_
        exact S_arr (fun K hK => GG.forget (Lle.ye (Lle.ye (Lle.ye (Lle.ye (Lle.no (Lle.no (Lle.no (Lle.nil)))))))) hK)
      refine Seg.step (pc' := 189) (I_iinc dX3_value_186 rfl (by decide) rfl) ?_
      refine Seg.step (pc' := 9) (I_goto (tgt := 9) dX3_value_189 (by decide)) ?_
      exact S_arr (fun K hK => GG.forget (Lle.ye (Lle.ye (Lle.ye (Lle.ye (Lle.no (Lle.no (Lle.no (Lle.nil)))))))) hK)
    exact S_arr (fun K hK => GG.forget (Lle.ye (Lle.no (Lle.ye (Lle.no (Lle.no (Lle.no (Lle.no (Lle.nil)))))))) hK)
  refine Seg.step (pc' := 193) (I_iload_n (i := 2) dX3_value_192 rfl rfl) ?_
  refine S_if_le (tgt := 205) dX3_value_193 (by decide) (fun h42 => ?_) (fun h42 => ?_)
  · refine Seg.step (pc' := 197) (I_aload_n (i := 0) dX3_value_196 rfl rfl) ?_
    refine Seg.step (pc' := 200) (I_getR cls3 (by decide) wf_3_24 (hE _ _ hs0) rfl (lk_3_4 hL hs0) dX3_value_197) ?_
    refine Seg.step (pc' := 201) (I_iconst dX3_value_200 ⟨by decide, by decide⟩) ?_
    refine Seg.step (pc' := 202) (I_lald (hE _ _ (sk_3_4 hs0)) ⟨by decide, by decide⟩ dX3_value_201) ?_
    refine Seg.step (pc' := 208) (I_goto (tgt := 208) dX3_value_202 (by decide)) ?_
    exact S_lret dX3_value_208 rfl (by decide) (by decide) (fun K hK => hK)
  refine Seg.step (pc' := 208) (I_ldc2 (z := -9223372036854775808) dX3_value_205 wk_3_52 ⟨by decide, by decide⟩) ?_
  exact S_lret dX3_value_208 rfl (by decide) (by decide) (fun K hK => hK)
theorem dX0_roomLaw_0 : decode cX0_roomLaw 0 = .ok (.aload_n 0, 1) := by decide +kernel
theorem dX0_roomLaw_1 : decode cX0_roomLaw 1 = .ok (.iload_n 1, 1) := by decide +kernel
theorem dX0_roomLaw_2 : decode cX0_roomLaw 2 = .ok (.iload_n 2, 1) := by decide +kernel
theorem dX0_roomLaw_3 : decode cX0_roomLaw 3 = .ok (.invokevirtual 192, 3) := by decide +kernel
theorem dX0_roomLaw_6 : decode cX0_roomLaw 6 = .ok (.aload_n 0, 1) := by decide +kernel
theorem dX0_roomLaw_7 : decode cX0_roomLaw 7 = .ok (.getfield 38, 3) := by decide +kernel
theorem dX0_roomLaw_10 : decode cX0_roomLaw 10 = .ok (.getfield 183, 3) := by decide +kernel
theorem dX0_roomLaw_13 : decode cX0_roomLaw 13 = .ok (.iconst 0, 1) := by decide +kernel
theorem dX0_roomLaw_14 : decode cX0_roomLaw 14 = .ok (.invokevirtual 196, 3) := by decide +kernel
theorem dX0_roomLaw_17 : decode cX0_roomLaw 17 = .ok (.lreturn, 1) := by decide +kernel
def f_X0_roomLaw (M : MM) (a0 : Nat) (p1 : Int) (p2 : Int) : Option (Int × MM) :=
(f_X0_nameRoom M a0 p1 p2).bind fun x1 =>
gH (x1 a0 1) fun b2 =>
(f_X3_value x1 (b2 + 12) 0).bind fun x3 =>
some (x3.1, x3.2)
set_option maxRecDepth 4000 in
theorem c_X0_roomLaw {E : EE} {sh : List (Nat × Nat)} {ex : Bool} {R : RM} {M : MM} {a0 : Nat} {p1 : Int} {p2 : Int} (hE : Ext sh) (hL : Links R) (hs0 : SH0[a0]? = some (0, 18)) : ∀ y, f_X0_roomLaw M a0 p1 p2 = some y → MetC E m_X0_roomLaw 0 0 [rV a0, iV p1, iV p2] (sh, ex, R, M) (fun r w' => r = some (jV y.1) ∧ w' = (sh, ex, R, y.2)) := by
  intro y hy
  refine MetC.seg (o := f_X0_roomLaw M a0 p1 p2) (t := (fun K y => K (some (jV y.1)) (sh, ex, R, y.2))) (L := [some (rV a0), some (iV p1), some (iV p2)]) (by decide) rfl (Nat.le_of_ble_eq_true rfl) ?_ hy ⟨rfl, rfl⟩
  unfold f_X0_roomLaw
  refine Seg.step (pc' := 1) (I_aload_n (i := 0) dX0_roomLaw_0 rfl rfl) ?_
  refine Seg.step (pc' := 2) (I_iload_n (i := 1) dX0_roomLaw_1 rfl rfl) ?_
  refine Seg.step (pc' := 3) (I_iload_n (i := 2) dX0_roomLaw_2 rfl rfl) ?_
  refine S_callV2 (md' := m_X0_nameRoom) (fun y => none) (fun y => (sh, ex, R, y)) (hE _ _ hs0) ⟨by decide, rfl⟩ mm_X0_nameRoom wm_0_192 ⟨rfl, rfl, by decide, by decide, by decide, by decide⟩ (Nat.le_of_ble_eq_true rfl) dX0_roomLaw_3 (fun y hy => c_X0_nameRoom hE hL hs0 y hy) (fun x1 => ?_)
  refine Seg.step (pc' := 7) (I_aload_n (i := 0) dX0_roomLaw_6 rfl rfl) ?_
  refine S_gH fun b2 hb2 zb2 => ?_
  refine Seg.step (pc' := 10) (I_getH cls0 (by decide) wf_0_38 (hE _ _ hs0) rfl zb2 (hkp hb2) dX0_roomLaw_7) ?_
  refine Seg.step (pc' := 13) (I_getR cls2 (by decide) wf_0_183 (hE _ _ (hks hb2)) rfl (lk_2_2 hL (hks hb2)) dX0_roomLaw_10) ?_
  refine Seg.step (pc' := 14) (I_iconst dX0_roomLaw_13 ⟨by decide, by decide⟩) ?_
  refine S_callV1 (md' := m_X3_value) (fun y => some (jV y.1)) (fun y => (sh, ex, R, y.2)) (hE _ _ (sk_2_2 (hks hb2))) ⟨by decide, rfl⟩ mm_X3_value wm_0_196 ⟨rfl, rfl, by decide, by decide, by decide, by decide⟩ (Nat.le_of_ble_eq_true rfl) dX0_roomLaw_14 (fun y hy => c_X3_value hE hL (sk_2_2 (hks hb2)) y hy) (fun x3 => ?_)
  exact S_lret dX0_roomLaw_17 rfl (by decide) (by decide) (fun K hK => hK)
theorem dX0_lossOf_0 : decode cX0_lossOf 0 = .ok (.aload_n 0, 1) := by decide +kernel
theorem dX0_lossOf_1 : decode cX0_lossOf 1 = .ok (.getfield 12, 3) := by decide +kernel
theorem dX0_lossOf_4 : decode cX0_lossOf 4 = .ok (.iload_n 1, 1) := by decide +kernel
theorem dX0_lossOf_5 : decode cX0_lossOf 5 = .ok (.aload_n 0, 1) := by decide +kernel
theorem dX0_lossOf_6 : decode cX0_lossOf 6 = .ok (.getfield 38, 3) := by decide +kernel
theorem dX0_lossOf_9 : decode cX0_lossOf 9 = .ok (.getfield 60, 3) := by decide +kernel
theorem dX0_lossOf_12 : decode cX0_lossOf 12 = .ok (.getfield 171, 3) := by decide +kernel
theorem dX0_lossOf_15 : decode cX0_lossOf 15 = .ok (.iload_n 1, 1) := by decide +kernel
theorem dX0_lossOf_16 : decode cX0_lossOf 16 = .ok (.iaload, 1) := by decide +kernel
theorem dX0_lossOf_17 : decode cX0_lossOf 17 = .ok (.invokevirtual 174, 3) := by decide +kernel
theorem dX0_lossOf_20 : decode cX0_lossOf 20 = .ok (.istore_n 2, 1) := by decide +kernel
theorem dX0_lossOf_21 : decode cX0_lossOf 21 = .ok (.aload_n 0, 1) := by decide +kernel
theorem dX0_lossOf_22 : decode cX0_lossOf 22 = .ok (.iload_n 1, 1) := by decide +kernel
theorem dX0_lossOf_23 : decode cX0_lossOf 23 = .ok (.iload_n 2, 1) := by decide +kernel
theorem dX0_lossOf_24 : decode cX0_lossOf 24 = .ok (.invokevirtual 177, 3) := by decide +kernel
theorem dX0_lossOf_27 : decode cX0_lossOf 27 = .ok (.lstore_n 3, 1) := by decide +kernel
theorem dX0_lossOf_28 : decode cX0_lossOf 28 = .ok (.lload_n 3, 1) := by decide +kernel
theorem dX0_lossOf_29 : decode cX0_lossOf 29 = .ok (.ldc2_w 181, 3) := by decide +kernel
theorem dX0_lossOf_32 : decode cX0_lossOf 32 = .ok (.lcmp, 1) := by decide +kernel
theorem dX0_lossOf_33 : decode cX0_lossOf 33 = .ok (.ifCond .ne 21, 3) := by decide +kernel
theorem dX0_lossOf_36 : decode cX0_lossOf 36 = .ok (.aload_n 0, 1) := by decide +kernel
theorem dX0_lossOf_37 : decode cX0_lossOf 37 = .ok (.getfield 22, 3) := by decide +kernel
theorem dX0_lossOf_40 : decode cX0_lossOf 40 = .ok (.iload_n 1, 1) := by decide +kernel
theorem dX0_lossOf_41 : decode cX0_lossOf 41 = .ok (.iaload, 1) := by decide +kernel
theorem dX0_lossOf_42 : decode cX0_lossOf 42 = .ok (.aload_n 0, 1) := by decide +kernel
theorem dX0_lossOf_43 : decode cX0_lossOf 43 = .ok (.getfield 126, 3) := by decide +kernel
theorem dX0_lossOf_46 : decode cX0_lossOf 46 = .ok (.isub, 1) := by decide +kernel
theorem dX0_lossOf_47 : decode cX0_lossOf 47 = .ok (.iload_n 2, 1) := by decide +kernel
theorem dX0_lossOf_48 : decode cX0_lossOf 48 = .ok (.imul, 1) := by decide +kernel
theorem dX0_lossOf_49 : decode cX0_lossOf 49 = .ok (.bipush 100, 2) := by decide +kernel
theorem dX0_lossOf_51 : decode cX0_lossOf 51 = .ok (.idiv, 1) := by decide +kernel
theorem dX0_lossOf_52 : decode cX0_lossOf 52 = .ok (.i2l, 1) := by decide +kernel
theorem dX0_lossOf_53 : decode cX0_lossOf 53 = .ok (.lstore_n 3, 1) := by decide +kernel
theorem dX0_lossOf_54 : decode cX0_lossOf 54 = .ok (.lload_n 3, 1) := by decide +kernel
theorem dX0_lossOf_55 : decode cX0_lossOf 55 = .ok (.sipush (-400), 3) := by decide +kernel
theorem dX0_lossOf_58 : decode cX0_lossOf 58 = .ok (.sipush 400, 3) := by decide +kernel
theorem dX0_lossOf_61 : decode cX0_lossOf 61 = .ok (.invokestatic 167, 3) := by decide +kernel
theorem dX0_lossOf_64 : decode cX0_lossOf 64 = .ok (.ireturn, 1) := by decide +kernel
def f_X0_lossOf (M : MM) (a0 : Nat) (p1 : Int) : Option (Int × MM) :=
gH (M a0 1) fun b1 =>
gd (0 ≤ p1 ∧ p1 < (5 : Int)) <|
(f_X10_leakOf M (a0 + 1) p1 (M (b1 + 4) (p1).toNat)).bind fun x3 =>
(f_X0_roomLaw M a0 p1 x3).bind fun x4 =>
((if (cmpI x4.1 (-9223372036854775808)) = 0 then
(gd (0 ≤ p1 ∧ p1 < (30 : Int)) <|
bI (w32 (Int.tdiv (w32 ((w32 ((x4.2 (a0 + 3) (p1).toNat) - (x4.2 a0 6))) * x3)) 100)) fun x7 =>
some x7)
else
some x4.1) : Option (Int)).bind fun x8 =>
(f_X11_limited x4.2 x8 (-400) 400).bind fun x9 =>
some (x9, x4.2)
set_option maxRecDepth 4000 in
theorem c_X0_lossOf {E : EE} {sh : List (Nat × Nat)} {ex : Bool} {R : RM} {M : MM} {a0 : Nat} {p1 : Int} (hE : Ext sh) (hL : Links R) (hs0 : SH0[a0]? = some (0, 18)) : ∀ y, f_X0_lossOf M a0 p1 = some y → MetC E m_X0_lossOf 0 0 [rV a0, iV p1] (sh, ex, R, M) (fun r w' => r = some (iV y.1) ∧ w' = (sh, ex, R, y.2)) := by
  intro y hy
  refine MetC.seg (o := f_X0_lossOf M a0 p1) (t := (fun K y => K (some (iV y.1)) (sh, ex, R, y.2))) (L := [some (rV a0), some (iV p1), none, none, none]) (by decide) rfl (Nat.le_of_ble_eq_true rfl) ?_ hy ⟨rfl, rfl⟩
  unfold f_X0_lossOf
  refine Seg.step (pc' := 1) (I_aload_n (i := 0) dX0_lossOf_0 rfl rfl) ?_
  refine Seg.step (pc' := 4) (I_getR cls0 (by decide) wf_0_12 (hE _ _ hs0) rfl (lk_0_0 hL hs0) dX0_lossOf_1) ?_
  refine Seg.step (pc' := 5) (I_iload_n (i := 1) dX0_lossOf_4 rfl rfl) ?_
  refine Seg.step (pc' := 6) (I_aload_n (i := 0) dX0_lossOf_5 rfl rfl) ?_
  refine S_gH fun b1 hb1 zb1 => ?_
  refine Seg.step (pc' := 9) (I_getH cls0 (by decide) wf_0_38 (hE _ _ hs0) rfl zb1 (hkp hb1) dX0_lossOf_6) ?_
  refine Seg.step (pc' := 12) (I_getR cls2 (by decide) wf_0_60 (hE _ _ (hks hb1)) rfl (lk_2_0 hL (hks hb1)) dX0_lossOf_9) ?_
  refine Seg.step (pc' := 15) (I_getR cls8 (by decide) wf_0_171 (hE _ _ (sk_2_0 (hks hb1))) rfl (lk_8_3 hL (sk_2_0 (hks hb1))) dX0_lossOf_12) ?_
  refine Seg.step (pc' := 16) (I_iload_n (i := 1) dX0_lossOf_15 rfl rfl) ?_
  refine S_gd fun h2 => ?_
  refine Seg.step (pc' := 17) (I_iald (hE _ _ (sk_8_3 (sk_2_0 (hks hb1)))) h2 dX0_lossOf_16) ?_
  refine S_callV2 (md' := m_X10_leakOf) (fun y => some (iV y)) (fun y => (sh, ex, R, M)) (hE _ _ (sk_0_0 hs0)) ⟨by decide, rfl⟩ mm_X10_leakOf wm_0_174 ⟨rfl, rfl, by decide, by decide, by decide, by decide⟩ (Nat.le_of_ble_eq_true rfl) dX0_lossOf_17 (fun y hy => c_X10_leakOf hE hL (sk_0_0 hs0) y hy) (fun x3 => ?_)
  refine Seg.step (pc' := 21) (I_istore_n (i := 2) dX0_lossOf_20 rfl (by decide) rfl) ?_
  refine Seg.step (pc' := 22) (I_aload_n (i := 0) dX0_lossOf_21 rfl rfl) ?_
  refine Seg.step (pc' := 23) (I_iload_n (i := 1) dX0_lossOf_22 rfl rfl) ?_
  refine Seg.step (pc' := 24) (I_iload_n (i := 2) dX0_lossOf_23 rfl rfl) ?_
  refine S_callV2 (md' := m_X0_roomLaw) (fun y => some (jV y.1)) (fun y => (sh, ex, R, y.2)) (hE _ _ hs0) ⟨by decide, rfl⟩ mm_X0_roomLaw wm_0_177 ⟨rfl, rfl, by decide, by decide, by decide, by decide⟩ (Nat.le_of_ble_eq_true rfl) dX0_lossOf_24 (fun y hy => c_X0_roomLaw hE hL hs0 y hy) (fun x4 => ?_)
  refine Seg.step (pc' := 28) (I_lstore_n (i := 3) dX0_lossOf_27 rfl (by decide) rfl) ?_
  refine Seg.step (pc' := 29) (I_lload_n (i := 3) dX0_lossOf_28 rfl rfl) ?_
  refine Seg.step (pc' := 32) (I_ldc2 (z := -9223372036854775808) dX0_lossOf_29 wk_0_181 ⟨by decide, by decide⟩) ?_
  refine Seg.step (pc' := 33) (I_lcmp dX0_lossOf_32) ?_
  refine S_bind (Y := Int) (k' := 0) (n' := 0) 54 (fun y => [none, none, none, some (jV y), none]) (fun y => []) (fun y => (sh, ex, R, x4.2)) ?_ (fun x8 => ?_)
  · refine S_if_ne (tgt := 54) dX0_lossOf_33 (by decide) (fun h5 => ?_) (fun h5 => ?_)
    · refine Seg.step (pc' := 37) (I_aload_n (i := 0) dX0_lossOf_36 rfl rfl) ?_
      refine Seg.step (pc' := 40) (I_getR cls0 (by decide) wf_0_22 (hE _ _ hs0) rfl (lk_0_8 hL hs0) dX0_lossOf_37) ?_
      refine Seg.step (pc' := 41) (I_iload_n (i := 1) dX0_lossOf_40 rfl rfl) ?_
      refine S_gd fun h6 => ?_
      refine Seg.step (pc' := 42) (I_iald (hE _ _ (sk_0_8 hs0)) h6 dX0_lossOf_41) ?_
      refine Seg.step (pc' := 43) (I_aload_n (i := 0) dX0_lossOf_42 rfl rfl) ?_
      refine Seg.step (pc' := 46) (I_getI cls0 (by decide) wf_0_126 (hE _ _ hs0) rfl dX0_lossOf_43) ?_
      refine Seg.step (pc' := 47) (I_isub dX0_lossOf_46) ?_
      refine Seg.step (pc' := 48) (I_iload_n (i := 2) dX0_lossOf_47 rfl rfl) ?_
      refine Seg.step (pc' := 49) (I_imul dX0_lossOf_48) ?_
      refine Seg.step (pc' := 51) (I_bipush dX0_lossOf_49 (by decide) ⟨by decide, by decide⟩) ?_
      refine Seg.step (pc' := 52) (I_idiv dX0_lossOf_51 (by decide)) ?_
      refine Seg.step (pc' := 53) (I_i2l dX0_lossOf_52) ?_
      refine S_bJ fun x7 => ?_
      refine Seg.step (pc' := 54) (I_lstore_n (i := 3) dX0_lossOf_53 rfl (by decide) rfl) ?_
      exact S_arr (fun K hK => GG.forget (Lle.no (Lle.no (Lle.no (Lle.ye (Lle.no (Lle.nil)))))) hK)
    exact S_arr (fun K hK => GG.forget (Lle.no (Lle.no (Lle.no (Lle.ye (Lle.no (Lle.nil)))))) hK)
  refine Seg.step (pc' := 55) (I_lload_n (i := 3) dX0_lossOf_54 rfl rfl) ?_
  refine Seg.step (pc' := 58) (I_sipush dX0_lossOf_55 (by decide) ⟨by decide, by decide⟩) ?_
  refine Seg.step (pc' := 61) (I_sipush dX0_lossOf_58 (by decide) ⟨by decide, by decide⟩) ?_
  refine S_callN3 (md' := m_X11_limited) (fun y => some (iV y)) (fun y => (sh, ex, R, x4.2)) mm_X11_limited wn_0_167 ⟨rfl, rfl, by decide, by decide, by decide, by decide⟩ (Nat.le_of_ble_eq_true rfl) dX0_lossOf_61 (fun y hy => c_X11_limited hE hL y hy) (fun x9 => ?_)
  exact S_iret dX0_lossOf_64 rfl (by decide) (by decide) (fun K hK => hK)
theorem dX0_changeRooms_0 : decode cX0_changeRooms 0 = .ok (.aload_n 0, 1) := by decide +kernel
theorem dX0_changeRooms_1 : decode cX0_changeRooms 1 = .ok (.getfield 22, 3) := by decide +kernel
theorem dX0_changeRooms_4 : decode cX0_changeRooms 4 = .ok (.iconst 0, 1) := by decide +kernel
theorem dX0_changeRooms_5 : decode cX0_changeRooms 5 = .ok (.aload_n 0, 1) := by decide +kernel
theorem dX0_changeRooms_6 : decode cX0_changeRooms 6 = .ok (.getfield 22, 3) := by decide +kernel
theorem dX0_changeRooms_9 : decode cX0_changeRooms 9 = .ok (.iconst 5, 1) := by decide +kernel
theorem dX0_changeRooms_10 : decode cX0_changeRooms 10 = .ok (.bipush 25, 2) := by decide +kernel
theorem dX0_changeRooms_12 : decode cX0_changeRooms 12 = .ok (.invokestatic 85, 3) := by decide +kernel
theorem dX0_changeRooms_15 : decode cX0_changeRooms 15 = .ok (.iconst 0, 1) := by decide +kernel
theorem dX0_changeRooms_16 : decode cX0_changeRooms 16 = .ok (.istore_n 2, 1) := by decide +kernel
theorem dX0_changeRooms_17 : decode cX0_changeRooms 17 = .ok (.iload_n 2, 1) := by decide +kernel
theorem dX0_changeRooms_18 : decode cX0_changeRooms 18 = .ok (.aload_n 0, 1) := by decide +kernel
theorem dX0_changeRooms_19 : decode cX0_changeRooms 19 = .ok (.getfield 38, 3) := by decide +kernel
theorem dX0_changeRooms_22 : decode cX0_changeRooms 22 = .ok (.getfield 60, 3) := by decide +kernel
theorem dX0_changeRooms_25 : decode cX0_changeRooms 25 = .ok (.getfield 91, 3) := by decide +kernel
theorem dX0_changeRooms_28 : decode cX0_changeRooms 28 = .ok (.if_icmp .ge 98, 3) := by decide +kernel
theorem dX0_changeRooms_31 : decode cX0_changeRooms 31 = .ok (.iload_n 1, 1) := by decide +kernel
theorem dX0_changeRooms_32 : decode cX0_changeRooms 32 = .ok (.ifCond .eq 18, 3) := by decide +kernel
theorem dX0_changeRooms_35 : decode cX0_changeRooms 35 = .ok (.aload_n 0, 1) := by decide +kernel
theorem dX0_changeRooms_36 : decode cX0_changeRooms 36 = .ok (.getfield 38, 3) := by decide +kernel
theorem dX0_changeRooms_39 : decode cX0_changeRooms 39 = .ok (.getfield 60, 3) := by decide +kernel
theorem dX0_changeRooms_42 : decode cX0_changeRooms 42 = .ok (.getfield 152, 3) := by decide +kernel
theorem dX0_changeRooms_45 : decode cX0_changeRooms 45 = .ok (.iload_n 2, 1) := by decide +kernel
theorem dX0_changeRooms_46 : decode cX0_changeRooms 46 = .ok (.iaload, 1) := by decide +kernel
theorem dX0_changeRooms_47 : decode cX0_changeRooms 47 = .ok (.goto 4, 3) := by decide +kernel
theorem dX0_changeRooms_50 : decode cX0_changeRooms 50 = .ok (.iconst 0, 1) := by decide +kernel
theorem dX0_changeRooms_51 : decode cX0_changeRooms 51 = .ok (.istore_n 3, 1) := by decide +kernel
theorem dX0_changeRooms_52 : decode cX0_changeRooms 52 = .ok (.aload_n 0, 1) := by decide +kernel
theorem dX0_changeRooms_53 : decode cX0_changeRooms 53 = .ok (.getfield 12, 3) := by decide +kernel
theorem dX0_changeRooms_56 : decode cX0_changeRooms 56 = .ok (.getfield 155, 3) := by decide +kernel
theorem dX0_changeRooms_59 : decode cX0_changeRooms 59 = .ok (.ifCond .ne 21, 3) := by decide +kernel
theorem dX0_changeRooms_62 : decode cX0_changeRooms 62 = .ok (.iload_n 3, 1) := by decide +kernel
theorem dX0_changeRooms_63 : decode cX0_changeRooms 63 = .ok (.aload_n 0, 1) := by decide +kernel
theorem dX0_changeRooms_64 : decode cX0_changeRooms 64 = .ok (.getfield 38, 3) := by decide +kernel
theorem dX0_changeRooms_67 : decode cX0_changeRooms 67 = .ok (.iload_n 2, 1) := by decide +kernel
theorem dX0_changeRooms_68 : decode cX0_changeRooms 68 = .ok (.aload_n 0, 1) := by decide +kernel
theorem dX0_changeRooms_69 : decode cX0_changeRooms 69 = .ok (.getfield 49, 3) := by decide +kernel
theorem dX0_changeRooms_72 : decode cX0_changeRooms 72 = .ok (.bipush 24, 2) := by decide +kernel
theorem dX0_changeRooms_74 : decode cX0_changeRooms 74 = .ok (.irem, 1) := by decide +kernel
theorem dX0_changeRooms_75 : decode cX0_changeRooms 75 = .ok (.invokevirtual 158, 3) := by decide +kernel
theorem dX0_changeRooms_78 : decode cX0_changeRooms 78 = .ok (.iadd, 1) := by decide +kernel
theorem dX0_changeRooms_79 : decode cX0_changeRooms 79 = .ok (.istore_n 3, 1) := by decide +kernel
theorem dX0_changeRooms_80 : decode cX0_changeRooms 80 = .ok (.aload_n 0, 1) := by decide +kernel
theorem dX0_changeRooms_81 : decode cX0_changeRooms 81 = .ok (.getfield 12, 3) := by decide +kernel
theorem dX0_changeRooms_84 : decode cX0_changeRooms 84 = .ok (.getfield 161, 3) := by decide +kernel
theorem dX0_changeRooms_87 : decode cX0_changeRooms 87 = .ok (.ifCond .ne 11, 3) := by decide +kernel
theorem dX0_changeRooms_90 : decode cX0_changeRooms 90 = .ok (.iload_n 3, 1) := by decide +kernel
theorem dX0_changeRooms_91 : decode cX0_changeRooms 91 = .ok (.aload_n 0, 1) := by decide +kernel
theorem dX0_changeRooms_92 : decode cX0_changeRooms 92 = .ok (.iload_n 2, 1) := by decide +kernel
theorem dX0_changeRooms_93 : decode cX0_changeRooms 93 = .ok (.invokevirtual 164, 3) := by decide +kernel
theorem dX0_changeRooms_96 : decode cX0_changeRooms 96 = .ok (.isub, 1) := by decide +kernel
theorem dX0_changeRooms_97 : decode cX0_changeRooms 97 = .ok (.istore_n 3, 1) := by decide +kernel
theorem dX0_changeRooms_98 : decode cX0_changeRooms 98 = .ok (.aload_n 0, 1) := by decide +kernel
theorem dX0_changeRooms_99 : decode cX0_changeRooms 99 = .ok (.getfield 22, 3) := by decide +kernel
theorem dX0_changeRooms_102 : decode cX0_changeRooms 102 = .ok (.iload_n 2, 1) := by decide +kernel
theorem dX0_changeRooms_103 : decode cX0_changeRooms 103 = .ok (.aload_n 0, 1) := by decide +kernel
theorem dX0_changeRooms_104 : decode cX0_changeRooms 104 = .ok (.getfield 22, 3) := by decide +kernel
theorem dX0_changeRooms_107 : decode cX0_changeRooms 107 = .ok (.iload_n 2, 1) := by decide +kernel
theorem dX0_changeRooms_108 : decode cX0_changeRooms 108 = .ok (.iaload, 1) := by decide +kernel
theorem dX0_changeRooms_109 : decode cX0_changeRooms 109 = .ok (.iload_n 3, 1) := by decide +kernel
theorem dX0_changeRooms_110 : decode cX0_changeRooms 110 = .ok (.iadd, 1) := by decide +kernel
theorem dX0_changeRooms_111 : decode cX0_changeRooms 111 = .ok (.i2l, 1) := by decide +kernel
theorem dX0_changeRooms_112 : decode cX0_changeRooms 112 = .ok (.iconst 0, 1) := by decide +kernel
theorem dX0_changeRooms_113 : decode cX0_changeRooms 113 = .ok (.sipush 600, 3) := by decide +kernel
theorem dX0_changeRooms_116 : decode cX0_changeRooms 116 = .ok (.invokestatic 167, 3) := by decide +kernel
theorem dX0_changeRooms_119 : decode cX0_changeRooms 119 = .ok (.iastore, 1) := by decide +kernel
theorem dX0_changeRooms_120 : decode cX0_changeRooms 120 = .ok (.iinc 2 1, 3) := by decide +kernel
theorem dX0_changeRooms_123 : decode cX0_changeRooms 123 = .ok (.goto (-106), 3) := by decide +kernel
theorem dX0_changeRooms_126 : decode cX0_changeRooms 126 = .ok (.return_, 1) := by decide +kernel
def f_X0_changeRooms (M : MM) (a0 : Nat) (p1 : Int) : Option (MM) :=
bM (cpM M (a0 + 3) (a0 + 3) 0 5 25) fun M1 =>
lp (X := Int × MM) (Y := MM) (fun x2 =>
gH (x2.2 a0 1) fun b3 =>
if x2.1 < (x2.2 (b3 + 1) 0) then
(((if p1 = 0 then
(some 0)
else
gH (x2.2 a0 1) fun b6 =>
gd (0 ≤ x2.1 ∧ x2.1 < (5 : Int)) <|
some (x2.2 (b6 + 5) (x2.1).toNat)) : Option (Int)).bind fun x8 =>
((if (x2.2 (a0 + 1) 2) = 0 then
(gH (x2.2 a0 1) fun b10 =>
(f_X2_sunOn x2.2 b10 x2.1 (w32 (Int.tmod (x2.2 a0 2) 24))).bind fun x11 =>
bI (w32 (x8 + x11)) fun x12 =>
some x12)
else
some x8) : Option (Int)).bind fun x13 =>
((if (x2.2 (a0 + 1) 4) = 0 then
((f_X0_lossOf x2.2 a0 x2.1).bind fun x15 =>
bI (w32 (x13 - x15.1)) fun x16 =>
some (x16, x15.2))
else
some (x13, x2.2)) : Option (Int × MM)).bind fun x17 =>
gd (0 ≤ x2.1 ∧ x2.1 < (30 : Int)) <|
(f_X11_limited x17.2 (w32 ((x17.2 (a0 + 3) (x2.1).toNat) + x17.1)) 0 600).bind fun x19 =>
gd (0 ≤ x2.1 ∧ x2.1 < (30 : Int)) <|
bM (upM x17.2 (a0 + 3) (x2.1).toNat x19) fun M21 =>
some (Sum.inl (w32 (x2.1 + 1), M21)))
else
some (Sum.inr x2.2)) FU (0, M1)
set_option maxRecDepth 4000 in
theorem c_X0_changeRooms {E : EE} {sh : List (Nat × Nat)} {R : RM} {M : MM} {a0 : Nat} {p1 : Int} (hE : Ext sh) (hL : Links R) (hs0 : SH0[a0]? = some (0, 18)) : ∀ y, f_X0_changeRooms M a0 p1 = some y → MetC E m_X0_changeRooms 0 0 [rV a0, iV p1] (sh, false, R, M) (fun r w' => r = none ∧ w' = (sh, false, R, y)) := by
  intro y hy
  refine MetC.seg (o := f_X0_changeRooms M a0 p1) (t := (fun K y => K (none) (sh, false, R, y))) (L := [some (rV a0), some (iV p1), none, none]) (by decide) rfl (Nat.le_of_ble_eq_true rfl) ?_ hy ⟨rfl, rfl⟩
  unfold f_X0_changeRooms
  refine Seg.step (pc' := 1) (I_aload_n (i := 0) dX0_changeRooms_0 rfl rfl) ?_
  refine Seg.step (pc' := 4) (I_getR cls0 (by decide) wf_0_22 (hE _ _ hs0) rfl (lk_0_8 hL hs0) dX0_changeRooms_1) ?_
  refine Seg.step (pc' := 5) (I_iconst dX0_changeRooms_4 ⟨by decide, by decide⟩) ?_
  refine Seg.step (pc' := 6) (I_aload_n (i := 0) dX0_changeRooms_5 rfl rfl) ?_
  refine Seg.step (pc' := 9) (I_getR cls0 (by decide) wf_0_22 (hE _ _ hs0) rfl (lk_0_8 hL hs0) dX0_changeRooms_6) ?_
  refine Seg.step (pc' := 10) (I_iconst dX0_changeRooms_9 ⟨by decide, by decide⟩) ?_
  refine Seg.step (pc' := 12) (I_bipush dX0_changeRooms_10 (by decide) ⟨by decide, by decide⟩) ?_
  refine Seg.step (I_copy wm_0_85 wj_ac_n wj_ac_s wj_ac_i (hE _ _ (sk_0_8 hs0)) (hE _ _ (sk_0_8 hs0)) (by decide) (by decide) (Nat.le_of_ble_eq_true rfl) dX0_changeRooms_12) ?_
  refine S_bM fun M1 => ?_
  refine Seg.step (pc' := 16) (I_iconst dX0_changeRooms_15 ⟨by decide, by decide⟩) ?_
  refine Seg.step (pc' := 17) (I_istore_n (i := 2) dX0_changeRooms_16 rfl (by decide) rfl) ?_
  refine Seg.forget (Lle.ye (Lle.ye (Lle.ye (Lle.no (Lle.nil))))) ?_
  refine S_loop (Y := Int × MM) (fun y => [some (rV a0), some (iV p1), some (iV y.1), none]) (fun y => []) (fun y => (sh, false, R, y.2)) (fun x2 => ?_) FU (0, M1)
  refine Seg.step (pc' := 18) (I_iload_n (i := 2) dX0_changeRooms_17 rfl rfl) ?_
  refine Seg.step (pc' := 19) (I_aload_n (i := 0) dX0_changeRooms_18 rfl rfl) ?_
  refine S_gH fun b3 hb3 zb3 => ?_
  refine Seg.step (pc' := 22) (I_getH cls0 (by decide) wf_0_38 (hE _ _ hs0) rfl zb3 (hkp hb3) dX0_changeRooms_19) ?_
  refine Seg.step (pc' := 25) (I_getR cls2 (by decide) wf_0_60 (hE _ _ (hks hb3)) rfl (lk_2_0 hL (hks hb3)) dX0_changeRooms_22) ?_
  refine Seg.step (pc' := 28) (I_getI cls8 (by decide) wf_0_91 (hE _ _ (sk_2_0 (hks hb3))) rfl dX0_changeRooms_25) ?_
  refine S_icmp_ge (tgt := 126) dX0_changeRooms_28 (by decide) (fun h4 => ?_) (fun h4 => ?_)
  · refine Seg.step (pc' := 32) (I_iload_n (i := 1) dX0_changeRooms_31 rfl rfl) ?_
    refine S_bind (Y := Int) (k' := 0) (n' := 0) 51 (fun y => [some (rV a0), some (iV p1), some (iV x2.1), none]) (fun y => [iV y]) (fun y => (sh, false, R, x2.2)) ?_ (fun x8 => ?_)
    · refine S_if_eq (tgt := 50) dX0_changeRooms_32 (by decide) (fun h5 => ?_) (fun h5 => ?_)
      · refine Seg.step (pc' := 51) (I_iconst dX0_changeRooms_50 ⟨by decide, by decide⟩) ?_
        exact S_arr (fun K hK => GG.forget (Lle.ye (Lle.ye (Lle.ye (Lle.no (Lle.nil))))) hK)
      refine Seg.step (pc' := 36) (I_aload_n (i := 0) dX0_changeRooms_35 rfl rfl) ?_
      refine S_gH fun b6 hb6 zb6 => ?_
      refine Seg.step (pc' := 39) (I_getH cls0 (by decide) wf_0_38 (hE _ _ hs0) rfl zb6 (hkp hb6) dX0_changeRooms_36) ?_
      refine Seg.step (pc' := 42) (I_getR cls2 (by decide) wf_0_60 (hE _ _ (hks hb6)) rfl (lk_2_0 hL (hks hb6)) dX0_changeRooms_39) ?_
      refine Seg.step (pc' := 45) (I_getR cls8 (by decide) wf_0_152 (hE _ _ (sk_2_0 (hks hb6))) rfl (lk_8_4 hL (sk_2_0 (hks hb6))) dX0_changeRooms_42) ?_
      refine Seg.step (pc' := 46) (I_iload_n (i := 2) dX0_changeRooms_45 rfl rfl) ?_
      refine S_gd fun h7 => ?_
      refine Seg.step (pc' := 47) (I_iald (hE _ _ (sk_8_4 (sk_2_0 (hks hb6)))) h7 dX0_changeRooms_46) ?_
      refine Seg.step (pc' := 51) (I_goto (tgt := 51) dX0_changeRooms_47 (by decide)) ?_
      exact S_arr (fun K hK => GG.forget (Lle.ye (Lle.ye (Lle.ye (Lle.no (Lle.nil))))) hK)
    refine Seg.step (pc' := 52) (I_istore_n (i := 3) dX0_changeRooms_51 rfl (by decide) rfl) ?_
    refine Seg.step (pc' := 53) (I_aload_n (i := 0) dX0_changeRooms_52 rfl rfl) ?_
    refine Seg.step (pc' := 56) (I_getR cls0 (by decide) wf_0_12 (hE _ _ hs0) rfl (lk_0_0 hL hs0) dX0_changeRooms_53) ?_
    refine Seg.step (pc' := 59) (I_getZ cls10 (by decide) wf_0_155 (hE _ _ (sk_0_0 hs0)) rfl dX0_changeRooms_56) ?_
    refine S_bind (Y := Int) (k' := 0) (n' := 0) 80 (fun y => [some (rV a0), some (iV p1), some (iV x2.1), some (iV y)]) (fun y => []) (fun y => (sh, false, R, x2.2)) ?_ (fun x13 => ?_)
    · refine S_if_ne (tgt := 80) dX0_changeRooms_59 (by decide) (fun h9 => ?_) (fun h9 => ?_)
      · refine Seg.step (pc' := 63) (I_iload_n (i := 3) dX0_changeRooms_62 rfl rfl) ?_
        refine Seg.step (pc' := 64) (I_aload_n (i := 0) dX0_changeRooms_63 rfl rfl) ?_
        refine S_gH fun b10 hb10 zb10 => ?_
        refine Seg.step (pc' := 67) (I_getH cls0 (by decide) wf_0_38 (hE _ _ hs0) rfl zb10 (hkp hb10) dX0_changeRooms_64) ?_
        refine Seg.step (pc' := 68) (I_iload_n (i := 2) dX0_changeRooms_67 rfl rfl) ?_
        refine Seg.step (pc' := 69) (I_aload_n (i := 0) dX0_changeRooms_68 rfl rfl) ?_
        refine Seg.step (pc' := 72) (I_getI cls0 (by decide) wf_0_49 (hE _ _ hs0) rfl dX0_changeRooms_69) ?_
        refine Seg.step (pc' := 74) (I_bipush dX0_changeRooms_72 (by decide) ⟨by decide, by decide⟩) ?_
        refine Seg.step (pc' := 75) (I_irem dX0_changeRooms_74 (by decide)) ?_
        refine S_callV2 (md' := m_X2_sunOn) (fun y => some (iV y)) (fun y => (sh, false, R, x2.2)) (hE _ _ (hks hb10)) ⟨by decide, rfl⟩ mm_X2_sunOn wm_0_158 ⟨rfl, rfl, by decide, by decide, by decide, by decide⟩ (Nat.le_of_ble_eq_true rfl) dX0_changeRooms_75 (fun y hy => c_X2_sunOn hE hL (hks hb10) y hy) (fun x11 => ?_)
        refine Seg.step (pc' := 79) (I_iadd dX0_changeRooms_78) ?_
        refine S_bI fun x12 => ?_
        refine Seg.step (pc' := 80) (I_istore_n (i := 3) dX0_changeRooms_79 rfl (by decide) rfl) ?_
        exact S_arr (fun K hK => GG.forget (Lle.ye (Lle.ye (Lle.ye (Lle.ye (Lle.nil))))) hK)
      exact S_arr (fun K hK => GG.forget (Lle.ye (Lle.ye (Lle.ye (Lle.ye (Lle.nil))))) hK)
    refine Seg.step (pc' := 81) (I_aload_n (i := 0) dX0_changeRooms_80 rfl rfl) ?_
    refine Seg.step (pc' := 84) (I_getR cls0 (by decide) wf_0_12 (hE _ _ hs0) rfl (lk_0_0 hL hs0) dX0_changeRooms_81) ?_
    refine Seg.step (pc' := 87) (I_getZ cls10 (by decide) wf_0_161 (hE _ _ (sk_0_0 hs0)) rfl dX0_changeRooms_84) ?_
    refine S_bind (Y := Int × MM) (k' := 0) (n' := 0) 98 (fun y => [some (rV a0), some (iV p1), some (iV x2.1), some (iV y.1)]) (fun y => []) (fun y => (sh, false, R, y.2)) ?_ (fun x17 => ?_)
    · refine S_if_ne (tgt := 98) dX0_changeRooms_87 (by decide) (fun h14 => ?_) (fun h14 => ?_)
      · refine Seg.step (pc' := 91) (I_iload_n (i := 3) dX0_changeRooms_90 rfl rfl) ?_
        refine Seg.step (pc' := 92) (I_aload_n (i := 0) dX0_changeRooms_91 rfl rfl) ?_
        refine Seg.step (pc' := 93) (I_iload_n (i := 2) dX0_changeRooms_92 rfl rfl) ?_
        refine S_callV1 (md' := m_X0_lossOf) (fun y => some (iV y.1)) (fun y => (sh, false, R, y.2)) (hE _ _ hs0) ⟨by decide, rfl⟩ mm_X0_lossOf wm_0_164 ⟨rfl, rfl, by decide, by decide, by decide, by decide⟩ (Nat.le_of_ble_eq_true rfl) dX0_changeRooms_93 (fun y hy => c_X0_lossOf hE hL hs0 y hy) (fun x15 => ?_)
        refine Seg.step (pc' := 97) (I_isub dX0_changeRooms_96) ?_
        refine S_bI fun x16 => ?_
        refine Seg.step (pc' := 98) (I_istore_n (i := 3) dX0_changeRooms_97 rfl (by decide) rfl) ?_
        exact S_arr (fun K hK => GG.forget (Lle.ye (Lle.ye (Lle.ye (Lle.ye (Lle.nil))))) hK)
      exact S_arr (fun K hK => GG.forget (Lle.ye (Lle.ye (Lle.ye (Lle.ye (Lle.nil))))) hK)
    refine Seg.step (pc' := 99) (I_aload_n (i := 0) dX0_changeRooms_98 rfl rfl) ?_
    refine Seg.step (pc' := 102) (I_getR cls0 (by decide) wf_0_22 (hE _ _ hs0) rfl (lk_0_8 hL hs0) dX0_changeRooms_99) ?_
    refine Seg.step (pc' := 103) (I_iload_n (i := 2) dX0_changeRooms_102 rfl rfl) ?_
    refine Seg.step (pc' := 104) (I_aload_n (i := 0) dX0_changeRooms_103 rfl rfl) ?_
    refine Seg.step (pc' := 107) (I_getR cls0 (by decide) wf_0_22 (hE _ _ hs0) rfl (lk_0_8 hL hs0) dX0_changeRooms_104) ?_
    refine Seg.step (pc' := 108) (I_iload_n (i := 2) dX0_changeRooms_107 rfl rfl) ?_
    refine S_gd fun h18 => ?_
    refine Seg.step (pc' := 109) (I_iald (hE _ _ (sk_0_8 hs0)) h18 dX0_changeRooms_108) ?_
    refine Seg.step (pc' := 110) (I_iload_n (i := 3) dX0_changeRooms_109 rfl rfl) ?_
    refine Seg.step (pc' := 111) (I_iadd dX0_changeRooms_110) ?_
    refine Seg.step (pc' := 112) (I_i2l dX0_changeRooms_111) ?_
    refine Seg.step (pc' := 113) (I_iconst dX0_changeRooms_112 ⟨by decide, by decide⟩) ?_
    refine Seg.step (pc' := 116) (I_sipush dX0_changeRooms_113 (by decide) ⟨by decide, by decide⟩) ?_
    refine S_callN3 (md' := m_X11_limited) (fun y => some (iV y)) (fun y => (sh, false, R, x17.2)) mm_X11_limited wn_0_167 ⟨rfl, rfl, by decide, by decide, by decide, by decide⟩ (Nat.le_of_ble_eq_true rfl) dX0_changeRooms_116 (fun y hy => c_X11_limited hE hL y hy) (fun x19 => ?_)
    refine S_gd fun h20 => ?_
    refine Seg.step (pc' := 120) (I_iast (hE _ _ (sk_0_8 hs0)) h20 dX0_changeRooms_119) ?_
    refine S_bM fun M21 => ?_
    refine Seg.step (pc' := 123) (I_iinc dX0_changeRooms_120 rfl (by decide) rfl) ?_
    refine Seg.step (pc' := 17) (I_goto (tgt := 17) dX0_changeRooms_123 (by decide)) ?_
    exact S_arr (fun K hK => GG.forget (Lle.ye (Lle.ye (Lle.ye (Lle.no (Lle.nil))))) hK)
  exact S_vret dX0_changeRooms_126 rfl (by decide) (by decide) (fun K hK => hK)
theorem dX0_personLaw_0 : decode cX0_personLaw 0 = .ok (.aload_n 0, 1) := by decide +kernel
theorem dX0_personLaw_1 : decode cX0_personLaw 1 = .ok (.getfield 38, 3) := by decide +kernel
theorem dX0_personLaw_4 : decode cX0_personLaw 4 = .ok (.getfield 94, 3) := by decide +kernel
theorem dX0_personLaw_7 : decode cX0_personLaw 7 = .ok (.getfield 107, 3) := by decide +kernel
theorem dX0_personLaw_10 : decode cX0_personLaw 10 = .ok (.iload_n 2, 1) := by decide +kernel
theorem dX0_personLaw_11 : decode cX0_personLaw 11 = .ok (.iaload, 1) := by decide +kernel
theorem dX0_personLaw_12 : decode cX0_personLaw 12 = .ok (.istore 4, 2) := by decide +kernel
theorem dX0_personLaw_14 : decode cX0_personLaw 14 = .ok (.aload_n 0, 1) := by decide +kernel
theorem dX0_personLaw_15 : decode cX0_personLaw 15 = .ok (.iload 4, 2) := by decide +kernel
theorem dX0_personLaw_17 : decode cX0_personLaw 17 = .ok (.aload_n 0, 1) := by decide +kernel
theorem dX0_personLaw_18 : decode cX0_personLaw 18 = .ok (.getfield 38, 3) := by decide +kernel
theorem dX0_personLaw_21 : decode cX0_personLaw 21 = .ok (.getfield 60, 3) := by decide +kernel
theorem dX0_personLaw_24 : decode cX0_personLaw 24 = .ok (.getfield 171, 3) := by decide +kernel
theorem dX0_personLaw_27 : decode cX0_personLaw 27 = .ok (.iload 4, 2) := by decide +kernel
theorem dX0_personLaw_29 : decode cX0_personLaw 29 = .ok (.iaload, 1) := by decide +kernel
theorem dX0_personLaw_30 : decode cX0_personLaw 30 = .ok (.invokevirtual 192, 3) := by decide +kernel
theorem dX0_personLaw_33 : decode cX0_personLaw 33 = .ok (.aload_n 0, 1) := by decide +kernel
theorem dX0_personLaw_34 : decode cX0_personLaw 34 = .ok (.getfield 38, 3) := by decide +kernel
theorem dX0_personLaw_37 : decode cX0_personLaw 37 = .ok (.getfield 183, 3) := by decide +kernel
theorem dX0_personLaw_40 : decode cX0_personLaw 40 = .ok (.getfield 187, 3) := by decide +kernel
theorem dX0_personLaw_43 : decode cX0_personLaw 43 = .ok (.iconst 2, 1) := by decide +kernel
theorem dX0_personLaw_44 : decode cX0_personLaw 44 = .ok (.iload_n 3, 1) := by decide +kernel
theorem dX0_personLaw_45 : decode cX0_personLaw 45 = .ok (.iastore, 1) := by decide +kernel
theorem dX0_personLaw_46 : decode cX0_personLaw 46 = .ok (.aload_n 0, 1) := by decide +kernel
theorem dX0_personLaw_47 : decode cX0_personLaw 47 = .ok (.getfield 38, 3) := by decide +kernel
theorem dX0_personLaw_50 : decode cX0_personLaw 50 = .ok (.getfield 183, 3) := by decide +kernel
theorem dX0_personLaw_53 : decode cX0_personLaw 53 = .ok (.getfield 187, 3) := by decide +kernel
theorem dX0_personLaw_56 : decode cX0_personLaw 56 = .ok (.iconst 3, 1) := by decide +kernel
theorem dX0_personLaw_57 : decode cX0_personLaw 57 = .ok (.bipush 10, 2) := by decide +kernel
theorem dX0_personLaw_59 : decode cX0_personLaw 59 = .ok (.aload_n 0, 1) := by decide +kernel
theorem dX0_personLaw_60 : decode cX0_personLaw 60 = .ok (.getfield 38, 3) := by decide +kernel
theorem dX0_personLaw_63 : decode cX0_personLaw 63 = .ok (.getfield 94, 3) := by decide +kernel
theorem dX0_personLaw_66 : decode cX0_personLaw 66 = .ok (.getfield 200, 3) := by decide +kernel
theorem dX0_personLaw_69 : decode cX0_personLaw 69 = .ok (.iload_n 2, 1) := by decide +kernel
theorem dX0_personLaw_70 : decode cX0_personLaw 70 = .ok (.iaload, 1) := by decide +kernel
theorem dX0_personLaw_71 : decode cX0_personLaw 71 = .ok (.imul, 1) := by decide +kernel
theorem dX0_personLaw_72 : decode cX0_personLaw 72 = .ok (.iastore, 1) := by decide +kernel
theorem dX0_personLaw_73 : decode cX0_personLaw 73 = .ok (.aload_n 0, 1) := by decide +kernel
theorem dX0_personLaw_74 : decode cX0_personLaw 74 = .ok (.getfield 38, 3) := by decide +kernel
theorem dX0_personLaw_77 : decode cX0_personLaw 77 = .ok (.getfield 183, 3) := by decide +kernel
theorem dX0_personLaw_80 : decode cX0_personLaw 80 = .ok (.iload_n 1, 1) := by decide +kernel
theorem dX0_personLaw_81 : decode cX0_personLaw 81 = .ok (.invokevirtual 196, 3) := by decide +kernel
theorem dX0_personLaw_84 : decode cX0_personLaw 84 = .ok (.lreturn, 1) := by decide +kernel
def f_X0_personLaw (M : MM) (a0 : Nat) (p1 : Int) (p2 : Int) (p3 : Int) : Option (Int × MM) :=
gH (M a0 1) fun b1 =>
gd (0 ≤ p2 ∧ p2 < (5 : Int)) <|
bI (M (b1 + 8) (p2).toNat) fun x3 =>
gH (M a0 1) fun b4 =>
gd (0 ≤ x3 ∧ x3 < (5 : Int)) <|
(f_X0_nameRoom M a0 x3 (M (b4 + 4) (x3).toNat)).bind fun x6 =>
gH (x6 a0 1) fun b7 =>
bM (upM x6 (b7 + 18) 2 p3) fun M8 =>
gH (M8 a0 1) fun b9 =>
gH (M8 a0 1) fun b10 =>
gd (0 ≤ p2 ∧ p2 < (5 : Int)) <|
bM (upM M8 (b9 + 18) 3 (w32 (10 * (M8 (b10 + 9) (p2).toNat)))) fun M12 =>
gH (M12 a0 1) fun b13 =>
(f_X3_value M12 (b13 + 12) p1).bind fun x14 =>
some (x14.1, x14.2)
set_option maxRecDepth 4000 in
theorem c_X0_personLaw {E : EE} {sh : List (Nat × Nat)} {ex : Bool} {R : RM} {M : MM} {a0 : Nat} {p1 : Int} {p2 : Int} {p3 : Int} (hE : Ext sh) (hL : Links R) (hs0 : SH0[a0]? = some (0, 18)) : ∀ y, f_X0_personLaw M a0 p1 p2 p3 = some y → MetC E m_X0_personLaw 0 0 [rV a0, iV p1, iV p2, iV p3] (sh, ex, R, M) (fun r w' => r = some (jV y.1) ∧ w' = (sh, ex, R, y.2)) := by
  intro y hy
  refine MetC.seg (o := f_X0_personLaw M a0 p1 p2 p3) (t := (fun K y => K (some (jV y.1)) (sh, ex, R, y.2))) (L := [some (rV a0), some (iV p1), some (iV p2), some (iV p3), none]) (by decide) rfl (Nat.le_of_ble_eq_true rfl) ?_ hy ⟨rfl, rfl⟩
  unfold f_X0_personLaw
  refine Seg.step (pc' := 1) (I_aload_n (i := 0) dX0_personLaw_0 rfl rfl) ?_
  refine S_gH fun b1 hb1 zb1 => ?_
  refine Seg.step (pc' := 4) (I_getH cls0 (by decide) wf_0_38 (hE _ _ hs0) rfl zb1 (hkp hb1) dX0_personLaw_1) ?_
  refine Seg.step (pc' := 7) (I_getR cls2 (by decide) wf_0_94 (hE _ _ (hks hb1)) rfl (lk_2_1 hL (hks hb1)) dX0_personLaw_4) ?_
  refine Seg.step (pc' := 10) (I_getR cls6 (by decide) wf_0_107 (hE _ _ (sk_2_1 (hks hb1))) rfl (lk_6_2 hL (sk_2_1 (hks hb1))) dX0_personLaw_7) ?_
  refine Seg.step (pc' := 11) (I_iload_n (i := 2) dX0_personLaw_10 rfl rfl) ?_
  refine S_gd fun h2 => ?_
  refine Seg.step (pc' := 12) (I_iald (hE _ _ (sk_6_2 (sk_2_1 (hks hb1)))) h2 dX0_personLaw_11) ?_
  refine S_bI fun x3 => ?_
  refine Seg.step (pc' := 14) (I_istore dX0_personLaw_12 (by decide) rfl) ?_
  refine Seg.step (pc' := 15) (I_aload_n (i := 0) dX0_personLaw_14 rfl rfl) ?_
  refine Seg.step (pc' := 17) (I_iload dX0_personLaw_15 rfl) ?_
  refine Seg.step (pc' := 18) (I_aload_n (i := 0) dX0_personLaw_17 rfl rfl) ?_
  refine S_gH fun b4 hb4 zb4 => ?_
  refine Seg.step (pc' := 21) (I_getH cls0 (by decide) wf_0_38 (hE _ _ hs0) rfl zb4 (hkp hb4) dX0_personLaw_18) ?_
  refine Seg.step (pc' := 24) (I_getR cls2 (by decide) wf_0_60 (hE _ _ (hks hb4)) rfl (lk_2_0 hL (hks hb4)) dX0_personLaw_21) ?_
  refine Seg.step (pc' := 27) (I_getR cls8 (by decide) wf_0_171 (hE _ _ (sk_2_0 (hks hb4))) rfl (lk_8_3 hL (sk_2_0 (hks hb4))) dX0_personLaw_24) ?_
  refine Seg.step (pc' := 29) (I_iload dX0_personLaw_27 rfl) ?_
  refine S_gd fun h5 => ?_
  refine Seg.step (pc' := 30) (I_iald (hE _ _ (sk_8_3 (sk_2_0 (hks hb4)))) h5 dX0_personLaw_29) ?_
  refine S_callV2 (md' := m_X0_nameRoom) (fun y => none) (fun y => (sh, ex, R, y)) (hE _ _ hs0) ⟨by decide, rfl⟩ mm_X0_nameRoom wm_0_192 ⟨rfl, rfl, by decide, by decide, by decide, by decide⟩ (Nat.le_of_ble_eq_true rfl) dX0_personLaw_30 (fun y hy => c_X0_nameRoom hE hL hs0 y hy) (fun x6 => ?_)
  refine Seg.step (pc' := 34) (I_aload_n (i := 0) dX0_personLaw_33 rfl rfl) ?_
  refine S_gH fun b7 hb7 zb7 => ?_
  refine Seg.step (pc' := 37) (I_getH cls0 (by decide) wf_0_38 (hE _ _ hs0) rfl zb7 (hkp hb7) dX0_personLaw_34) ?_
  refine Seg.step (pc' := 40) (I_getR cls2 (by decide) wf_0_183 (hE _ _ (hks hb7)) rfl (lk_2_2 hL (hks hb7)) dX0_personLaw_37) ?_
  refine Seg.step (pc' := 43) (I_getR cls3 (by decide) wf_0_187 (hE _ _ (sk_2_2 (hks hb7))) rfl (lk_3_5 hL (sk_2_2 (hks hb7))) dX0_personLaw_40) ?_
  refine Seg.step (pc' := 44) (I_iconst dX0_personLaw_43 ⟨by decide, by decide⟩) ?_
  refine Seg.step (pc' := 45) (I_iload_n (i := 3) dX0_personLaw_44 rfl rfl) ?_
  refine Seg.step (pc' := 46) (I_iast (hE _ _ (sk_3_5 (sk_2_2 (hks hb7)))) ⟨by decide, by decide⟩ dX0_personLaw_45) ?_
  refine S_bM fun M8 => ?_
  refine Seg.step (pc' := 47) (I_aload_n (i := 0) dX0_personLaw_46 rfl rfl) ?_
  refine S_gH fun b9 hb9 zb9 => ?_
  refine Seg.step (pc' := 50) (I_getH cls0 (by decide) wf_0_38 (hE _ _ hs0) rfl zb9 (hkp hb9) dX0_personLaw_47) ?_
  refine Seg.step (pc' := 53) (I_getR cls2 (by decide) wf_0_183 (hE _ _ (hks hb9)) rfl (lk_2_2 hL (hks hb9)) dX0_personLaw_50) ?_
  refine Seg.step (pc' := 56) (I_getR cls3 (by decide) wf_0_187 (hE _ _ (sk_2_2 (hks hb9))) rfl (lk_3_5 hL (sk_2_2 (hks hb9))) dX0_personLaw_53) ?_
  refine Seg.step (pc' := 57) (I_iconst dX0_personLaw_56 ⟨by decide, by decide⟩) ?_
  refine Seg.step (pc' := 59) (I_bipush dX0_personLaw_57 (by decide) ⟨by decide, by decide⟩) ?_
  refine Seg.step (pc' := 60) (I_aload_n (i := 0) dX0_personLaw_59 rfl rfl) ?_
  refine S_gH fun b10 hb10 zb10 => ?_
  refine Seg.step (pc' := 63) (I_getH cls0 (by decide) wf_0_38 (hE _ _ hs0) rfl zb10 (hkp hb10) dX0_personLaw_60) ?_
  refine Seg.step (pc' := 66) (I_getR cls2 (by decide) wf_0_94 (hE _ _ (hks hb10)) rfl (lk_2_1 hL (hks hb10)) dX0_personLaw_63) ?_
  refine Seg.step (pc' := 69) (I_getR cls6 (by decide) wf_0_200 (hE _ _ (sk_2_1 (hks hb10))) rfl (lk_6_3 hL (sk_2_1 (hks hb10))) dX0_personLaw_66) ?_
  refine Seg.step (pc' := 70) (I_iload_n (i := 2) dX0_personLaw_69 rfl rfl) ?_
  refine S_gd fun h11 => ?_
  refine Seg.step (pc' := 71) (I_iald (hE _ _ (sk_6_3 (sk_2_1 (hks hb10)))) h11 dX0_personLaw_70) ?_
  refine Seg.step (pc' := 72) (I_imul dX0_personLaw_71) ?_
  refine Seg.step (pc' := 73) (I_iast (hE _ _ (sk_3_5 (sk_2_2 (hks hb9)))) ⟨by decide, by decide⟩ dX0_personLaw_72) ?_
  refine S_bM fun M12 => ?_
  refine Seg.step (pc' := 74) (I_aload_n (i := 0) dX0_personLaw_73 rfl rfl) ?_
  refine S_gH fun b13 hb13 zb13 => ?_
  refine Seg.step (pc' := 77) (I_getH cls0 (by decide) wf_0_38 (hE _ _ hs0) rfl zb13 (hkp hb13) dX0_personLaw_74) ?_
  refine Seg.step (pc' := 80) (I_getR cls2 (by decide) wf_0_183 (hE _ _ (hks hb13)) rfl (lk_2_2 hL (hks hb13)) dX0_personLaw_77) ?_
  refine Seg.step (pc' := 81) (I_iload_n (i := 1) dX0_personLaw_80 rfl rfl) ?_
  refine S_callV1 (md' := m_X3_value) (fun y => some (jV y.1)) (fun y => (sh, ex, R, y.2)) (hE _ _ (sk_2_2 (hks hb13))) ⟨by decide, rfl⟩ mm_X3_value wm_0_196 ⟨rfl, rfl, by decide, by decide, by decide, by decide⟩ (Nat.le_of_ble_eq_true rfl) dX0_personLaw_81 (fun y hy => c_X3_value hE hL (sk_2_2 (hks hb13)) y hy) (fun x14 => ?_)
  exact S_lret dX0_personLaw_84 rfl (by decide) (by decide) (fun K hK => hK)
theorem dX0_turnTo_0 : decode cX0_turnTo 0 = .ok (.iload_n 1, 1) := by decide +kernel
theorem dX0_turnTo_1 : decode cX0_turnTo 1 = .ok (.aload_n 0, 1) := by decide +kernel
theorem dX0_turnTo_2 : decode cX0_turnTo 2 = .ok (.getfield 48, 3) := by decide +kernel
theorem dX0_turnTo_5 : decode cX0_turnTo 5 = .ok (.if_icmp .ne 4, 3) := by decide +kernel
theorem dX0_turnTo_8 : decode cX0_turnTo 8 = .ok (.return_, 1) := by decide +kernel
theorem dX0_turnTo_9 : decode cX0_turnTo 9 = .ok (.iload_n 1, 1) := by decide +kernel
theorem dX0_turnTo_10 : decode cX0_turnTo 10 = .ok (.aload_n 0, 1) := by decide +kernel
theorem dX0_turnTo_11 : decode cX0_turnTo 11 = .ok (.getfield 48, 3) := by decide +kernel
theorem dX0_turnTo_14 : decode cX0_turnTo 14 = .ok (.if_icmp .le 7, 3) := by decide +kernel
theorem dX0_turnTo_17 : decode cX0_turnTo 17 = .ok (.iconst 1, 1) := by decide +kernel
theorem dX0_turnTo_18 : decode cX0_turnTo 18 = .ok (.goto 4, 3) := by decide +kernel
theorem dX0_turnTo_21 : decode cX0_turnTo 21 = .ok (.iconst (-1), 1) := by decide +kernel
theorem dX0_turnTo_22 : decode cX0_turnTo 22 = .ok (.istore_n 3, 1) := by decide +kernel
theorem dX0_turnTo_23 : decode cX0_turnTo 23 = .ok (.iload_n 3, 1) := by decide +kernel
theorem dX0_turnTo_24 : decode cX0_turnTo 24 = .ok (.aload_n 0, 1) := by decide +kernel
theorem dX0_turnTo_25 : decode cX0_turnTo 25 = .ok (.getfield 82, 3) := by decide +kernel
theorem dX0_turnTo_28 : decode cX0_turnTo 28 = .ok (.ineg, 1) := by decide +kernel
theorem dX0_turnTo_29 : decode cX0_turnTo 29 = .ok (.if_icmp .ne 13, 3) := by decide +kernel
theorem dX0_turnTo_32 : decode cX0_turnTo 32 = .ok (.aload_n 0, 1) := by decide +kernel
theorem dX0_turnTo_33 : decode cX0_turnTo 33 = .ok (.dup, 1) := by decide +kernel
theorem dX0_turnTo_34 : decode cX0_turnTo 34 = .ok (.getfield 79, 3) := by decide +kernel
theorem dX0_turnTo_37 : decode cX0_turnTo 37 = .ok (.iconst 1, 1) := by decide +kernel
theorem dX0_turnTo_38 : decode cX0_turnTo 38 = .ok (.iadd, 1) := by decide +kernel
theorem dX0_turnTo_39 : decode cX0_turnTo 39 = .ok (.putfield 79, 3) := by decide +kernel
theorem dX0_turnTo_42 : decode cX0_turnTo 42 = .ok (.aload_n 0, 1) := by decide +kernel
theorem dX0_turnTo_43 : decode cX0_turnTo 43 = .ok (.iload_n 3, 1) := by decide +kernel
theorem dX0_turnTo_44 : decode cX0_turnTo 44 = .ok (.putfield 82, 3) := by decide +kernel
theorem dX0_turnTo_47 : decode cX0_turnTo 47 = .ok (.aload_n 0, 1) := by decide +kernel
theorem dX0_turnTo_48 : decode cX0_turnTo 48 = .ok (.iload_n 1, 1) := by decide +kernel
theorem dX0_turnTo_49 : decode cX0_turnTo 49 = .ok (.putfield 48, 3) := by decide +kernel
theorem dX0_turnTo_52 : decode cX0_turnTo 52 = .ok (.aload_n 0, 1) := by decide +kernel
theorem dX0_turnTo_53 : decode cX0_turnTo 53 = .ok (.dup, 1) := by decide +kernel
theorem dX0_turnTo_54 : decode cX0_turnTo 54 = .ok (.getfield 76, 3) := by decide +kernel
theorem dX0_turnTo_57 : decode cX0_turnTo 57 = .ok (.iconst 1, 1) := by decide +kernel
theorem dX0_turnTo_58 : decode cX0_turnTo 58 = .ok (.iadd, 1) := by decide +kernel
theorem dX0_turnTo_59 : decode cX0_turnTo 59 = .ok (.putfield 76, 3) := by decide +kernel
theorem dX0_turnTo_62 : decode cX0_turnTo 62 = .ok (.aload_n 0, 1) := by decide +kernel
theorem dX0_turnTo_63 : decode cX0_turnTo 63 = .ok (.getfield 29, 3) := by decide +kernel
theorem dX0_turnTo_66 : decode cX0_turnTo 66 = .ok (.iload_n 2, 1) := by decide +kernel
theorem dX0_turnTo_67 : decode cX0_turnTo 67 = .ok (.dup2, 1) := by decide +kernel
theorem dX0_turnTo_68 : decode cX0_turnTo 68 = .ok (.iaload, 1) := by decide +kernel
theorem dX0_turnTo_69 : decode cX0_turnTo 69 = .ok (.iconst 1, 1) := by decide +kernel
theorem dX0_turnTo_70 : decode cX0_turnTo 70 = .ok (.iadd, 1) := by decide +kernel
theorem dX0_turnTo_71 : decode cX0_turnTo 71 = .ok (.iastore, 1) := by decide +kernel
theorem dX0_turnTo_72 : decode cX0_turnTo 72 = .ok (.aload_n 0, 1) := by decide +kernel
theorem dX0_turnTo_73 : decode cX0_turnTo 73 = .ok (.getfield 32, 3) := by decide +kernel
theorem dX0_turnTo_76 : decode cX0_turnTo 76 = .ok (.aload_n 0, 1) := by decide +kernel
theorem dX0_turnTo_77 : decode cX0_turnTo 77 = .ok (.getfield 49, 3) := by decide +kernel
theorem dX0_turnTo_80 : decode cX0_turnTo 80 = .ok (.bipush 24, 2) := by decide +kernel
theorem dX0_turnTo_82 : decode cX0_turnTo 82 = .ok (.irem, 1) := by decide +kernel
theorem dX0_turnTo_83 : decode cX0_turnTo 83 = .ok (.dup2, 1) := by decide +kernel
theorem dX0_turnTo_84 : decode cX0_turnTo 84 = .ok (.iaload, 1) := by decide +kernel
theorem dX0_turnTo_85 : decode cX0_turnTo 85 = .ok (.iload_n 1, 1) := by decide +kernel
theorem dX0_turnTo_86 : decode cX0_turnTo 86 = .ok (.iadd, 1) := by decide +kernel
theorem dX0_turnTo_87 : decode cX0_turnTo 87 = .ok (.iastore, 1) := by decide +kernel
theorem dX0_turnTo_88 : decode cX0_turnTo 88 = .ok (.aload_n 0, 1) := by decide +kernel
theorem dX0_turnTo_89 : decode cX0_turnTo 89 = .ok (.getfield 35, 3) := by decide +kernel
theorem dX0_turnTo_92 : decode cX0_turnTo 92 = .ok (.aload_n 0, 1) := by decide +kernel
theorem dX0_turnTo_93 : decode cX0_turnTo 93 = .ok (.getfield 49, 3) := by decide +kernel
theorem dX0_turnTo_96 : decode cX0_turnTo 96 = .ok (.bipush 24, 2) := by decide +kernel
theorem dX0_turnTo_98 : decode cX0_turnTo 98 = .ok (.irem, 1) := by decide +kernel
theorem dX0_turnTo_99 : decode cX0_turnTo 99 = .ok (.dup2, 1) := by decide +kernel
theorem dX0_turnTo_100 : decode cX0_turnTo 100 = .ok (.iaload, 1) := by decide +kernel
theorem dX0_turnTo_101 : decode cX0_turnTo 101 = .ok (.iconst 1, 1) := by decide +kernel
theorem dX0_turnTo_102 : decode cX0_turnTo 102 = .ok (.iadd, 1) := by decide +kernel
theorem dX0_turnTo_103 : decode cX0_turnTo 103 = .ok (.iastore, 1) := by decide +kernel
theorem dX0_turnTo_104 : decode cX0_turnTo 104 = .ok (.return_, 1) := by decide +kernel
def f_X0_turnTo (M : MM) (a0 : Nat) (p1 : Int) (p2 : Int) : Option (MM) :=
if p1 = (M a0 3) then
(some M)
else
((if (M a0 3) < p1 then
(some 1)
else
some (-1)) : Option (Int)).bind fun x3 =>
((if x3 = (w32 (-(M a0 17))) then
(bM (upM M a0 16 (w32 ((M a0 16) + 1))) fun M5 =>
some M5)
else
some M) : Option (MM)).bind fun x6 =>
bM (upM x6 a0 17 x3) fun M7 =>
bM (upM M7 a0 3 p1) fun M8 =>
bM (upM M8 a0 15 (w32 ((M8 a0 15) + 1))) fun M9 =>
gd (0 ≤ p2 ∧ p2 < (5 : Int)) <|
gd (0 ≤ p2 ∧ p2 < (5 : Int)) <|
bM (upM M9 (a0 + 5) (p2).toNat (w32 ((M9 (a0 + 5) (p2).toNat) + 1))) fun M12 =>
gd (0 ≤ w32 (Int.tmod (M12 a0 2) 24) ∧ w32 (Int.tmod (M12 a0 2) 24) < (24 : Int)) <|
gd (0 ≤ w32 (Int.tmod (M12 a0 2) 24) ∧ w32 (Int.tmod (M12 a0 2) 24) < (24 : Int)) <|
bM (upM M12 (a0 + 6) (w32 (Int.tmod (M12 a0 2) 24)).toNat (w32 ((M12 (a0 + 6) (w32 (Int.tmod (M12 a0 2) 24)).toNat) + p1))) fun M15 =>
gd (0 ≤ w32 (Int.tmod (M15 a0 2) 24) ∧ w32 (Int.tmod (M15 a0 2) 24) < (24 : Int)) <|
gd (0 ≤ w32 (Int.tmod (M15 a0 2) 24) ∧ w32 (Int.tmod (M15 a0 2) 24) < (24 : Int)) <|
bM (upM M15 (a0 + 7) (w32 (Int.tmod (M15 a0 2) 24)).toNat (w32 ((M15 (a0 + 7) (w32 (Int.tmod (M15 a0 2) 24)).toNat) + 1))) fun M18 =>
some M18
set_option maxRecDepth 4000 in
theorem c_X0_turnTo {E : EE} {sh : List (Nat × Nat)} {ex : Bool} {R : RM} {M : MM} {a0 : Nat} {p1 : Int} {p2 : Int} (hE : Ext sh) (hL : Links R) (hs0 : SH0[a0]? = some (0, 18)) : ∀ y, f_X0_turnTo M a0 p1 p2 = some y → MetC E m_X0_turnTo 0 0 [rV a0, iV p1, iV p2] (sh, ex, R, M) (fun r w' => r = none ∧ w' = (sh, ex, R, y)) := by
  intro y hy
  refine MetC.seg (o := f_X0_turnTo M a0 p1 p2) (t := (fun K y => K (none) (sh, ex, R, y))) (L := [some (rV a0), some (iV p1), some (iV p2), none]) (by decide) rfl (Nat.le_of_ble_eq_true rfl) ?_ hy ⟨rfl, rfl⟩
  unfold f_X0_turnTo
  refine Seg.step (pc' := 1) (I_iload_n (i := 1) dX0_turnTo_0 rfl rfl) ?_
  refine Seg.step (pc' := 2) (I_aload_n (i := 0) dX0_turnTo_1 rfl rfl) ?_
  refine Seg.step (pc' := 5) (I_getI cls0 (by decide) wf_0_48 (hE _ _ hs0) rfl dX0_turnTo_2) ?_
  refine S_icmp_ne (tgt := 9) dX0_turnTo_5 (by decide) (fun h1 => ?_) (fun h1 => ?_)
  · exact S_vret dX0_turnTo_8 rfl (by decide) (by decide) (fun K hK => hK)
  refine Seg.step (pc' := 10) (I_iload_n (i := 1) dX0_turnTo_9 rfl rfl) ?_
  refine Seg.step (pc' := 11) (I_aload_n (i := 0) dX0_turnTo_10 rfl rfl) ?_
  refine Seg.step (pc' := 14) (I_getI cls0 (by decide) wf_0_48 (hE _ _ hs0) rfl dX0_turnTo_11) ?_
  refine S_bind (Y := Int) (k' := 0) (n' := 0) 22 (fun y => [some (rV a0), some (iV p1), some (iV p2), none]) (fun y => [iV y]) (fun y => (sh, ex, R, M)) ?_ (fun x3 => ?_)
  · refine S_icmp_le (tgt := 21) dX0_turnTo_14 (by decide) (fun h2 => ?_) (fun h2 => ?_)
    · refine Seg.step (pc' := 18) (I_iconst dX0_turnTo_17 ⟨by decide, by decide⟩) ?_
      refine Seg.step (pc' := 22) (I_goto (tgt := 22) dX0_turnTo_18 (by decide)) ?_
      exact S_arr (fun K hK => GG.forget (Lle.ye (Lle.ye (Lle.ye (Lle.no (Lle.nil))))) hK)
    refine Seg.step (pc' := 22) (I_iconst dX0_turnTo_21 ⟨by decide, by decide⟩) ?_
    exact S_arr (fun K hK => GG.forget (Lle.ye (Lle.ye (Lle.ye (Lle.no (Lle.nil))))) hK)
  refine Seg.step (pc' := 23) (I_istore_n (i := 3) dX0_turnTo_22 rfl (by decide) rfl) ?_
  refine Seg.step (pc' := 24) (I_iload_n (i := 3) dX0_turnTo_23 rfl rfl) ?_
  refine Seg.step (pc' := 25) (I_aload_n (i := 0) dX0_turnTo_24 rfl rfl) ?_
  refine Seg.step (pc' := 28) (I_getI cls0 (by decide) wf_0_82 (hE _ _ hs0) rfl dX0_turnTo_25) ?_
  refine Seg.step (pc' := 29) (I_ineg dX0_turnTo_28) ?_
  refine S_bind (Y := MM) (k' := 0) (n' := 0) 42 (fun y => [some (rV a0), some (iV p1), some (iV p2), some (iV x3)]) (fun y => []) (fun y => (sh, ex, R, y)) ?_ (fun x6 => ?_)
  · refine S_icmp_ne (tgt := 42) dX0_turnTo_29 (by decide) (fun h4 => ?_) (fun h4 => ?_)
    · refine Seg.step (pc' := 33) (I_aload_n (i := 0) dX0_turnTo_32 rfl rfl) ?_
      refine Seg.step (pc' := 34) (I_dup dX0_turnTo_33 (fun _ h => by cases h)) ?_
      refine Seg.step (pc' := 37) (I_getI cls0 (by decide) wf_0_79 (hE _ _ hs0) rfl dX0_turnTo_34) ?_
      refine Seg.step (pc' := 38) (I_iconst dX0_turnTo_37 ⟨by decide, by decide⟩) ?_
      refine Seg.step (pc' := 39) (I_iadd dX0_turnTo_38) ?_
      refine Seg.step (pc' := 42) (I_putI cls0 (by decide) wf_0_79 (hE _ _ hs0) rfl rfl dX0_turnTo_39) ?_
      refine S_bM fun M5 => ?_
      exact S_arr (fun K hK => GG.forget (Lle.ye (Lle.ye (Lle.ye (Lle.ye (Lle.nil))))) hK)
    exact S_arr (fun K hK => GG.forget (Lle.ye (Lle.ye (Lle.ye (Lle.ye (Lle.nil))))) hK)
  refine Seg.step (pc' := 43) (I_aload_n (i := 0) dX0_turnTo_42 rfl rfl) ?_
  refine Seg.step (pc' := 44) (I_iload_n (i := 3) dX0_turnTo_43 rfl rfl) ?_
  refine Seg.step (pc' := 47) (I_putI cls0 (by decide) wf_0_82 (hE _ _ hs0) rfl rfl dX0_turnTo_44) ?_
  refine S_bM fun M7 => ?_
  refine Seg.step (pc' := 48) (I_aload_n (i := 0) dX0_turnTo_47 rfl rfl) ?_
  refine Seg.step (pc' := 49) (I_iload_n (i := 1) dX0_turnTo_48 rfl rfl) ?_
  refine Seg.step (pc' := 52) (I_putI cls0 (by decide) wf_0_48 (hE _ _ hs0) rfl rfl dX0_turnTo_49) ?_
  refine S_bM fun M8 => ?_
  refine Seg.step (pc' := 53) (I_aload_n (i := 0) dX0_turnTo_52 rfl rfl) ?_
  refine Seg.step (pc' := 54) (I_dup dX0_turnTo_53 (fun _ h => by cases h)) ?_
  refine Seg.step (pc' := 57) (I_getI cls0 (by decide) wf_0_76 (hE _ _ hs0) rfl dX0_turnTo_54) ?_
  refine Seg.step (pc' := 58) (I_iconst dX0_turnTo_57 ⟨by decide, by decide⟩) ?_
  refine Seg.step (pc' := 59) (I_iadd dX0_turnTo_58) ?_
  refine Seg.step (pc' := 62) (I_putI cls0 (by decide) wf_0_76 (hE _ _ hs0) rfl rfl dX0_turnTo_59) ?_
  refine S_bM fun M9 => ?_
  refine Seg.step (pc' := 63) (I_aload_n (i := 0) dX0_turnTo_62 rfl rfl) ?_
  refine Seg.step (pc' := 66) (I_getR cls0 (by decide) wf_0_29 (hE _ _ hs0) rfl (lk_0_10 hL hs0) dX0_turnTo_63) ?_
  refine Seg.step (pc' := 67) (I_iload_n (i := 2) dX0_turnTo_66 rfl rfl) ?_
  refine Seg.step (pc' := 68) (I_dup2 dX0_turnTo_67 (fun _ h => by cases h) (fun _ h => by cases h)) ?_
  refine S_gd fun h10 => ?_
  refine Seg.step (pc' := 69) (I_iald (hE _ _ (sk_0_10 hs0)) h10 dX0_turnTo_68) ?_
  refine Seg.step (pc' := 70) (I_iconst dX0_turnTo_69 ⟨by decide, by decide⟩) ?_
  refine Seg.step (pc' := 71) (I_iadd dX0_turnTo_70) ?_
  refine S_gd fun h11 => ?_
  refine Seg.step (pc' := 72) (I_iast (hE _ _ (sk_0_10 hs0)) h11 dX0_turnTo_71) ?_
  refine S_bM fun M12 => ?_
  refine Seg.step (pc' := 73) (I_aload_n (i := 0) dX0_turnTo_72 rfl rfl) ?_
  refine Seg.step (pc' := 76) (I_getR cls0 (by decide) wf_0_32 (hE _ _ hs0) rfl (lk_0_11 hL hs0) dX0_turnTo_73) ?_
  refine Seg.step (pc' := 77) (I_aload_n (i := 0) dX0_turnTo_76 rfl rfl) ?_
  refine Seg.step (pc' := 80) (I_getI cls0 (by decide) wf_0_49 (hE _ _ hs0) rfl dX0_turnTo_77) ?_
  refine Seg.step (pc' := 82) (I_bipush dX0_turnTo_80 (by decide) ⟨by decide, by decide⟩) ?_
  refine Seg.step (pc' := 83) (I_irem dX0_turnTo_82 (by decide)) ?_
  refine Seg.step (pc' := 84) (I_dup2 dX0_turnTo_83 (fun _ h => by cases h) (fun _ h => by cases h)) ?_
  refine S_gd fun h13 => ?_
  refine Seg.step (pc' := 85) (I_iald (hE _ _ (sk_0_11 hs0)) h13 dX0_turnTo_84) ?_
  refine Seg.step (pc' := 86) (I_iload_n (i := 1) dX0_turnTo_85 rfl rfl) ?_
  refine Seg.step (pc' := 87) (I_iadd dX0_turnTo_86) ?_
  refine S_gd fun h14 => ?_
  refine Seg.step (pc' := 88) (I_iast (hE _ _ (sk_0_11 hs0)) h14 dX0_turnTo_87) ?_
  refine S_bM fun M15 => ?_
  refine Seg.step (pc' := 89) (I_aload_n (i := 0) dX0_turnTo_88 rfl rfl) ?_
  refine Seg.step (pc' := 92) (I_getR cls0 (by decide) wf_0_35 (hE _ _ hs0) rfl (lk_0_12 hL hs0) dX0_turnTo_89) ?_
  refine Seg.step (pc' := 93) (I_aload_n (i := 0) dX0_turnTo_92 rfl rfl) ?_
  refine Seg.step (pc' := 96) (I_getI cls0 (by decide) wf_0_49 (hE _ _ hs0) rfl dX0_turnTo_93) ?_
  refine Seg.step (pc' := 98) (I_bipush dX0_turnTo_96 (by decide) ⟨by decide, by decide⟩) ?_
  refine Seg.step (pc' := 99) (I_irem dX0_turnTo_98 (by decide)) ?_
  refine Seg.step (pc' := 100) (I_dup2 dX0_turnTo_99 (fun _ h => by cases h) (fun _ h => by cases h)) ?_
  refine S_gd fun h16 => ?_
  refine Seg.step (pc' := 101) (I_iald (hE _ _ (sk_0_12 hs0)) h16 dX0_turnTo_100) ?_
  refine Seg.step (pc' := 102) (I_iconst dX0_turnTo_101 ⟨by decide, by decide⟩) ?_
  refine Seg.step (pc' := 103) (I_iadd dX0_turnTo_102) ?_
  refine S_gd fun h17 => ?_
  refine Seg.step (pc' := 104) (I_iast (hE _ _ (sk_0_12 hs0)) h17 dX0_turnTo_103) ?_
  refine S_bM fun M18 => ?_
  exact S_vret dX0_turnTo_104 rfl (by decide) (by decide) (fun K hK => hK)
theorem dX0_turnKnob_0 : decode cX0_turnKnob 0 = .ok (.iconst 0, 1) := by decide +kernel
theorem dX0_turnKnob_1 : decode cX0_turnKnob 1 = .ok (.istore_n 1, 1) := by decide +kernel
theorem dX0_turnKnob_2 : decode cX0_turnKnob 2 = .ok (.iload_n 1, 1) := by decide +kernel
theorem dX0_turnKnob_3 : decode cX0_turnKnob 3 = .ok (.aload_n 0, 1) := by decide +kernel
theorem dX0_turnKnob_4 : decode cX0_turnKnob 4 = .ok (.getfield 38, 3) := by decide +kernel
theorem dX0_turnKnob_7 : decode cX0_turnKnob 7 = .ok (.getfield 94, 3) := by decide +kernel
theorem dX0_turnKnob_10 : decode cX0_turnKnob 10 = .ok (.getfield 110, 3) := by decide +kernel
theorem dX0_turnKnob_13 : decode cX0_turnKnob 13 = .ok (.if_icmp .ge 134, 3) := by decide +kernel
theorem dX0_turnKnob_16 : decode cX0_turnKnob 16 = .ok (.iload_n 1, 1) := by decide +kernel
theorem dX0_turnKnob_17 : decode cX0_turnKnob 17 = .ok (.aload_n 0, 1) := by decide +kernel
theorem dX0_turnKnob_18 : decode cX0_turnKnob 18 = .ok (.getfield 12, 3) := by decide +kernel
theorem dX0_turnKnob_21 : decode cX0_turnKnob 21 = .ok (.getfield 203, 3) := by decide +kernel
theorem dX0_turnKnob_24 : decode cX0_turnKnob 24 = .ok (.if_icmp .eq 117, 3) := by decide +kernel
theorem dX0_turnKnob_27 : decode cX0_turnKnob 27 = .ok (.aload_n 0, 1) := by decide +kernel
theorem dX0_turnKnob_28 : decode cX0_turnKnob 28 = .ok (.getfield 38, 3) := by decide +kernel
theorem dX0_turnKnob_31 : decode cX0_turnKnob 31 = .ok (.getfield 94, 3) := by decide +kernel
theorem dX0_turnKnob_34 : decode cX0_turnKnob 34 = .ok (.getfield 206, 3) := by decide +kernel
theorem dX0_turnKnob_37 : decode cX0_turnKnob 37 = .ok (.iload_n 1, 1) := by decide +kernel
theorem dX0_turnKnob_38 : decode cX0_turnKnob 38 = .ok (.iaload, 1) := by decide +kernel
theorem dX0_turnKnob_39 : decode cX0_turnKnob 39 = .ok (.aload_n 0, 1) := by decide +kernel
theorem dX0_turnKnob_40 : decode cX0_turnKnob 40 = .ok (.getfield 49, 3) := by decide +kernel
theorem dX0_turnKnob_43 : decode cX0_turnKnob 43 = .ok (.bipush 24, 2) := by decide +kernel
theorem dX0_turnKnob_45 : decode cX0_turnKnob 45 = .ok (.irem, 1) := by decide +kernel
theorem dX0_turnKnob_46 : decode cX0_turnKnob 46 = .ok (.if_icmp .ne 95, 3) := by decide +kernel
theorem dX0_turnKnob_49 : decode cX0_turnKnob 49 = .ok (.aload_n 0, 1) := by decide +kernel
theorem dX0_turnKnob_50 : decode cX0_turnKnob 50 = .ok (.iload_n 1, 1) := by decide +kernel
theorem dX0_turnKnob_51 : decode cX0_turnKnob 51 = .ok (.invokevirtual 209, 3) := by decide +kernel
theorem dX0_turnKnob_54 : decode cX0_turnKnob 54 = .ok (.istore_n 2, 1) := by decide +kernel
theorem dX0_turnKnob_55 : decode cX0_turnKnob 55 = .ok (.aload_n 0, 1) := by decide +kernel
theorem dX0_turnKnob_56 : decode cX0_turnKnob 56 = .ok (.iconst 1, 1) := by decide +kernel
theorem dX0_turnKnob_57 : decode cX0_turnKnob 57 = .ok (.iload_n 1, 1) := by decide +kernel
theorem dX0_turnKnob_58 : decode cX0_turnKnob 58 = .ok (.iload_n 2, 1) := by decide +kernel
theorem dX0_turnKnob_59 : decode cX0_turnKnob 59 = .ok (.invokevirtual 212, 3) := by decide +kernel
theorem dX0_turnKnob_62 : decode cX0_turnKnob 62 = .ok (.lstore_n 3, 1) := by decide +kernel
theorem dX0_turnKnob_63 : decode cX0_turnKnob 63 = .ok (.lload_n 3, 1) := by decide +kernel
theorem dX0_turnKnob_64 : decode cX0_turnKnob 64 = .ok (.ldc2_w 181, 3) := by decide +kernel
theorem dX0_turnKnob_67 : decode cX0_turnKnob 67 = .ok (.lcmp, 1) := by decide +kernel
theorem dX0_turnKnob_68 : decode cX0_turnKnob 68 = .ok (.ifCond .ne 48, 3) := by decide +kernel
theorem dX0_turnKnob_71 : decode cX0_turnKnob 71 = .ok (.bipush 10, 2) := by decide +kernel
theorem dX0_turnKnob_73 : decode cX0_turnKnob 73 = .ok (.aload_n 0, 1) := by decide +kernel
theorem dX0_turnKnob_74 : decode cX0_turnKnob 74 = .ok (.getfield 38, 3) := by decide +kernel
theorem dX0_turnKnob_77 : decode cX0_turnKnob 77 = .ok (.getfield 94, 3) := by decide +kernel
theorem dX0_turnKnob_80 : decode cX0_turnKnob 80 = .ok (.getfield 200, 3) := by decide +kernel
theorem dX0_turnKnob_83 : decode cX0_turnKnob 83 = .ok (.iload_n 1, 1) := by decide +kernel
theorem dX0_turnKnob_84 : decode cX0_turnKnob 84 = .ok (.iaload, 1) := by decide +kernel
theorem dX0_turnKnob_85 : decode cX0_turnKnob 85 = .ok (.imul, 1) := by decide +kernel
theorem dX0_turnKnob_86 : decode cX0_turnKnob 86 = .ok (.istore 5, 2) := by decide +kernel
theorem dX0_turnKnob_88 : decode cX0_turnKnob 88 = .ok (.iload_n 2, 1) := by decide +kernel
theorem dX0_turnKnob_89 : decode cX0_turnKnob 89 = .ok (.iload 5, 2) := by decide +kernel
theorem dX0_turnKnob_91 : decode cX0_turnKnob 91 = .ok (.iconst 5, 1) := by decide +kernel
theorem dX0_turnKnob_92 : decode cX0_turnKnob 92 = .ok (.isub, 1) := by decide +kernel
theorem dX0_turnKnob_93 : decode cX0_turnKnob 93 = .ok (.if_icmp .ge 7, 3) := by decide +kernel
theorem dX0_turnKnob_96 : decode cX0_turnKnob 96 = .ok (.lconst 1, 1) := by decide +kernel
theorem dX0_turnKnob_97 : decode cX0_turnKnob 97 = .ok (.goto 18, 3) := by decide +kernel
theorem dX0_turnKnob_100 : decode cX0_turnKnob 100 = .ok (.iload_n 2, 1) := by decide +kernel
theorem dX0_turnKnob_101 : decode cX0_turnKnob 101 = .ok (.iload 5, 2) := by decide +kernel
theorem dX0_turnKnob_103 : decode cX0_turnKnob 103 = .ok (.iconst 5, 1) := by decide +kernel
theorem dX0_turnKnob_104 : decode cX0_turnKnob 104 = .ok (.iadd, 1) := by decide +kernel
theorem dX0_turnKnob_105 : decode cX0_turnKnob 105 = .ok (.if_icmp .le 9, 3) := by decide +kernel
theorem dX0_turnKnob_108 : decode cX0_turnKnob 108 = .ok (.ldc2_w 216, 3) := by decide +kernel
theorem dX0_turnKnob_111 : decode cX0_turnKnob 111 = .ok (.goto 4, 3) := by decide +kernel
theorem dX0_turnKnob_114 : decode cX0_turnKnob 114 = .ok (.lconst 0, 1) := by decide +kernel
theorem dX0_turnKnob_115 : decode cX0_turnKnob 115 = .ok (.lstore_n 3, 1) := by decide +kernel
theorem dX0_turnKnob_116 : decode cX0_turnKnob 116 = .ok (.aload_n 0, 1) := by decide +kernel
theorem dX0_turnKnob_117 : decode cX0_turnKnob 117 = .ok (.aload_n 0, 1) := by decide +kernel
theorem dX0_turnKnob_118 : decode cX0_turnKnob 118 = .ok (.getfield 48, 3) := by decide +kernel
theorem dX0_turnKnob_121 : decode cX0_turnKnob 121 = .ok (.lload_n 3, 1) := by decide +kernel
theorem dX0_turnKnob_122 : decode cX0_turnKnob 122 = .ok (.bipush (-9), 2) := by decide +kernel
theorem dX0_turnKnob_124 : decode cX0_turnKnob 124 = .ok (.bipush 9, 2) := by decide +kernel
theorem dX0_turnKnob_126 : decode cX0_turnKnob 126 = .ok (.invokestatic 167, 3) := by decide +kernel
theorem dX0_turnKnob_129 : decode cX0_turnKnob 129 = .ok (.iadd, 1) := by decide +kernel
theorem dX0_turnKnob_130 : decode cX0_turnKnob 130 = .ok (.i2l, 1) := by decide +kernel
theorem dX0_turnKnob_131 : decode cX0_turnKnob 131 = .ok (.iconst 5, 1) := by decide +kernel
theorem dX0_turnKnob_132 : decode cX0_turnKnob 132 = .ok (.bipush 30, 2) := by decide +kernel
theorem dX0_turnKnob_134 : decode cX0_turnKnob 134 = .ok (.invokestatic 167, 3) := by decide +kernel
theorem dX0_turnKnob_137 : decode cX0_turnKnob 137 = .ok (.iload_n 1, 1) := by decide +kernel
theorem dX0_turnKnob_138 : decode cX0_turnKnob 138 = .ok (.invokevirtual 218, 3) := by decide +kernel
theorem dX0_turnKnob_141 : decode cX0_turnKnob 141 = .ok (.iinc 1 1, 3) := by decide +kernel
theorem dX0_turnKnob_144 : decode cX0_turnKnob 144 = .ok (.goto (-142), 3) := by decide +kernel
theorem dX0_turnKnob_147 : decode cX0_turnKnob 147 = .ok (.return_, 1) := by decide +kernel
def f_X0_turnKnob (M : MM) (a0 : Nat) : Option (MM) :=
lp (X := Int × MM) (Y := MM) (fun x1 =>
gH (x1.2 a0 1) fun b2 =>
if x1.1 < (x1.2 (b2 + 6) 0) then
(((if x1.1 = (x1.2 (a0 + 1) 5) then
(some x1.2)
else
gH (x1.2 a0 1) fun b5 =>
gd (0 ≤ x1.1 ∧ x1.1 < (5 : Int)) <|
if (x1.2 (b5 + 11) (x1.1).toNat) = (w32 (Int.tmod (x1.2 a0 2) 24)) then
((f_X0_feltBy x1.2 a0 x1.1).bind fun x8 =>
(f_X0_personLaw x1.2 a0 1 x1.1 x8).bind fun x9 =>
((if (cmpI x9.1 (-9223372036854775808)) = 0 then
(gH (x9.2 a0 1) fun b11 =>
gd (0 ≤ x1.1 ∧ x1.1 < (5 : Int)) <|
bI (w32 (10 * (x9.2 (b11 + 9) (x1.1).toNat))) fun x13 =>
((if x8 < (w32 (x13 - 5)) then
(some 1)
else
if (w32 (x13 + 5)) < x8 then
(some (-1))
else
some 0) : Option (Int)).bind fun x16 =>
some x16)
else
some x9.1) : Option (Int)).bind fun x17 =>
(f_X11_limited x9.2 x17 (-9) 9).bind fun x18 =>
(f_X11_limited x9.2 (w32 ((x9.2 a0 3) + x18)) 5 30).bind fun x19 =>
(f_X0_turnTo x9.2 a0 x19 x1.1).bind fun x20 =>
some x20)
else
some x1.2) : Option (MM)).bind fun x21 =>
some (Sum.inl (w32 (x1.1 + 1), x21)))
else
some (Sum.inr x1.2)) FU (0, M)
set_option maxRecDepth 4000 in
theorem c_X0_turnKnob {E : EE} {sh : List (Nat × Nat)} {ex : Bool} {R : RM} {M : MM} {a0 : Nat} (hE : Ext sh) (hL : Links R) (hs0 : SH0[a0]? = some (0, 18)) : ∀ y, f_X0_turnKnob M a0 = some y → MetC E m_X0_turnKnob 0 0 [rV a0] (sh, ex, R, M) (fun r w' => r = none ∧ w' = (sh, ex, R, y)) := by
  intro y hy
  refine MetC.seg (o := f_X0_turnKnob M a0) (t := (fun K y => K (none) (sh, ex, R, y))) (L := [some (rV a0), none, none, none, none, none]) (by decide) rfl (Nat.le_of_ble_eq_true rfl) ?_ hy ⟨rfl, rfl⟩
  unfold f_X0_turnKnob
  refine Seg.step (pc' := 1) (I_iconst dX0_turnKnob_0 ⟨by decide, by decide⟩) ?_
  refine Seg.step (pc' := 2) (I_istore_n (i := 1) dX0_turnKnob_1 rfl (by decide) rfl) ?_
  refine Seg.forget (Lle.ye (Lle.ye (Lle.no (Lle.no (Lle.no (Lle.no (Lle.nil))))))) ?_
  refine S_loop (Y := Int × MM) (fun y => [some (rV a0), some (iV y.1), none, none, none, none]) (fun y => []) (fun y => (sh, ex, R, y.2)) (fun x1 => ?_) FU (0, M)
  refine Seg.step (pc' := 3) (I_iload_n (i := 1) dX0_turnKnob_2 rfl rfl) ?_
  refine Seg.step (pc' := 4) (I_aload_n (i := 0) dX0_turnKnob_3 rfl rfl) ?_
  refine S_gH fun b2 hb2 zb2 => ?_
  refine Seg.step (pc' := 7) (I_getH cls0 (by decide) wf_0_38 (hE _ _ hs0) rfl zb2 (hkp hb2) dX0_turnKnob_4) ?_
  refine Seg.step (pc' := 10) (I_getR cls2 (by decide) wf_0_94 (hE _ _ (hks hb2)) rfl (lk_2_1 hL (hks hb2)) dX0_turnKnob_7) ?_
  refine Seg.step (pc' := 13) (I_getI cls6 (by decide) wf_0_110 (hE _ _ (sk_2_1 (hks hb2))) rfl dX0_turnKnob_10) ?_
  refine S_icmp_ge (tgt := 147) dX0_turnKnob_13 (by decide) (fun h3 => ?_) (fun h3 => ?_)
  · refine Seg.step (pc' := 17) (I_iload_n (i := 1) dX0_turnKnob_16 rfl rfl) ?_
    refine Seg.step (pc' := 18) (I_aload_n (i := 0) dX0_turnKnob_17 rfl rfl) ?_
    refine Seg.step (pc' := 21) (I_getR cls0 (by decide) wf_0_12 (hE _ _ hs0) rfl (lk_0_0 hL hs0) dX0_turnKnob_18) ?_
    refine Seg.step (pc' := 24) (I_getI cls10 (by decide) wf_0_203 (hE _ _ (sk_0_0 hs0)) rfl dX0_turnKnob_21) ?_
    refine S_bind (Y := MM) (k' := 0) (n' := 0) 141 (fun y => [some (rV a0), some (iV x1.1), none, none, none, none]) (fun y => []) (fun y => (sh, ex, R, y)) ?_ (fun x21 => ?_)
    · refine S_icmp_eq (tgt := 141) dX0_turnKnob_24 (by decide) (fun h4 => ?_) (fun h4 => ?_)
      · exact S_arr (fun K hK => GG.forget (Lle.ye (Lle.ye (Lle.no (Lle.no (Lle.no (Lle.no (Lle.nil))))))) hK)
      refine Seg.step (pc' := 28) (I_aload_n (i := 0) dX0_turnKnob_27 rfl rfl) ?_
      refine S_gH fun b5 hb5 zb5 => ?_
      refine Seg.step (pc' := 31) (I_getH cls0 (by decide) wf_0_38 (hE _ _ hs0) rfl zb5 (hkp hb5) dX0_turnKnob_28) ?_
      refine Seg.step (pc' := 34) (I_getR cls2 (by decide) wf_0_94 (hE _ _ (hks hb5)) rfl (lk_2_1 hL (hks hb5)) dX0_turnKnob_31) ?_
      refine Seg.step (pc' := 37) (I_getR cls6 (by decide) wf_0_206 (hE _ _ (sk_2_1 (hks hb5))) rfl (lk_6_5 hL (sk_2_1 (hks hb5))) dX0_turnKnob_34) ?_
      refine Seg.step (pc' := 38) (I_iload_n (i := 1) dX0_turnKnob_37 rfl rfl) ?_
      refine S_gd fun h6 => ?_
      refine Seg.step (pc' := 39) (I_iald (hE _ _ (sk_6_5 (sk_2_1 (hks hb5)))) h6 dX0_turnKnob_38) ?_
      refine Seg.step (pc' := 40) (I_aload_n (i := 0) dX0_turnKnob_39 rfl rfl) ?_
      refine Seg.step (pc' := 43) (I_getI cls0 (by decide) wf_0_49 (hE _ _ hs0) rfl dX0_turnKnob_40) ?_
      refine Seg.step (pc' := 45) (I_bipush dX0_turnKnob_43 (by decide) ⟨by decide, by decide⟩) ?_
      refine Seg.step (pc' := 46) (I_irem dX0_turnKnob_45 (by decide)) ?_
      refine S_icmp_ne (tgt := 141) dX0_turnKnob_46 (by decide) (fun h7 => ?_) (fun h7 => ?_)
      · refine Seg.step (pc' := 50) (I_aload_n (i := 0) dX0_turnKnob_49 rfl rfl) ?_
        refine Seg.step (pc' := 51) (I_iload_n (i := 1) dX0_turnKnob_50 rfl rfl) ?_
        refine S_callV1 (md' := m_X0_feltBy) (fun y => some (iV y)) (fun y => (sh, ex, R, x1.2)) (hE _ _ hs0) ⟨by decide, rfl⟩ mm_X0_feltBy wm_0_209 ⟨rfl, rfl, by decide, by decide, by decide, by decide⟩ (Nat.le_of_ble_eq_true rfl) dX0_turnKnob_51 (fun y hy => c_X0_feltBy hE hL hs0 y hy) (fun x8 => ?_)
        refine Seg.step (pc' := 55) (I_istore_n (i := 2) dX0_turnKnob_54 rfl (by decide) rfl) ?_
        refine Seg.step (pc' := 56) (I_aload_n (i := 0) dX0_turnKnob_55 rfl rfl) ?_
        refine Seg.step (pc' := 57) (I_iconst dX0_turnKnob_56 ⟨by decide, by decide⟩) ?_
        refine Seg.step (pc' := 58) (I_iload_n (i := 1) dX0_turnKnob_57 rfl rfl) ?_
        refine Seg.step (pc' := 59) (I_iload_n (i := 2) dX0_turnKnob_58 rfl rfl) ?_
        refine S_callV3 (md' := m_X0_personLaw) (fun y => some (jV y.1)) (fun y => (sh, ex, R, y.2)) (hE _ _ hs0) ⟨by decide, rfl⟩ mm_X0_personLaw wm_0_212 ⟨rfl, rfl, by decide, by decide, by decide, by decide⟩ (Nat.le_of_ble_eq_true rfl) dX0_turnKnob_59 (fun y hy => c_X0_personLaw hE hL hs0 y hy) (fun x9 => ?_)
        refine Seg.step (pc' := 63) (I_lstore_n (i := 3) dX0_turnKnob_62 rfl (by decide) rfl) ?_
        refine Seg.step (pc' := 64) (I_lload_n (i := 3) dX0_turnKnob_63 rfl rfl) ?_
        refine Seg.step (pc' := 67) (I_ldc2 (z := -9223372036854775808) dX0_turnKnob_64 wk_0_181 ⟨by decide, by decide⟩) ?_
        refine Seg.step (pc' := 68) (I_lcmp dX0_turnKnob_67) ?_
        refine S_bind (Y := Int) (k' := 0) (n' := 0) 116 (fun y => [some (rV a0), some (iV x1.1), none, some (jV y), none, none]) (fun y => []) (fun y => (sh, ex, R, x9.2)) ?_ (fun x17 => ?_)
        · refine S_if_ne (tgt := 116) dX0_turnKnob_68 (by decide) (fun h10 => ?_) (fun h10 => ?_)
          · refine Seg.step (pc' := 73) (I_bipush dX0_turnKnob_71 (by decide) ⟨by decide, by decide⟩) ?_
            refine Seg.step (pc' := 74) (I_aload_n (i := 0) dX0_turnKnob_73 rfl rfl) ?_
            refine S_gH fun b11 hb11 zb11 => ?_
            refine Seg.step (pc' := 77) (I_getH cls0 (by decide) wf_0_38 (hE _ _ hs0) rfl zb11 (hkp hb11) dX0_turnKnob_74) ?_
            refine Seg.step (pc' := 80) (I_getR cls2 (by decide) wf_0_94 (hE _ _ (hks hb11)) rfl (lk_2_1 hL (hks hb11)) dX0_turnKnob_77) ?_
            refine Seg.step (pc' := 83) (I_getR cls6 (by decide) wf_0_200 (hE _ _ (sk_2_1 (hks hb11))) rfl (lk_6_3 hL (sk_2_1 (hks hb11))) dX0_turnKnob_80) ?_
            refine Seg.step (pc' := 84) (I_iload_n (i := 1) dX0_turnKnob_83 rfl rfl) ?_
            refine S_gd fun h12 => ?_
            refine Seg.step (pc' := 85) (I_iald (hE _ _ (sk_6_3 (sk_2_1 (hks hb11)))) h12 dX0_turnKnob_84) ?_
            refine Seg.step (pc' := 86) (I_imul dX0_turnKnob_85) ?_
            refine S_bI fun x13 => ?_
            refine Seg.step (pc' := 88) (I_istore dX0_turnKnob_86 (by decide) rfl) ?_
            refine Seg.step (pc' := 89) (I_iload_n (i := 2) dX0_turnKnob_88 rfl rfl) ?_
            refine Seg.step (pc' := 91) (I_iload dX0_turnKnob_89 rfl) ?_
            refine Seg.step (pc' := 92) (I_iconst dX0_turnKnob_91 ⟨by decide, by decide⟩) ?_
            refine Seg.step (pc' := 93) (I_isub dX0_turnKnob_92) ?_
            refine S_bind (Y := Int) (k' := 0) (n' := 0) 115 (fun y => [some (rV a0), some (iV x1.1), none, none, none, none]) (fun y => [jV y]) (fun y => (sh, ex, R, x9.2)) ?_ (fun x16 => ?_)
            · refine S_icmp_ge (tgt := 100) dX0_turnKnob_93 (by decide) (fun h14 => ?_) (fun h14 => ?_)
              · refine Seg.step (pc' := 97) (I_lconst (z := 1) dX0_turnKnob_96 (by decide) ⟨by decide, by decide⟩) ?_
                refine Seg.step (pc' := 115) (I_goto (tgt := 115) dX0_turnKnob_97 (by decide)) ?_
                exact S_arr (fun K hK => GG.forget (Lle.ye (Lle.ye (Lle.no (Lle.no (Lle.no (Lle.no (Lle.nil))))))) hK)
              refine Seg.step (pc' := 101) (I_iload_n (i := 2) dX0_turnKnob_100 rfl rfl) ?_
              refine Seg.step (pc' := 103) (I_iload dX0_turnKnob_101 rfl) ?_
              refine Seg.step (pc' := 104) (I_iconst dX0_turnKnob_103 ⟨by decide, by decide⟩) ?_
              refine Seg.step (pc' := 105) (I_iadd dX0_turnKnob_104) ?_
              refine S_icmp_le (tgt := 114) dX0_turnKnob_105 (by decide) (fun h15 => ?_) (fun h15 => ?_)
              · refine Seg.step (pc' := 111) (I_ldc2 (z := -1) dX0_turnKnob_108 wk_0_216 ⟨by decide, by decide⟩) ?_
                refine Seg.step (pc' := 115) (I_goto (tgt := 115) dX0_turnKnob_111 (by decide)) ?_
                exact S_arr (fun K hK => GG.forget (Lle.ye (Lle.ye (Lle.no (Lle.no (Lle.no (Lle.no (Lle.nil))))))) hK)
              refine Seg.step (pc' := 115) (I_lconst (z := 0) dX0_turnKnob_114 (by decide) ⟨by decide, by decide⟩) ?_
              exact S_arr (fun K hK => GG.forget (Lle.ye (Lle.ye (Lle.no (Lle.no (Lle.no (Lle.no (Lle.nil))))))) hK)
            refine Seg.step (pc' := 116) (I_lstore_n (i := 3) dX0_turnKnob_115 rfl (by decide) rfl) ?_
            exact S_arr (fun K hK => GG.forget (Lle.ye (Lle.ye (Lle.no (Lle.ye (Lle.no (Lle.no (Lle.nil))))))) hK)
          exact S_arr (fun K hK => GG.forget (Lle.ye (Lle.ye (Lle.no (Lle.ye (Lle.no (Lle.no (Lle.nil))))))) hK)
        refine Seg.step (pc' := 117) (I_aload_n (i := 0) dX0_turnKnob_116 rfl rfl) ?_
        refine Seg.step (pc' := 118) (I_aload_n (i := 0) dX0_turnKnob_117 rfl rfl) ?_
        refine Seg.step (pc' := 121) (I_getI cls0 (by decide) wf_0_48 (hE _ _ hs0) rfl dX0_turnKnob_118) ?_
        refine Seg.step (pc' := 122) (I_lload_n (i := 3) dX0_turnKnob_121 rfl rfl) ?_
        refine Seg.step (pc' := 124) (I_bipush dX0_turnKnob_122 (by decide) ⟨by decide, by decide⟩) ?_
        refine Seg.step (pc' := 126) (I_bipush dX0_turnKnob_124 (by decide) ⟨by decide, by decide⟩) ?_
        refine S_callN3 (md' := m_X11_limited) (fun y => some (iV y)) (fun y => (sh, ex, R, x9.2)) mm_X11_limited wn_0_167 ⟨rfl, rfl, by decide, by decide, by decide, by decide⟩ (Nat.le_of_ble_eq_true rfl) dX0_turnKnob_126 (fun y hy => c_X11_limited hE hL y hy) (fun x18 => ?_)
        refine Seg.step (pc' := 130) (I_iadd dX0_turnKnob_129) ?_
        refine Seg.step (pc' := 131) (I_i2l dX0_turnKnob_130) ?_
        refine Seg.step (pc' := 132) (I_iconst dX0_turnKnob_131 ⟨by decide, by decide⟩) ?_
        refine Seg.step (pc' := 134) (I_bipush dX0_turnKnob_132 (by decide) ⟨by decide, by decide⟩) ?_
        refine S_callN3 (md' := m_X11_limited) (fun y => some (iV y)) (fun y => (sh, ex, R, x9.2)) mm_X11_limited wn_0_167 ⟨rfl, rfl, by decide, by decide, by decide, by decide⟩ (Nat.le_of_ble_eq_true rfl) dX0_turnKnob_134 (fun y hy => c_X11_limited hE hL y hy) (fun x19 => ?_)
        refine Seg.step (pc' := 138) (I_iload_n (i := 1) dX0_turnKnob_137 rfl rfl) ?_
        refine S_callV2 (md' := m_X0_turnTo) (fun y => none) (fun y => (sh, ex, R, y)) (hE _ _ hs0) ⟨by decide, rfl⟩ mm_X0_turnTo wm_0_218 ⟨rfl, rfl, by decide, by decide, by decide, by decide⟩ (Nat.le_of_ble_eq_true rfl) dX0_turnKnob_138 (fun y hy => c_X0_turnTo hE hL hs0 y hy) (fun x20 => ?_)
        exact S_arr (fun K hK => GG.forget (Lle.ye (Lle.ye (Lle.no (Lle.no (Lle.no (Lle.no (Lle.nil))))))) hK)
      exact S_arr (fun K hK => GG.forget (Lle.ye (Lle.ye (Lle.no (Lle.no (Lle.no (Lle.no (Lle.nil))))))) hK)
    refine Seg.step (pc' := 144) (I_iinc dX0_turnKnob_141 rfl (by decide) rfl) ?_
    refine Seg.step (pc' := 2) (I_goto (tgt := 2) dX0_turnKnob_144 (by decide)) ?_
    exact S_arr (fun K hK => GG.forget (Lle.ye (Lle.ye (Lle.no (Lle.no (Lle.no (Lle.no (Lle.nil))))))) hK)
  exact S_vret dX0_turnKnob_147 rfl (by decide) (by decide) (fun K hK => hK)
theorem dX11_distance_0 : decode cX11_distance 0 = .ok (.iload_n 0, 1) := by decide +kernel
theorem dX11_distance_1 : decode cX11_distance 1 = .ok (.iload_n 1, 1) := by decide +kernel
theorem dX11_distance_2 : decode cX11_distance 2 = .ok (.if_icmp .le 9, 3) := by decide +kernel
theorem dX11_distance_5 : decode cX11_distance 5 = .ok (.iload_n 0, 1) := by decide +kernel
theorem dX11_distance_6 : decode cX11_distance 6 = .ok (.iload_n 1, 1) := by decide +kernel
theorem dX11_distance_7 : decode cX11_distance 7 = .ok (.isub, 1) := by decide +kernel
theorem dX11_distance_8 : decode cX11_distance 8 = .ok (.goto 6, 3) := by decide +kernel
theorem dX11_distance_11 : decode cX11_distance 11 = .ok (.iload_n 1, 1) := by decide +kernel
theorem dX11_distance_12 : decode cX11_distance 12 = .ok (.iload_n 0, 1) := by decide +kernel
theorem dX11_distance_13 : decode cX11_distance 13 = .ok (.isub, 1) := by decide +kernel
theorem dX11_distance_14 : decode cX11_distance 14 = .ok (.ireturn, 1) := by decide +kernel
def f_X11_distance (M : MM) (p1 : Int) (p2 : Int) : Option (Int) :=
if p2 < p1 then
(some (w32 (p1 - p2)))
else
some (w32 (p2 - p1))
set_option maxRecDepth 4000 in
theorem c_X11_distance {E : EE} {sh : List (Nat × Nat)} {ex : Bool} {R : RM} {M : MM} {p1 : Int} {p2 : Int} (hE : Ext sh) (hL : Links R) : ∀ y, f_X11_distance M p1 p2 = some y → MetC E m_X11_distance 0 0 [iV p1, iV p2] (sh, ex, R, M) (fun r w' => r = some (iV y) ∧ w' = (sh, ex, R, M)) := by
  intro y hy
  refine MetC.seg (o := f_X11_distance M p1 p2) (t := (fun K y => K (some (iV y)) (sh, ex, R, M))) (L := [some (iV p1), some (iV p2)]) (by decide) rfl (Nat.le_of_ble_eq_true rfl) ?_ hy ⟨rfl, rfl⟩
  unfold f_X11_distance
  refine Seg.step (pc' := 1) (I_iload_n (i := 0) dX11_distance_0 rfl rfl) ?_
  refine Seg.step (pc' := 2) (I_iload_n (i := 1) dX11_distance_1 rfl rfl) ?_
  refine S_icmp_le (tgt := 11) dX11_distance_2 (by decide) (fun h1 => ?_) (fun h1 => ?_)
  · refine Seg.step (pc' := 6) (I_iload_n (i := 0) dX11_distance_5 rfl rfl) ?_
    refine Seg.step (pc' := 7) (I_iload_n (i := 1) dX11_distance_6 rfl rfl) ?_
    refine Seg.step (pc' := 8) (I_isub dX11_distance_7) ?_
    refine Seg.step (pc' := 14) (I_goto (tgt := 14) dX11_distance_8 (by decide)) ?_
    exact S_iret dX11_distance_14 rfl (by decide) (by decide) (fun K hK => hK)
  refine Seg.step (pc' := 12) (I_iload_n (i := 1) dX11_distance_11 rfl rfl) ?_
  refine Seg.step (pc' := 13) (I_iload_n (i := 0) dX11_distance_12 rfl rfl) ?_
  refine Seg.step (pc' := 14) (I_isub dX11_distance_13) ?_
  exact S_iret dX11_distance_14 rfl (by decide) (by decide) (fun K hK => hK)
theorem dX0_crossPeople_0 : decode cX0_crossPeople 0 = .ok (.iconst 0, 1) := by decide +kernel
theorem dX0_crossPeople_1 : decode cX0_crossPeople 1 = .ok (.istore_n 1, 1) := by decide +kernel
theorem dX0_crossPeople_2 : decode cX0_crossPeople 2 = .ok (.iload_n 1, 1) := by decide +kernel
theorem dX0_crossPeople_3 : decode cX0_crossPeople 3 = .ok (.aload_n 0, 1) := by decide +kernel
theorem dX0_crossPeople_4 : decode cX0_crossPeople 4 = .ok (.getfield 38, 3) := by decide +kernel
theorem dX0_crossPeople_7 : decode cX0_crossPeople 7 = .ok (.getfield 94, 3) := by decide +kernel
theorem dX0_crossPeople_10 : decode cX0_crossPeople 10 = .ok (.getfield 110, 3) := by decide +kernel
theorem dX0_crossPeople_13 : decode cX0_crossPeople 13 = .ok (.if_icmp .ge 83, 3) := by decide +kernel
theorem dX0_crossPeople_16 : decode cX0_crossPeople 16 = .ok (.iload_n 1, 1) := by decide +kernel
theorem dX0_crossPeople_17 : decode cX0_crossPeople 17 = .ok (.aload_n 0, 1) := by decide +kernel
theorem dX0_crossPeople_18 : decode cX0_crossPeople 18 = .ok (.getfield 12, 3) := by decide +kernel
theorem dX0_crossPeople_21 : decode cX0_crossPeople 21 = .ok (.getfield 203, 3) := by decide +kernel
theorem dX0_crossPeople_24 : decode cX0_crossPeople 24 = .ok (.if_icmp .eq 66, 3) := by decide +kernel
theorem dX0_crossPeople_27 : decode cX0_crossPeople 27 = .ok (.aload_n 0, 1) := by decide +kernel
theorem dX0_crossPeople_28 : decode cX0_crossPeople 28 = .ok (.iload_n 1, 1) := by decide +kernel
theorem dX0_crossPeople_29 : decode cX0_crossPeople 29 = .ok (.invokevirtual 209, 3) := by decide +kernel
theorem dX0_crossPeople_32 : decode cX0_crossPeople 32 = .ok (.istore_n 2, 1) := by decide +kernel
theorem dX0_crossPeople_33 : decode cX0_crossPeople 33 = .ok (.aload_n 0, 1) := by decide +kernel
theorem dX0_crossPeople_34 : decode cX0_crossPeople 34 = .ok (.iconst 2, 1) := by decide +kernel
theorem dX0_crossPeople_35 : decode cX0_crossPeople 35 = .ok (.iload_n 1, 1) := by decide +kernel
theorem dX0_crossPeople_36 : decode cX0_crossPeople 36 = .ok (.iload_n 2, 1) := by decide +kernel
theorem dX0_crossPeople_37 : decode cX0_crossPeople 37 = .ok (.invokevirtual 212, 3) := by decide +kernel
theorem dX0_crossPeople_40 : decode cX0_crossPeople 40 = .ok (.lstore_n 3, 1) := by decide +kernel
theorem dX0_crossPeople_41 : decode cX0_crossPeople 41 = .ok (.lload_n 3, 1) := by decide +kernel
theorem dX0_crossPeople_42 : decode cX0_crossPeople 42 = .ok (.ldc2_w 181, 3) := by decide +kernel
theorem dX0_crossPeople_45 : decode cX0_crossPeople 45 = .ok (.lcmp, 1) := by decide +kernel
theorem dX0_crossPeople_46 : decode cX0_crossPeople 46 = .ok (.ifCond .ne 27, 3) := by decide +kernel
theorem dX0_crossPeople_49 : decode cX0_crossPeople 49 = .ok (.iload_n 2, 1) := by decide +kernel
theorem dX0_crossPeople_50 : decode cX0_crossPeople 50 = .ok (.bipush 10, 2) := by decide +kernel
theorem dX0_crossPeople_52 : decode cX0_crossPeople 52 = .ok (.aload_n 0, 1) := by decide +kernel
theorem dX0_crossPeople_53 : decode cX0_crossPeople 53 = .ok (.getfield 38, 3) := by decide +kernel
theorem dX0_crossPeople_56 : decode cX0_crossPeople 56 = .ok (.getfield 94, 3) := by decide +kernel
theorem dX0_crossPeople_59 : decode cX0_crossPeople 59 = .ok (.getfield 200, 3) := by decide +kernel
theorem dX0_crossPeople_62 : decode cX0_crossPeople 62 = .ok (.iload_n 1, 1) := by decide +kernel
theorem dX0_crossPeople_63 : decode cX0_crossPeople 63 = .ok (.iaload, 1) := by decide +kernel
theorem dX0_crossPeople_64 : decode cX0_crossPeople 64 = .ok (.imul, 1) := by decide +kernel
theorem dX0_crossPeople_65 : decode cX0_crossPeople 65 = .ok (.invokestatic 221, 3) := by decide +kernel
theorem dX0_crossPeople_68 : decode cX0_crossPeople 68 = .ok (.bipush 10, 2) := by decide +kernel
theorem dX0_crossPeople_70 : decode cX0_crossPeople 70 = .ok (.idiv, 1) := by decide +kernel
theorem dX0_crossPeople_71 : decode cX0_crossPeople 71 = .ok (.i2l, 1) := by decide +kernel
theorem dX0_crossPeople_72 : decode cX0_crossPeople 72 = .ok (.lstore_n 3, 1) := by decide +kernel
theorem dX0_crossPeople_73 : decode cX0_crossPeople 73 = .ok (.aload_n 0, 1) := by decide +kernel
theorem dX0_crossPeople_74 : decode cX0_crossPeople 74 = .ok (.getfield 26, 3) := by decide +kernel
theorem dX0_crossPeople_77 : decode cX0_crossPeople 77 = .ok (.iload_n 1, 1) := by decide +kernel
theorem dX0_crossPeople_78 : decode cX0_crossPeople 78 = .ok (.dup2, 1) := by decide +kernel
theorem dX0_crossPeople_79 : decode cX0_crossPeople 79 = .ok (.iaload, 1) := by decide +kernel
theorem dX0_crossPeople_80 : decode cX0_crossPeople 80 = .ok (.lload_n 3, 1) := by decide +kernel
theorem dX0_crossPeople_81 : decode cX0_crossPeople 81 = .ok (.iconst 0, 1) := by decide +kernel
theorem dX0_crossPeople_82 : decode cX0_crossPeople 82 = .ok (.sipush 999, 3) := by decide +kernel
theorem dX0_crossPeople_85 : decode cX0_crossPeople 85 = .ok (.invokestatic 167, 3) := by decide +kernel
theorem dX0_crossPeople_88 : decode cX0_crossPeople 88 = .ok (.iadd, 1) := by decide +kernel
theorem dX0_crossPeople_89 : decode cX0_crossPeople 89 = .ok (.iastore, 1) := by decide +kernel
theorem dX0_crossPeople_90 : decode cX0_crossPeople 90 = .ok (.iinc 1 1, 3) := by decide +kernel
theorem dX0_crossPeople_93 : decode cX0_crossPeople 93 = .ok (.goto (-91), 3) := by decide +kernel
theorem dX0_crossPeople_96 : decode cX0_crossPeople 96 = .ok (.return_, 1) := by decide +kernel
def f_X0_crossPeople (M : MM) (a0 : Nat) : Option (MM) :=
lp (X := Int × MM) (Y := MM) (fun x1 =>
gH (x1.2 a0 1) fun b2 =>
if x1.1 < (x1.2 (b2 + 6) 0) then
(((if x1.1 = (x1.2 (a0 + 1) 5) then
(some x1.2)
else
(f_X0_feltBy x1.2 a0 x1.1).bind fun x5 =>
(f_X0_personLaw x1.2 a0 2 x1.1 x5).bind fun x6 =>
((if (cmpI x6.1 (-9223372036854775808)) = 0 then
(gH (x6.2 a0 1) fun b8 =>
gd (0 ≤ x1.1 ∧ x1.1 < (5 : Int)) <|
(f_X11_distance x6.2 x5 (w32 (10 * (x6.2 (b8 + 9) (x1.1).toNat)))).bind fun x10 =>
bI (w32 (Int.tdiv x10 10)) fun x11 =>
some x11)
else
some x6.1) : Option (Int)).bind fun x12 =>
gd (0 ≤ x1.1 ∧ x1.1 < (5 : Int)) <|
(f_X11_limited x6.2 x12 0 999).bind fun x14 =>
gd (0 ≤ x1.1 ∧ x1.1 < (5 : Int)) <|
bM (upM x6.2 (a0 + 4) (x1.1).toNat (w32 ((x6.2 (a0 + 4) (x1.1).toNat) + x14))) fun M16 =>
some M16) : Option (MM)).bind fun x17 =>
some (Sum.inl (w32 (x1.1 + 1), x17)))
else
some (Sum.inr x1.2)) FU (0, M)
set_option maxRecDepth 4000 in
theorem c_X0_crossPeople {E : EE} {sh : List (Nat × Nat)} {ex : Bool} {R : RM} {M : MM} {a0 : Nat} (hE : Ext sh) (hL : Links R) (hs0 : SH0[a0]? = some (0, 18)) : ∀ y, f_X0_crossPeople M a0 = some y → MetC E m_X0_crossPeople 0 0 [rV a0] (sh, ex, R, M) (fun r w' => r = none ∧ w' = (sh, ex, R, y)) := by
  intro y hy
  refine MetC.seg (o := f_X0_crossPeople M a0) (t := (fun K y => K (none) (sh, ex, R, y))) (L := [some (rV a0), none, none, none, none]) (by decide) rfl (Nat.le_of_ble_eq_true rfl) ?_ hy ⟨rfl, rfl⟩
  unfold f_X0_crossPeople
  refine Seg.step (pc' := 1) (I_iconst dX0_crossPeople_0 ⟨by decide, by decide⟩) ?_
  refine Seg.step (pc' := 2) (I_istore_n (i := 1) dX0_crossPeople_1 rfl (by decide) rfl) ?_
  refine Seg.forget (Lle.ye (Lle.ye (Lle.no (Lle.no (Lle.no (Lle.nil)))))) ?_
  refine S_loop (Y := Int × MM) (fun y => [some (rV a0), some (iV y.1), none, none, none]) (fun y => []) (fun y => (sh, ex, R, y.2)) (fun x1 => ?_) FU (0, M)
  refine Seg.step (pc' := 3) (I_iload_n (i := 1) dX0_crossPeople_2 rfl rfl) ?_
  refine Seg.step (pc' := 4) (I_aload_n (i := 0) dX0_crossPeople_3 rfl rfl) ?_
  refine S_gH fun b2 hb2 zb2 => ?_
  refine Seg.step (pc' := 7) (I_getH cls0 (by decide) wf_0_38 (hE _ _ hs0) rfl zb2 (hkp hb2) dX0_crossPeople_4) ?_
  refine Seg.step (pc' := 10) (I_getR cls2 (by decide) wf_0_94 (hE _ _ (hks hb2)) rfl (lk_2_1 hL (hks hb2)) dX0_crossPeople_7) ?_
  refine Seg.step (pc' := 13) (I_getI cls6 (by decide) wf_0_110 (hE _ _ (sk_2_1 (hks hb2))) rfl dX0_crossPeople_10) ?_
  refine S_icmp_ge (tgt := 96) dX0_crossPeople_13 (by decide) (fun h3 => ?_) (fun h3 => ?_)
  · refine Seg.step (pc' := 17) (I_iload_n (i := 1) dX0_crossPeople_16 rfl rfl) ?_
    refine Seg.step (pc' := 18) (I_aload_n (i := 0) dX0_crossPeople_17 rfl rfl) ?_
    refine Seg.step (pc' := 21) (I_getR cls0 (by decide) wf_0_12 (hE _ _ hs0) rfl (lk_0_0 hL hs0) dX0_crossPeople_18) ?_
    refine Seg.step (pc' := 24) (I_getI cls10 (by decide) wf_0_203 (hE _ _ (sk_0_0 hs0)) rfl dX0_crossPeople_21) ?_
    refine S_bind (Y := MM) (k' := 0) (n' := 0) 90 (fun y => [some (rV a0), some (iV x1.1), none, none, none]) (fun y => []) (fun y => (sh, ex, R, y)) ?_ (fun x17 => ?_)
    · refine S_icmp_eq (tgt := 90) dX0_crossPeople_24 (by decide) (fun h4 => ?_) (fun h4 => ?_)
      · exact S_arr (fun K hK => GG.forget (Lle.ye (Lle.ye (Lle.no (Lle.no (Lle.no (Lle.nil)))))) hK)
      refine Seg.step (pc' := 28) (I_aload_n (i := 0) dX0_crossPeople_27 rfl rfl) ?_
      refine Seg.step (pc' := 29) (I_iload_n (i := 1) dX0_crossPeople_28 rfl rfl) ?_
      refine S_callV1 (md' := m_X0_feltBy) (fun y => some (iV y)) (fun y => (sh, ex, R, x1.2)) (hE _ _ hs0) ⟨by decide, rfl⟩ mm_X0_feltBy wm_0_209 ⟨rfl, rfl, by decide, by decide, by decide, by decide⟩ (Nat.le_of_ble_eq_true rfl) dX0_crossPeople_29 (fun y hy => c_X0_feltBy hE hL hs0 y hy) (fun x5 => ?_)
      refine Seg.step (pc' := 33) (I_istore_n (i := 2) dX0_crossPeople_32 rfl (by decide) rfl) ?_
      refine Seg.step (pc' := 34) (I_aload_n (i := 0) dX0_crossPeople_33 rfl rfl) ?_
      refine Seg.step (pc' := 35) (I_iconst dX0_crossPeople_34 ⟨by decide, by decide⟩) ?_
      refine Seg.step (pc' := 36) (I_iload_n (i := 1) dX0_crossPeople_35 rfl rfl) ?_
      refine Seg.step (pc' := 37) (I_iload_n (i := 2) dX0_crossPeople_36 rfl rfl) ?_
      refine S_callV3 (md' := m_X0_personLaw) (fun y => some (jV y.1)) (fun y => (sh, ex, R, y.2)) (hE _ _ hs0) ⟨by decide, rfl⟩ mm_X0_personLaw wm_0_212 ⟨rfl, rfl, by decide, by decide, by decide, by decide⟩ (Nat.le_of_ble_eq_true rfl) dX0_crossPeople_37 (fun y hy => c_X0_personLaw hE hL hs0 y hy) (fun x6 => ?_)
      refine Seg.step (pc' := 41) (I_lstore_n (i := 3) dX0_crossPeople_40 rfl (by decide) rfl) ?_
      refine Seg.step (pc' := 42) (I_lload_n (i := 3) dX0_crossPeople_41 rfl rfl) ?_
      refine Seg.step (pc' := 45) (I_ldc2 (z := -9223372036854775808) dX0_crossPeople_42 wk_0_181 ⟨by decide, by decide⟩) ?_
      refine Seg.step (pc' := 46) (I_lcmp dX0_crossPeople_45) ?_
      refine S_bind (Y := Int) (k' := 0) (n' := 0) 73 (fun y => [some (rV a0), some (iV x1.1), none, some (jV y), none]) (fun y => []) (fun y => (sh, ex, R, x6.2)) ?_ (fun x12 => ?_)
      · refine S_if_ne (tgt := 73) dX0_crossPeople_46 (by decide) (fun h7 => ?_) (fun h7 => ?_)
        · refine Seg.step (pc' := 50) (I_iload_n (i := 2) dX0_crossPeople_49 rfl rfl) ?_
          refine Seg.step (pc' := 52) (I_bipush dX0_crossPeople_50 (by decide) ⟨by decide, by decide⟩) ?_
          refine Seg.step (pc' := 53) (I_aload_n (i := 0) dX0_crossPeople_52 rfl rfl) ?_
          refine S_gH fun b8 hb8 zb8 => ?_
          refine Seg.step (pc' := 56) (I_getH cls0 (by decide) wf_0_38 (hE _ _ hs0) rfl zb8 (hkp hb8) dX0_crossPeople_53) ?_
          refine Seg.step (pc' := 59) (I_getR cls2 (by decide) wf_0_94 (hE _ _ (hks hb8)) rfl (lk_2_1 hL (hks hb8)) dX0_crossPeople_56) ?_
          refine Seg.step (pc' := 62) (I_getR cls6 (by decide) wf_0_200 (hE _ _ (sk_2_1 (hks hb8))) rfl (lk_6_3 hL (sk_2_1 (hks hb8))) dX0_crossPeople_59) ?_
          refine Seg.step (pc' := 63) (I_iload_n (i := 1) dX0_crossPeople_62 rfl rfl) ?_
          refine S_gd fun h9 => ?_
          refine Seg.step (pc' := 64) (I_iald (hE _ _ (sk_6_3 (sk_2_1 (hks hb8)))) h9 dX0_crossPeople_63) ?_
          refine Seg.step (pc' := 65) (I_imul dX0_crossPeople_64) ?_
          refine S_callN2 (md' := m_X11_distance) (fun y => some (iV y)) (fun y => (sh, ex, R, x6.2)) mm_X11_distance wn_0_221 ⟨rfl, rfl, by decide, by decide, by decide, by decide⟩ (Nat.le_of_ble_eq_true rfl) dX0_crossPeople_65 (fun y hy => c_X11_distance hE hL y hy) (fun x10 => ?_)
          refine Seg.step (pc' := 70) (I_bipush dX0_crossPeople_68 (by decide) ⟨by decide, by decide⟩) ?_
          refine Seg.step (pc' := 71) (I_idiv dX0_crossPeople_70 (by decide)) ?_
          refine Seg.step (pc' := 72) (I_i2l dX0_crossPeople_71) ?_
          refine S_bJ fun x11 => ?_
          refine Seg.step (pc' := 73) (I_lstore_n (i := 3) dX0_crossPeople_72 rfl (by decide) rfl) ?_
          exact S_arr (fun K hK => GG.forget (Lle.ye (Lle.ye (Lle.no (Lle.ye (Lle.no (Lle.nil)))))) hK)
        exact S_arr (fun K hK => GG.forget (Lle.ye (Lle.ye (Lle.no (Lle.ye (Lle.no (Lle.nil)))))) hK)
      refine Seg.step (pc' := 74) (I_aload_n (i := 0) dX0_crossPeople_73 rfl rfl) ?_
      refine Seg.step (pc' := 77) (I_getR cls0 (by decide) wf_0_26 (hE _ _ hs0) rfl (lk_0_9 hL hs0) dX0_crossPeople_74) ?_
      refine Seg.step (pc' := 78) (I_iload_n (i := 1) dX0_crossPeople_77 rfl rfl) ?_
      refine Seg.step (pc' := 79) (I_dup2 dX0_crossPeople_78 (fun _ h => by cases h) (fun _ h => by cases h)) ?_
      refine S_gd fun h13 => ?_
      refine Seg.step (pc' := 80) (I_iald (hE _ _ (sk_0_9 hs0)) h13 dX0_crossPeople_79) ?_
      refine Seg.step (pc' := 81) (I_lload_n (i := 3) dX0_crossPeople_80 rfl rfl) ?_
      refine Seg.step (pc' := 82) (I_iconst dX0_crossPeople_81 ⟨by decide, by decide⟩) ?_
      refine Seg.step (pc' := 85) (I_sipush dX0_crossPeople_82 (by decide) ⟨by decide, by decide⟩) ?_
      refine S_callN3 (md' := m_X11_limited) (fun y => some (iV y)) (fun y => (sh, ex, R, x6.2)) mm_X11_limited wn_0_167 ⟨rfl, rfl, by decide, by decide, by decide, by decide⟩ (Nat.le_of_ble_eq_true rfl) dX0_crossPeople_85 (fun y hy => c_X11_limited hE hL y hy) (fun x14 => ?_)
      refine Seg.step (pc' := 89) (I_iadd dX0_crossPeople_88) ?_
      refine S_gd fun h15 => ?_
      refine Seg.step (pc' := 90) (I_iast (hE _ _ (sk_0_9 hs0)) h15 dX0_crossPeople_89) ?_
      refine S_bM fun M16 => ?_
      exact S_arr (fun K hK => GG.forget (Lle.ye (Lle.ye (Lle.no (Lle.no (Lle.no (Lle.nil)))))) hK)
    refine Seg.step (pc' := 93) (I_iinc dX0_crossPeople_90 rfl (by decide) rfl) ?_
    refine Seg.step (pc' := 2) (I_goto (tgt := 2) dX0_crossPeople_93 (by decide)) ?_
    exact S_arr (fun K hK => GG.forget (Lle.ye (Lle.ye (Lle.no (Lle.no (Lle.no (Lle.nil)))))) hK)
  exact S_vret dX0_crossPeople_96 rfl (by decide) (by decide) (fun K hK => hK)
theorem dX0_run_0 : decode cX0_run 0 = .ok (.iconst 0, 1) := by decide +kernel
theorem dX0_run_1 : decode cX0_run 1 = .ok (.istore_n 2, 1) := by decide +kernel
theorem dX0_run_2 : decode cX0_run 2 = .ok (.iload_n 2, 1) := by decide +kernel
theorem dX0_run_3 : decode cX0_run 3 = .ok (.iload_n 1, 1) := by decide +kernel
theorem dX0_run_4 : decode cX0_run 4 = .ok (.if_icmp .ge 109, 3) := by decide +kernel
theorem dX0_run_7 : decode cX0_run 7 = .ok (.aload_n 0, 1) := by decide +kernel
theorem dX0_run_8 : decode cX0_run 8 = .ok (.aload_n 0, 1) := by decide +kernel
theorem dX0_run_9 : decode cX0_run 9 = .ok (.getfield 12, 3) := by decide +kernel
theorem dX0_run_12 : decode cX0_run 12 = .ok (.aload_n 0, 1) := by decide +kernel
theorem dX0_run_13 : decode cX0_run 13 = .ok (.getfield 38, 3) := by decide +kernel
theorem dX0_run_16 : decode cX0_run 16 = .ok (.aload_n 0, 1) := by decide +kernel
theorem dX0_run_17 : decode cX0_run 17 = .ok (.getfield 49, 3) := by decide +kernel
theorem dX0_run_20 : decode cX0_run 20 = .ok (.invokevirtual 119, 3) := by decide +kernel
theorem dX0_run_23 : decode cX0_run 23 = .ok (.invokevirtual 123, 3) := by decide +kernel
theorem dX0_run_26 : decode cX0_run 26 = .ok (.putfield 126, 3) := by decide +kernel
theorem dX0_run_29 : decode cX0_run 29 = .ok (.aload_n 0, 1) := by decide +kernel
theorem dX0_run_30 : decode cX0_run 30 = .ok (.invokevirtual 129, 3) := by decide +kernel
theorem dX0_run_33 : decode cX0_run 33 = .ok (.istore_n 3, 1) := by decide +kernel
theorem dX0_run_34 : decode cX0_run 34 = .ok (.iload_n 3, 1) := by decide +kernel
theorem dX0_run_35 : decode cX0_run 35 = .ok (.ifCond .eq 29, 3) := by decide +kernel
theorem dX0_run_38 : decode cX0_run 38 = .ok (.aload_n 0, 1) := by decide +kernel
theorem dX0_run_39 : decode cX0_run 39 = .ok (.dup, 1) := by decide +kernel
theorem dX0_run_40 : decode cX0_run 40 = .ok (.getfield 73, 3) := by decide +kernel
theorem dX0_run_43 : decode cX0_run 43 = .ok (.aload_n 0, 1) := by decide +kernel
theorem dX0_run_44 : decode cX0_run 44 = .ok (.getfield 38, 3) := by decide +kernel
theorem dX0_run_47 : decode cX0_run 47 = .ok (.getfield 133, 3) := by decide +kernel
theorem dX0_run_50 : decode cX0_run 50 = .ok (.iadd, 1) := by decide +kernel
theorem dX0_run_51 : decode cX0_run 51 = .ok (.putfield 73, 3) := by decide +kernel
theorem dX0_run_54 : decode cX0_run 54 = .ok (.aload_n 0, 1) := by decide +kernel
theorem dX0_run_55 : decode cX0_run 55 = .ok (.dup, 1) := by decide +kernel
theorem dX0_run_56 : decode cX0_run 56 = .ok (.getfield 67, 3) := by decide +kernel
theorem dX0_run_59 : decode cX0_run 59 = .ok (.iconst 1, 1) := by decide +kernel
theorem dX0_run_60 : decode cX0_run 60 = .ok (.iadd, 1) := by decide +kernel
theorem dX0_run_61 : decode cX0_run 61 = .ok (.putfield 67, 3) := by decide +kernel
theorem dX0_run_64 : decode cX0_run 64 = .ok (.aload_n 0, 1) := by decide +kernel
theorem dX0_run_65 : decode cX0_run 65 = .ok (.iload_n 3, 1) := by decide +kernel
theorem dX0_run_66 : decode cX0_run 66 = .ok (.invokevirtual 136, 3) := by decide +kernel
theorem dX0_run_69 : decode cX0_run 69 = .ok (.aload_n 0, 1) := by decide +kernel
theorem dX0_run_70 : decode cX0_run 70 = .ok (.getfield 12, 3) := by decide +kernel
theorem dX0_run_73 : decode cX0_run 73 = .ok (.getfield 140, 3) := by decide +kernel
theorem dX0_run_76 : decode cX0_run 76 = .ok (.ifCond .ne 7, 3) := by decide +kernel
theorem dX0_run_79 : decode cX0_run 79 = .ok (.aload_n 0, 1) := by decide +kernel
theorem dX0_run_80 : decode cX0_run 80 = .ok (.invokevirtual 143, 3) := by decide +kernel
theorem dX0_run_83 : decode cX0_run 83 = .ok (.aload_n 0, 1) := by decide +kernel
theorem dX0_run_84 : decode cX0_run 84 = .ok (.getfield 12, 3) := by decide +kernel
theorem dX0_run_87 : decode cX0_run 87 = .ok (.getfield 146, 3) := by decide +kernel
theorem dX0_run_90 : decode cX0_run 90 = .ok (.ifCond .ne 7, 3) := by decide +kernel
theorem dX0_run_93 : decode cX0_run 93 = .ok (.aload_n 0, 1) := by decide +kernel
theorem dX0_run_94 : decode cX0_run 94 = .ok (.invokevirtual 149, 3) := by decide +kernel
theorem dX0_run_97 : decode cX0_run 97 = .ok (.aload_n 0, 1) := by decide +kernel
theorem dX0_run_98 : decode cX0_run 98 = .ok (.dup, 1) := by decide +kernel
theorem dX0_run_99 : decode cX0_run 99 = .ok (.getfield 49, 3) := by decide +kernel
theorem dX0_run_102 : decode cX0_run 102 = .ok (.iconst 1, 1) := by decide +kernel
theorem dX0_run_103 : decode cX0_run 103 = .ok (.iadd, 1) := by decide +kernel
theorem dX0_run_104 : decode cX0_run 104 = .ok (.putfield 49, 3) := by decide +kernel
theorem dX0_run_107 : decode cX0_run 107 = .ok (.iinc 2 1, 3) := by decide +kernel
theorem dX0_run_110 : decode cX0_run 110 = .ok (.goto (-108), 3) := by decide +kernel
theorem dX0_run_113 : decode cX0_run 113 = .ok (.return_, 1) := by decide +kernel
def f_X0_run (M : MM) (a0 : Nat) (p1 : Int) : Option (MM) :=
lp (X := Int × MM) (Y := MM) (fun x1 =>
if x1.1 < p1 then
(gH (x1.2 a0 1) fun b3 =>
(f_X2_outAt x1.2 b3 (x1.2 a0 2)).bind fun x4 =>
(f_X10_outOf x1.2 (a0 + 1) x4).bind fun x5 =>
bM (upM x5.2 a0 6 x5.1) fun M6 =>
(f_X0_isOn M6 a0).bind fun x7 =>
((if x7 = 0 then
(some M6)
else
gH (M6 a0 1) fun b9 =>
bM (upM M6 a0 13 (w32 ((M6 a0 13) + (M6 b9 11)))) fun M10 =>
bM (upM M10 a0 14 (w32 ((M10 a0 14) + 1))) fun M11 =>
some M11) : Option (MM)).bind fun x12 =>
(f_X0_changeRooms x12 a0 x7).bind fun x13 =>
((if (x13 (a0 + 1) 0) = 0 then
((f_X0_turnKnob x13 a0).bind fun x15 =>
some x15)
else
some x13) : Option (MM)).bind fun x16 =>
((if (x16 (a0 + 1) 1) = 0 then
((f_X0_crossPeople x16 a0).bind fun x18 =>
some x18)
else
some x16) : Option (MM)).bind fun x19 =>
bM (upM x19 a0 2 (w32 ((x19 a0 2) + 1))) fun M20 =>
some (Sum.inl (w32 (x1.1 + 1), M20)))
else
some (Sum.inr x1.2)) FU (0, M)
set_option maxRecDepth 4000 in
theorem c_X0_run {E : EE} {sh : List (Nat × Nat)} {R : RM} {M : MM} {a0 : Nat} {p1 : Int} (hE : Ext sh) (hL : Links R) (hs0 : SH0[a0]? = some (0, 18)) : ∀ y, f_X0_run M a0 p1 = some y → MetC E m_X0_run 0 0 [rV a0, iV p1] (sh, false, R, M) (fun r w' => r = none ∧ w' = (sh, false, R, y)) := by
  intro y hy
  refine MetC.seg (o := f_X0_run M a0 p1) (t := (fun K y => K (none) (sh, false, R, y))) (L := [some (rV a0), some (iV p1), none, none]) (by decide) rfl (Nat.le_of_ble_eq_true rfl) ?_ hy ⟨rfl, rfl⟩
  unfold f_X0_run
  refine Seg.step (pc' := 1) (I_iconst dX0_run_0 ⟨by decide, by decide⟩) ?_
  refine Seg.step (pc' := 2) (I_istore_n (i := 2) dX0_run_1 rfl (by decide) rfl) ?_
  refine Seg.forget (Lle.ye (Lle.ye (Lle.ye (Lle.no (Lle.nil))))) ?_
  refine S_loop (Y := Int × MM) (fun y => [some (rV a0), some (iV p1), some (iV y.1), none]) (fun y => []) (fun y => (sh, false, R, y.2)) (fun x1 => ?_) FU (0, M)
  refine Seg.step (pc' := 3) (I_iload_n (i := 2) dX0_run_2 rfl rfl) ?_
  refine Seg.step (pc' := 4) (I_iload_n (i := 1) dX0_run_3 rfl rfl) ?_
  refine S_icmp_ge (tgt := 113) dX0_run_4 (by decide) (fun h2 => ?_) (fun h2 => ?_)
  · refine Seg.step (pc' := 8) (I_aload_n (i := 0) dX0_run_7 rfl rfl) ?_
    refine Seg.step (pc' := 9) (I_aload_n (i := 0) dX0_run_8 rfl rfl) ?_
    refine Seg.step (pc' := 12) (I_getR cls0 (by decide) wf_0_12 (hE _ _ hs0) rfl (lk_0_0 hL hs0) dX0_run_9) ?_
    refine Seg.step (pc' := 13) (I_aload_n (i := 0) dX0_run_12 rfl rfl) ?_
    refine S_gH fun b3 hb3 zb3 => ?_
    refine Seg.step (pc' := 16) (I_getH cls0 (by decide) wf_0_38 (hE _ _ hs0) rfl zb3 (hkp hb3) dX0_run_13) ?_
    refine Seg.step (pc' := 17) (I_aload_n (i := 0) dX0_run_16 rfl rfl) ?_
    refine Seg.step (pc' := 20) (I_getI cls0 (by decide) wf_0_49 (hE _ _ hs0) rfl dX0_run_17) ?_
    refine S_callV1 (md' := m_X2_outAt) (fun y => some (iV y)) (fun y => (sh, false, R, x1.2)) (hE _ _ (hks hb3)) ⟨by decide, rfl⟩ mm_X2_outAt wm_0_119 ⟨rfl, rfl, by decide, by decide, by decide, by decide⟩ (Nat.le_of_ble_eq_true rfl) dX0_run_20 (fun y hy => c_X2_outAt hE hL (hks hb3) y hy) (fun x4 => ?_)
    refine S_callV1 (md' := m_X10_outOf) (fun y => some (iV y.1)) (fun y => (sh, false, R, y.2)) (hE _ _ (sk_0_0 hs0)) ⟨by decide, rfl⟩ mm_X10_outOf wm_0_123 ⟨rfl, rfl, by decide, by decide, by decide, by decide⟩ (Nat.le_of_ble_eq_true rfl) dX0_run_23 (fun y hy => c_X10_outOf hE hL (sk_0_0 hs0) y hy) (fun x5 => ?_)
    refine Seg.step (pc' := 29) (I_putI cls0 (by decide) wf_0_126 (hE _ _ hs0) rfl rfl dX0_run_26) ?_
    refine S_bM fun M6 => ?_
    refine Seg.step (pc' := 30) (I_aload_n (i := 0) dX0_run_29 rfl rfl) ?_
    refine S_callV0 (md' := m_X0_isOn) (fun y => some (iV y)) (fun y => (sh, false, R, M6)) (hE _ _ hs0) ⟨by decide, rfl⟩ mm_X0_isOn wm_0_129 ⟨rfl, rfl, by decide, by decide, by decide, by decide⟩ (Nat.le_of_ble_eq_true rfl) dX0_run_30 (fun y hy => c_X0_isOn hE hL hs0 y hy) (fun x7 => ?_)
    refine Seg.step (pc' := 34) (I_istore_n (i := 3) dX0_run_33 rfl (by decide) rfl) ?_
    refine Seg.step (pc' := 35) (I_iload_n (i := 3) dX0_run_34 rfl rfl) ?_
    refine S_bind (Y := MM) (k' := 0) (n' := 0) 64 (fun y => [some (rV a0), some (iV p1), some (iV x1.1), some (iV x7)]) (fun y => []) (fun y => (sh, false, R, y)) ?_ (fun x12 => ?_)
    · refine S_if_eq (tgt := 64) dX0_run_35 (by decide) (fun h8 => ?_) (fun h8 => ?_)
      · exact S_arr (fun K hK => GG.forget (Lle.ye (Lle.ye (Lle.ye (Lle.ye (Lle.nil))))) hK)
      refine Seg.step (pc' := 39) (I_aload_n (i := 0) dX0_run_38 rfl rfl) ?_
      refine Seg.step (pc' := 40) (I_dup dX0_run_39 (fun _ h => by cases h)) ?_
      refine Seg.step (pc' := 43) (I_getI cls0 (by decide) wf_0_73 (hE _ _ hs0) rfl dX0_run_40) ?_
      refine Seg.step (pc' := 44) (I_aload_n (i := 0) dX0_run_43 rfl rfl) ?_
      refine S_gH fun b9 hb9 zb9 => ?_
      refine Seg.step (pc' := 47) (I_getH cls0 (by decide) wf_0_38 (hE _ _ hs0) rfl zb9 (hkp hb9) dX0_run_44) ?_
      refine Seg.step (pc' := 50) (I_getI cls2 (by decide) wf_0_133 (hE _ _ (hks hb9)) rfl dX0_run_47) ?_
      refine Seg.step (pc' := 51) (I_iadd dX0_run_50) ?_
      refine Seg.step (pc' := 54) (I_putI cls0 (by decide) wf_0_73 (hE _ _ hs0) rfl rfl dX0_run_51) ?_
      refine S_bM fun M10 => ?_
      refine Seg.step (pc' := 55) (I_aload_n (i := 0) dX0_run_54 rfl rfl) ?_
      refine Seg.step (pc' := 56) (I_dup dX0_run_55 (fun _ h => by cases h)) ?_
      refine Seg.step (pc' := 59) (I_getI cls0 (by decide) wf_0_67 (hE _ _ hs0) rfl dX0_run_56) ?_
      refine Seg.step (pc' := 60) (I_iconst dX0_run_59 ⟨by decide, by decide⟩) ?_
      refine Seg.step (pc' := 61) (I_iadd dX0_run_60) ?_
      refine Seg.step (pc' := 64) (I_putI cls0 (by decide) wf_0_67 (hE _ _ hs0) rfl rfl dX0_run_61) ?_
      refine S_bM fun M11 => ?_
      exact S_arr (fun K hK => GG.forget (Lle.ye (Lle.ye (Lle.ye (Lle.ye (Lle.nil))))) hK)
    refine Seg.step (pc' := 65) (I_aload_n (i := 0) dX0_run_64 rfl rfl) ?_
    refine Seg.step (pc' := 66) (I_iload_n (i := 3) dX0_run_65 rfl rfl) ?_
    refine S_callV1 (md' := m_X0_changeRooms) (fun y => none) (fun y => (sh, false, R, y)) (hE _ _ hs0) ⟨by decide, rfl⟩ mm_X0_changeRooms wm_0_136 ⟨rfl, rfl, by decide, by decide, by decide, by decide⟩ (Nat.le_of_ble_eq_true rfl) dX0_run_66 (fun y hy => c_X0_changeRooms hE hL hs0 y hy) (fun x13 => ?_)
    refine Seg.step (pc' := 70) (I_aload_n (i := 0) dX0_run_69 rfl rfl) ?_
    refine Seg.step (pc' := 73) (I_getR cls0 (by decide) wf_0_12 (hE _ _ hs0) rfl (lk_0_0 hL hs0) dX0_run_70) ?_
    refine Seg.step (pc' := 76) (I_getZ cls10 (by decide) wf_0_140 (hE _ _ (sk_0_0 hs0)) rfl dX0_run_73) ?_
    refine S_bind (Y := MM) (k' := 0) (n' := 0) 83 (fun y => [some (rV a0), some (iV p1), some (iV x1.1), none]) (fun y => []) (fun y => (sh, false, R, y)) ?_ (fun x16 => ?_)
    · refine S_if_ne (tgt := 83) dX0_run_76 (by decide) (fun h14 => ?_) (fun h14 => ?_)
      · refine Seg.step (pc' := 80) (I_aload_n (i := 0) dX0_run_79 rfl rfl) ?_
        refine S_callV0 (md' := m_X0_turnKnob) (fun y => none) (fun y => (sh, false, R, y)) (hE _ _ hs0) ⟨by decide, rfl⟩ mm_X0_turnKnob wm_0_143 ⟨rfl, rfl, by decide, by decide, by decide, by decide⟩ (Nat.le_of_ble_eq_true rfl) dX0_run_80 (fun y hy => c_X0_turnKnob hE hL hs0 y hy) (fun x15 => ?_)
        exact S_arr (fun K hK => GG.forget (Lle.ye (Lle.ye (Lle.ye (Lle.no (Lle.nil))))) hK)
      exact S_arr (fun K hK => GG.forget (Lle.ye (Lle.ye (Lle.ye (Lle.no (Lle.nil))))) hK)
    refine Seg.step (pc' := 84) (I_aload_n (i := 0) dX0_run_83 rfl rfl) ?_
    refine Seg.step (pc' := 87) (I_getR cls0 (by decide) wf_0_12 (hE _ _ hs0) rfl (lk_0_0 hL hs0) dX0_run_84) ?_
    refine Seg.step (pc' := 90) (I_getZ cls10 (by decide) wf_0_146 (hE _ _ (sk_0_0 hs0)) rfl dX0_run_87) ?_
    refine S_bind (Y := MM) (k' := 0) (n' := 0) 97 (fun y => [some (rV a0), some (iV p1), some (iV x1.1), none]) (fun y => []) (fun y => (sh, false, R, y)) ?_ (fun x19 => ?_)
    · refine S_if_ne (tgt := 97) dX0_run_90 (by decide) (fun h17 => ?_) (fun h17 => ?_)
      · refine Seg.step (pc' := 94) (I_aload_n (i := 0) dX0_run_93 rfl rfl) ?_
        refine S_callV0 (md' := m_X0_crossPeople) (fun y => none) (fun y => (sh, false, R, y)) (hE _ _ hs0) ⟨by decide, rfl⟩ mm_X0_crossPeople wm_0_149 ⟨rfl, rfl, by decide, by decide, by decide, by decide⟩ (Nat.le_of_ble_eq_true rfl) dX0_run_94 (fun y hy => c_X0_crossPeople hE hL hs0 y hy) (fun x18 => ?_)
        exact S_arr (fun K hK => GG.forget (Lle.ye (Lle.ye (Lle.ye (Lle.no (Lle.nil))))) hK)
      exact S_arr (fun K hK => GG.forget (Lle.ye (Lle.ye (Lle.ye (Lle.no (Lle.nil))))) hK)
    refine Seg.step (pc' := 98) (I_aload_n (i := 0) dX0_run_97 rfl rfl) ?_
    refine Seg.step (pc' := 99) (I_dup dX0_run_98 (fun _ h => by cases h)) ?_
    refine Seg.step (pc' := 102) (I_getI cls0 (by decide) wf_0_49 (hE _ _ hs0) rfl dX0_run_99) ?_
    refine Seg.step (pc' := 103) (I_iconst dX0_run_102 ⟨by decide, by decide⟩) ?_
    refine Seg.step (pc' := 104) (I_iadd dX0_run_103) ?_
    refine Seg.step (pc' := 107) (I_putI cls0 (by decide) wf_0_49 (hE _ _ hs0) rfl rfl dX0_run_104) ?_
    refine S_bM fun M20 => ?_
    refine Seg.step (pc' := 110) (I_iinc dX0_run_107 rfl (by decide) rfl) ?_
    refine Seg.step (pc' := 2) (I_goto (tgt := 2) dX0_run_110 (by decide)) ?_
    exact S_arr (fun K hK => GG.forget (Lle.ye (Lle.ye (Lle.ye (Lle.no (Lle.nil))))) hK)
  exact S_vret dX0_run_113 rfl (by decide) (by decide) (fun K hK => hK)
