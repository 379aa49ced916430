theorem dX7_readInto_0 : decode cX7_readInto 0 = .ok (.aload_n 0, 1) := by decide +kernel
theorem dX7_readInto_1 : decode cX7_readInto 1 = .ok (.iconst 0, 1) := by decide +kernel
theorem dX7_readInto_2 : decode cX7_readInto 2 = .ok (.iload_n 3, 1) := by decide +kernel
theorem dX7_readInto_3 : decode cX7_readInto 3 = .ok (.invokevirtual 98, 3) := by decide +kernel
theorem dX7_readInto_6 : decode cX7_readInto 6 = .ok (.istore 4, 2) := by decide +kernel
theorem dX7_readInto_8 : decode cX7_readInto 8 = .ok (.iload 4, 2) := by decide +kernel
theorem dX7_readInto_10 : decode cX7_readInto 10 = .ok (.ifCond .eq 10, 3) := by decide +kernel
theorem dX7_readInto_13 : decode cX7_readInto 13 = .ok (.aload_n 1, 1) := by decide +kernel
theorem dX7_readInto_14 : decode cX7_readInto 14 = .ok (.iload_n 2, 1) := by decide +kernel
theorem dX7_readInto_15 : decode cX7_readInto 15 = .ok (.aload_n 0, 1) := by decide +kernel
theorem dX7_readInto_16 : decode cX7_readInto 16 = .ok (.getfield 95, 3) := by decide +kernel
theorem dX7_readInto_19 : decode cX7_readInto 19 = .ok (.iastore, 1) := by decide +kernel
theorem dX7_readInto_20 : decode cX7_readInto 20 = .ok (.iload 4, 2) := by decide +kernel
theorem dX7_readInto_22 : decode cX7_readInto 22 = .ok (.ireturn, 1) := by decide +kernel
def f_X7_readInto (M : MM) (a1 n1 : Nat) (p2 : Int) (p3 : Int) : Option (Int × MM) :=
(f_X7_readNumber M 0 p3).bind fun x1 =>
if x1.1 = 0 then
(gd (x1.1 = 0 ∨ x1.1 = 1) <|
some (x1.1, x1.2))
else
gd (0 ≤ p2 ∧ p2 < (n1 : Int)) <|
bM (upM x1.2 a1 (p2).toNat (x1.2 2 3)) fun M5 =>
gd (x1.1 = 0 ∨ x1.1 = 1) <|
some (x1.1, M5)
set_option maxRecDepth 4000 in
theorem c_X7_readInto {E : EE} {sh : List (Nat × Nat)} {ex : Bool} {R : RM} {M : MM} {a1 n1 : Nat} {p2 : Int} {p3 : Int} (hE : Ext sh) (hL : Links R) (hs1 : SH0[a1]? = some (50, n1)) : ∀ y, f_X7_readInto M a1 n1 p2 p3 = some y → MetC E m_X7_readInto 0 0 [rV 2, rV a1, iV p2, iV p3] (sh, ex, R, M) (fun r w' => r = some (iV y.1) ∧ w' = (sh, ex, R, y.2)) := by
  intro y hy
  refine MetC.seg (o := f_X7_readInto M a1 n1 p2 p3) (t := (fun K y => K (some (iV y.1)) (sh, ex, R, y.2))) (L := [some (rV 2), some (rV a1), some (iV p2), some (iV p3), none]) (by decide) rfl (Nat.le_of_ble_eq_true rfl) ?_ hy ⟨rfl, rfl⟩
  unfold f_X7_readInto
  refine Seg.step (pc' := 1) (I_aload_n (i := 0) dX7_readInto_0 rfl rfl) ?_
  refine Seg.step (pc' := 2) (I_iconst dX7_readInto_1 ⟨by decide, by decide⟩) ?_
  refine Seg.step (pc' := 3) (I_iload_n (i := 3) dX7_readInto_2 rfl rfl) ?_
  refine S_callV2 (md' := m_X7_readNumber) (fun y => some (iV y.1)) (fun y => (sh, ex, R, y.2)) (hE _ _ sk_7) ⟨by decide, rfl⟩ mm_X7_readNumber wm_7_98 ⟨rfl, rfl, by decide, by decide, by decide, by decide⟩ (Nat.le_of_ble_eq_true rfl) dX7_readInto_3 (fun y hy => c_X7_readNumber hE hL y hy) (fun x1 => ?_)
  refine Seg.step (pc' := 8) (I_istore dX7_readInto_6 (by decide) rfl) ?_
  refine Seg.step (pc' := 10) (I_iload dX7_readInto_8 rfl) ?_
  refine S_if_eq (tgt := 20) dX7_readInto_10 (by decide) (fun h2 => ?_) (fun h2 => ?_)
  · refine Seg.step (pc' := 22) (I_iload dX7_readInto_20 rfl) ?_
    refine S_gd fun h3 => ?_
    exact S_zret dX7_readInto_22 rfl h3 (by decide) (by decide) (fun K hK => hK)
  refine Seg.step (pc' := 14) (I_aload_n (i := 1) dX7_readInto_13 rfl rfl) ?_
  refine Seg.step (pc' := 15) (I_iload_n (i := 2) dX7_readInto_14 rfl rfl) ?_
  refine Seg.step (pc' := 16) (I_aload_n (i := 0) dX7_readInto_15 rfl rfl) ?_
  refine Seg.step (pc' := 19) (I_getI cls7 (by decide) wf_7_95 (hE _ _ sk_7) rfl dX7_readInto_16) ?_
  refine S_gd fun h4 => ?_
  refine Seg.step (pc' := 20) (I_iast (hE _ _ hs1) h4 dX7_readInto_19) ?_
  refine S_bM fun M5 => ?_
  refine Seg.step (pc' := 22) (I_iload dX7_readInto_20 rfl) ?_
  refine S_gd fun h6 => ?_
  exact S_zret dX7_readInto_22 rfl h6 (by decide) (by decide) (fun K hK => hK)
theorem dX7_readRoom_0 : decode cX7_readRoom 0 = .ok (.aload_n 0, 1) := by decide +kernel
theorem dX7_readRoom_1 : decode cX7_readRoom 1 = .ok (.getfield 29, 3) := by decide +kernel
theorem dX7_readRoom_4 : decode cX7_readRoom 4 = .ok (.getfield 106, 3) := by decide +kernel
theorem dX7_readRoom_7 : decode cX7_readRoom 7 = .ok (.astore_n 1, 1) := by decide +kernel
theorem dX7_readRoom_8 : decode cX7_readRoom 8 = .ok (.aload_n 1, 1) := by decide +kernel
theorem dX7_readRoom_9 : decode cX7_readRoom 9 = .ok (.getfield 116, 3) := by decide +kernel
theorem dX7_readRoom_12 : decode cX7_readRoom 12 = .ok (.istore_n 2, 1) := by decide +kernel
theorem dX7_readRoom_13 : decode cX7_readRoom 13 = .ok (.iload_n 2, 1) := by decide +kernel
theorem dX7_readRoom_14 : decode cX7_readRoom 14 = .ok (.iconst 5, 1) := by decide +kernel
theorem dX7_readRoom_15 : decode cX7_readRoom 15 = .ok (.if_icmp .lt 9, 3) := by decide +kernel
theorem dX7_readRoom_18 : decode cX7_readRoom 18 = .ok (.aload_n 0, 1) := by decide +kernel
theorem dX7_readRoom_19 : decode cX7_readRoom 19 = .ok (.iconst 2, 1) := by decide +kernel
theorem dX7_readRoom_20 : decode cX7_readRoom 20 = .ok (.invokevirtual 75, 3) := by decide +kernel
theorem dX7_readRoom_23 : decode cX7_readRoom 23 = .ok (.ireturn, 1) := by decide +kernel
theorem dX7_readRoom_24 : decode cX7_readRoom 24 = .ok (.aload_n 0, 1) := by decide +kernel
theorem dX7_readRoom_25 : decode cX7_readRoom 25 = .ok (.getfield 14, 3) := by decide +kernel
theorem dX7_readRoom_28 : decode cX7_readRoom 28 = .ok (.invokevirtual 85, 3) := by decide +kernel
theorem dX7_readRoom_31 : decode cX7_readRoom 31 = .ok (.aload_n 0, 1) := by decide +kernel
theorem dX7_readRoom_32 : decode cX7_readRoom 32 = .ok (.aload_n 1, 1) := by decide +kernel
theorem dX7_readRoom_33 : decode cX7_readRoom 33 = .ok (.getfield 110, 3) := by decide +kernel
theorem dX7_readRoom_36 : decode cX7_readRoom 36 = .ok (.iload_n 2, 1) := by decide +kernel
theorem dX7_readRoom_37 : decode cX7_readRoom 37 = .ok (.invokevirtual 122, 3) := by decide +kernel
theorem dX7_readRoom_40 : decode cX7_readRoom 40 = .ok (.ifCond .eq 50, 3) := by decide +kernel
theorem dX7_readRoom_43 : decode cX7_readRoom 43 = .ok (.aload_n 0, 1) := by decide +kernel
theorem dX7_readRoom_44 : decode cX7_readRoom 44 = .ok (.aload_n 1, 1) := by decide +kernel
theorem dX7_readRoom_45 : decode cX7_readRoom 45 = .ok (.getfield 126, 3) := by decide +kernel
theorem dX7_readRoom_48 : decode cX7_readRoom 48 = .ok (.iload_n 2, 1) := by decide +kernel
theorem dX7_readRoom_49 : decode cX7_readRoom 49 = .ok (.sipush 400, 3) := by decide +kernel
theorem dX7_readRoom_52 : decode cX7_readRoom 52 = .ok (.invokevirtual 129, 3) := by decide +kernel
theorem dX7_readRoom_55 : decode cX7_readRoom 55 = .ok (.ifCond .eq 35, 3) := by decide +kernel
theorem dX7_readRoom_58 : decode cX7_readRoom 58 = .ok (.aload_n 0, 1) := by decide +kernel
theorem dX7_readRoom_59 : decode cX7_readRoom 59 = .ok (.aload_n 1, 1) := by decide +kernel
theorem dX7_readRoom_60 : decode cX7_readRoom 60 = .ok (.getfield 133, 3) := by decide +kernel
theorem dX7_readRoom_63 : decode cX7_readRoom 63 = .ok (.iload_n 2, 1) := by decide +kernel
theorem dX7_readRoom_64 : decode cX7_readRoom 64 = .ok (.bipush 99, 2) := by decide +kernel
theorem dX7_readRoom_66 : decode cX7_readRoom 66 = .ok (.invokevirtual 129, 3) := by decide +kernel
theorem dX7_readRoom_69 : decode cX7_readRoom 69 = .ok (.ifCond .eq 21, 3) := by decide +kernel
theorem dX7_readRoom_72 : decode cX7_readRoom 72 = .ok (.aload_n 0, 1) := by decide +kernel
theorem dX7_readRoom_73 : decode cX7_readRoom 73 = .ok (.aload_n 1, 1) := by decide +kernel
theorem dX7_readRoom_74 : decode cX7_readRoom 74 = .ok (.getfield 136, 3) := by decide +kernel
theorem dX7_readRoom_77 : decode cX7_readRoom 77 = .ok (.iload_n 2, 1) := by decide +kernel
theorem dX7_readRoom_78 : decode cX7_readRoom 78 = .ok (.bipush 99, 2) := by decide +kernel
theorem dX7_readRoom_80 : decode cX7_readRoom 80 = .ok (.invokevirtual 129, 3) := by decide +kernel
theorem dX7_readRoom_83 : decode cX7_readRoom 83 = .ok (.ifCond .eq 7, 3) := by decide +kernel
theorem dX7_readRoom_86 : decode cX7_readRoom 86 = .ok (.iconst 1, 1) := by decide +kernel
theorem dX7_readRoom_87 : decode cX7_readRoom 87 = .ok (.goto 4, 3) := by decide +kernel
theorem dX7_readRoom_90 : decode cX7_readRoom 90 = .ok (.iconst 0, 1) := by decide +kernel
theorem dX7_readRoom_91 : decode cX7_readRoom 91 = .ok (.istore_n 3, 1) := by decide +kernel
theorem dX7_readRoom_92 : decode cX7_readRoom 92 = .ok (.iload_n 3, 1) := by decide +kernel
theorem dX7_readRoom_93 : decode cX7_readRoom 93 = .ok (.ifCond .eq 13, 3) := by decide +kernel
theorem dX7_readRoom_96 : decode cX7_readRoom 96 = .ok (.aload_n 1, 1) := by decide +kernel
theorem dX7_readRoom_97 : decode cX7_readRoom 97 = .ok (.dup, 1) := by decide +kernel
theorem dX7_readRoom_98 : decode cX7_readRoom 98 = .ok (.getfield 116, 3) := by decide +kernel
theorem dX7_readRoom_101 : decode cX7_readRoom 101 = .ok (.iconst 1, 1) := by decide +kernel
theorem dX7_readRoom_102 : decode cX7_readRoom 102 = .ok (.iadd, 1) := by decide +kernel
theorem dX7_readRoom_103 : decode cX7_readRoom 103 = .ok (.putfield 116, 3) := by decide +kernel
theorem dX7_readRoom_106 : decode cX7_readRoom 106 = .ok (.iload_n 3, 1) := by decide +kernel
theorem dX7_readRoom_107 : decode cX7_readRoom 107 = .ok (.ireturn, 1) := by decide +kernel
def f_X7_readRoom (M : MM)  : Option (Int × MM) :=
gH (M 2 2) fun b1 =>
bI (M (b1 + 1) 0) fun x2 =>
if x2 < 5 then
((f_X9_advance M).bind fun x4 =>
(f_X7_readName x4 (b1 + 2) 5 x2).bind fun x5 =>
((if x5.1 = 0 then
(some (0, x5.2))
else
(f_X7_readInto x5.2 (b1 + 3) 5 x2 400).bind fun x7 =>
if x7.1 = 0 then
(some (0, x7.2))
else
(f_X7_readInto x7.2 (b1 + 4) 5 x2 99).bind fun x9 =>
if x9.1 = 0 then
(some (0, x9.2))
else
(f_X7_readInto x9.2 (b1 + 5) 5 x2 99).bind fun x11 =>
if x11.1 = 0 then
(some (0, x11.2))
else
some (1, x11.2)) : Option (Int × MM)).bind fun x13 =>
if x13.1 = 0 then
(gd (x13.1 = 0 ∨ x13.1 = 1) <|
some (x13.1, x13.2))
else
bM (upM x13.2 (b1 + 1) 0 (w32 ((x13.2 (b1 + 1) 0) + 1))) fun M16 =>
gd (x13.1 = 0 ∨ x13.1 = 1) <|
some (x13.1, M16))
else
(f_X7_fails M 2).bind fun x18 =>
gd (x18.1 = 0 ∨ x18.1 = 1) <|
some (x18.1, x18.2)
set_option maxRecDepth 4000 in
theorem c_X7_readRoom {E : EE} {sh : List (Nat × Nat)} {ex : Bool} {R : RM} {M : MM}  (hE : Ext sh) (hL : Links R) : ∀ y, f_X7_readRoom M = some y → MetC E m_X7_readRoom 0 0 [rV 2] (sh, ex, R, M) (fun r w' => r = some (iV y.1) ∧ w' = (sh, ex, R, y.2)) := by
  intro y hy
  refine MetC.seg (o := f_X7_readRoom M) (t := (fun K y => K (some (iV y.1)) (sh, ex, R, y.2))) (L := [some (rV 2), none, none, none]) (by decide) rfl (Nat.le_of_ble_eq_true rfl) ?_ hy ⟨rfl, rfl⟩
  unfold f_X7_readRoom
  refine Seg.step (pc' := 1) (I_aload_n (i := 0) dX7_readRoom_0 rfl rfl) ?_
  refine S_gH fun b1 hb1 zb1 => ?_
  refine Seg.step (pc' := 4) (I_getH cls7 (by decide) wf_7_29 (hE _ _ sk_7) rfl zb1 (hkp hb1) dX7_readRoom_1) ?_
  refine Seg.step (pc' := 7) (I_getR cls2 (by decide) wf_7_106 (hE _ _ (hks hb1)) rfl (lk_2_0 hL (hks hb1)) dX7_readRoom_4) ?_
  refine Seg.step (pc' := 8) (I_astore_n (i := 1) dX7_readRoom_7 rfl (by decide) rfl) ?_
  refine Seg.step (pc' := 9) (I_aload_n (i := 1) dX7_readRoom_8 rfl rfl) ?_
  refine Seg.step (pc' := 12) (I_getI cls8 (by decide) wf_7_116 (hE _ _ (sk_2_0 (hks hb1))) rfl dX7_readRoom_9) ?_
  refine S_bI fun x2 => ?_
  refine Seg.step (pc' := 13) (I_istore_n (i := 2) dX7_readRoom_12 rfl (by decide) rfl) ?_
  refine Seg.step (pc' := 14) (I_iload_n (i := 2) dX7_readRoom_13 rfl rfl) ?_
  refine Seg.step (pc' := 15) (I_iconst dX7_readRoom_14 ⟨by decide, by decide⟩) ?_
  refine S_icmp_lt (tgt := 24) dX7_readRoom_15 (by decide) (fun h3 => ?_) (fun h3 => ?_)
  · refine Seg.step (pc' := 25) (I_aload_n (i := 0) dX7_readRoom_24 rfl rfl) ?_
    refine Seg.step (pc' := 28) (I_getR cls7 (by decide) wf_7_14 (hE _ _ sk_7) rfl (lk_7_0 hL) dX7_readRoom_25) ?_
    refine S_callV0 (md' := m_X9_advance) (fun y => none) (fun y => (sh, ex, R, y)) (hE _ _ sk_7_0) ⟨by decide, rfl⟩ mm_X9_advance wm_7_85 ⟨rfl, rfl, by decide, by decide, by decide, by decide⟩ (Nat.le_of_ble_eq_true rfl) dX7_readRoom_28 (fun y hy => c_X9_advance hE hL y hy) (fun x4 => ?_)
    refine Seg.step (pc' := 32) (I_aload_n (i := 0) dX7_readRoom_31 rfl rfl) ?_
    refine Seg.step (pc' := 33) (I_aload_n (i := 1) dX7_readRoom_32 rfl rfl) ?_
    refine Seg.step (pc' := 36) (I_getR cls8 (by decide) wf_7_110 (hE _ _ (sk_2_0 (hks hb1))) rfl (lk_8_1 hL (sk_2_0 (hks hb1))) dX7_readRoom_33) ?_
    refine Seg.step (pc' := 37) (I_iload_n (i := 2) dX7_readRoom_36 rfl rfl) ?_
    refine S_callV2 (md' := m_X7_readName) (fun y => some (iV y.1)) (fun y => (sh, ex, R, y.2)) (hE _ _ sk_7) ⟨by decide, rfl⟩ mm_X7_readName wm_7_122 ⟨rfl, rfl, by decide, by decide, by decide, by decide⟩ (Nat.le_of_ble_eq_true rfl) dX7_readRoom_37 (fun y hy => c_X7_readName hE hL (sk_8_1 (sk_2_0 (hks hb1))) y hy) (fun x5 => ?_)
    refine S_bind (Y := Int × MM) (k' := 0) (n' := 0) 91 (fun y => [none, some (rV (b1 + 1)), none, none]) (fun y => [iV y.1]) (fun y => (sh, ex, R, y.2)) ?_ (fun x13 => ?_)
    · refine S_if_eq (tgt := 90) dX7_readRoom_40 (by decide) (fun h6 => ?_) (fun h6 => ?_)
      · refine Seg.step (pc' := 91) (I_iconst dX7_readRoom_90 ⟨by decide, by decide⟩) ?_
        exact S_arr (fun K hK => GG.forget (Lle.no (Lle.ye (Lle.no (Lle.no (Lle.nil))))) hK)
      refine Seg.step (pc' := 44) (I_aload_n (i := 0) dX7_readRoom_43 rfl rfl) ?_
      refine Seg.step (pc' := 45) (I_aload_n (i := 1) dX7_readRoom_44 rfl rfl) ?_
      refine Seg.step (pc' := 48) (I_getR cls8 (by decide) wf_7_126 (hE _ _ (sk_2_0 (hks hb1))) rfl (lk_8_2 hL (sk_2_0 (hks hb1))) dX7_readRoom_45) ?_
      refine Seg.step (pc' := 49) (I_iload_n (i := 2) dX7_readRoom_48 rfl rfl) ?_
      refine Seg.step (pc' := 52) (I_sipush dX7_readRoom_49 (by decide) ⟨by decide, by decide⟩) ?_
      refine S_callV3 (md' := m_X7_readInto) (fun y => some (iV y.1)) (fun y => (sh, ex, R, y.2)) (hE _ _ sk_7) ⟨by decide, rfl⟩ mm_X7_readInto wm_7_129 ⟨rfl, rfl, by decide, by decide, by decide, by decide⟩ (Nat.le_of_ble_eq_true rfl) dX7_readRoom_52 (fun y hy => c_X7_readInto hE hL (sk_8_2 (sk_2_0 (hks hb1))) y hy) (fun x7 => ?_)
      refine S_if_eq (tgt := 90) dX7_readRoom_55 (by decide) (fun h8 => ?_) (fun h8 => ?_)
      · refine Seg.step (pc' := 91) (I_iconst dX7_readRoom_90 ⟨by decide, by decide⟩) ?_
        exact S_arr (fun K hK => GG.forget (Lle.no (Lle.ye (Lle.no (Lle.no (Lle.nil))))) hK)
      refine Seg.step (pc' := 59) (I_aload_n (i := 0) dX7_readRoom_58 rfl rfl) ?_
      refine Seg.step (pc' := 60) (I_aload_n (i := 1) dX7_readRoom_59 rfl rfl) ?_
      refine Seg.step (pc' := 63) (I_getR cls8 (by decide) wf_7_133 (hE _ _ (sk_2_0 (hks hb1))) rfl (lk_8_3 hL (sk_2_0 (hks hb1))) dX7_readRoom_60) ?_
      refine Seg.step (pc' := 64) (I_iload_n (i := 2) dX7_readRoom_63 rfl rfl) ?_
      refine Seg.step (pc' := 66) (I_bipush dX7_readRoom_64 (by decide) ⟨by decide, by decide⟩) ?_
      refine S_callV3 (md' := m_X7_readInto) (fun y => some (iV y.1)) (fun y => (sh, ex, R, y.2)) (hE _ _ sk_7) ⟨by decide, rfl⟩ mm_X7_readInto wm_7_129 ⟨rfl, rfl, by decide, by decide, by decide, by decide⟩ (Nat.le_of_ble_eq_true rfl) dX7_readRoom_66 (fun y hy => c_X7_readInto hE hL (sk_8_3 (sk_2_0 (hks hb1))) y hy) (fun x9 => ?_)
      refine S_if_eq (tgt := 90) dX7_readRoom_69 (by decide) (fun h10 => ?_) (fun h10 => ?_)
      · refine Seg.step (pc' := 91) (I_iconst dX7_readRoom_90 ⟨by decide, by decide⟩) ?_
        exact S_arr (fun K hK => GG.forget (Lle.no (Lle.ye (Lle.no (Lle.no (Lle.nil))))) hK)
      refine Seg.step (pc' := 73) (I_aload_n (i := 0) dX7_readRoom_72 rfl rfl) ?_
      refine Seg.step (pc' := 74) (I_aload_n (i := 1) dX7_readRoom_73 rfl rfl) ?_
      refine Seg.step (pc' := 77) (I_getR cls8 (by decide) wf_7_136 (hE _ _ (sk_2_0 (hks hb1))) rfl (lk_8_4 hL (sk_2_0 (hks hb1))) dX7_readRoom_74) ?_
      refine Seg.step (pc' := 78) (I_iload_n (i := 2) dX7_readRoom_77 rfl rfl) ?_
      refine Seg.step (pc' := 80) (I_bipush dX7_readRoom_78 (by decide) ⟨by decide, by decide⟩) ?_
      refine S_callV3 (md' := m_X7_readInto) (fun y => some (iV y.1)) (fun y => (sh, ex, R, y.2)) (hE _ _ sk_7) ⟨by decide, rfl⟩ mm_X7_readInto wm_7_129 ⟨rfl, rfl, by decide, by decide, by decide, by decide⟩ (Nat.le_of_ble_eq_true rfl) dX7_readRoom_80 (fun y hy => c_X7_readInto hE hL (sk_8_4 (sk_2_0 (hks hb1))) y hy) (fun x11 => ?_)
      refine S_if_eq (tgt := 90) dX7_readRoom_83 (by decide) (fun h12 => ?_) (fun h12 => ?_)
      · refine Seg.step (pc' := 91) (I_iconst dX7_readRoom_90 ⟨by decide, by decide⟩) ?_
        exact S_arr (fun K hK => GG.forget (Lle.no (Lle.ye (Lle.no (Lle.no (Lle.nil))))) hK)
      refine Seg.step (pc' := 87) (I_iconst dX7_readRoom_86 ⟨by decide, by decide⟩) ?_
      refine Seg.step (pc' := 91) (I_goto (tgt := 91) dX7_readRoom_87 (by decide)) ?_
      exact S_arr (fun K hK => GG.forget (Lle.no (Lle.ye (Lle.no (Lle.no (Lle.nil))))) hK)
    refine Seg.step (pc' := 92) (I_istore_n (i := 3) dX7_readRoom_91 rfl (by decide) rfl) ?_
    refine Seg.step (pc' := 93) (I_iload_n (i := 3) dX7_readRoom_92 rfl rfl) ?_
    refine S_if_eq (tgt := 106) dX7_readRoom_93 (by decide) (fun h14 => ?_) (fun h14 => ?_)
    · refine Seg.step (pc' := 107) (I_iload_n (i := 3) dX7_readRoom_106 rfl rfl) ?_
      refine S_gd fun h15 => ?_
      exact S_zret dX7_readRoom_107 rfl h15 (by decide) (by decide) (fun K hK => hK)
    refine Seg.step (pc' := 97) (I_aload_n (i := 1) dX7_readRoom_96 rfl rfl) ?_
    refine Seg.step (pc' := 98) (I_dup dX7_readRoom_97 (fun _ h => by cases h)) ?_
    refine Seg.step (pc' := 101) (I_getI cls8 (by decide) wf_7_116 (hE _ _ (sk_2_0 (hks hb1))) rfl dX7_readRoom_98) ?_
    refine Seg.step (pc' := 102) (I_iconst dX7_readRoom_101 ⟨by decide, by decide⟩) ?_
    refine Seg.step (pc' := 103) (I_iadd dX7_readRoom_102) ?_
    refine Seg.step (pc' := 106) (I_putI cls8 (by decide) wf_7_116 (hE _ _ (sk_2_0 (hks hb1))) rfl rfl dX7_readRoom_103) ?_
    refine S_bM fun M16 => ?_
    refine Seg.step (pc' := 107) (I_iload_n (i := 3) dX7_readRoom_106 rfl rfl) ?_
    refine S_gd fun h17 => ?_
    exact S_zret dX7_readRoom_107 rfl h17 (by decide) (by decide) (fun K hK => hK)
  refine Seg.step (pc' := 19) (I_aload_n (i := 0) dX7_readRoom_18 rfl rfl) ?_
  refine Seg.step (pc' := 20) (I_iconst dX7_readRoom_19 ⟨by decide, by decide⟩) ?_
  refine S_callV1 (md' := m_X7_fails) (fun y => some (iV y.1)) (fun y => (sh, ex, R, y.2)) (hE _ _ sk_7) ⟨by decide, rfl⟩ mm_X7_fails wm_7_75 ⟨rfl, rfl, by decide, by decide, by decide, by decide⟩ (Nat.le_of_ble_eq_true rfl) dX7_readRoom_20 (fun y hy => c_X7_fails hE hL y hy) (fun x18 => ?_)
  refine S_gd fun h19 => ?_
  exact S_zret dX7_readRoom_23 rfl h19 (by decide) (by decide) (fun K hK => hK)
theorem dX7_readToldRoom_0 : decode cX7_readToldRoom 0 = .ok (.aload_n 0, 1) := by decide +kernel
theorem dX7_readToldRoom_1 : decode cX7_readToldRoom 1 = .ok (.getfield 14, 3) := by decide +kernel
theorem dX7_readToldRoom_4 : decode cX7_readToldRoom 4 = .ok (.getfield 49, 3) := by decide +kernel
theorem dX7_readToldRoom_7 : decode cX7_readToldRoom 7 = .ok (.iconst 3, 1) := by decide +kernel
theorem dX7_readToldRoom_8 : decode cX7_readToldRoom 8 = .ok (.if_icmp .eq 9, 3) := by decide +kernel
theorem dX7_readToldRoom_11 : decode cX7_readToldRoom 11 = .ok (.aload_n 0, 1) := by decide +kernel
theorem dX7_readToldRoom_12 : decode cX7_readToldRoom 12 = .ok (.iconst 1, 1) := by decide +kernel
theorem dX7_readToldRoom_13 : decode cX7_readToldRoom 13 = .ok (.invokevirtual 75, 3) := by decide +kernel
theorem dX7_readToldRoom_16 : decode cX7_readToldRoom 16 = .ok (.ireturn, 1) := by decide +kernel
theorem dX7_readToldRoom_17 : decode cX7_readToldRoom 17 = .ok (.aload_n 0, 1) := by decide +kernel
theorem dX7_readToldRoom_18 : decode cX7_readToldRoom 18 = .ok (.aload_n 0, 1) := by decide +kernel
theorem dX7_readToldRoom_19 : decode cX7_readToldRoom 19 = .ok (.getfield 14, 3) := by decide +kernel
theorem dX7_readToldRoom_22 : decode cX7_readToldRoom 22 = .ok (.getfield 88, 3) := by decide +kernel
theorem dX7_readToldRoom_25 : decode cX7_readToldRoom 25 = .ok (.aload_n 0, 1) := by decide +kernel
theorem dX7_readToldRoom_26 : decode cX7_readToldRoom 26 = .ok (.getfield 29, 3) := by decide +kernel
theorem dX7_readToldRoom_29 : decode cX7_readToldRoom 29 = .ok (.getfield 106, 3) := by decide +kernel
theorem dX7_readToldRoom_32 : decode cX7_readToldRoom 32 = .ok (.getfield 110, 3) := by decide +kernel
theorem dX7_readToldRoom_35 : decode cX7_readToldRoom 35 = .ok (.aload_n 0, 1) := by decide +kernel
theorem dX7_readToldRoom_36 : decode cX7_readToldRoom 36 = .ok (.getfield 29, 3) := by decide +kernel
theorem dX7_readToldRoom_39 : decode cX7_readToldRoom 39 = .ok (.getfield 106, 3) := by decide +kernel
theorem dX7_readToldRoom_42 : decode cX7_readToldRoom 42 = .ok (.getfield 116, 3) := by decide +kernel
theorem dX7_readToldRoom_45 : decode cX7_readToldRoom 45 = .ok (.invokestatic 102, 3) := by decide +kernel
theorem dX7_readToldRoom_48 : decode cX7_readToldRoom 48 = .ok (.putfield 119, 3) := by decide +kernel
theorem dX7_readToldRoom_51 : decode cX7_readToldRoom 51 = .ok (.aload_n 0, 1) := by decide +kernel
theorem dX7_readToldRoom_52 : decode cX7_readToldRoom 52 = .ok (.getfield 119, 3) := by decide +kernel
theorem dX7_readToldRoom_55 : decode cX7_readToldRoom 55 = .ok (.iconst (-1), 1) := by decide +kernel
theorem dX7_readToldRoom_56 : decode cX7_readToldRoom 56 = .ok (.if_icmp .ne 9, 3) := by decide +kernel
theorem dX7_readToldRoom_59 : decode cX7_readToldRoom 59 = .ok (.aload_n 0, 1) := by decide +kernel
theorem dX7_readToldRoom_60 : decode cX7_readToldRoom 60 = .ok (.iconst 4, 1) := by decide +kernel
theorem dX7_readToldRoom_61 : decode cX7_readToldRoom 61 = .ok (.invokevirtual 75, 3) := by decide +kernel
theorem dX7_readToldRoom_64 : decode cX7_readToldRoom 64 = .ok (.ireturn, 1) := by decide +kernel
theorem dX7_readToldRoom_65 : decode cX7_readToldRoom 65 = .ok (.aload_n 0, 1) := by decide +kernel
theorem dX7_readToldRoom_66 : decode cX7_readToldRoom 66 = .ok (.getfield 14, 3) := by decide +kernel
theorem dX7_readToldRoom_69 : decode cX7_readToldRoom 69 = .ok (.invokevirtual 85, 3) := by decide +kernel
theorem dX7_readToldRoom_72 : decode cX7_readToldRoom 72 = .ok (.iconst 1, 1) := by decide +kernel
theorem dX7_readToldRoom_73 : decode cX7_readToldRoom 73 = .ok (.ireturn, 1) := by decide +kernel
def f_X7_readToldRoom (M : MM)  : Option (Int × MM) :=
if (M 3 4) = 3 then
(gH (M 2 2) fun b2 =>
gH (M 2 2) fun b3 =>
(f_X11_placeOf M (M 3 5) (b2 + 2) 5 (M (b3 + 1) 0)).bind fun x4 =>
bM (upM M 2 4 x4) fun M5 =>
if (M5 2 4) = (-1) then
((f_X7_fails M5 4).bind fun x7 =>
gd (x7.1 = 0 ∨ x7.1 = 1) <|
some (x7.1, x7.2))
else
(f_X9_advance M5).bind fun x9 =>
some (1, x9))
else
(f_X7_fails M 1).bind fun x10 =>
gd (x10.1 = 0 ∨ x10.1 = 1) <|
some (x10.1, x10.2)
set_option maxRecDepth 4000 in
theorem c_X7_readToldRoom {E : EE} {sh : List (Nat × Nat)} {ex : Bool} {R : RM} {M : MM}  (hE : Ext sh) (hL : Links R) : ∀ y, f_X7_readToldRoom M = some y → MetC E m_X7_readToldRoom 0 0 [rV 2] (sh, ex, R, M) (fun r w' => r = some (iV y.1) ∧ w' = (sh, ex, R, y.2)) := by
  intro y hy
  refine MetC.seg (o := f_X7_readToldRoom M) (t := (fun K y => K (some (iV y.1)) (sh, ex, R, y.2))) (L := [some (rV 2)]) (by decide) rfl (Nat.le_of_ble_eq_true rfl) ?_ hy ⟨rfl, rfl⟩
  unfold f_X7_readToldRoom
  refine Seg.step (pc' := 1) (I_aload_n (i := 0) dX7_readToldRoom_0 rfl rfl) ?_
  refine Seg.step (pc' := 4) (I_getR cls7 (by decide) wf_7_14 (hE _ _ sk_7) rfl (lk_7_0 hL) dX7_readToldRoom_1) ?_
  refine Seg.step (pc' := 7) (I_getI cls9 (by decide) wf_7_49 (hE _ _ sk_7_0) rfl dX7_readToldRoom_4) ?_
  refine Seg.step (pc' := 8) (I_iconst dX7_readToldRoom_7 ⟨by decide, by decide⟩) ?_
  refine S_icmp_eq (tgt := 17) dX7_readToldRoom_8 (by decide) (fun h1 => ?_) (fun h1 => ?_)
  · refine Seg.step (pc' := 18) (I_aload_n (i := 0) dX7_readToldRoom_17 rfl rfl) ?_
    refine Seg.step (pc' := 19) (I_aload_n (i := 0) dX7_readToldRoom_18 rfl rfl) ?_
    refine Seg.step (pc' := 22) (I_getR cls7 (by decide) wf_7_14 (hE _ _ sk_7) rfl (lk_7_0 hL) dX7_readToldRoom_19) ?_
    refine Seg.step (pc' := 25) (I_getI cls9 (by decide) wf_7_88 (hE _ _ sk_7_0) rfl dX7_readToldRoom_22) ?_
    refine Seg.step (pc' := 26) (I_aload_n (i := 0) dX7_readToldRoom_25 rfl rfl) ?_
    refine S_gH fun b2 hb2 zb2 => ?_
    refine Seg.step (pc' := 29) (I_getH cls7 (by decide) wf_7_29 (hE _ _ sk_7) rfl zb2 (hkp hb2) dX7_readToldRoom_26) ?_
    refine Seg.step (pc' := 32) (I_getR cls2 (by decide) wf_7_106 (hE _ _ (hks hb2)) rfl (lk_2_0 hL (hks hb2)) dX7_readToldRoom_29) ?_
    refine Seg.step (pc' := 35) (I_getR cls8 (by decide) wf_7_110 (hE _ _ (sk_2_0 (hks hb2))) rfl (lk_8_1 hL (sk_2_0 (hks hb2))) dX7_readToldRoom_32) ?_
    refine Seg.step (pc' := 36) (I_aload_n (i := 0) dX7_readToldRoom_35 rfl rfl) ?_
    refine S_gH fun b3 hb3 zb3 => ?_
    refine Seg.step (pc' := 39) (I_getH cls7 (by decide) wf_7_29 (hE _ _ sk_7) rfl zb3 (hkp hb3) dX7_readToldRoom_36) ?_
    refine Seg.step (pc' := 42) (I_getR cls2 (by decide) wf_7_106 (hE _ _ (hks hb3)) rfl (lk_2_0 hL (hks hb3)) dX7_readToldRoom_39) ?_
    refine Seg.step (pc' := 45) (I_getI cls8 (by decide) wf_7_116 (hE _ _ (sk_2_0 (hks hb3))) rfl dX7_readToldRoom_42) ?_
    refine S_callN3 (md' := m_X11_placeOf) (fun y => some (iV y)) (fun y => (sh, ex, R, M)) mm_X11_placeOf wn_7_102 ⟨rfl, rfl, by decide, by decide, by decide, by decide⟩ (Nat.le_of_ble_eq_true rfl) dX7_readToldRoom_45 (fun y hy => c_X11_placeOf hE hL (sk_8_1 (sk_2_0 (hks hb2))) y hy) (fun x4 => ?_)
    refine Seg.step (pc' := 51) (I_putI cls7 (by decide) wf_7_119 (hE _ _ sk_7) rfl rfl dX7_readToldRoom_48) ?_
    refine S_bM fun M5 => ?_
    refine Seg.step (pc' := 52) (I_aload_n (i := 0) dX7_readToldRoom_51 rfl rfl) ?_
    refine Seg.step (pc' := 55) (I_getI cls7 (by decide) wf_7_119 (hE _ _ sk_7) rfl dX7_readToldRoom_52) ?_
    refine Seg.step (pc' := 56) (I_iconst dX7_readToldRoom_55 ⟨by decide, by decide⟩) ?_
    refine S_icmp_ne (tgt := 65) dX7_readToldRoom_56 (by decide) (fun h6 => ?_) (fun h6 => ?_)
    · refine Seg.step (pc' := 60) (I_aload_n (i := 0) dX7_readToldRoom_59 rfl rfl) ?_
      refine Seg.step (pc' := 61) (I_iconst dX7_readToldRoom_60 ⟨by decide, by decide⟩) ?_
      refine S_callV1 (md' := m_X7_fails) (fun y => some (iV y.1)) (fun y => (sh, ex, R, y.2)) (hE _ _ sk_7) ⟨by decide, rfl⟩ mm_X7_fails wm_7_75 ⟨rfl, rfl, by decide, by decide, by decide, by decide⟩ (Nat.le_of_ble_eq_true rfl) dX7_readToldRoom_61 (fun y hy => c_X7_fails hE hL y hy) (fun x7 => ?_)
      refine S_gd fun h8 => ?_
      exact S_zret dX7_readToldRoom_64 rfl h8 (by decide) (by decide) (fun K hK => hK)
    refine Seg.step (pc' := 66) (I_aload_n (i := 0) dX7_readToldRoom_65 rfl rfl) ?_
    refine Seg.step (pc' := 69) (I_getR cls7 (by decide) wf_7_14 (hE _ _ sk_7) rfl (lk_7_0 hL) dX7_readToldRoom_66) ?_
    refine S_callV0 (md' := m_X9_advance) (fun y => none) (fun y => (sh, ex, R, y)) (hE _ _ sk_7_0) ⟨by decide, rfl⟩ mm_X9_advance wm_7_85 ⟨rfl, rfl, by decide, by decide, by decide, by decide⟩ (Nat.le_of_ble_eq_true rfl) dX7_readToldRoom_69 (fun y hy => c_X9_advance hE hL y hy) (fun x9 => ?_)
    refine Seg.step (pc' := 73) (I_iconst dX7_readToldRoom_72 ⟨by decide, by decide⟩) ?_
    exact S_zret dX7_readToldRoom_73 rfl (by decide) (by decide) (by decide) (fun K hK => hK)
  refine Seg.step (pc' := 12) (I_aload_n (i := 0) dX7_readToldRoom_11 rfl rfl) ?_
  refine Seg.step (pc' := 13) (I_iconst dX7_readToldRoom_12 ⟨by decide, by decide⟩) ?_
  refine S_callV1 (md' := m_X7_fails) (fun y => some (iV y.1)) (fun y => (sh, ex, R, y.2)) (hE _ _ sk_7) ⟨by decide, rfl⟩ mm_X7_fails wm_7_75 ⟨rfl, rfl, by decide, by decide, by decide, by decide⟩ (Nat.le_of_ble_eq_true rfl) dX7_readToldRoom_13 (fun y hy => c_X7_fails hE hL y hy) (fun x10 => ?_)
  refine S_gd fun h11 => ?_
  exact S_zret dX7_readToldRoom_16 rfl h11 (by decide) (by decide) (fun K hK => hK)
theorem dX7_readPerson_0 : decode cX7_readPerson 0 = .ok (.aload_n 0, 1) := by decide +kernel
theorem dX7_readPerson_1 : decode cX7_readPerson 1 = .ok (.getfield 29, 3) := by decide +kernel
theorem dX7_readPerson_4 : decode cX7_readPerson 4 = .ok (.getfield 139, 3) := by decide +kernel
theorem dX7_readPerson_7 : decode cX7_readPerson 7 = .ok (.astore_n 1, 1) := by decide +kernel
theorem dX7_readPerson_8 : decode cX7_readPerson 8 = .ok (.aload_n 1, 1) := by decide +kernel
theorem dX7_readPerson_9 : decode cX7_readPerson 9 = .ok (.getfield 143, 3) := by decide +kernel
theorem dX7_readPerson_12 : decode cX7_readPerson 12 = .ok (.istore_n 2, 1) := by decide +kernel
theorem dX7_readPerson_13 : decode cX7_readPerson 13 = .ok (.iload_n 2, 1) := by decide +kernel
theorem dX7_readPerson_14 : decode cX7_readPerson 14 = .ok (.iconst 5, 1) := by decide +kernel
theorem dX7_readPerson_15 : decode cX7_readPerson 15 = .ok (.if_icmp .lt 9, 3) := by decide +kernel
theorem dX7_readPerson_18 : decode cX7_readPerson 18 = .ok (.aload_n 0, 1) := by decide +kernel
theorem dX7_readPerson_19 : decode cX7_readPerson 19 = .ok (.iconst 2, 1) := by decide +kernel
theorem dX7_readPerson_20 : decode cX7_readPerson 20 = .ok (.invokevirtual 75, 3) := by decide +kernel
theorem dX7_readPerson_23 : decode cX7_readPerson 23 = .ok (.ireturn, 1) := by decide +kernel
theorem dX7_readPerson_24 : decode cX7_readPerson 24 = .ok (.aload_n 0, 1) := by decide +kernel
theorem dX7_readPerson_25 : decode cX7_readPerson 25 = .ok (.getfield 14, 3) := by decide +kernel
theorem dX7_readPerson_28 : decode cX7_readPerson 28 = .ok (.invokevirtual 85, 3) := by decide +kernel
theorem dX7_readPerson_31 : decode cX7_readPerson 31 = .ok (.aload_n 0, 1) := by decide +kernel
theorem dX7_readPerson_32 : decode cX7_readPerson 32 = .ok (.aload_n 1, 1) := by decide +kernel
theorem dX7_readPerson_33 : decode cX7_readPerson 33 = .ok (.getfield 146, 3) := by decide +kernel
theorem dX7_readPerson_36 : decode cX7_readPerson 36 = .ok (.iload_n 2, 1) := by decide +kernel
theorem dX7_readPerson_37 : decode cX7_readPerson 37 = .ok (.invokevirtual 122, 3) := by decide +kernel
theorem dX7_readPerson_40 : decode cX7_readPerson 40 = .ok (.ifCond .eq 10, 3) := by decide +kernel
theorem dX7_readPerson_43 : decode cX7_readPerson 43 = .ok (.aload_n 0, 1) := by decide +kernel
theorem dX7_readPerson_44 : decode cX7_readPerson 44 = .ok (.invokevirtual 147, 3) := by decide +kernel
theorem dX7_readPerson_47 : decode cX7_readPerson 47 = .ok (.ifCond .ne 5, 3) := by decide +kernel
theorem dX7_readPerson_50 : decode cX7_readPerson 50 = .ok (.iconst 0, 1) := by decide +kernel
theorem dX7_readPerson_51 : decode cX7_readPerson 51 = .ok (.ireturn, 1) := by decide +kernel
theorem dX7_readPerson_52 : decode cX7_readPerson 52 = .ok (.aload_n 1, 1) := by decide +kernel
theorem dX7_readPerson_53 : decode cX7_readPerson 53 = .ok (.getfield 150, 3) := by decide +kernel
theorem dX7_readPerson_56 : decode cX7_readPerson 56 = .ok (.iload_n 2, 1) := by decide +kernel
theorem dX7_readPerson_57 : decode cX7_readPerson 57 = .ok (.aload_n 0, 1) := by decide +kernel
theorem dX7_readPerson_58 : decode cX7_readPerson 58 = .ok (.getfield 119, 3) := by decide +kernel
theorem dX7_readPerson_61 : decode cX7_readPerson 61 = .ok (.iastore, 1) := by decide +kernel
theorem dX7_readPerson_62 : decode cX7_readPerson 62 = .ok (.aload_n 0, 1) := by decide +kernel
theorem dX7_readPerson_63 : decode cX7_readPerson 63 = .ok (.aload_n 1, 1) := by decide +kernel
theorem dX7_readPerson_64 : decode cX7_readPerson 64 = .ok (.getfield 153, 3) := by decide +kernel
theorem dX7_readPerson_67 : decode cX7_readPerson 67 = .ok (.iload_n 2, 1) := by decide +kernel
theorem dX7_readPerson_68 : decode cX7_readPerson 68 = .ok (.bipush 40, 2) := by decide +kernel
theorem dX7_readPerson_70 : decode cX7_readPerson 70 = .ok (.invokevirtual 129, 3) := by decide +kernel
theorem dX7_readPerson_73 : decode cX7_readPerson 73 = .ok (.ifCond .eq 34, 3) := by decide +kernel
theorem dX7_readPerson_76 : decode cX7_readPerson 76 = .ok (.aload_n 0, 1) := by decide +kernel
theorem dX7_readPerson_77 : decode cX7_readPerson 77 = .ok (.aload_n 1, 1) := by decide +kernel
theorem dX7_readPerson_78 : decode cX7_readPerson 78 = .ok (.getfield 156, 3) := by decide +kernel
theorem dX7_readPerson_81 : decode cX7_readPerson 81 = .ok (.iload_n 2, 1) := by decide +kernel
theorem dX7_readPerson_82 : decode cX7_readPerson 82 = .ok (.iconst 5, 1) := by decide +kernel
theorem dX7_readPerson_83 : decode cX7_readPerson 83 = .ok (.invokevirtual 129, 3) := by decide +kernel
theorem dX7_readPerson_86 : decode cX7_readPerson 86 = .ok (.ifCond .eq 21, 3) := by decide +kernel
theorem dX7_readPerson_89 : decode cX7_readPerson 89 = .ok (.aload_n 0, 1) := by decide +kernel
theorem dX7_readPerson_90 : decode cX7_readPerson 90 = .ok (.aload_n 1, 1) := by decide +kernel
theorem dX7_readPerson_91 : decode cX7_readPerson 91 = .ok (.getfield 159, 3) := by decide +kernel
theorem dX7_readPerson_94 : decode cX7_readPerson 94 = .ok (.iload_n 2, 1) := by decide +kernel
theorem dX7_readPerson_95 : decode cX7_readPerson 95 = .ok (.bipush 23, 2) := by decide +kernel
theorem dX7_readPerson_97 : decode cX7_readPerson 97 = .ok (.invokevirtual 129, 3) := by decide +kernel
theorem dX7_readPerson_100 : decode cX7_readPerson 100 = .ok (.ifCond .eq 7, 3) := by decide +kernel
theorem dX7_readPerson_103 : decode cX7_readPerson 103 = .ok (.iconst 1, 1) := by decide +kernel
theorem dX7_readPerson_104 : decode cX7_readPerson 104 = .ok (.goto 4, 3) := by decide +kernel
theorem dX7_readPerson_107 : decode cX7_readPerson 107 = .ok (.iconst 0, 1) := by decide +kernel
theorem dX7_readPerson_108 : decode cX7_readPerson 108 = .ok (.istore_n 3, 1) := by decide +kernel
theorem dX7_readPerson_109 : decode cX7_readPerson 109 = .ok (.iload_n 3, 1) := by decide +kernel
theorem dX7_readPerson_110 : decode cX7_readPerson 110 = .ok (.ifCond .eq 13, 3) := by decide +kernel
theorem dX7_readPerson_113 : decode cX7_readPerson 113 = .ok (.aload_n 1, 1) := by decide +kernel
theorem dX7_readPerson_114 : decode cX7_readPerson 114 = .ok (.dup, 1) := by decide +kernel
theorem dX7_readPerson_115 : decode cX7_readPerson 115 = .ok (.getfield 143, 3) := by decide +kernel
theorem dX7_readPerson_118 : decode cX7_readPerson 118 = .ok (.iconst 1, 1) := by decide +kernel
theorem dX7_readPerson_119 : decode cX7_readPerson 119 = .ok (.iadd, 1) := by decide +kernel
theorem dX7_readPerson_120 : decode cX7_readPerson 120 = .ok (.putfield 143, 3) := by decide +kernel
theorem dX7_readPerson_123 : decode cX7_readPerson 123 = .ok (.iload_n 3, 1) := by decide +kernel
theorem dX7_readPerson_124 : decode cX7_readPerson 124 = .ok (.ireturn, 1) := by decide +kernel
def f_X7_readPerson (M : MM)  : Option (Int × MM) :=
gH (M 2 2) fun b1 =>
bI (M (b1 + 6) 0) fun x2 =>
if x2 < 5 then
((f_X9_advance M).bind fun x4 =>
(f_X7_readName x4 (b1 + 7) 5 x2).bind fun x5 =>
if x5.1 = 0 then
(some (0, x5.2))
else
(f_X7_readToldRoom x5.2).bind fun x7 =>
if x7.1 = 0 then
(some (0, x7.2))
else
gd (0 ≤ x2 ∧ x2 < (5 : Int)) <|
bM (upM x7.2 (b1 + 8) (x2).toNat (x7.2 2 4)) fun M10 =>
(f_X7_readInto M10 (b1 + 9) 5 x2 40).bind fun x11 =>
((if x11.1 = 0 then
(some (0, x11.2))
else
(f_X7_readInto x11.2 (b1 + 10) 5 x2 5).bind fun x13 =>
if x13.1 = 0 then
(some (0, x13.2))
else
(f_X7_readInto x13.2 (b1 + 11) 5 x2 23).bind fun x15 =>
if x15.1 = 0 then
(some (0, x15.2))
else
some (1, x15.2)) : Option (Int × MM)).bind fun x17 =>
if x17.1 = 0 then
(gd (x17.1 = 0 ∨ x17.1 = 1) <|
some (x17.1, x17.2))
else
bM (upM x17.2 (b1 + 6) 0 (w32 ((x17.2 (b1 + 6) 0) + 1))) fun M20 =>
gd (x17.1 = 0 ∨ x17.1 = 1) <|
some (x17.1, M20))
else
(f_X7_fails M 2).bind fun x22 =>
gd (x22.1 = 0 ∨ x22.1 = 1) <|
some (x22.1, x22.2)
set_option maxRecDepth 4000 in
theorem c_X7_readPerson {E : EE} {sh : List (Nat × Nat)} {ex : Bool} {R : RM} {M : MM}  (hE : Ext sh) (hL : Links R) : ∀ y, f_X7_readPerson M = some y → MetC E m_X7_readPerson 0 0 [rV 2] (sh, ex, R, M) (fun r w' => r = some (iV y.1) ∧ w' = (sh, ex, R, y.2)) := by
  intro y hy
  refine MetC.seg (o := f_X7_readPerson M) (t := (fun K y => K (some (iV y.1)) (sh, ex, R, y.2))) (L := [some (rV 2), none, none, none]) (by decide) rfl (Nat.le_of_ble_eq_true rfl) ?_ hy ⟨rfl, rfl⟩
  unfold f_X7_readPerson
  refine Seg.step (pc' := 1) (I_aload_n (i := 0) dX7_readPerson_0 rfl rfl) ?_
  refine S_gH fun b1 hb1 zb1 => ?_
  refine Seg.step (pc' := 4) (I_getH cls7 (by decide) wf_7_29 (hE _ _ sk_7) rfl zb1 (hkp hb1) dX7_readPerson_1) ?_
  refine Seg.step (pc' := 7) (I_getR cls2 (by decide) wf_7_139 (hE _ _ (hks hb1)) rfl (lk_2_1 hL (hks hb1)) dX7_readPerson_4) ?_
  refine Seg.step (pc' := 8) (I_astore_n (i := 1) dX7_readPerson_7 rfl (by decide) rfl) ?_
  refine Seg.step (pc' := 9) (I_aload_n (i := 1) dX7_readPerson_8 rfl rfl) ?_
  refine Seg.step (pc' := 12) (I_getI cls6 (by decide) wf_7_143 (hE _ _ (sk_2_1 (hks hb1))) rfl dX7_readPerson_9) ?_
  refine S_bI fun x2 => ?_
  refine Seg.step (pc' := 13) (I_istore_n (i := 2) dX7_readPerson_12 rfl (by decide) rfl) ?_
  refine Seg.step (pc' := 14) (I_iload_n (i := 2) dX7_readPerson_13 rfl rfl) ?_
  refine Seg.step (pc' := 15) (I_iconst dX7_readPerson_14 ⟨by decide, by decide⟩) ?_
  refine S_icmp_lt (tgt := 24) dX7_readPerson_15 (by decide) (fun h3 => ?_) (fun h3 => ?_)
  · refine Seg.step (pc' := 25) (I_aload_n (i := 0) dX7_readPerson_24 rfl rfl) ?_
    refine Seg.step (pc' := 28) (I_getR cls7 (by decide) wf_7_14 (hE _ _ sk_7) rfl (lk_7_0 hL) dX7_readPerson_25) ?_
    refine S_callV0 (md' := m_X9_advance) (fun y => none) (fun y => (sh, ex, R, y)) (hE _ _ sk_7_0) ⟨by decide, rfl⟩ mm_X9_advance wm_7_85 ⟨rfl, rfl, by decide, by decide, by decide, by decide⟩ (Nat.le_of_ble_eq_true rfl) dX7_readPerson_28 (fun y hy => c_X9_advance hE hL y hy) (fun x4 => ?_)
    refine Seg.step (pc' := 32) (I_aload_n (i := 0) dX7_readPerson_31 rfl rfl) ?_
    refine Seg.step (pc' := 33) (I_aload_n (i := 1) dX7_readPerson_32 rfl rfl) ?_
    refine Seg.step (pc' := 36) (I_getR cls6 (by decide) wf_7_146 (hE _ _ (sk_2_1 (hks hb1))) rfl (lk_6_1 hL (sk_2_1 (hks hb1))) dX7_readPerson_33) ?_
    refine Seg.step (pc' := 37) (I_iload_n (i := 2) dX7_readPerson_36 rfl rfl) ?_
    refine S_callV2 (md' := m_X7_readName) (fun y => some (iV y.1)) (fun y => (sh, ex, R, y.2)) (hE _ _ sk_7) ⟨by decide, rfl⟩ mm_X7_readName wm_7_122 ⟨rfl, rfl, by decide, by decide, by decide, by decide⟩ (Nat.le_of_ble_eq_true rfl) dX7_readPerson_37 (fun y hy => c_X7_readName hE hL (sk_6_1 (sk_2_1 (hks hb1))) y hy) (fun x5 => ?_)
    refine S_if_eq (tgt := 50) dX7_readPerson_40 (by decide) (fun h6 => ?_) (fun h6 => ?_)
    · refine Seg.step (pc' := 51) (I_iconst dX7_readPerson_50 ⟨by decide, by decide⟩) ?_
      exact S_zret dX7_readPerson_51 rfl (by decide) (by decide) (by decide) (fun K hK => hK)
    refine Seg.step (pc' := 44) (I_aload_n (i := 0) dX7_readPerson_43 rfl rfl) ?_
    refine S_callV0 (md' := m_X7_readToldRoom) (fun y => some (iV y.1)) (fun y => (sh, ex, R, y.2)) (hE _ _ sk_7) ⟨by decide, rfl⟩ mm_X7_readToldRoom wm_7_147 ⟨rfl, rfl, by decide, by decide, by decide, by decide⟩ (Nat.le_of_ble_eq_true rfl) dX7_readPerson_44 (fun y hy => c_X7_readToldRoom hE hL y hy) (fun x7 => ?_)
    refine S_if_ne (tgt := 52) dX7_readPerson_47 (by decide) (fun h8 => ?_) (fun h8 => ?_)
    · refine Seg.step (pc' := 51) (I_iconst dX7_readPerson_50 ⟨by decide, by decide⟩) ?_
      exact S_zret dX7_readPerson_51 rfl (by decide) (by decide) (by decide) (fun K hK => hK)
    refine Seg.step (pc' := 53) (I_aload_n (i := 1) dX7_readPerson_52 rfl rfl) ?_
    refine Seg.step (pc' := 56) (I_getR cls6 (by decide) wf_7_150 (hE _ _ (sk_2_1 (hks hb1))) rfl (lk_6_2 hL (sk_2_1 (hks hb1))) dX7_readPerson_53) ?_
    refine Seg.step (pc' := 57) (I_iload_n (i := 2) dX7_readPerson_56 rfl rfl) ?_
    refine Seg.step (pc' := 58) (I_aload_n (i := 0) dX7_readPerson_57 rfl rfl) ?_
    refine Seg.step (pc' := 61) (I_getI cls7 (by decide) wf_7_119 (hE _ _ sk_7) rfl dX7_readPerson_58) ?_
    refine S_gd fun h9 => ?_
    refine Seg.step (pc' := 62) (I_iast (hE _ _ (sk_6_2 (sk_2_1 (hks hb1)))) h9 dX7_readPerson_61) ?_
    refine S_bM fun M10 => ?_
    refine Seg.step (pc' := 63) (I_aload_n (i := 0) dX7_readPerson_62 rfl rfl) ?_
    refine Seg.step (pc' := 64) (I_aload_n (i := 1) dX7_readPerson_63 rfl rfl) ?_
    refine Seg.step (pc' := 67) (I_getR cls6 (by decide) wf_7_153 (hE _ _ (sk_2_1 (hks hb1))) rfl (lk_6_3 hL (sk_2_1 (hks hb1))) dX7_readPerson_64) ?_
    refine Seg.step (pc' := 68) (I_iload_n (i := 2) dX7_readPerson_67 rfl rfl) ?_
    refine Seg.step (pc' := 70) (I_bipush dX7_readPerson_68 (by decide) ⟨by decide, by decide⟩) ?_
    refine S_callV3 (md' := m_X7_readInto) (fun y => some (iV y.1)) (fun y => (sh, ex, R, y.2)) (hE _ _ sk_7) ⟨by decide, rfl⟩ mm_X7_readInto wm_7_129 ⟨rfl, rfl, by decide, by decide, by decide, by decide⟩ (Nat.le_of_ble_eq_true rfl) dX7_readPerson_70 (fun y hy => c_X7_readInto hE hL (sk_6_3 (sk_2_1 (hks hb1))) y hy) (fun x11 => ?_)
    refine S_bind (Y := Int × MM) (k' := 0) (n' := 0) 108 (fun y => [none, some (rV (b1 + 6)), none, none]) (fun y => [iV y.1]) (fun y => (sh, ex, R, y.2)) ?_ (fun x17 => ?_)
    · refine S_if_eq (tgt := 107) dX7_readPerson_73 (by decide) (fun h12 => ?_) (fun h12 => ?_)
      · refine Seg.step (pc' := 108) (I_iconst dX7_readPerson_107 ⟨by decide, by decide⟩) ?_
        exact S_arr (fun K hK => GG.forget (Lle.no (Lle.ye (Lle.no (Lle.no (Lle.nil))))) hK)
      refine Seg.step (pc' := 77) (I_aload_n (i := 0) dX7_readPerson_76 rfl rfl) ?_
      refine Seg.step (pc' := 78) (I_aload_n (i := 1) dX7_readPerson_77 rfl rfl) ?_
      refine Seg.step (pc' := 81) (I_getR cls6 (by decide) wf_7_156 (hE _ _ (sk_2_1 (hks hb1))) rfl (lk_6_4 hL (sk_2_1 (hks hb1))) dX7_readPerson_78) ?_
      refine Seg.step (pc' := 82) (I_iload_n (i := 2) dX7_readPerson_81 rfl rfl) ?_
      refine Seg.step (pc' := 83) (I_iconst dX7_readPerson_82 ⟨by decide, by decide⟩) ?_
      refine S_callV3 (md' := m_X7_readInto) (fun y => some (iV y.1)) (fun y => (sh, ex, R, y.2)) (hE _ _ sk_7) ⟨by decide, rfl⟩ mm_X7_readInto wm_7_129 ⟨rfl, rfl, by decide, by decide, by decide, by decide⟩ (Nat.le_of_ble_eq_true rfl) dX7_readPerson_83 (fun y hy => c_X7_readInto hE hL (sk_6_4 (sk_2_1 (hks hb1))) y hy) (fun x13 => ?_)
      refine S_if_eq (tgt := 107) dX7_readPerson_86 (by decide) (fun h14 => ?_) (fun h14 => ?_)
      · refine Seg.step (pc' := 108) (I_iconst dX7_readPerson_107 ⟨by decide, by decide⟩) ?_
        exact S_arr (fun K hK => GG.forget (Lle.no (Lle.ye (Lle.no (Lle.no (Lle.nil))))) hK)
      refine Seg.step (pc' := 90) (I_aload_n (i := 0) dX7_readPerson_89 rfl rfl) ?_
      refine Seg.step (pc' := 91) (I_aload_n (i := 1) dX7_readPerson_90 rfl rfl) ?_
      refine Seg.step (pc' := 94) (I_getR cls6 (by decide) wf_7_159 (hE _ _ (sk_2_1 (hks hb1))) rfl (lk_6_5 hL (sk_2_1 (hks hb1))) dX7_readPerson_91) ?_
      refine Seg.step (pc' := 95) (I_iload_n (i := 2) dX7_readPerson_94 rfl rfl) ?_
      refine Seg.step (pc' := 97) (I_bipush dX7_readPerson_95 (by decide) ⟨by decide, by decide⟩) ?_
      refine S_callV3 (md' := m_X7_readInto) (fun y => some (iV y.1)) (fun y => (sh, ex, R, y.2)) (hE _ _ sk_7) ⟨by decide, rfl⟩ mm_X7_readInto wm_7_129 ⟨rfl, rfl, by decide, by decide, by decide, by decide⟩ (Nat.le_of_ble_eq_true rfl) dX7_readPerson_97 (fun y hy => c_X7_readInto hE hL (sk_6_5 (sk_2_1 (hks hb1))) y hy) (fun x15 => ?_)
      refine S_if_eq (tgt := 107) dX7_readPerson_100 (by decide) (fun h16 => ?_) (fun h16 => ?_)
      · refine Seg.step (pc' := 108) (I_iconst dX7_readPerson_107 ⟨by decide, by decide⟩) ?_
        exact S_arr (fun K hK => GG.forget (Lle.no (Lle.ye (Lle.no (Lle.no (Lle.nil))))) hK)
      refine Seg.step (pc' := 104) (I_iconst dX7_readPerson_103 ⟨by decide, by decide⟩) ?_
      refine Seg.step (pc' := 108) (I_goto (tgt := 108) dX7_readPerson_104 (by decide)) ?_
      exact S_arr (fun K hK => GG.forget (Lle.no (Lle.ye (Lle.no (Lle.no (Lle.nil))))) hK)
    refine Seg.step (pc' := 109) (I_istore_n (i := 3) dX7_readPerson_108 rfl (by decide) rfl) ?_
    refine Seg.step (pc' := 110) (I_iload_n (i := 3) dX7_readPerson_109 rfl rfl) ?_
    refine S_if_eq (tgt := 123) dX7_readPerson_110 (by decide) (fun h18 => ?_) (fun h18 => ?_)
    · refine Seg.step (pc' := 124) (I_iload_n (i := 3) dX7_readPerson_123 rfl rfl) ?_
      refine S_gd fun h19 => ?_
      exact S_zret dX7_readPerson_124 rfl h19 (by decide) (by decide) (fun K hK => hK)
    refine Seg.step (pc' := 114) (I_aload_n (i := 1) dX7_readPerson_113 rfl rfl) ?_
    refine Seg.step (pc' := 115) (I_dup dX7_readPerson_114 (fun _ h => by cases h)) ?_
    refine Seg.step (pc' := 118) (I_getI cls6 (by decide) wf_7_143 (hE _ _ (sk_2_1 (hks hb1))) rfl dX7_readPerson_115) ?_
    refine Seg.step (pc' := 119) (I_iconst dX7_readPerson_118 ⟨by decide, by decide⟩) ?_
    refine Seg.step (pc' := 120) (I_iadd dX7_readPerson_119) ?_
    refine Seg.step (pc' := 123) (I_putI cls6 (by decide) wf_7_143 (hE _ _ (sk_2_1 (hks hb1))) rfl rfl dX7_readPerson_120) ?_
    refine S_bM fun M20 => ?_
    refine Seg.step (pc' := 124) (I_iload_n (i := 3) dX7_readPerson_123 rfl rfl) ?_
    refine S_gd fun h21 => ?_
    exact S_zret dX7_readPerson_124 rfl h21 (by decide) (by decide) (fun K hK => hK)
  refine Seg.step (pc' := 19) (I_aload_n (i := 0) dX7_readPerson_18 rfl rfl) ?_
  refine Seg.step (pc' := 20) (I_iconst dX7_readPerson_19 ⟨by decide, by decide⟩) ?_
  refine S_callV1 (md' := m_X7_fails) (fun y => some (iV y.1)) (fun y => (sh, ex, R, y.2)) (hE _ _ sk_7) ⟨by decide, rfl⟩ mm_X7_fails wm_7_75 ⟨rfl, rfl, by decide, by decide, by decide, by decide⟩ (Nat.le_of_ble_eq_true rfl) dX7_readPerson_20 (fun y hy => c_X7_fails hE hL y hy) (fun x22 => ?_)
  refine S_gd fun h23 => ?_
  exact S_zret dX7_readPerson_23 rfl h23 (by decide) (by decide) (fun K hK => hK)
theorem dX7_readSun_0 : decode cX7_readSun 0 = .ok (.aload_n 0, 1) := by decide +kernel
theorem dX7_readSun_1 : decode cX7_readSun 1 = .ok (.getfield 29, 3) := by decide +kernel
theorem dX7_readSun_4 : decode cX7_readSun 4 = .ok (.getfield 162, 3) := by decide +kernel
theorem dX7_readSun_7 : decode cX7_readSun 7 = .ok (.istore_n 1, 1) := by decide +kernel
theorem dX7_readSun_8 : decode cX7_readSun 8 = .ok (.iload_n 1, 1) := by decide +kernel
theorem dX7_readSun_9 : decode cX7_readSun 9 = .ok (.iconst 4, 1) := by decide +kernel
theorem dX7_readSun_10 : decode cX7_readSun 10 = .ok (.if_icmp .lt 9, 3) := by decide +kernel
theorem dX7_readSun_13 : decode cX7_readSun 13 = .ok (.aload_n 0, 1) := by decide +kernel
theorem dX7_readSun_14 : decode cX7_readSun 14 = .ok (.iconst 2, 1) := by decide +kernel
theorem dX7_readSun_15 : decode cX7_readSun 15 = .ok (.invokevirtual 75, 3) := by decide +kernel
theorem dX7_readSun_18 : decode cX7_readSun 18 = .ok (.ireturn, 1) := by decide +kernel
theorem dX7_readSun_19 : decode cX7_readSun 19 = .ok (.aload_n 0, 1) := by decide +kernel
theorem dX7_readSun_20 : decode cX7_readSun 20 = .ok (.getfield 14, 3) := by decide +kernel
theorem dX7_readSun_23 : decode cX7_readSun 23 = .ok (.invokevirtual 85, 3) := by decide +kernel
theorem dX7_readSun_26 : decode cX7_readSun 26 = .ok (.aload_n 0, 1) := by decide +kernel
theorem dX7_readSun_27 : decode cX7_readSun 27 = .ok (.invokevirtual 147, 3) := by decide +kernel
theorem dX7_readSun_30 : decode cX7_readSun 30 = .ok (.ifCond .ne 5, 3) := by decide +kernel
theorem dX7_readSun_33 : decode cX7_readSun 33 = .ok (.iconst 0, 1) := by decide +kernel
theorem dX7_readSun_34 : decode cX7_readSun 34 = .ok (.ireturn, 1) := by decide +kernel
theorem dX7_readSun_35 : decode cX7_readSun 35 = .ok (.aload_n 0, 1) := by decide +kernel
theorem dX7_readSun_36 : decode cX7_readSun 36 = .ok (.getfield 29, 3) := by decide +kernel
theorem dX7_readSun_39 : decode cX7_readSun 39 = .ok (.getfield 165, 3) := by decide +kernel
theorem dX7_readSun_42 : decode cX7_readSun 42 = .ok (.iload_n 1, 1) := by decide +kernel
theorem dX7_readSun_43 : decode cX7_readSun 43 = .ok (.aload_n 0, 1) := by decide +kernel
theorem dX7_readSun_44 : decode cX7_readSun 44 = .ok (.getfield 119, 3) := by decide +kernel
theorem dX7_readSun_47 : decode cX7_readSun 47 = .ok (.iastore, 1) := by decide +kernel
theorem dX7_readSun_48 : decode cX7_readSun 48 = .ok (.aload_n 0, 1) := by decide +kernel
theorem dX7_readSun_49 : decode cX7_readSun 49 = .ok (.aload_n 0, 1) := by decide +kernel
theorem dX7_readSun_50 : decode cX7_readSun 50 = .ok (.getfield 29, 3) := by decide +kernel
theorem dX7_readSun_53 : decode cX7_readSun 53 = .ok (.getfield 168, 3) := by decide +kernel
theorem dX7_readSun_56 : decode cX7_readSun 56 = .ok (.iload_n 1, 1) := by decide +kernel
theorem dX7_readSun_57 : decode cX7_readSun 57 = .ok (.bipush 23, 2) := by decide +kernel
theorem dX7_readSun_59 : decode cX7_readSun 59 = .ok (.invokevirtual 129, 3) := by decide +kernel
theorem dX7_readSun_62 : decode cX7_readSun 62 = .ok (.ifCond .eq 24, 3) := by decide +kernel
theorem dX7_readSun_65 : decode cX7_readSun 65 = .ok (.aload_n 0, 1) := by decide +kernel
theorem dX7_readSun_66 : decode cX7_readSun 66 = .ok (.aload_n 0, 1) := by decide +kernel
theorem dX7_readSun_67 : decode cX7_readSun 67 = .ok (.getfield 29, 3) := by decide +kernel
theorem dX7_readSun_70 : decode cX7_readSun 70 = .ok (.getfield 171, 3) := by decide +kernel
theorem dX7_readSun_73 : decode cX7_readSun 73 = .ok (.iload_n 1, 1) := by decide +kernel
theorem dX7_readSun_74 : decode cX7_readSun 74 = .ok (.bipush 99, 2) := by decide +kernel
theorem dX7_readSun_76 : decode cX7_readSun 76 = .ok (.invokevirtual 129, 3) := by decide +kernel
theorem dX7_readSun_79 : decode cX7_readSun 79 = .ok (.ifCond .eq 7, 3) := by decide +kernel
theorem dX7_readSun_82 : decode cX7_readSun 82 = .ok (.iconst 1, 1) := by decide +kernel
theorem dX7_readSun_83 : decode cX7_readSun 83 = .ok (.goto 4, 3) := by decide +kernel
theorem dX7_readSun_86 : decode cX7_readSun 86 = .ok (.iconst 0, 1) := by decide +kernel
theorem dX7_readSun_87 : decode cX7_readSun 87 = .ok (.istore_n 2, 1) := by decide +kernel
theorem dX7_readSun_88 : decode cX7_readSun 88 = .ok (.iload_n 2, 1) := by decide +kernel
theorem dX7_readSun_89 : decode cX7_readSun 89 = .ok (.ifCond .eq 16, 3) := by decide +kernel
theorem dX7_readSun_92 : decode cX7_readSun 92 = .ok (.aload_n 0, 1) := by decide +kernel
theorem dX7_readSun_93 : decode cX7_readSun 93 = .ok (.getfield 29, 3) := by decide +kernel
theorem dX7_readSun_96 : decode cX7_readSun 96 = .ok (.dup, 1) := by decide +kernel
theorem dX7_readSun_97 : decode cX7_readSun 97 = .ok (.getfield 162, 3) := by decide +kernel
theorem dX7_readSun_100 : decode cX7_readSun 100 = .ok (.iconst 1, 1) := by decide +kernel
theorem dX7_readSun_101 : decode cX7_readSun 101 = .ok (.iadd, 1) := by decide +kernel
theorem dX7_readSun_102 : decode cX7_readSun 102 = .ok (.putfield 162, 3) := by decide +kernel
theorem dX7_readSun_105 : decode cX7_readSun 105 = .ok (.iload_n 2, 1) := by decide +kernel
theorem dX7_readSun_106 : decode cX7_readSun 106 = .ok (.ireturn, 1) := by decide +kernel
def f_X7_readSun (M : MM)  : Option (Int × MM) :=
gH (M 2 2) fun b1 =>
bI (M b1 3) fun x2 =>
if x2 < 4 then
((f_X9_advance M).bind fun x4 =>
(f_X7_readToldRoom x4).bind fun x5 =>
if x5.1 = 0 then
(some (0, x5.2))
else
gH (x5.2 2 2) fun b7 =>
gd (0 ≤ x2 ∧ x2 < (4 : Int)) <|
bM (upM x5.2 (b7 + 19) (x2).toNat (x5.2 2 4)) fun M9 =>
gH (M9 2 2) fun b10 =>
(f_X7_readInto M9 (b10 + 20) 4 x2 23).bind fun x11 =>
((if x11.1 = 0 then
(some (0, x11.2))
else
gH (x11.2 2 2) fun b13 =>
(f_X7_readInto x11.2 (b13 + 21) 4 x2 99).bind fun x14 =>
if x14.1 = 0 then
(some (0, x14.2))
else
some (1, x14.2)) : Option (Int × MM)).bind fun x16 =>
if x16.1 = 0 then
(gd (x16.1 = 0 ∨ x16.1 = 1) <|
some (x16.1, x16.2))
else
gH (x16.2 2 2) fun b19 =>
bM (upM x16.2 b19 3 (w32 ((x16.2 b19 3) + 1))) fun M20 =>
gd (x16.1 = 0 ∨ x16.1 = 1) <|
some (x16.1, M20))
else
(f_X7_fails M 2).bind fun x22 =>
gd (x22.1 = 0 ∨ x22.1 = 1) <|
some (x22.1, x22.2)
set_option maxRecDepth 4000 in
theorem c_X7_readSun {E : EE} {sh : List (Nat × Nat)} {ex : Bool} {R : RM} {M : MM}  (hE : Ext sh) (hL : Links R) : ∀ y, f_X7_readSun M = some y → MetC E m_X7_readSun 0 0 [rV 2] (sh, ex, R, M) (fun r w' => r = some (iV y.1) ∧ w' = (sh, ex, R, y.2)) := by
  intro y hy
  refine MetC.seg (o := f_X7_readSun M) (t := (fun K y => K (some (iV y.1)) (sh, ex, R, y.2))) (L := [some (rV 2), none, none]) (by decide) rfl (Nat.le_of_ble_eq_true rfl) ?_ hy ⟨rfl, rfl⟩
  unfold f_X7_readSun
  refine Seg.step (pc' := 1) (I_aload_n (i := 0) dX7_readSun_0 rfl rfl) ?_
  refine S_gH fun b1 hb1 zb1 => ?_
  refine Seg.step (pc' := 4) (I_getH cls7 (by decide) wf_7_29 (hE _ _ sk_7) rfl zb1 (hkp hb1) dX7_readSun_1) ?_
  refine Seg.step (pc' := 7) (I_getI cls2 (by decide) wf_7_162 (hE _ _ (hks hb1)) rfl dX7_readSun_4) ?_
  refine S_bI fun x2 => ?_
  refine Seg.step (pc' := 8) (I_istore_n (i := 1) dX7_readSun_7 rfl (by decide) rfl) ?_
  refine Seg.step (pc' := 9) (I_iload_n (i := 1) dX7_readSun_8 rfl rfl) ?_
  refine Seg.step (pc' := 10) (I_iconst dX7_readSun_9 ⟨by decide, by decide⟩) ?_
  refine S_icmp_lt (tgt := 19) dX7_readSun_10 (by decide) (fun h3 => ?_) (fun h3 => ?_)
  · refine Seg.step (pc' := 20) (I_aload_n (i := 0) dX7_readSun_19 rfl rfl) ?_
    refine Seg.step (pc' := 23) (I_getR cls7 (by decide) wf_7_14 (hE _ _ sk_7) rfl (lk_7_0 hL) dX7_readSun_20) ?_
    refine S_callV0 (md' := m_X9_advance) (fun y => none) (fun y => (sh, ex, R, y)) (hE _ _ sk_7_0) ⟨by decide, rfl⟩ mm_X9_advance wm_7_85 ⟨rfl, rfl, by decide, by decide, by decide, by decide⟩ (Nat.le_of_ble_eq_true rfl) dX7_readSun_23 (fun y hy => c_X9_advance hE hL y hy) (fun x4 => ?_)
    refine Seg.step (pc' := 27) (I_aload_n (i := 0) dX7_readSun_26 rfl rfl) ?_
    refine S_callV0 (md' := m_X7_readToldRoom) (fun y => some (iV y.1)) (fun y => (sh, ex, R, y.2)) (hE _ _ sk_7) ⟨by decide, rfl⟩ mm_X7_readToldRoom wm_7_147 ⟨rfl, rfl, by decide, by decide, by decide, by decide⟩ (Nat.le_of_ble_eq_true rfl) dX7_readSun_27 (fun y hy => c_X7_readToldRoom hE hL y hy) (fun x5 => ?_)
    refine S_if_ne (tgt := 35) dX7_readSun_30 (by decide) (fun h6 => ?_) (fun h6 => ?_)
    · refine Seg.step (pc' := 34) (I_iconst dX7_readSun_33 ⟨by decide, by decide⟩) ?_
      exact S_zret dX7_readSun_34 rfl (by decide) (by decide) (by decide) (fun K hK => hK)
    refine Seg.step (pc' := 36) (I_aload_n (i := 0) dX7_readSun_35 rfl rfl) ?_
    refine S_gH fun b7 hb7 zb7 => ?_
    refine Seg.step (pc' := 39) (I_getH cls7 (by decide) wf_7_29 (hE _ _ sk_7) rfl zb7 (hkp hb7) dX7_readSun_36) ?_
    refine Seg.step (pc' := 42) (I_getR cls2 (by decide) wf_7_165 (hE _ _ (hks hb7)) rfl (lk_2_4 hL (hks hb7)) dX7_readSun_39) ?_
    refine Seg.step (pc' := 43) (I_iload_n (i := 1) dX7_readSun_42 rfl rfl) ?_
    refine Seg.step (pc' := 44) (I_aload_n (i := 0) dX7_readSun_43 rfl rfl) ?_
    refine Seg.step (pc' := 47) (I_getI cls7 (by decide) wf_7_119 (hE _ _ sk_7) rfl dX7_readSun_44) ?_
    refine S_gd fun h8 => ?_
    refine Seg.step (pc' := 48) (I_iast (hE _ _ (sk_2_4 (hks hb7))) h8 dX7_readSun_47) ?_
    refine S_bM fun M9 => ?_
    refine Seg.step (pc' := 49) (I_aload_n (i := 0) dX7_readSun_48 rfl rfl) ?_
    refine Seg.step (pc' := 50) (I_aload_n (i := 0) dX7_readSun_49 rfl rfl) ?_
    refine S_gH fun b10 hb10 zb10 => ?_
    refine Seg.step (pc' := 53) (I_getH cls7 (by decide) wf_7_29 (hE _ _ sk_7) rfl zb10 (hkp hb10) dX7_readSun_50) ?_
    refine Seg.step (pc' := 56) (I_getR cls2 (by decide) wf_7_168 (hE _ _ (hks hb10)) rfl (lk_2_5 hL (hks hb10)) dX7_readSun_53) ?_
    refine Seg.step (pc' := 57) (I_iload_n (i := 1) dX7_readSun_56 rfl rfl) ?_
    refine Seg.step (pc' := 59) (I_bipush dX7_readSun_57 (by decide) ⟨by decide, by decide⟩) ?_
    refine S_callV3 (md' := m_X7_readInto) (fun y => some (iV y.1)) (fun y => (sh, ex, R, y.2)) (hE _ _ sk_7) ⟨by decide, rfl⟩ mm_X7_readInto wm_7_129 ⟨rfl, rfl, by decide, by decide, by decide, by decide⟩ (Nat.le_of_ble_eq_true rfl) dX7_readSun_59 (fun y hy => c_X7_readInto hE hL (sk_2_5 (hks hb10)) y hy) (fun x11 => ?_)
    refine S_bind (Y := Int × MM) (k' := 0) (n' := 0) 87 (fun y => [some (rV 2), none, none]) (fun y => [iV y.1]) (fun y => (sh, ex, R, y.2)) ?_ (fun x16 => ?_)
    · refine S_if_eq (tgt := 86) dX7_readSun_62 (by decide) (fun h12 => ?_) (fun h12 => ?_)
      · refine Seg.step (pc' := 87) (I_iconst dX7_readSun_86 ⟨by decide, by decide⟩) ?_
        exact S_arr (fun K hK => GG.forget (Lle.ye (Lle.no (Lle.no (Lle.nil)))) hK)
      refine Seg.step (pc' := 66) (I_aload_n (i := 0) dX7_readSun_65 rfl rfl) ?_
      refine Seg.step (pc' := 67) (I_aload_n (i := 0) dX7_readSun_66 rfl rfl) ?_
      refine S_gH fun b13 hb13 zb13 => ?_
      refine Seg.step (pc' := 70) (I_getH cls7 (by decide) wf_7_29 (hE _ _ sk_7) rfl zb13 (hkp hb13) dX7_readSun_67) ?_
      refine Seg.step (pc' := 73) (I_getR cls2 (by decide) wf_7_171 (hE _ _ (hks hb13)) rfl (lk_2_6 hL (hks hb13)) dX7_readSun_70) ?_
      refine Seg.step (pc' := 74) (I_iload_n (i := 1) dX7_readSun_73 rfl rfl) ?_
      refine Seg.step (pc' := 76) (I_bipush dX7_readSun_74 (by decide) ⟨by decide, by decide⟩) ?_
      refine S_callV3 (md' := m_X7_readInto) (fun y => some (iV y.1)) (fun y => (sh, ex, R, y.2)) (hE _ _ sk_7) ⟨by decide, rfl⟩ mm_X7_readInto wm_7_129 ⟨rfl, rfl, by decide, by decide, by decide, by decide⟩ (Nat.le_of_ble_eq_true rfl) dX7_readSun_76 (fun y hy => c_X7_readInto hE hL (sk_2_6 (hks hb13)) y hy) (fun x14 => ?_)
      refine S_if_eq (tgt := 86) dX7_readSun_79 (by decide) (fun h15 => ?_) (fun h15 => ?_)
      · refine Seg.step (pc' := 87) (I_iconst dX7_readSun_86 ⟨by decide, by decide⟩) ?_
        exact S_arr (fun K hK => GG.forget (Lle.ye (Lle.no (Lle.no (Lle.nil)))) hK)
      refine Seg.step (pc' := 83) (I_iconst dX7_readSun_82 ⟨by decide, by decide⟩) ?_
      refine Seg.step (pc' := 87) (I_goto (tgt := 87) dX7_readSun_83 (by decide)) ?_
      exact S_arr (fun K hK => GG.forget (Lle.ye (Lle.no (Lle.no (Lle.nil)))) hK)
    refine Seg.step (pc' := 88) (I_istore_n (i := 2) dX7_readSun_87 rfl (by decide) rfl) ?_
    refine Seg.step (pc' := 89) (I_iload_n (i := 2) dX7_readSun_88 rfl rfl) ?_
    refine S_if_eq (tgt := 105) dX7_readSun_89 (by decide) (fun h17 => ?_) (fun h17 => ?_)
    · refine Seg.step (pc' := 106) (I_iload_n (i := 2) dX7_readSun_105 rfl rfl) ?_
      refine S_gd fun h18 => ?_
      exact S_zret dX7_readSun_106 rfl h18 (by decide) (by decide) (fun K hK => hK)
    refine Seg.step (pc' := 93) (I_aload_n (i := 0) dX7_readSun_92 rfl rfl) ?_
    refine S_gH fun b19 hb19 zb19 => ?_
    refine Seg.step (pc' := 96) (I_getH cls7 (by decide) wf_7_29 (hE _ _ sk_7) rfl zb19 (hkp hb19) dX7_readSun_93) ?_
    refine Seg.step (pc' := 97) (I_dup dX7_readSun_96 (fun _ h => by cases h)) ?_
    refine Seg.step (pc' := 100) (I_getI cls2 (by decide) wf_7_162 (hE _ _ (hks hb19)) rfl dX7_readSun_97) ?_
    refine Seg.step (pc' := 101) (I_iconst dX7_readSun_100 ⟨by decide, by decide⟩) ?_
    refine Seg.step (pc' := 102) (I_iadd dX7_readSun_101) ?_
    refine Seg.step (pc' := 105) (I_putI cls2 (by decide) wf_7_162 (hE _ _ (hks hb19)) rfl rfl dX7_readSun_102) ?_
    refine S_bM fun M20 => ?_
    refine Seg.step (pc' := 106) (I_iload_n (i := 2) dX7_readSun_105 rfl rfl) ?_
    refine S_gd fun h21 => ?_
    exact S_zret dX7_readSun_106 rfl h21 (by decide) (by decide) (fun K hK => hK)
  refine Seg.step (pc' := 14) (I_aload_n (i := 0) dX7_readSun_13 rfl rfl) ?_
  refine Seg.step (pc' := 15) (I_iconst dX7_readSun_14 ⟨by decide, by decide⟩) ?_
  refine S_callV1 (md' := m_X7_fails) (fun y => some (iV y.1)) (fun y => (sh, ex, R, y.2)) (hE _ _ sk_7) ⟨by decide, rfl⟩ mm_X7_fails wm_7_75 ⟨rfl, rfl, by decide, by decide, by decide, by decide⟩ (Nat.le_of_ble_eq_true rfl) dX7_readSun_15 (fun y hy => c_X7_fails hE hL y hy) (fun x22 => ?_)
  refine S_gd fun h23 => ?_
  exact S_zret dX7_readSun_18 rfl h23 (by decide) (by decide) (fun K hK => hK)
theorem dX7_readOut_0 : decode cX7_readOut 0 = .ok (.aload_n 0, 1) := by decide +kernel
theorem dX7_readOut_1 : decode cX7_readOut 1 = .ok (.getfield 29, 3) := by decide +kernel
theorem dX7_readOut_4 : decode cX7_readOut 4 = .ok (.getfield 174, 3) := by decide +kernel
theorem dX7_readOut_7 : decode cX7_readOut 7 = .ok (.istore_n 1, 1) := by decide +kernel
theorem dX7_readOut_8 : decode cX7_readOut 8 = .ok (.iload_n 1, 1) := by decide +kernel
theorem dX7_readOut_9 : decode cX7_readOut 9 = .ok (.bipush 8, 2) := by decide +kernel
theorem dX7_readOut_11 : decode cX7_readOut 11 = .ok (.if_icmp .lt 9, 3) := by decide +kernel
theorem dX7_readOut_14 : decode cX7_readOut 14 = .ok (.aload_n 0, 1) := by decide +kernel
theorem dX7_readOut_15 : decode cX7_readOut 15 = .ok (.iconst 2, 1) := by decide +kernel
theorem dX7_readOut_16 : decode cX7_readOut 16 = .ok (.invokevirtual 75, 3) := by decide +kernel
theorem dX7_readOut_19 : decode cX7_readOut 19 = .ok (.ireturn, 1) := by decide +kernel
theorem dX7_readOut_20 : decode cX7_readOut 20 = .ok (.aload_n 0, 1) := by decide +kernel
theorem dX7_readOut_21 : decode cX7_readOut 21 = .ok (.getfield 14, 3) := by decide +kernel
theorem dX7_readOut_24 : decode cX7_readOut 24 = .ok (.invokevirtual 85, 3) := by decide +kernel
theorem dX7_readOut_27 : decode cX7_readOut 27 = .ok (.aload_n 0, 1) := by decide +kernel
theorem dX7_readOut_28 : decode cX7_readOut 28 = .ok (.aload_n 0, 1) := by decide +kernel
theorem dX7_readOut_29 : decode cX7_readOut 29 = .ok (.getfield 29, 3) := by decide +kernel
theorem dX7_readOut_32 : decode cX7_readOut 32 = .ok (.getfield 177, 3) := by decide +kernel
theorem dX7_readOut_35 : decode cX7_readOut 35 = .ok (.iload_n 1, 1) := by decide +kernel
theorem dX7_readOut_36 : decode cX7_readOut 36 = .ok (.sipush 400, 3) := by decide +kernel
theorem dX7_readOut_39 : decode cX7_readOut 39 = .ok (.invokevirtual 129, 3) := by decide +kernel
theorem dX7_readOut_42 : decode cX7_readOut 42 = .ok (.istore_n 2, 1) := by decide +kernel
theorem dX7_readOut_43 : decode cX7_readOut 43 = .ok (.iload_n 2, 1) := by decide +kernel
theorem dX7_readOut_44 : decode cX7_readOut 44 = .ok (.ifCond .eq 16, 3) := by decide +kernel
theorem dX7_readOut_47 : decode cX7_readOut 47 = .ok (.aload_n 0, 1) := by decide +kernel
theorem dX7_readOut_48 : decode cX7_readOut 48 = .ok (.getfield 29, 3) := by decide +kernel
theorem dX7_readOut_51 : decode cX7_readOut 51 = .ok (.dup, 1) := by decide +kernel
theorem dX7_readOut_52 : decode cX7_readOut 52 = .ok (.getfield 174, 3) := by decide +kernel
theorem dX7_readOut_55 : decode cX7_readOut 55 = .ok (.iconst 1, 1) := by decide +kernel
theorem dX7_readOut_56 : decode cX7_readOut 56 = .ok (.iadd, 1) := by decide +kernel
theorem dX7_readOut_57 : decode cX7_readOut 57 = .ok (.putfield 174, 3) := by decide +kernel
theorem dX7_readOut_60 : decode cX7_readOut 60 = .ok (.iload_n 2, 1) := by decide +kernel
theorem dX7_readOut_61 : decode cX7_readOut 61 = .ok (.ireturn, 1) := by decide +kernel
def f_X7_readOut (M : MM)  : Option (Int × MM) :=
gH (M 2 2) fun b1 =>
bI (M b1 7) fun x2 =>
if x2 < 8 then
((f_X9_advance M).bind fun x4 =>
gH (x4 2 2) fun b5 =>
(f_X7_readInto x4 (b5 + 22) 8 x2 400).bind fun x6 =>
if x6.1 = 0 then
(gd (x6.1 = 0 ∨ x6.1 = 1) <|
some (x6.1, x6.2))
else
gH (x6.2 2 2) fun b9 =>
bM (upM x6.2 b9 7 (w32 ((x6.2 b9 7) + 1))) fun M10 =>
gd (x6.1 = 0 ∨ x6.1 = 1) <|
some (x6.1, M10))
else
(f_X7_fails M 2).bind fun x12 =>
gd (x12.1 = 0 ∨ x12.1 = 1) <|
some (x12.1, x12.2)
set_option maxRecDepth 4000 in
theorem c_X7_readOut {E : EE} {sh : List (Nat × Nat)} {ex : Bool} {R : RM} {M : MM}  (hE : Ext sh) (hL : Links R) : ∀ y, f_X7_readOut M = some y → MetC E m_X7_readOut 0 0 [rV 2] (sh, ex, R, M) (fun r w' => r = some (iV y.1) ∧ w' = (sh, ex, R, y.2)) := by
  intro y hy
  refine MetC.seg (o := f_X7_readOut M) (t := (fun K y => K (some (iV y.1)) (sh, ex, R, y.2))) (L := [some (rV 2), none, none]) (by decide) rfl (Nat.le_of_ble_eq_true rfl) ?_ hy ⟨rfl, rfl⟩
  unfold f_X7_readOut
  refine Seg.step (pc' := 1) (I_aload_n (i := 0) dX7_readOut_0 rfl rfl) ?_
  refine S_gH fun b1 hb1 zb1 => ?_
  refine Seg.step (pc' := 4) (I_getH cls7 (by decide) wf_7_29 (hE _ _ sk_7) rfl zb1 (hkp hb1) dX7_readOut_1) ?_
  refine Seg.step (pc' := 7) (I_getI cls2 (by decide) wf_7_174 (hE _ _ (hks hb1)) rfl dX7_readOut_4) ?_
  refine S_bI fun x2 => ?_
  refine Seg.step (pc' := 8) (I_istore_n (i := 1) dX7_readOut_7 rfl (by decide) rfl) ?_
  refine Seg.step (pc' := 9) (I_iload_n (i := 1) dX7_readOut_8 rfl rfl) ?_
  refine Seg.step (pc' := 11) (I_bipush dX7_readOut_9 (by decide) ⟨by decide, by decide⟩) ?_
  refine S_icmp_lt (tgt := 20) dX7_readOut_11 (by decide) (fun h3 => ?_) (fun h3 => ?_)
  · refine Seg.step (pc' := 21) (I_aload_n (i := 0) dX7_readOut_20 rfl rfl) ?_
    refine Seg.step (pc' := 24) (I_getR cls7 (by decide) wf_7_14 (hE _ _ sk_7) rfl (lk_7_0 hL) dX7_readOut_21) ?_
    refine S_callV0 (md' := m_X9_advance) (fun y => none) (fun y => (sh, ex, R, y)) (hE _ _ sk_7_0) ⟨by decide, rfl⟩ mm_X9_advance wm_7_85 ⟨rfl, rfl, by decide, by decide, by decide, by decide⟩ (Nat.le_of_ble_eq_true rfl) dX7_readOut_24 (fun y hy => c_X9_advance hE hL y hy) (fun x4 => ?_)
    refine Seg.step (pc' := 28) (I_aload_n (i := 0) dX7_readOut_27 rfl rfl) ?_
    refine Seg.step (pc' := 29) (I_aload_n (i := 0) dX7_readOut_28 rfl rfl) ?_
    refine S_gH fun b5 hb5 zb5 => ?_
    refine Seg.step (pc' := 32) (I_getH cls7 (by decide) wf_7_29 (hE _ _ sk_7) rfl zb5 (hkp hb5) dX7_readOut_29) ?_
    refine Seg.step (pc' := 35) (I_getR cls2 (by decide) wf_7_177 (hE _ _ (hks hb5)) rfl (lk_2_8 hL (hks hb5)) dX7_readOut_32) ?_
    refine Seg.step (pc' := 36) (I_iload_n (i := 1) dX7_readOut_35 rfl rfl) ?_
    refine Seg.step (pc' := 39) (I_sipush dX7_readOut_36 (by decide) ⟨by decide, by decide⟩) ?_
    refine S_callV3 (md' := m_X7_readInto) (fun y => some (iV y.1)) (fun y => (sh, ex, R, y.2)) (hE _ _ sk_7) ⟨by decide, rfl⟩ mm_X7_readInto wm_7_129 ⟨rfl, rfl, by decide, by decide, by decide, by decide⟩ (Nat.le_of_ble_eq_true rfl) dX7_readOut_39 (fun y hy => c_X7_readInto hE hL (sk_2_8 (hks hb5)) y hy) (fun x6 => ?_)
    refine Seg.step (pc' := 43) (I_istore_n (i := 2) dX7_readOut_42 rfl (by decide) rfl) ?_
    refine Seg.step (pc' := 44) (I_iload_n (i := 2) dX7_readOut_43 rfl rfl) ?_
    refine S_if_eq (tgt := 60) dX7_readOut_44 (by decide) (fun h7 => ?_) (fun h7 => ?_)
    · refine Seg.step (pc' := 61) (I_iload_n (i := 2) dX7_readOut_60 rfl rfl) ?_
      refine S_gd fun h8 => ?_
      exact S_zret dX7_readOut_61 rfl h8 (by decide) (by decide) (fun K hK => hK)
    refine Seg.step (pc' := 48) (I_aload_n (i := 0) dX7_readOut_47 rfl rfl) ?_
    refine S_gH fun b9 hb9 zb9 => ?_
    refine Seg.step (pc' := 51) (I_getH cls7 (by decide) wf_7_29 (hE _ _ sk_7) rfl zb9 (hkp hb9) dX7_readOut_48) ?_
    refine Seg.step (pc' := 52) (I_dup dX7_readOut_51 (fun _ h => by cases h)) ?_
    refine Seg.step (pc' := 55) (I_getI cls2 (by decide) wf_7_174 (hE _ _ (hks hb9)) rfl dX7_readOut_52) ?_
    refine Seg.step (pc' := 56) (I_iconst dX7_readOut_55 ⟨by decide, by decide⟩) ?_
    refine Seg.step (pc' := 57) (I_iadd dX7_readOut_56) ?_
    refine Seg.step (pc' := 60) (I_putI cls2 (by decide) wf_7_174 (hE _ _ (hks hb9)) rfl rfl dX7_readOut_57) ?_
    refine S_bM fun M10 => ?_
    refine Seg.step (pc' := 61) (I_iload_n (i := 2) dX7_readOut_60 rfl rfl) ?_
    refine S_gd fun h11 => ?_
    exact S_zret dX7_readOut_61 rfl h11 (by decide) (by decide) (fun K hK => hK)
  refine Seg.step (pc' := 15) (I_aload_n (i := 0) dX7_readOut_14 rfl rfl) ?_
  refine Seg.step (pc' := 16) (I_iconst dX7_readOut_15 ⟨by decide, by decide⟩) ?_
  refine S_callV1 (md' := m_X7_fails) (fun y => some (iV y.1)) (fun y => (sh, ex, R, y.2)) (hE _ _ sk_7) ⟨by decide, rfl⟩ mm_X7_fails wm_7_75 ⟨rfl, rfl, by decide, by decide, by decide, by decide⟩ (Nat.le_of_ble_eq_true rfl) dX7_readOut_16 (fun y hy => c_X7_fails hE hL y hy) (fun x12 => ?_)
  refine S_gd fun h13 => ?_
  exact S_zret dX7_readOut_19 rfl h13 (by decide) (by decide) (fun K hK => hK)
theorem dX7_readKnob_0 : decode cX7_readKnob 0 = .ok (.aload_n 0, 1) := by decide +kernel
theorem dX7_readKnob_1 : decode cX7_readKnob 1 = .ok (.getfield 29, 3) := by decide +kernel
theorem dX7_readKnob_4 : decode cX7_readKnob 4 = .ok (.getfield 180, 3) := by decide +kernel
theorem dX7_readKnob_7 : decode cX7_readKnob 7 = .ok (.ifCond .eq 9, 3) := by decide +kernel
theorem dX7_readKnob_10 : decode cX7_readKnob 10 = .ok (.aload_n 0, 1) := by decide +kernel
theorem dX7_readKnob_11 : decode cX7_readKnob 11 = .ok (.iconst 3, 1) := by decide +kernel
theorem dX7_readKnob_12 : decode cX7_readKnob 12 = .ok (.invokevirtual 75, 3) := by decide +kernel
theorem dX7_readKnob_15 : decode cX7_readKnob 15 = .ok (.ireturn, 1) := by decide +kernel
theorem dX7_readKnob_16 : decode cX7_readKnob 16 = .ok (.aload_n 0, 1) := by decide +kernel
theorem dX7_readKnob_17 : decode cX7_readKnob 17 = .ok (.getfield 14, 3) := by decide +kernel
theorem dX7_readKnob_20 : decode cX7_readKnob 20 = .ok (.invokevirtual 85, 3) := by decide +kernel
theorem dX7_readKnob_23 : decode cX7_readKnob 23 = .ok (.aload_n 0, 1) := by decide +kernel
theorem dX7_readKnob_24 : decode cX7_readKnob 24 = .ok (.iconst 5, 1) := by decide +kernel
theorem dX7_readKnob_25 : decode cX7_readKnob 25 = .ok (.bipush 30, 2) := by decide +kernel
theorem dX7_readKnob_27 : decode cX7_readKnob 27 = .ok (.invokevirtual 98, 3) := by decide +kernel
theorem dX7_readKnob_30 : decode cX7_readKnob 30 = .ok (.ifCond .ne 5, 3) := by decide +kernel
theorem dX7_readKnob_33 : decode cX7_readKnob 33 = .ok (.iconst 0, 1) := by decide +kernel
theorem dX7_readKnob_34 : decode cX7_readKnob 34 = .ok (.ireturn, 1) := by decide +kernel
theorem dX7_readKnob_35 : decode cX7_readKnob 35 = .ok (.aload_n 0, 1) := by decide +kernel
theorem dX7_readKnob_36 : decode cX7_readKnob 36 = .ok (.getfield 29, 3) := by decide +kernel
theorem dX7_readKnob_39 : decode cX7_readKnob 39 = .ok (.aload_n 0, 1) := by decide +kernel
theorem dX7_readKnob_40 : decode cX7_readKnob 40 = .ok (.getfield 95, 3) := by decide +kernel
theorem dX7_readKnob_43 : decode cX7_readKnob 43 = .ok (.putfield 184, 3) := by decide +kernel
theorem dX7_readKnob_46 : decode cX7_readKnob 46 = .ok (.aload_n 0, 1) := by decide +kernel
theorem dX7_readKnob_47 : decode cX7_readKnob 47 = .ok (.invokevirtual 147, 3) := by decide +kernel
theorem dX7_readKnob_50 : decode cX7_readKnob 50 = .ok (.ifCond .ne 5, 3) := by decide +kernel
theorem dX7_readKnob_53 : decode cX7_readKnob 53 = .ok (.iconst 0, 1) := by decide +kernel
theorem dX7_readKnob_54 : decode cX7_readKnob 54 = .ok (.ireturn, 1) := by decide +kernel
theorem dX7_readKnob_55 : decode cX7_readKnob 55 = .ok (.aload_n 0, 1) := by decide +kernel
theorem dX7_readKnob_56 : decode cX7_readKnob 56 = .ok (.getfield 29, 3) := by decide +kernel
theorem dX7_readKnob_59 : decode cX7_readKnob 59 = .ok (.aload_n 0, 1) := by decide +kernel
theorem dX7_readKnob_60 : decode cX7_readKnob 60 = .ok (.getfield 119, 3) := by decide +kernel
theorem dX7_readKnob_63 : decode cX7_readKnob 63 = .ok (.putfield 187, 3) := by decide +kernel
theorem dX7_readKnob_66 : decode cX7_readKnob 66 = .ok (.aload_n 0, 1) := by decide +kernel
theorem dX7_readKnob_67 : decode cX7_readKnob 67 = .ok (.getfield 29, 3) := by decide +kernel
theorem dX7_readKnob_70 : decode cX7_readKnob 70 = .ok (.iconst 1, 1) := by decide +kernel
theorem dX7_readKnob_71 : decode cX7_readKnob 71 = .ok (.putfield 180, 3) := by decide +kernel
theorem dX7_readKnob_74 : decode cX7_readKnob 74 = .ok (.iconst 1, 1) := by decide +kernel
theorem dX7_readKnob_75 : decode cX7_readKnob 75 = .ok (.ireturn, 1) := by decide +kernel
def f_X7_readKnob (M : MM)  : Option (Int × MM) :=
gH (M 2 2) fun b1 =>
if (M b1 12) = 0 then
((f_X9_advance M).bind fun x3 =>
(f_X7_readNumber x3 5 30).bind fun x4 =>
if x4.1 = 0 then
(some (0, x4.2))
else
gH (x4.2 2 2) fun b6 =>
bM (upM x4.2 b6 9 (x4.2 2 3)) fun M7 =>
(f_X7_readToldRoom M7).bind fun x8 =>
if x8.1 = 0 then
(some (0, x8.2))
else
gH (x8.2 2 2) fun b10 =>
bM (upM x8.2 b10 10 (x8.2 2 4)) fun M11 =>
gH (M11 2 2) fun b12 =>
bM (upM M11 b12 12 1) fun M13 =>
some (1, M13))
else
(f_X7_fails M 3).bind fun x14 =>
gd (x14.1 = 0 ∨ x14.1 = 1) <|
some (x14.1, x14.2)
set_option maxRecDepth 4000 in
theorem c_X7_readKnob {E : EE} {sh : List (Nat × Nat)} {ex : Bool} {R : RM} {M : MM}  (hE : Ext sh) (hL : Links R) : ∀ y, f_X7_readKnob M = some y → MetC E m_X7_readKnob 0 0 [rV 2] (sh, ex, R, M) (fun r w' => r = some (iV y.1) ∧ w' = (sh, ex, R, y.2)) := by
  intro y hy
  refine MetC.seg (o := f_X7_readKnob M) (t := (fun K y => K (some (iV y.1)) (sh, ex, R, y.2))) (L := [some (rV 2)]) (by decide) rfl (Nat.le_of_ble_eq_true rfl) ?_ hy ⟨rfl, rfl⟩
  unfold f_X7_readKnob
  refine Seg.step (pc' := 1) (I_aload_n (i := 0) dX7_readKnob_0 rfl rfl) ?_
  refine S_gH fun b1 hb1 zb1 => ?_
  refine Seg.step (pc' := 4) (I_getH cls7 (by decide) wf_7_29 (hE _ _ sk_7) rfl zb1 (hkp hb1) dX7_readKnob_1) ?_
  refine Seg.step (pc' := 7) (I_getZ cls2 (by decide) wf_7_180 (hE _ _ (hks hb1)) rfl dX7_readKnob_4) ?_
  refine S_if_eq (tgt := 16) dX7_readKnob_7 (by decide) (fun h2 => ?_) (fun h2 => ?_)
  · refine Seg.step (pc' := 17) (I_aload_n (i := 0) dX7_readKnob_16 rfl rfl) ?_
    refine Seg.step (pc' := 20) (I_getR cls7 (by decide) wf_7_14 (hE _ _ sk_7) rfl (lk_7_0 hL) dX7_readKnob_17) ?_
    refine S_callV0 (md' := m_X9_advance) (fun y => none) (fun y => (sh, ex, R, y)) (hE _ _ sk_7_0) ⟨by decide, rfl⟩ mm_X9_advance wm_7_85 ⟨rfl, rfl, by decide, by decide, by decide, by decide⟩ (Nat.le_of_ble_eq_true rfl) dX7_readKnob_20 (fun y hy => c_X9_advance hE hL y hy) (fun x3 => ?_)
    refine Seg.step (pc' := 24) (I_aload_n (i := 0) dX7_readKnob_23 rfl rfl) ?_
    refine Seg.step (pc' := 25) (I_iconst dX7_readKnob_24 ⟨by decide, by decide⟩) ?_
    refine Seg.step (pc' := 27) (I_bipush dX7_readKnob_25 (by decide) ⟨by decide, by decide⟩) ?_
    refine S_callV2 (md' := m_X7_readNumber) (fun y => some (iV y.1)) (fun y => (sh, ex, R, y.2)) (hE _ _ sk_7) ⟨by decide, rfl⟩ mm_X7_readNumber wm_7_98 ⟨rfl, rfl, by decide, by decide, by decide, by decide⟩ (Nat.le_of_ble_eq_true rfl) dX7_readKnob_27 (fun y hy => c_X7_readNumber hE hL y hy) (fun x4 => ?_)
    refine S_if_ne (tgt := 35) dX7_readKnob_30 (by decide) (fun h5 => ?_) (fun h5 => ?_)
    · refine Seg.step (pc' := 34) (I_iconst dX7_readKnob_33 ⟨by decide, by decide⟩) ?_
      exact S_zret dX7_readKnob_34 rfl (by decide) (by decide) (by decide) (fun K hK => hK)
    refine Seg.step (pc' := 36) (I_aload_n (i := 0) dX7_readKnob_35 rfl rfl) ?_
    refine S_gH fun b6 hb6 zb6 => ?_
    refine Seg.step (pc' := 39) (I_getH cls7 (by decide) wf_7_29 (hE _ _ sk_7) rfl zb6 (hkp hb6) dX7_readKnob_36) ?_
    refine Seg.step (pc' := 40) (I_aload_n (i := 0) dX7_readKnob_39 rfl rfl) ?_
    refine Seg.step (pc' := 43) (I_getI cls7 (by decide) wf_7_95 (hE _ _ sk_7) rfl dX7_readKnob_40) ?_
    refine Seg.step (pc' := 46) (I_putI cls2 (by decide) wf_7_184 (hE _ _ (hks hb6)) rfl rfl dX7_readKnob_43) ?_
    refine S_bM fun M7 => ?_
    refine Seg.step (pc' := 47) (I_aload_n (i := 0) dX7_readKnob_46 rfl rfl) ?_
    refine S_callV0 (md' := m_X7_readToldRoom) (fun y => some (iV y.1)) (fun y => (sh, ex, R, y.2)) (hE _ _ sk_7) ⟨by decide, rfl⟩ mm_X7_readToldRoom wm_7_147 ⟨rfl, rfl, by decide, by decide, by decide, by decide⟩ (Nat.le_of_ble_eq_true rfl) dX7_readKnob_47 (fun y hy => c_X7_readToldRoom hE hL y hy) (fun x8 => ?_)
    refine S_if_ne (tgt := 55) dX7_readKnob_50 (by decide) (fun h9 => ?_) (fun h9 => ?_)
    · refine Seg.step (pc' := 54) (I_iconst dX7_readKnob_53 ⟨by decide, by decide⟩) ?_
      exact S_zret dX7_readKnob_54 rfl (by decide) (by decide) (by decide) (fun K hK => hK)
    refine Seg.step (pc' := 56) (I_aload_n (i := 0) dX7_readKnob_55 rfl rfl) ?_
    refine S_gH fun b10 hb10 zb10 => ?_
    refine Seg.step (pc' := 59) (I_getH cls7 (by decide) wf_7_29 (hE _ _ sk_7) rfl zb10 (hkp hb10) dX7_readKnob_56) ?_
    refine Seg.step (pc' := 60) (I_aload_n (i := 0) dX7_readKnob_59 rfl rfl) ?_
    refine Seg.step (pc' := 63) (I_getI cls7 (by decide) wf_7_119 (hE _ _ sk_7) rfl dX7_readKnob_60) ?_
    refine Seg.step (pc' := 66) (I_putI cls2 (by decide) wf_7_187 (hE _ _ (hks hb10)) rfl rfl dX7_readKnob_63) ?_
    refine S_bM fun M11 => ?_
    refine Seg.step (pc' := 67) (I_aload_n (i := 0) dX7_readKnob_66 rfl rfl) ?_
    refine S_gH fun b12 hb12 zb12 => ?_
    refine Seg.step (pc' := 70) (I_getH cls7 (by decide) wf_7_29 (hE _ _ sk_7) rfl zb12 (hkp hb12) dX7_readKnob_67) ?_
    refine Seg.step (pc' := 71) (I_iconst dX7_readKnob_70 ⟨by decide, by decide⟩) ?_
    refine Seg.step (pc' := 74) (I_putZ cls2 (by decide) wf_7_180 (hE _ _ (hks hb12)) rfl rfl (by decide) dX7_readKnob_71) ?_
    refine S_bM fun M13 => ?_
    refine Seg.step (pc' := 75) (I_iconst dX7_readKnob_74 ⟨by decide, by decide⟩) ?_
    exact S_zret dX7_readKnob_75 rfl (by decide) (by decide) (by decide) (fun K hK => hK)
  refine Seg.step (pc' := 11) (I_aload_n (i := 0) dX7_readKnob_10 rfl rfl) ?_
  refine Seg.step (pc' := 12) (I_iconst dX7_readKnob_11 ⟨by decide, by decide⟩) ?_
  refine S_callV1 (md' := m_X7_fails) (fun y => some (iV y.1)) (fun y => (sh, ex, R, y.2)) (hE _ _ sk_7) ⟨by decide, rfl⟩ mm_X7_fails wm_7_75 ⟨rfl, rfl, by decide, by decide, by decide, by decide⟩ (Nat.le_of_ble_eq_true rfl) dX7_readKnob_12 (fun y hy => c_X7_fails hE hL y hy) (fun x14 => ?_)
  refine S_gd fun h15 => ?_
  exact S_zret dX7_readKnob_15 rfl h15 (by decide) (by decide) (fun K hK => hK)
theorem dX7_readPrice_0 : decode cX7_readPrice 0 = .ok (.aload_n 0, 1) := by decide +kernel
theorem dX7_readPrice_1 : decode cX7_readPrice 1 = .ok (.getfield 29, 3) := by decide +kernel
theorem dX7_readPrice_4 : decode cX7_readPrice 4 = .ok (.getfield 190, 3) := by decide +kernel
theorem dX7_readPrice_7 : decode cX7_readPrice 7 = .ok (.ifCond .eq 9, 3) := by decide +kernel
theorem dX7_readPrice_10 : decode cX7_readPrice 10 = .ok (.aload_n 0, 1) := by decide +kernel
theorem dX7_readPrice_11 : decode cX7_readPrice 11 = .ok (.iconst 3, 1) := by decide +kernel
theorem dX7_readPrice_12 : decode cX7_readPrice 12 = .ok (.invokevirtual 75, 3) := by decide +kernel
theorem dX7_readPrice_15 : decode cX7_readPrice 15 = .ok (.ireturn, 1) := by decide +kernel
theorem dX7_readPrice_16 : decode cX7_readPrice 16 = .ok (.aload_n 0, 1) := by decide +kernel
theorem dX7_readPrice_17 : decode cX7_readPrice 17 = .ok (.getfield 14, 3) := by decide +kernel
theorem dX7_readPrice_20 : decode cX7_readPrice 20 = .ok (.invokevirtual 85, 3) := by decide +kernel
theorem dX7_readPrice_23 : decode cX7_readPrice 23 = .ok (.aload_n 0, 1) := by decide +kernel
theorem dX7_readPrice_24 : decode cX7_readPrice 24 = .ok (.iconst 0, 1) := by decide +kernel
theorem dX7_readPrice_25 : decode cX7_readPrice 25 = .ok (.bipush 99, 2) := by decide +kernel
theorem dX7_readPrice_27 : decode cX7_readPrice 27 = .ok (.invokevirtual 98, 3) := by decide +kernel
theorem dX7_readPrice_30 : decode cX7_readPrice 30 = .ok (.ifCond .ne 5, 3) := by decide +kernel
theorem dX7_readPrice_33 : decode cX7_readPrice 33 = .ok (.iconst 0, 1) := by decide +kernel
theorem dX7_readPrice_34 : decode cX7_readPrice 34 = .ok (.ireturn, 1) := by decide +kernel
theorem dX7_readPrice_35 : decode cX7_readPrice 35 = .ok (.aload_n 0, 1) := by decide +kernel
theorem dX7_readPrice_36 : decode cX7_readPrice 36 = .ok (.getfield 29, 3) := by decide +kernel
theorem dX7_readPrice_39 : decode cX7_readPrice 39 = .ok (.aload_n 0, 1) := by decide +kernel
theorem dX7_readPrice_40 : decode cX7_readPrice 40 = .ok (.getfield 95, 3) := by decide +kernel
theorem dX7_readPrice_43 : decode cX7_readPrice 43 = .ok (.putfield 193, 3) := by decide +kernel
theorem dX7_readPrice_46 : decode cX7_readPrice 46 = .ok (.aload_n 0, 1) := by decide +kernel
theorem dX7_readPrice_47 : decode cX7_readPrice 47 = .ok (.getfield 29, 3) := by decide +kernel
theorem dX7_readPrice_50 : decode cX7_readPrice 50 = .ok (.iconst 1, 1) := by decide +kernel
theorem dX7_readPrice_51 : decode cX7_readPrice 51 = .ok (.putfield 190, 3) := by decide +kernel
theorem dX7_readPrice_54 : decode cX7_readPrice 54 = .ok (.iconst 1, 1) := by decide +kernel
theorem dX7_readPrice_55 : decode cX7_readPrice 55 = .ok (.ireturn, 1) := by decide +kernel
def f_X7_readPrice (M : MM)  : Option (Int × MM) :=
gH (M 2 2) fun b1 =>
if (M b1 13) = 0 then
((f_X9_advance M).bind fun x3 =>
(f_X7_readNumber x3 0 99).bind fun x4 =>
if x4.1 = 0 then
(some (0, x4.2))
else
gH (x4.2 2 2) fun b6 =>
bM (upM x4.2 b6 11 (x4.2 2 3)) fun M7 =>
gH (M7 2 2) fun b8 =>
bM (upM M7 b8 13 1) fun M9 =>
some (1, M9))
else
(f_X7_fails M 3).bind fun x10 =>
gd (x10.1 = 0 ∨ x10.1 = 1) <|
some (x10.1, x10.2)
set_option maxRecDepth 4000 in
theorem c_X7_readPrice {E : EE} {sh : List (Nat × Nat)} {ex : Bool} {R : RM} {M : MM}  (hE : Ext sh) (hL : Links R) : ∀ y, f_X7_readPrice M = some y → MetC E m_X7_readPrice 0 0 [rV 2] (sh, ex, R, M) (fun r w' => r = some (iV y.1) ∧ w' = (sh, ex, R, y.2)) := by
  intro y hy
  refine MetC.seg (o := f_X7_readPrice M) (t := (fun K y => K (some (iV y.1)) (sh, ex, R, y.2))) (L := [some (rV 2)]) (by decide) rfl (Nat.le_of_ble_eq_true rfl) ?_ hy ⟨rfl, rfl⟩
  unfold f_X7_readPrice
  refine Seg.step (pc' := 1) (I_aload_n (i := 0) dX7_readPrice_0 rfl rfl) ?_
  refine S_gH fun b1 hb1 zb1 => ?_
  refine Seg.step (pc' := 4) (I_getH cls7 (by decide) wf_7_29 (hE _ _ sk_7) rfl zb1 (hkp hb1) dX7_readPrice_1) ?_
  refine Seg.step (pc' := 7) (I_getZ cls2 (by decide) wf_7_190 (hE _ _ (hks hb1)) rfl dX7_readPrice_4) ?_
  refine S_if_eq (tgt := 16) dX7_readPrice_7 (by decide) (fun h2 => ?_) (fun h2 => ?_)
  · refine Seg.step (pc' := 17) (I_aload_n (i := 0) dX7_readPrice_16 rfl rfl) ?_
    refine Seg.step (pc' := 20) (I_getR cls7 (by decide) wf_7_14 (hE _ _ sk_7) rfl (lk_7_0 hL) dX7_readPrice_17) ?_
    refine S_callV0 (md' := m_X9_advance) (fun y => none) (fun y => (sh, ex, R, y)) (hE _ _ sk_7_0) ⟨by decide, rfl⟩ mm_X9_advance wm_7_85 ⟨rfl, rfl, by decide, by decide, by decide, by decide⟩ (Nat.le_of_ble_eq_true rfl) dX7_readPrice_20 (fun y hy => c_X9_advance hE hL y hy) (fun x3 => ?_)
    refine Seg.step (pc' := 24) (I_aload_n (i := 0) dX7_readPrice_23 rfl rfl) ?_
    refine Seg.step (pc' := 25) (I_iconst dX7_readPrice_24 ⟨by decide, by decide⟩) ?_
    refine Seg.step (pc' := 27) (I_bipush dX7_readPrice_25 (by decide) ⟨by decide, by decide⟩) ?_
    refine S_callV2 (md' := m_X7_readNumber) (fun y => some (iV y.1)) (fun y => (sh, ex, R, y.2)) (hE _ _ sk_7) ⟨by decide, rfl⟩ mm_X7_readNumber wm_7_98 ⟨rfl, rfl, by decide, by decide, by decide, by decide⟩ (Nat.le_of_ble_eq_true rfl) dX7_readPrice_27 (fun y hy => c_X7_readNumber hE hL y hy) (fun x4 => ?_)
    refine S_if_ne (tgt := 35) dX7_readPrice_30 (by decide) (fun h5 => ?_) (fun h5 => ?_)
    · refine Seg.step (pc' := 34) (I_iconst dX7_readPrice_33 ⟨by decide, by decide⟩) ?_
      exact S_zret dX7_readPrice_34 rfl (by decide) (by decide) (by decide) (fun K hK => hK)
    refine Seg.step (pc' := 36) (I_aload_n (i := 0) dX7_readPrice_35 rfl rfl) ?_
    refine S_gH fun b6 hb6 zb6 => ?_
    refine Seg.step (pc' := 39) (I_getH cls7 (by decide) wf_7_29 (hE _ _ sk_7) rfl zb6 (hkp hb6) dX7_readPrice_36) ?_
    refine Seg.step (pc' := 40) (I_aload_n (i := 0) dX7_readPrice_39 rfl rfl) ?_
    refine Seg.step (pc' := 43) (I_getI cls7 (by decide) wf_7_95 (hE _ _ sk_7) rfl dX7_readPrice_40) ?_
    refine Seg.step (pc' := 46) (I_putI cls2 (by decide) wf_7_193 (hE _ _ (hks hb6)) rfl rfl dX7_readPrice_43) ?_
    refine S_bM fun M7 => ?_
    refine Seg.step (pc' := 47) (I_aload_n (i := 0) dX7_readPrice_46 rfl rfl) ?_
    refine S_gH fun b8 hb8 zb8 => ?_
    refine Seg.step (pc' := 50) (I_getH cls7 (by decide) wf_7_29 (hE _ _ sk_7) rfl zb8 (hkp hb8) dX7_readPrice_47) ?_
    refine Seg.step (pc' := 51) (I_iconst dX7_readPrice_50 ⟨by decide, by decide⟩) ?_
    refine Seg.step (pc' := 54) (I_putZ cls2 (by decide) wf_7_190 (hE _ _ (hks hb8)) rfl rfl (by decide) dX7_readPrice_51) ?_
    refine S_bM fun M9 => ?_
    refine Seg.step (pc' := 55) (I_iconst dX7_readPrice_54 ⟨by decide, by decide⟩) ?_
    exact S_zret dX7_readPrice_55 rfl (by decide) (by decide) (by decide) (fun K hK => hK)
  refine Seg.step (pc' := 11) (I_aload_n (i := 0) dX7_readPrice_10 rfl rfl) ?_
  refine Seg.step (pc' := 12) (I_iconst dX7_readPrice_11 ⟨by decide, by decide⟩) ?_
  refine S_callV1 (md' := m_X7_fails) (fun y => some (iV y.1)) (fun y => (sh, ex, R, y.2)) (hE _ _ sk_7) ⟨by decide, rfl⟩ mm_X7_fails wm_7_75 ⟨rfl, rfl, by decide, by decide, by decide, by decide⟩ (Nat.le_of_ble_eq_true rfl) dX7_readPrice_12 (fun y hy => c_X7_fails hE hL y hy) (fun x10 => ?_)
  refine S_gd fun h11 => ?_
  exact S_zret dX7_readPrice_15 rfl h11 (by decide) (by decide) (fun K hK => hK)
theorem dX9_isLaw_0 : decode cX9_isLaw 0 = .ok (.iload_n 0, 1) := by decide +kernel
theorem dX9_isLaw_1 : decode cX9_isLaw 1 = .ok (.sipush 307, 3) := by decide +kernel
theorem dX9_isLaw_4 : decode cX9_isLaw 4 = .ok (.if_icmp .lt 14, 3) := by decide +kernel
theorem dX9_isLaw_7 : decode cX9_isLaw 7 = .ok (.iload_n 0, 1) := by decide +kernel
theorem dX9_isLaw_8 : decode cX9_isLaw 8 = .ok (.sipush 310, 3) := by decide +kernel
theorem dX9_isLaw_11 : decode cX9_isLaw 11 = .ok (.if_icmp .ge 7, 3) := by decide +kernel
theorem dX9_isLaw_14 : decode cX9_isLaw 14 = .ok (.iconst 1, 1) := by decide +kernel
theorem dX9_isLaw_15 : decode cX9_isLaw 15 = .ok (.goto 4, 3) := by decide +kernel
theorem dX9_isLaw_18 : decode cX9_isLaw 18 = .ok (.iconst 0, 1) := by decide +kernel
theorem dX9_isLaw_19 : decode cX9_isLaw 19 = .ok (.ireturn, 1) := by decide +kernel
def f_X9_isLaw (M : MM) (p1 : Int) : Option (Int) :=
if p1 < 307 then
(some 0)
else
if p1 < 310 then
(some 1)
else
some 0
set_option maxRecDepth 4000 in
theorem c_X9_isLaw {E : EE} {sh : List (Nat × Nat)} {ex : Bool} {R : RM} {M : MM} {p1 : Int} (hE : Ext sh) (hL : Links R) : ∀ y, f_X9_isLaw M p1 = some y → MetC E m_X9_isLaw 0 0 [iV p1] (sh, ex, R, M) (fun r w' => r = some (iV y) ∧ w' = (sh, ex, R, M)) := by
  intro y hy
  refine MetC.seg (o := f_X9_isLaw M p1) (t := (fun K y => K (some (iV y)) (sh, ex, R, M))) (L := [some (iV p1)]) (by decide) rfl (Nat.le_of_ble_eq_true rfl) ?_ hy ⟨rfl, rfl⟩
  unfold f_X9_isLaw
  refine Seg.step (pc' := 1) (I_iload_n (i := 0) dX9_isLaw_0 rfl rfl) ?_
  refine Seg.step (pc' := 4) (I_sipush dX9_isLaw_1 (by decide) ⟨by decide, by decide⟩) ?_
  refine S_icmp_lt (tgt := 18) dX9_isLaw_4 (by decide) (fun h1 => ?_) (fun h1 => ?_)
  · refine Seg.step (pc' := 19) (I_iconst dX9_isLaw_18 ⟨by decide, by decide⟩) ?_
    exact S_zret dX9_isLaw_19 rfl (by decide) (by decide) (by decide) (fun K hK => hK)
  refine Seg.step (pc' := 8) (I_iload_n (i := 0) dX9_isLaw_7 rfl rfl) ?_
  refine Seg.step (pc' := 11) (I_sipush dX9_isLaw_8 (by decide) ⟨by decide, by decide⟩) ?_
  refine S_icmp_ge (tgt := 18) dX9_isLaw_11 (by decide) (fun h2 => ?_) (fun h2 => ?_)
  · refine Seg.step (pc' := 15) (I_iconst dX9_isLaw_14 ⟨by decide, by decide⟩) ?_
    refine Seg.step (pc' := 19) (I_goto (tgt := 19) dX9_isLaw_15 (by decide)) ?_
    exact S_zret dX9_isLaw_19 rfl (by decide) (by decide) (by decide) (fun K hK => hK)
  refine Seg.step (pc' := 19) (I_iconst dX9_isLaw_18 ⟨by decide, by decide⟩) ?_
  exact S_zret dX9_isLaw_19 rfl (by decide) (by decide) (by decide) (fun K hK => hK)
theorem dX7_readLaw_0 : decode cX7_readLaw 0 = .ok (.aload_n 0, 1) := by decide +kernel
theorem dX7_readLaw_1 : decode cX7_readLaw 1 = .ok (.getfield 14, 3) := by decide +kernel
theorem dX7_readLaw_4 : decode cX7_readLaw 4 = .ok (.invokevirtual 85, 3) := by decide +kernel
theorem dX7_readLaw_7 : decode cX7_readLaw 7 = .ok (.aload_n 0, 1) := by decide +kernel
theorem dX7_readLaw_8 : decode cX7_readLaw 8 = .ok (.getfield 14, 3) := by decide +kernel
theorem dX7_readLaw_11 : decode cX7_readLaw 11 = .ok (.getfield 49, 3) := by decide +kernel
theorem dX7_readLaw_14 : decode cX7_readLaw 14 = .ok (.invokestatic 196, 3) := by decide +kernel
theorem dX7_readLaw_17 : decode cX7_readLaw 17 = .ok (.ifCond .ne 9, 3) := by decide +kernel
theorem dX7_readLaw_20 : decode cX7_readLaw 20 = .ok (.aload_n 0, 1) := by decide +kernel
theorem dX7_readLaw_21 : decode cX7_readLaw 21 = .ok (.iconst 1, 1) := by decide +kernel
theorem dX7_readLaw_22 : decode cX7_readLaw 22 = .ok (.invokevirtual 75, 3) := by decide +kernel
theorem dX7_readLaw_25 : decode cX7_readLaw 25 = .ok (.ireturn, 1) := by decide +kernel
theorem dX7_readLaw_26 : decode cX7_readLaw 26 = .ok (.aload_n 0, 1) := by decide +kernel
theorem dX7_readLaw_27 : decode cX7_readLaw 27 = .ok (.getfield 14, 3) := by decide +kernel
theorem dX7_readLaw_30 : decode cX7_readLaw 30 = .ok (.getfield 49, 3) := by decide +kernel
theorem dX7_readLaw_33 : decode cX7_readLaw 33 = .ok (.sipush 307, 3) := by decide +kernel
theorem dX7_readLaw_36 : decode cX7_readLaw 36 = .ok (.isub, 1) := by decide +kernel
theorem dX7_readLaw_37 : decode cX7_readLaw 37 = .ok (.istore_n 1, 1) := by decide +kernel
theorem dX7_readLaw_38 : decode cX7_readLaw 38 = .ok (.aload_n 0, 1) := by decide +kernel
theorem dX7_readLaw_39 : decode cX7_readLaw 39 = .ok (.getfield 29, 3) := by decide +kernel
theorem dX7_readLaw_42 : decode cX7_readLaw 42 = .ok (.getfield 199, 3) := by decide +kernel
theorem dX7_readLaw_45 : decode cX7_readLaw 45 = .ok (.astore_n 2, 1) := by decide +kernel
theorem dX7_readLaw_46 : decode cX7_readLaw 46 = .ok (.aload_n 2, 1) := by decide +kernel
theorem dX7_readLaw_47 : decode cX7_readLaw 47 = .ok (.iload_n 1, 1) := by decide +kernel
theorem dX7_readLaw_48 : decode cX7_readLaw 48 = .ok (.invokevirtual 203, 3) := by decide +kernel
theorem dX7_readLaw_51 : decode cX7_readLaw 51 = .ok (.ifCond .eq 9, 3) := by decide +kernel
theorem dX7_readLaw_54 : decode cX7_readLaw 54 = .ok (.aload_n 0, 1) := by decide +kernel
theorem dX7_readLaw_55 : decode cX7_readLaw 55 = .ok (.iconst 3, 1) := by decide +kernel
theorem dX7_readLaw_56 : decode cX7_readLaw 56 = .ok (.invokevirtual 75, 3) := by decide +kernel
theorem dX7_readLaw_59 : decode cX7_readLaw 59 = .ok (.ireturn, 1) := by decide +kernel
theorem dX7_readLaw_60 : decode cX7_readLaw 60 = .ok (.aload_n 0, 1) := by decide +kernel
theorem dX7_readLaw_61 : decode cX7_readLaw 61 = .ok (.getfield 14, 3) := by decide +kernel
theorem dX7_readLaw_64 : decode cX7_readLaw 64 = .ok (.invokevirtual 85, 3) := by decide +kernel
theorem dX7_readLaw_67 : decode cX7_readLaw 67 = .ok (.aload_n 2, 1) := by decide +kernel
theorem dX7_readLaw_68 : decode cX7_readLaw 68 = .ok (.iload_n 1, 1) := by decide +kernel
theorem dX7_readLaw_69 : decode cX7_readLaw 69 = .ok (.invokevirtual 208, 3) := by decide +kernel
theorem dX7_readLaw_72 : decode cX7_readLaw 72 = .ok (.aload_n 0, 1) := by decide +kernel
theorem dX7_readLaw_73 : decode cX7_readLaw 73 = .ok (.getfield 25, 3) := by decide +kernel
theorem dX7_readLaw_76 : decode cX7_readLaw 76 = .ok (.aload_n 2, 1) := by decide +kernel
theorem dX7_readLaw_77 : decode cX7_readLaw 77 = .ok (.invokevirtual 209, 3) := by decide +kernel
theorem dX7_readLaw_80 : decode cX7_readLaw 80 = .ok (.istore_n 3, 1) := by decide +kernel
theorem dX7_readLaw_81 : decode cX7_readLaw 81 = .ok (.iload_n 3, 1) := by decide +kernel
theorem dX7_readLaw_82 : decode cX7_readLaw 82 = .ok (.ifCond .eq 9, 3) := by decide +kernel
theorem dX7_readLaw_85 : decode cX7_readLaw 85 = .ok (.aload_n 0, 1) := by decide +kernel
theorem dX7_readLaw_86 : decode cX7_readLaw 86 = .ok (.iload_n 3, 1) := by decide +kernel
theorem dX7_readLaw_87 : decode cX7_readLaw 87 = .ok (.invokevirtual 75, 3) := by decide +kernel
theorem dX7_readLaw_90 : decode cX7_readLaw 90 = .ok (.ireturn, 1) := by decide +kernel
theorem dX7_readLaw_91 : decode cX7_readLaw 91 = .ok (.aload_n 2, 1) := by decide +kernel
theorem dX7_readLaw_92 : decode cX7_readLaw 92 = .ok (.iload_n 1, 1) := by decide +kernel
theorem dX7_readLaw_93 : decode cX7_readLaw 93 = .ok (.invokevirtual 212, 3) := by decide +kernel
theorem dX7_readLaw_96 : decode cX7_readLaw 96 = .ok (.iconst 1, 1) := by decide +kernel
theorem dX7_readLaw_97 : decode cX7_readLaw 97 = .ok (.ireturn, 1) := by decide +kernel
def f_X7_readLaw (M : MM)  : Option (Int × MM) :=
(f_X9_advance M).bind fun x1 =>
(f_X9_isLaw x1 (x1 3 4)).bind fun x2 =>
if x2 = 0 then
((f_X7_fails x1 1).bind fun x4 =>
gd (x4.1 = 0 ∨ x4.1 = 1) <|
some (x4.1, x4.2))
else
bI (w32 ((x1 3 4) - 307)) fun x6 =>
gH (x1 2 2) fun b7 =>
(f_X3_isTold x1 (b7 + 12) x6).bind fun x8 =>
if x8 = 0 then
((f_X9_advance x1).bind fun x10 =>
(f_X3_begin x10 (b7 + 12) x6).bind fun x11 =>
(f_X1_readInto x11 (b7 + 12)).bind fun x12 =>
if x12.1 = 0 then
((f_X3_end x12.2 (b7 + 12) x6).bind fun x14 =>
some (1, x14))
else
(f_X7_fails x12.2 x12.1).bind fun x15 =>
gd (x15.1 = 0 ∨ x15.1 = 1) <|
some (x15.1, x15.2))
else
(f_X7_fails x1 3).bind fun x17 =>
gd (x17.1 = 0 ∨ x17.1 = 1) <|
some (x17.1, x17.2)
set_option maxRecDepth 4000 in
theorem c_X7_readLaw {E : EE} {sh : List (Nat × Nat)} {ex : Bool} {R : RM} {M : MM}  (hE : Ext sh) (hL : Links R) : ∀ y, f_X7_readLaw M = some y → MetC E m_X7_readLaw 0 0 [rV 2] (sh, ex, R, M) (fun r w' => r = some (iV y.1) ∧ w' = (sh, ex, R, y.2)) := by
  intro y hy
  refine MetC.seg (o := f_X7_readLaw M) (t := (fun K y => K (some (iV y.1)) (sh, ex, R, y.2))) (L := [some (rV 2), none, none, none]) (by decide) rfl (Nat.le_of_ble_eq_true rfl) ?_ hy ⟨rfl, rfl⟩
  unfold f_X7_readLaw
  refine Seg.step (pc' := 1) (I_aload_n (i := 0) dX7_readLaw_0 rfl rfl) ?_
  refine Seg.step (pc' := 4) (I_getR cls7 (by decide) wf_7_14 (hE _ _ sk_7) rfl (lk_7_0 hL) dX7_readLaw_1) ?_
  refine S_callV0 (md' := m_X9_advance) (fun y => none) (fun y => (sh, ex, R, y)) (hE _ _ sk_7_0) ⟨by decide, rfl⟩ mm_X9_advance wm_7_85 ⟨rfl, rfl, by decide, by decide, by decide, by decide⟩ (Nat.le_of_ble_eq_true rfl) dX7_readLaw_4 (fun y hy => c_X9_advance hE hL y hy) (fun x1 => ?_)
  refine Seg.step (pc' := 8) (I_aload_n (i := 0) dX7_readLaw_7 rfl rfl) ?_
  refine Seg.step (pc' := 11) (I_getR cls7 (by decide) wf_7_14 (hE _ _ sk_7) rfl (lk_7_0 hL) dX7_readLaw_8) ?_
  refine Seg.step (pc' := 14) (I_getI cls9 (by decide) wf_7_49 (hE _ _ sk_7_0) rfl dX7_readLaw_11) ?_
  refine S_callS1 (md' := m_X9_isLaw) (fun y => some (iV y)) (fun y => (sh, ex, R, x1)) mm_X9_isLaw wm_7_196 ⟨rfl, rfl, by decide, by decide, by decide, by decide⟩ (Nat.le_of_ble_eq_true rfl) dX7_readLaw_14 (fun y hy => c_X9_isLaw hE hL y hy) (fun x2 => ?_)
  refine S_if_ne (tgt := 26) dX7_readLaw_17 (by decide) (fun h3 => ?_) (fun h3 => ?_)
  · refine Seg.step (pc' := 21) (I_aload_n (i := 0) dX7_readLaw_20 rfl rfl) ?_
    refine Seg.step (pc' := 22) (I_iconst dX7_readLaw_21 ⟨by decide, by decide⟩) ?_
    refine S_callV1 (md' := m_X7_fails) (fun y => some (iV y.1)) (fun y => (sh, ex, R, y.2)) (hE _ _ sk_7) ⟨by decide, rfl⟩ mm_X7_fails wm_7_75 ⟨rfl, rfl, by decide, by decide, by decide, by decide⟩ (Nat.le_of_ble_eq_true rfl) dX7_readLaw_22 (fun y hy => c_X7_fails hE hL y hy) (fun x4 => ?_)
    refine S_gd fun h5 => ?_
    exact S_zret dX7_readLaw_25 rfl h5 (by decide) (by decide) (fun K hK => hK)
  refine Seg.step (pc' := 27) (I_aload_n (i := 0) dX7_readLaw_26 rfl rfl) ?_
  refine Seg.step (pc' := 30) (I_getR cls7 (by decide) wf_7_14 (hE _ _ sk_7) rfl (lk_7_0 hL) dX7_readLaw_27) ?_
  refine Seg.step (pc' := 33) (I_getI cls9 (by decide) wf_7_49 (hE _ _ sk_7_0) rfl dX7_readLaw_30) ?_
  refine Seg.step (pc' := 36) (I_sipush dX7_readLaw_33 (by decide) ⟨by decide, by decide⟩) ?_
  refine Seg.step (pc' := 37) (I_isub dX7_readLaw_36) ?_
  refine S_bI fun x6 => ?_
  refine Seg.step (pc' := 38) (I_istore_n (i := 1) dX7_readLaw_37 rfl (by decide) rfl) ?_
  refine Seg.step (pc' := 39) (I_aload_n (i := 0) dX7_readLaw_38 rfl rfl) ?_
  refine S_gH fun b7 hb7 zb7 => ?_
  refine Seg.step (pc' := 42) (I_getH cls7 (by decide) wf_7_29 (hE _ _ sk_7) rfl zb7 (hkp hb7) dX7_readLaw_39) ?_
  refine Seg.step (pc' := 45) (I_getR cls2 (by decide) wf_7_199 (hE _ _ (hks hb7)) rfl (lk_2_2 hL (hks hb7)) dX7_readLaw_42) ?_
  refine Seg.step (pc' := 46) (I_astore_n (i := 2) dX7_readLaw_45 rfl (by decide) rfl) ?_
  refine Seg.step (pc' := 47) (I_aload_n (i := 2) dX7_readLaw_46 rfl rfl) ?_
  refine Seg.step (pc' := 48) (I_iload_n (i := 1) dX7_readLaw_47 rfl rfl) ?_
  refine S_callV1 (md' := m_X3_isTold) (fun y => some (iV y)) (fun y => (sh, ex, R, x1)) (hE _ _ (sk_2_2 (hks hb7))) ⟨by decide, rfl⟩ mm_X3_isTold wm_7_203 ⟨rfl, rfl, by decide, by decide, by decide, by decide⟩ (Nat.le_of_ble_eq_true rfl) dX7_readLaw_48 (fun y hy => c_X3_isTold hE hL (sk_2_2 (hks hb7)) y hy) (fun x8 => ?_)
  refine S_if_eq (tgt := 60) dX7_readLaw_51 (by decide) (fun h9 => ?_) (fun h9 => ?_)
  · refine Seg.step (pc' := 61) (I_aload_n (i := 0) dX7_readLaw_60 rfl rfl) ?_
    refine Seg.step (pc' := 64) (I_getR cls7 (by decide) wf_7_14 (hE _ _ sk_7) rfl (lk_7_0 hL) dX7_readLaw_61) ?_
    refine S_callV0 (md' := m_X9_advance) (fun y => none) (fun y => (sh, ex, R, y)) (hE _ _ sk_7_0) ⟨by decide, rfl⟩ mm_X9_advance wm_7_85 ⟨rfl, rfl, by decide, by decide, by decide, by decide⟩ (Nat.le_of_ble_eq_true rfl) dX7_readLaw_64 (fun y hy => c_X9_advance hE hL y hy) (fun x10 => ?_)
    refine Seg.step (pc' := 68) (I_aload_n (i := 2) dX7_readLaw_67 rfl rfl) ?_
    refine Seg.step (pc' := 69) (I_iload_n (i := 1) dX7_readLaw_68 rfl rfl) ?_
    refine S_callV1 (md' := m_X3_begin) (fun y => none) (fun y => (sh, ex, R, y)) (hE _ _ (sk_2_2 (hks hb7))) ⟨by decide, rfl⟩ mm_X3_begin wm_7_208 ⟨rfl, rfl, by decide, by decide, by decide, by decide⟩ (Nat.le_of_ble_eq_true rfl) dX7_readLaw_69 (fun y hy => c_X3_begin hE hL (sk_2_2 (hks hb7)) y hy) (fun x11 => ?_)
    refine Seg.step (pc' := 73) (I_aload_n (i := 0) dX7_readLaw_72 rfl rfl) ?_
    refine Seg.step (pc' := 76) (I_getR cls7 (by decide) wf_7_25 (hE _ _ sk_7) rfl (lk_7_1 hL) dX7_readLaw_73) ?_
    refine Seg.step (pc' := 77) (I_aload_n (i := 2) dX7_readLaw_76 rfl rfl) ?_
    refine S_callV1 (md' := m_X1_readInto) (fun y => some (iV y.1)) (fun y => (sh, ex, R, y.2)) (hE _ _ sk_7_1) ⟨by decide, rfl⟩ mm_X1_readInto wm_7_209 ⟨rfl, rfl, by decide, by decide, by decide, by decide⟩ (Nat.le_of_ble_eq_true rfl) dX7_readLaw_77 (fun y hy => c_X1_readInto hE hL (sk_2_2 (hks hb7)) y hy) (fun x12 => ?_)
    refine Seg.step (pc' := 81) (I_istore_n (i := 3) dX7_readLaw_80 rfl (by decide) rfl) ?_
    refine Seg.step (pc' := 82) (I_iload_n (i := 3) dX7_readLaw_81 rfl rfl) ?_
    refine S_if_eq (tgt := 91) dX7_readLaw_82 (by decide) (fun h13 => ?_) (fun h13 => ?_)
    · refine Seg.step (pc' := 92) (I_aload_n (i := 2) dX7_readLaw_91 rfl rfl) ?_
      refine Seg.step (pc' := 93) (I_iload_n (i := 1) dX7_readLaw_92 rfl rfl) ?_
      refine S_callV1 (md' := m_X3_end) (fun y => none) (fun y => (sh, ex, R, y)) (hE _ _ (sk_2_2 (hks hb7))) ⟨by decide, rfl⟩ mm_X3_end wm_7_212 ⟨rfl, rfl, by decide, by decide, by decide, by decide⟩ (Nat.le_of_ble_eq_true rfl) dX7_readLaw_93 (fun y hy => c_X3_end hE hL (sk_2_2 (hks hb7)) y hy) (fun x14 => ?_)
      refine Seg.step (pc' := 97) (I_iconst dX7_readLaw_96 ⟨by decide, by decide⟩) ?_
      exact S_zret dX7_readLaw_97 rfl (by decide) (by decide) (by decide) (fun K hK => hK)
    refine Seg.step (pc' := 86) (I_aload_n (i := 0) dX7_readLaw_85 rfl rfl) ?_
    refine Seg.step (pc' := 87) (I_iload_n (i := 3) dX7_readLaw_86 rfl rfl) ?_
    refine S_callV1 (md' := m_X7_fails) (fun y => some (iV y.1)) (fun y => (sh, ex, R, y.2)) (hE _ _ sk_7) ⟨by decide, rfl⟩ mm_X7_fails wm_7_75 ⟨rfl, rfl, by decide, by decide, by decide, by decide⟩ (Nat.le_of_ble_eq_true rfl) dX7_readLaw_87 (fun y hy => c_X7_fails hE hL y hy) (fun x15 => ?_)
    refine S_gd fun h16 => ?_
    exact S_zret dX7_readLaw_90 rfl h16 (by decide) (by decide) (fun K hK => hK)
  refine Seg.step (pc' := 55) (I_aload_n (i := 0) dX7_readLaw_54 rfl rfl) ?_
  refine Seg.step (pc' := 56) (I_iconst dX7_readLaw_55 ⟨by decide, by decide⟩) ?_
  refine S_callV1 (md' := m_X7_fails) (fun y => some (iV y.1)) (fun y => (sh, ex, R, y.2)) (hE _ _ sk_7) ⟨by decide, rfl⟩ mm_X7_fails wm_7_75 ⟨rfl, rfl, by decide, by decide, by decide, by decide⟩ (Nat.le_of_ble_eq_true rfl) dX7_readLaw_56 (fun y hy => c_X7_fails hE hL y hy) (fun x17 => ?_)
  refine S_gd fun h18 => ?_
  exact S_zret dX7_readLaw_59 rfl h18 (by decide) (by decide) (fun K hK => hK)
theorem dX7_readEnd_0 : decode cX7_readEnd 0 = .ok (.aload_n 0, 1) := by decide +kernel
theorem dX7_readEnd_1 : decode cX7_readEnd 1 = .ok (.getfield 14, 3) := by decide +kernel
theorem dX7_readEnd_4 : decode cX7_readEnd 4 = .ok (.getfield 49, 3) := by decide +kernel
theorem dX7_readEnd_7 : decode cX7_readEnd 7 = .ok (.bipush 59, 2) := by decide +kernel
theorem dX7_readEnd_9 : decode cX7_readEnd 9 = .ok (.if_icmp .eq 9, 3) := by decide +kernel
theorem dX7_readEnd_12 : decode cX7_readEnd 12 = .ok (.aload_n 0, 1) := by decide +kernel
theorem dX7_readEnd_13 : decode cX7_readEnd 13 = .ok (.iconst 1, 1) := by decide +kernel
theorem dX7_readEnd_14 : decode cX7_readEnd 14 = .ok (.invokevirtual 75, 3) := by decide +kernel
theorem dX7_readEnd_17 : decode cX7_readEnd 17 = .ok (.ireturn, 1) := by decide +kernel
theorem dX7_readEnd_18 : decode cX7_readEnd 18 = .ok (.aload_n 0, 1) := by decide +kernel
theorem dX7_readEnd_19 : decode cX7_readEnd 19 = .ok (.getfield 29, 3) := by decide +kernel
theorem dX7_readEnd_22 : decode cX7_readEnd 22 = .ok (.dup, 1) := by decide +kernel
theorem dX7_readEnd_23 : decode cX7_readEnd 23 = .ok (.getfield 82, 3) := by decide +kernel
theorem dX7_readEnd_26 : decode cX7_readEnd 26 = .ok (.iconst 1, 1) := by decide +kernel
theorem dX7_readEnd_27 : decode cX7_readEnd 27 = .ok (.iadd, 1) := by decide +kernel
theorem dX7_readEnd_28 : decode cX7_readEnd 28 = .ok (.putfield 82, 3) := by decide +kernel
theorem dX7_readEnd_31 : decode cX7_readEnd 31 = .ok (.aload_n 0, 1) := by decide +kernel
theorem dX7_readEnd_32 : decode cX7_readEnd 32 = .ok (.getfield 14, 3) := by decide +kernel
theorem dX7_readEnd_35 : decode cX7_readEnd 35 = .ok (.invokevirtual 85, 3) := by decide +kernel
theorem dX7_readEnd_38 : decode cX7_readEnd 38 = .ok (.iconst 1, 1) := by decide +kernel
theorem dX7_readEnd_39 : decode cX7_readEnd 39 = .ok (.ireturn, 1) := by decide +kernel
def f_X7_readEnd (M : MM)  : Option (Int × MM) :=
if (M 3 4) = 59 then
(gH (M 2 2) fun b2 =>
bM (upM M b2 14 (w32 ((M b2 14) + 1))) fun M3 =>
(f_X9_advance M3).bind fun x4 =>
some (1, x4))
else
(f_X7_fails M 1).bind fun x5 =>
gd (x5.1 = 0 ∨ x5.1 = 1) <|
some (x5.1, x5.2)
set_option maxRecDepth 4000 in
theorem c_X7_readEnd {E : EE} {sh : List (Nat × Nat)} {ex : Bool} {R : RM} {M : MM}  (hE : Ext sh) (hL : Links R) : ∀ y, f_X7_readEnd M = some y → MetC E m_X7_readEnd 0 0 [rV 2] (sh, ex, R, M) (fun r w' => r = some (iV y.1) ∧ w' = (sh, ex, R, y.2)) := by
  intro y hy
  refine MetC.seg (o := f_X7_readEnd M) (t := (fun K y => K (some (iV y.1)) (sh, ex, R, y.2))) (L := [some (rV 2)]) (by decide) rfl (Nat.le_of_ble_eq_true rfl) ?_ hy ⟨rfl, rfl⟩
  unfold f_X7_readEnd
  refine Seg.step (pc' := 1) (I_aload_n (i := 0) dX7_readEnd_0 rfl rfl) ?_
  refine Seg.step (pc' := 4) (I_getR cls7 (by decide) wf_7_14 (hE _ _ sk_7) rfl (lk_7_0 hL) dX7_readEnd_1) ?_
  refine Seg.step (pc' := 7) (I_getI cls9 (by decide) wf_7_49 (hE _ _ sk_7_0) rfl dX7_readEnd_4) ?_
  refine Seg.step (pc' := 9) (I_bipush dX7_readEnd_7 (by decide) ⟨by decide, by decide⟩) ?_
  refine S_icmp_eq (tgt := 18) dX7_readEnd_9 (by decide) (fun h1 => ?_) (fun h1 => ?_)
  · refine Seg.step (pc' := 19) (I_aload_n (i := 0) dX7_readEnd_18 rfl rfl) ?_
    refine S_gH fun b2 hb2 zb2 => ?_
    refine Seg.step (pc' := 22) (I_getH cls7 (by decide) wf_7_29 (hE _ _ sk_7) rfl zb2 (hkp hb2) dX7_readEnd_19) ?_
    refine Seg.step (pc' := 23) (I_dup dX7_readEnd_22 (fun _ h => by cases h)) ?_
    refine Seg.step (pc' := 26) (I_getI cls2 (by decide) wf_7_82 (hE _ _ (hks hb2)) rfl dX7_readEnd_23) ?_
    refine Seg.step (pc' := 27) (I_iconst dX7_readEnd_26 ⟨by decide, by decide⟩) ?_
    refine Seg.step (pc' := 28) (I_iadd dX7_readEnd_27) ?_
    refine Seg.step (pc' := 31) (I_putI cls2 (by decide) wf_7_82 (hE _ _ (hks hb2)) rfl rfl dX7_readEnd_28) ?_
    refine S_bM fun M3 => ?_
    refine Seg.step (pc' := 32) (I_aload_n (i := 0) dX7_readEnd_31 rfl rfl) ?_
    refine Seg.step (pc' := 35) (I_getR cls7 (by decide) wf_7_14 (hE _ _ sk_7) rfl (lk_7_0 hL) dX7_readEnd_32) ?_
    refine S_callV0 (md' := m_X9_advance) (fun y => none) (fun y => (sh, ex, R, y)) (hE _ _ sk_7_0) ⟨by decide, rfl⟩ mm_X9_advance wm_7_85 ⟨rfl, rfl, by decide, by decide, by decide, by decide⟩ (Nat.le_of_ble_eq_true rfl) dX7_readEnd_35 (fun y hy => c_X9_advance hE hL y hy) (fun x4 => ?_)
    refine Seg.step (pc' := 39) (I_iconst dX7_readEnd_38 ⟨by decide, by decide⟩) ?_
    exact S_zret dX7_readEnd_39 rfl (by decide) (by decide) (by decide) (fun K hK => hK)
  refine Seg.step (pc' := 13) (I_aload_n (i := 0) dX7_readEnd_12 rfl rfl) ?_
  refine Seg.step (pc' := 14) (I_iconst dX7_readEnd_13 ⟨by decide, by decide⟩) ?_
  refine S_callV1 (md' := m_X7_fails) (fun y => some (iV y.1)) (fun y => (sh, ex, R, y.2)) (hE _ _ sk_7) ⟨by decide, rfl⟩ mm_X7_fails wm_7_75 ⟨rfl, rfl, by decide, by decide, by decide, by decide⟩ (Nat.le_of_ble_eq_true rfl) dX7_readEnd_14 (fun y hy => c_X7_fails hE hL y hy) (fun x5 => ?_)
  refine S_gd fun h6 => ?_
  exact S_zret dX7_readEnd_17 rfl h6 (by decide) (by decide) (fun K hK => hK)
theorem dX7_readLine_0 : decode cX7_readLine 0 = .ok (.aload_n 0, 1) := by decide +kernel
theorem dX7_readLine_1 : decode cX7_readLine 1 = .ok (.getfield 14, 3) := by decide +kernel
theorem dX7_readLine_4 : decode cX7_readLine 4 = .ok (.getfield 49, 3) := by decide +kernel
theorem dX7_readLine_7 : decode cX7_readLine 7 = .ok (.tableswitch 97 300 306 #[41, 49, 57, 65, 73, 81, 89], 41) := by decide +kernel
theorem dX7_readLine_48 : decode cX7_readLine 48 = .ok (.aload_n 0, 1) := by decide +kernel
theorem dX7_readLine_49 : decode cX7_readLine 49 = .ok (.invokevirtual 53, 3) := by decide +kernel
theorem dX7_readLine_52 : decode cX7_readLine 52 = .ok (.istore_n 1, 1) := by decide +kernel
theorem dX7_readLine_53 : decode cX7_readLine 53 = .ok (.goto 57, 3) := by decide +kernel
theorem dX7_readLine_56 : decode cX7_readLine 56 = .ok (.aload_n 0, 1) := by decide +kernel
theorem dX7_readLine_57 : decode cX7_readLine 57 = .ok (.invokevirtual 57, 3) := by decide +kernel
theorem dX7_readLine_60 : decode cX7_readLine 60 = .ok (.istore_n 1, 1) := by decide +kernel
theorem dX7_readLine_61 : decode cX7_readLine 61 = .ok (.goto 49, 3) := by decide +kernel
theorem dX7_readLine_64 : decode cX7_readLine 64 = .ok (.aload_n 0, 1) := by decide +kernel
theorem dX7_readLine_65 : decode cX7_readLine 65 = .ok (.invokevirtual 60, 3) := by decide +kernel
theorem dX7_readLine_68 : decode cX7_readLine 68 = .ok (.istore_n 1, 1) := by decide +kernel
theorem dX7_readLine_69 : decode cX7_readLine 69 = .ok (.goto 41, 3) := by decide +kernel
theorem dX7_readLine_72 : decode cX7_readLine 72 = .ok (.aload_n 0, 1) := by decide +kernel
theorem dX7_readLine_73 : decode cX7_readLine 73 = .ok (.invokevirtual 63, 3) := by decide +kernel
theorem dX7_readLine_76 : decode cX7_readLine 76 = .ok (.istore_n 1, 1) := by decide +kernel
theorem dX7_readLine_77 : decode cX7_readLine 77 = .ok (.goto 33, 3) := by decide +kernel
theorem dX7_readLine_80 : decode cX7_readLine 80 = .ok (.aload_n 0, 1) := by decide +kernel
theorem dX7_readLine_81 : decode cX7_readLine 81 = .ok (.invokevirtual 66, 3) := by decide +kernel
theorem dX7_readLine_84 : decode cX7_readLine 84 = .ok (.istore_n 1, 1) := by decide +kernel
theorem dX7_readLine_85 : decode cX7_readLine 85 = .ok (.goto 25, 3) := by decide +kernel
theorem dX7_readLine_88 : decode cX7_readLine 88 = .ok (.aload_n 0, 1) := by decide +kernel
theorem dX7_readLine_89 : decode cX7_readLine 89 = .ok (.invokevirtual 69, 3) := by decide +kernel
theorem dX7_readLine_92 : decode cX7_readLine 92 = .ok (.istore_n 1, 1) := by decide +kernel
theorem dX7_readLine_93 : decode cX7_readLine 93 = .ok (.goto 17, 3) := by decide +kernel
theorem dX7_readLine_96 : decode cX7_readLine 96 = .ok (.aload_n 0, 1) := by decide +kernel
theorem dX7_readLine_97 : decode cX7_readLine 97 = .ok (.invokevirtual 72, 3) := by decide +kernel
theorem dX7_readLine_100 : decode cX7_readLine 100 = .ok (.istore_n 1, 1) := by decide +kernel
theorem dX7_readLine_101 : decode cX7_readLine 101 = .ok (.goto 9, 3) := by decide +kernel
theorem dX7_readLine_104 : decode cX7_readLine 104 = .ok (.aload_n 0, 1) := by decide +kernel
theorem dX7_readLine_105 : decode cX7_readLine 105 = .ok (.iconst 1, 1) := by decide +kernel
theorem dX7_readLine_106 : decode cX7_readLine 106 = .ok (.invokevirtual 75, 3) := by decide +kernel
theorem dX7_readLine_109 : decode cX7_readLine 109 = .ok (.istore_n 1, 1) := by decide +kernel
theorem dX7_readLine_110 : decode cX7_readLine 110 = .ok (.iload_n 1, 1) := by decide +kernel
theorem dX7_readLine_111 : decode cX7_readLine 111 = .ok (.ifCond .eq 14, 3) := by decide +kernel
theorem dX7_readLine_114 : decode cX7_readLine 114 = .ok (.aload_n 0, 1) := by decide +kernel
theorem dX7_readLine_115 : decode cX7_readLine 115 = .ok (.invokevirtual 79, 3) := by decide +kernel
theorem dX7_readLine_118 : decode cX7_readLine 118 = .ok (.ifCond .eq 7, 3) := by decide +kernel
theorem dX7_readLine_121 : decode cX7_readLine 121 = .ok (.iconst 1, 1) := by decide +kernel
theorem dX7_readLine_122 : decode cX7_readLine 122 = .ok (.goto 4, 3) := by decide +kernel
theorem dX7_readLine_125 : decode cX7_readLine 125 = .ok (.iconst 0, 1) := by decide +kernel
theorem dX7_readLine_126 : decode cX7_readLine 126 = .ok (.ireturn, 1) := by decide +kernel
def f_X7_readLine (M : MM)  : Option (Int × MM) :=
((if (M 3 4) = 300 then
((f_X7_readRoom M).bind fun x2 =>
some (x2.1, x2.2))
else
if (M 3 4) = 301 then
((f_X7_readPerson M).bind fun x4 =>
some (x4.1, x4.2))
else
if (M 3 4) = 302 then
((f_X7_readSun M).bind fun x6 =>
some (x6.1, x6.2))
else
if (M 3 4) = 303 then
((f_X7_readOut M).bind fun x8 =>
some (x8.1, x8.2))
else
if (M 3 4) = 304 then
((f_X7_readKnob M).bind fun x10 =>
some (x10.1, x10.2))
else
if (M 3 4) = 305 then
((f_X7_readPrice M).bind fun x12 =>
some (x12.1, x12.2))
else
if (M 3 4) = 306 then
((f_X7_readLaw M).bind fun x14 =>
some (x14.1, x14.2))
else
(f_X7_fails M 1).bind fun x15 =>
some (x15.1, x15.2)) : Option (Int × MM)).bind fun x16 =>
if x16.1 = 0 then
(some (0, x16.2))
else
(f_X7_readEnd x16.2).bind fun x18 =>
if x18.1 = 0 then
(some (0, x18.2))
else
some (1, x18.2)
set_option maxRecDepth 4000 in
theorem c_X7_readLine {E : EE} {sh : List (Nat × Nat)} {ex : Bool} {R : RM} {M : MM}  (hE : Ext sh) (hL : Links R) : ∀ y, f_X7_readLine M = some y → MetC E m_X7_readLine 0 0 [rV 2] (sh, ex, R, M) (fun r w' => r = some (iV y.1) ∧ w' = (sh, ex, R, y.2)) := by
  intro y hy
  refine MetC.seg (o := f_X7_readLine M) (t := (fun K y => K (some (iV y.1)) (sh, ex, R, y.2))) (L := [some (rV 2), none]) (by decide) rfl (Nat.le_of_ble_eq_true rfl) ?_ hy ⟨rfl, rfl⟩
  unfold f_X7_readLine
  refine Seg.step (pc' := 1) (I_aload_n (i := 0) dX7_readLine_0 rfl rfl) ?_
  refine Seg.step (pc' := 4) (I_getR cls7 (by decide) wf_7_14 (hE _ _ sk_7) rfl (lk_7_0 hL) dX7_readLine_1) ?_
  refine Seg.step (pc' := 7) (I_getI cls9 (by decide) wf_7_49 (hE _ _ sk_7_0) rfl dX7_readLine_4) ?_
  refine S_bind (Y := Int × MM) (k' := 0) (n' := 0) 110 (fun y => [some (rV 2), some (iV y.1)]) (fun y => []) (fun y => (sh, ex, R, y.2)) ?_ (fun x16 => ?_)
  · refine S_ite (fun h1 => ?_) (fun h1 => ?_)
    · refine Seg.step (I_tsw (v := 300) (off := 41) (tgt := 48) dX7_readLine_7 h1 (by decide) rfl (by decide)) ?_
      refine Seg.step (pc' := 49) (I_aload_n (i := 0) dX7_readLine_48 rfl rfl) ?_
      refine S_callV0 (md' := m_X7_readRoom) (fun y => some (iV y.1)) (fun y => (sh, ex, R, y.2)) (hE _ _ sk_7) ⟨by decide, rfl⟩ mm_X7_readRoom wm_7_53 ⟨rfl, rfl, by decide, by decide, by decide, by decide⟩ (Nat.le_of_ble_eq_true rfl) dX7_readLine_49 (fun y hy => c_X7_readRoom hE hL y hy) (fun x2 => ?_)
      refine Seg.step (pc' := 53) (I_istore_n (i := 1) dX7_readLine_52 rfl (by decide) rfl) ?_
      refine Seg.step (pc' := 110) (I_goto (tgt := 110) dX7_readLine_53 (by decide)) ?_
      exact S_arr (fun K hK => GG.forget (Lle.ye (Lle.ye (Lle.nil))) hK)
    refine S_ite (fun h3 => ?_) (fun h3 => ?_)
    · refine Seg.step (I_tsw (v := 301) (off := 49) (tgt := 56) dX7_readLine_7 h3 (by decide) rfl (by decide)) ?_
      refine Seg.step (pc' := 57) (I_aload_n (i := 0) dX7_readLine_56 rfl rfl) ?_
      refine S_callV0 (md' := m_X7_readPerson) (fun y => some (iV y.1)) (fun y => (sh, ex, R, y.2)) (hE _ _ sk_7) ⟨by decide, rfl⟩ mm_X7_readPerson wm_7_57 ⟨rfl, rfl, by decide, by decide, by decide, by decide⟩ (Nat.le_of_ble_eq_true rfl) dX7_readLine_57 (fun y hy => c_X7_readPerson hE hL y hy) (fun x4 => ?_)
      refine Seg.step (pc' := 61) (I_istore_n (i := 1) dX7_readLine_60 rfl (by decide) rfl) ?_
      refine Seg.step (pc' := 110) (I_goto (tgt := 110) dX7_readLine_61 (by decide)) ?_
      exact S_arr (fun K hK => GG.forget (Lle.ye (Lle.ye (Lle.nil))) hK)
    refine S_ite (fun h5 => ?_) (fun h5 => ?_)
    · refine Seg.step (I_tsw (v := 302) (off := 57) (tgt := 64) dX7_readLine_7 h5 (by decide) rfl (by decide)) ?_
      refine Seg.step (pc' := 65) (I_aload_n (i := 0) dX7_readLine_64 rfl rfl) ?_
      refine S_callV0 (md' := m_X7_readSun) (fun y => some (iV y.1)) (fun y => (sh, ex, R, y.2)) (hE _ _ sk_7) ⟨by decide, rfl⟩ mm_X7_readSun wm_7_60 ⟨rfl, rfl, by decide, by decide, by decide, by decide⟩ (Nat.le_of_ble_eq_true rfl) dX7_readLine_65 (fun y hy => c_X7_readSun hE hL y hy) (fun x6 => ?_)
      refine Seg.step (pc' := 69) (I_istore_n (i := 1) dX7_readLine_68 rfl (by decide) rfl) ?_
      refine Seg.step (pc' := 110) (I_goto (tgt := 110) dX7_readLine_69 (by decide)) ?_
      exact S_arr (fun K hK => GG.forget (Lle.ye (Lle.ye (Lle.nil))) hK)
    refine S_ite (fun h7 => ?_) (fun h7 => ?_)
    · refine Seg.step (I_tsw (v := 303) (off := 65) (tgt := 72) dX7_readLine_7 h7 (by decide) rfl (by decide)) ?_
      refine Seg.step (pc' := 73) (I_aload_n (i := 0) dX7_readLine_72 rfl rfl) ?_
      refine S_callV0 (md' := m_X7_readOut) (fun y => some (iV y.1)) (fun y => (sh, ex, R, y.2)) (hE _ _ sk_7) ⟨by decide, rfl⟩ mm_X7_readOut wm_7_63 ⟨rfl, rfl, by decide, by decide, by decide, by decide⟩ (Nat.le_of_ble_eq_true rfl) dX7_readLine_73 (fun y hy => c_X7_readOut hE hL y hy) (fun x8 => ?_)
      refine Seg.step (pc' := 77) (I_istore_n (i := 1) dX7_readLine_76 rfl (by decide) rfl) ?_
      refine Seg.step (pc' := 110) (I_goto (tgt := 110) dX7_readLine_77 (by decide)) ?_
      exact S_arr (fun K hK => GG.forget (Lle.ye (Lle.ye (Lle.nil))) hK)
    refine S_ite (fun h9 => ?_) (fun h9 => ?_)
    · refine Seg.step (I_tsw (v := 304) (off := 73) (tgt := 80) dX7_readLine_7 h9 (by decide) rfl (by decide)) ?_
      refine Seg.step (pc' := 81) (I_aload_n (i := 0) dX7_readLine_80 rfl rfl) ?_
      refine S_callV0 (md' := m_X7_readKnob) (fun y => some (iV y.1)) (fun y => (sh, ex, R, y.2)) (hE _ _ sk_7) ⟨by decide, rfl⟩ mm_X7_readKnob wm_7_66 ⟨rfl, rfl, by decide, by decide, by decide, by decide⟩ (Nat.le_of_ble_eq_true rfl) dX7_readLine_81 (fun y hy => c_X7_readKnob hE hL y hy) (fun x10 => ?_)
      refine Seg.step (pc' := 85) (I_istore_n (i := 1) dX7_readLine_84 rfl (by decide) rfl) ?_
      refine Seg.step (pc' := 110) (I_goto (tgt := 110) dX7_readLine_85 (by decide)) ?_
      exact S_arr (fun K hK => GG.forget (Lle.ye (Lle.ye (Lle.nil))) hK)
    refine S_ite (fun h11 => ?_) (fun h11 => ?_)
    · refine Seg.step (I_tsw (v := 305) (off := 81) (tgt := 88) dX7_readLine_7 h11 (by decide) rfl (by decide)) ?_
      refine Seg.step (pc' := 89) (I_aload_n (i := 0) dX7_readLine_88 rfl rfl) ?_
      refine S_callV0 (md' := m_X7_readPrice) (fun y => some (iV y.1)) (fun y => (sh, ex, R, y.2)) (hE _ _ sk_7) ⟨by decide, rfl⟩ mm_X7_readPrice wm_7_69 ⟨rfl, rfl, by decide, by decide, by decide, by decide⟩ (Nat.le_of_ble_eq_true rfl) dX7_readLine_89 (fun y hy => c_X7_readPrice hE hL y hy) (fun x12 => ?_)
      refine Seg.step (pc' := 93) (I_istore_n (i := 1) dX7_readLine_92 rfl (by decide) rfl) ?_
      refine Seg.step (pc' := 110) (I_goto (tgt := 110) dX7_readLine_93 (by decide)) ?_
      exact S_arr (fun K hK => GG.forget (Lle.ye (Lle.ye (Lle.nil))) hK)
    refine S_ite (fun h13 => ?_) (fun h13 => ?_)
    · refine Seg.step (I_tsw (v := 306) (off := 89) (tgt := 96) dX7_readLine_7 h13 (by decide) rfl (by decide)) ?_
      refine Seg.step (pc' := 97) (I_aload_n (i := 0) dX7_readLine_96 rfl rfl) ?_
      refine S_callV0 (md' := m_X7_readLaw) (fun y => some (iV y.1)) (fun y => (sh, ex, R, y.2)) (hE _ _ sk_7) ⟨by decide, rfl⟩ mm_X7_readLaw wm_7_72 ⟨rfl, rfl, by decide, by decide, by decide, by decide⟩ (Nat.le_of_ble_eq_true rfl) dX7_readLine_97 (fun y hy => c_X7_readLaw hE hL y hy) (fun x14 => ?_)
      refine Seg.step (pc' := 101) (I_istore_n (i := 1) dX7_readLine_100 rfl (by decide) rfl) ?_
      refine Seg.step (pc' := 110) (I_goto (tgt := 110) dX7_readLine_101 (by decide)) ?_
      exact S_arr (fun K hK => GG.forget (Lle.ye (Lle.ye (Lle.nil))) hK)
    refine Seg.step (I_tswd (tgt := 104) dX7_readLine_7 (by omega) (by decide)) ?_
    refine Seg.step (pc' := 105) (I_aload_n (i := 0) dX7_readLine_104 rfl rfl) ?_
    refine Seg.step (pc' := 106) (I_iconst dX7_readLine_105 ⟨by decide, by decide⟩) ?_
    refine S_callV1 (md' := m_X7_fails) (fun y => some (iV y.1)) (fun y => (sh, ex, R, y.2)) (hE _ _ sk_7) ⟨by decide, rfl⟩ mm_X7_fails wm_7_75 ⟨rfl, rfl, by decide, by decide, by decide, by decide⟩ (Nat.le_of_ble_eq_true rfl) dX7_readLine_106 (fun y hy => c_X7_fails hE hL y hy) (fun x15 => ?_)
    refine Seg.step (pc' := 110) (I_istore_n (i := 1) dX7_readLine_109 rfl (by decide) rfl) ?_
    exact S_arr (fun K hK => GG.forget (Lle.ye (Lle.ye (Lle.nil))) hK)
  refine Seg.step (pc' := 111) (I_iload_n (i := 1) dX7_readLine_110 rfl rfl) ?_
  refine S_if_eq (tgt := 125) dX7_readLine_111 (by decide) (fun h17 => ?_) (fun h17 => ?_)
  · refine Seg.step (pc' := 126) (I_iconst dX7_readLine_125 ⟨by decide, by decide⟩) ?_
    exact S_zret dX7_readLine_126 rfl (by decide) (by decide) (by decide) (fun K hK => hK)
  refine Seg.step (pc' := 115) (I_aload_n (i := 0) dX7_readLine_114 rfl rfl) ?_
  refine S_callV0 (md' := m_X7_readEnd) (fun y => some (iV y.1)) (fun y => (sh, ex, R, y.2)) (hE _ _ sk_7) ⟨by decide, rfl⟩ mm_X7_readEnd wm_7_79 ⟨rfl, rfl, by decide, by decide, by decide, by decide⟩ (Nat.le_of_ble_eq_true rfl) dX7_readLine_115 (fun y hy => c_X7_readEnd hE hL y hy) (fun x18 => ?_)
  refine S_if_eq (tgt := 125) dX7_readLine_118 (by decide) (fun h19 => ?_) (fun h19 => ?_)
  · refine Seg.step (pc' := 126) (I_iconst dX7_readLine_125 ⟨by decide, by decide⟩) ?_
    exact S_zret dX7_readLine_126 rfl (by decide) (by decide) (by decide) (fun K hK => hK)
  refine Seg.step (pc' := 122) (I_iconst dX7_readLine_121 ⟨by decide, by decide⟩) ?_
  refine Seg.step (pc' := 126) (I_goto (tgt := 126) dX7_readLine_122 (by decide)) ?_
  exact S_zret dX7_readLine_126 rfl (by decide) (by decide) (by decide) (fun K hK => hK)
theorem dX10_clear_0 : decode cX10_clear 0 = .ok (.aload_n 0, 1) := by decide +kernel
theorem dX10_clear_1 : decode cX10_clear 1 = .ok (.iconst 0, 1) := by decide +kernel
theorem dX10_clear_2 : decode cX10_clear 2 = .ok (.putfield 21, 3) := by decide +kernel
theorem dX10_clear_5 : decode cX10_clear 5 = .ok (.aload_n 0, 1) := by decide +kernel
theorem dX10_clear_6 : decode cX10_clear 6 = .ok (.iconst 0, 1) := by decide +kernel
theorem dX10_clear_7 : decode cX10_clear 7 = .ok (.putfield 25, 3) := by decide +kernel
theorem dX10_clear_10 : decode cX10_clear 10 = .ok (.aload_n 0, 1) := by decide +kernel
theorem dX10_clear_11 : decode cX10_clear 11 = .ok (.iconst 0, 1) := by decide +kernel
theorem dX10_clear_12 : decode cX10_clear 12 = .ok (.putfield 28, 3) := by decide +kernel
theorem dX10_clear_15 : decode cX10_clear 15 = .ok (.aload_n 0, 1) := by decide +kernel
theorem dX10_clear_16 : decode cX10_clear 16 = .ok (.iconst 0, 1) := by decide +kernel
theorem dX10_clear_17 : decode cX10_clear 17 = .ok (.putfield 31, 3) := by decide +kernel
theorem dX10_clear_20 : decode cX10_clear 20 = .ok (.aload_n 0, 1) := by decide +kernel
theorem dX10_clear_21 : decode cX10_clear 21 = .ok (.iconst 0, 1) := by decide +kernel
theorem dX10_clear_22 : decode cX10_clear 22 = .ok (.putfield 34, 3) := by decide +kernel
theorem dX10_clear_25 : decode cX10_clear 25 = .ok (.aload_n 0, 1) := by decide +kernel
theorem dX10_clear_26 : decode cX10_clear 26 = .ok (.iconst (-1), 1) := by decide +kernel
theorem dX10_clear_27 : decode cX10_clear 27 = .ok (.putfield 9, 3) := by decide +kernel
theorem dX10_clear_30 : decode cX10_clear 30 = .ok (.aload_n 0, 1) := by decide +kernel
theorem dX10_clear_31 : decode cX10_clear 31 = .ok (.iconst (-1), 1) := by decide +kernel
theorem dX10_clear_32 : decode cX10_clear 32 = .ok (.putfield 15, 3) := by decide +kernel
theorem dX10_clear_35 : decode cX10_clear 35 = .ok (.aload_n 0, 1) := by decide +kernel
theorem dX10_clear_36 : decode cX10_clear 36 = .ok (.iconst (-1), 1) := by decide +kernel
theorem dX10_clear_37 : decode cX10_clear 37 = .ok (.putfield 18, 3) := by decide +kernel
theorem dX10_clear_40 : decode cX10_clear 40 = .ok (.aload_n 0, 1) := by decide +kernel
theorem dX10_clear_41 : decode cX10_clear 41 = .ok (.iconst 0, 1) := by decide +kernel
theorem dX10_clear_42 : decode cX10_clear 42 = .ok (.putfield 37, 3) := by decide +kernel
theorem dX10_clear_45 : decode cX10_clear 45 = .ok (.return_, 1) := by decide +kernel
def f_X10_clear (M : MM) (a0 : Nat) : Option (MM) :=
bM (upM M a0 0 0) fun M1 =>
bM (upM M1 a0 1 0) fun M2 =>
bM (upM M2 a0 2 0) fun M3 =>
bM (upM M3 a0 3 0) fun M4 =>
bM (upM M4 a0 4 0) fun M5 =>
bM (upM M5 a0 5 (-1)) fun M6 =>
bM (upM M6 a0 6 (-1)) fun M7 =>
bM (upM M7 a0 7 (-1)) fun M8 =>
bM (upM M8 a0 9 0) fun M9 =>
some M9
set_option maxRecDepth 4000 in
theorem c_X10_clear {E : EE} {sh : List (Nat × Nat)} {ex : Bool} {R : RM} {M : MM} {a0 : Nat} (hE : Ext sh) (hL : Links R) (hs0 : SH0[a0]? = some (10, 11)) : ∀ y, f_X10_clear M a0 = some y → MetC E m_X10_clear 0 0 [rV a0] (sh, ex, R, M) (fun r w' => r = none ∧ w' = (sh, ex, R, y)) := by
  intro y hy
  refine MetC.seg (o := f_X10_clear M a0) (t := (fun K y => K (none) (sh, ex, R, y))) (L := [some (rV a0)]) (by decide) rfl (Nat.le_of_ble_eq_true rfl) ?_ hy ⟨rfl, rfl⟩
  unfold f_X10_clear
  refine Seg.step (pc' := 1) (I_aload_n (i := 0) dX10_clear_0 rfl rfl) ?_
  refine Seg.step (pc' := 2) (I_iconst dX10_clear_1 ⟨by decide, by decide⟩) ?_
  refine Seg.step (pc' := 5) (I_putZ cls10 (by decide) wf_10_21 (hE _ _ hs0) rfl rfl (by decide) dX10_clear_2) ?_
  refine S_bM fun M1 => ?_
  refine Seg.step (pc' := 6) (I_aload_n (i := 0) dX10_clear_5 rfl rfl) ?_
  refine Seg.step (pc' := 7) (I_iconst dX10_clear_6 ⟨by decide, by decide⟩) ?_
  refine Seg.step (pc' := 10) (I_putZ cls10 (by decide) wf_10_25 (hE _ _ hs0) rfl rfl (by decide) dX10_clear_7) ?_
  refine S_bM fun M2 => ?_
  refine Seg.step (pc' := 11) (I_aload_n (i := 0) dX10_clear_10 rfl rfl) ?_
  refine Seg.step (pc' := 12) (I_iconst dX10_clear_11 ⟨by decide, by decide⟩) ?_
  refine Seg.step (pc' := 15) (I_putZ cls10 (by decide) wf_10_28 (hE _ _ hs0) rfl rfl (by decide) dX10_clear_12) ?_
  refine S_bM fun M3 => ?_
  refine Seg.step (pc' := 16) (I_aload_n (i := 0) dX10_clear_15 rfl rfl) ?_
  refine Seg.step (pc' := 17) (I_iconst dX10_clear_16 ⟨by decide, by decide⟩) ?_
  refine Seg.step (pc' := 20) (I_putZ cls10 (by decide) wf_10_31 (hE _ _ hs0) rfl rfl (by decide) dX10_clear_17) ?_
  refine S_bM fun M4 => ?_
  refine Seg.step (pc' := 21) (I_aload_n (i := 0) dX10_clear_20 rfl rfl) ?_
  refine Seg.step (pc' := 22) (I_iconst dX10_clear_21 ⟨by decide, by decide⟩) ?_
  refine Seg.step (pc' := 25) (I_putZ cls10 (by decide) wf_10_34 (hE _ _ hs0) rfl rfl (by decide) dX10_clear_22) ?_
  refine S_bM fun M5 => ?_
  refine Seg.step (pc' := 26) (I_aload_n (i := 0) dX10_clear_25 rfl rfl) ?_
  refine Seg.step (pc' := 27) (I_iconst dX10_clear_26 ⟨by decide, by decide⟩) ?_
  refine Seg.step (pc' := 30) (I_putI cls10 (by decide) wf_10_9 (hE _ _ hs0) rfl rfl dX10_clear_27) ?_
  refine S_bM fun M6 => ?_
  refine Seg.step (pc' := 31) (I_aload_n (i := 0) dX10_clear_30 rfl rfl) ?_
  refine Seg.step (pc' := 32) (I_iconst dX10_clear_31 ⟨by decide, by decide⟩) ?_
  refine Seg.step (pc' := 35) (I_putI cls10 (by decide) wf_10_15 (hE _ _ hs0) rfl rfl dX10_clear_32) ?_
  refine S_bM fun M7 => ?_
  refine Seg.step (pc' := 36) (I_aload_n (i := 0) dX10_clear_35 rfl rfl) ?_
  refine Seg.step (pc' := 37) (I_iconst dX10_clear_36 ⟨by decide, by decide⟩) ?_
  refine Seg.step (pc' := 40) (I_putI cls10 (by decide) wf_10_18 (hE _ _ hs0) rfl rfl dX10_clear_37) ?_
  refine S_bM fun M8 => ?_
  refine Seg.step (pc' := 41) (I_aload_n (i := 0) dX10_clear_40 rfl rfl) ?_
  refine Seg.step (pc' := 42) (I_iconst dX10_clear_41 ⟨by decide, by decide⟩) ?_
  refine Seg.step (pc' := 45) (I_putZ cls10 (by decide) wf_10_37 (hE _ _ hs0) rfl rfl (by decide) dX10_clear_42) ?_
  refine S_bM fun M9 => ?_
  exact S_vret dX10_clear_45 rfl (by decide) (by decide) (fun K hK => hK)
theorem dX11_tapeNumber_0 : decode cX11_tapeNumber 0 = .ok (.bipush 24, 2) := by decide +kernel
theorem dX11_tapeNumber_2 : decode cX11_tapeNumber 2 = .ok (.istore_n 2, 1) := by decide +kernel
theorem dX11_tapeNumber_3 : decode cX11_tapeNumber 3 = .ok (.iload_n 2, 1) := by decide +kernel
theorem dX11_tapeNumber_4 : decode cX11_tapeNumber 4 = .ok (.ifCond .lt 32, 3) := by decide +kernel
theorem dX11_tapeNumber_7 : decode cX11_tapeNumber 7 = .ok (.aload_n 0, 1) := by decide +kernel
theorem dX11_tapeNumber_8 : decode cX11_tapeNumber 8 = .ok (.getfield 11, 3) := by decide +kernel
theorem dX11_tapeNumber_11 : decode cX11_tapeNumber 11 = .ok (.aload_n 0, 1) := by decide +kernel
theorem dX11_tapeNumber_12 : decode cX11_tapeNumber 12 = .ok (.getfield 67, 3) := by decide +kernel
theorem dX11_tapeNumber_15 : decode cX11_tapeNumber 15 = .ok (.iload_n 1, 1) := by decide +kernel
theorem dX11_tapeNumber_16 : decode cX11_tapeNumber 16 = .ok (.iload_n 2, 1) := by decide +kernel
theorem dX11_tapeNumber_17 : decode cX11_tapeNumber 17 = .ok (.ishr, 1) := by decide +kernel
theorem dX11_tapeNumber_18 : decode cX11_tapeNumber 18 = .ok (.i2b, 1) := by decide +kernel
theorem dX11_tapeNumber_19 : decode cX11_tapeNumber 19 = .ok (.bastore, 1) := by decide +kernel
theorem dX11_tapeNumber_20 : decode cX11_tapeNumber 20 = .ok (.aload_n 0, 1) := by decide +kernel
theorem dX11_tapeNumber_21 : decode cX11_tapeNumber 21 = .ok (.dup, 1) := by decide +kernel
theorem dX11_tapeNumber_22 : decode cX11_tapeNumber 22 = .ok (.getfield 67, 3) := by decide +kernel
theorem dX11_tapeNumber_25 : decode cX11_tapeNumber 25 = .ok (.iconst 1, 1) := by decide +kernel
theorem dX11_tapeNumber_26 : decode cX11_tapeNumber 26 = .ok (.iadd, 1) := by decide +kernel
theorem dX11_tapeNumber_27 : decode cX11_tapeNumber 27 = .ok (.putfield 67, 3) := by decide +kernel
theorem dX11_tapeNumber_30 : decode cX11_tapeNumber 30 = .ok (.iinc 2 (-8), 3) := by decide +kernel
theorem dX11_tapeNumber_33 : decode cX11_tapeNumber 33 = .ok (.goto (-30), 3) := by decide +kernel
theorem dX11_tapeNumber_36 : decode cX11_tapeNumber 36 = .ok (.return_, 1) := by decide +kernel
def f_X11_tapeNumber (M : MM) (p1 : Int) : Option (MM) :=
lp (X := Int × MM) (Y := MM) (fun x1 =>
if x1.1 < 0 then
(some (Sum.inr x1.2))
else
gd (0 ≤ x1.2 0 1 ∧ x1.2 0 1 < (700 : Int)) <|
bM (upM x1.2 1 (x1.2 0 1).toNat (w8 (w8 (shr32 p1 x1.1)))) fun M4 =>
bM (upM M4 0 1 (w32 ((M4 0 1) + 1))) fun M5 =>
some (Sum.inl (w32 (x1.1 + (-8)), M5))) FU (24, M)
set_option maxRecDepth 4000 in
theorem c_X11_tapeNumber {E : EE} {sh : List (Nat × Nat)} {ex : Bool} {R : RM} {M : MM} {p1 : Int} (hE : Ext sh) (hL : Links R) : ∀ y, f_X11_tapeNumber M p1 = some y → MetC E m_X11_tapeNumber 0 0 [rV 0, iV p1] (sh, ex, R, M) (fun r w' => r = none ∧ w' = (sh, ex, R, y)) := by
  intro y hy
  refine MetC.seg (o := f_X11_tapeNumber M p1) (t := (fun K y => K (none) (sh, ex, R, y))) (L := [some (rV 0), some (iV p1), none]) (by decide) rfl (Nat.le_of_ble_eq_true rfl) ?_ hy ⟨rfl, rfl⟩
  unfold f_X11_tapeNumber
  refine Seg.step (pc' := 2) (I_bipush dX11_tapeNumber_0 (by decide) ⟨by decide, by decide⟩) ?_
  refine Seg.step (pc' := 3) (I_istore_n (i := 2) dX11_tapeNumber_2 rfl (by decide) rfl) ?_
  refine Seg.forget (Lle.ye (Lle.ye (Lle.ye (Lle.nil)))) ?_
  refine S_loop (Y := Int × MM) (fun y => [some (rV 0), some (iV p1), some (iV y.1)]) (fun y => []) (fun y => (sh, ex, R, y.2)) (fun x1 => ?_) FU (24, M)
  refine Seg.step (pc' := 4) (I_iload_n (i := 2) dX11_tapeNumber_3 rfl rfl) ?_
  refine S_if_lt (tgt := 36) dX11_tapeNumber_4 (by decide) (fun h2 => ?_) (fun h2 => ?_)
  · exact S_vret dX11_tapeNumber_36 rfl (by decide) (by decide) (fun K hK => hK)
  refine Seg.step (pc' := 8) (I_aload_n (i := 0) dX11_tapeNumber_7 rfl rfl) ?_
  refine Seg.step (pc' := 11) (I_getR cls11 (by decide) wf_11_11 (hE _ _ sk_11) rfl (lk_11_0 hL) dX11_tapeNumber_8) ?_
  refine Seg.step (pc' := 12) (I_aload_n (i := 0) dX11_tapeNumber_11 rfl rfl) ?_
  refine Seg.step (pc' := 15) (I_getI cls11 (by decide) wf_11_67 (hE _ _ sk_11) rfl dX11_tapeNumber_12) ?_
  refine Seg.step (pc' := 16) (I_iload_n (i := 1) dX11_tapeNumber_15 rfl rfl) ?_
  refine Seg.step (pc' := 17) (I_iload_n (i := 2) dX11_tapeNumber_16 rfl rfl) ?_
  refine Seg.step (pc' := 18) (I_ishr dX11_tapeNumber_17) ?_
  refine Seg.step (pc' := 19) (I_i2b dX11_tapeNumber_18) ?_
  refine S_gd fun h3 => ?_
  refine Seg.step (pc' := 20) (I_bast (hE _ _ sk_11_0) h3 dX11_tapeNumber_19) ?_
  refine S_bM fun M4 => ?_
  refine Seg.step (pc' := 21) (I_aload_n (i := 0) dX11_tapeNumber_20 rfl rfl) ?_
  refine Seg.step (pc' := 22) (I_dup dX11_tapeNumber_21 (fun _ h => by cases h)) ?_
  refine Seg.step (pc' := 25) (I_getI cls11 (by decide) wf_11_67 (hE _ _ sk_11) rfl dX11_tapeNumber_22) ?_
  refine Seg.step (pc' := 26) (I_iconst dX11_tapeNumber_25 ⟨by decide, by decide⟩) ?_
  refine Seg.step (pc' := 27) (I_iadd dX11_tapeNumber_26) ?_
  refine Seg.step (pc' := 30) (I_putI cls11 (by decide) wf_11_67 (hE _ _ sk_11) rfl rfl dX11_tapeNumber_27) ?_
  refine S_bM fun M5 => ?_
  refine Seg.step (pc' := 33) (I_iinc dX11_tapeNumber_30 rfl (by decide) rfl) ?_
  refine Seg.step (pc' := 3) (I_goto (tgt := 3) dX11_tapeNumber_33 (by decide)) ?_
  exact S_arr (fun K hK => GG.forget (Lle.ye (Lle.ye (Lle.ye (Lle.nil)))) hK)
theorem dX11_feed_0 : decode cX11_feed 0 = .ok (.aload_n 0, 1) := by decide +kernel
theorem dX11_feed_1 : decode cX11_feed 1 = .ok (.getfield 67, 3) := by decide +kernel
theorem dX11_feed_4 : decode cX11_feed 4 = .ok (.bipush 20, 2) := by decide +kernel
theorem dX11_feed_6 : decode cX11_feed 6 = .ok (.iadd, 1) := by decide +kernel
theorem dX11_feed_7 : decode cX11_feed 7 = .ok (.sipush 700, 3) := by decide +kernel
theorem dX11_feed_10 : decode cX11_feed 10 = .ok (.if_icmp .le 5, 3) := by decide +kernel
theorem dX11_feed_13 : decode cX11_feed 13 = .ok (.iconst (-1), 1) := by decide +kernel
theorem dX11_feed_14 : decode cX11_feed 14 = .ok (.ireturn, 1) := by decide +kernel
theorem dX11_feed_15 : decode cX11_feed 15 = .ok (.aload_n 0, 1) := by decide +kernel
theorem dX11_feed_16 : decode cX11_feed 16 = .ok (.iload_n 1, 1) := by decide +kernel
theorem dX11_feed_17 : decode cX11_feed 17 = .ok (.invokevirtual 70, 3) := by decide +kernel
theorem dX11_feed_20 : decode cX11_feed 20 = .ok (.aload_n 0, 1) := by decide +kernel
theorem dX11_feed_21 : decode cX11_feed 21 = .ok (.iload_n 2, 1) := by decide +kernel
theorem dX11_feed_22 : decode cX11_feed 22 = .ok (.invokevirtual 70, 3) := by decide +kernel
theorem dX11_feed_25 : decode cX11_feed 25 = .ok (.aload_n 0, 1) := by decide +kernel
theorem dX11_feed_26 : decode cX11_feed 26 = .ok (.iload_n 3, 1) := by decide +kernel
theorem dX11_feed_27 : decode cX11_feed 27 = .ok (.invokevirtual 70, 3) := by decide +kernel
theorem dX11_feed_30 : decode cX11_feed 30 = .ok (.aload_n 0, 1) := by decide +kernel
theorem dX11_feed_31 : decode cX11_feed 31 = .ok (.iload 4, 2) := by decide +kernel
theorem dX11_feed_33 : decode cX11_feed 33 = .ok (.invokevirtual 70, 3) := by decide +kernel
theorem dX11_feed_36 : decode cX11_feed 36 = .ok (.aload_n 0, 1) := by decide +kernel
theorem dX11_feed_37 : decode cX11_feed 37 = .ok (.iload 5, 2) := by decide +kernel
theorem dX11_feed_39 : decode cX11_feed 39 = .ok (.invokevirtual 70, 3) := by decide +kernel
theorem dX11_feed_42 : decode cX11_feed 42 = .ok (.aload_n 0, 1) := by decide +kernel
theorem dX11_feed_43 : decode cX11_feed 43 = .ok (.getfield 67, 3) := by decide +kernel
theorem dX11_feed_46 : decode cX11_feed 46 = .ok (.ireturn, 1) := by decide +kernel
def f_X11_feed (M : MM) (p1 : Int) (p2 : Int) (p3 : Int) (p4 : Int) (p5 : Int) : Option (Int × MM) :=
if 700 < (w32 ((M 0 1) + 20)) then
(some ((-1), M))
else
(f_X11_tapeNumber M p1).bind fun x2 =>
(f_X11_tapeNumber x2 p2).bind fun x3 =>
(f_X11_tapeNumber x3 p3).bind fun x4 =>
(f_X11_tapeNumber x4 p4).bind fun x5 =>
(f_X11_tapeNumber x5 p5).bind fun x6 =>
some (x6 0 1, x6)
set_option maxRecDepth 4000 in
theorem c_X11_feed {E : EE} {sh : List (Nat × Nat)} {ex : Bool} {R : RM} {M : MM} {p1 : Int} {p2 : Int} {p3 : Int} {p4 : Int} {p5 : Int} (hE : Ext sh) (hL : Links R) : ∀ y, f_X11_feed M p1 p2 p3 p4 p5 = some y → MetC E m_X11_feed 0 0 [rV 0, iV p1, iV p2, iV p3, iV p4, iV p5] (sh, ex, R, M) (fun r w' => r = some (iV y.1) ∧ w' = (sh, ex, R, y.2)) := by
  intro y hy
  refine MetC.seg (o := f_X11_feed M p1 p2 p3 p4 p5) (t := (fun K y => K (some (iV y.1)) (sh, ex, R, y.2))) (L := [some (rV 0), some (iV p1), some (iV p2), some (iV p3), some (iV p4), some (iV p5)]) (by decide) rfl (Nat.le_of_ble_eq_true rfl) ?_ hy ⟨rfl, rfl⟩
  unfold f_X11_feed
  refine Seg.step (pc' := 1) (I_aload_n (i := 0) dX11_feed_0 rfl rfl) ?_
  refine Seg.step (pc' := 4) (I_getI cls11 (by decide) wf_11_67 (hE _ _ sk_11) rfl dX11_feed_1) ?_
  refine Seg.step (pc' := 6) (I_bipush dX11_feed_4 (by decide) ⟨by decide, by decide⟩) ?_
  refine Seg.step (pc' := 7) (I_iadd dX11_feed_6) ?_
  refine Seg.step (pc' := 10) (I_sipush dX11_feed_7 (by decide) ⟨by decide, by decide⟩) ?_
  refine S_icmp_le (tgt := 15) dX11_feed_10 (by decide) (fun h1 => ?_) (fun h1 => ?_)
  · refine Seg.step (pc' := 14) (I_iconst dX11_feed_13 ⟨by decide, by decide⟩) ?_
    exact S_iret dX11_feed_14 rfl (by decide) (by decide) (fun K hK => hK)
  refine Seg.step (pc' := 16) (I_aload_n (i := 0) dX11_feed_15 rfl rfl) ?_
  refine Seg.step (pc' := 17) (I_iload_n (i := 1) dX11_feed_16 rfl rfl) ?_
  refine S_callV1 (md' := m_X11_tapeNumber) (fun y => none) (fun y => (sh, ex, R, y)) (hE _ _ sk_11) ⟨by decide, rfl⟩ mm_X11_tapeNumber wm_11_70 ⟨rfl, rfl, by decide, by decide, by decide, by decide⟩ (Nat.le_of_ble_eq_true rfl) dX11_feed_17 (fun y hy => c_X11_tapeNumber hE hL y hy) (fun x2 => ?_)
  refine Seg.step (pc' := 21) (I_aload_n (i := 0) dX11_feed_20 rfl rfl) ?_
  refine Seg.step (pc' := 22) (I_iload_n (i := 2) dX11_feed_21 rfl rfl) ?_
  refine S_callV1 (md' := m_X11_tapeNumber) (fun y => none) (fun y => (sh, ex, R, y)) (hE _ _ sk_11) ⟨by decide, rfl⟩ mm_X11_tapeNumber wm_11_70 ⟨rfl, rfl, by decide, by decide, by decide, by decide⟩ (Nat.le_of_ble_eq_true rfl) dX11_feed_22 (fun y hy => c_X11_tapeNumber hE hL y hy) (fun x3 => ?_)
  refine Seg.step (pc' := 26) (I_aload_n (i := 0) dX11_feed_25 rfl rfl) ?_
  refine Seg.step (pc' := 27) (I_iload_n (i := 3) dX11_feed_26 rfl rfl) ?_
  refine S_callV1 (md' := m_X11_tapeNumber) (fun y => none) (fun y => (sh, ex, R, y)) (hE _ _ sk_11) ⟨by decide, rfl⟩ mm_X11_tapeNumber wm_11_70 ⟨rfl, rfl, by decide, by decide, by decide, by decide⟩ (Nat.le_of_ble_eq_true rfl) dX11_feed_27 (fun y hy => c_X11_tapeNumber hE hL y hy) (fun x4 => ?_)
  refine Seg.step (pc' := 31) (I_aload_n (i := 0) dX11_feed_30 rfl rfl) ?_
  refine Seg.step (pc' := 33) (I_iload dX11_feed_31 rfl) ?_
  refine S_callV1 (md' := m_X11_tapeNumber) (fun y => none) (fun y => (sh, ex, R, y)) (hE _ _ sk_11) ⟨by decide, rfl⟩ mm_X11_tapeNumber wm_11_70 ⟨rfl, rfl, by decide, by decide, by decide, by decide⟩ (Nat.le_of_ble_eq_true rfl) dX11_feed_33 (fun y hy => c_X11_tapeNumber hE hL y hy) (fun x5 => ?_)
  refine Seg.step (pc' := 37) (I_aload_n (i := 0) dX11_feed_36 rfl rfl) ?_
  refine Seg.step (pc' := 39) (I_iload dX11_feed_37 rfl) ?_
  refine S_callV1 (md' := m_X11_tapeNumber) (fun y => none) (fun y => (sh, ex, R, y)) (hE _ _ sk_11) ⟨by decide, rfl⟩ mm_X11_tapeNumber wm_11_70 ⟨rfl, rfl, by decide, by decide, by decide, by decide⟩ (Nat.le_of_ble_eq_true rfl) dX11_feed_39 (fun y hy => c_X11_tapeNumber hE hL y hy) (fun x6 => ?_)
  refine Seg.step (pc' := 43) (I_aload_n (i := 0) dX11_feed_42 rfl rfl) ?_
  refine Seg.step (pc' := 46) (I_getI cls11 (by decide) wf_11_67 (hE _ _ sk_11) rfl dX11_feed_43) ?_
  exact S_iret dX11_feed_46 rfl (by decide) (by decide) (fun K hK => hK)
theorem dX11_takeSpare_0 : decode cX11_takeSpare 0 = .ok (.aload_n 0, 1) := by decide +kernel
theorem dX11_takeSpare_1 : decode cX11_takeSpare 1 = .ok (.getfield 27, 3) := by decide +kernel
theorem dX11_takeSpare_4 : decode cX11_takeSpare 4 = .ok (.astore_n 1, 1) := by decide +kernel
theorem dX11_takeSpare_5 : decode cX11_takeSpare 5 = .ok (.aload_n 0, 1) := by decide +kernel
theorem dX11_takeSpare_6 : decode cX11_takeSpare 6 = .ok (.aload_n 0, 1) := by decide +kernel
theorem dX11_takeSpare_7 : decode cX11_takeSpare 7 = .ok (.getfield 31, 3) := by decide +kernel
theorem dX11_takeSpare_10 : decode cX11_takeSpare 10 = .ok (.putfield 27, 3) := by decide +kernel
theorem dX11_takeSpare_13 : decode cX11_takeSpare 13 = .ok (.aload_n 0, 1) := by decide +kernel
theorem dX11_takeSpare_14 : decode cX11_takeSpare 14 = .ok (.aload_n 1, 1) := by decide +kernel
theorem dX11_takeSpare_15 : decode cX11_takeSpare 15 = .ok (.putfield 31, 3) := by decide +kernel
theorem dX11_takeSpare_18 : decode cX11_takeSpare 18 = .ok (.aload_n 0, 1) := by decide +kernel
theorem dX11_takeSpare_19 : decode cX11_takeSpare 19 = .ok (.getfield 39, 3) := by decide +kernel
theorem dX11_takeSpare_22 : decode cX11_takeSpare 22 = .ok (.aload_n 0, 1) := by decide +kernel
theorem dX11_takeSpare_23 : decode cX11_takeSpare 23 = .ok (.getfield 27, 3) := by decide +kernel
theorem dX11_takeSpare_26 : decode cX11_takeSpare 26 = .ok (.invokevirtual 100, 3) := by decide +kernel
theorem dX11_takeSpare_29 : decode cX11_takeSpare 29 = .ok (.aload_n 0, 1) := by decide +kernel
theorem dX11_takeSpare_30 : decode cX11_takeSpare 30 = .ok (.iconst 0, 1) := by decide +kernel
theorem dX11_takeSpare_31 : decode cX11_takeSpare 31 = .ok (.putfield 102, 3) := by decide +kernel
theorem dX11_takeSpare_34 : decode cX11_takeSpare 34 = .ok (.aload_n 0, 1) := by decide +kernel
theorem dX11_takeSpare_35 : decode cX11_takeSpare 35 = .ok (.getfield 52, 3) := by decide +kernel
theorem dX11_takeSpare_38 : decode cX11_takeSpare 38 = .ok (.invokevirtual 106, 3) := by decide +kernel
theorem dX11_takeSpare_41 : decode cX11_takeSpare 41 = .ok (.aload_n 0, 1) := by decide +kernel
theorem dX11_takeSpare_42 : decode cX11_takeSpare 42 = .ok (.getfield 59, 3) := by decide +kernel
theorem dX11_takeSpare_45 : decode cX11_takeSpare 45 = .ok (.iconst 0, 1) := by decide +kernel
theorem dX11_takeSpare_46 : decode cX11_takeSpare 46 = .ok (.putfield 109, 3) := by decide +kernel
theorem dX11_takeSpare_49 : decode cX11_takeSpare 49 = .ok (.return_, 1) := by decide +kernel
def f_X11_takeSpare (M : MM)  : Option (MM) :=
gH (M 0 3) fun b1 =>
gH (M 0 4) fun b2 =>
bM (upM M 0 3 (b2 : Int)) fun M3 =>
bM (upM M3 0 4 (b1 : Int)) fun M4 =>
gH (M4 0 3) fun b5 =>
(f_X0_begin M4 54 b5).bind fun x6 =>
bM (upM x6 0 7 0) fun M7 =>
(f_X4_clear M7).bind fun x8 =>
bM (upM x8 84 0 0) fun M9 =>
some M9
set_option maxRecDepth 4000 in
theorem c_X11_takeSpare {E : EE} {sh : List (Nat × Nat)} {ex : Bool} {R : RM} {M : MM}  (hE : Ext sh) (hL : Links R) : ∀ y, f_X11_takeSpare M = some y → MetC E m_X11_takeSpare 0 0 [rV 0] (sh, ex, R, M) (fun r w' => r = none ∧ w' = (sh, ex, R, y)) := by
  intro y hy
  refine MetC.seg (o := f_X11_takeSpare M) (t := (fun K y => K (none) (sh, ex, R, y))) (L := [some (rV 0), none]) (by decide) rfl (Nat.le_of_ble_eq_true rfl) ?_ hy ⟨rfl, rfl⟩
  unfold f_X11_takeSpare
  refine Seg.step (pc' := 1) (I_aload_n (i := 0) dX11_takeSpare_0 rfl rfl) ?_
  refine S_gH fun b1 hb1 zb1 => ?_
  refine Seg.step (pc' := 4) (I_getH cls11 (by decide) wf_11_27 (hE _ _ sk_11) rfl zb1 (hkp hb1) dX11_takeSpare_1) ?_
  refine Seg.step (pc' := 5) (I_astore_n (i := 1) dX11_takeSpare_4 rfl (by decide) rfl) ?_
  refine Seg.step (pc' := 6) (I_aload_n (i := 0) dX11_takeSpare_5 rfl rfl) ?_
  refine Seg.step (pc' := 7) (I_aload_n (i := 0) dX11_takeSpare_6 rfl rfl) ?_
  refine S_gH fun b2 hb2 zb2 => ?_
  refine Seg.step (pc' := 10) (I_getH cls11 (by decide) wf_11_31 (hE _ _ sk_11) rfl zb2 (hkp hb2) dX11_takeSpare_7) ?_
  refine Seg.step (pc' := 13) (I_putH cls11 (by decide) wf_11_27 (hE _ _ sk_11) rfl (hkq (hks hb2)) rfl dX11_takeSpare_10) ?_
  refine S_bM fun M3 => ?_
  refine Seg.step (pc' := 14) (I_aload_n (i := 0) dX11_takeSpare_13 rfl rfl) ?_
  refine Seg.step (pc' := 15) (I_aload_n (i := 1) dX11_takeSpare_14 rfl rfl) ?_
  refine Seg.step (pc' := 18) (I_putH cls11 (by decide) wf_11_31 (hE _ _ sk_11) rfl (hkq (hks hb1)) rfl dX11_takeSpare_15) ?_
  refine S_bM fun M4 => ?_
  refine Seg.step (pc' := 19) (I_aload_n (i := 0) dX11_takeSpare_18 rfl rfl) ?_
  refine Seg.step (pc' := 22) (I_getR cls11 (by decide) wf_11_39 (hE _ _ sk_11) rfl (lk_11_5 hL) dX11_takeSpare_19) ?_
  refine Seg.step (pc' := 23) (I_aload_n (i := 0) dX11_takeSpare_22 rfl rfl) ?_
  refine S_gH fun b5 hb5 zb5 => ?_
  refine Seg.step (pc' := 26) (I_getH cls11 (by decide) wf_11_27 (hE _ _ sk_11) rfl zb5 (hkp hb5) dX11_takeSpare_23) ?_
  refine S_callV1 (md' := m_X0_begin) (fun y => none) (fun y => (sh, ex, R, y)) (hE _ _ sk_11_5) ⟨by decide, rfl⟩ mm_X0_begin wm_11_100 ⟨rfl, rfl, by decide, by decide, by decide, by decide⟩ (Nat.le_of_ble_eq_true rfl) dX11_takeSpare_26 (fun y hy => c_X0_begin hE hL sk_11_5 (hks hb5) y hy) (fun x6 => ?_)
  refine Seg.step (pc' := 30) (I_aload_n (i := 0) dX11_takeSpare_29 rfl rfl) ?_
  refine Seg.step (pc' := 31) (I_iconst dX11_takeSpare_30 ⟨by decide, by decide⟩) ?_
  refine Seg.step (pc' := 34) (I_putZ cls11 (by decide) wf_11_102 (hE _ _ sk_11) rfl rfl (by decide) dX11_takeSpare_31) ?_
  refine S_bM fun M7 => ?_
  refine Seg.step (pc' := 35) (I_aload_n (i := 0) dX11_takeSpare_34 rfl rfl) ?_
  refine Seg.step (pc' := 38) (I_getR cls11 (by decide) wf_11_52 (hE _ _ sk_11) rfl (lk_11_9 hL) dX11_takeSpare_35) ?_
  refine S_callV0 (md' := m_X4_clear) (fun y => none) (fun y => (sh, ex, R, y)) (hE _ _ sk_11_9) ⟨by decide, rfl⟩ mm_X4_clear wm_11_106 ⟨rfl, rfl, by decide, by decide, by decide, by decide⟩ (Nat.le_of_ble_eq_true rfl) dX11_takeSpare_38 (fun y hy => c_X4_clear hE hL y hy) (fun x8 => ?_)
  refine Seg.step (pc' := 42) (I_aload_n (i := 0) dX11_takeSpare_41 rfl rfl) ?_
  refine Seg.step (pc' := 45) (I_getR cls11 (by decide) wf_11_59 (hE _ _ sk_11) rfl (lk_11_10 hL) dX11_takeSpare_42) ?_
  refine Seg.step (pc' := 46) (I_iconst dX11_takeSpare_45 ⟨by decide, by decide⟩) ?_
  refine Seg.step (pc' := 49) (I_putI cls5 (by decide) wf_11_109 (hE _ _ sk_11_10) rfl rfl dX11_takeSpare_46) ?_
  refine S_bM fun M9 => ?_
  exact S_vret dX11_takeSpare_49 rfl (by decide) (by decide) (fun K hK => hK)
theorem dX11_text_0 : decode cX11_text 0 = .ok (.iload_n 1, 1) := by decide +kernel
theorem dX11_text_1 : decode cX11_text 1 = .ok (.ifCond .lt 11, 3) := by decide +kernel
theorem dX11_text_4 : decode cX11_text 4 = .ok (.iload_n 1, 1) := by decide +kernel
theorem dX11_text_5 : decode cX11_text 5 = .ok (.aload_n 0, 1) := by decide +kernel
theorem dX11_text_6 : decode cX11_text 6 = .ok (.getfield 67, 3) := by decide +kernel
theorem dX11_text_9 : decode cX11_text 9 = .ok (.if_icmp .le 6, 3) := by decide +kernel
theorem dX11_text_12 : decode cX11_text 12 = .ok (.bipush (-2), 2) := by decide +kernel
theorem dX11_text_14 : decode cX11_text 14 = .ok (.ireturn, 1) := by decide +kernel
theorem dX11_text_15 : decode cX11_text 15 = .ok (.aload_n 0, 1) := by decide +kernel
theorem dX11_text_16 : decode cX11_text 16 = .ok (.iconst 0, 1) := by decide +kernel
theorem dX11_text_17 : decode cX11_text 17 = .ok (.putfield 67, 3) := by decide +kernel
theorem dX11_text_20 : decode cX11_text 20 = .ok (.aload_n 0, 1) := by decide +kernel
theorem dX11_text_21 : decode cX11_text 21 = .ok (.getfield 20, 3) := by decide +kernel
theorem dX11_text_24 : decode cX11_text 24 = .ok (.iload_n 1, 1) := by decide +kernel
theorem dX11_text_25 : decode cX11_text 25 = .ok (.aload_n 0, 1) := by decide +kernel
theorem dX11_text_26 : decode cX11_text 26 = .ok (.getfield 31, 3) := by decide +kernel
theorem dX11_text_29 : decode cX11_text 29 = .ok (.invokevirtual 74, 3) := by decide +kernel
theorem dX11_text_32 : decode cX11_text 32 = .ok (.iconst 1, 1) := by decide +kernel
theorem dX11_text_33 : decode cX11_text 33 = .ok (.istore_n 2, 1) := by decide +kernel
theorem dX11_text_34 : decode cX11_text 34 = .ok (.iconst 0, 1) := by decide +kernel
theorem dX11_text_35 : decode cX11_text 35 = .ok (.istore_n 3, 1) := by decide +kernel
theorem dX11_text_36 : decode cX11_text 36 = .ok (.iload_n 3, 1) := by decide +kernel
theorem dX11_text_37 : decode cX11_text 37 = .ok (.iload_n 1, 1) := by decide +kernel
theorem dX11_text_38 : decode cX11_text 38 = .ok (.if_icmp .ge 31, 3) := by decide +kernel
theorem dX11_text_41 : decode cX11_text 41 = .ok (.iload_n 2, 1) := by decide +kernel
theorem dX11_text_42 : decode cX11_text 42 = .ok (.ifCond .eq 27, 3) := by decide +kernel
theorem dX11_text_45 : decode cX11_text 45 = .ok (.aload_n 0, 1) := by decide +kernel
theorem dX11_text_46 : decode cX11_text 46 = .ok (.getfield 20, 3) := by decide +kernel
theorem dX11_text_49 : decode cX11_text 49 = .ok (.invokevirtual 78, 3) := by decide +kernel
theorem dX11_text_52 : decode cX11_text 52 = .ok (.ifCond .eq 17, 3) := by decide +kernel
theorem dX11_text_55 : decode cX11_text 55 = .ok (.aload_n 0, 1) := by decide +kernel
theorem dX11_text_56 : decode cX11_text 56 = .ok (.getfield 20, 3) := by decide +kernel
theorem dX11_text_59 : decode cX11_text 59 = .ok (.invokevirtual 82, 3) := by decide +kernel
theorem dX11_text_62 : decode cX11_text 62 = .ok (.istore_n 2, 1) := by decide +kernel
theorem dX11_text_63 : decode cX11_text 63 = .ok (.iinc 3 1, 3) := by decide +kernel
theorem dX11_text_66 : decode cX11_text 66 = .ok (.goto (-30), 3) := by decide +kernel
theorem dX11_text_69 : decode cX11_text 69 = .ok (.aload_n 0, 1) := by decide +kernel
theorem dX11_text_70 : decode cX11_text 70 = .ok (.aload_n 0, 1) := by decide +kernel
theorem dX11_text_71 : decode cX11_text 71 = .ok (.getfield 20, 3) := by decide +kernel
theorem dX11_text_74 : decode cX11_text 74 = .ok (.getfield 85, 3) := by decide +kernel
theorem dX11_text_77 : decode cX11_text 77 = .ok (.putfield 88, 3) := by decide +kernel
theorem dX11_text_80 : decode cX11_text 80 = .ok (.aload_n 0, 1) := by decide +kernel
theorem dX11_text_81 : decode cX11_text 81 = .ok (.aload_n 0, 1) := by decide +kernel
theorem dX11_text_82 : decode cX11_text 82 = .ok (.getfield 20, 3) := by decide +kernel
theorem dX11_text_85 : decode cX11_text 85 = .ok (.getfield 91, 3) := by decide +kernel
theorem dX11_text_88 : decode cX11_text 88 = .ok (.putfield 63, 3) := by decide +kernel
theorem dX11_text_91 : decode cX11_text 91 = .ok (.iload_n 2, 1) := by decide +kernel
theorem dX11_text_92 : decode cX11_text 92 = .ok (.ifCond .ne 5, 3) := by decide +kernel
theorem dX11_text_95 : decode cX11_text 95 = .ok (.iconst (-1), 1) := by decide +kernel
theorem dX11_text_96 : decode cX11_text 96 = .ok (.ireturn, 1) := by decide +kernel
theorem dX11_text_97 : decode cX11_text 97 = .ok (.aload_n 0, 1) := by decide +kernel
theorem dX11_text_98 : decode cX11_text 98 = .ok (.invokevirtual 94, 3) := by decide +kernel
theorem dX11_text_101 : decode cX11_text 101 = .ok (.aload_n 0, 1) := by decide +kernel
theorem dX11_text_102 : decode cX11_text 102 = .ok (.getfield 27, 3) := by decide +kernel
theorem dX11_text_105 : decode cX11_text 105 = .ok (.getfield 97, 3) := by decide +kernel
theorem dX11_text_108 : decode cX11_text 108 = .ok (.ireturn, 1) := by decide +kernel
def f_X11_text (M : MM) (p1 : Int) : Option (Int × MM) :=
if p1 < 0 then
(some ((-2), M))
else
if (M 0 1) < p1 then
(some ((-2), M))
else
bM (upM M 0 1 0) fun M3 =>
gH (M3 0 4) fun b4 =>
(f_X7_begin M3 p1 b4).bind fun x5 =>
(lp (X := Int × Int × MM) (Y := Int × MM) (fun x6 =>
if x6.2.1 < p1 then
(if x6.1 = 0 then
(some (Sum.inr (x6.1, x6.2.2)))
else
(f_X7_isMore x6.2.2).bind fun x9 =>
if x9 = 0 then
(some (Sum.inr (x6.1, x6.2.2)))
else
(f_X7_readLine x6.2.2).bind fun x11 =>
some (Sum.inl (x11.1, w32 (x6.2.1 + 1), x11.2)))
else
some (Sum.inr (x6.1, x6.2.2))) FU (1, 0, x5)).bind fun x12 =>
bM (upM x12.2 0 11 (x12.2 2 5)) fun M13 =>
bM (upM M13 0 12 (M13 2 6)) fun M14 =>
if x12.1 = 0 then
(some ((-1), M14))
else
(f_X11_takeSpare M14).bind fun x16 =>
gH (x16 0 3) fun b17 =>
some (x16 b17 14, x16)
set_option maxRecDepth 4000 in
theorem c_X11_text {E : EE} {sh : List (Nat × Nat)} {ex : Bool} {R : RM} {M : MM} {p1 : Int} (hE : Ext sh) (hL : Links R) : ∀ y, f_X11_text M p1 = some y → MetC E m_X11_text 0 0 [rV 0, iV p1] (sh, ex, R, M) (fun r w' => r = some (iV y.1) ∧ w' = (sh, ex, R, y.2)) := by
  intro y hy
  refine MetC.seg (o := f_X11_text M p1) (t := (fun K y => K (some (iV y.1)) (sh, ex, R, y.2))) (L := [some (rV 0), some (iV p1), none, none]) (by decide) rfl (Nat.le_of_ble_eq_true rfl) ?_ hy ⟨rfl, rfl⟩
  unfold f_X11_text
  refine Seg.step (pc' := 1) (I_iload_n (i := 1) dX11_text_0 rfl rfl) ?_
  refine S_if_lt (tgt := 12) dX11_text_1 (by decide) (fun h1 => ?_) (fun h1 => ?_)
  · refine Seg.step (pc' := 14) (I_bipush dX11_text_12 (by decide) ⟨by decide, by decide⟩) ?_
    exact S_iret dX11_text_14 rfl (by decide) (by decide) (fun K hK => hK)
  refine Seg.step (pc' := 5) (I_iload_n (i := 1) dX11_text_4 rfl rfl) ?_
  refine Seg.step (pc' := 6) (I_aload_n (i := 0) dX11_text_5 rfl rfl) ?_
  refine Seg.step (pc' := 9) (I_getI cls11 (by decide) wf_11_67 (hE _ _ sk_11) rfl dX11_text_6) ?_
  refine S_icmp_le (tgt := 15) dX11_text_9 (by decide) (fun h2 => ?_) (fun h2 => ?_)
  · refine Seg.step (pc' := 14) (I_bipush dX11_text_12 (by decide) ⟨by decide, by decide⟩) ?_
    exact S_iret dX11_text_14 rfl (by decide) (by decide) (fun K hK => hK)
  refine Seg.step (pc' := 16) (I_aload_n (i := 0) dX11_text_15 rfl rfl) ?_
  refine Seg.step (pc' := 17) (I_iconst dX11_text_16 ⟨by decide, by decide⟩) ?_
  refine Seg.step (pc' := 20) (I_putI cls11 (by decide) wf_11_67 (hE _ _ sk_11) rfl rfl dX11_text_17) ?_
  refine S_bM fun M3 => ?_
  refine Seg.step (pc' := 21) (I_aload_n (i := 0) dX11_text_20 rfl rfl) ?_
  refine Seg.step (pc' := 24) (I_getR cls11 (by decide) wf_11_20 (hE _ _ sk_11) rfl (lk_11_2 hL) dX11_text_21) ?_
  refine Seg.step (pc' := 25) (I_iload_n (i := 1) dX11_text_24 rfl rfl) ?_
  refine Seg.step (pc' := 26) (I_aload_n (i := 0) dX11_text_25 rfl rfl) ?_
  refine S_gH fun b4 hb4 zb4 => ?_
  refine Seg.step (pc' := 29) (I_getH cls11 (by decide) wf_11_31 (hE _ _ sk_11) rfl zb4 (hkp hb4) dX11_text_26) ?_
  refine S_callV2 (md' := m_X7_begin) (fun y => none) (fun y => (sh, ex, R, y)) (hE _ _ sk_11_2) ⟨by decide, rfl⟩ mm_X7_begin wm_11_74 ⟨rfl, rfl, by decide, by decide, by decide, by decide⟩ (Nat.le_of_ble_eq_true rfl) dX11_text_29 (fun y hy => c_X7_begin hE hL (hks hb4) y hy) (fun x5 => ?_)
  refine Seg.step (pc' := 33) (I_iconst dX11_text_32 ⟨by decide, by decide⟩) ?_
  refine Seg.step (pc' := 34) (I_istore_n (i := 2) dX11_text_33 rfl (by decide) rfl) ?_
  refine Seg.step (pc' := 35) (I_iconst dX11_text_34 ⟨by decide, by decide⟩) ?_
  refine Seg.step (pc' := 36) (I_istore_n (i := 3) dX11_text_35 rfl (by decide) rfl) ?_
  refine Seg.forget (Lle.ye (Lle.ye (Lle.ye (Lle.ye (Lle.nil))))) ?_
  refine S_bind (Y := Int × MM) (k' := 0) (n' := 0) 69 (fun y => [some (rV 0), none, some (iV y.1), none]) (fun y => []) (fun y => (sh, ex, R, y.2)) (S_loop (Y := Int × Int × MM) (fun y => [some (rV 0), some (iV p1), some (iV y.1), some (iV y.2.1)]) (fun y => []) (fun y => (sh, ex, R, y.2.2)) (fun x6 => ?_) FU (1, 0, x5)) (fun x12 => ?_)
  · refine Seg.step (pc' := 37) (I_iload_n (i := 3) dX11_text_36 rfl rfl) ?_
    refine Seg.step (pc' := 38) (I_iload_n (i := 1) dX11_text_37 rfl rfl) ?_
    refine S_icmp_ge (tgt := 69) dX11_text_38 (by decide) (fun h7 => ?_) (fun h7 => ?_)
    · refine Seg.step (pc' := 42) (I_iload_n (i := 2) dX11_text_41 rfl rfl) ?_
      refine S_if_eq (tgt := 69) dX11_text_42 (by decide) (fun h8 => ?_) (fun h8 => ?_)
      · exact S_arr (fun K hK => GG.forget (Lle.ye (Lle.no (Lle.ye (Lle.no (Lle.nil))))) hK)
      refine Seg.step (pc' := 46) (I_aload_n (i := 0) dX11_text_45 rfl rfl) ?_
      refine Seg.step (pc' := 49) (I_getR cls11 (by decide) wf_11_20 (hE _ _ sk_11) rfl (lk_11_2 hL) dX11_text_46) ?_
      refine S_callV0 (md' := m_X7_isMore) (fun y => some (iV y)) (fun y => (sh, ex, R, x6.2.2)) (hE _ _ sk_11_2) ⟨by decide, rfl⟩ mm_X7_isMore wm_11_78 ⟨rfl, rfl, by decide, by decide, by decide, by decide⟩ (Nat.le_of_ble_eq_true rfl) dX11_text_49 (fun y hy => c_X7_isMore hE hL y hy) (fun x9 => ?_)
      refine S_if_eq (tgt := 69) dX11_text_52 (by decide) (fun h10 => ?_) (fun h10 => ?_)
      · exact S_arr (fun K hK => GG.forget (Lle.ye (Lle.no (Lle.ye (Lle.no (Lle.nil))))) hK)
      refine Seg.step (pc' := 56) (I_aload_n (i := 0) dX11_text_55 rfl rfl) ?_
      refine Seg.step (pc' := 59) (I_getR cls11 (by decide) wf_11_20 (hE _ _ sk_11) rfl (lk_11_2 hL) dX11_text_56) ?_
      refine S_callV0 (md' := m_X7_readLine) (fun y => some (iV y.1)) (fun y => (sh, ex, R, y.2)) (hE _ _ sk_11_2) ⟨by decide, rfl⟩ mm_X7_readLine wm_11_82 ⟨rfl, rfl, by decide, by decide, by decide, by decide⟩ (Nat.le_of_ble_eq_true rfl) dX11_text_59 (fun y hy => c_X7_readLine hE hL y hy) (fun x11 => ?_)
      refine Seg.step (pc' := 63) (I_istore_n (i := 2) dX11_text_62 rfl (by decide) rfl) ?_
      refine Seg.step (pc' := 66) (I_iinc dX11_text_63 rfl (by decide) rfl) ?_
      refine Seg.step (pc' := 36) (I_goto (tgt := 36) dX11_text_66 (by decide)) ?_
      exact S_arr (fun K hK => GG.forget (Lle.ye (Lle.ye (Lle.ye (Lle.ye (Lle.nil))))) hK)
    exact S_arr (fun K hK => GG.forget (Lle.ye (Lle.no (Lle.ye (Lle.no (Lle.nil))))) hK)
  refine Seg.step (pc' := 70) (I_aload_n (i := 0) dX11_text_69 rfl rfl) ?_
  refine Seg.step (pc' := 71) (I_aload_n (i := 0) dX11_text_70 rfl rfl) ?_
  refine Seg.step (pc' := 74) (I_getR cls11 (by decide) wf_11_20 (hE _ _ sk_11) rfl (lk_11_2 hL) dX11_text_71) ?_
  refine Seg.step (pc' := 77) (I_getI cls7 (by decide) wf_11_85 (hE _ _ sk_11_2) rfl dX11_text_74) ?_
  refine Seg.step (pc' := 80) (I_putI cls11 (by decide) wf_11_88 (hE _ _ sk_11) rfl rfl dX11_text_77) ?_
  refine S_bM fun M13 => ?_
  refine Seg.step (pc' := 81) (I_aload_n (i := 0) dX11_text_80 rfl rfl) ?_
  refine Seg.step (pc' := 82) (I_aload_n (i := 0) dX11_text_81 rfl rfl) ?_
  refine Seg.step (pc' := 85) (I_getR cls11 (by decide) wf_11_20 (hE _ _ sk_11) rfl (lk_11_2 hL) dX11_text_82) ?_
  refine Seg.step (pc' := 88) (I_getI cls7 (by decide) wf_11_91 (hE _ _ sk_11_2) rfl dX11_text_85) ?_
  refine Seg.step (pc' := 91) (I_putI cls11 (by decide) wf_11_63 (hE _ _ sk_11) rfl rfl dX11_text_88) ?_
  refine S_bM fun M14 => ?_
  refine Seg.step (pc' := 92) (I_iload_n (i := 2) dX11_text_91 rfl rfl) ?_
  refine S_if_ne (tgt := 97) dX11_text_92 (by decide) (fun h15 => ?_) (fun h15 => ?_)
  · refine Seg.step (pc' := 96) (I_iconst dX11_text_95 ⟨by decide, by decide⟩) ?_
    exact S_iret dX11_text_96 rfl (by decide) (by decide) (fun K hK => hK)
  refine Seg.step (pc' := 98) (I_aload_n (i := 0) dX11_text_97 rfl rfl) ?_
  refine S_callV0 (md' := m_X11_takeSpare) (fun y => none) (fun y => (sh, ex, R, y)) (hE _ _ sk_11) ⟨by decide, rfl⟩ mm_X11_takeSpare wm_11_94 ⟨rfl, rfl, by decide, by decide, by decide, by decide⟩ (Nat.le_of_ble_eq_true rfl) dX11_text_98 (fun y hy => c_X11_takeSpare hE hL y hy) (fun x16 => ?_)
  refine Seg.step (pc' := 102) (I_aload_n (i := 0) dX11_text_101 rfl rfl) ?_
  refine S_gH fun b17 hb17 zb17 => ?_
  refine Seg.step (pc' := 105) (I_getH cls11 (by decide) wf_11_27 (hE _ _ sk_11) rfl zb17 (hkp hb17) dX11_text_102) ?_
  refine Seg.step (pc' := 108) (I_getI cls2 (by decide) wf_11_97 (hE _ _ (hks hb17)) rfl dX11_text_105) ?_
  exact S_iret dX11_text_108 rfl (by decide) (by decide) (fun K hK => hK)
theorem dX11_fault_0 : decode cX11_fault 0 = .ok (.iload_n 1, 1) := by decide +kernel
theorem dX11_fault_1 : decode cX11_fault 1 = .ok (.ifCond .ne 8, 3) := by decide +kernel
theorem dX11_fault_4 : decode cX11_fault 4 = .ok (.aload_n 0, 1) := by decide +kernel
theorem dX11_fault_5 : decode cX11_fault 5 = .ok (.getfield 88, 3) := by decide +kernel
theorem dX11_fault_8 : decode cX11_fault 8 = .ok (.ireturn, 1) := by decide +kernel
theorem dX11_fault_9 : decode cX11_fault 9 = .ok (.iload_n 1, 1) := by decide +kernel
theorem dX11_fault_10 : decode cX11_fault 10 = .ok (.iconst 1, 1) := by decide +kernel
theorem dX11_fault_11 : decode cX11_fault 11 = .ok (.if_icmp .ne 10, 3) := by decide +kernel
theorem dX11_fault_14 : decode cX11_fault 14 = .ok (.aload_n 0, 1) := by decide +kernel
theorem dX11_fault_15 : decode cX11_fault 15 = .ok (.getfield 63, 3) := by decide +kernel
theorem dX11_fault_18 : decode cX11_fault 18 = .ok (.goto 4, 3) := by decide +kernel
theorem dX11_fault_21 : decode cX11_fault 21 = .ok (.iconst (-1), 1) := by decide +kernel
theorem dX11_fault_22 : decode cX11_fault 22 = .ok (.ireturn, 1) := by decide +kernel
def f_X11_fault (M : MM) (p1 : Int) : Option (Int) :=
if p1 = 0 then
(some (M 0 11))
else
if p1 = 1 then
(some (M 0 12))
else
some (-1)
set_option maxRecDepth 4000 in
theorem c_X11_fault {E : EE} {sh : List (Nat × Nat)} {ex : Bool} {R : RM} {M : MM} {p1 : Int} (hE : Ext sh) (hL : Links R) : ∀ y, f_X11_fault M p1 = some y → MetC E m_X11_fault 0 0 [rV 0, iV p1] (sh, ex, R, M) (fun r w' => r = some (iV y) ∧ w' = (sh, ex, R, M)) := by
  intro y hy
  refine MetC.seg (o := f_X11_fault M p1) (t := (fun K y => K (some (iV y)) (sh, ex, R, M))) (L := [some (rV 0), some (iV p1)]) (by decide) rfl (Nat.le_of_ble_eq_true rfl) ?_ hy ⟨rfl, rfl⟩
  unfold f_X11_fault
  refine Seg.step (pc' := 1) (I_iload_n (i := 1) dX11_fault_0 rfl rfl) ?_
  refine S_if_ne (tgt := 9) dX11_fault_1 (by decide) (fun h1 => ?_) (fun h1 => ?_)
  · refine Seg.step (pc' := 5) (I_aload_n (i := 0) dX11_fault_4 rfl rfl) ?_
    refine Seg.step (pc' := 8) (I_getI cls11 (by decide) wf_11_88 (hE _ _ sk_11) rfl dX11_fault_5) ?_
    exact S_iret dX11_fault_8 rfl (by decide) (by decide) (fun K hK => hK)
  refine Seg.step (pc' := 10) (I_iload_n (i := 1) dX11_fault_9 rfl rfl) ?_
  refine Seg.step (pc' := 11) (I_iconst dX11_fault_10 ⟨by decide, by decide⟩) ?_
  refine S_icmp_ne (tgt := 21) dX11_fault_11 (by decide) (fun h2 => ?_) (fun h2 => ?_)
  · refine Seg.step (pc' := 15) (I_aload_n (i := 0) dX11_fault_14 rfl rfl) ?_
    refine Seg.step (pc' := 18) (I_getI cls11 (by decide) wf_11_63 (hE _ _ sk_11) rfl dX11_fault_15) ?_
    refine Seg.step (pc' := 22) (I_goto (tgt := 22) dX11_fault_18 (by decide)) ?_
    exact S_iret dX11_fault_22 rfl (by decide) (by decide) (fun K hK => hK)
  refine Seg.step (pc' := 22) (I_iconst dX11_fault_21 ⟨by decide, by decide⟩) ?_
  exact S_iret dX11_fault_22 rfl (by decide) (by decide) (fun K hK => hK)
theorem dX11_named_0 : decode cX11_named 0 = .ok (.iload_n 1, 1) := by decide +kernel
theorem dX11_named_1 : decode cX11_named 1 = .ok (.ifCond .ne 28, 3) := by decide +kernel
theorem dX11_named_4 : decode cX11_named 4 = .ok (.iload_n 2, 1) := by decide +kernel
theorem dX11_named_5 : decode cX11_named 5 = .ok (.aload_n 0, 1) := by decide +kernel
theorem dX11_named_6 : decode cX11_named 6 = .ok (.getfield 27, 3) := by decide +kernel
theorem dX11_named_9 : decode cX11_named 9 = .ok (.getfield 112, 3) := by decide +kernel
theorem dX11_named_12 : decode cX11_named 12 = .ok (.getfield 116, 3) := by decide +kernel
theorem dX11_named_15 : decode cX11_named 15 = .ok (.aload_n 0, 1) := by decide +kernel
theorem dX11_named_16 : decode cX11_named 16 = .ok (.getfield 27, 3) := by decide +kernel
theorem dX11_named_19 : decode cX11_named 19 = .ok (.getfield 112, 3) := by decide +kernel
theorem dX11_named_22 : decode cX11_named 22 = .ok (.getfield 122, 3) := by decide +kernel
theorem dX11_named_25 : decode cX11_named 25 = .ok (.invokestatic 123, 3) := by decide +kernel
theorem dX11_named_28 : decode cX11_named 28 = .ok (.ireturn, 1) := by decide +kernel
theorem dX11_named_29 : decode cX11_named 29 = .ok (.iload_n 1, 1) := by decide +kernel
theorem dX11_named_30 : decode cX11_named 30 = .ok (.iconst 1, 1) := by decide +kernel
theorem dX11_named_31 : decode cX11_named 31 = .ok (.if_icmp .ne 30, 3) := by decide +kernel
theorem dX11_named_34 : decode cX11_named 34 = .ok (.iload_n 2, 1) := by decide +kernel
theorem dX11_named_35 : decode cX11_named 35 = .ok (.aload_n 0, 1) := by decide +kernel
theorem dX11_named_36 : decode cX11_named 36 = .ok (.getfield 27, 3) := by decide +kernel
theorem dX11_named_39 : decode cX11_named 39 = .ok (.getfield 127, 3) := by decide +kernel
theorem dX11_named_42 : decode cX11_named 42 = .ok (.getfield 131, 3) := by decide +kernel
theorem dX11_named_45 : decode cX11_named 45 = .ok (.aload_n 0, 1) := by decide +kernel
theorem dX11_named_46 : decode cX11_named 46 = .ok (.getfield 27, 3) := by decide +kernel
theorem dX11_named_49 : decode cX11_named 49 = .ok (.getfield 127, 3) := by decide +kernel
theorem dX11_named_52 : decode cX11_named 52 = .ok (.getfield 134, 3) := by decide +kernel
theorem dX11_named_55 : decode cX11_named 55 = .ok (.invokestatic 123, 3) := by decide +kernel
theorem dX11_named_58 : decode cX11_named 58 = .ok (.goto 4, 3) := by decide +kernel
theorem dX11_named_61 : decode cX11_named 61 = .ok (.iconst (-1), 1) := by decide +kernel
theorem dX11_named_62 : decode cX11_named 62 = .ok (.ireturn, 1) := by decide +kernel
def f_X11_named (M : MM) (p1 : Int) (p2 : Int) : Option (Int) :=
if p1 = 0 then
(gH (M 0 3) fun b2 =>
gH (M 0 3) fun b3 =>
(f_X11_placeOf M p2 (b2 + 2) 5 (M (b3 + 1) 0)).bind fun x4 =>
some x4)
else
if p1 = 1 then
(gH (M 0 3) fun b6 =>
gH (M 0 3) fun b7 =>
(f_X11_placeOf M p2 (b6 + 7) 5 (M (b7 + 6) 0)).bind fun x8 =>
some x8)
else
some (-1)
set_option maxRecDepth 4000 in
theorem c_X11_named {E : EE} {sh : List (Nat × Nat)} {ex : Bool} {R : RM} {M : MM} {p1 : Int} {p2 : Int} (hE : Ext sh) (hL : Links R) : ∀ y, f_X11_named M p1 p2 = some y → MetC E m_X11_named 0 0 [rV 0, iV p1, iV p2] (sh, ex, R, M) (fun r w' => r = some (iV y) ∧ w' = (sh, ex, R, M)) := by
  intro y hy
  refine MetC.seg (o := f_X11_named M p1 p2) (t := (fun K y => K (some (iV y)) (sh, ex, R, M))) (L := [some (rV 0), some (iV p1), some (iV p2)]) (by decide) rfl (Nat.le_of_ble_eq_true rfl) ?_ hy ⟨rfl, rfl⟩
  unfold f_X11_named
  refine Seg.step (pc' := 1) (I_iload_n (i := 1) dX11_named_0 rfl rfl) ?_
  refine S_if_ne (tgt := 29) dX11_named_1 (by decide) (fun h1 => ?_) (fun h1 => ?_)
  · refine Seg.step (pc' := 5) (I_iload_n (i := 2) dX11_named_4 rfl rfl) ?_
    refine Seg.step (pc' := 6) (I_aload_n (i := 0) dX11_named_5 rfl rfl) ?_
    refine S_gH fun b2 hb2 zb2 => ?_
    refine Seg.step (pc' := 9) (I_getH cls11 (by decide) wf_11_27 (hE _ _ sk_11) rfl zb2 (hkp hb2) dX11_named_6) ?_
    refine Seg.step (pc' := 12) (I_getR cls2 (by decide) wf_11_112 (hE _ _ (hks hb2)) rfl (lk_2_0 hL (hks hb2)) dX11_named_9) ?_
    refine Seg.step (pc' := 15) (I_getR cls8 (by decide) wf_11_116 (hE _ _ (sk_2_0 (hks hb2))) rfl (lk_8_1 hL (sk_2_0 (hks hb2))) dX11_named_12) ?_
    refine Seg.step (pc' := 16) (I_aload_n (i := 0) dX11_named_15 rfl rfl) ?_
    refine S_gH fun b3 hb3 zb3 => ?_
    refine Seg.step (pc' := 19) (I_getH cls11 (by decide) wf_11_27 (hE _ _ sk_11) rfl zb3 (hkp hb3) dX11_named_16) ?_
    refine Seg.step (pc' := 22) (I_getR cls2 (by decide) wf_11_112 (hE _ _ (hks hb3)) rfl (lk_2_0 hL (hks hb3)) dX11_named_19) ?_
    refine Seg.step (pc' := 25) (I_getI cls8 (by decide) wf_11_122 (hE _ _ (sk_2_0 (hks hb3))) rfl dX11_named_22) ?_
    refine S_callS3 (md' := m_X11_placeOf) (fun y => some (iV y)) (fun y => (sh, ex, R, M)) mm_X11_placeOf wm_11_123 ⟨rfl, rfl, by decide, by decide, by decide, by decide⟩ (Nat.le_of_ble_eq_true rfl) dX11_named_25 (fun y hy => c_X11_placeOf hE hL (sk_8_1 (sk_2_0 (hks hb2))) y hy) (fun x4 => ?_)
    exact S_iret dX11_named_28 rfl (by decide) (by decide) (fun K hK => hK)
  refine Seg.step (pc' := 30) (I_iload_n (i := 1) dX11_named_29 rfl rfl) ?_
  refine Seg.step (pc' := 31) (I_iconst dX11_named_30 ⟨by decide, by decide⟩) ?_
  refine S_icmp_ne (tgt := 61) dX11_named_31 (by decide) (fun h5 => ?_) (fun h5 => ?_)
  · refine Seg.step (pc' := 35) (I_iload_n (i := 2) dX11_named_34 rfl rfl) ?_
    refine Seg.step (pc' := 36) (I_aload_n (i := 0) dX11_named_35 rfl rfl) ?_
    refine S_gH fun b6 hb6 zb6 => ?_
    refine Seg.step (pc' := 39) (I_getH cls11 (by decide) wf_11_27 (hE _ _ sk_11) rfl zb6 (hkp hb6) dX11_named_36) ?_
    refine Seg.step (pc' := 42) (I_getR cls2 (by decide) wf_11_127 (hE _ _ (hks hb6)) rfl (lk_2_1 hL (hks hb6)) dX11_named_39) ?_
    refine Seg.step (pc' := 45) (I_getR cls6 (by decide) wf_11_131 (hE _ _ (sk_2_1 (hks hb6))) rfl (lk_6_1 hL (sk_2_1 (hks hb6))) dX11_named_42) ?_
    refine Seg.step (pc' := 46) (I_aload_n (i := 0) dX11_named_45 rfl rfl) ?_
    refine S_gH fun b7 hb7 zb7 => ?_
    refine Seg.step (pc' := 49) (I_getH cls11 (by decide) wf_11_27 (hE _ _ sk_11) rfl zb7 (hkp hb7) dX11_named_46) ?_
    refine Seg.step (pc' := 52) (I_getR cls2 (by decide) wf_11_127 (hE _ _ (hks hb7)) rfl (lk_2_1 hL (hks hb7)) dX11_named_49) ?_
    refine Seg.step (pc' := 55) (I_getI cls6 (by decide) wf_11_134 (hE _ _ (sk_2_1 (hks hb7))) rfl dX11_named_52) ?_
    refine S_callS3 (md' := m_X11_placeOf) (fun y => some (iV y)) (fun y => (sh, ex, R, M)) mm_X11_placeOf wm_11_123 ⟨rfl, rfl, by decide, by decide, by decide, by decide⟩ (Nat.le_of_ble_eq_true rfl) dX11_named_55 (fun y hy => c_X11_placeOf hE hL (sk_6_1 (sk_2_1 (hks hb6))) y hy) (fun x8 => ?_)
    refine Seg.step (pc' := 62) (I_goto (tgt := 62) dX11_named_58 (by decide)) ?_
    exact S_iret dX11_named_62 rfl (by decide) (by decide) (fun K hK => hK)
  refine Seg.step (pc' := 62) (I_iconst dX11_named_61 ⟨by decide, by decide⟩) ?_
  exact S_iret dX11_named_62 rfl (by decide) (by decide) (fun K hK => hK)
theorem dX11_isRoom_0 : decode cX11_isRoom 0 = .ok (.iload_n 1, 1) := by decide +kernel
theorem dX11_isRoom_1 : decode cX11_isRoom 1 = .ok (.ifCond .lt 21, 3) := by decide +kernel
theorem dX11_isRoom_4 : decode cX11_isRoom 4 = .ok (.iload_n 1, 1) := by decide +kernel
theorem dX11_isRoom_5 : decode cX11_isRoom 5 = .ok (.aload_n 0, 1) := by decide +kernel
theorem dX11_isRoom_6 : decode cX11_isRoom 6 = .ok (.getfield 27, 3) := by decide +kernel
theorem dX11_isRoom_9 : decode cX11_isRoom 9 = .ok (.getfield 112, 3) := by decide +kernel
theorem dX11_isRoom_12 : decode cX11_isRoom 12 = .ok (.getfield 122, 3) := by decide +kernel
theorem dX11_isRoom_15 : decode cX11_isRoom 15 = .ok (.if_icmp .ge 7, 3) := by decide +kernel
theorem dX11_isRoom_18 : decode cX11_isRoom 18 = .ok (.iconst 1, 1) := by decide +kernel
theorem dX11_isRoom_19 : decode cX11_isRoom 19 = .ok (.goto 4, 3) := by decide +kernel
theorem dX11_isRoom_22 : decode cX11_isRoom 22 = .ok (.iconst 0, 1) := by decide +kernel
theorem dX11_isRoom_23 : decode cX11_isRoom 23 = .ok (.ireturn, 1) := by decide +kernel
def f_X11_isRoom (M : MM) (p1 : Int) : Option (Int) :=
if p1 < 0 then
(some 0)
else
gH (M 0 3) fun b2 =>
if p1 < (M (b2 + 1) 0) then
(some 1)
else
some 0
set_option maxRecDepth 4000 in
theorem c_X11_isRoom {E : EE} {sh : List (Nat × Nat)} {ex : Bool} {R : RM} {M : MM} {p1 : Int} (hE : Ext sh) (hL : Links R) : ∀ y, f_X11_isRoom M p1 = some y → MetC E m_X11_isRoom 0 0 [rV 0, iV p1] (sh, ex, R, M) (fun r w' => r = some (iV y) ∧ w' = (sh, ex, R, M)) := by
  intro y hy
  refine MetC.seg (o := f_X11_isRoom M p1) (t := (fun K y => K (some (iV y)) (sh, ex, R, M))) (L := [some (rV 0), some (iV p1)]) (by decide) rfl (Nat.le_of_ble_eq_true rfl) ?_ hy ⟨rfl, rfl⟩
  unfold f_X11_isRoom
  refine Seg.step (pc' := 1) (I_iload_n (i := 1) dX11_isRoom_0 rfl rfl) ?_
  refine S_if_lt (tgt := 22) dX11_isRoom_1 (by decide) (fun h1 => ?_) (fun h1 => ?_)
  · refine Seg.step (pc' := 23) (I_iconst dX11_isRoom_22 ⟨by decide, by decide⟩) ?_
    exact S_zret dX11_isRoom_23 rfl (by decide) (by decide) (by decide) (fun K hK => hK)
  refine Seg.step (pc' := 5) (I_iload_n (i := 1) dX11_isRoom_4 rfl rfl) ?_
  refine Seg.step (pc' := 6) (I_aload_n (i := 0) dX11_isRoom_5 rfl rfl) ?_
  refine S_gH fun b2 hb2 zb2 => ?_
  refine Seg.step (pc' := 9) (I_getH cls11 (by decide) wf_11_27 (hE _ _ sk_11) rfl zb2 (hkp hb2) dX11_isRoom_6) ?_
  refine Seg.step (pc' := 12) (I_getR cls2 (by decide) wf_11_112 (hE _ _ (hks hb2)) rfl (lk_2_0 hL (hks hb2)) dX11_isRoom_9) ?_
  refine Seg.step (pc' := 15) (I_getI cls8 (by decide) wf_11_122 (hE _ _ (sk_2_0 (hks hb2))) rfl dX11_isRoom_12) ?_
  refine S_icmp_ge (tgt := 22) dX11_isRoom_15 (by decide) (fun h3 => ?_) (fun h3 => ?_)
  · refine Seg.step (pc' := 19) (I_iconst dX11_isRoom_18 ⟨by decide, by decide⟩) ?_
    refine Seg.step (pc' := 23) (I_goto (tgt := 23) dX11_isRoom_19 (by decide)) ?_
    exact S_zret dX11_isRoom_23 rfl (by decide) (by decide) (by decide) (fun K hK => hK)
  refine Seg.step (pc' := 23) (I_iconst dX11_isRoom_22 ⟨by decide, by decide⟩) ?_
  exact S_zret dX11_isRoom_23 rfl (by decide) (by decide) (by decide) (fun K hK => hK)
theorem dX11_isPerson_0 : decode cX11_isPerson 0 = .ok (.iload_n 1, 1) := by decide +kernel
theorem dX11_isPerson_1 : decode cX11_isPerson 1 = .ok (.ifCond .lt 21, 3) := by decide +kernel
theorem dX11_isPerson_4 : decode cX11_isPerson 4 = .ok (.iload_n 1, 1) := by decide +kernel
theorem dX11_isPerson_5 : decode cX11_isPerson 5 = .ok (.aload_n 0, 1) := by decide +kernel
theorem dX11_isPerson_6 : decode cX11_isPerson 6 = .ok (.getfield 27, 3) := by decide +kernel
theorem dX11_isPerson_9 : decode cX11_isPerson 9 = .ok (.getfield 127, 3) := by decide +kernel
theorem dX11_isPerson_12 : decode cX11_isPerson 12 = .ok (.getfield 134, 3) := by decide +kernel
theorem dX11_isPerson_15 : decode cX11_isPerson 15 = .ok (.if_icmp .ge 7, 3) := by decide +kernel
theorem dX11_isPerson_18 : decode cX11_isPerson 18 = .ok (.iconst 1, 1) := by decide +kernel
theorem dX11_isPerson_19 : decode cX11_isPerson 19 = .ok (.goto 4, 3) := by decide +kernel
theorem dX11_isPerson_22 : decode cX11_isPerson 22 = .ok (.iconst 0, 1) := by decide +kernel
theorem dX11_isPerson_23 : decode cX11_isPerson 23 = .ok (.ireturn, 1) := by decide +kernel
def f_X11_isPerson (M : MM) (p1 : Int) : Option (Int) :=
if p1 < 0 then
(some 0)
else
gH (M 0 3) fun b2 =>
if p1 < (M (b2 + 6) 0) then
(some 1)
else
some 0
set_option maxRecDepth 4000 in
theorem c_X11_isPerson {E : EE} {sh : List (Nat × Nat)} {ex : Bool} {R : RM} {M : MM} {p1 : Int} (hE : Ext sh) (hL : Links R) : ∀ y, f_X11_isPerson M p1 = some y → MetC E m_X11_isPerson 0 0 [rV 0, iV p1] (sh, ex, R, M) (fun r w' => r = some (iV y) ∧ w' = (sh, ex, R, M)) := by
  intro y hy
  refine MetC.seg (o := f_X11_isPerson M p1) (t := (fun K y => K (some (iV y)) (sh, ex, R, M))) (L := [some (rV 0), some (iV p1)]) (by decide) rfl (Nat.le_of_ble_eq_true rfl) ?_ hy ⟨rfl, rfl⟩
  unfold f_X11_isPerson
  refine Seg.step (pc' := 1) (I_iload_n (i := 1) dX11_isPerson_0 rfl rfl) ?_
  refine S_if_lt (tgt := 22) dX11_isPerson_1 (by decide) (fun h1 => ?_) (fun h1 => ?_)
  · refine Seg.step (pc' := 23) (I_iconst dX11_isPerson_22 ⟨by decide, by decide⟩) ?_
    exact S_zret dX11_isPerson_23 rfl (by decide) (by decide) (by decide) (fun K hK => hK)
  refine Seg.step (pc' := 5) (I_iload_n (i := 1) dX11_isPerson_4 rfl rfl) ?_
  refine Seg.step (pc' := 6) (I_aload_n (i := 0) dX11_isPerson_5 rfl rfl) ?_
  refine S_gH fun b2 hb2 zb2 => ?_
  refine Seg.step (pc' := 9) (I_getH cls11 (by decide) wf_11_27 (hE _ _ sk_11) rfl zb2 (hkp hb2) dX11_isPerson_6) ?_
  refine Seg.step (pc' := 12) (I_getR cls2 (by decide) wf_11_127 (hE _ _ (hks hb2)) rfl (lk_2_1 hL (hks hb2)) dX11_isPerson_9) ?_
  refine Seg.step (pc' := 15) (I_getI cls6 (by decide) wf_11_134 (hE _ _ (sk_2_1 (hks hb2))) rfl dX11_isPerson_12) ?_
  refine S_icmp_ge (tgt := 22) dX11_isPerson_15 (by decide) (fun h3 => ?_) (fun h3 => ?_)
  · refine Seg.step (pc' := 19) (I_iconst dX11_isPerson_18 ⟨by decide, by decide⟩) ?_
    refine Seg.step (pc' := 23) (I_goto (tgt := 23) dX11_isPerson_19 (by decide)) ?_
    exact S_zret dX11_isPerson_23 rfl (by decide) (by decide) (by decide) (fun K hK => hK)
  refine Seg.step (pc' := 23) (I_iconst dX11_isPerson_22 ⟨by decide, by decide⟩) ?_
  exact S_zret dX11_isPerson_23 rfl (by decide) (by decide) (by decide) (fun K hK => hK)
theorem dX11_areTwo_0 : decode cX11_areTwo 0 = .ok (.aload_n 0, 1) := by decide +kernel
theorem dX11_areTwo_1 : decode cX11_areTwo 1 = .ok (.iload_n 1, 1) := by decide +kernel
theorem dX11_areTwo_2 : decode cX11_areTwo 2 = .ok (.invokevirtual 135, 3) := by decide +kernel
theorem dX11_areTwo_5 : decode cX11_areTwo 5 = .ok (.ifCond .eq 20, 3) := by decide +kernel
theorem dX11_areTwo_8 : decode cX11_areTwo 8 = .ok (.aload_n 0, 1) := by decide +kernel
theorem dX11_areTwo_9 : decode cX11_areTwo 9 = .ok (.iload_n 2, 1) := by decide +kernel
theorem dX11_areTwo_10 : decode cX11_areTwo 10 = .ok (.invokevirtual 135, 3) := by decide +kernel
theorem dX11_areTwo_13 : decode cX11_areTwo 13 = .ok (.ifCond .eq 12, 3) := by decide +kernel
theorem dX11_areTwo_16 : decode cX11_areTwo 16 = .ok (.iload_n 1, 1) := by decide +kernel
theorem dX11_areTwo_17 : decode cX11_areTwo 17 = .ok (.iload_n 2, 1) := by decide +kernel
theorem dX11_areTwo_18 : decode cX11_areTwo 18 = .ok (.if_icmp .eq 7, 3) := by decide +kernel
theorem dX11_areTwo_21 : decode cX11_areTwo 21 = .ok (.iconst 1, 1) := by decide +kernel
theorem dX11_areTwo_22 : decode cX11_areTwo 22 = .ok (.goto 4, 3) := by decide +kernel
theorem dX11_areTwo_25 : decode cX11_areTwo 25 = .ok (.iconst 0, 1) := by decide +kernel
theorem dX11_areTwo_26 : decode cX11_areTwo 26 = .ok (.ireturn, 1) := by decide +kernel
def f_X11_areTwo (M : MM) (p1 : Int) (p2 : Int) : Option (Int) :=
(f_X11_isPerson M p1).bind fun x1 =>
if x1 = 0 then
(some 0)
else
(f_X11_isPerson M p2).bind fun x3 =>
if x3 = 0 then
(some 0)
else
if p1 = p2 then
(some 0)
else
some 1
set_option maxRecDepth 4000 in
theorem c_X11_areTwo {E : EE} {sh : List (Nat × Nat)} {ex : Bool} {R : RM} {M : MM} {p1 : Int} {p2 : Int} (hE : Ext sh) (hL : Links R) : ∀ y, f_X11_areTwo M p1 p2 = some y → MetC E m_X11_areTwo 0 0 [rV 0, iV p1, iV p2] (sh, ex, R, M) (fun r w' => r = some (iV y) ∧ w' = (sh, ex, R, M)) := by
  intro y hy
  refine MetC.seg (o := f_X11_areTwo M p1 p2) (t := (fun K y => K (some (iV y)) (sh, ex, R, M))) (L := [some (rV 0), some (iV p1), some (iV p2)]) (by decide) rfl (Nat.le_of_ble_eq_true rfl) ?_ hy ⟨rfl, rfl⟩
  unfold f_X11_areTwo
  refine Seg.step (pc' := 1) (I_aload_n (i := 0) dX11_areTwo_0 rfl rfl) ?_
  refine Seg.step (pc' := 2) (I_iload_n (i := 1) dX11_areTwo_1 rfl rfl) ?_
  refine S_callV1 (md' := m_X11_isPerson) (fun y => some (iV y)) (fun y => (sh, ex, R, M)) (hE _ _ sk_11) ⟨by decide, rfl⟩ mm_X11_isPerson wm_11_135 ⟨rfl, rfl, by decide, by decide, by decide, by decide⟩ (Nat.le_of_ble_eq_true rfl) dX11_areTwo_2 (fun y hy => c_X11_isPerson hE hL y hy) (fun x1 => ?_)
  refine S_if_eq (tgt := 25) dX11_areTwo_5 (by decide) (fun h2 => ?_) (fun h2 => ?_)
  · refine Seg.step (pc' := 26) (I_iconst dX11_areTwo_25 ⟨by decide, by decide⟩) ?_
    exact S_zret dX11_areTwo_26 rfl (by decide) (by decide) (by decide) (fun K hK => hK)
  refine Seg.step (pc' := 9) (I_aload_n (i := 0) dX11_areTwo_8 rfl rfl) ?_
  refine Seg.step (pc' := 10) (I_iload_n (i := 2) dX11_areTwo_9 rfl rfl) ?_
  refine S_callV1 (md' := m_X11_isPerson) (fun y => some (iV y)) (fun y => (sh, ex, R, M)) (hE _ _ sk_11) ⟨by decide, rfl⟩ mm_X11_isPerson wm_11_135 ⟨rfl, rfl, by decide, by decide, by decide, by decide⟩ (Nat.le_of_ble_eq_true rfl) dX11_areTwo_10 (fun y hy => c_X11_isPerson hE hL y hy) (fun x3 => ?_)
  refine S_if_eq (tgt := 25) dX11_areTwo_13 (by decide) (fun h4 => ?_) (fun h4 => ?_)
  · refine Seg.step (pc' := 26) (I_iconst dX11_areTwo_25 ⟨by decide, by decide⟩) ?_
    exact S_zret dX11_areTwo_26 rfl (by decide) (by decide) (by decide) (fun K hK => hK)
  refine Seg.step (pc' := 17) (I_iload_n (i := 1) dX11_areTwo_16 rfl rfl) ?_
  refine Seg.step (pc' := 18) (I_iload_n (i := 2) dX11_areTwo_17 rfl rfl) ?_
  refine S_icmp_eq (tgt := 25) dX11_areTwo_18 (by decide) (fun h5 => ?_) (fun h5 => ?_)
  · refine Seg.step (pc' := 26) (I_iconst dX11_areTwo_25 ⟨by decide, by decide⟩) ?_
    exact S_zret dX11_areTwo_26 rfl (by decide) (by decide) (by decide) (fun K hK => hK)
  refine Seg.step (pc' := 22) (I_iconst dX11_areTwo_21 ⟨by decide, by decide⟩) ?_
  refine Seg.step (pc' := 26) (I_goto (tgt := 26) dX11_areTwo_22 (by decide)) ?_
  exact S_zret dX11_areTwo_26 rfl (by decide) (by decide) (by decide) (fun K hK => hK)
theorem dX11_isSet_0 : decode cX11_isSet 0 = .ok (.iload_n 0, 1) := by decide +kernel
theorem dX11_isSet_1 : decode cX11_isSet 1 = .ok (.iconst 5, 1) := by decide +kernel
theorem dX11_isSet_2 : decode cX11_isSet 2 = .ok (.bipush 30, 2) := by decide +kernel
theorem dX11_isSet_4 : decode cX11_isSet 4 = .ok (.invokestatic 139, 3) := by decide +kernel
theorem dX11_isSet_7 : decode cX11_isSet 7 = .ok (.ireturn, 1) := by decide +kernel
def f_X11_isSet (M : MM) (p1 : Int) : Option (Int) :=
(f_X11_isWithin M p1 5 30).bind fun x1 =>
gd (x1 = 0 ∨ x1 = 1) <|
some x1
set_option maxRecDepth 4000 in
theorem c_X11_isSet {E : EE} {sh : List (Nat × Nat)} {ex : Bool} {R : RM} {M : MM} {p1 : Int} (hE : Ext sh) (hL : Links R) : ∀ y, f_X11_isSet M p1 = some y → MetC E m_X11_isSet 0 0 [iV p1] (sh, ex, R, M) (fun r w' => r = some (iV y) ∧ w' = (sh, ex, R, M)) := by
  intro y hy
  refine MetC.seg (o := f_X11_isSet M p1) (t := (fun K y => K (some (iV y)) (sh, ex, R, M))) (L := [some (iV p1)]) (by decide) rfl (Nat.le_of_ble_eq_true rfl) ?_ hy ⟨rfl, rfl⟩
  unfold f_X11_isSet
  refine Seg.step (pc' := 1) (I_iload_n (i := 0) dX11_isSet_0 rfl rfl) ?_
  refine Seg.step (pc' := 2) (I_iconst dX11_isSet_1 ⟨by decide, by decide⟩) ?_
  refine Seg.step (pc' := 4) (I_bipush dX11_isSet_2 (by decide) ⟨by decide, by decide⟩) ?_
  refine S_callS3 (md' := m_X11_isWithin) (fun y => some (iV y)) (fun y => (sh, ex, R, M)) mm_X11_isWithin wm_11_139 ⟨rfl, rfl, by decide, by decide, by decide, by decide⟩ (Nat.le_of_ble_eq_true rfl) dX11_isSet_4 (fun y hy => c_X11_isWithin hE hL y hy) (fun x1 => ?_)
  refine S_gd fun h2 => ?_
  exact S_zret dX11_isSet_7 rfl h2 (by decide) (by decide) (fun K hK => hK)
theorem dX11_room_0 : decode cX11_room 0 = .ok (.aload_n 0, 1) := by decide +kernel
theorem dX11_room_1 : decode cX11_room 1 = .ok (.iload_n 1, 1) := by decide +kernel
theorem dX11_room_2 : decode cX11_room 2 = .ok (.invokevirtual 178, 3) := by decide +kernel
theorem dX11_room_5 : decode cX11_room 5 = .ok (.ifCond .ne 5, 3) := by decide +kernel
theorem dX11_room_8 : decode cX11_room 8 = .ok (.iconst (-1), 1) := by decide +kernel
theorem dX11_room_9 : decode cX11_room 9 = .ok (.ireturn, 1) := by decide +kernel
theorem dX11_room_10 : decode cX11_room 10 = .ok (.iload_n 2, 1) := by decide +kernel
theorem dX11_room_11 : decode cX11_room 11 = .ok (.tableswitch 84 0 3 #[29, 39, 52, 65], 29) := by decide +kernel
theorem dX11_room_40 : decode cX11_room 40 = .ok (.aload_n 0, 1) := by decide +kernel
theorem dX11_room_41 : decode cX11_room 41 = .ok (.getfield 39, 3) := by decide +kernel
theorem dX11_room_44 : decode cX11_room 44 = .ok (.getfield 181, 3) := by decide +kernel
theorem dX11_room_47 : decode cX11_room 47 = .ok (.iload_n 1, 1) := by decide +kernel
theorem dX11_room_48 : decode cX11_room 48 = .ok (.iaload, 1) := by decide +kernel
theorem dX11_room_49 : decode cX11_room 49 = .ok (.ireturn, 1) := by decide +kernel
theorem dX11_room_50 : decode cX11_room 50 = .ok (.aload_n 0, 1) := by decide +kernel
theorem dX11_room_51 : decode cX11_room 51 = .ok (.getfield 27, 3) := by decide +kernel
theorem dX11_room_54 : decode cX11_room 54 = .ok (.getfield 112, 3) := by decide +kernel
theorem dX11_room_57 : decode cX11_room 57 = .ok (.getfield 184, 3) := by decide +kernel
theorem dX11_room_60 : decode cX11_room 60 = .ok (.iload_n 1, 1) := by decide +kernel
theorem dX11_room_61 : decode cX11_room 61 = .ok (.iaload, 1) := by decide +kernel
theorem dX11_room_62 : decode cX11_room 62 = .ok (.ireturn, 1) := by decide +kernel
theorem dX11_room_63 : decode cX11_room 63 = .ok (.aload_n 0, 1) := by decide +kernel
theorem dX11_room_64 : decode cX11_room 64 = .ok (.getfield 27, 3) := by decide +kernel
theorem dX11_room_67 : decode cX11_room 67 = .ok (.getfield 112, 3) := by decide +kernel
theorem dX11_room_70 : decode cX11_room 70 = .ok (.getfield 187, 3) := by decide +kernel
theorem dX11_room_73 : decode cX11_room 73 = .ok (.iload_n 1, 1) := by decide +kernel
theorem dX11_room_74 : decode cX11_room 74 = .ok (.iaload, 1) := by decide +kernel
theorem dX11_room_75 : decode cX11_room 75 = .ok (.ireturn, 1) := by decide +kernel
theorem dX11_room_76 : decode cX11_room 76 = .ok (.aload_n 0, 1) := by decide +kernel
theorem dX11_room_77 : decode cX11_room 77 = .ok (.getfield 27, 3) := by decide +kernel
theorem dX11_room_80 : decode cX11_room 80 = .ok (.iload_n 1, 1) := by decide +kernel
theorem dX11_room_81 : decode cX11_room 81 = .ok (.aload_n 0, 1) := by decide +kernel
theorem dX11_room_82 : decode cX11_room 82 = .ok (.getfield 39, 3) := by decide +kernel
theorem dX11_room_85 : decode cX11_room 85 = .ok (.getfield 190, 3) := by decide +kernel
theorem dX11_room_88 : decode cX11_room 88 = .ok (.bipush 24, 2) := by decide +kernel
theorem dX11_room_90 : decode cX11_room 90 = .ok (.irem, 1) := by decide +kernel
theorem dX11_room_91 : decode cX11_room 91 = .ok (.invokevirtual 193, 3) := by decide +kernel
theorem dX11_room_94 : decode cX11_room 94 = .ok (.ireturn, 1) := by decide +kernel
theorem dX11_room_95 : decode cX11_room 95 = .ok (.iconst (-1), 1) := by decide +kernel
theorem dX11_room_96 : decode cX11_room 96 = .ok (.ireturn, 1) := by decide +kernel
def f_X11_room (M : MM) (p1 : Int) (p2 : Int) : Option (Int) :=
(f_X11_isRoom M p1).bind fun x1 =>
if x1 = 0 then
(some (-1))
else
if p2 = 0 then
(gd (0 ≤ p1 ∧ p1 < (30 : Int)) <|
some (M 57 (p1).toNat))
else
if p2 = 1 then
(gH (M 0 3) fun b6 =>
gd (0 ≤ p1 ∧ p1 < (5 : Int)) <|
some (M (b6 + 4) (p1).toNat))
else
if p2 = 2 then
(gH (M 0 3) fun b9 =>
gd (0 ≤ p1 ∧ p1 < (5 : Int)) <|
some (M (b9 + 5) (p1).toNat))
else
if p2 = 3 then
(gH (M 0 3) fun b12 =>
(f_X2_sunOn M b12 p1 (w32 (Int.tmod (M 54 2) 24))).bind fun x13 =>
some x13)
else
some (-1)
set_option maxRecDepth 4000 in
theorem c_X11_room {E : EE} {sh : List (Nat × Nat)} {ex : Bool} {R : RM} {M : MM} {p1 : Int} {p2 : Int} (hE : Ext sh) (hL : Links R) : ∀ y, f_X11_room M p1 p2 = some y → MetC E m_X11_room 0 0 [rV 0, iV p1, iV p2] (sh, ex, R, M) (fun r w' => r = some (iV y) ∧ w' = (sh, ex, R, M)) := by
  intro y hy
  refine MetC.seg (o := f_X11_room M p1 p2) (t := (fun K y => K (some (iV y)) (sh, ex, R, M))) (L := [some (rV 0), some (iV p1), some (iV p2)]) (by decide) rfl (Nat.le_of_ble_eq_true rfl) ?_ hy ⟨rfl, rfl⟩
  unfold f_X11_room
  refine Seg.step (pc' := 1) (I_aload_n (i := 0) dX11_room_0 rfl rfl) ?_
  refine Seg.step (pc' := 2) (I_iload_n (i := 1) dX11_room_1 rfl rfl) ?_
  refine S_callV1 (md' := m_X11_isRoom) (fun y => some (iV y)) (fun y => (sh, ex, R, M)) (hE _ _ sk_11) ⟨by decide, rfl⟩ mm_X11_isRoom wm_11_178 ⟨rfl, rfl, by decide, by decide, by decide, by decide⟩ (Nat.le_of_ble_eq_true rfl) dX11_room_2 (fun y hy => c_X11_isRoom hE hL y hy) (fun x1 => ?_)
  refine S_if_ne (tgt := 10) dX11_room_5 (by decide) (fun h2 => ?_) (fun h2 => ?_)
  · refine Seg.step (pc' := 9) (I_iconst dX11_room_8 ⟨by decide, by decide⟩) ?_
    exact S_iret dX11_room_9 rfl (by decide) (by decide) (fun K hK => hK)
  refine Seg.step (pc' := 11) (I_iload_n (i := 2) dX11_room_10 rfl rfl) ?_
  refine S_ite (fun h3 => ?_) (fun h3 => ?_)
  · refine Seg.step (I_tsw (v := 0) (off := 29) (tgt := 40) dX11_room_11 h3 (by decide) rfl (by decide)) ?_
    refine Seg.step (pc' := 41) (I_aload_n (i := 0) dX11_room_40 rfl rfl) ?_
    refine Seg.step (pc' := 44) (I_getR cls11 (by decide) wf_11_39 (hE _ _ sk_11) rfl (lk_11_5 hL) dX11_room_41) ?_
    refine Seg.step (pc' := 47) (I_getR cls0 (by decide) wf_11_181 (hE _ _ sk_11_5) rfl (lk_0_8 hL sk_11_5) dX11_room_44) ?_
    refine Seg.step (pc' := 48) (I_iload_n (i := 1) dX11_room_47 rfl rfl) ?_
    refine S_gd fun h4 => ?_
    refine Seg.step (pc' := 49) (I_iald (hE _ _ (sk_0_8 sk_11_5)) h4 dX11_room_48) ?_
    exact S_iret dX11_room_49 rfl (by decide) (by decide) (fun K hK => hK)
  refine S_ite (fun h5 => ?_) (fun h5 => ?_)
  · refine Seg.step (I_tsw (v := 1) (off := 39) (tgt := 50) dX11_room_11 h5 (by decide) rfl (by decide)) ?_
    refine Seg.step (pc' := 51) (I_aload_n (i := 0) dX11_room_50 rfl rfl) ?_
    refine S_gH fun b6 hb6 zb6 => ?_
    refine Seg.step (pc' := 54) (I_getH cls11 (by decide) wf_11_27 (hE _ _ sk_11) rfl zb6 (hkp hb6) dX11_room_51) ?_
    refine Seg.step (pc' := 57) (I_getR cls2 (by decide) wf_11_112 (hE _ _ (hks hb6)) rfl (lk_2_0 hL (hks hb6)) dX11_room_54) ?_
    refine Seg.step (pc' := 60) (I_getR cls8 (by decide) wf_11_184 (hE _ _ (sk_2_0 (hks hb6))) rfl (lk_8_3 hL (sk_2_0 (hks hb6))) dX11_room_57) ?_
    refine Seg.step (pc' := 61) (I_iload_n (i := 1) dX11_room_60 rfl rfl) ?_
    refine S_gd fun h7 => ?_
    refine Seg.step (pc' := 62) (I_iald (hE _ _ (sk_8_3 (sk_2_0 (hks hb6)))) h7 dX11_room_61) ?_
    exact S_iret dX11_room_62 rfl (by decide) (by decide) (fun K hK => hK)
  refine S_ite (fun h8 => ?_) (fun h8 => ?_)
  · refine Seg.step (I_tsw (v := 2) (off := 52) (tgt := 63) dX11_room_11 h8 (by decide) rfl (by decide)) ?_
    refine Seg.step (pc' := 64) (I_aload_n (i := 0) dX11_room_63 rfl rfl) ?_
    refine S_gH fun b9 hb9 zb9 => ?_
    refine Seg.step (pc' := 67) (I_getH cls11 (by decide) wf_11_27 (hE _ _ sk_11) rfl zb9 (hkp hb9) dX11_room_64) ?_
    refine Seg.step (pc' := 70) (I_getR cls2 (by decide) wf_11_112 (hE _ _ (hks hb9)) rfl (lk_2_0 hL (hks hb9)) dX11_room_67) ?_
    refine Seg.step (pc' := 73) (I_getR cls8 (by decide) wf_11_187 (hE _ _ (sk_2_0 (hks hb9))) rfl (lk_8_4 hL (sk_2_0 (hks hb9))) dX11_room_70) ?_
    refine Seg.step (pc' := 74) (I_iload_n (i := 1) dX11_room_73 rfl rfl) ?_
    refine S_gd fun h10 => ?_
    refine Seg.step (pc' := 75) (I_iald (hE _ _ (sk_8_4 (sk_2_0 (hks hb9)))) h10 dX11_room_74) ?_
    exact S_iret dX11_room_75 rfl (by decide) (by decide) (fun K hK => hK)
  refine S_ite (fun h11 => ?_) (fun h11 => ?_)
  · refine Seg.step (I_tsw (v := 3) (off := 65) (tgt := 76) dX11_room_11 h11 (by decide) rfl (by decide)) ?_
    refine Seg.step (pc' := 77) (I_aload_n (i := 0) dX11_room_76 rfl rfl) ?_
    refine S_gH fun b12 hb12 zb12 => ?_
    refine Seg.step (pc' := 80) (I_getH cls11 (by decide) wf_11_27 (hE _ _ sk_11) rfl zb12 (hkp hb12) dX11_room_77) ?_
    refine Seg.step (pc' := 81) (I_iload_n (i := 1) dX11_room_80 rfl rfl) ?_
    refine Seg.step (pc' := 82) (I_aload_n (i := 0) dX11_room_81 rfl rfl) ?_
    refine Seg.step (pc' := 85) (I_getR cls11 (by decide) wf_11_39 (hE _ _ sk_11) rfl (lk_11_5 hL) dX11_room_82) ?_
    refine Seg.step (pc' := 88) (I_getI cls0 (by decide) wf_11_190 (hE _ _ sk_11_5) rfl dX11_room_85) ?_
    refine Seg.step (pc' := 90) (I_bipush dX11_room_88 (by decide) ⟨by decide, by decide⟩) ?_
    refine Seg.step (pc' := 91) (I_irem dX11_room_90 (by decide)) ?_
    refine S_callV2 (md' := m_X2_sunOn) (fun y => some (iV y)) (fun y => (sh, ex, R, M)) (hE _ _ (hks hb12)) ⟨by decide, rfl⟩ mm_X2_sunOn wm_11_193 ⟨rfl, rfl, by decide, by decide, by decide, by decide⟩ (Nat.le_of_ble_eq_true rfl) dX11_room_91 (fun y hy => c_X2_sunOn hE hL (hks hb12) y hy) (fun x13 => ?_)
    exact S_iret dX11_room_94 rfl (by decide) (by decide) (fun K hK => hK)
  refine Seg.step (I_tswd (tgt := 95) dX11_room_11 (by omega) (by decide)) ?_
  refine Seg.step (pc' := 96) (I_iconst dX11_room_95 ⟨by decide, by decide⟩) ?_
  exact S_iret dX11_room_96 rfl (by decide) (by decide) (fun K hK => hK)
theorem dX11_out_0 : decode cX11_out 0 = .ok (.iload_n 1, 1) := by decide +kernel
theorem dX11_out_1 : decode cX11_out 1 = .ok (.iconst 0, 1) := by decide +kernel
theorem dX11_out_2 : decode cX11_out 2 = .ok (.sipush 9999, 3) := by decide +kernel
theorem dX11_out_5 : decode cX11_out 5 = .ok (.invokestatic 139, 3) := by decide +kernel
theorem dX11_out_8 : decode cX11_out 8 = .ok (.ifCond .eq 14, 3) := by decide +kernel
theorem dX11_out_11 : decode cX11_out 11 = .ok (.aload_n 0, 1) := by decide +kernel
theorem dX11_out_12 : decode cX11_out 12 = .ok (.getfield 27, 3) := by decide +kernel
theorem dX11_out_15 : decode cX11_out 15 = .ok (.iload_n 1, 1) := by decide +kernel
theorem dX11_out_16 : decode cX11_out 16 = .ok (.invokevirtual 197, 3) := by decide +kernel
theorem dX11_out_19 : decode cX11_out 19 = .ok (.goto 4, 3) := by decide +kernel
theorem dX11_out_22 : decode cX11_out 22 = .ok (.iconst (-1), 1) := by decide +kernel
theorem dX11_out_23 : decode cX11_out 23 = .ok (.ireturn, 1) := by decide +kernel
def f_X11_out (M : MM) (p1 : Int) : Option (Int) :=
(f_X11_isWithin M p1 0 9999).bind fun x1 =>
if x1 = 0 then
(some (-1))
else
gH (M 0 3) fun b3 =>
(f_X2_outAt M b3 p1).bind fun x4 =>
some x4
set_option maxRecDepth 4000 in
theorem c_X11_out {E : EE} {sh : List (Nat × Nat)} {ex : Bool} {R : RM} {M : MM} {p1 : Int} (hE : Ext sh) (hL : Links R) : ∀ y, f_X11_out M p1 = some y → MetC E m_X11_out 0 0 [rV 0, iV p1] (sh, ex, R, M) (fun r w' => r = some (iV y) ∧ w' = (sh, ex, R, M)) := by
  intro y hy
  refine MetC.seg (o := f_X11_out M p1) (t := (fun K y => K (some (iV y)) (sh, ex, R, M))) (L := [some (rV 0), some (iV p1)]) (by decide) rfl (Nat.le_of_ble_eq_true rfl) ?_ hy ⟨rfl, rfl⟩
  unfold f_X11_out
  refine Seg.step (pc' := 1) (I_iload_n (i := 1) dX11_out_0 rfl rfl) ?_
  refine Seg.step (pc' := 2) (I_iconst dX11_out_1 ⟨by decide, by decide⟩) ?_
  refine Seg.step (pc' := 5) (I_sipush dX11_out_2 (by decide) ⟨by decide, by decide⟩) ?_
  refine S_callS3 (md' := m_X11_isWithin) (fun y => some (iV y)) (fun y => (sh, ex, R, M)) mm_X11_isWithin wm_11_139 ⟨rfl, rfl, by decide, by decide, by decide, by decide⟩ (Nat.le_of_ble_eq_true rfl) dX11_out_5 (fun y hy => c_X11_isWithin hE hL y hy) (fun x1 => ?_)
  refine S_if_eq (tgt := 22) dX11_out_8 (by decide) (fun h2 => ?_) (fun h2 => ?_)
  · refine Seg.step (pc' := 23) (I_iconst dX11_out_22 ⟨by decide, by decide⟩) ?_
    exact S_iret dX11_out_23 rfl (by decide) (by decide) (fun K hK => hK)
  refine Seg.step (pc' := 12) (I_aload_n (i := 0) dX11_out_11 rfl rfl) ?_
  refine S_gH fun b3 hb3 zb3 => ?_
  refine Seg.step (pc' := 15) (I_getH cls11 (by decide) wf_11_27 (hE _ _ sk_11) rfl zb3 (hkp hb3) dX11_out_12) ?_
  refine Seg.step (pc' := 16) (I_iload_n (i := 1) dX11_out_15 rfl rfl) ?_
  refine S_callV1 (md' := m_X2_outAt) (fun y => some (iV y)) (fun y => (sh, ex, R, M)) (hE _ _ (hks hb3)) ⟨by decide, rfl⟩ mm_X2_outAt wm_11_197 ⟨rfl, rfl, by decide, by decide, by decide, by decide⟩ (Nat.le_of_ble_eq_true rfl) dX11_out_16 (fun y hy => c_X2_outAt hE hL (hks hb3) y hy) (fun x4 => ?_)
  refine Seg.step (pc' := 23) (I_goto (tgt := 23) dX11_out_19 (by decide)) ?_
  exact S_iret dX11_out_23 rfl (by decide) (by decide) (fun K hK => hK)
theorem dX11_law_0 : decode cX11_law 0 = .ok (.aload_n 0, 1) := by decide +kernel
theorem dX11_law_1 : decode cX11_law 1 = .ok (.getfield 39, 3) := by decide +kernel
theorem dX11_law_4 : decode cX11_law 4 = .ok (.aload_n 0, 1) := by decide +kernel
theorem dX11_law_5 : decode cX11_law 5 = .ok (.getfield 27, 3) := by decide +kernel
theorem dX11_law_8 : decode cX11_law 8 = .ok (.aload_n 0, 1) := by decide +kernel
theorem dX11_law_9 : decode cX11_law 9 = .ok (.getfield 39, 3) := by decide +kernel
theorem dX11_law_12 : decode cX11_law 12 = .ok (.getfield 190, 3) := by decide +kernel
theorem dX11_law_15 : decode cX11_law 15 = .ok (.invokevirtual 197, 3) := by decide +kernel
theorem dX11_law_18 : decode cX11_law 18 = .ok (.putfield 200, 3) := by decide +kernel
theorem dX11_law_21 : decode cX11_law 21 = .ok (.iload_n 1, 1) := by decide +kernel
theorem dX11_law_22 : decode cX11_law 22 = .ok (.ifCond .ne 32, 3) := by decide +kernel
theorem dX11_law_25 : decode cX11_law 25 = .ok (.aload_n 0, 1) := by decide +kernel
theorem dX11_law_26 : decode cX11_law 26 = .ok (.iload_n 2, 1) := by decide +kernel
theorem dX11_law_27 : decode cX11_law 27 = .ok (.invokevirtual 178, 3) := by decide +kernel
theorem dX11_law_30 : decode cX11_law 30 = .ok (.ifCond .eq 24, 3) := by decide +kernel
theorem dX11_law_33 : decode cX11_law 33 = .ok (.aload_n 0, 1) := by decide +kernel
theorem dX11_law_34 : decode cX11_law 34 = .ok (.getfield 39, 3) := by decide +kernel
theorem dX11_law_37 : decode cX11_law 37 = .ok (.iload_n 2, 1) := by decide +kernel
theorem dX11_law_38 : decode cX11_law 38 = .ok (.aload_n 0, 1) := by decide +kernel
theorem dX11_law_39 : decode cX11_law 39 = .ok (.getfield 27, 3) := by decide +kernel
theorem dX11_law_42 : decode cX11_law 42 = .ok (.getfield 112, 3) := by decide +kernel
theorem dX11_law_45 : decode cX11_law 45 = .ok (.getfield 184, 3) := by decide +kernel
theorem dX11_law_48 : decode cX11_law 48 = .ok (.iload_n 2, 1) := by decide +kernel
theorem dX11_law_49 : decode cX11_law 49 = .ok (.iaload, 1) := by decide +kernel
theorem dX11_law_50 : decode cX11_law 50 = .ok (.invokevirtual 203, 3) := by decide +kernel
theorem dX11_law_53 : decode cX11_law 53 = .ok (.lreturn, 1) := by decide +kernel
theorem dX11_law_54 : decode cX11_law 54 = .ok (.iload_n 1, 1) := by decide +kernel
theorem dX11_law_55 : decode cX11_law 55 = .ok (.iconst 1, 1) := by decide +kernel
theorem dX11_law_56 : decode cX11_law 56 = .ok (.if_icmp .eq 8, 3) := by decide +kernel
theorem dX11_law_59 : decode cX11_law 59 = .ok (.iload_n 1, 1) := by decide +kernel
theorem dX11_law_60 : decode cX11_law 60 = .ok (.iconst 2, 1) := by decide +kernel
theorem dX11_law_61 : decode cX11_law 61 = .ok (.if_icmp .ne 29, 3) := by decide +kernel
theorem dX11_law_64 : decode cX11_law 64 = .ok (.aload_n 0, 1) := by decide +kernel
theorem dX11_law_65 : decode cX11_law 65 = .ok (.iload_n 2, 1) := by decide +kernel
theorem dX11_law_66 : decode cX11_law 66 = .ok (.invokevirtual 135, 3) := by decide +kernel
theorem dX11_law_69 : decode cX11_law 69 = .ok (.ifCond .eq 21, 3) := by decide +kernel
theorem dX11_law_72 : decode cX11_law 72 = .ok (.aload_n 0, 1) := by decide +kernel
theorem dX11_law_73 : decode cX11_law 73 = .ok (.getfield 39, 3) := by decide +kernel
theorem dX11_law_76 : decode cX11_law 76 = .ok (.iload_n 1, 1) := by decide +kernel
theorem dX11_law_77 : decode cX11_law 77 = .ok (.iload_n 2, 1) := by decide +kernel
theorem dX11_law_78 : decode cX11_law 78 = .ok (.aload_n 0, 1) := by decide +kernel
theorem dX11_law_79 : decode cX11_law 79 = .ok (.getfield 39, 3) := by decide +kernel
theorem dX11_law_82 : decode cX11_law 82 = .ok (.iload_n 2, 1) := by decide +kernel
theorem dX11_law_83 : decode cX11_law 83 = .ok (.invokevirtual 162, 3) := by decide +kernel
theorem dX11_law_86 : decode cX11_law 86 = .ok (.invokevirtual 207, 3) := by decide +kernel
theorem dX11_law_89 : decode cX11_law 89 = .ok (.lreturn, 1) := by decide +kernel
theorem dX11_law_90 : decode cX11_law 90 = .ok (.ldc2_w 211, 3) := by decide +kernel
theorem dX11_law_93 : decode cX11_law 93 = .ok (.lreturn, 1) := by decide +kernel
def f_X11_law (M : MM) (p1 : Int) (p2 : Int) : Option (Int × MM) :=
gH (M 0 3) fun b1 =>
(f_X2_outAt M b1 (M 54 2)).bind fun x2 =>
bM (upM M 54 6 x2) fun M3 =>
bS ((if p1 = 0 then
((f_X11_isRoom M3 p2).bind fun x5 =>
if x5 = 0 then
(some (Sum.inl ()))
else
gH (M3 0 3) fun b7 =>
gd (0 ≤ p2 ∧ p2 < (5 : Int)) <|
(f_X0_roomLaw M3 54 p2 (M3 (b7 + 4) (p2).toNat)).bind fun x9 =>
some (Sum.inr (x9.1, x9.2)))
else
some (Sum.inl ())) : Option ((Unit) ⊕ (Int × MM))) (fun x10 =>
bS ((if p1 = 1 then
(some (Sum.inl ()))
else
if p1 = 2 then
(some (Sum.inl ()))
else
some (Sum.inr ((-9223372036854775808), M3))) : Option ((Unit) ⊕ (Int × MM))) (fun x13 =>
(f_X11_isPerson M3 p2).bind fun x14 =>
if x14 = 0 then
(some ((-9223372036854775808), M3))
else
(f_X0_feltBy M3 54 p2).bind fun x16 =>
(f_X0_personLaw M3 54 p1 p2 x16).bind fun x17 =>
some (x17.1, x17.2)) (fun r => r)) (fun r => r)
set_option maxRecDepth 4000 in
theorem c_X11_law {E : EE} {sh : List (Nat × Nat)} {ex : Bool} {R : RM} {M : MM} {p1 : Int} {p2 : Int} (hE : Ext sh) (hL : Links R) : ∀ y, f_X11_law M p1 p2 = some y → MetC E m_X11_law 0 0 [rV 0, iV p1, iV p2] (sh, ex, R, M) (fun r w' => r = some (jV y.1) ∧ w' = (sh, ex, R, y.2)) := by
  intro y hy
  refine MetC.seg (o := f_X11_law M p1 p2) (t := (fun K y => K (some (jV y.1)) (sh, ex, R, y.2))) (L := [some (rV 0), some (iV p1), some (iV p2)]) (by decide) rfl (Nat.le_of_ble_eq_true rfl) ?_ hy ⟨rfl, rfl⟩
  unfold f_X11_law
  refine Seg.step (pc' := 1) (I_aload_n (i := 0) dX11_law_0 rfl rfl) ?_
  refine Seg.step (pc' := 4) (I_getR cls11 (by decide) wf_11_39 (hE _ _ sk_11) rfl (lk_11_5 hL) dX11_law_1) ?_
  refine Seg.step (pc' := 5) (I_aload_n (i := 0) dX11_law_4 rfl rfl) ?_
  refine S_gH fun b1 hb1 zb1 => ?_
  refine Seg.step (pc' := 8) (I_getH cls11 (by decide) wf_11_27 (hE _ _ sk_11) rfl zb1 (hkp hb1) dX11_law_5) ?_
  refine Seg.step (pc' := 9) (I_aload_n (i := 0) dX11_law_8 rfl rfl) ?_
  refine Seg.step (pc' := 12) (I_getR cls11 (by decide) wf_11_39 (hE _ _ sk_11) rfl (lk_11_5 hL) dX11_law_9) ?_
  refine Seg.step (pc' := 15) (I_getI cls0 (by decide) wf_11_190 (hE _ _ sk_11_5) rfl dX11_law_12) ?_
  refine S_callV1 (md' := m_X2_outAt) (fun y => some (iV y)) (fun y => (sh, ex, R, M)) (hE _ _ (hks hb1)) ⟨by decide, rfl⟩ mm_X2_outAt wm_11_197 ⟨rfl, rfl, by decide, by decide, by decide, by decide⟩ (Nat.le_of_ble_eq_true rfl) dX11_law_15 (fun y hy => c_X2_outAt hE hL (hks hb1) y hy) (fun x2 => ?_)
  refine Seg.step (pc' := 21) (I_putI cls0 (by decide) wf_11_200 (hE _ _ sk_11_5) rfl rfl dX11_law_18) ?_
  refine S_bM fun M3 => ?_
  refine Seg.step (pc' := 22) (I_iload_n (i := 1) dX11_law_21 rfl rfl) ?_
  refine S_bind2 (Y := Unit) (k' := 0) (n' := 0) 54 (fun y => [some (rV 0), some (iV p1), some (iV p2)]) (fun y => []) (fun y => (sh, ex, R, M3)) ?_ (fun x10 => ?_)
  · refine S_if_ne (tgt := 54) dX11_law_22 (by decide) (fun h4 => ?_) (fun h4 => ?_)
    · refine Seg.step (pc' := 26) (I_aload_n (i := 0) dX11_law_25 rfl rfl) ?_
      refine Seg.step (pc' := 27) (I_iload_n (i := 2) dX11_law_26 rfl rfl) ?_
      refine S_callV1 (md' := m_X11_isRoom) (fun y => some (iV y)) (fun y => (sh, ex, R, M3)) (hE _ _ sk_11) ⟨by decide, rfl⟩ mm_X11_isRoom wm_11_178 ⟨rfl, rfl, by decide, by decide, by decide, by decide⟩ (Nat.le_of_ble_eq_true rfl) dX11_law_27 (fun y hy => c_X11_isRoom hE hL y hy) (fun x5 => ?_)
      refine S_if_eq (tgt := 54) dX11_law_30 (by decide) (fun h6 => ?_) (fun h6 => ?_)
      · exact S_arr (fun K hK => GG.forget (Lle.ye (Lle.ye (Lle.ye (Lle.nil)))) hK)
      refine Seg.step (pc' := 34) (I_aload_n (i := 0) dX11_law_33 rfl rfl) ?_
      refine Seg.step (pc' := 37) (I_getR cls11 (by decide) wf_11_39 (hE _ _ sk_11) rfl (lk_11_5 hL) dX11_law_34) ?_
      refine Seg.step (pc' := 38) (I_iload_n (i := 2) dX11_law_37 rfl rfl) ?_
      refine Seg.step (pc' := 39) (I_aload_n (i := 0) dX11_law_38 rfl rfl) ?_
      refine S_gH fun b7 hb7 zb7 => ?_
      refine Seg.step (pc' := 42) (I_getH cls11 (by decide) wf_11_27 (hE _ _ sk_11) rfl zb7 (hkp hb7) dX11_law_39) ?_
      refine Seg.step (pc' := 45) (I_getR cls2 (by decide) wf_11_112 (hE _ _ (hks hb7)) rfl (lk_2_0 hL (hks hb7)) dX11_law_42) ?_
      refine Seg.step (pc' := 48) (I_getR cls8 (by decide) wf_11_184 (hE _ _ (sk_2_0 (hks hb7))) rfl (lk_8_3 hL (sk_2_0 (hks hb7))) dX11_law_45) ?_
      refine Seg.step (pc' := 49) (I_iload_n (i := 2) dX11_law_48 rfl rfl) ?_
      refine S_gd fun h8 => ?_
      refine Seg.step (pc' := 50) (I_iald (hE _ _ (sk_8_3 (sk_2_0 (hks hb7)))) h8 dX11_law_49) ?_
      refine S_callV2 (md' := m_X0_roomLaw) (fun y => some (jV y.1)) (fun y => (sh, ex, R, y.2)) (hE _ _ sk_11_5) ⟨by decide, rfl⟩ mm_X0_roomLaw wm_11_203 ⟨rfl, rfl, by decide, by decide, by decide, by decide⟩ (Nat.le_of_ble_eq_true rfl) dX11_law_50 (fun y hy => c_X0_roomLaw hE hL sk_11_5 y hy) (fun x9 => ?_)
      exact S_lret dX11_law_53 rfl (by decide) (by decide) (fun K hK => hK)
    exact S_arr (fun K hK => GG.forget (Lle.ye (Lle.ye (Lle.ye (Lle.nil)))) hK)
  refine Seg.step (pc' := 55) (I_iload_n (i := 1) dX11_law_54 rfl rfl) ?_
  refine Seg.step (pc' := 56) (I_iconst dX11_law_55 ⟨by decide, by decide⟩) ?_
  refine S_bind2 (Y := Unit) (k' := 0) (n' := 0) 64 (fun y => [some (rV 0), some (iV p1), some (iV p2)]) (fun y => []) (fun y => (sh, ex, R, M3)) ?_ (fun x13 => ?_)
  · refine S_icmp_eq (tgt := 64) dX11_law_56 (by decide) (fun h11 => ?_) (fun h11 => ?_)
    · exact S_arr (fun K hK => GG.forget (Lle.ye (Lle.ye (Lle.ye (Lle.nil)))) hK)
    refine Seg.step (pc' := 60) (I_iload_n (i := 1) dX11_law_59 rfl rfl) ?_
    refine Seg.step (pc' := 61) (I_iconst dX11_law_60 ⟨by decide, by decide⟩) ?_
    refine S_icmp_ne (tgt := 90) dX11_law_61 (by decide) (fun h12 => ?_) (fun h12 => ?_)
    · exact S_arr (fun K hK => GG.forget (Lle.ye (Lle.ye (Lle.ye (Lle.nil)))) hK)
    refine Seg.step (pc' := 93) (I_ldc2 (z := -9223372036854775808) dX11_law_90 wk_11_211 ⟨by decide, by decide⟩) ?_
    exact S_lret dX11_law_93 rfl (by decide) (by decide) (fun K hK => hK)
  refine Seg.step (pc' := 65) (I_aload_n (i := 0) dX11_law_64 rfl rfl) ?_
  refine Seg.step (pc' := 66) (I_iload_n (i := 2) dX11_law_65 rfl rfl) ?_
  refine S_callV1 (md' := m_X11_isPerson) (fun y => some (iV y)) (fun y => (sh, ex, R, M3)) (hE _ _ sk_11) ⟨by decide, rfl⟩ mm_X11_isPerson wm_11_135 ⟨rfl, rfl, by decide, by decide, by decide, by decide⟩ (Nat.le_of_ble_eq_true rfl) dX11_law_66 (fun y hy => c_X11_isPerson hE hL y hy) (fun x14 => ?_)
  refine S_if_eq (tgt := 90) dX11_law_69 (by decide) (fun h15 => ?_) (fun h15 => ?_)
  · refine Seg.step (pc' := 93) (I_ldc2 (z := -9223372036854775808) dX11_law_90 wk_11_211 ⟨by decide, by decide⟩) ?_
    exact S_lret dX11_law_93 rfl (by decide) (by decide) (fun K hK => hK)
  refine Seg.step (pc' := 73) (I_aload_n (i := 0) dX11_law_72 rfl rfl) ?_
  refine Seg.step (pc' := 76) (I_getR cls11 (by decide) wf_11_39 (hE _ _ sk_11) rfl (lk_11_5 hL) dX11_law_73) ?_
  refine Seg.step (pc' := 77) (I_iload_n (i := 1) dX11_law_76 rfl rfl) ?_
  refine Seg.step (pc' := 78) (I_iload_n (i := 2) dX11_law_77 rfl rfl) ?_
  refine Seg.step (pc' := 79) (I_aload_n (i := 0) dX11_law_78 rfl rfl) ?_
  refine Seg.step (pc' := 82) (I_getR cls11 (by decide) wf_11_39 (hE _ _ sk_11) rfl (lk_11_5 hL) dX11_law_79) ?_
  refine Seg.step (pc' := 83) (I_iload_n (i := 2) dX11_law_82 rfl rfl) ?_
  refine S_callV1 (md' := m_X0_feltBy) (fun y => some (iV y)) (fun y => (sh, ex, R, M3)) (hE _ _ sk_11_5) ⟨by decide, rfl⟩ mm_X0_feltBy wm_11_162 ⟨rfl, rfl, by decide, by decide, by decide, by decide⟩ (Nat.le_of_ble_eq_true rfl) dX11_law_83 (fun y hy => c_X0_feltBy hE hL sk_11_5 y hy) (fun x16 => ?_)
  refine S_callV3 (md' := m_X0_personLaw) (fun y => some (jV y.1)) (fun y => (sh, ex, R, y.2)) (hE _ _ sk_11_5) ⟨by decide, rfl⟩ mm_X0_personLaw wm_11_207 ⟨rfl, rfl, by decide, by decide, by decide, by decide⟩ (Nat.le_of_ble_eq_true rfl) dX11_law_86 (fun y hy => c_X0_personLaw hE hL sk_11_5 y hy) (fun x17 => ?_)
  exact S_lret dX11_law_89 rfl (by decide) (by decide) (fun K hK => hK)
theorem dX11_crossest_0 : decode cX11_crossest 0 = .ok (.iconst (-1), 1) := by decide +kernel
theorem dX11_crossest_1 : decode cX11_crossest 1 = .ok (.istore_n 1, 1) := by decide +kernel
theorem dX11_crossest_2 : decode cX11_crossest 2 = .ok (.iconst 0, 1) := by decide +kernel
theorem dX11_crossest_3 : decode cX11_crossest 3 = .ok (.istore_n 2, 1) := by decide +kernel
theorem dX11_crossest_4 : decode cX11_crossest 4 = .ok (.iload_n 2, 1) := by decide +kernel
theorem dX11_crossest_5 : decode cX11_crossest 5 = .ok (.aload_n 0, 1) := by decide +kernel
theorem dX11_crossest_6 : decode cX11_crossest 6 = .ok (.getfield 27, 3) := by decide +kernel
theorem dX11_crossest_9 : decode cX11_crossest 9 = .ok (.getfield 127, 3) := by decide +kernel
theorem dX11_crossest_12 : decode cX11_crossest 12 = .ok (.getfield 134, 3) := by decide +kernel
theorem dX11_crossest_15 : decode cX11_crossest 15 = .ok (.if_icmp .ge 37, 3) := by decide +kernel
theorem dX11_crossest_18 : decode cX11_crossest 18 = .ok (.iload_n 1, 1) := by decide +kernel
theorem dX11_crossest_19 : decode cX11_crossest 19 = .ok (.iconst (-1), 1) := by decide +kernel
theorem dX11_crossest_20 : decode cX11_crossest 20 = .ok (.if_icmp .eq 24, 3) := by decide +kernel
theorem dX11_crossest_23 : decode cX11_crossest 23 = .ok (.aload_n 0, 1) := by decide +kernel
theorem dX11_crossest_24 : decode cX11_crossest 24 = .ok (.getfield 39, 3) := by decide +kernel
theorem dX11_crossest_27 : decode cX11_crossest 27 = .ok (.getfield 166, 3) := by decide +kernel
theorem dX11_crossest_30 : decode cX11_crossest 30 = .ok (.iload_n 2, 1) := by decide +kernel
theorem dX11_crossest_31 : decode cX11_crossest 31 = .ok (.iaload, 1) := by decide +kernel
theorem dX11_crossest_32 : decode cX11_crossest 32 = .ok (.aload_n 0, 1) := by decide +kernel
theorem dX11_crossest_33 : decode cX11_crossest 33 = .ok (.getfield 39, 3) := by decide +kernel
theorem dX11_crossest_36 : decode cX11_crossest 36 = .ok (.getfield 166, 3) := by decide +kernel
theorem dX11_crossest_39 : decode cX11_crossest 39 = .ok (.iload_n 1, 1) := by decide +kernel
theorem dX11_crossest_40 : decode cX11_crossest 40 = .ok (.iaload, 1) := by decide +kernel
theorem dX11_crossest_41 : decode cX11_crossest 41 = .ok (.if_icmp .le 5, 3) := by decide +kernel
theorem dX11_crossest_44 : decode cX11_crossest 44 = .ok (.iload_n 2, 1) := by decide +kernel
theorem dX11_crossest_45 : decode cX11_crossest 45 = .ok (.istore_n 1, 1) := by decide +kernel
theorem dX11_crossest_46 : decode cX11_crossest 46 = .ok (.iinc 2 1, 3) := by decide +kernel
theorem dX11_crossest_49 : decode cX11_crossest 49 = .ok (.goto (-45), 3) := by decide +kernel
theorem dX11_crossest_52 : decode cX11_crossest 52 = .ok (.iload_n 1, 1) := by decide +kernel
theorem dX11_crossest_53 : decode cX11_crossest 53 = .ok (.ireturn, 1) := by decide +kernel
def f_X11_crossest (M : MM)  : Option (Int) :=
lp (X := Int × Int) (Y := Int) (fun x1 =>
gH (M 0 3) fun b2 =>
if x1.2 < (M (b2 + 6) 0) then
(((if x1.1 = (-1) then
(some x1.2)
else
gd (0 ≤ x1.2 ∧ x1.2 < (5 : Int)) <|
gd (0 ≤ x1.1 ∧ x1.1 < (5 : Int)) <|
if (M 58 (x1.1).toNat) < (M 58 (x1.2).toNat) then
(some x1.2)
else
some x1.1) : Option (Int)).bind fun x8 =>
some (Sum.inl (x8, w32 (x1.2 + 1))))
else
some (Sum.inr x1.1)) FU ((-1), 0)
set_option maxRecDepth 4000 in
theorem c_X11_crossest {E : EE} {sh : List (Nat × Nat)} {ex : Bool} {R : RM} {M : MM}  (hE : Ext sh) (hL : Links R) : ∀ y, f_X11_crossest M = some y → MetC E m_X11_crossest 0 0 [rV 0] (sh, ex, R, M) (fun r w' => r = some (iV y) ∧ w' = (sh, ex, R, M)) := by
  intro y hy
  refine MetC.seg (o := f_X11_crossest M) (t := (fun K y => K (some (iV y)) (sh, ex, R, M))) (L := [some (rV 0), none, none]) (by decide) rfl (Nat.le_of_ble_eq_true rfl) ?_ hy ⟨rfl, rfl⟩
  unfold f_X11_crossest
  refine Seg.step (pc' := 1) (I_iconst dX11_crossest_0 ⟨by decide, by decide⟩) ?_
  refine Seg.step (pc' := 2) (I_istore_n (i := 1) dX11_crossest_1 rfl (by decide) rfl) ?_
  refine Seg.step (pc' := 3) (I_iconst dX11_crossest_2 ⟨by decide, by decide⟩) ?_
  refine Seg.step (pc' := 4) (I_istore_n (i := 2) dX11_crossest_3 rfl (by decide) rfl) ?_
  refine Seg.forget (Lle.ye (Lle.ye (Lle.ye (Lle.nil)))) ?_
  refine S_loop (Y := Int × Int) (fun y => [some (rV 0), some (iV y.1), some (iV y.2)]) (fun y => []) (fun y => (sh, ex, R, M)) (fun x1 => ?_) FU ((-1), 0)
  refine Seg.step (pc' := 5) (I_iload_n (i := 2) dX11_crossest_4 rfl rfl) ?_
  refine Seg.step (pc' := 6) (I_aload_n (i := 0) dX11_crossest_5 rfl rfl) ?_
  refine S_gH fun b2 hb2 zb2 => ?_
  refine Seg.step (pc' := 9) (I_getH cls11 (by decide) wf_11_27 (hE _ _ sk_11) rfl zb2 (hkp hb2) dX11_crossest_6) ?_
  refine Seg.step (pc' := 12) (I_getR cls2 (by decide) wf_11_127 (hE _ _ (hks hb2)) rfl (lk_2_1 hL (hks hb2)) dX11_crossest_9) ?_
  refine Seg.step (pc' := 15) (I_getI cls6 (by decide) wf_11_134 (hE _ _ (sk_2_1 (hks hb2))) rfl dX11_crossest_12) ?_
  refine S_icmp_ge (tgt := 52) dX11_crossest_15 (by decide) (fun h3 => ?_) (fun h3 => ?_)
  · refine Seg.step (pc' := 19) (I_iload_n (i := 1) dX11_crossest_18 rfl rfl) ?_
    refine Seg.step (pc' := 20) (I_iconst dX11_crossest_19 ⟨by decide, by decide⟩) ?_
    refine S_bind (Y := Int) (k' := 0) (n' := 0) 46 (fun y => [some (rV 0), some (iV y), some (iV x1.2)]) (fun y => []) (fun y => (sh, ex, R, M)) ?_ (fun x8 => ?_)
    · refine S_icmp_eq (tgt := 44) dX11_crossest_20 (by decide) (fun h4 => ?_) (fun h4 => ?_)
      · refine Seg.step (pc' := 45) (I_iload_n (i := 2) dX11_crossest_44 rfl rfl) ?_
        refine Seg.step (pc' := 46) (I_istore_n (i := 1) dX11_crossest_45 rfl (by decide) rfl) ?_
        exact S_arr (fun K hK => GG.forget (Lle.ye (Lle.ye (Lle.ye (Lle.nil)))) hK)
      refine Seg.step (pc' := 24) (I_aload_n (i := 0) dX11_crossest_23 rfl rfl) ?_
      refine Seg.step (pc' := 27) (I_getR cls11 (by decide) wf_11_39 (hE _ _ sk_11) rfl (lk_11_5 hL) dX11_crossest_24) ?_
      refine Seg.step (pc' := 30) (I_getR cls0 (by decide) wf_11_166 (hE _ _ sk_11_5) rfl (lk_0_9 hL sk_11_5) dX11_crossest_27) ?_
      refine Seg.step (pc' := 31) (I_iload_n (i := 2) dX11_crossest_30 rfl rfl) ?_
      refine S_gd fun h5 => ?_
      refine Seg.step (pc' := 32) (I_iald (hE _ _ (sk_0_9 sk_11_5)) h5 dX11_crossest_31) ?_
      refine Seg.step (pc' := 33) (I_aload_n (i := 0) dX11_crossest_32 rfl rfl) ?_
      refine Seg.step (pc' := 36) (I_getR cls11 (by decide) wf_11_39 (hE _ _ sk_11) rfl (lk_11_5 hL) dX11_crossest_33) ?_
      refine Seg.step (pc' := 39) (I_getR cls0 (by decide) wf_11_166 (hE _ _ sk_11_5) rfl (lk_0_9 hL sk_11_5) dX11_crossest_36) ?_
      refine Seg.step (pc' := 40) (I_iload_n (i := 1) dX11_crossest_39 rfl rfl) ?_
      refine S_gd fun h6 => ?_
      refine Seg.step (pc' := 41) (I_iald (hE _ _ (sk_0_9 sk_11_5)) h6 dX11_crossest_40) ?_
      refine S_icmp_le (tgt := 46) dX11_crossest_41 (by decide) (fun h7 => ?_) (fun h7 => ?_)
      · refine Seg.step (pc' := 45) (I_iload_n (i := 2) dX11_crossest_44 rfl rfl) ?_
        refine Seg.step (pc' := 46) (I_istore_n (i := 1) dX11_crossest_45 rfl (by decide) rfl) ?_
        exact S_arr (fun K hK => GG.forget (Lle.ye (Lle.ye (Lle.ye (Lle.nil)))) hK)
      exact S_arr (fun K hK => GG.forget (Lle.ye (Lle.ye (Lle.ye (Lle.nil)))) hK)
    refine Seg.step (pc' := 49) (I_iinc dX11_crossest_46 rfl (by decide) rfl) ?_
    refine Seg.step (pc' := 4) (I_goto (tgt := 4) dX11_crossest_49 (by decide)) ?_
    exact S_arr (fun K hK => GG.forget (Lle.ye (Lle.ye (Lle.ye (Lle.nil)))) hK)
  refine Seg.step (pc' := 53) (I_iload_n (i := 1) dX11_crossest_52 rfl rfl) ?_
  exact S_iret dX11_crossest_53 rfl (by decide) (by decide) (fun K hK => hK)
theorem dX11_spread_0 : decode cX11_spread 0 = .ok (.aload_n 0, 1) := by decide +kernel
theorem dX11_spread_1 : decode cX11_spread 1 = .ok (.getfield 39, 3) := by decide +kernel
theorem dX11_spread_4 : decode cX11_spread 4 = .ok (.invokevirtual 213, 3) := by decide +kernel
theorem dX11_spread_7 : decode cX11_spread 7 = .ok (.ireturn, 1) := by decide +kernel
def f_X11_spread (M : MM)  : Option (Int) :=
(f_X0_spreadNow M 54).bind fun x1 =>
some x1
set_option maxRecDepth 4000 in
theorem c_X11_spread {E : EE} {sh : List (Nat × Nat)} {ex : Bool} {R : RM} {M : MM}  (hE : Ext sh) (hL : Links R) : ∀ y, f_X11_spread M = some y → MetC E m_X11_spread 0 0 [rV 0] (sh, ex, R, M) (fun r w' => r = some (iV y) ∧ w' = (sh, ex, R, M)) := by
  intro y hy
  refine MetC.seg (o := f_X11_spread M) (t := (fun K y => K (some (iV y)) (sh, ex, R, M))) (L := [some (rV 0)]) (by decide) rfl (Nat.le_of_ble_eq_true rfl) ?_ hy ⟨rfl, rfl⟩
  unfold f_X11_spread
  refine Seg.step (pc' := 1) (I_aload_n (i := 0) dX11_spread_0 rfl rfl) ?_
  refine Seg.step (pc' := 4) (I_getR cls11 (by decide) wf_11_39 (hE _ _ sk_11) rfl (lk_11_5 hL) dX11_spread_1) ?_
  refine S_callV0 (md' := m_X0_spreadNow) (fun y => some (iV y)) (fun y => (sh, ex, R, M)) (hE _ _ sk_11_5) ⟨by decide, rfl⟩ mm_X0_spreadNow wm_11_213 ⟨rfl, rfl, by decide, by decide, by decide, by decide⟩ (Nat.le_of_ble_eq_true rfl) dX11_spread_4 (fun y hy => c_X0_spreadNow hE hL sk_11_5 y hy) (fun x1 => ?_)
  exact S_iret dX11_spread_7 rfl (by decide) (by decide) (fun K hK => hK)
theorem dX11_countMore_0 : decode cX11_countMore 0 = .ok (.iload_n 1, 1) := by decide +kernel
theorem dX11_countMore_1 : decode cX11_countMore 1 = .ok (.tableswitch 87 9 14 #[39, 47, 55, 63, 71, 79], 39) := by decide +kernel
theorem dX11_countMore_40 : decode cX11_countMore 40 = .ok (.aload_n 0, 1) := by decide +kernel
theorem dX11_countMore_41 : decode cX11_countMore 41 = .ok (.getfield 39, 3) := by decide +kernel
theorem dX11_countMore_44 : decode cX11_countMore 44 = .ok (.getfield 244, 3) := by decide +kernel
theorem dX11_countMore_47 : decode cX11_countMore 47 = .ok (.ireturn, 1) := by decide +kernel
theorem dX11_countMore_48 : decode cX11_countMore 48 = .ok (.aload_n 0, 1) := by decide +kernel
theorem dX11_countMore_49 : decode cX11_countMore 49 = .ok (.getfield 39, 3) := by decide +kernel
theorem dX11_countMore_52 : decode cX11_countMore 52 = .ok (.getfield 247, 3) := by decide +kernel
theorem dX11_countMore_55 : decode cX11_countMore 55 = .ok (.ireturn, 1) := by decide +kernel
theorem dX11_countMore_56 : decode cX11_countMore 56 = .ok (.aload_n 0, 1) := by decide +kernel
theorem dX11_countMore_57 : decode cX11_countMore 57 = .ok (.getfield 39, 3) := by decide +kernel
theorem dX11_countMore_60 : decode cX11_countMore 60 = .ok (.invokevirtual 250, 3) := by decide +kernel
theorem dX11_countMore_63 : decode cX11_countMore 63 = .ok (.ireturn, 1) := by decide +kernel
theorem dX11_countMore_64 : decode cX11_countMore 64 = .ok (.aload_n 0, 1) := by decide +kernel
theorem dX11_countMore_65 : decode cX11_countMore 65 = .ok (.getfield 52, 3) := by decide +kernel
theorem dX11_countMore_68 : decode cX11_countMore 68 = .ok (.getfield 253, 3) := by decide +kernel
theorem dX11_countMore_71 : decode cX11_countMore 71 = .ok (.ireturn, 1) := by decide +kernel
theorem dX11_countMore_72 : decode cX11_countMore 72 = .ok (.aload_n 0, 1) := by decide +kernel
theorem dX11_countMore_73 : decode cX11_countMore 73 = .ok (.getfield 52, 3) := by decide +kernel
theorem dX11_countMore_76 : decode cX11_countMore 76 = .ok (.invokevirtual 254, 3) := by decide +kernel
theorem dX11_countMore_79 : decode cX11_countMore 79 = .ok (.ireturn, 1) := by decide +kernel
theorem dX11_countMore_80 : decode cX11_countMore 80 = .ok (.aload_n 0, 1) := by decide +kernel
theorem dX11_countMore_81 : decode cX11_countMore 81 = .ok (.getfield 59, 3) := by decide +kernel
theorem dX11_countMore_84 : decode cX11_countMore 84 = .ok (.getfield 109, 3) := by decide +kernel
theorem dX11_countMore_87 : decode cX11_countMore 87 = .ok (.ireturn, 1) := by decide +kernel
theorem dX11_countMore_88 : decode cX11_countMore 88 = .ok (.iconst (-1), 1) := by decide +kernel
theorem dX11_countMore_89 : decode cX11_countMore 89 = .ok (.ireturn, 1) := by decide +kernel
def f_X11_countMore (M : MM) (p1 : Int) : Option (Int) :=
if p1 = 9 then
(some (M 54 14))
else
if p1 = 10 then
(some (M 54 15))
else
if p1 = 11 then
((f_X0_crossOfAll M 54).bind fun x4 =>
some x4)
else
if p1 = 12 then
(some (M 78 0))
else
if p1 = 13 then
((f_X4_knownBy M).bind fun x7 =>
some x7)
else
if p1 = 14 then
(some (M 84 0))
else
some (-1)
set_option maxRecDepth 4000 in
theorem c_X11_countMore {E : EE} {sh : List (Nat × Nat)} {ex : Bool} {R : RM} {M : MM} {p1 : Int} (hE : Ext sh) (hL : Links R) : ∀ y, f_X11_countMore M p1 = some y → MetC E m_X11_countMore 0 0 [rV 0, iV p1] (sh, ex, R, M) (fun r w' => r = some (iV y) ∧ w' = (sh, ex, R, M)) := by
  intro y hy
  refine MetC.seg (o := f_X11_countMore M p1) (t := (fun K y => K (some (iV y)) (sh, ex, R, M))) (L := [some (rV 0), some (iV p1)]) (by decide) rfl (Nat.le_of_ble_eq_true rfl) ?_ hy ⟨rfl, rfl⟩
  unfold f_X11_countMore
  refine Seg.step (pc' := 1) (I_iload_n (i := 1) dX11_countMore_0 rfl rfl) ?_
  refine S_ite (fun h1 => ?_) (fun h1 => ?_)
  · refine Seg.step (I_tsw (v := 9) (off := 39) (tgt := 40) dX11_countMore_1 h1 (by decide) rfl (by decide)) ?_
    refine Seg.step (pc' := 41) (I_aload_n (i := 0) dX11_countMore_40 rfl rfl) ?_
    refine Seg.step (pc' := 44) (I_getR cls11 (by decide) wf_11_39 (hE _ _ sk_11) rfl (lk_11_5 hL) dX11_countMore_41) ?_
    refine Seg.step (pc' := 47) (I_getI cls0 (by decide) wf_11_244 (hE _ _ sk_11_5) rfl dX11_countMore_44) ?_
    exact S_iret dX11_countMore_47 rfl (by decide) (by decide) (fun K hK => hK)
  refine S_ite (fun h2 => ?_) (fun h2 => ?_)
  · refine Seg.step (I_tsw (v := 10) (off := 47) (tgt := 48) dX11_countMore_1 h2 (by decide) rfl (by decide)) ?_
    refine Seg.step (pc' := 49) (I_aload_n (i := 0) dX11_countMore_48 rfl rfl) ?_
    refine Seg.step (pc' := 52) (I_getR cls11 (by decide) wf_11_39 (hE _ _ sk_11) rfl (lk_11_5 hL) dX11_countMore_49) ?_
    refine Seg.step (pc' := 55) (I_getI cls0 (by decide) wf_11_247 (hE _ _ sk_11_5) rfl dX11_countMore_52) ?_
    exact S_iret dX11_countMore_55 rfl (by decide) (by decide) (fun K hK => hK)
  refine S_ite (fun h3 => ?_) (fun h3 => ?_)
  · refine Seg.step (I_tsw (v := 11) (off := 55) (tgt := 56) dX11_countMore_1 h3 (by decide) rfl (by decide)) ?_
    refine Seg.step (pc' := 57) (I_aload_n (i := 0) dX11_countMore_56 rfl rfl) ?_
    refine Seg.step (pc' := 60) (I_getR cls11 (by decide) wf_11_39 (hE _ _ sk_11) rfl (lk_11_5 hL) dX11_countMore_57) ?_
    refine S_callV0 (md' := m_X0_crossOfAll) (fun y => some (iV y)) (fun y => (sh, ex, R, M)) (hE _ _ sk_11_5) ⟨by decide, rfl⟩ mm_X0_crossOfAll wm_11_250 ⟨rfl, rfl, by decide, by decide, by decide, by decide⟩ (Nat.le_of_ble_eq_true rfl) dX11_countMore_60 (fun y hy => c_X0_crossOfAll hE hL sk_11_5 y hy) (fun x4 => ?_)
    exact S_iret dX11_countMore_63 rfl (by decide) (by decide) (fun K hK => hK)
  refine S_ite (fun h5 => ?_) (fun h5 => ?_)
  · refine Seg.step (I_tsw (v := 12) (off := 63) (tgt := 64) dX11_countMore_1 h5 (by decide) rfl (by decide)) ?_
    refine Seg.step (pc' := 65) (I_aload_n (i := 0) dX11_countMore_64 rfl rfl) ?_
    refine Seg.step (pc' := 68) (I_getR cls11 (by decide) wf_11_52 (hE _ _ sk_11) rfl (lk_11_9 hL) dX11_countMore_65) ?_
    refine Seg.step (pc' := 71) (I_getI cls4 (by decide) wf_11_253 (hE _ _ sk_11_9) rfl dX11_countMore_68) ?_
    exact S_iret dX11_countMore_71 rfl (by decide) (by decide) (fun K hK => hK)
  refine S_ite (fun h6 => ?_) (fun h6 => ?_)
  · refine Seg.step (I_tsw (v := 13) (off := 71) (tgt := 72) dX11_countMore_1 h6 (by decide) rfl (by decide)) ?_
    refine Seg.step (pc' := 73) (I_aload_n (i := 0) dX11_countMore_72 rfl rfl) ?_
    refine Seg.step (pc' := 76) (I_getR cls11 (by decide) wf_11_52 (hE _ _ sk_11) rfl (lk_11_9 hL) dX11_countMore_73) ?_
    refine S_callV0 (md' := m_X4_knownBy) (fun y => some (iV y)) (fun y => (sh, ex, R, M)) (hE _ _ sk_11_9) ⟨by decide, rfl⟩ mm_X4_knownBy wm_11_254 ⟨rfl, rfl, by decide, by decide, by decide, by decide⟩ (Nat.le_of_ble_eq_true rfl) dX11_countMore_76 (fun y hy => c_X4_knownBy hE hL y hy) (fun x7 => ?_)
    exact S_iret dX11_countMore_79 rfl (by decide) (by decide) (fun K hK => hK)
  refine S_ite (fun h8 => ?_) (fun h8 => ?_)
  · refine Seg.step (I_tsw (v := 14) (off := 79) (tgt := 80) dX11_countMore_1 h8 (by decide) rfl (by decide)) ?_
    refine Seg.step (pc' := 81) (I_aload_n (i := 0) dX11_countMore_80 rfl rfl) ?_
    refine Seg.step (pc' := 84) (I_getR cls11 (by decide) wf_11_59 (hE _ _ sk_11) rfl (lk_11_10 hL) dX11_countMore_81) ?_
    refine Seg.step (pc' := 87) (I_getI cls5 (by decide) wf_11_109 (hE _ _ sk_11_10) rfl dX11_countMore_84) ?_
    exact S_iret dX11_countMore_87 rfl (by decide) (by decide) (fun K hK => hK)
  refine Seg.step (I_tswd (tgt := 88) dX11_countMore_1 (by omega) (by decide)) ?_
  refine Seg.step (pc' := 89) (I_iconst dX11_countMore_88 ⟨by decide, by decide⟩) ?_
  exact S_iret dX11_countMore_89 rfl (by decide) (by decide) (fun K hK => hK)
theorem dX11_count_0 : decode cX11_count 0 = .ok (.iload_n 1, 1) := by decide +kernel
theorem dX11_count_1 : decode cX11_count 1 = .ok (.tableswitch 165 0 8 #[51, 62, 73, 84, 92, 100, 125, 141, 157], 51) := by decide +kernel
theorem dX11_count_52 : decode cX11_count 52 = .ok (.aload_n 0, 1) := by decide +kernel
theorem dX11_count_53 : decode cX11_count 53 = .ok (.getfield 27, 3) := by decide +kernel
theorem dX11_count_56 : decode cX11_count 56 = .ok (.getfield 112, 3) := by decide +kernel
theorem dX11_count_59 : decode cX11_count 59 = .ok (.getfield 122, 3) := by decide +kernel
theorem dX11_count_62 : decode cX11_count 62 = .ok (.ireturn, 1) := by decide +kernel
theorem dX11_count_63 : decode cX11_count 63 = .ok (.aload_n 0, 1) := by decide +kernel
theorem dX11_count_64 : decode cX11_count 64 = .ok (.getfield 27, 3) := by decide +kernel
theorem dX11_count_67 : decode cX11_count 67 = .ok (.getfield 127, 3) := by decide +kernel
theorem dX11_count_70 : decode cX11_count 70 = .ok (.getfield 134, 3) := by decide +kernel
theorem dX11_count_73 : decode cX11_count 73 = .ok (.ireturn, 1) := by decide +kernel
theorem dX11_count_74 : decode cX11_count 74 = .ok (.aload_n 0, 1) := by decide +kernel
theorem dX11_count_75 : decode cX11_count 75 = .ok (.getfield 27, 3) := by decide +kernel
theorem dX11_count_78 : decode cX11_count 78 = .ok (.getfield 217, 3) := by decide +kernel
theorem dX11_count_81 : decode cX11_count 81 = .ok (.getfield 221, 3) := by decide +kernel
theorem dX11_count_84 : decode cX11_count 84 = .ok (.ireturn, 1) := by decide +kernel
theorem dX11_count_85 : decode cX11_count 85 = .ok (.aload_n 0, 1) := by decide +kernel
theorem dX11_count_86 : decode cX11_count 86 = .ok (.getfield 39, 3) := by decide +kernel
theorem dX11_count_89 : decode cX11_count 89 = .ok (.getfield 190, 3) := by decide +kernel
theorem dX11_count_92 : decode cX11_count 92 = .ok (.ireturn, 1) := by decide +kernel
theorem dX11_count_93 : decode cX11_count 93 = .ok (.aload_n 0, 1) := by decide +kernel
theorem dX11_count_94 : decode cX11_count 94 = .ok (.getfield 39, 3) := by decide +kernel
theorem dX11_count_97 : decode cX11_count 97 = .ok (.getfield 226, 3) := by decide +kernel
theorem dX11_count_100 : decode cX11_count 100 = .ok (.ireturn, 1) := by decide +kernel
theorem dX11_count_101 : decode cX11_count 101 = .ok (.aload_n 0, 1) := by decide +kernel
theorem dX11_count_102 : decode cX11_count 102 = .ok (.getfield 27, 3) := by decide +kernel
theorem dX11_count_105 : decode cX11_count 105 = .ok (.getfield 112, 3) := by decide +kernel
theorem dX11_count_108 : decode cX11_count 108 = .ok (.getfield 122, 3) := by decide +kernel
theorem dX11_count_111 : decode cX11_count 111 = .ok (.ifCond .ne 7, 3) := by decide +kernel
theorem dX11_count_114 : decode cX11_count 114 = .ok (.iconst (-1), 1) := by decide +kernel
theorem dX11_count_115 : decode cX11_count 115 = .ok (.goto 10, 3) := by decide +kernel
theorem dX11_count_118 : decode cX11_count 118 = .ok (.aload_n 0, 1) := by decide +kernel
theorem dX11_count_119 : decode cX11_count 119 = .ok (.getfield 39, 3) := by decide +kernel
theorem dX11_count_122 : decode cX11_count 122 = .ok (.getfield 229, 3) := by decide +kernel
theorem dX11_count_125 : decode cX11_count 125 = .ok (.ireturn, 1) := by decide +kernel
theorem dX11_count_126 : decode cX11_count 126 = .ok (.aload_n 0, 1) := by decide +kernel
theorem dX11_count_127 : decode cX11_count 127 = .ok (.getfield 39, 3) := by decide +kernel
theorem dX11_count_130 : decode cX11_count 130 = .ok (.getfield 232, 3) := by decide +kernel
theorem dX11_count_133 : decode cX11_count 133 = .ok (.ifCond .eq 7, 3) := by decide +kernel
theorem dX11_count_136 : decode cX11_count 136 = .ok (.iconst 1, 1) := by decide +kernel
theorem dX11_count_137 : decode cX11_count 137 = .ok (.goto 4, 3) := by decide +kernel
theorem dX11_count_140 : decode cX11_count 140 = .ok (.iconst 0, 1) := by decide +kernel
theorem dX11_count_141 : decode cX11_count 141 = .ok (.ireturn, 1) := by decide +kernel
theorem dX11_count_142 : decode cX11_count 142 = .ok (.aload_n 0, 1) := by decide +kernel
theorem dX11_count_143 : decode cX11_count 143 = .ok (.getfield 39, 3) := by decide +kernel
theorem dX11_count_146 : decode cX11_count 146 = .ok (.invokevirtual 235, 3) := by decide +kernel
theorem dX11_count_149 : decode cX11_count 149 = .ok (.ifCond .eq 7, 3) := by decide +kernel
theorem dX11_count_152 : decode cX11_count 152 = .ok (.iconst 1, 1) := by decide +kernel
theorem dX11_count_153 : decode cX11_count 153 = .ok (.goto 4, 3) := by decide +kernel
theorem dX11_count_156 : decode cX11_count 156 = .ok (.iconst 0, 1) := by decide +kernel
theorem dX11_count_157 : decode cX11_count 157 = .ok (.ireturn, 1) := by decide +kernel
theorem dX11_count_158 : decode cX11_count 158 = .ok (.aload_n 0, 1) := by decide +kernel
theorem dX11_count_159 : decode cX11_count 159 = .ok (.getfield 39, 3) := by decide +kernel
theorem dX11_count_162 : decode cX11_count 162 = .ok (.getfield 238, 3) := by decide +kernel
theorem dX11_count_165 : decode cX11_count 165 = .ok (.ireturn, 1) := by decide +kernel
theorem dX11_count_166 : decode cX11_count 166 = .ok (.aload_n 0, 1) := by decide +kernel
theorem dX11_count_167 : decode cX11_count 167 = .ok (.iload_n 1, 1) := by decide +kernel
theorem dX11_count_168 : decode cX11_count 168 = .ok (.invokevirtual 241, 3) := by decide +kernel
theorem dX11_count_171 : decode cX11_count 171 = .ok (.ireturn, 1) := by decide +kernel
def f_X11_count (M : MM) (p1 : Int) : Option (Int) :=
if p1 = 0 then
(gH (M 0 3) fun b2 =>
some (M (b2 + 1) 0))
else
if p1 = 1 then
(gH (M 0 3) fun b4 =>
some (M (b4 + 6) 0))
else
if p1 = 2 then
(gH (M 0 3) fun b6 =>
some (M (b6 + 12) 7))
else
if p1 = 3 then
(some (M 54 2))
else
if p1 = 4 then
(some (M 54 3))
else
if p1 = 5 then
(gH (M 0 3) fun b10 =>
if (M (b10 + 1) 0) = 0 then
(some (-1))
else
some (M 54 4))
else
if p1 = 6 then
(if (M 54 5) = 0 then
(some 0)
else
some 1)
else
if p1 = 7 then
((f_X0_isOn M 54).bind fun x15 =>
if x15 = 0 then
(some 0)
else
some 1)
else
if p1 = 8 then
(some (M 54 13))
else
(f_X11_countMore M p1).bind fun x18 =>
some x18
set_option maxRecDepth 4000 in
theorem c_X11_count {E : EE} {sh : List (Nat × Nat)} {ex : Bool} {R : RM} {M : MM} {p1 : Int} (hE : Ext sh) (hL : Links R) : ∀ y, f_X11_count M p1 = some y → MetC E m_X11_count 0 0 [rV 0, iV p1] (sh, ex, R, M) (fun r w' => r = some (iV y) ∧ w' = (sh, ex, R, M)) := by
  intro y hy
  refine MetC.seg (o := f_X11_count M p1) (t := (fun K y => K (some (iV y)) (sh, ex, R, M))) (L := [some (rV 0), some (iV p1)]) (by decide) rfl (Nat.le_of_ble_eq_true rfl) ?_ hy ⟨rfl, rfl⟩
  unfold f_X11_count
  refine Seg.step (pc' := 1) (I_iload_n (i := 1) dX11_count_0 rfl rfl) ?_
  refine S_ite (fun h1 => ?_) (fun h1 => ?_)
  · refine Seg.step (I_tsw (v := 0) (off := 51) (tgt := 52) dX11_count_1 h1 (by decide) rfl (by decide)) ?_
    refine Seg.step (pc' := 53) (I_aload_n (i := 0) dX11_count_52 rfl rfl) ?_
    refine S_gH fun b2 hb2 zb2 => ?_
    refine Seg.step (pc' := 56) (I_getH cls11 (by decide) wf_11_27 (hE _ _ sk_11) rfl zb2 (hkp hb2) dX11_count_53) ?_
    refine Seg.step (pc' := 59) (I_getR cls2 (by decide) wf_11_112 (hE _ _ (hks hb2)) rfl (lk_2_0 hL (hks hb2)) dX11_count_56) ?_
    refine Seg.step (pc' := 62) (I_getI cls8 (by decide) wf_11_122 (hE _ _ (sk_2_0 (hks hb2))) rfl dX11_count_59) ?_
    exact S_iret dX11_count_62 rfl (by decide) (by decide) (fun K hK => hK)
  refine S_ite (fun h3 => ?_) (fun h3 => ?_)
  · refine Seg.step (I_tsw (v := 1) (off := 62) (tgt := 63) dX11_count_1 h3 (by decide) rfl (by decide)) ?_
    refine Seg.step (pc' := 64) (I_aload_n (i := 0) dX11_count_63 rfl rfl) ?_
    refine S_gH fun b4 hb4 zb4 => ?_
    refine Seg.step (pc' := 67) (I_getH cls11 (by decide) wf_11_27 (hE _ _ sk_11) rfl zb4 (hkp hb4) dX11_count_64) ?_
    refine Seg.step (pc' := 70) (I_getR cls2 (by decide) wf_11_127 (hE _ _ (hks hb4)) rfl (lk_2_1 hL (hks hb4)) dX11_count_67) ?_
    refine Seg.step (pc' := 73) (I_getI cls6 (by decide) wf_11_134 (hE _ _ (sk_2_1 (hks hb4))) rfl dX11_count_70) ?_
    exact S_iret dX11_count_73 rfl (by decide) (by decide) (fun K hK => hK)
  refine S_ite (fun h5 => ?_) (fun h5 => ?_)
  · refine Seg.step (I_tsw (v := 2) (off := 73) (tgt := 74) dX11_count_1 h5 (by decide) rfl (by decide)) ?_
    refine Seg.step (pc' := 75) (I_aload_n (i := 0) dX11_count_74 rfl rfl) ?_
    refine S_gH fun b6 hb6 zb6 => ?_
    refine Seg.step (pc' := 78) (I_getH cls11 (by decide) wf_11_27 (hE _ _ sk_11) rfl zb6 (hkp hb6) dX11_count_75) ?_
    refine Seg.step (pc' := 81) (I_getR cls2 (by decide) wf_11_217 (hE _ _ (hks hb6)) rfl (lk_2_2 hL (hks hb6)) dX11_count_78) ?_
    refine Seg.step (pc' := 84) (I_getI cls3 (by decide) wf_11_221 (hE _ _ (sk_2_2 (hks hb6))) rfl dX11_count_81) ?_
    exact S_iret dX11_count_84 rfl (by decide) (by decide) (fun K hK => hK)
  refine S_ite (fun h7 => ?_) (fun h7 => ?_)
  · refine Seg.step (I_tsw (v := 3) (off := 84) (tgt := 85) dX11_count_1 h7 (by decide) rfl (by decide)) ?_
    refine Seg.step (pc' := 86) (I_aload_n (i := 0) dX11_count_85 rfl rfl) ?_
    refine Seg.step (pc' := 89) (I_getR cls11 (by decide) wf_11_39 (hE _ _ sk_11) rfl (lk_11_5 hL) dX11_count_86) ?_
    refine Seg.step (pc' := 92) (I_getI cls0 (by decide) wf_11_190 (hE _ _ sk_11_5) rfl dX11_count_89) ?_
    exact S_iret dX11_count_92 rfl (by decide) (by decide) (fun K hK => hK)
  refine S_ite (fun h8 => ?_) (fun h8 => ?_)
  · refine Seg.step (I_tsw (v := 4) (off := 92) (tgt := 93) dX11_count_1 h8 (by decide) rfl (by decide)) ?_
    refine Seg.step (pc' := 94) (I_aload_n (i := 0) dX11_count_93 rfl rfl) ?_
    refine Seg.step (pc' := 97) (I_getR cls11 (by decide) wf_11_39 (hE _ _ sk_11) rfl (lk_11_5 hL) dX11_count_94) ?_
    refine Seg.step (pc' := 100) (I_getI cls0 (by decide) wf_11_226 (hE _ _ sk_11_5) rfl dX11_count_97) ?_
    exact S_iret dX11_count_100 rfl (by decide) (by decide) (fun K hK => hK)
  refine S_ite (fun h9 => ?_) (fun h9 => ?_)
  · refine Seg.step (I_tsw (v := 5) (off := 100) (tgt := 101) dX11_count_1 h9 (by decide) rfl (by decide)) ?_
    refine Seg.step (pc' := 102) (I_aload_n (i := 0) dX11_count_101 rfl rfl) ?_
    refine S_gH fun b10 hb10 zb10 => ?_
    refine Seg.step (pc' := 105) (I_getH cls11 (by decide) wf_11_27 (hE _ _ sk_11) rfl zb10 (hkp hb10) dX11_count_102) ?_
    refine Seg.step (pc' := 108) (I_getR cls2 (by decide) wf_11_112 (hE _ _ (hks hb10)) rfl (lk_2_0 hL (hks hb10)) dX11_count_105) ?_
    refine Seg.step (pc' := 111) (I_getI cls8 (by decide) wf_11_122 (hE _ _ (sk_2_0 (hks hb10))) rfl dX11_count_108) ?_
    refine S_if_ne (tgt := 118) dX11_count_111 (by decide) (fun h11 => ?_) (fun h11 => ?_)
    · refine Seg.step (pc' := 115) (I_iconst dX11_count_114 ⟨by decide, by decide⟩) ?_
      refine Seg.step (pc' := 125) (I_goto (tgt := 125) dX11_count_115 (by decide)) ?_
      exact S_iret dX11_count_125 rfl (by decide) (by decide) (fun K hK => hK)
    refine Seg.step (pc' := 119) (I_aload_n (i := 0) dX11_count_118 rfl rfl) ?_
    refine Seg.step (pc' := 122) (I_getR cls11 (by decide) wf_11_39 (hE _ _ sk_11) rfl (lk_11_5 hL) dX11_count_119) ?_
    refine Seg.step (pc' := 125) (I_getI cls0 (by decide) wf_11_229 (hE _ _ sk_11_5) rfl dX11_count_122) ?_
    exact S_iret dX11_count_125 rfl (by decide) (by decide) (fun K hK => hK)
  refine S_ite (fun h12 => ?_) (fun h12 => ?_)
  · refine Seg.step (I_tsw (v := 6) (off := 125) (tgt := 126) dX11_count_1 h12 (by decide) rfl (by decide)) ?_
    refine Seg.step (pc' := 127) (I_aload_n (i := 0) dX11_count_126 rfl rfl) ?_
    refine Seg.step (pc' := 130) (I_getR cls11 (by decide) wf_11_39 (hE _ _ sk_11) rfl (lk_11_5 hL) dX11_count_127) ?_
    refine Seg.step (pc' := 133) (I_getZ cls0 (by decide) wf_11_232 (hE _ _ sk_11_5) rfl dX11_count_130) ?_
    refine S_if_eq (tgt := 140) dX11_count_133 (by decide) (fun h13 => ?_) (fun h13 => ?_)
    · refine Seg.step (pc' := 141) (I_iconst dX11_count_140 ⟨by decide, by decide⟩) ?_
      exact S_iret dX11_count_141 rfl (by decide) (by decide) (fun K hK => hK)
    refine Seg.step (pc' := 137) (I_iconst dX11_count_136 ⟨by decide, by decide⟩) ?_
    refine Seg.step (pc' := 141) (I_goto (tgt := 141) dX11_count_137 (by decide)) ?_
    exact S_iret dX11_count_141 rfl (by decide) (by decide) (fun K hK => hK)
  refine S_ite (fun h14 => ?_) (fun h14 => ?_)
  · refine Seg.step (I_tsw (v := 7) (off := 141) (tgt := 142) dX11_count_1 h14 (by decide) rfl (by decide)) ?_
    refine Seg.step (pc' := 143) (I_aload_n (i := 0) dX11_count_142 rfl rfl) ?_
    refine Seg.step (pc' := 146) (I_getR cls11 (by decide) wf_11_39 (hE _ _ sk_11) rfl (lk_11_5 hL) dX11_count_143) ?_
    refine S_callV0 (md' := m_X0_isOn) (fun y => some (iV y)) (fun y => (sh, ex, R, M)) (hE _ _ sk_11_5) ⟨by decide, rfl⟩ mm_X0_isOn wm_11_235 ⟨rfl, rfl, by decide, by decide, by decide, by decide⟩ (Nat.le_of_ble_eq_true rfl) dX11_count_146 (fun y hy => c_X0_isOn hE hL sk_11_5 y hy) (fun x15 => ?_)
    refine S_if_eq (tgt := 156) dX11_count_149 (by decide) (fun h16 => ?_) (fun h16 => ?_)
    · refine Seg.step (pc' := 157) (I_iconst dX11_count_156 ⟨by decide, by decide⟩) ?_
      exact S_iret dX11_count_157 rfl (by decide) (by decide) (fun K hK => hK)
    refine Seg.step (pc' := 153) (I_iconst dX11_count_152 ⟨by decide, by decide⟩) ?_
    refine Seg.step (pc' := 157) (I_goto (tgt := 157) dX11_count_153 (by decide)) ?_
    exact S_iret dX11_count_157 rfl (by decide) (by decide) (fun K hK => hK)
  refine S_ite (fun h17 => ?_) (fun h17 => ?_)
  · refine Seg.step (I_tsw (v := 8) (off := 157) (tgt := 158) dX11_count_1 h17 (by decide) rfl (by decide)) ?_
    refine Seg.step (pc' := 159) (I_aload_n (i := 0) dX11_count_158 rfl rfl) ?_
    refine Seg.step (pc' := 162) (I_getR cls11 (by decide) wf_11_39 (hE _ _ sk_11) rfl (lk_11_5 hL) dX11_count_159) ?_
    refine Seg.step (pc' := 165) (I_getI cls0 (by decide) wf_11_238 (hE _ _ sk_11_5) rfl dX11_count_162) ?_
    exact S_iret dX11_count_165 rfl (by decide) (by decide) (fun K hK => hK)
  refine Seg.step (I_tswd (tgt := 166) dX11_count_1 (by omega) (by decide)) ?_
  refine Seg.step (pc' := 167) (I_aload_n (i := 0) dX11_count_166 rfl rfl) ?_
  refine Seg.step (pc' := 168) (I_iload_n (i := 1) dX11_count_167 rfl rfl) ?_
  refine S_callV1 (md' := m_X11_countMore) (fun y => some (iV y)) (fun y => (sh, ex, R, M)) (hE _ _ sk_11) ⟨by decide, rfl⟩ mm_X11_countMore wm_11_241 ⟨rfl, rfl, by decide, by decide, by decide, by decide⟩ (Nat.le_of_ble_eq_true rfl) dX11_count_168 (fun y hy => c_X11_countMore hE hL y hy) (fun x18 => ?_)
  exact S_iret dX11_count_171 rfl (by decide) (by decide) (fun K hK => hK)
theorem dX11_set_0 : decode cX11_set 0 = .ok (.iload_n 1, 1) := by decide +kernel
theorem dX11_set_1 : decode cX11_set 1 = .ok (.invokestatic 257, 3) := by decide +kernel
theorem dX11_set_4 : decode cX11_set 4 = .ok (.ifCond .eq 14, 3) := by decide +kernel
theorem dX11_set_7 : decode cX11_set 7 = .ok (.iload_n 1, 1) := by decide +kernel
theorem dX11_set_8 : decode cX11_set 8 = .ok (.aload_n 0, 1) := by decide +kernel
theorem dX11_set_9 : decode cX11_set 9 = .ok (.getfield 39, 3) := by decide +kernel
theorem dX11_set_12 : decode cX11_set 12 = .ok (.getfield 226, 3) := by decide +kernel
theorem dX11_set_15 : decode cX11_set 15 = .ok (.if_icmp .ne 5, 3) := by decide +kernel
theorem dX11_set_18 : decode cX11_set 18 = .ok (.iconst 0, 1) := by decide +kernel
theorem dX11_set_19 : decode cX11_set 19 = .ok (.ireturn, 1) := by decide +kernel
theorem dX11_set_20 : decode cX11_set 20 = .ok (.aload_n 0, 1) := by decide +kernel
theorem dX11_set_21 : decode cX11_set 21 = .ok (.getfield 59, 3) := by decide +kernel
theorem dX11_set_24 : decode cX11_set 24 = .ok (.iconst 0, 1) := by decide +kernel
theorem dX11_set_25 : decode cX11_set 25 = .ok (.iconst 0, 1) := by decide +kernel
theorem dX11_set_26 : decode cX11_set 26 = .ok (.aload_n 0, 1) := by decide +kernel
theorem dX11_set_27 : decode cX11_set 27 = .ok (.getfield 39, 3) := by decide +kernel
theorem dX11_set_30 : decode cX11_set 30 = .ok (.getfield 226, 3) := by decide +kernel
theorem dX11_set_33 : decode cX11_set 33 = .ok (.invokevirtual 260, 3) := by decide +kernel
theorem dX11_set_36 : decode cX11_set 36 = .ok (.aload_n 0, 1) := by decide +kernel
theorem dX11_set_37 : decode cX11_set 37 = .ok (.getfield 39, 3) := by decide +kernel
theorem dX11_set_40 : decode cX11_set 40 = .ok (.iload_n 1, 1) := by decide +kernel
theorem dX11_set_41 : decode cX11_set 41 = .ok (.putfield 226, 3) := by decide +kernel
theorem dX11_set_44 : decode cX11_set 44 = .ok (.iconst 1, 1) := by decide +kernel
theorem dX11_set_45 : decode cX11_set 45 = .ok (.ireturn, 1) := by decide +kernel
def f_X11_set (M : MM) (p1 : Int) : Option (Int × MM) :=
(f_X11_isSet M p1).bind fun x1 =>
if x1 = 0 then
(some (0, M))
else
if p1 = (M 54 3) then
(some (0, M))
else
(f_X5_note M 0 0 (M 54 3)).bind fun x4 =>
bM (upM x4 54 3 p1) fun M5 =>
some (1, M5)
set_option maxRecDepth 4000 in
theorem c_X11_set {E : EE} {sh : List (Nat × Nat)} {R : RM} {M : MM} {p1 : Int} (hE : Ext sh) (hL : Links R) : ∀ y, f_X11_set M p1 = some y → MetC E m_X11_set 0 0 [rV 0, iV p1] (sh, false, R, M) (fun r w' => r = some (iV y.1) ∧ w' = (sh, false, R, y.2)) := by
  intro y hy
  refine MetC.seg (o := f_X11_set M p1) (t := (fun K y => K (some (iV y.1)) (sh, false, R, y.2))) (L := [some (rV 0), some (iV p1)]) (by decide) rfl (Nat.le_of_ble_eq_true rfl) ?_ hy ⟨rfl, rfl⟩
  unfold f_X11_set
  refine Seg.step (pc' := 1) (I_iload_n (i := 1) dX11_set_0 rfl rfl) ?_
  refine S_callS1 (md' := m_X11_isSet) (fun y => some (iV y)) (fun y => (sh, false, R, M)) mm_X11_isSet wm_11_257 ⟨rfl, rfl, by decide, by decide, by decide, by decide⟩ (Nat.le_of_ble_eq_true rfl) dX11_set_1 (fun y hy => c_X11_isSet hE hL y hy) (fun x1 => ?_)
  refine S_if_eq (tgt := 18) dX11_set_4 (by decide) (fun h2 => ?_) (fun h2 => ?_)
  · refine Seg.step (pc' := 19) (I_iconst dX11_set_18 ⟨by decide, by decide⟩) ?_
    exact S_zret dX11_set_19 rfl (by decide) (by decide) (by decide) (fun K hK => hK)
  refine Seg.step (pc' := 8) (I_iload_n (i := 1) dX11_set_7 rfl rfl) ?_
  refine Seg.step (pc' := 9) (I_aload_n (i := 0) dX11_set_8 rfl rfl) ?_
  refine Seg.step (pc' := 12) (I_getR cls11 (by decide) wf_11_39 (hE _ _ sk_11) rfl (lk_11_5 hL) dX11_set_9) ?_
  refine Seg.step (pc' := 15) (I_getI cls0 (by decide) wf_11_226 (hE _ _ sk_11_5) rfl dX11_set_12) ?_
  refine S_icmp_ne (tgt := 20) dX11_set_15 (by decide) (fun h3 => ?_) (fun h3 => ?_)
  · refine Seg.step (pc' := 19) (I_iconst dX11_set_18 ⟨by decide, by decide⟩) ?_
    exact S_zret dX11_set_19 rfl (by decide) (by decide) (by decide) (fun K hK => hK)
  refine Seg.step (pc' := 21) (I_aload_n (i := 0) dX11_set_20 rfl rfl) ?_
  refine Seg.step (pc' := 24) (I_getR cls11 (by decide) wf_11_59 (hE _ _ sk_11) rfl (lk_11_10 hL) dX11_set_21) ?_
  refine Seg.step (pc' := 25) (I_iconst dX11_set_24 ⟨by decide, by decide⟩) ?_
  refine Seg.step (pc' := 26) (I_iconst dX11_set_25 ⟨by decide, by decide⟩) ?_
  refine Seg.step (pc' := 27) (I_aload_n (i := 0) dX11_set_26 rfl rfl) ?_
  refine Seg.step (pc' := 30) (I_getR cls11 (by decide) wf_11_39 (hE _ _ sk_11) rfl (lk_11_5 hL) dX11_set_27) ?_
  refine Seg.step (pc' := 33) (I_getI cls0 (by decide) wf_11_226 (hE _ _ sk_11_5) rfl dX11_set_30) ?_
  refine S_callV3 (md' := m_X5_note) (fun y => none) (fun y => (sh, false, R, y)) (hE _ _ sk_11_10) ⟨by decide, rfl⟩ mm_X5_note wm_11_260 ⟨rfl, rfl, by decide, by decide, by decide, by decide⟩ (Nat.le_of_ble_eq_true rfl) dX11_set_33 (fun y hy => c_X5_note hE hL y hy) (fun x4 => ?_)
  refine Seg.step (pc' := 37) (I_aload_n (i := 0) dX11_set_36 rfl rfl) ?_
  refine Seg.step (pc' := 40) (I_getR cls11 (by decide) wf_11_39 (hE _ _ sk_11) rfl (lk_11_5 hL) dX11_set_37) ?_
  refine Seg.step (pc' := 41) (I_iload_n (i := 1) dX11_set_40 rfl rfl) ?_
  refine Seg.step (pc' := 44) (I_putI cls0 (by decide) wf_11_226 (hE _ _ sk_11_5) rfl rfl dX11_set_41) ?_
  refine S_bM fun M5 => ?_
  refine Seg.step (pc' := 45) (I_iconst dX11_set_44 ⟨by decide, by decide⟩) ?_
  exact S_zret dX11_set_45 rfl (by decide) (by decide) (by decide) (fun K hK => hK)
theorem dX11_hang_0 : decode cX11_hang 0 = .ok (.aload_n 0, 1) := by decide +kernel
theorem dX11_hang_1 : decode cX11_hang 1 = .ok (.iload_n 1, 1) := by decide +kernel
theorem dX11_hang_2 : decode cX11_hang 2 = .ok (.invokevirtual 178, 3) := by decide +kernel
theorem dX11_hang_5 : decode cX11_hang 5 = .ok (.ifCond .eq 14, 3) := by decide +kernel
theorem dX11_hang_8 : decode cX11_hang 8 = .ok (.iload_n 1, 1) := by decide +kernel
theorem dX11_hang_9 : decode cX11_hang 9 = .ok (.aload_n 0, 1) := by decide +kernel
theorem dX11_hang_10 : decode cX11_hang 10 = .ok (.getfield 39, 3) := by decide +kernel
theorem dX11_hang_13 : decode cX11_hang 13 = .ok (.getfield 229, 3) := by decide +kernel
theorem dX11_hang_16 : decode cX11_hang 16 = .ok (.if_icmp .ne 5, 3) := by decide +kernel
theorem dX11_hang_19 : decode cX11_hang 19 = .ok (.iconst 0, 1) := by decide +kernel
theorem dX11_hang_20 : decode cX11_hang 20 = .ok (.ireturn, 1) := by decide +kernel
theorem dX11_hang_21 : decode cX11_hang 21 = .ok (.aload_n 0, 1) := by decide +kernel
theorem dX11_hang_22 : decode cX11_hang 22 = .ok (.getfield 59, 3) := by decide +kernel
theorem dX11_hang_25 : decode cX11_hang 25 = .ok (.iconst 1, 1) := by decide +kernel
theorem dX11_hang_26 : decode cX11_hang 26 = .ok (.iconst 0, 1) := by decide +kernel
theorem dX11_hang_27 : decode cX11_hang 27 = .ok (.aload_n 0, 1) := by decide +kernel
theorem dX11_hang_28 : decode cX11_hang 28 = .ok (.getfield 39, 3) := by decide +kernel
theorem dX11_hang_31 : decode cX11_hang 31 = .ok (.getfield 229, 3) := by decide +kernel
theorem dX11_hang_34 : decode cX11_hang 34 = .ok (.invokevirtual 260, 3) := by decide +kernel
theorem dX11_hang_37 : decode cX11_hang 37 = .ok (.aload_n 0, 1) := by decide +kernel
theorem dX11_hang_38 : decode cX11_hang 38 = .ok (.getfield 39, 3) := by decide +kernel
theorem dX11_hang_41 : decode cX11_hang 41 = .ok (.iload_n 1, 1) := by decide +kernel
theorem dX11_hang_42 : decode cX11_hang 42 = .ok (.putfield 229, 3) := by decide +kernel
theorem dX11_hang_45 : decode cX11_hang 45 = .ok (.iconst 1, 1) := by decide +kernel
theorem dX11_hang_46 : decode cX11_hang 46 = .ok (.ireturn, 1) := by decide +kernel
def f_X11_hang (M : MM) (p1 : Int) : Option (Int × MM) :=
(f_X11_isRoom M p1).bind fun x1 =>
if x1 = 0 then
(some (0, M))
else
if p1 = (M 54 4) then
(some (0, M))
else
(f_X5_note M 1 0 (M 54 4)).bind fun x4 =>
bM (upM x4 54 4 p1) fun M5 =>
some (1, M5)
set_option maxRecDepth 4000 in
theorem c_X11_hang {E : EE} {sh : List (Nat × Nat)} {R : RM} {M : MM} {p1 : Int} (hE : Ext sh) (hL : Links R) : ∀ y, f_X11_hang M p1 = some y → MetC E m_X11_hang 0 0 [rV 0, iV p1] (sh, false, R, M) (fun r w' => r = some (iV y.1) ∧ w' = (sh, false, R, y.2)) := by
  intro y hy
  refine MetC.seg (o := f_X11_hang M p1) (t := (fun K y => K (some (iV y.1)) (sh, false, R, y.2))) (L := [some (rV 0), some (iV p1)]) (by decide) rfl (Nat.le_of_ble_eq_true rfl) ?_ hy ⟨rfl, rfl⟩
  unfold f_X11_hang
  refine Seg.step (pc' := 1) (I_aload_n (i := 0) dX11_hang_0 rfl rfl) ?_
  refine Seg.step (pc' := 2) (I_iload_n (i := 1) dX11_hang_1 rfl rfl) ?_
  refine S_callV1 (md' := m_X11_isRoom) (fun y => some (iV y)) (fun y => (sh, false, R, M)) (hE _ _ sk_11) ⟨by decide, rfl⟩ mm_X11_isRoom wm_11_178 ⟨rfl, rfl, by decide, by decide, by decide, by decide⟩ (Nat.le_of_ble_eq_true rfl) dX11_hang_2 (fun y hy => c_X11_isRoom hE hL y hy) (fun x1 => ?_)
  refine S_if_eq (tgt := 19) dX11_hang_5 (by decide) (fun h2 => ?_) (fun h2 => ?_)
  · refine Seg.step (pc' := 20) (I_iconst dX11_hang_19 ⟨by decide, by decide⟩) ?_
    exact S_zret dX11_hang_20 rfl (by decide) (by decide) (by decide) (fun K hK => hK)
  refine Seg.step (pc' := 9) (I_iload_n (i := 1) dX11_hang_8 rfl rfl) ?_
  refine Seg.step (pc' := 10) (I_aload_n (i := 0) dX11_hang_9 rfl rfl) ?_
  refine Seg.step (pc' := 13) (I_getR cls11 (by decide) wf_11_39 (hE _ _ sk_11) rfl (lk_11_5 hL) dX11_hang_10) ?_
  refine Seg.step (pc' := 16) (I_getI cls0 (by decide) wf_11_229 (hE _ _ sk_11_5) rfl dX11_hang_13) ?_
  refine S_icmp_ne (tgt := 21) dX11_hang_16 (by decide) (fun h3 => ?_) (fun h3 => ?_)
  · refine Seg.step (pc' := 20) (I_iconst dX11_hang_19 ⟨by decide, by decide⟩) ?_
    exact S_zret dX11_hang_20 rfl (by decide) (by decide) (by decide) (fun K hK => hK)
  refine Seg.step (pc' := 22) (I_aload_n (i := 0) dX11_hang_21 rfl rfl) ?_
  refine Seg.step (pc' := 25) (I_getR cls11 (by decide) wf_11_59 (hE _ _ sk_11) rfl (lk_11_10 hL) dX11_hang_22) ?_
  refine Seg.step (pc' := 26) (I_iconst dX11_hang_25 ⟨by decide, by decide⟩) ?_
  refine Seg.step (pc' := 27) (I_iconst dX11_hang_26 ⟨by decide, by decide⟩) ?_
  refine Seg.step (pc' := 28) (I_aload_n (i := 0) dX11_hang_27 rfl rfl) ?_
  refine Seg.step (pc' := 31) (I_getR cls11 (by decide) wf_11_39 (hE _ _ sk_11) rfl (lk_11_5 hL) dX11_hang_28) ?_
  refine Seg.step (pc' := 34) (I_getI cls0 (by decide) wf_11_229 (hE _ _ sk_11_5) rfl dX11_hang_31) ?_
  refine S_callV3 (md' := m_X5_note) (fun y => none) (fun y => (sh, false, R, y)) (hE _ _ sk_11_10) ⟨by decide, rfl⟩ mm_X5_note wm_11_260 ⟨rfl, rfl, by decide, by decide, by decide, by decide⟩ (Nat.le_of_ble_eq_true rfl) dX11_hang_34 (fun y hy => c_X5_note hE hL y hy) (fun x4 => ?_)
  refine Seg.step (pc' := 38) (I_aload_n (i := 0) dX11_hang_37 rfl rfl) ?_
  refine Seg.step (pc' := 41) (I_getR cls11 (by decide) wf_11_39 (hE _ _ sk_11) rfl (lk_11_5 hL) dX11_hang_38) ?_
  refine Seg.step (pc' := 42) (I_iload_n (i := 1) dX11_hang_41 rfl rfl) ?_
  refine Seg.step (pc' := 45) (I_putI cls0 (by decide) wf_11_229 (hE _ _ sk_11_5) rfl rfl dX11_hang_42) ?_
  refine S_bM fun M5 => ?_
  refine Seg.step (pc' := 46) (I_iconst dX11_hang_45 ⟨by decide, by decide⟩) ?_
  exact S_zret dX11_hang_46 rfl (by decide) (by decide) (by decide) (fun K hK => hK)
theorem dX11_candle_0 : decode cX11_candle 0 = .ok (.iload_n 1, 1) := by decide +kernel
theorem dX11_candle_1 : decode cX11_candle 1 = .ok (.aload_n 0, 1) := by decide +kernel
theorem dX11_candle_2 : decode cX11_candle 2 = .ok (.getfield 39, 3) := by decide +kernel
theorem dX11_candle_5 : decode cX11_candle 5 = .ok (.getfield 232, 3) := by decide +kernel
theorem dX11_candle_8 : decode cX11_candle 8 = .ok (.if_icmp .ne 5, 3) := by decide +kernel
theorem dX11_candle_11 : decode cX11_candle 11 = .ok (.iconst 0, 1) := by decide +kernel
theorem dX11_candle_12 : decode cX11_candle 12 = .ok (.ireturn, 1) := by decide +kernel
theorem dX11_candle_13 : decode cX11_candle 13 = .ok (.aload_n 0, 1) := by decide +kernel
theorem dX11_candle_14 : decode cX11_candle 14 = .ok (.getfield 59, 3) := by decide +kernel
theorem dX11_candle_17 : decode cX11_candle 17 = .ok (.iconst 2, 1) := by decide +kernel
theorem dX11_candle_18 : decode cX11_candle 18 = .ok (.iconst 0, 1) := by decide +kernel
theorem dX11_candle_19 : decode cX11_candle 19 = .ok (.aload_n 0, 1) := by decide +kernel
theorem dX11_candle_20 : decode cX11_candle 20 = .ok (.getfield 39, 3) := by decide +kernel
theorem dX11_candle_23 : decode cX11_candle 23 = .ok (.getfield 232, 3) := by decide +kernel
theorem dX11_candle_26 : decode cX11_candle 26 = .ok (.ifCond .eq 7, 3) := by decide +kernel
theorem dX11_candle_29 : decode cX11_candle 29 = .ok (.iconst 1, 1) := by decide +kernel
theorem dX11_candle_30 : decode cX11_candle 30 = .ok (.goto 4, 3) := by decide +kernel
theorem dX11_candle_33 : decode cX11_candle 33 = .ok (.iconst 0, 1) := by decide +kernel
theorem dX11_candle_34 : decode cX11_candle 34 = .ok (.invokevirtual 260, 3) := by decide +kernel
theorem dX11_candle_37 : decode cX11_candle 37 = .ok (.aload_n 0, 1) := by decide +kernel
theorem dX11_candle_38 : decode cX11_candle 38 = .ok (.getfield 39, 3) := by decide +kernel
theorem dX11_candle_41 : decode cX11_candle 41 = .ok (.iload_n 1, 1) := by decide +kernel
theorem dX11_candle_42 : decode cX11_candle 42 = .ok (.putfield 232, 3) := by decide +kernel
theorem dX11_candle_45 : decode cX11_candle 45 = .ok (.iconst 1, 1) := by decide +kernel
theorem dX11_candle_46 : decode cX11_candle 46 = .ok (.ireturn, 1) := by decide +kernel
def f_X11_candle (M : MM) (p1 : Int) : Option (Int × MM) :=
if p1 = (M 54 5) then
(some (0, M))
else
((if (M 54 5) = 0 then
(some 0)
else
some 1) : Option (Int)).bind fun x3 =>
(f_X5_note M 2 0 x3).bind fun x4 =>
gd (p1 = 0 ∨ p1 = 1) <|
bM (upM x4 54 5 p1) fun M6 =>
some (1, M6)
set_option maxRecDepth 4000 in
theorem c_X11_candle {E : EE} {sh : List (Nat × Nat)} {R : RM} {M : MM} {p1 : Int} (hE : Ext sh) (hL : Links R) : ∀ y, f_X11_candle M p1 = some y → MetC E m_X11_candle 0 0 [rV 0, iV p1] (sh, false, R, M) (fun r w' => r = some (iV y.1) ∧ w' = (sh, false, R, y.2)) := by
  intro y hy
  refine MetC.seg (o := f_X11_candle M p1) (t := (fun K y => K (some (iV y.1)) (sh, false, R, y.2))) (L := [some (rV 0), some (iV p1)]) (by decide) rfl (Nat.le_of_ble_eq_true rfl) ?_ hy ⟨rfl, rfl⟩
  unfold f_X11_candle
  refine Seg.step (pc' := 1) (I_iload_n (i := 1) dX11_candle_0 rfl rfl) ?_
  refine Seg.step (pc' := 2) (I_aload_n (i := 0) dX11_candle_1 rfl rfl) ?_
  refine Seg.step (pc' := 5) (I_getR cls11 (by decide) wf_11_39 (hE _ _ sk_11) rfl (lk_11_5 hL) dX11_candle_2) ?_
  refine Seg.step (pc' := 8) (I_getZ cls0 (by decide) wf_11_232 (hE _ _ sk_11_5) rfl dX11_candle_5) ?_
  refine S_icmp_ne (tgt := 13) dX11_candle_8 (by decide) (fun h1 => ?_) (fun h1 => ?_)
  · refine Seg.step (pc' := 12) (I_iconst dX11_candle_11 ⟨by decide, by decide⟩) ?_
    exact S_zret dX11_candle_12 rfl (by decide) (by decide) (by decide) (fun K hK => hK)
  refine Seg.step (pc' := 14) (I_aload_n (i := 0) dX11_candle_13 rfl rfl) ?_
  refine Seg.step (pc' := 17) (I_getR cls11 (by decide) wf_11_59 (hE _ _ sk_11) rfl (lk_11_10 hL) dX11_candle_14) ?_
  refine Seg.step (pc' := 18) (I_iconst dX11_candle_17 ⟨by decide, by decide⟩) ?_
  refine Seg.step (pc' := 19) (I_iconst dX11_candle_18 ⟨by decide, by decide⟩) ?_
  refine Seg.step (pc' := 20) (I_aload_n (i := 0) dX11_candle_19 rfl rfl) ?_
  refine Seg.step (pc' := 23) (I_getR cls11 (by decide) wf_11_39 (hE _ _ sk_11) rfl (lk_11_5 hL) dX11_candle_20) ?_
  refine Seg.step (pc' := 26) (I_getZ cls0 (by decide) wf_11_232 (hE _ _ sk_11_5) rfl dX11_candle_23) ?_
  refine S_bind (Y := Int) (k' := 0) (n' := 0) 34 (fun y => [some (rV 0), some (iV p1)]) (fun y => [iV y, iV 0, iV 2, rV 84]) (fun y => (sh, false, R, M)) ?_ (fun x3 => ?_)
  · refine S_if_eq (tgt := 33) dX11_candle_26 (by decide) (fun h2 => ?_) (fun h2 => ?_)
    · refine Seg.step (pc' := 34) (I_iconst dX11_candle_33 ⟨by decide, by decide⟩) ?_
      exact S_arr (fun K hK => GG.forget (Lle.ye (Lle.ye (Lle.nil))) hK)
    refine Seg.step (pc' := 30) (I_iconst dX11_candle_29 ⟨by decide, by decide⟩) ?_
    refine Seg.step (pc' := 34) (I_goto (tgt := 34) dX11_candle_30 (by decide)) ?_
    exact S_arr (fun K hK => GG.forget (Lle.ye (Lle.ye (Lle.nil))) hK)
  refine S_callV3 (md' := m_X5_note) (fun y => none) (fun y => (sh, false, R, y)) (hE _ _ sk_11_10) ⟨by decide, rfl⟩ mm_X5_note wm_11_260 ⟨rfl, rfl, by decide, by decide, by decide, by decide⟩ (Nat.le_of_ble_eq_true rfl) dX11_candle_34 (fun y hy => c_X5_note hE hL y hy) (fun x4 => ?_)
  refine Seg.step (pc' := 38) (I_aload_n (i := 0) dX11_candle_37 rfl rfl) ?_
  refine Seg.step (pc' := 41) (I_getR cls11 (by decide) wf_11_39 (hE _ _ sk_11) rfl (lk_11_5 hL) dX11_candle_38) ?_
  refine Seg.step (pc' := 42) (I_iload_n (i := 1) dX11_candle_41 rfl rfl) ?_
  refine S_gd fun h5 => ?_
  refine Seg.step (pc' := 45) (I_putZ cls0 (by decide) wf_11_232 (hE _ _ sk_11_5) rfl rfl h5 dX11_candle_42) ?_
  refine S_bM fun M6 => ?_
  refine Seg.step (pc' := 46) (I_iconst dX11_candle_45 ⟨by decide, by decide⟩) ?_
  exact S_zret dX11_candle_46 rfl (by decide) (by decide) (by decide) (fun K hK => hK)
theorem dX11_jumper_0 : decode cX11_jumper 0 = .ok (.aload_n 0, 1) := by decide +kernel
theorem dX11_jumper_1 : decode cX11_jumper 1 = .ok (.iload_n 1, 1) := by decide +kernel
theorem dX11_jumper_2 : decode cX11_jumper 2 = .ok (.invokevirtual 135, 3) := by decide +kernel
theorem dX11_jumper_5 : decode cX11_jumper 5 = .ok (.ifCond .eq 16, 3) := by decide +kernel
theorem dX11_jumper_8 : decode cX11_jumper 8 = .ok (.iload_n 2, 1) := by decide +kernel
theorem dX11_jumper_9 : decode cX11_jumper 9 = .ok (.aload_n 0, 1) := by decide +kernel
theorem dX11_jumper_10 : decode cX11_jumper 10 = .ok (.getfield 39, 3) := by decide +kernel
theorem dX11_jumper_13 : decode cX11_jumper 13 = .ok (.getfield 169, 3) := by decide +kernel
theorem dX11_jumper_16 : decode cX11_jumper 16 = .ok (.iload_n 1, 1) := by decide +kernel
theorem dX11_jumper_17 : decode cX11_jumper 17 = .ok (.baload, 1) := by decide +kernel
theorem dX11_jumper_18 : decode cX11_jumper 18 = .ok (.if_icmp .ne 5, 3) := by decide +kernel
theorem dX11_jumper_21 : decode cX11_jumper 21 = .ok (.iconst 0, 1) := by decide +kernel
theorem dX11_jumper_22 : decode cX11_jumper 22 = .ok (.ireturn, 1) := by decide +kernel
theorem dX11_jumper_23 : decode cX11_jumper 23 = .ok (.aload_n 0, 1) := by decide +kernel
theorem dX11_jumper_24 : decode cX11_jumper 24 = .ok (.getfield 59, 3) := by decide +kernel
theorem dX11_jumper_27 : decode cX11_jumper 27 = .ok (.iconst 3, 1) := by decide +kernel
theorem dX11_jumper_28 : decode cX11_jumper 28 = .ok (.iload_n 1, 1) := by decide +kernel
theorem dX11_jumper_29 : decode cX11_jumper 29 = .ok (.aload_n 0, 1) := by decide +kernel
theorem dX11_jumper_30 : decode cX11_jumper 30 = .ok (.getfield 39, 3) := by decide +kernel
theorem dX11_jumper_33 : decode cX11_jumper 33 = .ok (.getfield 169, 3) := by decide +kernel
theorem dX11_jumper_36 : decode cX11_jumper 36 = .ok (.iload_n 1, 1) := by decide +kernel
theorem dX11_jumper_37 : decode cX11_jumper 37 = .ok (.baload, 1) := by decide +kernel
theorem dX11_jumper_38 : decode cX11_jumper 38 = .ok (.ifCond .eq 7, 3) := by decide +kernel
theorem dX11_jumper_41 : decode cX11_jumper 41 = .ok (.iconst 1, 1) := by decide +kernel
theorem dX11_jumper_42 : decode cX11_jumper 42 = .ok (.goto 4, 3) := by decide +kernel
theorem dX11_jumper_45 : decode cX11_jumper 45 = .ok (.iconst 0, 1) := by decide +kernel
theorem dX11_jumper_46 : decode cX11_jumper 46 = .ok (.invokevirtual 260, 3) := by decide +kernel
theorem dX11_jumper_49 : decode cX11_jumper 49 = .ok (.aload_n 0, 1) := by decide +kernel
theorem dX11_jumper_50 : decode cX11_jumper 50 = .ok (.getfield 39, 3) := by decide +kernel
theorem dX11_jumper_53 : decode cX11_jumper 53 = .ok (.getfield 169, 3) := by decide +kernel
theorem dX11_jumper_56 : decode cX11_jumper 56 = .ok (.iload_n 1, 1) := by decide +kernel
theorem dX11_jumper_57 : decode cX11_jumper 57 = .ok (.iload_n 2, 1) := by decide +kernel
theorem dX11_jumper_58 : decode cX11_jumper 58 = .ok (.bastore, 1) := by decide +kernel
theorem dX11_jumper_59 : decode cX11_jumper 59 = .ok (.iconst 1, 1) := by decide +kernel
theorem dX11_jumper_60 : decode cX11_jumper 60 = .ok (.ireturn, 1) := by decide +kernel
def f_X11_jumper (M : MM) (p1 : Int) (p2 : Int) : Option (Int × MM) :=
(f_X11_isPerson M p1).bind fun x1 =>
if x1 = 0 then
(some (0, M))
else
gd (0 ≤ p1 ∧ p1 < (5 : Int)) <|
if p2 = (M 56 (p1).toNat) then
(some (0, M))
else
gd (0 ≤ p1 ∧ p1 < (5 : Int)) <|
((if (M 56 (p1).toNat) = 0 then
(some 0)
else
some 1) : Option (Int)).bind fun x7 =>
(f_X5_note M 3 p1 x7).bind fun x8 =>
gd (0 ≤ p1 ∧ p1 < (5 : Int)) <|
gd (p2 = 0 ∨ p2 = 1) <|
bM (upM x8 56 (p1).toNat p2) fun M11 =>
some (1, M11)
set_option maxRecDepth 4000 in
theorem c_X11_jumper {E : EE} {sh : List (Nat × Nat)} {R : RM} {M : MM} {p1 : Int} {p2 : Int} (hE : Ext sh) (hL : Links R) : ∀ y, f_X11_jumper M p1 p2 = some y → MetC E m_X11_jumper 0 0 [rV 0, iV p1, iV p2] (sh, false, R, M) (fun r w' => r = some (iV y.1) ∧ w' = (sh, false, R, y.2)) := by
  intro y hy
  refine MetC.seg (o := f_X11_jumper M p1 p2) (t := (fun K y => K (some (iV y.1)) (sh, false, R, y.2))) (L := [some (rV 0), some (iV p1), some (iV p2)]) (by decide) rfl (Nat.le_of_ble_eq_true rfl) ?_ hy ⟨rfl, rfl⟩
  unfold f_X11_jumper
  refine Seg.step (pc' := 1) (I_aload_n (i := 0) dX11_jumper_0 rfl rfl) ?_
  refine Seg.step (pc' := 2) (I_iload_n (i := 1) dX11_jumper_1 rfl rfl) ?_
  refine S_callV1 (md' := m_X11_isPerson) (fun y => some (iV y)) (fun y => (sh, false, R, M)) (hE _ _ sk_11) ⟨by decide, rfl⟩ mm_X11_isPerson wm_11_135 ⟨rfl, rfl, by decide, by decide, by decide, by decide⟩ (Nat.le_of_ble_eq_true rfl) dX11_jumper_2 (fun y hy => c_X11_isPerson hE hL y hy) (fun x1 => ?_)
  refine S_if_eq (tgt := 21) dX11_jumper_5 (by decide) (fun h2 => ?_) (fun h2 => ?_)
  · refine Seg.step (pc' := 22) (I_iconst dX11_jumper_21 ⟨by decide, by decide⟩) ?_
    exact S_zret dX11_jumper_22 rfl (by decide) (by decide) (by decide) (fun K hK => hK)
  refine Seg.step (pc' := 9) (I_iload_n (i := 2) dX11_jumper_8 rfl rfl) ?_
  refine Seg.step (pc' := 10) (I_aload_n (i := 0) dX11_jumper_9 rfl rfl) ?_
  refine Seg.step (pc' := 13) (I_getR cls11 (by decide) wf_11_39 (hE _ _ sk_11) rfl (lk_11_5 hL) dX11_jumper_10) ?_
  refine Seg.step (pc' := 16) (I_getR cls0 (by decide) wf_11_169 (hE _ _ sk_11_5) rfl (lk_0_7 hL sk_11_5) dX11_jumper_13) ?_
  refine Seg.step (pc' := 17) (I_iload_n (i := 1) dX11_jumper_16 rfl rfl) ?_
  refine S_gd fun h3 => ?_
  refine Seg.step (pc' := 18) (I_zald (hE _ _ (sk_0_7 sk_11_5)) h3 dX11_jumper_17) ?_
  refine S_icmp_ne (tgt := 23) dX11_jumper_18 (by decide) (fun h4 => ?_) (fun h4 => ?_)
  · refine Seg.step (pc' := 22) (I_iconst dX11_jumper_21 ⟨by decide, by decide⟩) ?_
    exact S_zret dX11_jumper_22 rfl (by decide) (by decide) (by decide) (fun K hK => hK)
  refine Seg.step (pc' := 24) (I_aload_n (i := 0) dX11_jumper_23 rfl rfl) ?_
  refine Seg.step (pc' := 27) (I_getR cls11 (by decide) wf_11_59 (hE _ _ sk_11) rfl (lk_11_10 hL) dX11_jumper_24) ?_
  refine Seg.step (pc' := 28) (I_iconst dX11_jumper_27 ⟨by decide, by decide⟩) ?_
  refine Seg.step (pc' := 29) (I_iload_n (i := 1) dX11_jumper_28 rfl rfl) ?_
  refine Seg.step (pc' := 30) (I_aload_n (i := 0) dX11_jumper_29 rfl rfl) ?_
  refine Seg.step (pc' := 33) (I_getR cls11 (by decide) wf_11_39 (hE _ _ sk_11) rfl (lk_11_5 hL) dX11_jumper_30) ?_
  refine Seg.step (pc' := 36) (I_getR cls0 (by decide) wf_11_169 (hE _ _ sk_11_5) rfl (lk_0_7 hL sk_11_5) dX11_jumper_33) ?_
  refine Seg.step (pc' := 37) (I_iload_n (i := 1) dX11_jumper_36 rfl rfl) ?_
  refine S_gd fun h5 => ?_
  refine Seg.step (pc' := 38) (I_zald (hE _ _ (sk_0_7 sk_11_5)) h5 dX11_jumper_37) ?_
  refine S_bind (Y := Int) (k' := 0) (n' := 0) 46 (fun y => [some (rV 0), some (iV p1), some (iV p2)]) (fun y => [iV y, iV p1, iV 3, rV 84]) (fun y => (sh, false, R, M)) ?_ (fun x7 => ?_)
  · refine S_if_eq (tgt := 45) dX11_jumper_38 (by decide) (fun h6 => ?_) (fun h6 => ?_)
    · refine Seg.step (pc' := 46) (I_iconst dX11_jumper_45 ⟨by decide, by decide⟩) ?_
      exact S_arr (fun K hK => GG.forget (Lle.ye (Lle.ye (Lle.ye (Lle.nil)))) hK)
    refine Seg.step (pc' := 42) (I_iconst dX11_jumper_41 ⟨by decide, by decide⟩) ?_
    refine Seg.step (pc' := 46) (I_goto (tgt := 46) dX11_jumper_42 (by decide)) ?_
    exact S_arr (fun K hK => GG.forget (Lle.ye (Lle.ye (Lle.ye (Lle.nil)))) hK)
  refine S_callV3 (md' := m_X5_note) (fun y => none) (fun y => (sh, false, R, y)) (hE _ _ sk_11_10) ⟨by decide, rfl⟩ mm_X5_note wm_11_260 ⟨rfl, rfl, by decide, by decide, by decide, by decide⟩ (Nat.le_of_ble_eq_true rfl) dX11_jumper_46 (fun y hy => c_X5_note hE hL y hy) (fun x8 => ?_)
  refine Seg.step (pc' := 50) (I_aload_n (i := 0) dX11_jumper_49 rfl rfl) ?_
  refine Seg.step (pc' := 53) (I_getR cls11 (by decide) wf_11_39 (hE _ _ sk_11) rfl (lk_11_5 hL) dX11_jumper_50) ?_
  refine Seg.step (pc' := 56) (I_getR cls0 (by decide) wf_11_169 (hE _ _ sk_11_5) rfl (lk_0_7 hL sk_11_5) dX11_jumper_53) ?_
  refine Seg.step (pc' := 57) (I_iload_n (i := 1) dX11_jumper_56 rfl rfl) ?_
  refine Seg.step (pc' := 58) (I_iload_n (i := 2) dX11_jumper_57 rfl rfl) ?_
  refine S_gd fun h9 => ?_
  refine S_gd fun h10 => ?_
  refine Seg.step (pc' := 59) (I_zast (hE _ _ (sk_0_7 sk_11_5)) h9 h10 dX11_jumper_58) ?_
  refine S_bM fun M11 => ?_
  refine Seg.step (pc' := 60) (I_iconst dX11_jumper_59 ⟨by decide, by decide⟩) ?_
  exact S_zret dX11_jumper_60 rfl (by decide) (by decide) (by decide) (fun K hK => hK)
theorem dX11_go_0 : decode cX11_go 0 = .ok (.iload_n 1, 1) := by decide +kernel
theorem dX11_go_1 : decode cX11_go 1 = .ok (.iconst 0, 1) := by decide +kernel
theorem dX11_go_2 : decode cX11_go 2 = .ok (.bipush 99, 2) := by decide +kernel
theorem dX11_go_4 : decode cX11_go 4 = .ok (.invokestatic 139, 3) := by decide +kernel
theorem dX11_go_7 : decode cX11_go 7 = .ok (.ifCond .eq 18, 3) := by decide +kernel
theorem dX11_go_10 : decode cX11_go 10 = .ok (.aload_n 0, 1) := by decide +kernel
theorem dX11_go_11 : decode cX11_go 11 = .ok (.getfield 39, 3) := by decide +kernel
theorem dX11_go_14 : decode cX11_go 14 = .ok (.getfield 190, 3) := by decide +kernel
theorem dX11_go_17 : decode cX11_go 17 = .ok (.iload_n 1, 1) := by decide +kernel
theorem dX11_go_18 : decode cX11_go 18 = .ok (.iadd, 1) := by decide +kernel
theorem dX11_go_19 : decode cX11_go 19 = .ok (.sipush 9900, 3) := by decide +kernel
theorem dX11_go_22 : decode cX11_go 22 = .ok (.if_icmp .le 5, 3) := by decide +kernel
theorem dX11_go_25 : decode cX11_go 25 = .ok (.iconst (-1), 1) := by decide +kernel
theorem dX11_go_26 : decode cX11_go 26 = .ok (.ireturn, 1) := by decide +kernel
theorem dX11_go_27 : decode cX11_go 27 = .ok (.aload_n 0, 1) := by decide +kernel
theorem dX11_go_28 : decode cX11_go 28 = .ok (.getfield 39, 3) := by decide +kernel
theorem dX11_go_31 : decode cX11_go 31 = .ok (.iload_n 1, 1) := by decide +kernel
theorem dX11_go_32 : decode cX11_go 32 = .ok (.invokevirtual 264, 3) := by decide +kernel
theorem dX11_go_35 : decode cX11_go 35 = .ok (.iload_n 1, 1) := by decide +kernel
theorem dX11_go_36 : decode cX11_go 36 = .ok (.ifCond .le 11, 3) := by decide +kernel
theorem dX11_go_39 : decode cX11_go 39 = .ok (.aload_n 0, 1) := by decide +kernel
theorem dX11_go_40 : decode cX11_go 40 = .ok (.getfield 59, 3) := by decide +kernel
theorem dX11_go_43 : decode cX11_go 43 = .ok (.iconst 0, 1) := by decide +kernel
theorem dX11_go_44 : decode cX11_go 44 = .ok (.putfield 109, 3) := by decide +kernel
theorem dX11_go_47 : decode cX11_go 47 = .ok (.aload_n 0, 1) := by decide +kernel
theorem dX11_go_48 : decode cX11_go 48 = .ok (.getfield 39, 3) := by decide +kernel
theorem dX11_go_51 : decode cX11_go 51 = .ok (.getfield 190, 3) := by decide +kernel
theorem dX11_go_54 : decode cX11_go 54 = .ok (.ireturn, 1) := by decide +kernel
def f_X11_go (M : MM) (p1 : Int) : Option (Int × MM) :=
(f_X11_isWithin M p1 0 99).bind fun x1 =>
if x1 = 0 then
(some ((-1), M))
else
if 9900 < (w32 ((M 54 2) + p1)) then
(some ((-1), M))
else
(f_X0_run M 54 p1).bind fun x4 =>
((if 0 < p1 then
(bM (upM x4 84 0 0) fun M6 =>
some M6)
else
some x4) : Option (MM)).bind fun x7 =>
some (x7 54 2, x7)
set_option maxRecDepth 4000 in
theorem c_X11_go {E : EE} {sh : List (Nat × Nat)} {R : RM} {M : MM} {p1 : Int} (hE : Ext sh) (hL : Links R) : ∀ y, f_X11_go M p1 = some y → MetC E m_X11_go 0 0 [rV 0, iV p1] (sh, false, R, M) (fun r w' => r = some (iV y.1) ∧ w' = (sh, false, R, y.2)) := by
  intro y hy
  refine MetC.seg (o := f_X11_go M p1) (t := (fun K y => K (some (iV y.1)) (sh, false, R, y.2))) (L := [some (rV 0), some (iV p1)]) (by decide) rfl (Nat.le_of_ble_eq_true rfl) ?_ hy ⟨rfl, rfl⟩
  unfold f_X11_go
  refine Seg.step (pc' := 1) (I_iload_n (i := 1) dX11_go_0 rfl rfl) ?_
  refine Seg.step (pc' := 2) (I_iconst dX11_go_1 ⟨by decide, by decide⟩) ?_
  refine Seg.step (pc' := 4) (I_bipush dX11_go_2 (by decide) ⟨by decide, by decide⟩) ?_
  refine S_callS3 (md' := m_X11_isWithin) (fun y => some (iV y)) (fun y => (sh, false, R, M)) mm_X11_isWithin wm_11_139 ⟨rfl, rfl, by decide, by decide, by decide, by decide⟩ (Nat.le_of_ble_eq_true rfl) dX11_go_4 (fun y hy => c_X11_isWithin hE hL y hy) (fun x1 => ?_)
  refine S_if_eq (tgt := 25) dX11_go_7 (by decide) (fun h2 => ?_) (fun h2 => ?_)
  · refine Seg.step (pc' := 26) (I_iconst dX11_go_25 ⟨by decide, by decide⟩) ?_
    exact S_iret dX11_go_26 rfl (by decide) (by decide) (fun K hK => hK)
  refine Seg.step (pc' := 11) (I_aload_n (i := 0) dX11_go_10 rfl rfl) ?_
  refine Seg.step (pc' := 14) (I_getR cls11 (by decide) wf_11_39 (hE _ _ sk_11) rfl (lk_11_5 hL) dX11_go_11) ?_
  refine Seg.step (pc' := 17) (I_getI cls0 (by decide) wf_11_190 (hE _ _ sk_11_5) rfl dX11_go_14) ?_
  refine Seg.step (pc' := 18) (I_iload_n (i := 1) dX11_go_17 rfl rfl) ?_
  refine Seg.step (pc' := 19) (I_iadd dX11_go_18) ?_
  refine Seg.step (pc' := 22) (I_sipush dX11_go_19 (by decide) ⟨by decide, by decide⟩) ?_
  refine S_icmp_le (tgt := 27) dX11_go_22 (by decide) (fun h3 => ?_) (fun h3 => ?_)
  · refine Seg.step (pc' := 26) (I_iconst dX11_go_25 ⟨by decide, by decide⟩) ?_
    exact S_iret dX11_go_26 rfl (by decide) (by decide) (fun K hK => hK)
  refine Seg.step (pc' := 28) (I_aload_n (i := 0) dX11_go_27 rfl rfl) ?_
  refine Seg.step (pc' := 31) (I_getR cls11 (by decide) wf_11_39 (hE _ _ sk_11) rfl (lk_11_5 hL) dX11_go_28) ?_
  refine Seg.step (pc' := 32) (I_iload_n (i := 1) dX11_go_31 rfl rfl) ?_
  refine S_callV1 (md' := m_X0_run) (fun y => none) (fun y => (sh, false, R, y)) (hE _ _ sk_11_5) ⟨by decide, rfl⟩ mm_X0_run wm_11_264 ⟨rfl, rfl, by decide, by decide, by decide, by decide⟩ (Nat.le_of_ble_eq_true rfl) dX11_go_32 (fun y hy => c_X0_run hE hL sk_11_5 y hy) (fun x4 => ?_)
  refine Seg.step (pc' := 36) (I_iload_n (i := 1) dX11_go_35 rfl rfl) ?_
  refine S_bind (Y := MM) (k' := 0) (n' := 0) 47 (fun y => [some (rV 0), none]) (fun y => []) (fun y => (sh, false, R, y)) ?_ (fun x7 => ?_)
  · refine S_if_le (tgt := 47) dX11_go_36 (by decide) (fun h5 => ?_) (fun h5 => ?_)
    · refine Seg.step (pc' := 40) (I_aload_n (i := 0) dX11_go_39 rfl rfl) ?_
      refine Seg.step (pc' := 43) (I_getR cls11 (by decide) wf_11_59 (hE _ _ sk_11) rfl (lk_11_10 hL) dX11_go_40) ?_
      refine Seg.step (pc' := 44) (I_iconst dX11_go_43 ⟨by decide, by decide⟩) ?_
      refine Seg.step (pc' := 47) (I_putI cls5 (by decide) wf_11_109 (hE _ _ sk_11_10) rfl rfl dX11_go_44) ?_
      refine S_bM fun M6 => ?_
      exact S_arr (fun K hK => GG.forget (Lle.ye (Lle.no (Lle.nil))) hK)
    exact S_arr (fun K hK => GG.forget (Lle.ye (Lle.no (Lle.nil))) hK)
  refine Seg.step (pc' := 48) (I_aload_n (i := 0) dX11_go_47 rfl rfl) ?_
  refine Seg.step (pc' := 51) (I_getR cls11 (by decide) wf_11_39 (hE _ _ sk_11) rfl (lk_11_5 hL) dX11_go_48) ?_
  refine Seg.step (pc' := 54) (I_getI cls0 (by decide) wf_11_190 (hE _ _ sk_11_5) rfl dX11_go_51) ?_
  exact S_iret dX11_go_54 rfl (by decide) (by decide) (fun K hK => hK)
theorem dX11_undo_0 : decode cX11_undo 0 = .ok (.aload_n 0, 1) := by decide +kernel
theorem dX11_undo_1 : decode cX11_undo 1 = .ok (.getfield 59, 3) := by decide +kernel
theorem dX11_undo_4 : decode cX11_undo 4 = .ok (.getfield 109, 3) := by decide +kernel
theorem dX11_undo_7 : decode cX11_undo 7 = .ok (.ifCond .ne 5, 3) := by decide +kernel
theorem dX11_undo_10 : decode cX11_undo 10 = .ok (.iconst (-1), 1) := by decide +kernel
theorem dX11_undo_11 : decode cX11_undo 11 = .ok (.ireturn, 1) := by decide +kernel
theorem dX11_undo_12 : decode cX11_undo 12 = .ok (.aload_n 0, 1) := by decide +kernel
theorem dX11_undo_13 : decode cX11_undo 13 = .ok (.getfield 59, 3) := by decide +kernel
theorem dX11_undo_16 : decode cX11_undo 16 = .ok (.aload_n 0, 1) := by decide +kernel
theorem dX11_undo_17 : decode cX11_undo 17 = .ok (.getfield 39, 3) := by decide +kernel
theorem dX11_undo_20 : decode cX11_undo 20 = .ok (.invokevirtual 267, 3) := by decide +kernel
theorem dX11_undo_23 : decode cX11_undo 23 = .ok (.aload_n 0, 1) := by decide +kernel
theorem dX11_undo_24 : decode cX11_undo 24 = .ok (.getfield 59, 3) := by decide +kernel
theorem dX11_undo_27 : decode cX11_undo 27 = .ok (.getfield 109, 3) := by decide +kernel
theorem dX11_undo_30 : decode cX11_undo 30 = .ok (.ireturn, 1) := by decide +kernel
def f_X11_undo (M : MM)  : Option (Int × MM) :=
if (M 84 0) = 0 then
(some ((-1), M))
else
(f_X5_takeBack M 54).bind fun x2 =>
some (x2 84 0, x2)
set_option maxRecDepth 4000 in
theorem c_X11_undo {E : EE} {sh : List (Nat × Nat)} {ex : Bool} {R : RM} {M : MM}  (hE : Ext sh) (hL : Links R) : ∀ y, f_X11_undo M = some y → MetC E m_X11_undo 0 0 [rV 0] (sh, ex, R, M) (fun r w' => r = some (iV y.1) ∧ w' = (sh, ex, R, y.2)) := by
  intro y hy
  refine MetC.seg (o := f_X11_undo M) (t := (fun K y => K (some (iV y.1)) (sh, ex, R, y.2))) (L := [some (rV 0)]) (by decide) rfl (Nat.le_of_ble_eq_true rfl) ?_ hy ⟨rfl, rfl⟩
  unfold f_X11_undo
  refine Seg.step (pc' := 1) (I_aload_n (i := 0) dX11_undo_0 rfl rfl) ?_
  refine Seg.step (pc' := 4) (I_getR cls11 (by decide) wf_11_59 (hE _ _ sk_11) rfl (lk_11_10 hL) dX11_undo_1) ?_
  refine Seg.step (pc' := 7) (I_getI cls5 (by decide) wf_11_109 (hE _ _ sk_11_10) rfl dX11_undo_4) ?_
  refine S_if_ne (tgt := 12) dX11_undo_7 (by decide) (fun h1 => ?_) (fun h1 => ?_)
  · refine Seg.step (pc' := 11) (I_iconst dX11_undo_10 ⟨by decide, by decide⟩) ?_
    exact S_iret dX11_undo_11 rfl (by decide) (by decide) (fun K hK => hK)
  refine Seg.step (pc' := 13) (I_aload_n (i := 0) dX11_undo_12 rfl rfl) ?_
  refine Seg.step (pc' := 16) (I_getR cls11 (by decide) wf_11_59 (hE _ _ sk_11) rfl (lk_11_10 hL) dX11_undo_13) ?_
  refine Seg.step (pc' := 17) (I_aload_n (i := 0) dX11_undo_16 rfl rfl) ?_
  refine Seg.step (pc' := 20) (I_getR cls11 (by decide) wf_11_39 (hE _ _ sk_11) rfl (lk_11_5 hL) dX11_undo_17) ?_
  refine S_callV1 (md' := m_X5_takeBack) (fun y => none) (fun y => (sh, ex, R, y)) (hE _ _ sk_11_10) ⟨by decide, rfl⟩ mm_X5_takeBack wm_11_267 ⟨rfl, rfl, by decide, by decide, by decide, by decide⟩ (Nat.le_of_ble_eq_true rfl) dX11_undo_20 (fun y hy => c_X5_takeBack hE hL sk_11_5 y hy) (fun x2 => ?_)
  refine Seg.step (pc' := 24) (I_aload_n (i := 0) dX11_undo_23 rfl rfl) ?_
  refine Seg.step (pc' := 27) (I_getR cls11 (by decide) wf_11_59 (hE _ _ sk_11) rfl (lk_11_10 hL) dX11_undo_24) ?_
  refine Seg.step (pc' := 30) (I_getI cls5 (by decide) wf_11_109 (hE _ _ sk_11_10) rfl dX11_undo_27) ?_
  exact S_iret dX11_undo_30 rfl (by decide) (by decide) (fun K hK => hK)
theorem dX11_keep_0 : decode cX11_keep 0 = .ok (.aload_n 0, 1) := by decide +kernel
theorem dX11_keep_1 : decode cX11_keep 1 = .ok (.getfield 43, 3) := by decide +kernel
theorem dX11_keep_4 : decode cX11_keep 4 = .ok (.aload_n 0, 1) := by decide +kernel
theorem dX11_keep_5 : decode cX11_keep 5 = .ok (.getfield 39, 3) := by decide +kernel
theorem dX11_keep_8 : decode cX11_keep 8 = .ok (.invokevirtual 271, 3) := by decide +kernel
theorem dX11_keep_11 : decode cX11_keep 11 = .ok (.aload_n 0, 1) := by decide +kernel
theorem dX11_keep_12 : decode cX11_keep 12 = .ok (.iconst 1, 1) := by decide +kernel
theorem dX11_keep_13 : decode cX11_keep 13 = .ok (.putfield 102, 3) := by decide +kernel
theorem dX11_keep_16 : decode cX11_keep 16 = .ok (.aload_n 0, 1) := by decide +kernel
theorem dX11_keep_17 : decode cX11_keep 17 = .ok (.getfield 39, 3) := by decide +kernel
theorem dX11_keep_20 : decode cX11_keep 20 = .ok (.getfield 190, 3) := by decide +kernel
theorem dX11_keep_23 : decode cX11_keep 23 = .ok (.ireturn, 1) := by decide +kernel
def f_X11_keep (M : MM)  : Option (Int × MM) :=
(f_X0_copy M 62 54).bind fun x1 =>
bM (upM x1 0 7 1) fun M2 =>
some (M2 54 2, M2)
set_option maxRecDepth 4000 in
theorem c_X11_keep {E : EE} {sh : List (Nat × Nat)} {R : RM} {M : MM}  (hE : Ext sh) (hL : Links R) : ∀ y, f_X11_keep M = some y → MetC E m_X11_keep 0 0 [rV 0] (sh, false, R, M) (fun r w' => r = some (iV y.1) ∧ w' = (sh, false, R, y.2)) := by
  intro y hy
  refine MetC.seg (o := f_X11_keep M) (t := (fun K y => K (some (iV y.1)) (sh, false, R, y.2))) (L := [some (rV 0)]) (by decide) rfl (Nat.le_of_ble_eq_true rfl) ?_ hy ⟨rfl, rfl⟩
  unfold f_X11_keep
  refine Seg.step (pc' := 1) (I_aload_n (i := 0) dX11_keep_0 rfl rfl) ?_
  refine Seg.step (pc' := 4) (I_getR cls11 (by decide) wf_11_43 (hE _ _ sk_11) rfl (lk_11_6 hL) dX11_keep_1) ?_
  refine Seg.step (pc' := 5) (I_aload_n (i := 0) dX11_keep_4 rfl rfl) ?_
  refine Seg.step (pc' := 8) (I_getR cls11 (by decide) wf_11_39 (hE _ _ sk_11) rfl (lk_11_5 hL) dX11_keep_5) ?_
  refine S_callV1 (md' := m_X0_copy) (fun y => none) (fun y => (sh, false, R, y)) (hE _ _ sk_11_6) ⟨by decide, rfl⟩ mm_X0_copy wm_11_271 ⟨rfl, rfl, by decide, by decide, by decide, by decide⟩ (Nat.le_of_ble_eq_true rfl) dX11_keep_8 (fun y hy => c_X0_copy hE hL sk_11_6 sk_11_5 y hy) (fun x1 => ?_)
  refine Seg.step (pc' := 12) (I_aload_n (i := 0) dX11_keep_11 rfl rfl) ?_
  refine Seg.step (pc' := 13) (I_iconst dX11_keep_12 ⟨by decide, by decide⟩) ?_
  refine Seg.step (pc' := 16) (I_putZ cls11 (by decide) wf_11_102 (hE _ _ sk_11) rfl rfl (by decide) dX11_keep_13) ?_
  refine S_bM fun M2 => ?_
  refine Seg.step (pc' := 17) (I_aload_n (i := 0) dX11_keep_16 rfl rfl) ?_
  refine Seg.step (pc' := 20) (I_getR cls11 (by decide) wf_11_39 (hE _ _ sk_11) rfl (lk_11_5 hL) dX11_keep_17) ?_
  refine Seg.step (pc' := 23) (I_getI cls0 (by decide) wf_11_190 (hE _ _ sk_11_5) rfl dX11_keep_20) ?_
  exact S_iret dX11_keep_23 rfl (by decide) (by decide) (fun K hK => hK)
theorem dX11_back_0 : decode cX11_back 0 = .ok (.aload_n 0, 1) := by decide +kernel
theorem dX11_back_1 : decode cX11_back 1 = .ok (.getfield 102, 3) := by decide +kernel
theorem dX11_back_4 : decode cX11_back 4 = .ok (.ifCond .ne 5, 3) := by decide +kernel
theorem dX11_back_7 : decode cX11_back 7 = .ok (.iconst (-1), 1) := by decide +kernel
theorem dX11_back_8 : decode cX11_back 8 = .ok (.ireturn, 1) := by decide +kernel
theorem dX11_back_9 : decode cX11_back 9 = .ok (.aload_n 0, 1) := by decide +kernel
theorem dX11_back_10 : decode cX11_back 10 = .ok (.getfield 39, 3) := by decide +kernel
theorem dX11_back_13 : decode cX11_back 13 = .ok (.aload_n 0, 1) := by decide +kernel
theorem dX11_back_14 : decode cX11_back 14 = .ok (.getfield 43, 3) := by decide +kernel
theorem dX11_back_17 : decode cX11_back 17 = .ok (.invokevirtual 271, 3) := by decide +kernel
theorem dX11_back_20 : decode cX11_back 20 = .ok (.aload_n 0, 1) := by decide +kernel
theorem dX11_back_21 : decode cX11_back 21 = .ok (.getfield 59, 3) := by decide +kernel
theorem dX11_back_24 : decode cX11_back 24 = .ok (.iconst 0, 1) := by decide +kernel
theorem dX11_back_25 : decode cX11_back 25 = .ok (.putfield 109, 3) := by decide +kernel
theorem dX11_back_28 : decode cX11_back 28 = .ok (.aload_n 0, 1) := by decide +kernel
theorem dX11_back_29 : decode cX11_back 29 = .ok (.getfield 39, 3) := by decide +kernel
theorem dX11_back_32 : decode cX11_back 32 = .ok (.getfield 190, 3) := by decide +kernel
theorem dX11_back_35 : decode cX11_back 35 = .ok (.ireturn, 1) := by decide +kernel
def f_X11_back (M : MM)  : Option (Int × MM) :=
if (M 0 7) = 0 then
(some ((-1), M))
else
(f_X0_copy M 54 62).bind fun x2 =>
bM (upM x2 84 0 0) fun M3 =>
some (M3 54 2, M3)
set_option maxRecDepth 4000 in
theorem c_X11_back {E : EE} {sh : List (Nat × Nat)} {R : RM} {M : MM}  (hE : Ext sh) (hL : Links R) : ∀ y, f_X11_back M = some y → MetC E m_X11_back 0 0 [rV 0] (sh, false, R, M) (fun r w' => r = some (iV y.1) ∧ w' = (sh, false, R, y.2)) := by
  intro y hy
  refine MetC.seg (o := f_X11_back M) (t := (fun K y => K (some (iV y.1)) (sh, false, R, y.2))) (L := [some (rV 0)]) (by decide) rfl (Nat.le_of_ble_eq_true rfl) ?_ hy ⟨rfl, rfl⟩
  unfold f_X11_back
  refine Seg.step (pc' := 1) (I_aload_n (i := 0) dX11_back_0 rfl rfl) ?_
  refine Seg.step (pc' := 4) (I_getZ cls11 (by decide) wf_11_102 (hE _ _ sk_11) rfl dX11_back_1) ?_
  refine S_if_ne (tgt := 9) dX11_back_4 (by decide) (fun h1 => ?_) (fun h1 => ?_)
  · refine Seg.step (pc' := 8) (I_iconst dX11_back_7 ⟨by decide, by decide⟩) ?_
    exact S_iret dX11_back_8 rfl (by decide) (by decide) (fun K hK => hK)
  refine Seg.step (pc' := 10) (I_aload_n (i := 0) dX11_back_9 rfl rfl) ?_
  refine Seg.step (pc' := 13) (I_getR cls11 (by decide) wf_11_39 (hE _ _ sk_11) rfl (lk_11_5 hL) dX11_back_10) ?_
  refine Seg.step (pc' := 14) (I_aload_n (i := 0) dX11_back_13 rfl rfl) ?_
  refine Seg.step (pc' := 17) (I_getR cls11 (by decide) wf_11_43 (hE _ _ sk_11) rfl (lk_11_6 hL) dX11_back_14) ?_
  refine S_callV1 (md' := m_X0_copy) (fun y => none) (fun y => (sh, false, R, y)) (hE _ _ sk_11_5) ⟨by decide, rfl⟩ mm_X0_copy wm_11_271 ⟨rfl, rfl, by decide, by decide, by decide, by decide⟩ (Nat.le_of_ble_eq_true rfl) dX11_back_17 (fun y hy => c_X0_copy hE hL sk_11_5 sk_11_6 y hy) (fun x2 => ?_)
  refine Seg.step (pc' := 21) (I_aload_n (i := 0) dX11_back_20 rfl rfl) ?_
  refine Seg.step (pc' := 24) (I_getR cls11 (by decide) wf_11_59 (hE _ _ sk_11) rfl (lk_11_10 hL) dX11_back_21) ?_
  refine Seg.step (pc' := 25) (I_iconst dX11_back_24 ⟨by decide, by decide⟩) ?_
  refine Seg.step (pc' := 28) (I_putI cls5 (by decide) wf_11_109 (hE _ _ sk_11_10) rfl rfl dX11_back_25) ?_
  refine S_bM fun M3 => ?_
  refine Seg.step (pc' := 29) (I_aload_n (i := 0) dX11_back_28 rfl rfl) ?_
  refine Seg.step (pc' := 32) (I_getR cls11 (by decide) wf_11_39 (hE _ _ sk_11) rfl (lk_11_5 hL) dX11_back_29) ?_
  refine Seg.step (pc' := 35) (I_getI cls0 (by decide) wf_11_190 (hE _ _ sk_11_5) rfl dX11_back_32) ?_
  exact S_iret dX11_back_35 rfl (by decide) (by decide) (fun K hK => hK)
theorem dX11_tryAsItGoes_0 : decode cX11_tryAsItGoes 0 = .ok (.aload_n 0, 1) := by decide +kernel
theorem dX11_tryAsItGoes_1 : decode cX11_tryAsItGoes 1 = .ok (.getfield 46, 3) := by decide +kernel
theorem dX11_tryAsItGoes_4 : decode cX11_tryAsItGoes 4 = .ok (.aload_n 0, 1) := by decide +kernel
theorem dX11_tryAsItGoes_5 : decode cX11_tryAsItGoes 5 = .ok (.getfield 39, 3) := by decide +kernel
theorem dX11_tryAsItGoes_8 : decode cX11_tryAsItGoes 8 = .ok (.invokevirtual 271, 3) := by decide +kernel
theorem dX11_tryAsItGoes_11 : decode cX11_tryAsItGoes 11 = .ok (.aload_n 0, 1) := by decide +kernel
theorem dX11_tryAsItGoes_12 : decode cX11_tryAsItGoes 12 = .ok (.getfield 46, 3) := by decide +kernel
theorem dX11_tryAsItGoes_15 : decode cX11_tryAsItGoes 15 = .ok (.invokevirtual 274, 3) := by decide +kernel
theorem dX11_tryAsItGoes_18 : decode cX11_tryAsItGoes 18 = .ok (.aload_n 0, 1) := by decide +kernel
theorem dX11_tryAsItGoes_19 : decode cX11_tryAsItGoes 19 = .ok (.getfield 46, 3) := by decide +kernel
theorem dX11_tryAsItGoes_22 : decode cX11_tryAsItGoes 22 = .ok (.getfield 277, 3) := by decide +kernel
theorem dX11_tryAsItGoes_25 : decode cX11_tryAsItGoes 25 = .ok (.invokevirtual 281, 3) := by decide +kernel
theorem dX11_tryAsItGoes_28 : decode cX11_tryAsItGoes 28 = .ok (.return_, 1) := by decide +kernel
def f_X11_tryAsItGoes (M : MM)  : Option (MM) :=
(f_X0_copy M 70 54).bind fun x1 =>
(f_X0_forget x1 70).bind fun x2 =>
(f_X10_clear x2 71).bind fun x3 =>
some x3
set_option maxRecDepth 4000 in
theorem c_X11_tryAsItGoes {E : EE} {sh : List (Nat × Nat)} {R : RM} {M : MM}  (hE : Ext sh) (hL : Links R) : ∀ y, f_X11_tryAsItGoes M = some y → MetC E m_X11_tryAsItGoes 0 0 [rV 0] (sh, false, R, M) (fun r w' => r = none ∧ w' = (sh, false, R, y)) := by
  intro y hy
  refine MetC.seg (o := f_X11_tryAsItGoes M) (t := (fun K y => K (none) (sh, false, R, y))) (L := [some (rV 0)]) (by decide) rfl (Nat.le_of_ble_eq_true rfl) ?_ hy ⟨rfl, rfl⟩
  unfold f_X11_tryAsItGoes
  refine Seg.step (pc' := 1) (I_aload_n (i := 0) dX11_tryAsItGoes_0 rfl rfl) ?_
  refine Seg.step (pc' := 4) (I_getR cls11 (by decide) wf_11_46 (hE _ _ sk_11) rfl (lk_11_8 hL) dX11_tryAsItGoes_1) ?_
  refine Seg.step (pc' := 5) (I_aload_n (i := 0) dX11_tryAsItGoes_4 rfl rfl) ?_
  refine Seg.step (pc' := 8) (I_getR cls11 (by decide) wf_11_39 (hE _ _ sk_11) rfl (lk_11_5 hL) dX11_tryAsItGoes_5) ?_
  refine S_callV1 (md' := m_X0_copy) (fun y => none) (fun y => (sh, false, R, y)) (hE _ _ sk_11_8) ⟨by decide, rfl⟩ mm_X0_copy wm_11_271 ⟨rfl, rfl, by decide, by decide, by decide, by decide⟩ (Nat.le_of_ble_eq_true rfl) dX11_tryAsItGoes_8 (fun y hy => c_X0_copy hE hL sk_11_8 sk_11_5 y hy) (fun x1 => ?_)
  refine Seg.step (pc' := 12) (I_aload_n (i := 0) dX11_tryAsItGoes_11 rfl rfl) ?_
  refine Seg.step (pc' := 15) (I_getR cls11 (by decide) wf_11_46 (hE _ _ sk_11) rfl (lk_11_8 hL) dX11_tryAsItGoes_12) ?_
  refine S_callV0 (md' := m_X0_forget) (fun y => none) (fun y => (sh, false, R, y)) (hE _ _ sk_11_8) ⟨by decide, rfl⟩ mm_X0_forget wm_11_274 ⟨rfl, rfl, by decide, by decide, by decide, by decide⟩ (Nat.le_of_ble_eq_true rfl) dX11_tryAsItGoes_15 (fun y hy => c_X0_forget hE hL sk_11_8 y hy) (fun x2 => ?_)
  refine Seg.step (pc' := 19) (I_aload_n (i := 0) dX11_tryAsItGoes_18 rfl rfl) ?_
  refine Seg.step (pc' := 22) (I_getR cls11 (by decide) wf_11_46 (hE _ _ sk_11) rfl (lk_11_8 hL) dX11_tryAsItGoes_19) ?_
  refine Seg.step (pc' := 25) (I_getR cls0 (by decide) wf_11_277 (hE _ _ sk_11_8) rfl (lk_0_0 hL sk_11_8) dX11_tryAsItGoes_22) ?_
  refine S_callV0 (md' := m_X10_clear) (fun y => none) (fun y => (sh, false, R, y)) (hE _ _ (sk_0_0 sk_11_8)) ⟨by decide, rfl⟩ mm_X10_clear wm_11_281 ⟨rfl, rfl, by decide, by decide, by decide, by decide⟩ (Nat.le_of_ble_eq_true rfl) dX11_tryAsItGoes_25 (fun y hy => c_X10_clear hE hL (sk_0_0 sk_11_8) y hy) (fun x3 => ?_)
  exact S_vret dX11_tryAsItGoes_28 rfl (by decide) (by decide) (fun K hK => hK)
theorem dX11_ahead_0 : decode cX11_ahead 0 = .ok (.iload_n 1, 1) := by decide +kernel
theorem dX11_ahead_1 : decode cX11_ahead 1 = .ok (.iconst 0, 1) := by decide +kernel
theorem dX11_ahead_2 : decode cX11_ahead 2 = .ok (.sipush 200, 3) := by decide +kernel
theorem dX11_ahead_5 : decode cX11_ahead 5 = .ok (.invokestatic 139, 3) := by decide +kernel
theorem dX11_ahead_8 : decode cX11_ahead 8 = .ok (.ifCond .eq 24, 3) := by decide +kernel
theorem dX11_ahead_11 : decode cX11_ahead 11 = .ok (.iload_n 2, 1) := by decide +kernel
theorem dX11_ahead_12 : decode cX11_ahead 12 = .ok (.iconst 0, 1) := by decide +kernel
theorem dX11_ahead_13 : decode cX11_ahead 13 = .ok (.iconst 3, 1) := by decide +kernel
theorem dX11_ahead_14 : decode cX11_ahead 14 = .ok (.invokestatic 139, 3) := by decide +kernel
theorem dX11_ahead_17 : decode cX11_ahead 17 = .ok (.ifCond .eq 15, 3) := by decide +kernel
theorem dX11_ahead_20 : decode cX11_ahead 20 = .ok (.iload_n 2, 1) := by decide +kernel
theorem dX11_ahead_21 : decode cX11_ahead 21 = .ok (.ifCond .ne 13, 3) := by decide +kernel
theorem dX11_ahead_24 : decode cX11_ahead 24 = .ok (.aload_n 0, 1) := by decide +kernel
theorem dX11_ahead_25 : decode cX11_ahead 25 = .ok (.iload_n 3, 1) := by decide +kernel
theorem dX11_ahead_26 : decode cX11_ahead 26 = .ok (.invokevirtual 178, 3) := by decide +kernel
theorem dX11_ahead_29 : decode cX11_ahead 29 = .ok (.ifCond .ne 5, 3) := by decide +kernel
theorem dX11_ahead_32 : decode cX11_ahead 32 = .ok (.iconst (-1), 1) := by decide +kernel
theorem dX11_ahead_33 : decode cX11_ahead 33 = .ok (.ireturn, 1) := by decide +kernel
theorem dX11_ahead_34 : decode cX11_ahead 34 = .ok (.aload_n 0, 1) := by decide +kernel
theorem dX11_ahead_35 : decode cX11_ahead 35 = .ok (.invokevirtual 284, 3) := by decide +kernel
theorem dX11_ahead_38 : decode cX11_ahead 38 = .ok (.aload_n 0, 1) := by decide +kernel
theorem dX11_ahead_39 : decode cX11_ahead 39 = .ok (.getfield 46, 3) := by decide +kernel
theorem dX11_ahead_42 : decode cX11_ahead 42 = .ok (.iload_n 1, 1) := by decide +kernel
theorem dX11_ahead_43 : decode cX11_ahead 43 = .ok (.invokevirtual 264, 3) := by decide +kernel
theorem dX11_ahead_46 : decode cX11_ahead 46 = .ok (.iload_n 2, 1) := by decide +kernel
theorem dX11_ahead_47 : decode cX11_ahead 47 = .ok (.tableswitch 51 0 2 #[25, 35, 43], 25) := by decide +kernel
theorem dX11_ahead_72 : decode cX11_ahead 72 = .ok (.aload_n 0, 1) := by decide +kernel
theorem dX11_ahead_73 : decode cX11_ahead 73 = .ok (.getfield 46, 3) := by decide +kernel
theorem dX11_ahead_76 : decode cX11_ahead 76 = .ok (.getfield 181, 3) := by decide +kernel
theorem dX11_ahead_79 : decode cX11_ahead 79 = .ok (.iload_n 3, 1) := by decide +kernel
theorem dX11_ahead_80 : decode cX11_ahead 80 = .ok (.iaload, 1) := by decide +kernel
theorem dX11_ahead_81 : decode cX11_ahead 81 = .ok (.ireturn, 1) := by decide +kernel
theorem dX11_ahead_82 : decode cX11_ahead 82 = .ok (.aload_n 0, 1) := by decide +kernel
theorem dX11_ahead_83 : decode cX11_ahead 83 = .ok (.getfield 46, 3) := by decide +kernel
theorem dX11_ahead_86 : decode cX11_ahead 86 = .ok (.getfield 238, 3) := by decide +kernel
theorem dX11_ahead_89 : decode cX11_ahead 89 = .ok (.ireturn, 1) := by decide +kernel
theorem dX11_ahead_90 : decode cX11_ahead 90 = .ok (.aload_n 0, 1) := by decide +kernel
theorem dX11_ahead_91 : decode cX11_ahead 91 = .ok (.getfield 46, 3) := by decide +kernel
theorem dX11_ahead_94 : decode cX11_ahead 94 = .ok (.invokevirtual 250, 3) := by decide +kernel
theorem dX11_ahead_97 : decode cX11_ahead 97 = .ok (.ireturn, 1) := by decide +kernel
theorem dX11_ahead_98 : decode cX11_ahead 98 = .ok (.aload_n 0, 1) := by decide +kernel
theorem dX11_ahead_99 : decode cX11_ahead 99 = .ok (.getfield 46, 3) := by decide +kernel
theorem dX11_ahead_102 : decode cX11_ahead 102 = .ok (.getfield 247, 3) := by decide +kernel
theorem dX11_ahead_105 : decode cX11_ahead 105 = .ok (.ireturn, 1) := by decide +kernel
def f_X11_ahead (M : MM) (p1 : Int) (p2 : Int) (p3 : Int) : Option (Int × MM) :=
(f_X11_isWithin M p1 0 200).bind fun x1 =>
if x1 = 0 then
(some ((-1), M))
else
(f_X11_isWithin M p2 0 3).bind fun x3 =>
if x3 = 0 then
(some ((-1), M))
else
bS ((if p2 = 0 then
((f_X11_isRoom M p3).bind fun x6 =>
if x6 = 0 then
(some (Sum.inr ((-1), M)))
else
some (Sum.inl ()))
else
some (Sum.inl ())) : Option ((Unit) ⊕ (Int × MM))) (fun x8 =>
(f_X11_tryAsItGoes M).bind fun x9 =>
(f_X0_run x9 70 p1).bind fun x10 =>
if p2 = 0 then
(gd (0 ≤ p3 ∧ p3 < (30 : Int)) <|
some (x10 73 (p3).toNat, x10))
else
if p2 = 1 then
(some (x10 70 13, x10))
else
if p2 = 2 then
((f_X0_crossOfAll x10 70).bind fun x15 =>
some (x15, x10))
else
some (x10 70 15, x10)) (fun r => r)
set_option maxRecDepth 4000 in
theorem c_X11_ahead {E : EE} {sh : List (Nat × Nat)} {R : RM} {M : MM} {p1 : Int} {p2 : Int} {p3 : Int} (hE : Ext sh) (hL : Links R) : ∀ y, f_X11_ahead M p1 p2 p3 = some y → MetC E m_X11_ahead 0 0 [rV 0, iV p1, iV p2, iV p3] (sh, false, R, M) (fun r w' => r = some (iV y.1) ∧ w' = (sh, false, R, y.2)) := by
  intro y hy
  refine MetC.seg (o := f_X11_ahead M p1 p2 p3) (t := (fun K y => K (some (iV y.1)) (sh, false, R, y.2))) (L := [some (rV 0), some (iV p1), some (iV p2), some (iV p3)]) (by decide) rfl (Nat.le_of_ble_eq_true rfl) ?_ hy ⟨rfl, rfl⟩
  unfold f_X11_ahead
  refine Seg.step (pc' := 1) (I_iload_n (i := 1) dX11_ahead_0 rfl rfl) ?_
  refine Seg.step (pc' := 2) (I_iconst dX11_ahead_1 ⟨by decide, by decide⟩) ?_
  refine Seg.step (pc' := 5) (I_sipush dX11_ahead_2 (by decide) ⟨by decide, by decide⟩) ?_
  refine S_callS3 (md' := m_X11_isWithin) (fun y => some (iV y)) (fun y => (sh, false, R, M)) mm_X11_isWithin wm_11_139 ⟨rfl, rfl, by decide, by decide, by decide, by decide⟩ (Nat.le_of_ble_eq_true rfl) dX11_ahead_5 (fun y hy => c_X11_isWithin hE hL y hy) (fun x1 => ?_)
  refine S_if_eq (tgt := 32) dX11_ahead_8 (by decide) (fun h2 => ?_) (fun h2 => ?_)
  · refine Seg.step (pc' := 33) (I_iconst dX11_ahead_32 ⟨by decide, by decide⟩) ?_
    exact S_iret dX11_ahead_33 rfl (by decide) (by decide) (fun K hK => hK)
  refine Seg.step (pc' := 12) (I_iload_n (i := 2) dX11_ahead_11 rfl rfl) ?_
  refine Seg.step (pc' := 13) (I_iconst dX11_ahead_12 ⟨by decide, by decide⟩) ?_
  refine Seg.step (pc' := 14) (I_iconst dX11_ahead_13 ⟨by decide, by decide⟩) ?_
  refine S_callS3 (md' := m_X11_isWithin) (fun y => some (iV y)) (fun y => (sh, false, R, M)) mm_X11_isWithin wm_11_139 ⟨rfl, rfl, by decide, by decide, by decide, by decide⟩ (Nat.le_of_ble_eq_true rfl) dX11_ahead_14 (fun y hy => c_X11_isWithin hE hL y hy) (fun x3 => ?_)
  refine S_if_eq (tgt := 32) dX11_ahead_17 (by decide) (fun h4 => ?_) (fun h4 => ?_)
  · refine Seg.step (pc' := 33) (I_iconst dX11_ahead_32 ⟨by decide, by decide⟩) ?_
    exact S_iret dX11_ahead_33 rfl (by decide) (by decide) (fun K hK => hK)
  refine Seg.step (pc' := 21) (I_iload_n (i := 2) dX11_ahead_20 rfl rfl) ?_
  refine S_bind2 (Y := Unit) (k' := 0) (n' := 0) 34 (fun y => [some (rV 0), some (iV p1), some (iV p2), some (iV p3)]) (fun y => []) (fun y => (sh, false, R, M)) ?_ (fun x8 => ?_)
  · refine S_if_ne (tgt := 34) dX11_ahead_21 (by decide) (fun h5 => ?_) (fun h5 => ?_)
    · refine Seg.step (pc' := 25) (I_aload_n (i := 0) dX11_ahead_24 rfl rfl) ?_
      refine Seg.step (pc' := 26) (I_iload_n (i := 3) dX11_ahead_25 rfl rfl) ?_
      refine S_callV1 (md' := m_X11_isRoom) (fun y => some (iV y)) (fun y => (sh, false, R, M)) (hE _ _ sk_11) ⟨by decide, rfl⟩ mm_X11_isRoom wm_11_178 ⟨rfl, rfl, by decide, by decide, by decide, by decide⟩ (Nat.le_of_ble_eq_true rfl) dX11_ahead_26 (fun y hy => c_X11_isRoom hE hL y hy) (fun x6 => ?_)
      refine S_if_ne (tgt := 34) dX11_ahead_29 (by decide) (fun h7 => ?_) (fun h7 => ?_)
      · refine Seg.step (pc' := 33) (I_iconst dX11_ahead_32 ⟨by decide, by decide⟩) ?_
        exact S_iret dX11_ahead_33 rfl (by decide) (by decide) (fun K hK => hK)
      exact S_arr (fun K hK => GG.forget (Lle.ye (Lle.ye (Lle.ye (Lle.ye (Lle.nil))))) hK)
    exact S_arr (fun K hK => GG.forget (Lle.ye (Lle.ye (Lle.ye (Lle.ye (Lle.nil))))) hK)
  refine Seg.step (pc' := 35) (I_aload_n (i := 0) dX11_ahead_34 rfl rfl) ?_
  refine S_callV0 (md' := m_X11_tryAsItGoes) (fun y => none) (fun y => (sh, false, R, y)) (hE _ _ sk_11) ⟨by decide, rfl⟩ mm_X11_tryAsItGoes wm_11_284 ⟨rfl, rfl, by decide, by decide, by decide, by decide⟩ (Nat.le_of_ble_eq_true rfl) dX11_ahead_35 (fun y hy => c_X11_tryAsItGoes hE hL y hy) (fun x9 => ?_)
  refine Seg.step (pc' := 39) (I_aload_n (i := 0) dX11_ahead_38 rfl rfl) ?_
  refine Seg.step (pc' := 42) (I_getR cls11 (by decide) wf_11_46 (hE _ _ sk_11) rfl (lk_11_8 hL) dX11_ahead_39) ?_
  refine Seg.step (pc' := 43) (I_iload_n (i := 1) dX11_ahead_42 rfl rfl) ?_
  refine S_callV1 (md' := m_X0_run) (fun y => none) (fun y => (sh, false, R, y)) (hE _ _ sk_11_8) ⟨by decide, rfl⟩ mm_X0_run wm_11_264 ⟨rfl, rfl, by decide, by decide, by decide, by decide⟩ (Nat.le_of_ble_eq_true rfl) dX11_ahead_43 (fun y hy => c_X0_run hE hL sk_11_8 y hy) (fun x10 => ?_)
  refine Seg.step (pc' := 47) (I_iload_n (i := 2) dX11_ahead_46 rfl rfl) ?_
  refine S_ite (fun h11 => ?_) (fun h11 => ?_)
  · refine Seg.step (I_tsw (v := 0) (off := 25) (tgt := 72) dX11_ahead_47 h11 (by decide) rfl (by decide)) ?_
    refine Seg.step (pc' := 73) (I_aload_n (i := 0) dX11_ahead_72 rfl rfl) ?_
    refine Seg.step (pc' := 76) (I_getR cls11 (by decide) wf_11_46 (hE _ _ sk_11) rfl (lk_11_8 hL) dX11_ahead_73) ?_
    refine Seg.step (pc' := 79) (I_getR cls0 (by decide) wf_11_181 (hE _ _ sk_11_8) rfl (lk_0_8 hL sk_11_8) dX11_ahead_76) ?_
    refine Seg.step (pc' := 80) (I_iload_n (i := 3) dX11_ahead_79 rfl rfl) ?_
    refine S_gd fun h12 => ?_
    refine Seg.step (pc' := 81) (I_iald (hE _ _ (sk_0_8 sk_11_8)) h12 dX11_ahead_80) ?_
    exact S_iret dX11_ahead_81 rfl (by decide) (by decide) (fun K hK => hK)
  refine S_ite (fun h13 => ?_) (fun h13 => ?_)
  · refine Seg.step (I_tsw (v := 1) (off := 35) (tgt := 82) dX11_ahead_47 h13 (by decide) rfl (by decide)) ?_
    refine Seg.step (pc' := 83) (I_aload_n (i := 0) dX11_ahead_82 rfl rfl) ?_
    refine Seg.step (pc' := 86) (I_getR cls11 (by decide) wf_11_46 (hE _ _ sk_11) rfl (lk_11_8 hL) dX11_ahead_83) ?_
    refine Seg.step (pc' := 89) (I_getI cls0 (by decide) wf_11_238 (hE _ _ sk_11_8) rfl dX11_ahead_86) ?_
    exact S_iret dX11_ahead_89 rfl (by decide) (by decide) (fun K hK => hK)
  refine S_ite (fun h14 => ?_) (fun h14 => ?_)
  · refine Seg.step (I_tsw (v := 2) (off := 43) (tgt := 90) dX11_ahead_47 h14 (by decide) rfl (by decide)) ?_
    refine Seg.step (pc' := 91) (I_aload_n (i := 0) dX11_ahead_90 rfl rfl) ?_
    refine Seg.step (pc' := 94) (I_getR cls11 (by decide) wf_11_46 (hE _ _ sk_11) rfl (lk_11_8 hL) dX11_ahead_91) ?_
    refine S_callV0 (md' := m_X0_crossOfAll) (fun y => some (iV y)) (fun y => (sh, false, R, x10)) (hE _ _ sk_11_8) ⟨by decide, rfl⟩ mm_X0_crossOfAll wm_11_250 ⟨rfl, rfl, by decide, by decide, by decide, by decide⟩ (Nat.le_of_ble_eq_true rfl) dX11_ahead_94 (fun y hy => c_X0_crossOfAll hE hL sk_11_8 y hy) (fun x15 => ?_)
    exact S_iret dX11_ahead_97 rfl (by decide) (by decide) (fun K hK => hK)
  refine Seg.step (I_tswd (tgt := 98) dX11_ahead_47 (by omega) (by decide)) ?_
  refine Seg.step (pc' := 99) (I_aload_n (i := 0) dX11_ahead_98 rfl rfl) ?_
  refine Seg.step (pc' := 102) (I_getR cls11 (by decide) wf_11_46 (hE _ _ sk_11) rfl (lk_11_8 hL) dX11_ahead_99) ?_
  refine Seg.step (pc' := 105) (I_getI cls0 (by decide) wf_11_247 (hE _ _ sk_11_8) rfl dX11_ahead_102) ?_
  exact S_iret dX11_ahead_105 rfl (by decide) (by decide) (fun K hK => hK)
