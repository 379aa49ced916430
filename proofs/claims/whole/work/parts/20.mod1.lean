theorem dX12_thrown_0 : decode cX12_thrown 0 = .ok (.aload_n 0, 1) := by decide +kernel
theorem dX12_thrown_1 : decode cX12_thrown 1 = .ok (.getfield 175, 3) := by decide +kernel
theorem dX12_thrown_4 : decode cX12_thrown 4 = .ok (.ireturn, 1) := by decide +kernel
def f_X12_thrown (M : MM)  : Option (Int) :=
some (M 88 2)
set_option maxRecDepth 4000 in
theorem c_X12_thrown {E : EE} {sh : List (Nat × Nat)} {ex : Bool} {R : RM} {M : MM}  (hE : Ext sh) (hL : Links R) : ∀ y, f_X12_thrown M = some y → MetC E m_X12_thrown 0 0 [rV 88] (sh, ex, R, M) (fun r w' => r = some (iV y) ∧ w' = (sh, ex, R, M)) := by
  intro y hy
  refine MetC.seg (o := f_X12_thrown M) (t := (fun K y => K (some (iV y)) (sh, ex, R, M))) (L := [some (rV 88)]) (by decide) rfl (Nat.le_of_ble_eq_true rfl) ?_ hy ⟨rfl, rfl⟩
  unfold f_X12_thrown
  refine Seg.step (pc' := 1) (I_aload_n (i := 0) dX12_thrown_0 rfl rfl) ?_
  refine Seg.step (pc' := 4) (I_getI cls12 (by decide) wf_12_175 (hE _ _ sk_12) rfl dX12_thrown_1) ?_
  exact S_iret dX12_thrown_4 rfl (by decide) (by decide) (fun K hK => hK)
theorem dX12_feed_0 : decode cX12_feed 0 = .ok (.aload_n 0, 1) := by decide +kernel
theorem dX12_feed_1 : decode cX12_feed 1 = .ok (.iconst 0, 1) := by decide +kernel
theorem dX12_feed_2 : decode cX12_feed 2 = .ok (.putfield 175, 3) := by decide +kernel
theorem dX12_feed_5 : decode cX12_feed 5 = .ok (.aload_n 0, 1) := by decide +kernel
theorem dX12_feed_6 : decode cX12_feed 6 = .ok (.getfield 178, 3) := by decide +kernel
theorem dX12_feed_9 : decode cX12_feed 9 = .ok (.bipush 20, 2) := by decide +kernel
theorem dX12_feed_11 : decode cX12_feed 11 = .ok (.iadd, 1) := by decide +kernel
theorem dX12_feed_12 : decode cX12_feed 12 = .ok (.sipush 700, 3) := by decide +kernel
theorem dX12_feed_15 : decode cX12_feed 15 = .ok (.if_icmp .le 5, 3) := by decide +kernel
theorem dX12_feed_18 : decode cX12_feed 18 = .ok (.iconst (-1), 1) := by decide +kernel
theorem dX12_feed_19 : decode cX12_feed 19 = .ok (.ireturn, 1) := by decide +kernel
theorem dX12_feed_20 : decode cX12_feed 20 = .ok (.iconst 0, 1) := by decide +kernel
theorem dX12_feed_21 : decode cX12_feed 21 = .ok (.istore 6, 2) := by decide +kernel
theorem dX12_feed_23 : decode cX12_feed 23 = .ok (.iload 6, 2) := by decide +kernel
theorem dX12_feed_25 : decode cX12_feed 25 = .ok (.bipush 20, 2) := by decide +kernel
theorem dX12_feed_27 : decode cX12_feed 27 = .ok (.if_icmp .ge 86, 3) := by decide +kernel
theorem dX12_feed_30 : decode cX12_feed 30 = .ok (.iload 6, 2) := by decide +kernel
theorem dX12_feed_32 : decode cX12_feed 32 = .ok (.iconst 4, 1) := by decide +kernel
theorem dX12_feed_33 : decode cX12_feed 33 = .ok (.if_icmp .ge 7, 3) := by decide +kernel
theorem dX12_feed_36 : decode cX12_feed 36 = .ok (.iload_n 1, 1) := by decide +kernel
theorem dX12_feed_37 : decode cX12_feed 37 = .ok (.goto 39, 3) := by decide +kernel
theorem dX12_feed_40 : decode cX12_feed 40 = .ok (.iload 6, 2) := by decide +kernel
theorem dX12_feed_42 : decode cX12_feed 42 = .ok (.bipush 8, 2) := by decide +kernel
theorem dX12_feed_44 : decode cX12_feed 44 = .ok (.if_icmp .ge 7, 3) := by decide +kernel
theorem dX12_feed_47 : decode cX12_feed 47 = .ok (.iload_n 2, 1) := by decide +kernel
theorem dX12_feed_48 : decode cX12_feed 48 = .ok (.goto 28, 3) := by decide +kernel
theorem dX12_feed_51 : decode cX12_feed 51 = .ok (.iload 6, 2) := by decide +kernel
theorem dX12_feed_53 : decode cX12_feed 53 = .ok (.bipush 12, 2) := by decide +kernel
theorem dX12_feed_55 : decode cX12_feed 55 = .ok (.if_icmp .ge 7, 3) := by decide +kernel
theorem dX12_feed_58 : decode cX12_feed 58 = .ok (.iload_n 3, 1) := by decide +kernel
theorem dX12_feed_59 : decode cX12_feed 59 = .ok (.goto 17, 3) := by decide +kernel
theorem dX12_feed_62 : decode cX12_feed 62 = .ok (.iload 6, 2) := by decide +kernel
theorem dX12_feed_64 : decode cX12_feed 64 = .ok (.bipush 16, 2) := by decide +kernel
theorem dX12_feed_66 : decode cX12_feed 66 = .ok (.if_icmp .ge 8, 3) := by decide +kernel
theorem dX12_feed_69 : decode cX12_feed 69 = .ok (.iload 4, 2) := by decide +kernel
theorem dX12_feed_71 : decode cX12_feed 71 = .ok (.goto 5, 3) := by decide +kernel
theorem dX12_feed_74 : decode cX12_feed 74 = .ok (.iload 5, 2) := by decide +kernel
theorem dX12_feed_76 : decode cX12_feed 76 = .ok (.istore 7, 2) := by decide +kernel
theorem dX12_feed_78 : decode cX12_feed 78 = .ok (.aload_n 0, 1) := by decide +kernel
theorem dX12_feed_79 : decode cX12_feed 79 = .ok (.getfield 7, 3) := by decide +kernel
theorem dX12_feed_82 : decode cX12_feed 82 = .ok (.aload_n 0, 1) := by decide +kernel
theorem dX12_feed_83 : decode cX12_feed 83 = .ok (.getfield 178, 3) := by decide +kernel
theorem dX12_feed_86 : decode cX12_feed 86 = .ok (.iload 6, 2) := by decide +kernel
theorem dX12_feed_88 : decode cX12_feed 88 = .ok (.iadd, 1) := by decide +kernel
theorem dX12_feed_89 : decode cX12_feed 89 = .ok (.iload 7, 2) := by decide +kernel
theorem dX12_feed_91 : decode cX12_feed 91 = .ok (.bipush 24, 2) := by decide +kernel
theorem dX12_feed_93 : decode cX12_feed 93 = .ok (.bipush 8, 2) := by decide +kernel
theorem dX12_feed_95 : decode cX12_feed 95 = .ok (.iload 6, 2) := by decide +kernel
theorem dX12_feed_97 : decode cX12_feed 97 = .ok (.iconst 4, 1) := by decide +kernel
theorem dX12_feed_98 : decode cX12_feed 98 = .ok (.irem, 1) := by decide +kernel
theorem dX12_feed_99 : decode cX12_feed 99 = .ok (.imul, 1) := by decide +kernel
theorem dX12_feed_100 : decode cX12_feed 100 = .ok (.isub, 1) := by decide +kernel
theorem dX12_feed_101 : decode cX12_feed 101 = .ok (.ishr, 1) := by decide +kernel
theorem dX12_feed_102 : decode cX12_feed 102 = .ok (.sipush 255, 3) := by decide +kernel
theorem dX12_feed_105 : decode cX12_feed 105 = .ok (.iand, 1) := by decide +kernel
theorem dX12_feed_106 : decode cX12_feed 106 = .ok (.iastore, 1) := by decide +kernel
theorem dX12_feed_107 : decode cX12_feed 107 = .ok (.iinc 6 1, 3) := by decide +kernel
theorem dX12_feed_110 : decode cX12_feed 110 = .ok (.goto (-87), 3) := by decide +kernel
theorem dX12_feed_113 : decode cX12_feed 113 = .ok (.aload_n 0, 1) := by decide +kernel
theorem dX12_feed_114 : decode cX12_feed 114 = .ok (.dup, 1) := by decide +kernel
theorem dX12_feed_115 : decode cX12_feed 115 = .ok (.getfield 178, 3) := by decide +kernel
theorem dX12_feed_118 : decode cX12_feed 118 = .ok (.bipush 20, 2) := by decide +kernel
theorem dX12_feed_120 : decode cX12_feed 120 = .ok (.iadd, 1) := by decide +kernel
theorem dX12_feed_121 : decode cX12_feed 121 = .ok (.putfield 178, 3) := by decide +kernel
theorem dX12_feed_124 : decode cX12_feed 124 = .ok (.aload_n 0, 1) := by decide +kernel
theorem dX12_feed_125 : decode cX12_feed 125 = .ok (.getfield 178, 3) := by decide +kernel
theorem dX12_feed_128 : decode cX12_feed 128 = .ok (.ireturn, 1) := by decide +kernel
def f_X12_feed (M : MM) (p1 : Int) (p2 : Int) (p3 : Int) (p4 : Int) (p5 : Int) : Option (Int × MM) :=
bM (upM M 88 2 0) fun M1 =>
if 700 < (w32 ((M1 88 1) + 20)) then
(some ((-1), M1))
else
(lp (X := Int × MM) (Y := MM) (fun x3 =>
if x3.1 < 20 then
(((if x3.1 < 4 then
(some p1)
else
if x3.1 < 8 then
(some p2)
else
if x3.1 < 12 then
(some p3)
else
if x3.1 < 16 then
(some p4)
else
some p5) : Option (Int)).bind fun x9 =>
gd (0 ≤ w32 ((x3.2 88 1) + x3.1) ∧ w32 ((x3.2 88 1) + x3.1) < (700 : Int)) <|
bM (upM x3.2 89 (w32 ((x3.2 88 1) + x3.1)).toNat (and32 (shr32 x9 (w32 (24 - (w32 (8 * (w32 (Int.tmod x3.1 4))))))) 255)) fun M11 =>
some (Sum.inl (w32 (x3.1 + 1), M11)))
else
some (Sum.inr x3.2)) FU (0, M1)).bind fun x12 =>
bM (upM x12 88 1 (w32 ((x12 88 1) + 20))) fun M13 =>
some (M13 88 1, M13)
set_option maxRecDepth 4000 in
theorem c_X12_feed {E : EE} {sh : List (Nat × Nat)} {ex : Bool} {R : RM} {M : MM} {p1 : Int} {p2 : Int} {p3 : Int} {p4 : Int} {p5 : Int} (hE : Ext sh) (hL : Links R) : ∀ y, f_X12_feed M p1 p2 p3 p4 p5 = some y → MetC E m_X12_feed 0 0 [rV 88, iV p1, iV p2, iV p3, iV p4, iV p5] (sh, ex, R, M) (fun r w' => r = some (iV y.1) ∧ w' = (sh, ex, R, y.2)) := by
  intro y hy
  refine MetC.seg (o := f_X12_feed M p1 p2 p3 p4 p5) (t := (fun K y => K (some (iV y.1)) (sh, ex, R, y.2))) (L := [some (rV 88), some (iV p1), some (iV p2), some (iV p3), some (iV p4), some (iV p5), none, none]) (by decide) rfl (Nat.le_of_ble_eq_true rfl) ?_ hy ⟨rfl, rfl⟩
  unfold f_X12_feed
  refine Seg.step (pc' := 1) (I_aload_n (i := 0) dX12_feed_0 rfl rfl) ?_
  refine Seg.step (pc' := 2) (I_iconst dX12_feed_1 ⟨by decide, by decide⟩) ?_
  refine Seg.step (pc' := 5) (I_putI cls12 (by decide) wf_12_175 (hE _ _ sk_12) rfl rfl dX12_feed_2) ?_
  refine S_bM fun M1 => ?_
  refine Seg.step (pc' := 6) (I_aload_n (i := 0) dX12_feed_5 rfl rfl) ?_
  refine Seg.step (pc' := 9) (I_getI cls12 (by decide) wf_12_178 (hE _ _ sk_12) rfl dX12_feed_6) ?_
  refine Seg.step (pc' := 11) (I_bipush dX12_feed_9 (by decide) ⟨by decide, by decide⟩) ?_
  refine Seg.step (pc' := 12) (I_iadd dX12_feed_11) ?_
  refine Seg.step (pc' := 15) (I_sipush dX12_feed_12 (by decide) ⟨by decide, by decide⟩) ?_
  refine S_icmp_le (tgt := 20) dX12_feed_15 (by decide) (fun h2 => ?_) (fun h2 => ?_)
  · refine Seg.step (pc' := 19) (I_iconst dX12_feed_18 ⟨by decide, by decide⟩) ?_
    exact S_iret dX12_feed_19 rfl (by decide) (by decide) (fun K hK => hK)
  refine Seg.step (pc' := 21) (I_iconst dX12_feed_20 ⟨by decide, by decide⟩) ?_
  refine Seg.step (pc' := 23) (I_istore dX12_feed_21 (by decide) rfl) ?_
  refine Seg.forget (Lle.ye (Lle.ye (Lle.ye (Lle.ye (Lle.ye (Lle.ye (Lle.ye (Lle.no (Lle.nil))))))))) ?_
  refine S_bind (Y := MM) (k' := 0) (n' := 0) 113 (fun y => [some (rV 88), none, none, none, none, none, none, none]) (fun y => []) (fun y => (sh, ex, R, y)) (S_loop (Y := Int × MM) (fun y => [some (rV 88), some (iV p1), some (iV p2), some (iV p3), some (iV p4), some (iV p5), some (iV y.1), none]) (fun y => []) (fun y => (sh, ex, R, y.2)) (fun x3 => ?_) FU (0, M1)) (fun x12 => ?_)
  · refine Seg.step (pc' := 25) (I_iload dX12_feed_23 rfl) ?_
    refine Seg.step (pc' := 27) (I_bipush dX12_feed_25 (by decide) ⟨by decide, by decide⟩) ?_
    refine S_icmp_ge (tgt := 113) dX12_feed_27 (by decide) (fun h4 => ?_) (fun h4 => ?_)
    · refine Seg.step (pc' := 32) (I_iload dX12_feed_30 rfl) ?_
      refine Seg.step (pc' := 33) (I_iconst dX12_feed_32 ⟨by decide, by decide⟩) ?_
      refine S_bind (Y := Int) (k' := 0) (n' := 0) 76 (fun y => [some (rV 88), some (iV p1), some (iV p2), some (iV p3), some (iV p4), some (iV p5), some (iV x3.1), none]) (fun y => [iV y]) (fun y => (sh, ex, R, x3.2)) ?_ (fun x9 => ?_)
      · refine S_icmp_ge (tgt := 40) dX12_feed_33 (by decide) (fun h5 => ?_) (fun h5 => ?_)
        · refine Seg.step (pc' := 37) (I_iload_n (i := 1) dX12_feed_36 rfl rfl) ?_
          refine Seg.step (pc' := 76) (I_goto (tgt := 76) dX12_feed_37 (by decide)) ?_
          exact S_arr (fun K hK => GG.forget (Lle.ye (Lle.ye (Lle.ye (Lle.ye (Lle.ye (Lle.ye (Lle.ye (Lle.no (Lle.nil))))))))) hK)
        refine Seg.step (pc' := 42) (I_iload dX12_feed_40 rfl) ?_
        refine Seg.step (pc' := 44) (I_bipush dX12_feed_42 (by decide) ⟨by decide, by decide⟩) ?_
        refine S_icmp_ge (tgt := 51) dX12_feed_44 (by decide) (fun h6 => ?_) (fun h6 => ?_)
        · refine Seg.step (pc' := 48) (I_iload_n (i := 2) dX12_feed_47 rfl rfl) ?_
          refine Seg.step (pc' := 76) (I_goto (tgt := 76) dX12_feed_48 (by decide)) ?_
          exact S_arr (fun K hK => GG.forget (Lle.ye (Lle.ye (Lle.ye (Lle.ye (Lle.ye (Lle.ye (Lle.ye (Lle.no (Lle.nil))))))))) hK)
        refine Seg.step (pc' := 53) (I_iload dX12_feed_51 rfl) ?_
        refine Seg.step (pc' := 55) (I_bipush dX12_feed_53 (by decide) ⟨by decide, by decide⟩) ?_
        refine S_icmp_ge (tgt := 62) dX12_feed_55 (by decide) (fun h7 => ?_) (fun h7 => ?_)
        · refine Seg.step (pc' := 59) (I_iload_n (i := 3) dX12_feed_58 rfl rfl) ?_
          refine Seg.step (pc' := 76) (I_goto (tgt := 76) dX12_feed_59 (by decide)) ?_
          exact S_arr (fun K hK => GG.forget (Lle.ye (Lle.ye (Lle.ye (Lle.ye (Lle.ye (Lle.ye (Lle.ye (Lle.no (Lle.nil))))))))) hK)
        refine Seg.step (pc' := 64) (I_iload dX12_feed_62 rfl) ?_
        refine Seg.step (pc' := 66) (I_bipush dX12_feed_64 (by decide) ⟨by decide, by decide⟩) ?_
        refine S_icmp_ge (tgt := 74) dX12_feed_66 (by decide) (fun h8 => ?_) (fun h8 => ?_)
        · refine Seg.step (pc' := 71) (I_iload dX12_feed_69 rfl) ?_
          refine Seg.step (pc' := 76) (I_goto (tgt := 76) dX12_feed_71 (by decide)) ?_
          exact S_arr (fun K hK => GG.forget (Lle.ye (Lle.ye (Lle.ye (Lle.ye (Lle.ye (Lle.ye (Lle.ye (Lle.no (Lle.nil))))))))) hK)
        refine Seg.step (pc' := 76) (I_iload dX12_feed_74 rfl) ?_
        exact S_arr (fun K hK => GG.forget (Lle.ye (Lle.ye (Lle.ye (Lle.ye (Lle.ye (Lle.ye (Lle.ye (Lle.no (Lle.nil))))))))) hK)
      refine Seg.step (pc' := 78) (I_istore dX12_feed_76 (by decide) rfl) ?_
      refine Seg.step (pc' := 79) (I_aload_n (i := 0) dX12_feed_78 rfl rfl) ?_
      refine Seg.step (pc' := 82) (I_getR cls12 (by decide) wf_12_7 (hE _ _ sk_12) rfl (lk_12_0 hL) dX12_feed_79) ?_
      refine Seg.step (pc' := 83) (I_aload_n (i := 0) dX12_feed_82 rfl rfl) ?_
      refine Seg.step (pc' := 86) (I_getI cls12 (by decide) wf_12_178 (hE _ _ sk_12) rfl dX12_feed_83) ?_
      refine Seg.step (pc' := 88) (I_iload dX12_feed_86 rfl) ?_
      refine Seg.step (pc' := 89) (I_iadd dX12_feed_88) ?_
      refine Seg.step (pc' := 91) (I_iload dX12_feed_89 rfl) ?_
      refine Seg.step (pc' := 93) (I_bipush dX12_feed_91 (by decide) ⟨by decide, by decide⟩) ?_
      refine Seg.step (pc' := 95) (I_bipush dX12_feed_93 (by decide) ⟨by decide, by decide⟩) ?_
      refine Seg.step (pc' := 97) (I_iload dX12_feed_95 rfl) ?_
      refine Seg.step (pc' := 98) (I_iconst dX12_feed_97 ⟨by decide, by decide⟩) ?_
      refine Seg.step (pc' := 99) (I_irem dX12_feed_98 (by decide)) ?_
      refine Seg.step (pc' := 100) (I_imul dX12_feed_99) ?_
      refine Seg.step (pc' := 101) (I_isub dX12_feed_100) ?_
      refine Seg.step (pc' := 102) (I_ishr dX12_feed_101) ?_
      refine Seg.step (pc' := 105) (I_sipush dX12_feed_102 (by decide) ⟨by decide, by decide⟩) ?_
      refine Seg.step (pc' := 106) (I_iand dX12_feed_105) ?_
      refine S_gd fun h10 => ?_
      refine Seg.step (pc' := 107) (I_iast (hE _ _ sk_12_0) h10 dX12_feed_106) ?_
      refine S_bM fun M11 => ?_
      refine Seg.step (pc' := 110) (I_iinc dX12_feed_107 rfl (by decide) rfl) ?_
      refine Seg.step (pc' := 23) (I_goto (tgt := 23) dX12_feed_110 (by decide)) ?_
      exact S_arr (fun K hK => GG.forget (Lle.ye (Lle.ye (Lle.ye (Lle.ye (Lle.ye (Lle.ye (Lle.ye (Lle.no (Lle.nil))))))))) hK)
    exact S_arr (fun K hK => GG.forget (Lle.ye (Lle.no (Lle.no (Lle.no (Lle.no (Lle.no (Lle.no (Lle.no (Lle.nil))))))))) hK)
  refine Seg.step (pc' := 114) (I_aload_n (i := 0) dX12_feed_113 rfl rfl) ?_
  refine Seg.step (pc' := 115) (I_dup dX12_feed_114 (fun _ h => by cases h)) ?_
  refine Seg.step (pc' := 118) (I_getI cls12 (by decide) wf_12_178 (hE _ _ sk_12) rfl dX12_feed_115) ?_
  refine Seg.step (pc' := 120) (I_bipush dX12_feed_118 (by decide) ⟨by decide, by decide⟩) ?_
  refine Seg.step (pc' := 121) (I_iadd dX12_feed_120) ?_
  refine Seg.step (pc' := 124) (I_putI cls12 (by decide) wf_12_178 (hE _ _ sk_12) rfl rfl dX12_feed_121) ?_
  refine S_bM fun M13 => ?_
  refine Seg.step (pc' := 125) (I_aload_n (i := 0) dX12_feed_124 rfl rfl) ?_
  refine Seg.step (pc' := 128) (I_getI cls12 (by decide) wf_12_178 (hE _ _ sk_12) rfl dX12_feed_125) ?_
  exact S_iret dX12_feed_128 rfl (by decide) (by decide) (fun K hK => hK)
theorem dX12_isIn_0 : decode cX12_isIn 0 = .ok (.iload_n 0, 1) := by decide +kernel
theorem dX12_isIn_1 : decode cX12_isIn 1 = .ok (.iload_n 1, 1) := by decide +kernel
theorem dX12_isIn_2 : decode cX12_isIn 2 = .ok (.if_icmp .lt 12, 3) := by decide +kernel
theorem dX12_isIn_5 : decode cX12_isIn 5 = .ok (.iload_n 0, 1) := by decide +kernel
theorem dX12_isIn_6 : decode cX12_isIn 6 = .ok (.iload_n 2, 1) := by decide +kernel
theorem dX12_isIn_7 : decode cX12_isIn 7 = .ok (.if_icmp .gt 7, 3) := by decide +kernel
theorem dX12_isIn_10 : decode cX12_isIn 10 = .ok (.iconst 1, 1) := by decide +kernel
theorem dX12_isIn_11 : decode cX12_isIn 11 = .ok (.goto 4, 3) := by decide +kernel
theorem dX12_isIn_14 : decode cX12_isIn 14 = .ok (.iconst 0, 1) := by decide +kernel
theorem dX12_isIn_15 : decode cX12_isIn 15 = .ok (.ireturn, 1) := by decide +kernel
def f_X12_isIn (M : MM) (p1 : Int) (p2 : Int) (p3 : Int) : Option (Int) :=
if p1 < p2 then
(some 0)
else
if p3 < p1 then
(some 0)
else
some 1
set_option maxRecDepth 4000 in
theorem c_X12_isIn {E : EE} {sh : List (Nat × Nat)} {ex : Bool} {R : RM} {M : MM} {p1 : Int} {p2 : Int} {p3 : Int} (hE : Ext sh) (hL : Links R) : ∀ y, f_X12_isIn M p1 p2 p3 = some y → MetC E m_X12_isIn 0 0 [iV p1, iV p2, iV p3] (sh, ex, R, M) (fun r w' => r = some (iV y) ∧ w' = (sh, ex, R, M)) := by
  intro y hy
  refine MetC.seg (o := f_X12_isIn M p1 p2 p3) (t := (fun K y => K (some (iV y)) (sh, ex, R, M))) (L := [some (iV p1), some (iV p2), some (iV p3)]) (by decide) rfl (Nat.le_of_ble_eq_true rfl) ?_ hy ⟨rfl, rfl⟩
  unfold f_X12_isIn
  refine Seg.step (pc' := 1) (I_iload_n (i := 0) dX12_isIn_0 rfl rfl) ?_
  refine Seg.step (pc' := 2) (I_iload_n (i := 1) dX12_isIn_1 rfl rfl) ?_
  refine S_icmp_lt (tgt := 14) dX12_isIn_2 (by decide) (fun h1 => ?_) (fun h1 => ?_)
  · refine Seg.step (pc' := 15) (I_iconst dX12_isIn_14 ⟨by decide, by decide⟩) ?_
    exact S_zret dX12_isIn_15 rfl (by decide) (by decide) (by decide) (fun K hK => hK)
  refine Seg.step (pc' := 6) (I_iload_n (i := 0) dX12_isIn_5 rfl rfl) ?_
  refine Seg.step (pc' := 7) (I_iload_n (i := 2) dX12_isIn_6 rfl rfl) ?_
  refine S_icmp_gt (tgt := 14) dX12_isIn_7 (by decide) (fun h2 => ?_) (fun h2 => ?_)
  · refine Seg.step (pc' := 15) (I_iconst dX12_isIn_14 ⟨by decide, by decide⟩) ?_
    exact S_zret dX12_isIn_15 rfl (by decide) (by decide) (by decide) (fun K hK => hK)
  refine Seg.step (pc' := 11) (I_iconst dX12_isIn_10 ⟨by decide, by decide⟩) ?_
  refine Seg.step (pc' := 15) (I_goto (tgt := 15) dX12_isIn_11 (by decide)) ?_
  exact S_zret dX12_isIn_15 rfl (by decide) (by decide) (by decide) (fun K hK => hK)
theorem dX12_wrong_0 : decode cX12_wrong 0 = .ok (.aload_n 0, 1) := by decide +kernel
theorem dX12_wrong_1 : decode cX12_wrong 1 = .ok (.iload_n 1, 1) := by decide +kernel
theorem dX12_wrong_2 : decode cX12_wrong 2 = .ok (.putfield 181, 3) := by decide +kernel
theorem dX12_wrong_5 : decode cX12_wrong 5 = .ok (.aload_n 0, 1) := by decide +kernel
theorem dX12_wrong_6 : decode cX12_wrong 6 = .ok (.aload_n 0, 1) := by decide +kernel
theorem dX12_wrong_7 : decode cX12_wrong 7 = .ok (.getfield 184, 3) := by decide +kernel
theorem dX12_wrong_10 : decode cX12_wrong 10 = .ok (.putfield 16, 3) := by decide +kernel
theorem dX12_wrong_13 : decode cX12_wrong 13 = .ok (.iconst 0, 1) := by decide +kernel
theorem dX12_wrong_14 : decode cX12_wrong 14 = .ok (.ireturn, 1) := by decide +kernel
def f_X12_wrong (M : MM) (p1 : Int) : Option (Int × MM) :=
bM (upM M 88 4 p1) fun M1 =>
bM (upM M1 88 5 (M1 88 10)) fun M2 =>
some (0, M2)
set_option maxRecDepth 4000 in
theorem c_X12_wrong {E : EE} {sh : List (Nat × Nat)} {ex : Bool} {R : RM} {M : MM} {p1 : Int} (hE : Ext sh) (hL : Links R) : ∀ y, f_X12_wrong M p1 = some y → MetC E m_X12_wrong 0 0 [rV 88, iV p1] (sh, ex, R, M) (fun r w' => r = some (iV y.1) ∧ w' = (sh, ex, R, y.2)) := by
  intro y hy
  refine MetC.seg (o := f_X12_wrong M p1) (t := (fun K y => K (some (iV y.1)) (sh, ex, R, y.2))) (L := [some (rV 88), some (iV p1)]) (by decide) rfl (Nat.le_of_ble_eq_true rfl) ?_ hy ⟨rfl, rfl⟩
  unfold f_X12_wrong
  refine Seg.step (pc' := 1) (I_aload_n (i := 0) dX12_wrong_0 rfl rfl) ?_
  refine Seg.step (pc' := 2) (I_iload_n (i := 1) dX12_wrong_1 rfl rfl) ?_
  refine Seg.step (pc' := 5) (I_putI cls12 (by decide) wf_12_181 (hE _ _ sk_12) rfl rfl dX12_wrong_2) ?_
  refine S_bM fun M1 => ?_
  refine Seg.step (pc' := 6) (I_aload_n (i := 0) dX12_wrong_5 rfl rfl) ?_
  refine Seg.step (pc' := 7) (I_aload_n (i := 0) dX12_wrong_6 rfl rfl) ?_
  refine Seg.step (pc' := 10) (I_getI cls12 (by decide) wf_12_184 (hE _ _ sk_12) rfl dX12_wrong_7) ?_
  refine Seg.step (pc' := 13) (I_putI cls12 (by decide) wf_12_16 (hE _ _ sk_12) rfl rfl dX12_wrong_10) ?_
  refine S_bM fun M2 => ?_
  refine Seg.step (pc' := 14) (I_iconst dX12_wrong_13 ⟨by decide, by decide⟩) ?_
  exact S_zret dX12_wrong_14 rfl (by decide) (by decide) (by decide) (fun K hK => hK)
theorem dX12_wordAt_0 : decode cX12_wordAt 0 = .ok (.iconst 0, 1) := by decide +kernel
theorem dX12_wordAt_1 : decode cX12_wordAt 1 = .ok (.istore_n 3, 1) := by decide +kernel
theorem dX12_wordAt_2 : decode cX12_wordAt 2 = .ok (.iconst 0, 1) := by decide +kernel
theorem dX12_wordAt_3 : decode cX12_wordAt 3 = .ok (.istore 4, 2) := by decide +kernel
theorem dX12_wordAt_5 : decode cX12_wordAt 5 = .ok (.iload 4, 2) := by decide +kernel
theorem dX12_wordAt_7 : decode cX12_wordAt 7 = .ok (.aload_n 0, 1) := by decide +kernel
theorem dX12_wordAt_8 : decode cX12_wordAt 8 = .ok (.getfield 13, 3) := by decide +kernel
theorem dX12_wordAt_11 : decode cX12_wordAt 11 = .ok (.arraylength, 1) := by decide +kernel
theorem dX12_wordAt_12 : decode cX12_wordAt 12 = .ok (.if_icmp .ge 114, 3) := by decide +kernel
theorem dX12_wordAt_15 : decode cX12_wordAt 15 = .ok (.iconst 0, 1) := by decide +kernel
theorem dX12_wordAt_16 : decode cX12_wordAt 16 = .ok (.istore 5, 2) := by decide +kernel
theorem dX12_wordAt_18 : decode cX12_wordAt 18 = .ok (.aload_n 0, 1) := by decide +kernel
theorem dX12_wordAt_19 : decode cX12_wordAt 19 = .ok (.getfield 13, 3) := by decide +kernel
theorem dX12_wordAt_22 : decode cX12_wordAt 22 = .ok (.iload 4, 2) := by decide +kernel
theorem dX12_wordAt_24 : decode cX12_wordAt 24 = .ok (.iload 5, 2) := by decide +kernel
theorem dX12_wordAt_26 : decode cX12_wordAt 26 = .ok (.iadd, 1) := by decide +kernel
theorem dX12_wordAt_27 : decode cX12_wordAt 27 = .ok (.iaload, 1) := by decide +kernel
theorem dX12_wordAt_28 : decode cX12_wordAt 28 = .ok (.bipush 32, 2) := by decide +kernel
theorem dX12_wordAt_30 : decode cX12_wordAt 30 = .ok (.if_icmp .eq 9, 3) := by decide +kernel
theorem dX12_wordAt_33 : decode cX12_wordAt 33 = .ok (.iinc 5 1, 3) := by decide +kernel
theorem dX12_wordAt_36 : decode cX12_wordAt 36 = .ok (.goto (-18), 3) := by decide +kernel
theorem dX12_wordAt_39 : decode cX12_wordAt 39 = .ok (.iload 5, 2) := by decide +kernel
theorem dX12_wordAt_41 : decode cX12_wordAt 41 = .ok (.iload_n 2, 1) := by decide +kernel
theorem dX12_wordAt_42 : decode cX12_wordAt 42 = .ok (.iload_n 1, 1) := by decide +kernel
theorem dX12_wordAt_43 : decode cX12_wordAt 43 = .ok (.isub, 1) := by decide +kernel
theorem dX12_wordAt_44 : decode cX12_wordAt 44 = .ok (.if_icmp .ne 7, 3) := by decide +kernel
theorem dX12_wordAt_47 : decode cX12_wordAt 47 = .ok (.iconst 1, 1) := by decide +kernel
theorem dX12_wordAt_48 : decode cX12_wordAt 48 = .ok (.goto 4, 3) := by decide +kernel
theorem dX12_wordAt_51 : decode cX12_wordAt 51 = .ok (.iconst 0, 1) := by decide +kernel
theorem dX12_wordAt_52 : decode cX12_wordAt 52 = .ok (.istore 6, 2) := by decide +kernel
theorem dX12_wordAt_54 : decode cX12_wordAt 54 = .ok (.iconst 0, 1) := by decide +kernel
theorem dX12_wordAt_55 : decode cX12_wordAt 55 = .ok (.istore 7, 2) := by decide +kernel
theorem dX12_wordAt_57 : decode cX12_wordAt 57 = .ok (.iload 7, 2) := by decide +kernel
theorem dX12_wordAt_59 : decode cX12_wordAt 59 = .ok (.iload 5, 2) := by decide +kernel
theorem dX12_wordAt_61 : decode cX12_wordAt 61 = .ok (.if_icmp .ge 43, 3) := by decide +kernel
theorem dX12_wordAt_64 : decode cX12_wordAt 64 = .ok (.iload 6, 2) := by decide +kernel
theorem dX12_wordAt_66 : decode cX12_wordAt 66 = .ok (.ifCond .eq 38, 3) := by decide +kernel
theorem dX12_wordAt_69 : decode cX12_wordAt 69 = .ok (.aload_n 0, 1) := by decide +kernel
theorem dX12_wordAt_70 : decode cX12_wordAt 70 = .ok (.getfield 13, 3) := by decide +kernel
theorem dX12_wordAt_73 : decode cX12_wordAt 73 = .ok (.iload 4, 2) := by decide +kernel
theorem dX12_wordAt_75 : decode cX12_wordAt 75 = .ok (.iload 7, 2) := by decide +kernel
theorem dX12_wordAt_77 : decode cX12_wordAt 77 = .ok (.iadd, 1) := by decide +kernel
theorem dX12_wordAt_78 : decode cX12_wordAt 78 = .ok (.iaload, 1) := by decide +kernel
theorem dX12_wordAt_79 : decode cX12_wordAt 79 = .ok (.aload_n 0, 1) := by decide +kernel
theorem dX12_wordAt_80 : decode cX12_wordAt 80 = .ok (.getfield 7, 3) := by decide +kernel
theorem dX12_wordAt_83 : decode cX12_wordAt 83 = .ok (.iload_n 1, 1) := by decide +kernel
theorem dX12_wordAt_84 : decode cX12_wordAt 84 = .ok (.iload 7, 2) := by decide +kernel
theorem dX12_wordAt_86 : decode cX12_wordAt 86 = .ok (.iadd, 1) := by decide +kernel
theorem dX12_wordAt_87 : decode cX12_wordAt 87 = .ok (.iaload, 1) := by decide +kernel
theorem dX12_wordAt_88 : decode cX12_wordAt 88 = .ok (.if_icmp .ne 7, 3) := by decide +kernel
theorem dX12_wordAt_91 : decode cX12_wordAt 91 = .ok (.iconst 1, 1) := by decide +kernel
theorem dX12_wordAt_92 : decode cX12_wordAt 92 = .ok (.goto 4, 3) := by decide +kernel
theorem dX12_wordAt_95 : decode cX12_wordAt 95 = .ok (.iconst 0, 1) := by decide +kernel
theorem dX12_wordAt_96 : decode cX12_wordAt 96 = .ok (.istore 6, 2) := by decide +kernel
theorem dX12_wordAt_98 : decode cX12_wordAt 98 = .ok (.iinc 7 1, 3) := by decide +kernel
theorem dX12_wordAt_101 : decode cX12_wordAt 101 = .ok (.goto (-44), 3) := by decide +kernel
theorem dX12_wordAt_104 : decode cX12_wordAt 104 = .ok (.iload 6, 2) := by decide +kernel
theorem dX12_wordAt_106 : decode cX12_wordAt 106 = .ok (.ifCond .eq 5, 3) := by decide +kernel
theorem dX12_wordAt_109 : decode cX12_wordAt 109 = .ok (.iload_n 3, 1) := by decide +kernel
theorem dX12_wordAt_110 : decode cX12_wordAt 110 = .ok (.ireturn, 1) := by decide +kernel
theorem dX12_wordAt_111 : decode cX12_wordAt 111 = .ok (.iload 4, 2) := by decide +kernel
theorem dX12_wordAt_113 : decode cX12_wordAt 113 = .ok (.iload 5, 2) := by decide +kernel
theorem dX12_wordAt_115 : decode cX12_wordAt 115 = .ok (.iconst 1, 1) := by decide +kernel
theorem dX12_wordAt_116 : decode cX12_wordAt 116 = .ok (.iadd, 1) := by decide +kernel
theorem dX12_wordAt_117 : decode cX12_wordAt 117 = .ok (.iadd, 1) := by decide +kernel
theorem dX12_wordAt_118 : decode cX12_wordAt 118 = .ok (.istore 4, 2) := by decide +kernel
theorem dX12_wordAt_120 : decode cX12_wordAt 120 = .ok (.iinc 3 1, 3) := by decide +kernel
theorem dX12_wordAt_123 : decode cX12_wordAt 123 = .ok (.goto (-118), 3) := by decide +kernel
theorem dX12_wordAt_126 : decode cX12_wordAt 126 = .ok (.iconst (-1), 1) := by decide +kernel
theorem dX12_wordAt_127 : decode cX12_wordAt 127 = .ok (.ireturn, 1) := by decide +kernel
def f_X12_wordAt (M : MM) (p1 : Int) (p2 : Int) : Option (Int) :=
lp (X := Int × Int) (Y := Int) (fun x1 =>
if x1.2 < 97 then
((lp (X := Int) (Y := Int) (fun x3 =>
gd (0 ≤ w32 (x1.2 + x3) ∧ w32 (x1.2 + x3) < (97 : Int)) <|
if (M 90 (w32 (x1.2 + x3)).toNat) = 32 then
(some (Sum.inr x3))
else
some (Sum.inl (w32 (x3 + 1)))) FU 0).bind fun x6 =>
((if x6 = (w32 (p2 - p1)) then
(some 1)
else
some 0) : Option (Int)).bind fun x8 =>
(lp (X := Int × Int) (Y := Int) (fun x9 =>
if x9.2 < x6 then
(if x9.1 = 0 then
(some (Sum.inr x9.1))
else
gd (0 ≤ w32 (x1.2 + x9.2) ∧ w32 (x1.2 + x9.2) < (97 : Int)) <|
gd (0 ≤ w32 (p1 + x9.2) ∧ w32 (p1 + x9.2) < (700 : Int)) <|
((if (M 90 (w32 (x1.2 + x9.2)).toNat) = (M 89 (w32 (p1 + x9.2)).toNat) then
(some 1)
else
some 0) : Option (Int)).bind fun x15 =>
some (Sum.inl (x15, w32 (x9.2 + 1))))
else
some (Sum.inr x9.1)) FU (x8, 0)).bind fun x16 =>
if x16 = 0 then
(bI (w32 (x1.2 + (w32 (x6 + 1)))) fun x18 =>
some (Sum.inl (w32 (x1.1 + 1), x18)))
else
some (Sum.inr x1.1))
else
some (Sum.inr (-1))) FU (0, 0)
set_option maxRecDepth 4000 in
theorem c_X12_wordAt {E : EE} {sh : List (Nat × Nat)} {ex : Bool} {R : RM} {M : MM} {p1 : Int} {p2 : Int} (hE : Ext sh) (hL : Links R) : ∀ y, f_X12_wordAt M p1 p2 = some y → MetC E m_X12_wordAt 0 0 [rV 88, iV p1, iV p2] (sh, ex, R, M) (fun r w' => r = some (iV y) ∧ w' = (sh, ex, R, M)) := by
  intro y hy
  refine MetC.seg (o := f_X12_wordAt M p1 p2) (t := (fun K y => K (some (iV y)) (sh, ex, R, M))) (L := [some (rV 88), some (iV p1), some (iV p2), none, none, none, none, none]) (by decide) rfl (Nat.le_of_ble_eq_true rfl) ?_ hy ⟨rfl, rfl⟩
  unfold f_X12_wordAt
  refine Seg.step (pc' := 1) (I_iconst dX12_wordAt_0 ⟨by decide, by decide⟩) ?_
  refine Seg.step (pc' := 2) (I_istore_n (i := 3) dX12_wordAt_1 rfl (by decide) rfl) ?_
  refine Seg.step (pc' := 3) (I_iconst dX12_wordAt_2 ⟨by decide, by decide⟩) ?_
  refine Seg.step (pc' := 5) (I_istore dX12_wordAt_3 (by decide) rfl) ?_
  refine Seg.forget (Lle.ye (Lle.ye (Lle.ye (Lle.ye (Lle.ye (Lle.no (Lle.no (Lle.no (Lle.nil))))))))) ?_
  refine S_loop (Y := Int × Int) (fun y => [some (rV 88), some (iV p1), some (iV p2), some (iV y.1), some (iV y.2), none, none, none]) (fun y => []) (fun y => (sh, ex, R, M)) (fun x1 => ?_) FU (0, 0)
  refine Seg.step (pc' := 7) (I_iload dX12_wordAt_5 rfl) ?_
  refine Seg.step (pc' := 8) (I_aload_n (i := 0) dX12_wordAt_7 rfl rfl) ?_
  refine Seg.step (pc' := 11) (I_getR cls12 (by decide) wf_12_13 (hE _ _ sk_12) rfl (lk_12_3 hL) dX12_wordAt_8) ?_
  refine Seg.step (pc' := 12) (I_alen (hE _ _ sk_12_3) (by decide) ⟨by decide, by decide⟩ dX12_wordAt_11) ?_
  refine S_icmp_ge (tgt := 126) dX12_wordAt_12 (by decide) (fun h2 => ?_) (fun h2 => ?_)
  · refine Seg.step (pc' := 16) (I_iconst dX12_wordAt_15 ⟨by decide, by decide⟩) ?_
    refine Seg.step (pc' := 18) (I_istore dX12_wordAt_16 (by decide) rfl) ?_
    refine Seg.forget (Lle.ye (Lle.ye (Lle.ye (Lle.ye (Lle.ye (Lle.ye (Lle.no (Lle.no (Lle.nil))))))))) ?_
    refine S_bind (Y := Int) (k' := 0) (n' := 0) 39 (fun y => [some (rV 88), some (iV p1), some (iV p2), some (iV x1.1), some (iV x1.2), some (iV y), none, none]) (fun y => []) (fun y => (sh, ex, R, M)) (S_loop (Y := Int) (fun y => [some (rV 88), some (iV p1), some (iV p2), some (iV x1.1), some (iV x1.2), some (iV y), none, none]) (fun y => []) (fun y => (sh, ex, R, M)) (fun x3 => ?_) FU 0) (fun x6 => ?_)
    · refine Seg.step (pc' := 19) (I_aload_n (i := 0) dX12_wordAt_18 rfl rfl) ?_
      refine Seg.step (pc' := 22) (I_getR cls12 (by decide) wf_12_13 (hE _ _ sk_12) rfl (lk_12_3 hL) dX12_wordAt_19) ?_
      refine Seg.step (pc' := 24) (I_iload dX12_wordAt_22 rfl) ?_
      refine Seg.step (pc' := 26) (I_iload dX12_wordAt_24 rfl) ?_
      refine Seg.step (pc' := 27) (I_iadd dX12_wordAt_26) ?_
      refine S_gd fun h4 => ?_
      refine Seg.step (pc' := 28) (I_iald (hE _ _ sk_12_3) h4 dX12_wordAt_27) ?_
      refine Seg.step (pc' := 30) (I_bipush dX12_wordAt_28 (by decide) ⟨by decide, by decide⟩) ?_
      refine S_icmp_eq (tgt := 39) dX12_wordAt_30 (by decide) (fun h5 => ?_) (fun h5 => ?_)
      · exact S_arr (fun K hK => GG.forget (Lle.ye (Lle.ye (Lle.ye (Lle.ye (Lle.ye (Lle.ye (Lle.no (Lle.no (Lle.nil))))))))) hK)
      refine Seg.step (pc' := 36) (I_iinc dX12_wordAt_33 rfl (by decide) rfl) ?_
      refine Seg.step (pc' := 18) (I_goto (tgt := 18) dX12_wordAt_36 (by decide)) ?_
      exact S_arr (fun K hK => GG.forget (Lle.ye (Lle.ye (Lle.ye (Lle.ye (Lle.ye (Lle.ye (Lle.no (Lle.no (Lle.nil))))))))) hK)
    refine Seg.step (pc' := 41) (I_iload dX12_wordAt_39 rfl) ?_
    refine Seg.step (pc' := 42) (I_iload_n (i := 2) dX12_wordAt_41 rfl rfl) ?_
    refine Seg.step (pc' := 43) (I_iload_n (i := 1) dX12_wordAt_42 rfl rfl) ?_
    refine Seg.step (pc' := 44) (I_isub dX12_wordAt_43) ?_
    refine S_bind (Y := Int) (k' := 0) (n' := 0) 52 (fun y => [some (rV 88), some (iV p1), some (iV p2), some (iV x1.1), some (iV x1.2), some (iV x6), none, none]) (fun y => [iV y]) (fun y => (sh, ex, R, M)) ?_ (fun x8 => ?_)
    · refine S_icmp_ne (tgt := 51) dX12_wordAt_44 (by decide) (fun h7 => ?_) (fun h7 => ?_)
      · refine Seg.step (pc' := 48) (I_iconst dX12_wordAt_47 ⟨by decide, by decide⟩) ?_
        refine Seg.step (pc' := 52) (I_goto (tgt := 52) dX12_wordAt_48 (by decide)) ?_
        exact S_arr (fun K hK => GG.forget (Lle.ye (Lle.ye (Lle.ye (Lle.ye (Lle.ye (Lle.ye (Lle.no (Lle.no (Lle.nil))))))))) hK)
      refine Seg.step (pc' := 52) (I_iconst dX12_wordAt_51 ⟨by decide, by decide⟩) ?_
      exact S_arr (fun K hK => GG.forget (Lle.ye (Lle.ye (Lle.ye (Lle.ye (Lle.ye (Lle.ye (Lle.no (Lle.no (Lle.nil))))))))) hK)
    refine Seg.step (pc' := 54) (I_istore dX12_wordAt_52 (by decide) rfl) ?_
    refine Seg.step (pc' := 55) (I_iconst dX12_wordAt_54 ⟨by decide, by decide⟩) ?_
    refine Seg.step (pc' := 57) (I_istore dX12_wordAt_55 (by decide) rfl) ?_
    refine Seg.forget (Lle.ye (Lle.ye (Lle.ye (Lle.ye (Lle.ye (Lle.ye (Lle.ye (Lle.ye (Lle.nil))))))))) ?_
    refine S_bind (Y := Int) (k' := 0) (n' := 0) 104 (fun y => [some (rV 88), some (iV p1), some (iV p2), some (iV x1.1), some (iV x1.2), some (iV x6), some (iV y), none]) (fun y => []) (fun y => (sh, ex, R, M)) (S_loop (Y := Int × Int) (fun y => [some (rV 88), some (iV p1), some (iV p2), some (iV x1.1), some (iV x1.2), some (iV x6), some (iV y.1), some (iV y.2)]) (fun y => []) (fun y => (sh, ex, R, M)) (fun x9 => ?_) FU (x8, 0)) (fun x16 => ?_)
    · refine Seg.step (pc' := 59) (I_iload dX12_wordAt_57 rfl) ?_
      refine Seg.step (pc' := 61) (I_iload dX12_wordAt_59 rfl) ?_
      refine S_icmp_ge (tgt := 104) dX12_wordAt_61 (by decide) (fun h10 => ?_) (fun h10 => ?_)
      · refine Seg.step (pc' := 66) (I_iload dX12_wordAt_64 rfl) ?_
        refine S_if_eq (tgt := 104) dX12_wordAt_66 (by decide) (fun h11 => ?_) (fun h11 => ?_)
        · exact S_arr (fun K hK => GG.forget (Lle.ye (Lle.ye (Lle.ye (Lle.ye (Lle.ye (Lle.ye (Lle.ye (Lle.no (Lle.nil))))))))) hK)
        refine Seg.step (pc' := 70) (I_aload_n (i := 0) dX12_wordAt_69 rfl rfl) ?_
        refine Seg.step (pc' := 73) (I_getR cls12 (by decide) wf_12_13 (hE _ _ sk_12) rfl (lk_12_3 hL) dX12_wordAt_70) ?_
        refine Seg.step (pc' := 75) (I_iload dX12_wordAt_73 rfl) ?_
        refine Seg.step (pc' := 77) (I_iload dX12_wordAt_75 rfl) ?_
        refine Seg.step (pc' := 78) (I_iadd dX12_wordAt_77) ?_
        refine S_gd fun h12 => ?_
        refine Seg.step (pc' := 79) (I_iald (hE _ _ sk_12_3) h12 dX12_wordAt_78) ?_
        refine Seg.step (pc' := 80) (I_aload_n (i := 0) dX12_wordAt_79 rfl rfl) ?_
        refine Seg.step (pc' := 83) (I_getR cls12 (by decide) wf_12_7 (hE _ _ sk_12) rfl (lk_12_0 hL) dX12_wordAt_80) ?_
        refine Seg.step (pc' := 84) (I_iload_n (i := 1) dX12_wordAt_83 rfl rfl) ?_
        refine Seg.step (pc' := 86) (I_iload dX12_wordAt_84 rfl) ?_
        refine Seg.step (pc' := 87) (I_iadd dX12_wordAt_86) ?_
        refine S_gd fun h13 => ?_
        refine Seg.step (pc' := 88) (I_iald (hE _ _ sk_12_0) h13 dX12_wordAt_87) ?_
        refine S_bind (Y := Int) (k' := 0) (n' := 0) 96 (fun y => [some (rV 88), some (iV p1), some (iV p2), some (iV x1.1), some (iV x1.2), some (iV x6), none, some (iV x9.2)]) (fun y => [iV y]) (fun y => (sh, ex, R, M)) ?_ (fun x15 => ?_)
        · refine S_icmp_ne (tgt := 95) dX12_wordAt_88 (by decide) (fun h14 => ?_) (fun h14 => ?_)
          · refine Seg.step (pc' := 92) (I_iconst dX12_wordAt_91 ⟨by decide, by decide⟩) ?_
            refine Seg.step (pc' := 96) (I_goto (tgt := 96) dX12_wordAt_92 (by decide)) ?_
            exact S_arr (fun K hK => GG.forget (Lle.ye (Lle.ye (Lle.ye (Lle.ye (Lle.ye (Lle.ye (Lle.no (Lle.ye (Lle.nil))))))))) hK)
          refine Seg.step (pc' := 96) (I_iconst dX12_wordAt_95 ⟨by decide, by decide⟩) ?_
          exact S_arr (fun K hK => GG.forget (Lle.ye (Lle.ye (Lle.ye (Lle.ye (Lle.ye (Lle.ye (Lle.no (Lle.ye (Lle.nil))))))))) hK)
        refine Seg.step (pc' := 98) (I_istore dX12_wordAt_96 (by decide) rfl) ?_
        refine Seg.step (pc' := 101) (I_iinc dX12_wordAt_98 rfl (by decide) rfl) ?_
        refine Seg.step (pc' := 57) (I_goto (tgt := 57) dX12_wordAt_101 (by decide)) ?_
        exact S_arr (fun K hK => GG.forget (Lle.ye (Lle.ye (Lle.ye (Lle.ye (Lle.ye (Lle.ye (Lle.ye (Lle.ye (Lle.nil))))))))) hK)
      exact S_arr (fun K hK => GG.forget (Lle.ye (Lle.ye (Lle.ye (Lle.ye (Lle.ye (Lle.ye (Lle.ye (Lle.no (Lle.nil))))))))) hK)
    refine Seg.step (pc' := 106) (I_iload dX12_wordAt_104 rfl) ?_
    refine S_if_eq (tgt := 111) dX12_wordAt_106 (by decide) (fun h17 => ?_) (fun h17 => ?_)
    · refine Seg.step (pc' := 113) (I_iload dX12_wordAt_111 rfl) ?_
      refine Seg.step (pc' := 115) (I_iload dX12_wordAt_113 rfl) ?_
      refine Seg.step (pc' := 116) (I_iconst dX12_wordAt_115 ⟨by decide, by decide⟩) ?_
      refine Seg.step (pc' := 117) (I_iadd dX12_wordAt_116) ?_
      refine Seg.step (pc' := 118) (I_iadd dX12_wordAt_117) ?_
      refine S_bI fun x18 => ?_
      refine Seg.step (pc' := 120) (I_istore dX12_wordAt_118 (by decide) rfl) ?_
      refine Seg.step (pc' := 123) (I_iinc dX12_wordAt_120 rfl (by decide) rfl) ?_
      refine Seg.step (pc' := 5) (I_goto (tgt := 5) dX12_wordAt_123 (by decide)) ?_
      exact S_arr (fun K hK => GG.forget (Lle.ye (Lle.ye (Lle.ye (Lle.ye (Lle.ye (Lle.no (Lle.no (Lle.no (Lle.nil))))))))) hK)
    refine Seg.step (pc' := 110) (I_iload_n (i := 3) dX12_wordAt_109 rfl rfl) ?_
    exact S_iret dX12_wordAt_110 rfl (by decide) (by decide) (fun K hK => hK)
  refine Seg.step (pc' := 127) (I_iconst dX12_wordAt_126 ⟨by decide, by decide⟩) ?_
  exact S_iret dX12_wordAt_127 rfl (by decide) (by decide) (fun K hK => hK)
theorem dX12_isSmall_0 : decode cX12_isSmall 0 = .ok (.iload_n 1, 1) := by decide +kernel
theorem dX12_isSmall_1 : decode cX12_isSmall 1 = .ok (.aload_n 0, 1) := by decide +kernel
theorem dX12_isSmall_2 : decode cX12_isSmall 2 = .ok (.getfield 187, 3) := by decide +kernel
theorem dX12_isSmall_5 : decode cX12_isSmall 5 = .ok (.if_icmp .ge 29, 3) := by decide +kernel
theorem dX12_isSmall_8 : decode cX12_isSmall 8 = .ok (.aload_n 0, 1) := by decide +kernel
theorem dX12_isSmall_9 : decode cX12_isSmall 9 = .ok (.getfield 7, 3) := by decide +kernel
theorem dX12_isSmall_12 : decode cX12_isSmall 12 = .ok (.iload_n 1, 1) := by decide +kernel
theorem dX12_isSmall_13 : decode cX12_isSmall 13 = .ok (.iaload, 1) := by decide +kernel
theorem dX12_isSmall_14 : decode cX12_isSmall 14 = .ok (.bipush 97, 2) := by decide +kernel
theorem dX12_isSmall_16 : decode cX12_isSmall 16 = .ok (.if_icmp .lt 18, 3) := by decide +kernel
theorem dX12_isSmall_19 : decode cX12_isSmall 19 = .ok (.aload_n 0, 1) := by decide +kernel
theorem dX12_isSmall_20 : decode cX12_isSmall 20 = .ok (.getfield 7, 3) := by decide +kernel
theorem dX12_isSmall_23 : decode cX12_isSmall 23 = .ok (.iload_n 1, 1) := by decide +kernel
theorem dX12_isSmall_24 : decode cX12_isSmall 24 = .ok (.iaload, 1) := by decide +kernel
theorem dX12_isSmall_25 : decode cX12_isSmall 25 = .ok (.bipush 122, 2) := by decide +kernel
theorem dX12_isSmall_27 : decode cX12_isSmall 27 = .ok (.if_icmp .gt 7, 3) := by decide +kernel
theorem dX12_isSmall_30 : decode cX12_isSmall 30 = .ok (.iconst 1, 1) := by decide +kernel
theorem dX12_isSmall_31 : decode cX12_isSmall 31 = .ok (.goto 4, 3) := by decide +kernel
theorem dX12_isSmall_34 : decode cX12_isSmall 34 = .ok (.iconst 0, 1) := by decide +kernel
theorem dX12_isSmall_35 : decode cX12_isSmall 35 = .ok (.ireturn, 1) := by decide +kernel
def f_X12_isSmall (M : MM) (p1 : Int) : Option (Int) :=
if p1 < (M 88 6) then
(gd (0 ≤ p1 ∧ p1 < (700 : Int)) <|
if (M 89 (p1).toNat) < 97 then
(some 0)
else
gd (0 ≤ p1 ∧ p1 < (700 : Int)) <|
if 122 < (M 89 (p1).toNat) then
(some 0)
else
some 1)
else
some 0
set_option maxRecDepth 4000 in
theorem c_X12_isSmall {E : EE} {sh : List (Nat × Nat)} {ex : Bool} {R : RM} {M : MM} {p1 : Int} (hE : Ext sh) (hL : Links R) : ∀ y, f_X12_isSmall M p1 = some y → MetC E m_X12_isSmall 0 0 [rV 88, iV p1] (sh, ex, R, M) (fun r w' => r = some (iV y) ∧ w' = (sh, ex, R, M)) := by
  intro y hy
  refine MetC.seg (o := f_X12_isSmall M p1) (t := (fun K y => K (some (iV y)) (sh, ex, R, M))) (L := [some (rV 88), some (iV p1)]) (by decide) rfl (Nat.le_of_ble_eq_true rfl) ?_ hy ⟨rfl, rfl⟩
  unfold f_X12_isSmall
  refine Seg.step (pc' := 1) (I_iload_n (i := 1) dX12_isSmall_0 rfl rfl) ?_
  refine Seg.step (pc' := 2) (I_aload_n (i := 0) dX12_isSmall_1 rfl rfl) ?_
  refine Seg.step (pc' := 5) (I_getI cls12 (by decide) wf_12_187 (hE _ _ sk_12) rfl dX12_isSmall_2) ?_
  refine S_icmp_ge (tgt := 34) dX12_isSmall_5 (by decide) (fun h1 => ?_) (fun h1 => ?_)
  · refine Seg.step (pc' := 9) (I_aload_n (i := 0) dX12_isSmall_8 rfl rfl) ?_
    refine Seg.step (pc' := 12) (I_getR cls12 (by decide) wf_12_7 (hE _ _ sk_12) rfl (lk_12_0 hL) dX12_isSmall_9) ?_
    refine Seg.step (pc' := 13) (I_iload_n (i := 1) dX12_isSmall_12 rfl rfl) ?_
    refine S_gd fun h2 => ?_
    refine Seg.step (pc' := 14) (I_iald (hE _ _ sk_12_0) h2 dX12_isSmall_13) ?_
    refine Seg.step (pc' := 16) (I_bipush dX12_isSmall_14 (by decide) ⟨by decide, by decide⟩) ?_
    refine S_icmp_lt (tgt := 34) dX12_isSmall_16 (by decide) (fun h3 => ?_) (fun h3 => ?_)
    · refine Seg.step (pc' := 35) (I_iconst dX12_isSmall_34 ⟨by decide, by decide⟩) ?_
      exact S_zret dX12_isSmall_35 rfl (by decide) (by decide) (by decide) (fun K hK => hK)
    refine Seg.step (pc' := 20) (I_aload_n (i := 0) dX12_isSmall_19 rfl rfl) ?_
    refine Seg.step (pc' := 23) (I_getR cls12 (by decide) wf_12_7 (hE _ _ sk_12) rfl (lk_12_0 hL) dX12_isSmall_20) ?_
    refine Seg.step (pc' := 24) (I_iload_n (i := 1) dX12_isSmall_23 rfl rfl) ?_
    refine S_gd fun h4 => ?_
    refine Seg.step (pc' := 25) (I_iald (hE _ _ sk_12_0) h4 dX12_isSmall_24) ?_
    refine Seg.step (pc' := 27) (I_bipush dX12_isSmall_25 (by decide) ⟨by decide, by decide⟩) ?_
    refine S_icmp_gt (tgt := 34) dX12_isSmall_27 (by decide) (fun h5 => ?_) (fun h5 => ?_)
    · refine Seg.step (pc' := 35) (I_iconst dX12_isSmall_34 ⟨by decide, by decide⟩) ?_
      exact S_zret dX12_isSmall_35 rfl (by decide) (by decide) (by decide) (fun K hK => hK)
    refine Seg.step (pc' := 31) (I_iconst dX12_isSmall_30 ⟨by decide, by decide⟩) ?_
    refine Seg.step (pc' := 35) (I_goto (tgt := 35) dX12_isSmall_31 (by decide)) ?_
    exact S_zret dX12_isSmall_35 rfl (by decide) (by decide) (by decide) (fun K hK => hK)
  refine Seg.step (pc' := 35) (I_iconst dX12_isSmall_34 ⟨by decide, by decide⟩) ?_
  exact S_zret dX12_isSmall_35 rfl (by decide) (by decide) (by decide) (fun K hK => hK)
theorem dX12_isDigit_0 : decode cX12_isDigit 0 = .ok (.iload_n 1, 1) := by decide +kernel
theorem dX12_isDigit_1 : decode cX12_isDigit 1 = .ok (.aload_n 0, 1) := by decide +kernel
theorem dX12_isDigit_2 : decode cX12_isDigit 2 = .ok (.getfield 187, 3) := by decide +kernel
theorem dX12_isDigit_5 : decode cX12_isDigit 5 = .ok (.if_icmp .ge 29, 3) := by decide +kernel
theorem dX12_isDigit_8 : decode cX12_isDigit 8 = .ok (.aload_n 0, 1) := by decide +kernel
theorem dX12_isDigit_9 : decode cX12_isDigit 9 = .ok (.getfield 7, 3) := by decide +kernel
theorem dX12_isDigit_12 : decode cX12_isDigit 12 = .ok (.iload_n 1, 1) := by decide +kernel
theorem dX12_isDigit_13 : decode cX12_isDigit 13 = .ok (.iaload, 1) := by decide +kernel
theorem dX12_isDigit_14 : decode cX12_isDigit 14 = .ok (.bipush 48, 2) := by decide +kernel
theorem dX12_isDigit_16 : decode cX12_isDigit 16 = .ok (.if_icmp .lt 18, 3) := by decide +kernel
theorem dX12_isDigit_19 : decode cX12_isDigit 19 = .ok (.aload_n 0, 1) := by decide +kernel
theorem dX12_isDigit_20 : decode cX12_isDigit 20 = .ok (.getfield 7, 3) := by decide +kernel
theorem dX12_isDigit_23 : decode cX12_isDigit 23 = .ok (.iload_n 1, 1) := by decide +kernel
theorem dX12_isDigit_24 : decode cX12_isDigit 24 = .ok (.iaload, 1) := by decide +kernel
theorem dX12_isDigit_25 : decode cX12_isDigit 25 = .ok (.bipush 57, 2) := by decide +kernel
theorem dX12_isDigit_27 : decode cX12_isDigit 27 = .ok (.if_icmp .gt 7, 3) := by decide +kernel
theorem dX12_isDigit_30 : decode cX12_isDigit 30 = .ok (.iconst 1, 1) := by decide +kernel
theorem dX12_isDigit_31 : decode cX12_isDigit 31 = .ok (.goto 4, 3) := by decide +kernel
theorem dX12_isDigit_34 : decode cX12_isDigit 34 = .ok (.iconst 0, 1) := by decide +kernel
theorem dX12_isDigit_35 : decode cX12_isDigit 35 = .ok (.ireturn, 1) := by decide +kernel
def f_X12_isDigit (M : MM) (p1 : Int) : Option (Int) :=
if p1 < (M 88 6) then
(gd (0 ≤ p1 ∧ p1 < (700 : Int)) <|
if (M 89 (p1).toNat) < 48 then
(some 0)
else
gd (0 ≤ p1 ∧ p1 < (700 : Int)) <|
if 57 < (M 89 (p1).toNat) then
(some 0)
else
some 1)
else
some 0
set_option maxRecDepth 4000 in
theorem c_X12_isDigit {E : EE} {sh : List (Nat × Nat)} {ex : Bool} {R : RM} {M : MM} {p1 : Int} (hE : Ext sh) (hL : Links R) : ∀ y, f_X12_isDigit M p1 = some y → MetC E m_X12_isDigit 0 0 [rV 88, iV p1] (sh, ex, R, M) (fun r w' => r = some (iV y) ∧ w' = (sh, ex, R, M)) := by
  intro y hy
  refine MetC.seg (o := f_X12_isDigit M p1) (t := (fun K y => K (some (iV y)) (sh, ex, R, M))) (L := [some (rV 88), some (iV p1)]) (by decide) rfl (Nat.le_of_ble_eq_true rfl) ?_ hy ⟨rfl, rfl⟩
  unfold f_X12_isDigit
  refine Seg.step (pc' := 1) (I_iload_n (i := 1) dX12_isDigit_0 rfl rfl) ?_
  refine Seg.step (pc' := 2) (I_aload_n (i := 0) dX12_isDigit_1 rfl rfl) ?_
  refine Seg.step (pc' := 5) (I_getI cls12 (by decide) wf_12_187 (hE _ _ sk_12) rfl dX12_isDigit_2) ?_
  refine S_icmp_ge (tgt := 34) dX12_isDigit_5 (by decide) (fun h1 => ?_) (fun h1 => ?_)
  · refine Seg.step (pc' := 9) (I_aload_n (i := 0) dX12_isDigit_8 rfl rfl) ?_
    refine Seg.step (pc' := 12) (I_getR cls12 (by decide) wf_12_7 (hE _ _ sk_12) rfl (lk_12_0 hL) dX12_isDigit_9) ?_
    refine Seg.step (pc' := 13) (I_iload_n (i := 1) dX12_isDigit_12 rfl rfl) ?_
    refine S_gd fun h2 => ?_
    refine Seg.step (pc' := 14) (I_iald (hE _ _ sk_12_0) h2 dX12_isDigit_13) ?_
    refine Seg.step (pc' := 16) (I_bipush dX12_isDigit_14 (by decide) ⟨by decide, by decide⟩) ?_
    refine S_icmp_lt (tgt := 34) dX12_isDigit_16 (by decide) (fun h3 => ?_) (fun h3 => ?_)
    · refine Seg.step (pc' := 35) (I_iconst dX12_isDigit_34 ⟨by decide, by decide⟩) ?_
      exact S_zret dX12_isDigit_35 rfl (by decide) (by decide) (by decide) (fun K hK => hK)
    refine Seg.step (pc' := 20) (I_aload_n (i := 0) dX12_isDigit_19 rfl rfl) ?_
    refine Seg.step (pc' := 23) (I_getR cls12 (by decide) wf_12_7 (hE _ _ sk_12) rfl (lk_12_0 hL) dX12_isDigit_20) ?_
    refine Seg.step (pc' := 24) (I_iload_n (i := 1) dX12_isDigit_23 rfl rfl) ?_
    refine S_gd fun h4 => ?_
    refine Seg.step (pc' := 25) (I_iald (hE _ _ sk_12_0) h4 dX12_isDigit_24) ?_
    refine Seg.step (pc' := 27) (I_bipush dX12_isDigit_25 (by decide) ⟨by decide, by decide⟩) ?_
    refine S_icmp_gt (tgt := 34) dX12_isDigit_27 (by decide) (fun h5 => ?_) (fun h5 => ?_)
    · refine Seg.step (pc' := 35) (I_iconst dX12_isDigit_34 ⟨by decide, by decide⟩) ?_
      exact S_zret dX12_isDigit_35 rfl (by decide) (by decide) (by decide) (fun K hK => hK)
    refine Seg.step (pc' := 31) (I_iconst dX12_isDigit_30 ⟨by decide, by decide⟩) ?_
    refine Seg.step (pc' := 35) (I_goto (tgt := 35) dX12_isDigit_31 (by decide)) ?_
    exact S_zret dX12_isDigit_35 rfl (by decide) (by decide) (by decide) (fun K hK => hK)
  refine Seg.step (pc' := 35) (I_iconst dX12_isDigit_34 ⟨by decide, by decide⟩) ?_
  exact S_zret dX12_isDigit_35 rfl (by decide) (by decide) (by decide) (fun K hK => hK)
theorem dX12_packed_0 : decode cX12_packed 0 = .ok (.iconst 0, 1) := by decide +kernel
theorem dX12_packed_1 : decode cX12_packed 1 = .ok (.istore_n 3, 1) := by decide +kernel
theorem dX12_packed_2 : decode cX12_packed 2 = .ok (.iload_n 1, 1) := by decide +kernel
theorem dX12_packed_3 : decode cX12_packed 3 = .ok (.istore 4, 2) := by decide +kernel
theorem dX12_packed_5 : decode cX12_packed 5 = .ok (.iload 4, 2) := by decide +kernel
theorem dX12_packed_7 : decode cX12_packed 7 = .ok (.iload_n 1, 1) := by decide +kernel
theorem dX12_packed_8 : decode cX12_packed 8 = .ok (.bipush 6, 2) := by decide +kernel
theorem dX12_packed_10 : decode cX12_packed 10 = .ok (.iadd, 1) := by decide +kernel
theorem dX12_packed_11 : decode cX12_packed 11 = .ok (.if_icmp .ge 34, 3) := by decide +kernel
theorem dX12_packed_14 : decode cX12_packed 14 = .ok (.iload_n 3, 1) := by decide +kernel
theorem dX12_packed_15 : decode cX12_packed 15 = .ok (.iconst 5, 1) := by decide +kernel
theorem dX12_packed_16 : decode cX12_packed 16 = .ok (.ishl, 1) := by decide +kernel
theorem dX12_packed_17 : decode cX12_packed 17 = .ok (.iload 4, 2) := by decide +kernel
theorem dX12_packed_19 : decode cX12_packed 19 = .ok (.iload_n 2, 1) := by decide +kernel
theorem dX12_packed_20 : decode cX12_packed 20 = .ok (.if_icmp .ge 16, 3) := by decide +kernel
theorem dX12_packed_23 : decode cX12_packed 23 = .ok (.aload_n 0, 1) := by decide +kernel
theorem dX12_packed_24 : decode cX12_packed 24 = .ok (.getfield 7, 3) := by decide +kernel
theorem dX12_packed_27 : decode cX12_packed 27 = .ok (.iload 4, 2) := by decide +kernel
theorem dX12_packed_29 : decode cX12_packed 29 = .ok (.iaload, 1) := by decide +kernel
theorem dX12_packed_30 : decode cX12_packed 30 = .ok (.bipush 96, 2) := by decide +kernel
theorem dX12_packed_32 : decode cX12_packed 32 = .ok (.isub, 1) := by decide +kernel
theorem dX12_packed_33 : decode cX12_packed 33 = .ok (.goto 4, 3) := by decide +kernel
theorem dX12_packed_36 : decode cX12_packed 36 = .ok (.iconst 0, 1) := by decide +kernel
theorem dX12_packed_37 : decode cX12_packed 37 = .ok (.ior, 1) := by decide +kernel
theorem dX12_packed_38 : decode cX12_packed 38 = .ok (.istore_n 3, 1) := by decide +kernel
theorem dX12_packed_39 : decode cX12_packed 39 = .ok (.iinc 4 1, 3) := by decide +kernel
theorem dX12_packed_42 : decode cX12_packed 42 = .ok (.goto (-37), 3) := by decide +kernel
theorem dX12_packed_45 : decode cX12_packed 45 = .ok (.iload_n 3, 1) := by decide +kernel
theorem dX12_packed_46 : decode cX12_packed 46 = .ok (.ireturn, 1) := by decide +kernel
def f_X12_packed (M : MM) (p1 : Int) (p2 : Int) : Option (Int) :=
lp (X := Int × Int) (Y := Int) (fun x1 =>
if x1.2 < (w32 (p1 + 6)) then
(((if x1.2 < p2 then
(gd (0 ≤ x1.2 ∧ x1.2 < (700 : Int)) <|
some (w32 ((M 89 (x1.2).toNat) - 96)))
else
some 0) : Option (Int)).bind fun x5 =>
bI (or32 (shl32 x1.1 5) x5) fun x6 =>
some (Sum.inl (x6, w32 (x1.2 + 1))))
else
some (Sum.inr x1.1)) FU (0, p1)
set_option maxRecDepth 4000 in
theorem c_X12_packed {E : EE} {sh : List (Nat × Nat)} {ex : Bool} {R : RM} {M : MM} {p1 : Int} {p2 : Int} (hE : Ext sh) (hL : Links R) : ∀ y, f_X12_packed M p1 p2 = some y → MetC E m_X12_packed 0 0 [rV 88, iV p1, iV p2] (sh, ex, R, M) (fun r w' => r = some (iV y) ∧ w' = (sh, ex, R, M)) := by
  intro y hy
  refine MetC.seg (o := f_X12_packed M p1 p2) (t := (fun K y => K (some (iV y)) (sh, ex, R, M))) (L := [some (rV 88), some (iV p1), some (iV p2), none, none]) (by decide) rfl (Nat.le_of_ble_eq_true rfl) ?_ hy ⟨rfl, rfl⟩
  unfold f_X12_packed
  refine Seg.step (pc' := 1) (I_iconst dX12_packed_0 ⟨by decide, by decide⟩) ?_
  refine Seg.step (pc' := 2) (I_istore_n (i := 3) dX12_packed_1 rfl (by decide) rfl) ?_
  refine Seg.step (pc' := 3) (I_iload_n (i := 1) dX12_packed_2 rfl rfl) ?_
  refine Seg.step (pc' := 5) (I_istore dX12_packed_3 (by decide) rfl) ?_
  refine Seg.forget (Lle.ye (Lle.ye (Lle.ye (Lle.ye (Lle.ye (Lle.nil)))))) ?_
  refine S_loop (Y := Int × Int) (fun y => [some (rV 88), some (iV p1), some (iV p2), some (iV y.1), some (iV y.2)]) (fun y => []) (fun y => (sh, ex, R, M)) (fun x1 => ?_) FU (0, p1)
  refine Seg.step (pc' := 7) (I_iload dX12_packed_5 rfl) ?_
  refine Seg.step (pc' := 8) (I_iload_n (i := 1) dX12_packed_7 rfl rfl) ?_
  refine Seg.step (pc' := 10) (I_bipush dX12_packed_8 (by decide) ⟨by decide, by decide⟩) ?_
  refine Seg.step (pc' := 11) (I_iadd dX12_packed_10) ?_
  refine S_icmp_ge (tgt := 45) dX12_packed_11 (by decide) (fun h2 => ?_) (fun h2 => ?_)
  · refine Seg.step (pc' := 15) (I_iload_n (i := 3) dX12_packed_14 rfl rfl) ?_
    refine Seg.step (pc' := 16) (I_iconst dX12_packed_15 ⟨by decide, by decide⟩) ?_
    refine Seg.step (pc' := 17) (I_ishl dX12_packed_16) ?_
    refine Seg.step (pc' := 19) (I_iload dX12_packed_17 rfl) ?_
    refine Seg.step (pc' := 20) (I_iload_n (i := 2) dX12_packed_19 rfl rfl) ?_
    refine S_bind (Y := Int) (k' := 0) (n' := 0) 37 (fun y => [some (rV 88), some (iV p1), some (iV p2), none, some (iV x1.2)]) (fun y => [iV y, iV (shl32 x1.1 5)]) (fun y => (sh, ex, R, M)) ?_ (fun x5 => ?_)
    · refine S_icmp_ge (tgt := 36) dX12_packed_20 (by decide) (fun h3 => ?_) (fun h3 => ?_)
      · refine Seg.step (pc' := 24) (I_aload_n (i := 0) dX12_packed_23 rfl rfl) ?_
        refine Seg.step (pc' := 27) (I_getR cls12 (by decide) wf_12_7 (hE _ _ sk_12) rfl (lk_12_0 hL) dX12_packed_24) ?_
        refine Seg.step (pc' := 29) (I_iload dX12_packed_27 rfl) ?_
        refine S_gd fun h4 => ?_
        refine Seg.step (pc' := 30) (I_iald (hE _ _ sk_12_0) h4 dX12_packed_29) ?_
        refine Seg.step (pc' := 32) (I_bipush dX12_packed_30 (by decide) ⟨by decide, by decide⟩) ?_
        refine Seg.step (pc' := 33) (I_isub dX12_packed_32) ?_
        refine Seg.step (pc' := 37) (I_goto (tgt := 37) dX12_packed_33 (by decide)) ?_
        exact S_arr (fun K hK => GG.forget (Lle.ye (Lle.ye (Lle.ye (Lle.no (Lle.ye (Lle.nil)))))) hK)
      refine Seg.step (pc' := 37) (I_iconst dX12_packed_36 ⟨by decide, by decide⟩) ?_
      exact S_arr (fun K hK => GG.forget (Lle.ye (Lle.ye (Lle.ye (Lle.no (Lle.ye (Lle.nil)))))) hK)
    refine Seg.step (pc' := 38) (I_ior dX12_packed_37) ?_
    refine S_bI fun x6 => ?_
    refine Seg.step (pc' := 39) (I_istore_n (i := 3) dX12_packed_38 rfl (by decide) rfl) ?_
    refine Seg.step (pc' := 42) (I_iinc dX12_packed_39 rfl (by decide) rfl) ?_
    refine Seg.step (pc' := 5) (I_goto (tgt := 5) dX12_packed_42 (by decide)) ?_
    exact S_arr (fun K hK => GG.forget (Lle.ye (Lle.ye (Lle.ye (Lle.ye (Lle.ye (Lle.nil)))))) hK)
  refine Seg.step (pc' := 46) (I_iload_n (i := 3) dX12_packed_45 rfl rfl) ?_
  exact S_iret dX12_packed_46 rfl (by decide) (by decide) (fun K hK => hK)
theorem dX12_signToken_0 : decode cX12_signToken 0 = .ok (.aload_n 0, 1) := by decide +kernel
theorem dX12_signToken_1 : decode cX12_signToken 1 = .ok (.aload_n 0, 1) := by decide +kernel
theorem dX12_signToken_2 : decode cX12_signToken 2 = .ok (.getfield 7, 3) := by decide +kernel
theorem dX12_signToken_5 : decode cX12_signToken 5 = .ok (.aload_n 0, 1) := by decide +kernel
theorem dX12_signToken_6 : decode cX12_signToken 6 = .ok (.getfield 190, 3) := by decide +kernel
theorem dX12_signToken_9 : decode cX12_signToken 9 = .ok (.iaload, 1) := by decide +kernel
theorem dX12_signToken_10 : decode cX12_signToken 10 = .ok (.putfield 204, 3) := by decide +kernel
theorem dX12_signToken_13 : decode cX12_signToken 13 = .ok (.aload_n 0, 1) := by decide +kernel
theorem dX12_signToken_14 : decode cX12_signToken 14 = .ok (.dup, 1) := by decide +kernel
theorem dX12_signToken_15 : decode cX12_signToken 15 = .ok (.getfield 190, 3) := by decide +kernel
theorem dX12_signToken_18 : decode cX12_signToken 18 = .ok (.iconst 1, 1) := by decide +kernel
theorem dX12_signToken_19 : decode cX12_signToken 19 = .ok (.iadd, 1) := by decide +kernel
theorem dX12_signToken_20 : decode cX12_signToken 20 = .ok (.putfield 190, 3) := by decide +kernel
theorem dX12_signToken_23 : decode cX12_signToken 23 = .ok (.aload_n 0, 1) := by decide +kernel
theorem dX12_signToken_24 : decode cX12_signToken 24 = .ok (.getfield 204, 3) := by decide +kernel
theorem dX12_signToken_27 : decode cX12_signToken 27 = .ok (.bipush 60, 2) := by decide +kernel
theorem dX12_signToken_29 : decode cX12_signToken 29 = .ok (.if_icmp .eq 21, 3) := by decide +kernel
theorem dX12_signToken_32 : decode cX12_signToken 32 = .ok (.aload_n 0, 1) := by decide +kernel
theorem dX12_signToken_33 : decode cX12_signToken 33 = .ok (.getfield 204, 3) := by decide +kernel
theorem dX12_signToken_36 : decode cX12_signToken 36 = .ok (.bipush 62, 2) := by decide +kernel
theorem dX12_signToken_38 : decode cX12_signToken 38 = .ok (.if_icmp .eq 12, 3) := by decide +kernel
theorem dX12_signToken_41 : decode cX12_signToken 41 = .ok (.aload_n 0, 1) := by decide +kernel
theorem dX12_signToken_42 : decode cX12_signToken 42 = .ok (.getfield 204, 3) := by decide +kernel
theorem dX12_signToken_45 : decode cX12_signToken 45 = .ok (.bipush 61, 2) := by decide +kernel
theorem dX12_signToken_47 : decode cX12_signToken 47 = .ok (.if_icmp .ne 151, 3) := by decide +kernel
theorem dX12_signToken_50 : decode cX12_signToken 50 = .ok (.aload_n 0, 1) := by decide +kernel
theorem dX12_signToken_51 : decode cX12_signToken 51 = .ok (.getfield 190, 3) := by decide +kernel
theorem dX12_signToken_54 : decode cX12_signToken 54 = .ok (.aload_n 0, 1) := by decide +kernel
theorem dX12_signToken_55 : decode cX12_signToken 55 = .ok (.getfield 187, 3) := by decide +kernel
theorem dX12_signToken_58 : decode cX12_signToken 58 = .ok (.if_icmp .ge 15, 3) := by decide +kernel
theorem dX12_signToken_61 : decode cX12_signToken 61 = .ok (.aload_n 0, 1) := by decide +kernel
theorem dX12_signToken_62 : decode cX12_signToken 62 = .ok (.getfield 7, 3) := by decide +kernel
theorem dX12_signToken_65 : decode cX12_signToken 65 = .ok (.aload_n 0, 1) := by decide +kernel
theorem dX12_signToken_66 : decode cX12_signToken 66 = .ok (.getfield 190, 3) := by decide +kernel
theorem dX12_signToken_69 : decode cX12_signToken 69 = .ok (.iaload, 1) := by decide +kernel
theorem dX12_signToken_70 : decode cX12_signToken 70 = .ok (.goto 4, 3) := by decide +kernel
theorem dX12_signToken_73 : decode cX12_signToken 73 = .ok (.iconst 0, 1) := by decide +kernel
theorem dX12_signToken_74 : decode cX12_signToken 74 = .ok (.istore_n 1, 1) := by decide +kernel
theorem dX12_signToken_75 : decode cX12_signToken 75 = .ok (.aload_n 0, 1) := by decide +kernel
theorem dX12_signToken_76 : decode cX12_signToken 76 = .ok (.getfield 204, 3) := by decide +kernel
theorem dX12_signToken_79 : decode cX12_signToken 79 = .ok (.bipush 61, 2) := by decide +kernel
theorem dX12_signToken_81 : decode cX12_signToken 81 = .ok (.if_icmp .eq 13, 3) := by decide +kernel
theorem dX12_signToken_84 : decode cX12_signToken 84 = .ok (.iload_n 1, 1) := by decide +kernel
theorem dX12_signToken_85 : decode cX12_signToken 85 = .ok (.bipush 61, 2) := by decide +kernel
theorem dX12_signToken_87 : decode cX12_signToken 87 = .ok (.if_icmp .ne 7, 3) := by decide +kernel
theorem dX12_signToken_90 : decode cX12_signToken 90 = .ok (.iconst 1, 1) := by decide +kernel
theorem dX12_signToken_91 : decode cX12_signToken 91 = .ok (.goto 4, 3) := by decide +kernel
theorem dX12_signToken_94 : decode cX12_signToken 94 = .ok (.iconst 0, 1) := by decide +kernel
theorem dX12_signToken_95 : decode cX12_signToken 95 = .ok (.istore_n 2, 1) := by decide +kernel
theorem dX12_signToken_96 : decode cX12_signToken 96 = .ok (.aload_n 0, 1) := by decide +kernel
theorem dX12_signToken_97 : decode cX12_signToken 97 = .ok (.getfield 204, 3) := by decide +kernel
theorem dX12_signToken_100 : decode cX12_signToken 100 = .ok (.bipush 60, 2) := by decide +kernel
theorem dX12_signToken_102 : decode cX12_signToken 102 = .ok (.if_icmp .ne 13, 3) := by decide +kernel
theorem dX12_signToken_105 : decode cX12_signToken 105 = .ok (.iload_n 1, 1) := by decide +kernel
theorem dX12_signToken_106 : decode cX12_signToken 106 = .ok (.bipush 62, 2) := by decide +kernel
theorem dX12_signToken_108 : decode cX12_signToken 108 = .ok (.if_icmp .ne 7, 3) := by decide +kernel
theorem dX12_signToken_111 : decode cX12_signToken 111 = .ok (.iconst 1, 1) := by decide +kernel
theorem dX12_signToken_112 : decode cX12_signToken 112 = .ok (.goto 4, 3) := by decide +kernel
theorem dX12_signToken_115 : decode cX12_signToken 115 = .ok (.iconst 0, 1) := by decide +kernel
theorem dX12_signToken_116 : decode cX12_signToken 116 = .ok (.istore_n 3, 1) := by decide +kernel
theorem dX12_signToken_117 : decode cX12_signToken 117 = .ok (.iload_n 2, 1) := by decide +kernel
theorem dX12_signToken_118 : decode cX12_signToken 118 = .ok (.ifCond .ne 7, 3) := by decide +kernel
theorem dX12_signToken_121 : decode cX12_signToken 121 = .ok (.iload_n 3, 1) := by decide +kernel
theorem dX12_signToken_122 : decode cX12_signToken 122 = .ok (.ifCond .eq 13, 3) := by decide +kernel
theorem dX12_signToken_125 : decode cX12_signToken 125 = .ok (.aload_n 0, 1) := by decide +kernel
theorem dX12_signToken_126 : decode cX12_signToken 126 = .ok (.dup, 1) := by decide +kernel
theorem dX12_signToken_127 : decode cX12_signToken 127 = .ok (.getfield 190, 3) := by decide +kernel
theorem dX12_signToken_130 : decode cX12_signToken 130 = .ok (.iconst 1, 1) := by decide +kernel
theorem dX12_signToken_131 : decode cX12_signToken 131 = .ok (.iadd, 1) := by decide +kernel
theorem dX12_signToken_132 : decode cX12_signToken 132 = .ok (.putfield 190, 3) := by decide +kernel
theorem dX12_signToken_135 : decode cX12_signToken 135 = .ok (.aload_n 0, 1) := by decide +kernel
theorem dX12_signToken_136 : decode cX12_signToken 136 = .ok (.iconst 5, 1) := by decide +kernel
theorem dX12_signToken_137 : decode cX12_signToken 137 = .ok (.putfield 193, 3) := by decide +kernel
theorem dX12_signToken_140 : decode cX12_signToken 140 = .ok (.aload_n 0, 1) := by decide +kernel
theorem dX12_signToken_141 : decode cX12_signToken 141 = .ok (.aload_n 0, 1) := by decide +kernel
theorem dX12_signToken_142 : decode cX12_signToken 142 = .ok (.getfield 204, 3) := by decide +kernel
theorem dX12_signToken_145 : decode cX12_signToken 145 = .ok (.bipush 61, 2) := by decide +kernel
theorem dX12_signToken_147 : decode cX12_signToken 147 = .ok (.if_icmp .ne 7, 3) := by decide +kernel
theorem dX12_signToken_150 : decode cX12_signToken 150 = .ok (.iconst 2, 1) := by decide +kernel
theorem dX12_signToken_151 : decode cX12_signToken 151 = .ok (.goto 41, 3) := by decide +kernel
theorem dX12_signToken_154 : decode cX12_signToken 154 = .ok (.aload_n 0, 1) := by decide +kernel
theorem dX12_signToken_155 : decode cX12_signToken 155 = .ok (.getfield 204, 3) := by decide +kernel
theorem dX12_signToken_158 : decode cX12_signToken 158 = .ok (.bipush 60, 2) := by decide +kernel
theorem dX12_signToken_160 : decode cX12_signToken 160 = .ok (.if_icmp .ne 23, 3) := by decide +kernel
theorem dX12_signToken_163 : decode cX12_signToken 163 = .ok (.iload_n 2, 1) := by decide +kernel
theorem dX12_signToken_164 : decode cX12_signToken 164 = .ok (.ifCond .eq 7, 3) := by decide +kernel
theorem dX12_signToken_167 : decode cX12_signToken 167 = .ok (.iconst 1, 1) := by decide +kernel
theorem dX12_signToken_168 : decode cX12_signToken 168 = .ok (.goto 24, 3) := by decide +kernel
theorem dX12_signToken_171 : decode cX12_signToken 171 = .ok (.iload_n 3, 1) := by decide +kernel
theorem dX12_signToken_172 : decode cX12_signToken 172 = .ok (.ifCond .eq 7, 3) := by decide +kernel
theorem dX12_signToken_175 : decode cX12_signToken 175 = .ok (.iconst 3, 1) := by decide +kernel
theorem dX12_signToken_176 : decode cX12_signToken 176 = .ok (.goto 16, 3) := by decide +kernel
theorem dX12_signToken_179 : decode cX12_signToken 179 = .ok (.iconst 0, 1) := by decide +kernel
theorem dX12_signToken_180 : decode cX12_signToken 180 = .ok (.goto 12, 3) := by decide +kernel
theorem dX12_signToken_183 : decode cX12_signToken 183 = .ok (.iload_n 2, 1) := by decide +kernel
theorem dX12_signToken_184 : decode cX12_signToken 184 = .ok (.ifCond .eq 7, 3) := by decide +kernel
theorem dX12_signToken_187 : decode cX12_signToken 187 = .ok (.iconst 4, 1) := by decide +kernel
theorem dX12_signToken_188 : decode cX12_signToken 188 = .ok (.goto 4, 3) := by decide +kernel
theorem dX12_signToken_191 : decode cX12_signToken 191 = .ok (.iconst 5, 1) := by decide +kernel
theorem dX12_signToken_192 : decode cX12_signToken 192 = .ok (.putfield 204, 3) := by decide +kernel
theorem dX12_signToken_195 : decode cX12_signToken 195 = .ok (.goto 95, 3) := by decide +kernel
theorem dX12_signToken_198 : decode cX12_signToken 198 = .ok (.aload_n 0, 1) := by decide +kernel
theorem dX12_signToken_199 : decode cX12_signToken 199 = .ok (.getfield 204, 3) := by decide +kernel
theorem dX12_signToken_202 : decode cX12_signToken 202 = .ok (.bipush 59, 2) := by decide +kernel
theorem dX12_signToken_204 : decode cX12_signToken 204 = .ok (.if_icmp .eq 66, 3) := by decide +kernel
theorem dX12_signToken_207 : decode cX12_signToken 207 = .ok (.aload_n 0, 1) := by decide +kernel
theorem dX12_signToken_208 : decode cX12_signToken 208 = .ok (.getfield 204, 3) := by decide +kernel
theorem dX12_signToken_211 : decode cX12_signToken 211 = .ok (.bipush 40, 2) := by decide +kernel
theorem dX12_signToken_213 : decode cX12_signToken 213 = .ok (.if_icmp .eq 57, 3) := by decide +kernel
theorem dX12_signToken_216 : decode cX12_signToken 216 = .ok (.aload_n 0, 1) := by decide +kernel
theorem dX12_signToken_217 : decode cX12_signToken 217 = .ok (.getfield 204, 3) := by decide +kernel
theorem dX12_signToken_220 : decode cX12_signToken 220 = .ok (.bipush 41, 2) := by decide +kernel
theorem dX12_signToken_222 : decode cX12_signToken 222 = .ok (.if_icmp .eq 48, 3) := by decide +kernel
theorem dX12_signToken_225 : decode cX12_signToken 225 = .ok (.aload_n 0, 1) := by decide +kernel
theorem dX12_signToken_226 : decode cX12_signToken 226 = .ok (.getfield 204, 3) := by decide +kernel
theorem dX12_signToken_229 : decode cX12_signToken 229 = .ok (.bipush 43, 2) := by decide +kernel
theorem dX12_signToken_231 : decode cX12_signToken 231 = .ok (.if_icmp .eq 39, 3) := by decide +kernel
theorem dX12_signToken_234 : decode cX12_signToken 234 = .ok (.aload_n 0, 1) := by decide +kernel
theorem dX12_signToken_235 : decode cX12_signToken 235 = .ok (.getfield 204, 3) := by decide +kernel
theorem dX12_signToken_238 : decode cX12_signToken 238 = .ok (.bipush 45, 2) := by decide +kernel
theorem dX12_signToken_240 : decode cX12_signToken 240 = .ok (.if_icmp .eq 30, 3) := by decide +kernel
theorem dX12_signToken_243 : decode cX12_signToken 243 = .ok (.aload_n 0, 1) := by decide +kernel
theorem dX12_signToken_244 : decode cX12_signToken 244 = .ok (.getfield 204, 3) := by decide +kernel
theorem dX12_signToken_247 : decode cX12_signToken 247 = .ok (.bipush 42, 2) := by decide +kernel
theorem dX12_signToken_249 : decode cX12_signToken 249 = .ok (.if_icmp .eq 21, 3) := by decide +kernel
theorem dX12_signToken_252 : decode cX12_signToken 252 = .ok (.aload_n 0, 1) := by decide +kernel
theorem dX12_signToken_253 : decode cX12_signToken 253 = .ok (.getfield 204, 3) := by decide +kernel
theorem dX12_signToken_256 : decode cX12_signToken 256 = .ok (.bipush 47, 2) := by decide +kernel
theorem dX12_signToken_258 : decode cX12_signToken 258 = .ok (.if_icmp .eq 12, 3) := by decide +kernel
theorem dX12_signToken_261 : decode cX12_signToken 261 = .ok (.aload_n 0, 1) := by decide +kernel
theorem dX12_signToken_262 : decode cX12_signToken 262 = .ok (.getfield 204, 3) := by decide +kernel
theorem dX12_signToken_265 : decode cX12_signToken 265 = .ok (.bipush 37, 2) := by decide +kernel
theorem dX12_signToken_267 : decode cX12_signToken 267 = .ok (.if_icmp .ne 7, 3) := by decide +kernel
theorem dX12_signToken_270 : decode cX12_signToken 270 = .ok (.iconst 1, 1) := by decide +kernel
theorem dX12_signToken_271 : decode cX12_signToken 271 = .ok (.goto 4, 3) := by decide +kernel
theorem dX12_signToken_274 : decode cX12_signToken 274 = .ok (.iconst 0, 1) := by decide +kernel
theorem dX12_signToken_275 : decode cX12_signToken 275 = .ok (.istore_n 1, 1) := by decide +kernel
theorem dX12_signToken_276 : decode cX12_signToken 276 = .ok (.aload_n 0, 1) := by decide +kernel
theorem dX12_signToken_277 : decode cX12_signToken 277 = .ok (.iload_n 1, 1) := by decide +kernel
theorem dX12_signToken_278 : decode cX12_signToken 278 = .ok (.ifCond .eq 7, 3) := by decide +kernel
theorem dX12_signToken_281 : decode cX12_signToken 281 = .ok (.iconst 4, 1) := by decide +kernel
theorem dX12_signToken_282 : decode cX12_signToken 282 = .ok (.goto 5, 3) := by decide +kernel
theorem dX12_signToken_285 : decode cX12_signToken 285 = .ok (.bipush 6, 2) := by decide +kernel
theorem dX12_signToken_287 : decode cX12_signToken 287 = .ok (.putfield 193, 3) := by decide +kernel
theorem dX12_signToken_290 : decode cX12_signToken 290 = .ok (.return_, 1) := by decide +kernel
def f_X12_signToken (M : MM)  : Option (MM) :=
gd (0 ≤ M 88 7 ∧ M 88 7 < (700 : Int)) <|
bM (upM M 88 9 (M 89 (M 88 7).toNat)) fun M2 =>
bM (upM M2 88 7 (w32 ((M2 88 7) + 1))) fun M3 =>
bS ((if (M3 88 9) = 60 then
(some (Sum.inl ()))
else
if (M3 88 9) = 62 then
(some (Sum.inl ()))
else
if (M3 88 9) = 61 then
(some (Sum.inl ()))
else
((if (M3 88 9) = 59 then
(some 1)
else
if (M3 88 9) = 40 then
(some 1)
else
if (M3 88 9) = 41 then
(some 1)
else
if (M3 88 9) = 43 then
(some 1)
else
if (M3 88 9) = 45 then
(some 1)
else
if (M3 88 9) = 42 then
(some 1)
else
if (M3 88 9) = 47 then
(some 1)
else
if (M3 88 9) = 37 then
(some 1)
else
some 0) : Option (Int)).bind fun x15 =>
((if x15 = 0 then
(some 6)
else
some 4) : Option (Int)).bind fun x17 =>
bM (upM M3 88 8 x17) fun M18 =>
some (Sum.inr M18)) : Option ((Unit) ⊕ (MM))) (fun x19 =>
((if (M3 88 7) < (M3 88 6) then
(gd (0 ≤ M3 88 7 ∧ M3 88 7 < (700 : Int)) <|
some (M3 89 (M3 88 7).toNat))
else
some 0) : Option (Int)).bind fun x22 =>
((if (M3 88 9) = 61 then
(some 0)
else
if x22 = 61 then
(some 1)
else
some 0) : Option (Int)).bind fun x25 =>
((if (M3 88 9) = 60 then
(if x22 = 62 then
(some 1)
else
some 0)
else
some 0) : Option (Int)).bind fun x28 =>
((if x25 = 0 then
(if x28 = 0 then
(some M3)
else
bM (upM M3 88 7 (w32 ((M3 88 7) + 1))) fun M31 =>
some M31)
else
bM (upM M3 88 7 (w32 ((M3 88 7) + 1))) fun M32 =>
some M32) : Option (MM)).bind fun x33 =>
bM (upM x33 88 8 5) fun M34 =>
((if (M34 88 9) = 61 then
(some 2)
else
if (M34 88 9) = 60 then
(if x25 = 0 then
(if x28 = 0 then
(some 0)
else
some 3)
else
some 1)
else
if x25 = 0 then
(some 5)
else
some 4) : Option (Int)).bind fun x40 =>
bM (upM M34 88 9 x40) fun M41 =>
some M41) (fun r => r)
set_option maxRecDepth 4000 in
theorem c_X12_signToken {E : EE} {sh : List (Nat × Nat)} {ex : Bool} {R : RM} {M : MM}  (hE : Ext sh) (hL : Links R) : ∀ y, f_X12_signToken M = some y → MetC E m_X12_signToken 0 0 [rV 88] (sh, ex, R, M) (fun r w' => r = none ∧ w' = (sh, ex, R, y)) := by
  intro y hy
  refine MetC.seg (o := f_X12_signToken M) (t := (fun K y => K (none) (sh, ex, R, y))) (L := [some (rV 88), none, none, none]) (by decide) rfl (Nat.le_of_ble_eq_true rfl) ?_ hy ⟨rfl, rfl⟩
  unfold f_X12_signToken
  refine Seg.step (pc' := 1) (I_aload_n (i := 0) dX12_signToken_0 rfl rfl) ?_
  refine Seg.step (pc' := 2) (I_aload_n (i := 0) dX12_signToken_1 rfl rfl) ?_
  refine Seg.step (pc' := 5) (I_getR cls12 (by decide) wf_12_7 (hE _ _ sk_12) rfl (lk_12_0 hL) dX12_signToken_2) ?_
  refine Seg.step (pc' := 6) (I_aload_n (i := 0) dX12_signToken_5 rfl rfl) ?_
  refine Seg.step (pc' := 9) (I_getI cls12 (by decide) wf_12_190 (hE _ _ sk_12) rfl dX12_signToken_6) ?_
  refine S_gd fun h1 => ?_
  refine Seg.step (pc' := 10) (I_iald (hE _ _ sk_12_0) h1 dX12_signToken_9) ?_
  refine Seg.step (pc' := 13) (I_putI cls12 (by decide) wf_12_204 (hE _ _ sk_12) rfl rfl dX12_signToken_10) ?_
  refine S_bM fun M2 => ?_
  refine Seg.step (pc' := 14) (I_aload_n (i := 0) dX12_signToken_13 rfl rfl) ?_
  refine Seg.step (pc' := 15) (I_dup dX12_signToken_14 (fun _ h => by cases h)) ?_
  refine Seg.step (pc' := 18) (I_getI cls12 (by decide) wf_12_190 (hE _ _ sk_12) rfl dX12_signToken_15) ?_
  refine Seg.step (pc' := 19) (I_iconst dX12_signToken_18 ⟨by decide, by decide⟩) ?_
  refine Seg.step (pc' := 20) (I_iadd dX12_signToken_19) ?_
  refine Seg.step (pc' := 23) (I_putI cls12 (by decide) wf_12_190 (hE _ _ sk_12) rfl rfl dX12_signToken_20) ?_
  refine S_bM fun M3 => ?_
  refine Seg.step (pc' := 24) (I_aload_n (i := 0) dX12_signToken_23 rfl rfl) ?_
  refine Seg.step (pc' := 27) (I_getI cls12 (by decide) wf_12_204 (hE _ _ sk_12) rfl dX12_signToken_24) ?_
  refine Seg.step (pc' := 29) (I_bipush dX12_signToken_27 (by decide) ⟨by decide, by decide⟩) ?_
  refine S_bind2 (Y := Unit) (k' := 0) (n' := 0) 50 (fun y => [some (rV 88), none, none, none]) (fun y => []) (fun y => (sh, ex, R, M3)) ?_ (fun x19 => ?_)
  · refine S_icmp_eq (tgt := 50) dX12_signToken_29 (by decide) (fun h4 => ?_) (fun h4 => ?_)
    · exact S_arr (fun K hK => GG.forget (Lle.ye (Lle.no (Lle.no (Lle.no (Lle.nil))))) hK)
    refine Seg.step (pc' := 33) (I_aload_n (i := 0) dX12_signToken_32 rfl rfl) ?_
    refine Seg.step (pc' := 36) (I_getI cls12 (by decide) wf_12_204 (hE _ _ sk_12) rfl dX12_signToken_33) ?_
    refine Seg.step (pc' := 38) (I_bipush dX12_signToken_36 (by decide) ⟨by decide, by decide⟩) ?_
    refine S_icmp_eq (tgt := 50) dX12_signToken_38 (by decide) (fun h5 => ?_) (fun h5 => ?_)
    · exact S_arr (fun K hK => GG.forget (Lle.ye (Lle.no (Lle.no (Lle.no (Lle.nil))))) hK)
    refine Seg.step (pc' := 42) (I_aload_n (i := 0) dX12_signToken_41 rfl rfl) ?_
    refine Seg.step (pc' := 45) (I_getI cls12 (by decide) wf_12_204 (hE _ _ sk_12) rfl dX12_signToken_42) ?_
    refine Seg.step (pc' := 47) (I_bipush dX12_signToken_45 (by decide) ⟨by decide, by decide⟩) ?_
    refine S_icmp_ne (tgt := 198) dX12_signToken_47 (by decide) (fun h6 => ?_) (fun h6 => ?_)
    · exact S_arr (fun K hK => GG.forget (Lle.ye (Lle.no (Lle.no (Lle.no (Lle.nil))))) hK)
    refine Seg.step (pc' := 199) (I_aload_n (i := 0) dX12_signToken_198 rfl rfl) ?_
    refine Seg.step (pc' := 202) (I_getI cls12 (by decide) wf_12_204 (hE _ _ sk_12) rfl dX12_signToken_199) ?_
    refine Seg.step (pc' := 204) (I_bipush dX12_signToken_202 (by decide) ⟨by decide, by decide⟩) ?_
    refine S_bind (Y := Int) (k' := 0) (n' := 0) 275 (fun y => [some (rV 88), none, none, none]) (fun y => [iV y]) (fun y => (sh, ex, R, M3)) ?_ (fun x15 => ?_)
    · refine S_icmp_eq (tgt := 270) dX12_signToken_204 (by decide) (fun h7 => ?_) (fun h7 => ?_)
      · refine Seg.step (pc' := 271) (I_iconst dX12_signToken_270 ⟨by decide, by decide⟩) ?_
        refine Seg.step (pc' := 275) (I_goto (tgt := 275) dX12_signToken_271 (by decide)) ?_
        exact S_arr (fun K hK => GG.forget (Lle.ye (Lle.no (Lle.no (Lle.no (Lle.nil))))) hK)
      refine Seg.step (pc' := 208) (I_aload_n (i := 0) dX12_signToken_207 rfl rfl) ?_
      refine Seg.step (pc' := 211) (I_getI cls12 (by decide) wf_12_204 (hE _ _ sk_12) rfl dX12_signToken_208) ?_
      refine Seg.step (pc' := 213) (I_bipush dX12_signToken_211 (by decide) ⟨by decide, by decide⟩) ?_
      refine S_icmp_eq (tgt := 270) dX12_signToken_213 (by decide) (fun h8 => ?_) (fun h8 => ?_)
      · refine Seg.step (pc' := 271) (I_iconst dX12_signToken_270 ⟨by decide, by decide⟩) ?_
        refine Seg.step (pc' := 275) (I_goto (tgt := 275) dX12_signToken_271 (by decide)) ?_
        exact S_arr (fun K hK => GG.forget (Lle.ye (Lle.no (Lle.no (Lle.no (Lle.nil))))) hK)
      refine Seg.step (pc' := 217) (I_aload_n (i := 0) dX12_signToken_216 rfl rfl) ?_
      refine Seg.step (pc' := 220) (I_getI cls12 (by decide) wf_12_204 (hE _ _ sk_12) rfl dX12_signToken_217) ?_
      refine Seg.step (pc' := 222) (I_bipush dX12_signToken_220 (by decide) ⟨by decide, by decide⟩) ?_
      refine S_icmp_eq (tgt := 270) dX12_signToken_222 (by decide) (fun h9 => ?_) (fun h9 => ?_)
      · refine Seg.step (pc' := 271) (I_iconst dX12_signToken_270 ⟨by decide, by decide⟩) ?_
        refine Seg.step (pc' := 275) (I_goto (tgt := 275) dX12_signToken_271 (by decide)) ?_
        exact S_arr (fun K hK => GG.forget (Lle.ye (Lle.no (Lle.no (Lle.no (Lle.nil))))) hK)
      refine Seg.step (pc' := 226) (I_aload_n (i := 0) dX12_signToken_225 rfl rfl) ?_
      refine Seg.step (pc' := 229) (I_getI cls12 (by decide) wf_12_204 (hE _ _ sk_12) rfl dX12_signToken_226) ?_
      refine Seg.step (pc' := 231) (I_bipush dX12_signToken_229 (by decide) ⟨by decide, by decide⟩) ?_
      refine S_icmp_eq (tgt := 270) dX12_signToken_231 (by decide) (fun h10 => ?_) (fun h10 => ?_)
      · refine Seg.step (pc' := 271) (I_iconst dX12_signToken_270 ⟨by decide, by decide⟩) ?_
        refine Seg.step (pc' := 275) (I_goto (tgt := 275) dX12_signToken_271 (by decide)) ?_
        exact S_arr (fun K hK => GG.forget (Lle.ye (Lle.no (Lle.no (Lle.no (Lle.nil))))) hK)
      refine Seg.step (pc' := 235) (I_aload_n (i := 0) dX12_signToken_234 rfl rfl) ?_
      refine Seg.step (pc' := 238) (I_getI cls12 (by decide) wf_12_204 (hE _ _ sk_12) rfl dX12_signToken_235) ?_
      refine Seg.step (pc' := 240) (I_bipush dX12_signToken_238 (by decide) ⟨by decide, by decide⟩) ?_
      refine S_icmp_eq (tgt := 270) dX12_signToken_240 (by decide) (fun h11 => ?_) (fun h11 => ?_)
      · refine Seg.step (pc' := 271) (I_iconst dX12_signToken_270 ⟨by decide, by decide⟩) ?_
        refine Seg.step (pc' := 275) (I_goto (tgt := 275) dX12_signToken_271 (by decide)) ?_
        exact S_arr (fun K hK => GG.forget (Lle.ye (Lle.no (Lle.no (Lle.no (Lle.nil))))) hK)
      refine Seg.step (pc' := 244) (I_aload_n (i := 0) dX12_signToken_243 rfl rfl) ?_
      refine Seg.step (pc' := 247) (I_getI cls12 (by decide) wf_12_204 (hE _ _ sk_12) rfl dX12_signToken_244) ?_
      refine Seg.step (pc' := 249) (I_bipush dX12_signToken_247 (by decide) ⟨by decide, by decide⟩) ?_
      refine S_icmp_eq (tgt := 270) dX12_signToken_249 (by decide) (fun h12 => ?_) (fun h12 => ?_)
      · refine Seg.step (pc' := 271) (I_iconst dX12_signToken_270 ⟨by decide, by decide⟩) ?_
        refine Seg.step (pc' := 275) (I_goto (tgt := 275) dX12_signToken_271 (by decide)) ?_
        exact S_arr (fun K hK => GG.forget (Lle.ye (Lle.no (Lle.no (Lle.no (Lle.nil))))) hK)
      refine Seg.step (pc' := 253) (I_aload_n (i := 0) dX12_signToken_252 rfl rfl) ?_
      refine Seg.step (pc' := 256) (I_getI cls12 (by decide) wf_12_204 (hE _ _ sk_12) rfl dX12_signToken_253) ?_
      refine Seg.step (pc' := 258) (I_bipush dX12_signToken_256 (by decide) ⟨by decide, by decide⟩) ?_
      refine S_icmp_eq (tgt := 270) dX12_signToken_258 (by decide) (fun h13 => ?_) (fun h13 => ?_)
      · refine Seg.step (pc' := 271) (I_iconst dX12_signToken_270 ⟨by decide, by decide⟩) ?_
        refine Seg.step (pc' := 275) (I_goto (tgt := 275) dX12_signToken_271 (by decide)) ?_
        exact S_arr (fun K hK => GG.forget (Lle.ye (Lle.no (Lle.no (Lle.no (Lle.nil))))) hK)
      refine Seg.step (pc' := 262) (I_aload_n (i := 0) dX12_signToken_261 rfl rfl) ?_
      refine Seg.step (pc' := 265) (I_getI cls12 (by decide) wf_12_204 (hE _ _ sk_12) rfl dX12_signToken_262) ?_
      refine Seg.step (pc' := 267) (I_bipush dX12_signToken_265 (by decide) ⟨by decide, by decide⟩) ?_
      refine S_icmp_ne (tgt := 274) dX12_signToken_267 (by decide) (fun h14 => ?_) (fun h14 => ?_)
      · refine Seg.step (pc' := 271) (I_iconst dX12_signToken_270 ⟨by decide, by decide⟩) ?_
        refine Seg.step (pc' := 275) (I_goto (tgt := 275) dX12_signToken_271 (by decide)) ?_
        exact S_arr (fun K hK => GG.forget (Lle.ye (Lle.no (Lle.no (Lle.no (Lle.nil))))) hK)
      refine Seg.step (pc' := 275) (I_iconst dX12_signToken_274 ⟨by decide, by decide⟩) ?_
      exact S_arr (fun K hK => GG.forget (Lle.ye (Lle.no (Lle.no (Lle.no (Lle.nil))))) hK)
    refine Seg.step (pc' := 276) (I_istore_n (i := 1) dX12_signToken_275 rfl (by decide) rfl) ?_
    refine Seg.step (pc' := 277) (I_aload_n (i := 0) dX12_signToken_276 rfl rfl) ?_
    refine Seg.step (pc' := 278) (I_iload_n (i := 1) dX12_signToken_277 rfl rfl) ?_
    refine S_bind (Y := Int) (k' := 0) (n' := 0) 287 (fun y => [none, none, none, none]) (fun y => [iV y, rV 88]) (fun y => (sh, ex, R, M3)) ?_ (fun x17 => ?_)
    · refine S_if_eq (tgt := 285) dX12_signToken_278 (by decide) (fun h16 => ?_) (fun h16 => ?_)
      · refine Seg.step (pc' := 287) (I_bipush dX12_signToken_285 (by decide) ⟨by decide, by decide⟩) ?_
        exact S_arr (fun K hK => GG.forget (Lle.no (Lle.no (Lle.no (Lle.no (Lle.nil))))) hK)
      refine Seg.step (pc' := 282) (I_iconst dX12_signToken_281 ⟨by decide, by decide⟩) ?_
      refine Seg.step (pc' := 287) (I_goto (tgt := 287) dX12_signToken_282 (by decide)) ?_
      exact S_arr (fun K hK => GG.forget (Lle.no (Lle.no (Lle.no (Lle.no (Lle.nil))))) hK)
    refine Seg.step (pc' := 290) (I_putI cls12 (by decide) wf_12_193 (hE _ _ sk_12) rfl rfl dX12_signToken_287) ?_
    refine S_bM fun M18 => ?_
    exact S_vret dX12_signToken_290 rfl (by decide) (by decide) (fun K hK => hK)
  refine Seg.step (pc' := 51) (I_aload_n (i := 0) dX12_signToken_50 rfl rfl) ?_
  refine Seg.step (pc' := 54) (I_getI cls12 (by decide) wf_12_190 (hE _ _ sk_12) rfl dX12_signToken_51) ?_
  refine Seg.step (pc' := 55) (I_aload_n (i := 0) dX12_signToken_54 rfl rfl) ?_
  refine Seg.step (pc' := 58) (I_getI cls12 (by decide) wf_12_187 (hE _ _ sk_12) rfl dX12_signToken_55) ?_
  refine S_bind (Y := Int) (k' := 0) (n' := 0) 74 (fun y => [some (rV 88), none, none, none]) (fun y => [iV y]) (fun y => (sh, ex, R, M3)) ?_ (fun x22 => ?_)
  · refine S_icmp_ge (tgt := 73) dX12_signToken_58 (by decide) (fun h20 => ?_) (fun h20 => ?_)
    · refine Seg.step (pc' := 62) (I_aload_n (i := 0) dX12_signToken_61 rfl rfl) ?_
      refine Seg.step (pc' := 65) (I_getR cls12 (by decide) wf_12_7 (hE _ _ sk_12) rfl (lk_12_0 hL) dX12_signToken_62) ?_
      refine Seg.step (pc' := 66) (I_aload_n (i := 0) dX12_signToken_65 rfl rfl) ?_
      refine Seg.step (pc' := 69) (I_getI cls12 (by decide) wf_12_190 (hE _ _ sk_12) rfl dX12_signToken_66) ?_
      refine S_gd fun h21 => ?_
      refine Seg.step (pc' := 70) (I_iald (hE _ _ sk_12_0) h21 dX12_signToken_69) ?_
      refine Seg.step (pc' := 74) (I_goto (tgt := 74) dX12_signToken_70 (by decide)) ?_
      exact S_arr (fun K hK => GG.forget (Lle.ye (Lle.no (Lle.no (Lle.no (Lle.nil))))) hK)
    refine Seg.step (pc' := 74) (I_iconst dX12_signToken_73 ⟨by decide, by decide⟩) ?_
    exact S_arr (fun K hK => GG.forget (Lle.ye (Lle.no (Lle.no (Lle.no (Lle.nil))))) hK)
  refine Seg.step (pc' := 75) (I_istore_n (i := 1) dX12_signToken_74 rfl (by decide) rfl) ?_
  refine Seg.step (pc' := 76) (I_aload_n (i := 0) dX12_signToken_75 rfl rfl) ?_
  refine Seg.step (pc' := 79) (I_getI cls12 (by decide) wf_12_204 (hE _ _ sk_12) rfl dX12_signToken_76) ?_
  refine Seg.step (pc' := 81) (I_bipush dX12_signToken_79 (by decide) ⟨by decide, by decide⟩) ?_
  refine S_bind (Y := Int) (k' := 0) (n' := 0) 95 (fun y => [some (rV 88), some (iV x22), none, none]) (fun y => [iV y]) (fun y => (sh, ex, R, M3)) ?_ (fun x25 => ?_)
  · refine S_icmp_eq (tgt := 94) dX12_signToken_81 (by decide) (fun h23 => ?_) (fun h23 => ?_)
    · refine Seg.step (pc' := 95) (I_iconst dX12_signToken_94 ⟨by decide, by decide⟩) ?_
      exact S_arr (fun K hK => GG.forget (Lle.ye (Lle.ye (Lle.no (Lle.no (Lle.nil))))) hK)
    refine Seg.step (pc' := 85) (I_iload_n (i := 1) dX12_signToken_84 rfl rfl) ?_
    refine Seg.step (pc' := 87) (I_bipush dX12_signToken_85 (by decide) ⟨by decide, by decide⟩) ?_
    refine S_icmp_ne (tgt := 94) dX12_signToken_87 (by decide) (fun h24 => ?_) (fun h24 => ?_)
    · refine Seg.step (pc' := 91) (I_iconst dX12_signToken_90 ⟨by decide, by decide⟩) ?_
      refine Seg.step (pc' := 95) (I_goto (tgt := 95) dX12_signToken_91 (by decide)) ?_
      exact S_arr (fun K hK => GG.forget (Lle.ye (Lle.ye (Lle.no (Lle.no (Lle.nil))))) hK)
    refine Seg.step (pc' := 95) (I_iconst dX12_signToken_94 ⟨by decide, by decide⟩) ?_
    exact S_arr (fun K hK => GG.forget (Lle.ye (Lle.ye (Lle.no (Lle.no (Lle.nil))))) hK)
  refine Seg.step (pc' := 96) (I_istore_n (i := 2) dX12_signToken_95 rfl (by decide) rfl) ?_
  refine Seg.step (pc' := 97) (I_aload_n (i := 0) dX12_signToken_96 rfl rfl) ?_
  refine Seg.step (pc' := 100) (I_getI cls12 (by decide) wf_12_204 (hE _ _ sk_12) rfl dX12_signToken_97) ?_
  refine Seg.step (pc' := 102) (I_bipush dX12_signToken_100 (by decide) ⟨by decide, by decide⟩) ?_
  refine S_bind (Y := Int) (k' := 0) (n' := 0) 116 (fun y => [some (rV 88), none, some (iV x25), none]) (fun y => [iV y]) (fun y => (sh, ex, R, M3)) ?_ (fun x28 => ?_)
  · refine S_icmp_ne (tgt := 115) dX12_signToken_102 (by decide) (fun h26 => ?_) (fun h26 => ?_)
    · refine Seg.step (pc' := 106) (I_iload_n (i := 1) dX12_signToken_105 rfl rfl) ?_
      refine Seg.step (pc' := 108) (I_bipush dX12_signToken_106 (by decide) ⟨by decide, by decide⟩) ?_
      refine S_icmp_ne (tgt := 115) dX12_signToken_108 (by decide) (fun h27 => ?_) (fun h27 => ?_)
      · refine Seg.step (pc' := 112) (I_iconst dX12_signToken_111 ⟨by decide, by decide⟩) ?_
        refine Seg.step (pc' := 116) (I_goto (tgt := 116) dX12_signToken_112 (by decide)) ?_
        exact S_arr (fun K hK => GG.forget (Lle.ye (Lle.no (Lle.ye (Lle.no (Lle.nil))))) hK)
      refine Seg.step (pc' := 116) (I_iconst dX12_signToken_115 ⟨by decide, by decide⟩) ?_
      exact S_arr (fun K hK => GG.forget (Lle.ye (Lle.no (Lle.ye (Lle.no (Lle.nil))))) hK)
    refine Seg.step (pc' := 116) (I_iconst dX12_signToken_115 ⟨by decide, by decide⟩) ?_
    exact S_arr (fun K hK => GG.forget (Lle.ye (Lle.no (Lle.ye (Lle.no (Lle.nil))))) hK)
  refine Seg.step (pc' := 117) (I_istore_n (i := 3) dX12_signToken_116 rfl (by decide) rfl) ?_
  refine Seg.step (pc' := 118) (I_iload_n (i := 2) dX12_signToken_117 rfl rfl) ?_
  refine S_bind (Y := MM) (k' := 0) (n' := 0) 135 (fun y => [some (rV 88), none, some (iV x25), some (iV x28)]) (fun y => []) (fun y => (sh, ex, R, y)) ?_ (fun x33 => ?_)
  · refine S_if_ne (tgt := 125) dX12_signToken_118 (by decide) (fun h29 => ?_) (fun h29 => ?_)
    · refine Seg.step (pc' := 122) (I_iload_n (i := 3) dX12_signToken_121 rfl rfl) ?_
      refine S_if_eq (tgt := 135) dX12_signToken_122 (by decide) (fun h30 => ?_) (fun h30 => ?_)
      · exact S_arr (fun K hK => GG.forget (Lle.ye (Lle.no (Lle.ye (Lle.ye (Lle.nil))))) hK)
      refine Seg.step (pc' := 126) (I_aload_n (i := 0) dX12_signToken_125 rfl rfl) ?_
      refine Seg.step (pc' := 127) (I_dup dX12_signToken_126 (fun _ h => by cases h)) ?_
      refine Seg.step (pc' := 130) (I_getI cls12 (by decide) wf_12_190 (hE _ _ sk_12) rfl dX12_signToken_127) ?_
      refine Seg.step (pc' := 131) (I_iconst dX12_signToken_130 ⟨by decide, by decide⟩) ?_
      refine Seg.step (pc' := 132) (I_iadd dX12_signToken_131) ?_
      refine Seg.step (pc' := 135) (I_putI cls12 (by decide) wf_12_190 (hE _ _ sk_12) rfl rfl dX12_signToken_132) ?_
      refine S_bM fun M31 => ?_
      exact S_arr (fun K hK => GG.forget (Lle.ye (Lle.no (Lle.ye (Lle.ye (Lle.nil))))) hK)
    refine Seg.step (pc' := 126) (I_aload_n (i := 0) dX12_signToken_125 rfl rfl) ?_
    refine Seg.step (pc' := 127) (I_dup dX12_signToken_126 (fun _ h => by cases h)) ?_
    refine Seg.step (pc' := 130) (I_getI cls12 (by decide) wf_12_190 (hE _ _ sk_12) rfl dX12_signToken_127) ?_
    refine Seg.step (pc' := 131) (I_iconst dX12_signToken_130 ⟨by decide, by decide⟩) ?_
    refine Seg.step (pc' := 132) (I_iadd dX12_signToken_131) ?_
    refine Seg.step (pc' := 135) (I_putI cls12 (by decide) wf_12_190 (hE _ _ sk_12) rfl rfl dX12_signToken_132) ?_
    refine S_bM fun M32 => ?_
    exact S_arr (fun K hK => GG.forget (Lle.ye (Lle.no (Lle.ye (Lle.ye (Lle.nil))))) hK)
  refine Seg.step (pc' := 136) (I_aload_n (i := 0) dX12_signToken_135 rfl rfl) ?_
  refine Seg.step (pc' := 137) (I_iconst dX12_signToken_136 ⟨by decide, by decide⟩) ?_
  refine Seg.step (pc' := 140) (I_putI cls12 (by decide) wf_12_193 (hE _ _ sk_12) rfl rfl dX12_signToken_137) ?_
  refine S_bM fun M34 => ?_
  refine Seg.step (pc' := 141) (I_aload_n (i := 0) dX12_signToken_140 rfl rfl) ?_
  refine Seg.step (pc' := 142) (I_aload_n (i := 0) dX12_signToken_141 rfl rfl) ?_
  refine Seg.step (pc' := 145) (I_getI cls12 (by decide) wf_12_204 (hE _ _ sk_12) rfl dX12_signToken_142) ?_
  refine Seg.step (pc' := 147) (I_bipush dX12_signToken_145 (by decide) ⟨by decide, by decide⟩) ?_
  refine S_bind (Y := Int) (k' := 0) (n' := 0) 192 (fun y => [none, none, none, none]) (fun y => [iV y, rV 88]) (fun y => (sh, ex, R, M34)) ?_ (fun x40 => ?_)
  · refine S_icmp_ne (tgt := 154) dX12_signToken_147 (by decide) (fun h35 => ?_) (fun h35 => ?_)
    · refine Seg.step (pc' := 151) (I_iconst dX12_signToken_150 ⟨by decide, by decide⟩) ?_
      refine Seg.step (pc' := 192) (I_goto (tgt := 192) dX12_signToken_151 (by decide)) ?_
      exact S_arr (fun K hK => GG.forget (Lle.no (Lle.no (Lle.no (Lle.no (Lle.nil))))) hK)
    refine Seg.step (pc' := 155) (I_aload_n (i := 0) dX12_signToken_154 rfl rfl) ?_
    refine Seg.step (pc' := 158) (I_getI cls12 (by decide) wf_12_204 (hE _ _ sk_12) rfl dX12_signToken_155) ?_
    refine Seg.step (pc' := 160) (I_bipush dX12_signToken_158 (by decide) ⟨by decide, by decide⟩) ?_
    refine S_icmp_ne (tgt := 183) dX12_signToken_160 (by decide) (fun h36 => ?_) (fun h36 => ?_)
    · refine Seg.step (pc' := 164) (I_iload_n (i := 2) dX12_signToken_163 rfl rfl) ?_
      refine S_if_eq (tgt := 171) dX12_signToken_164 (by decide) (fun h37 => ?_) (fun h37 => ?_)
      · refine Seg.step (pc' := 172) (I_iload_n (i := 3) dX12_signToken_171 rfl rfl) ?_
        refine S_if_eq (tgt := 179) dX12_signToken_172 (by decide) (fun h38 => ?_) (fun h38 => ?_)
        · refine Seg.step (pc' := 180) (I_iconst dX12_signToken_179 ⟨by decide, by decide⟩) ?_
          refine Seg.step (pc' := 192) (I_goto (tgt := 192) dX12_signToken_180 (by decide)) ?_
          exact S_arr (fun K hK => GG.forget (Lle.no (Lle.no (Lle.no (Lle.no (Lle.nil))))) hK)
        refine Seg.step (pc' := 176) (I_iconst dX12_signToken_175 ⟨by decide, by decide⟩) ?_
        refine Seg.step (pc' := 192) (I_goto (tgt := 192) dX12_signToken_176 (by decide)) ?_
        exact S_arr (fun K hK => GG.forget (Lle.no (Lle.no (Lle.no (Lle.no (Lle.nil))))) hK)
      refine Seg.step (pc' := 168) (I_iconst dX12_signToken_167 ⟨by decide, by decide⟩) ?_
      refine Seg.step (pc' := 192) (I_goto (tgt := 192) dX12_signToken_168 (by decide)) ?_
      exact S_arr (fun K hK => GG.forget (Lle.no (Lle.no (Lle.no (Lle.no (Lle.nil))))) hK)
    refine Seg.step (pc' := 184) (I_iload_n (i := 2) dX12_signToken_183 rfl rfl) ?_
    refine S_if_eq (tgt := 191) dX12_signToken_184 (by decide) (fun h39 => ?_) (fun h39 => ?_)
    · refine Seg.step (pc' := 192) (I_iconst dX12_signToken_191 ⟨by decide, by decide⟩) ?_
      exact S_arr (fun K hK => GG.forget (Lle.no (Lle.no (Lle.no (Lle.no (Lle.nil))))) hK)
    refine Seg.step (pc' := 188) (I_iconst dX12_signToken_187 ⟨by decide, by decide⟩) ?_
    refine Seg.step (pc' := 192) (I_goto (tgt := 192) dX12_signToken_188 (by decide)) ?_
    exact S_arr (fun K hK => GG.forget (Lle.no (Lle.no (Lle.no (Lle.no (Lle.nil))))) hK)
  refine Seg.step (pc' := 195) (I_putI cls12 (by decide) wf_12_204 (hE _ _ sk_12) rfl rfl dX12_signToken_192) ?_
  refine S_bM fun M41 => ?_
  refine Seg.step (pc' := 290) (I_goto (tgt := 290) dX12_signToken_195 (by decide)) ?_
  exact S_vret dX12_signToken_290 rfl (by decide) (by decide) (fun K hK => hK)
theorem dX12_token_0 : decode cX12_token 0 = .ok (.aload_n 0, 1) := by decide +kernel
theorem dX12_token_1 : decode cX12_token 1 = .ok (.getfield 190, 3) := by decide +kernel
theorem dX12_token_4 : decode cX12_token 4 = .ok (.aload_n 0, 1) := by decide +kernel
theorem dX12_token_5 : decode cX12_token 5 = .ok (.getfield 187, 3) := by decide +kernel
theorem dX12_token_8 : decode cX12_token 8 = .ok (.if_icmp .ge 44, 3) := by decide +kernel
theorem dX12_token_11 : decode cX12_token 11 = .ok (.aload_n 0, 1) := by decide +kernel
theorem dX12_token_12 : decode cX12_token 12 = .ok (.getfield 7, 3) := by decide +kernel
theorem dX12_token_15 : decode cX12_token 15 = .ok (.aload_n 0, 1) := by decide +kernel
theorem dX12_token_16 : decode cX12_token 16 = .ok (.getfield 190, 3) := by decide +kernel
theorem dX12_token_19 : decode cX12_token 19 = .ok (.iaload, 1) := by decide +kernel
theorem dX12_token_20 : decode cX12_token 20 = .ok (.bipush 10, 2) := by decide +kernel
theorem dX12_token_22 : decode cX12_token 22 = .ok (.if_icmp .eq 17, 3) := by decide +kernel
theorem dX12_token_25 : decode cX12_token 25 = .ok (.aload_n 0, 1) := by decide +kernel
theorem dX12_token_26 : decode cX12_token 26 = .ok (.getfield 7, 3) := by decide +kernel
theorem dX12_token_29 : decode cX12_token 29 = .ok (.aload_n 0, 1) := by decide +kernel
theorem dX12_token_30 : decode cX12_token 30 = .ok (.getfield 190, 3) := by decide +kernel
theorem dX12_token_33 : decode cX12_token 33 = .ok (.iaload, 1) := by decide +kernel
theorem dX12_token_34 : decode cX12_token 34 = .ok (.bipush 32, 2) := by decide +kernel
theorem dX12_token_36 : decode cX12_token 36 = .ok (.if_icmp .ne 16, 3) := by decide +kernel
theorem dX12_token_39 : decode cX12_token 39 = .ok (.aload_n 0, 1) := by decide +kernel
theorem dX12_token_40 : decode cX12_token 40 = .ok (.dup, 1) := by decide +kernel
theorem dX12_token_41 : decode cX12_token 41 = .ok (.getfield 190, 3) := by decide +kernel
theorem dX12_token_44 : decode cX12_token 44 = .ok (.iconst 1, 1) := by decide +kernel
theorem dX12_token_45 : decode cX12_token 45 = .ok (.iadd, 1) := by decide +kernel
theorem dX12_token_46 : decode cX12_token 46 = .ok (.putfield 190, 3) := by decide +kernel
theorem dX12_token_49 : decode cX12_token 49 = .ok (.goto (-49), 3) := by decide +kernel
theorem dX12_token_52 : decode cX12_token 52 = .ok (.aload_n 0, 1) := by decide +kernel
theorem dX12_token_53 : decode cX12_token 53 = .ok (.aload_n 0, 1) := by decide +kernel
theorem dX12_token_54 : decode cX12_token 54 = .ok (.getfield 190, 3) := by decide +kernel
theorem dX12_token_57 : decode cX12_token 57 = .ok (.putfield 184, 3) := by decide +kernel
theorem dX12_token_60 : decode cX12_token 60 = .ok (.aload_n 0, 1) := by decide +kernel
theorem dX12_token_61 : decode cX12_token 61 = .ok (.getfield 190, 3) := by decide +kernel
theorem dX12_token_64 : decode cX12_token 64 = .ok (.aload_n 0, 1) := by decide +kernel
theorem dX12_token_65 : decode cX12_token 65 = .ok (.getfield 187, 3) := by decide +kernel
theorem dX12_token_68 : decode cX12_token 68 = .ok (.if_icmp .ne 11, 3) := by decide +kernel
theorem dX12_token_71 : decode cX12_token 71 = .ok (.aload_n 0, 1) := by decide +kernel
theorem dX12_token_72 : decode cX12_token 72 = .ok (.iconst 0, 1) := by decide +kernel
theorem dX12_token_73 : decode cX12_token 73 = .ok (.putfield 193, 3) := by decide +kernel
theorem dX12_token_76 : decode cX12_token 76 = .ok (.goto 205, 3) := by decide +kernel
theorem dX12_token_79 : decode cX12_token 79 = .ok (.aload_n 0, 1) := by decide +kernel
theorem dX12_token_80 : decode cX12_token 80 = .ok (.aload_n 0, 1) := by decide +kernel
theorem dX12_token_81 : decode cX12_token 81 = .ok (.getfield 190, 3) := by decide +kernel
theorem dX12_token_84 : decode cX12_token 84 = .ok (.invokevirtual 196, 3) := by decide +kernel
theorem dX12_token_87 : decode cX12_token 87 = .ok (.ifCond .eq 105, 3) := by decide +kernel
theorem dX12_token_90 : decode cX12_token 90 = .ok (.aload_n 0, 1) := by decide +kernel
theorem dX12_token_91 : decode cX12_token 91 = .ok (.aload_n 0, 1) := by decide +kernel
theorem dX12_token_92 : decode cX12_token 92 = .ok (.getfield 190, 3) := by decide +kernel
theorem dX12_token_95 : decode cX12_token 95 = .ok (.invokevirtual 196, 3) := by decide +kernel
theorem dX12_token_98 : decode cX12_token 98 = .ok (.ifCond .eq 16, 3) := by decide +kernel
theorem dX12_token_101 : decode cX12_token 101 = .ok (.aload_n 0, 1) := by decide +kernel
theorem dX12_token_102 : decode cX12_token 102 = .ok (.dup, 1) := by decide +kernel
theorem dX12_token_103 : decode cX12_token 103 = .ok (.getfield 190, 3) := by decide +kernel
theorem dX12_token_106 : decode cX12_token 106 = .ok (.iconst 1, 1) := by decide +kernel
theorem dX12_token_107 : decode cX12_token 107 = .ok (.iadd, 1) := by decide +kernel
theorem dX12_token_108 : decode cX12_token 108 = .ok (.putfield 190, 3) := by decide +kernel
theorem dX12_token_111 : decode cX12_token 111 = .ok (.goto (-21), 3) := by decide +kernel
theorem dX12_token_114 : decode cX12_token 114 = .ok (.aload_n 0, 1) := by decide +kernel
theorem dX12_token_115 : decode cX12_token 115 = .ok (.aload_n 0, 1) := by decide +kernel
theorem dX12_token_116 : decode cX12_token 116 = .ok (.aload_n 0, 1) := by decide +kernel
theorem dX12_token_117 : decode cX12_token 117 = .ok (.getfield 184, 3) := by decide +kernel
theorem dX12_token_120 : decode cX12_token 120 = .ok (.aload_n 0, 1) := by decide +kernel
theorem dX12_token_121 : decode cX12_token 121 = .ok (.getfield 190, 3) := by decide +kernel
theorem dX12_token_124 : decode cX12_token 124 = .ok (.invokevirtual 200, 3) := by decide +kernel
theorem dX12_token_127 : decode cX12_token 127 = .ok (.putfield 204, 3) := by decide +kernel
theorem dX12_token_130 : decode cX12_token 130 = .ok (.aload_n 0, 1) := by decide +kernel
theorem dX12_token_131 : decode cX12_token 131 = .ok (.aload_n 0, 1) := by decide +kernel
theorem dX12_token_132 : decode cX12_token 132 = .ok (.getfield 204, 3) := by decide +kernel
theorem dX12_token_135 : decode cX12_token 135 = .ok (.ifCond .lt 7, 3) := by decide +kernel
theorem dX12_token_138 : decode cX12_token 138 = .ok (.iconst 1, 1) := by decide +kernel
theorem dX12_token_139 : decode cX12_token 139 = .ok (.goto 23, 3) := by decide +kernel
theorem dX12_token_142 : decode cX12_token 142 = .ok (.aload_n 0, 1) := by decide +kernel
theorem dX12_token_143 : decode cX12_token 143 = .ok (.getfield 190, 3) := by decide +kernel
theorem dX12_token_146 : decode cX12_token 146 = .ok (.aload_n 0, 1) := by decide +kernel
theorem dX12_token_147 : decode cX12_token 147 = .ok (.getfield 184, 3) := by decide +kernel
theorem dX12_token_150 : decode cX12_token 150 = .ok (.isub, 1) := by decide +kernel
theorem dX12_token_151 : decode cX12_token 151 = .ok (.bipush 6, 2) := by decide +kernel
theorem dX12_token_153 : decode cX12_token 153 = .ok (.if_icmp .le 8, 3) := by decide +kernel
theorem dX12_token_156 : decode cX12_token 156 = .ok (.bipush 6, 2) := by decide +kernel
theorem dX12_token_158 : decode cX12_token 158 = .ok (.goto 4, 3) := by decide +kernel
theorem dX12_token_161 : decode cX12_token 161 = .ok (.iconst 2, 1) := by decide +kernel
theorem dX12_token_162 : decode cX12_token 162 = .ok (.putfield 193, 3) := by decide +kernel
theorem dX12_token_165 : decode cX12_token 165 = .ok (.aload_n 0, 1) := by decide +kernel
theorem dX12_token_166 : decode cX12_token 166 = .ok (.getfield 193, 3) := by decide +kernel
theorem dX12_token_169 : decode cX12_token 169 = .ok (.iconst 2, 1) := by decide +kernel
theorem dX12_token_170 : decode cX12_token 170 = .ok (.if_icmp .ne 111, 3) := by decide +kernel
theorem dX12_token_173 : decode cX12_token 173 = .ok (.aload_n 0, 1) := by decide +kernel
theorem dX12_token_174 : decode cX12_token 174 = .ok (.aload_n 0, 1) := by decide +kernel
theorem dX12_token_175 : decode cX12_token 175 = .ok (.aload_n 0, 1) := by decide +kernel
theorem dX12_token_176 : decode cX12_token 176 = .ok (.getfield 184, 3) := by decide +kernel
theorem dX12_token_179 : decode cX12_token 179 = .ok (.aload_n 0, 1) := by decide +kernel
theorem dX12_token_180 : decode cX12_token 180 = .ok (.getfield 190, 3) := by decide +kernel
theorem dX12_token_183 : decode cX12_token 183 = .ok (.invokevirtual 207, 3) := by decide +kernel
theorem dX12_token_186 : decode cX12_token 186 = .ok (.putfield 204, 3) := by decide +kernel
theorem dX12_token_189 : decode cX12_token 189 = .ok (.goto 92, 3) := by decide +kernel
theorem dX12_token_192 : decode cX12_token 192 = .ok (.aload_n 0, 1) := by decide +kernel
theorem dX12_token_193 : decode cX12_token 193 = .ok (.aload_n 0, 1) := by decide +kernel
theorem dX12_token_194 : decode cX12_token 194 = .ok (.getfield 190, 3) := by decide +kernel
theorem dX12_token_197 : decode cX12_token 197 = .ok (.invokevirtual 210, 3) := by decide +kernel
theorem dX12_token_200 : decode cX12_token 200 = .ok (.ifCond .eq 77, 3) := by decide +kernel
theorem dX12_token_203 : decode cX12_token 203 = .ok (.aload_n 0, 1) := by decide +kernel
theorem dX12_token_204 : decode cX12_token 204 = .ok (.iconst 3, 1) := by decide +kernel
theorem dX12_token_205 : decode cX12_token 205 = .ok (.putfield 193, 3) := by decide +kernel
theorem dX12_token_208 : decode cX12_token 208 = .ok (.aload_n 0, 1) := by decide +kernel
theorem dX12_token_209 : decode cX12_token 209 = .ok (.iconst 0, 1) := by decide +kernel
theorem dX12_token_210 : decode cX12_token 210 = .ok (.putfield 204, 3) := by decide +kernel
theorem dX12_token_213 : decode cX12_token 213 = .ok (.aload_n 0, 1) := by decide +kernel
theorem dX12_token_214 : decode cX12_token 214 = .ok (.aload_n 0, 1) := by decide +kernel
theorem dX12_token_215 : decode cX12_token 215 = .ok (.getfield 190, 3) := by decide +kernel
theorem dX12_token_218 : decode cX12_token 218 = .ok (.invokevirtual 210, 3) := by decide +kernel
theorem dX12_token_221 : decode cX12_token 221 = .ok (.ifCond .eq 60, 3) := by decide +kernel
theorem dX12_token_224 : decode cX12_token 224 = .ok (.aload_n 0, 1) := by decide +kernel
theorem dX12_token_225 : decode cX12_token 225 = .ok (.aload_n 0, 1) := by decide +kernel
theorem dX12_token_226 : decode cX12_token 226 = .ok (.getfield 204, 3) := by decide +kernel
theorem dX12_token_229 : decode cX12_token 229 = .ok (.ldc 213, 2) := by decide +kernel
theorem dX12_token_231 : decode cX12_token 231 = .ok (.if_icmp .le 10, 3) := by decide +kernel
theorem dX12_token_234 : decode cX12_token 234 = .ok (.aload_n 0, 1) := by decide +kernel
theorem dX12_token_235 : decode cX12_token 235 = .ok (.getfield 204, 3) := by decide +kernel
theorem dX12_token_238 : decode cX12_token 238 = .ok (.goto 23, 3) := by decide +kernel
theorem dX12_token_241 : decode cX12_token 241 = .ok (.bipush 10, 2) := by decide +kernel
theorem dX12_token_243 : decode cX12_token 243 = .ok (.aload_n 0, 1) := by decide +kernel
theorem dX12_token_244 : decode cX12_token 244 = .ok (.getfield 204, 3) := by decide +kernel
theorem dX12_token_247 : decode cX12_token 247 = .ok (.imul, 1) := by decide +kernel
theorem dX12_token_248 : decode cX12_token 248 = .ok (.aload_n 0, 1) := by decide +kernel
theorem dX12_token_249 : decode cX12_token 249 = .ok (.getfield 7, 3) := by decide +kernel
theorem dX12_token_252 : decode cX12_token 252 = .ok (.aload_n 0, 1) := by decide +kernel
theorem dX12_token_253 : decode cX12_token 253 = .ok (.getfield 190, 3) := by decide +kernel
theorem dX12_token_256 : decode cX12_token 256 = .ok (.iaload, 1) := by decide +kernel
theorem dX12_token_257 : decode cX12_token 257 = .ok (.iadd, 1) := by decide +kernel
theorem dX12_token_258 : decode cX12_token 258 = .ok (.bipush 48, 2) := by decide +kernel
theorem dX12_token_260 : decode cX12_token 260 = .ok (.isub, 1) := by decide +kernel
theorem dX12_token_261 : decode cX12_token 261 = .ok (.putfield 204, 3) := by decide +kernel
theorem dX12_token_264 : decode cX12_token 264 = .ok (.aload_n 0, 1) := by decide +kernel
theorem dX12_token_265 : decode cX12_token 265 = .ok (.dup, 1) := by decide +kernel
theorem dX12_token_266 : decode cX12_token 266 = .ok (.getfield 190, 3) := by decide +kernel
theorem dX12_token_269 : decode cX12_token 269 = .ok (.iconst 1, 1) := by decide +kernel
theorem dX12_token_270 : decode cX12_token 270 = .ok (.iadd, 1) := by decide +kernel
theorem dX12_token_271 : decode cX12_token 271 = .ok (.putfield 190, 3) := by decide +kernel
theorem dX12_token_274 : decode cX12_token 274 = .ok (.goto (-61), 3) := by decide +kernel
theorem dX12_token_277 : decode cX12_token 277 = .ok (.aload_n 0, 1) := by decide +kernel
theorem dX12_token_278 : decode cX12_token 278 = .ok (.invokevirtual 214, 3) := by decide +kernel
theorem dX12_token_281 : decode cX12_token 281 = .ok (.return_, 1) := by decide +kernel
def f_X12_token (M : MM)  : Option (MM) :=
(lp (X := MM) (Y := MM) (fun x1 =>
if (x1 88 7) < (x1 88 6) then
(gd (0 ≤ x1 88 7 ∧ x1 88 7 < (700 : Int)) <|
if (x1 89 (x1 88 7).toNat) = 10 then
(bM (upM x1 88 7 (w32 ((x1 88 7) + 1))) fun M5 =>
some (Sum.inl M5))
else
gd (0 ≤ x1 88 7 ∧ x1 88 7 < (700 : Int)) <|
if (x1 89 (x1 88 7).toNat) = 32 then
(bM (upM x1 88 7 (w32 ((x1 88 7) + 1))) fun M8 =>
some (Sum.inl M8))
else
some (Sum.inr x1))
else
some (Sum.inr x1)) FU M).bind fun x9 =>
bM (upM x9 88 10 (x9 88 7)) fun M10 =>
if (M10 88 7) = (M10 88 6) then
(bM (upM M10 88 8 0) fun M12 =>
some M12)
else
(f_X12_isSmall M10 (M10 88 7)).bind fun x13 =>
if x13 = 0 then
((f_X12_isDigit M10 (M10 88 7)).bind fun x15 =>
if x15 = 0 then
((f_X12_signToken M10).bind fun x17 =>
some x17)
else
bM (upM M10 88 8 3) fun M18 =>
bM (upM M18 88 9 0) fun M19 =>
lp (X := MM) (Y := MM) (fun x20 =>
(f_X12_isDigit x20 (x20 88 7)).bind fun x21 =>
if x21 = 0 then
(some (Sum.inr x20))
else
((if 99999 < (x20 88 9) then
(some (x20 88 9))
else
gd (0 ≤ x20 88 7 ∧ x20 88 7 < (700 : Int)) <|
some (w32 ((w32 ((w32 (10 * (x20 88 9))) + (x20 89 (x20 88 7).toNat))) - 48))) : Option (Int)).bind fun x25 =>
bM (upM x20 88 9 x25) fun M26 =>
bM (upM M26 88 7 (w32 ((M26 88 7) + 1))) fun M27 =>
some (Sum.inl M27)) FU M19)
else
(lp (X := MM) (Y := MM) (fun x28 =>
(f_X12_isSmall x28 (x28 88 7)).bind fun x29 =>
if x29 = 0 then
(some (Sum.inr x28))
else
bM (upM x28 88 7 (w32 ((x28 88 7) + 1))) fun M31 =>
some (Sum.inl M31)) FU M10).bind fun x32 =>
(f_X12_wordAt x32 (x32 88 10) (x32 88 7)).bind fun x33 =>
bM (upM x32 88 9 x33) fun M34 =>
((if (M34 88 9) < 0 then
(if 6 < (w32 ((M34 88 7) - (M34 88 10))) then
(some 6)
else
some 2)
else
some 1) : Option (Int)).bind fun x37 =>
bM (upM M34 88 8 x37) fun M38 =>
if (M38 88 8) = 2 then
((f_X12_packed M38 (M38 88 10) (M38 88 7)).bind fun x40 =>
bM (upM M38 88 9 x40) fun M41 =>
some M41)
else
some M38
set_option maxRecDepth 4000 in
theorem c_X12_token {E : EE} {sh : List (Nat × Nat)} {ex : Bool} {R : RM} {M : MM}  (hE : Ext sh) (hL : Links R) : ∀ y, f_X12_token M = some y → MetC E m_X12_token 0 0 [rV 88] (sh, ex, R, M) (fun r w' => r = none ∧ w' = (sh, ex, R, y)) := by
  intro y hy
  refine MetC.seg (o := f_X12_token M) (t := (fun K y => K (none) (sh, ex, R, y))) (L := [some (rV 88)]) (by decide) rfl (Nat.le_of_ble_eq_true rfl) ?_ hy ⟨rfl, rfl⟩
  unfold f_X12_token
  refine Seg.forget (Lle.ye (Lle.nil)) ?_
  refine S_bind (Y := MM) (k' := 0) (n' := 0) 52 (fun y => [some (rV 88)]) (fun y => []) (fun y => (sh, ex, R, y)) (S_loop (Y := MM) (fun y => [some (rV 88)]) (fun y => []) (fun y => (sh, ex, R, y)) (fun x1 => ?_) FU M) (fun x9 => ?_)
  · refine Seg.step (pc' := 1) (I_aload_n (i := 0) dX12_token_0 rfl rfl) ?_
    refine Seg.step (pc' := 4) (I_getI cls12 (by decide) wf_12_190 (hE _ _ sk_12) rfl dX12_token_1) ?_
    refine Seg.step (pc' := 5) (I_aload_n (i := 0) dX12_token_4 rfl rfl) ?_
    refine Seg.step (pc' := 8) (I_getI cls12 (by decide) wf_12_187 (hE _ _ sk_12) rfl dX12_token_5) ?_
    refine S_icmp_ge (tgt := 52) dX12_token_8 (by decide) (fun h2 => ?_) (fun h2 => ?_)
    · refine Seg.step (pc' := 12) (I_aload_n (i := 0) dX12_token_11 rfl rfl) ?_
      refine Seg.step (pc' := 15) (I_getR cls12 (by decide) wf_12_7 (hE _ _ sk_12) rfl (lk_12_0 hL) dX12_token_12) ?_
      refine Seg.step (pc' := 16) (I_aload_n (i := 0) dX12_token_15 rfl rfl) ?_
      refine Seg.step (pc' := 19) (I_getI cls12 (by decide) wf_12_190 (hE _ _ sk_12) rfl dX12_token_16) ?_
      refine S_gd fun h3 => ?_
      refine Seg.step (pc' := 20) (I_iald (hE _ _ sk_12_0) h3 dX12_token_19) ?_
      refine Seg.step (pc' := 22) (I_bipush dX12_token_20 (by decide) ⟨by decide, by decide⟩) ?_
      refine S_icmp_eq (tgt := 39) dX12_token_22 (by decide) (fun h4 => ?_) (fun h4 => ?_)
      · refine Seg.step (pc' := 40) (I_aload_n (i := 0) dX12_token_39 rfl rfl) ?_
        refine Seg.step (pc' := 41) (I_dup dX12_token_40 (fun _ h => by cases h)) ?_
        refine Seg.step (pc' := 44) (I_getI cls12 (by decide) wf_12_190 (hE _ _ sk_12) rfl dX12_token_41) ?_
        refine Seg.step (pc' := 45) (I_iconst dX12_token_44 ⟨by decide, by decide⟩) ?_
        refine Seg.step (pc' := 46) (I_iadd dX12_token_45) ?_
        refine Seg.step (pc' := 49) (I_putI cls12 (by decide) wf_12_190 (hE _ _ sk_12) rfl rfl dX12_token_46) ?_
        refine S_bM fun M5 => ?_
        refine Seg.step (pc' := 0) (I_goto (tgt := 0) dX12_token_49 (by decide)) ?_
        exact S_arr (fun K hK => GG.forget (Lle.ye (Lle.nil)) hK)
      refine Seg.step (pc' := 26) (I_aload_n (i := 0) dX12_token_25 rfl rfl) ?_
      refine Seg.step (pc' := 29) (I_getR cls12 (by decide) wf_12_7 (hE _ _ sk_12) rfl (lk_12_0 hL) dX12_token_26) ?_
      refine Seg.step (pc' := 30) (I_aload_n (i := 0) dX12_token_29 rfl rfl) ?_
      refine Seg.step (pc' := 33) (I_getI cls12 (by decide) wf_12_190 (hE _ _ sk_12) rfl dX12_token_30) ?_
      refine S_gd fun h6 => ?_
      refine Seg.step (pc' := 34) (I_iald (hE _ _ sk_12_0) h6 dX12_token_33) ?_
      refine Seg.step (pc' := 36) (I_bipush dX12_token_34 (by decide) ⟨by decide, by decide⟩) ?_
      refine S_icmp_ne (tgt := 52) dX12_token_36 (by decide) (fun h7 => ?_) (fun h7 => ?_)
      · refine Seg.step (pc' := 40) (I_aload_n (i := 0) dX12_token_39 rfl rfl) ?_
        refine Seg.step (pc' := 41) (I_dup dX12_token_40 (fun _ h => by cases h)) ?_
        refine Seg.step (pc' := 44) (I_getI cls12 (by decide) wf_12_190 (hE _ _ sk_12) rfl dX12_token_41) ?_
        refine Seg.step (pc' := 45) (I_iconst dX12_token_44 ⟨by decide, by decide⟩) ?_
        refine Seg.step (pc' := 46) (I_iadd dX12_token_45) ?_
        refine Seg.step (pc' := 49) (I_putI cls12 (by decide) wf_12_190 (hE _ _ sk_12) rfl rfl dX12_token_46) ?_
        refine S_bM fun M8 => ?_
        refine Seg.step (pc' := 0) (I_goto (tgt := 0) dX12_token_49 (by decide)) ?_
        exact S_arr (fun K hK => GG.forget (Lle.ye (Lle.nil)) hK)
      exact S_arr (fun K hK => GG.forget (Lle.ye (Lle.nil)) hK)
    exact S_arr (fun K hK => GG.forget (Lle.ye (Lle.nil)) hK)
  refine Seg.step (pc' := 53) (I_aload_n (i := 0) dX12_token_52 rfl rfl) ?_
  refine Seg.step (pc' := 54) (I_aload_n (i := 0) dX12_token_53 rfl rfl) ?_
  refine Seg.step (pc' := 57) (I_getI cls12 (by decide) wf_12_190 (hE _ _ sk_12) rfl dX12_token_54) ?_
  refine Seg.step (pc' := 60) (I_putI cls12 (by decide) wf_12_184 (hE _ _ sk_12) rfl rfl dX12_token_57) ?_
  refine S_bM fun M10 => ?_
  refine Seg.step (pc' := 61) (I_aload_n (i := 0) dX12_token_60 rfl rfl) ?_
  refine Seg.step (pc' := 64) (I_getI cls12 (by decide) wf_12_190 (hE _ _ sk_12) rfl dX12_token_61) ?_
  refine Seg.step (pc' := 65) (I_aload_n (i := 0) dX12_token_64 rfl rfl) ?_
  refine Seg.step (pc' := 68) (I_getI cls12 (by decide) wf_12_187 (hE _ _ sk_12) rfl dX12_token_65) ?_
  refine S_icmp_ne (tgt := 79) dX12_token_68 (by decide) (fun h11 => ?_) (fun h11 => ?_)
  · refine Seg.step (pc' := 72) (I_aload_n (i := 0) dX12_token_71 rfl rfl) ?_
    refine Seg.step (pc' := 73) (I_iconst dX12_token_72 ⟨by decide, by decide⟩) ?_
    refine Seg.step (pc' := 76) (I_putI cls12 (by decide) wf_12_193 (hE _ _ sk_12) rfl rfl dX12_token_73) ?_
    refine S_bM fun M12 => ?_
    refine Seg.step (pc' := 281) (I_goto (tgt := 281) dX12_token_76 (by decide)) ?_
    exact S_vret dX12_token_281 rfl (by decide) (by decide) (fun K hK => hK)
  refine Seg.step (pc' := 80) (I_aload_n (i := 0) dX12_token_79 rfl rfl) ?_
  refine Seg.step (pc' := 81) (I_aload_n (i := 0) dX12_token_80 rfl rfl) ?_
  refine Seg.step (pc' := 84) (I_getI cls12 (by decide) wf_12_190 (hE _ _ sk_12) rfl dX12_token_81) ?_
  refine S_callV1 (md' := m_X12_isSmall) (fun y => some (iV y)) (fun y => (sh, ex, R, M10)) (hE _ _ sk_12) ⟨by decide, rfl⟩ mm_X12_isSmall wm_12_196 ⟨rfl, rfl, by decide, by decide, by decide, by decide⟩ (Nat.le_of_ble_eq_true rfl) dX12_token_84 (fun y hy => c_X12_isSmall hE hL y hy) (fun x13 => ?_)
  refine S_if_eq (tgt := 192) dX12_token_87 (by decide) (fun h14 => ?_) (fun h14 => ?_)
  · refine Seg.step (pc' := 193) (I_aload_n (i := 0) dX12_token_192 rfl rfl) ?_
    refine Seg.step (pc' := 194) (I_aload_n (i := 0) dX12_token_193 rfl rfl) ?_
    refine Seg.step (pc' := 197) (I_getI cls12 (by decide) wf_12_190 (hE _ _ sk_12) rfl dX12_token_194) ?_
    refine S_callV1 (md' := m_X12_isDigit) (fun y => some (iV y)) (fun y => (sh, ex, R, M10)) (hE _ _ sk_12) ⟨by decide, rfl⟩ mm_X12_isDigit wm_12_210 ⟨rfl, rfl, by decide, by decide, by decide, by decide⟩ (Nat.le_of_ble_eq_true rfl) dX12_token_197 (fun y hy => c_X12_isDigit hE hL y hy) (fun x15 => ?_)
    refine S_if_eq (tgt := 277) dX12_token_200 (by decide) (fun h16 => ?_) (fun h16 => ?_)
    · refine Seg.step (pc' := 278) (I_aload_n (i := 0) dX12_token_277 rfl rfl) ?_
      refine S_callV0 (md' := m_X12_signToken) (fun y => none) (fun y => (sh, ex, R, y)) (hE _ _ sk_12) ⟨by decide, rfl⟩ mm_X12_signToken wm_12_214 ⟨rfl, rfl, by decide, by decide, by decide, by decide⟩ (Nat.le_of_ble_eq_true rfl) dX12_token_278 (fun y hy => c_X12_signToken hE hL y hy) (fun x17 => ?_)
      exact S_vret dX12_token_281 rfl (by decide) (by decide) (fun K hK => hK)
    refine Seg.step (pc' := 204) (I_aload_n (i := 0) dX12_token_203 rfl rfl) ?_
    refine Seg.step (pc' := 205) (I_iconst dX12_token_204 ⟨by decide, by decide⟩) ?_
    refine Seg.step (pc' := 208) (I_putI cls12 (by decide) wf_12_193 (hE _ _ sk_12) rfl rfl dX12_token_205) ?_
    refine S_bM fun M18 => ?_
    refine Seg.step (pc' := 209) (I_aload_n (i := 0) dX12_token_208 rfl rfl) ?_
    refine Seg.step (pc' := 210) (I_iconst dX12_token_209 ⟨by decide, by decide⟩) ?_
    refine Seg.step (pc' := 213) (I_putI cls12 (by decide) wf_12_204 (hE _ _ sk_12) rfl rfl dX12_token_210) ?_
    refine S_bM fun M19 => ?_
    refine Seg.forget (Lle.ye (Lle.nil)) ?_
    refine S_loop (Y := MM) (fun y => [some (rV 88)]) (fun y => []) (fun y => (sh, ex, R, y)) (fun x20 => ?_) FU M19
    refine Seg.step (pc' := 214) (I_aload_n (i := 0) dX12_token_213 rfl rfl) ?_
    refine Seg.step (pc' := 215) (I_aload_n (i := 0) dX12_token_214 rfl rfl) ?_
    refine Seg.step (pc' := 218) (I_getI cls12 (by decide) wf_12_190 (hE _ _ sk_12) rfl dX12_token_215) ?_
    refine S_callV1 (md' := m_X12_isDigit) (fun y => some (iV y)) (fun y => (sh, ex, R, x20)) (hE _ _ sk_12) ⟨by decide, rfl⟩ mm_X12_isDigit wm_12_210 ⟨rfl, rfl, by decide, by decide, by decide, by decide⟩ (Nat.le_of_ble_eq_true rfl) dX12_token_218 (fun y hy => c_X12_isDigit hE hL y hy) (fun x21 => ?_)
    refine S_if_eq (tgt := 281) dX12_token_221 (by decide) (fun h22 => ?_) (fun h22 => ?_)
    · exact S_vret dX12_token_281 rfl (by decide) (by decide) (fun K hK => hK)
    refine Seg.step (pc' := 225) (I_aload_n (i := 0) dX12_token_224 rfl rfl) ?_
    refine Seg.step (pc' := 226) (I_aload_n (i := 0) dX12_token_225 rfl rfl) ?_
    refine Seg.step (pc' := 229) (I_getI cls12 (by decide) wf_12_204 (hE _ _ sk_12) rfl dX12_token_226) ?_
    refine Seg.step (pc' := 231) (I_ldc (z := 99999) dX12_token_229 wk_12_213 ⟨by decide, by decide⟩) ?_
    refine S_bind (Y := Int) (k' := 0) (n' := 0) 261 (fun y => [some (rV 88)]) (fun y => [iV y, rV 88]) (fun y => (sh, ex, R, x20)) ?_ (fun x25 => ?_)
    · refine S_icmp_le (tgt := 241) dX12_token_231 (by decide) (fun h23 => ?_) (fun h23 => ?_)
      · refine Seg.step (pc' := 235) (I_aload_n (i := 0) dX12_token_234 rfl rfl) ?_
        refine Seg.step (pc' := 238) (I_getI cls12 (by decide) wf_12_204 (hE _ _ sk_12) rfl dX12_token_235) ?_
        refine Seg.step (pc' := 261) (I_goto (tgt := 261) dX12_token_238 (by decide)) ?_
        exact S_arr (fun K hK => GG.forget (Lle.ye (Lle.nil)) hK)
      refine Seg.step (pc' := 243) (I_bipush dX12_token_241 (by decide) ⟨by decide, by decide⟩) ?_
      refine Seg.step (pc' := 244) (I_aload_n (i := 0) dX12_token_243 rfl rfl) ?_
      refine Seg.step (pc' := 247) (I_getI cls12 (by decide) wf_12_204 (hE _ _ sk_12) rfl dX12_token_244) ?_
      refine Seg.step (pc' := 248) (I_imul dX12_token_247) ?_
      refine Seg.step (pc' := 249) (I_aload_n (i := 0) dX12_token_248 rfl rfl) ?_
      refine Seg.step (pc' := 252) (I_getR cls12 (by decide) wf_12_7 (hE _ _ sk_12) rfl (lk_12_0 hL) dX12_token_249) ?_
      refine Seg.step (pc' := 253) (I_aload_n (i := 0) dX12_token_252 rfl rfl) ?_
      refine Seg.step (pc' := 256) (I_getI cls12 (by decide) wf_12_190 (hE _ _ sk_12) rfl dX12_token_253) ?_
      refine S_gd fun h24 => ?_
      refine Seg.step (pc' := 257) (I_iald (hE _ _ sk_12_0) h24 dX12_token_256) ?_
      refine Seg.step (pc' := 258) (I_iadd dX12_token_257) ?_
      refine Seg.step (pc' := 260) (I_bipush dX12_token_258 (by decide) ⟨by decide, by decide⟩) ?_
      refine Seg.step (pc' := 261) (I_isub dX12_token_260) ?_
      exact S_arr (fun K hK => GG.forget (Lle.ye (Lle.nil)) hK)
    refine Seg.step (pc' := 264) (I_putI cls12 (by decide) wf_12_204 (hE _ _ sk_12) rfl rfl dX12_token_261) ?_
    refine S_bM fun M26 => ?_
    refine Seg.step (pc' := 265) (I_aload_n (i := 0) dX12_token_264 rfl rfl) ?_
    refine Seg.step (pc' := 266) (I_dup dX12_token_265 (fun _ h => by cases h)) ?_
    refine Seg.step (pc' := 269) (I_getI cls12 (by decide) wf_12_190 (hE _ _ sk_12) rfl dX12_token_266) ?_
    refine Seg.step (pc' := 270) (I_iconst dX12_token_269 ⟨by decide, by decide⟩) ?_
    refine Seg.step (pc' := 271) (I_iadd dX12_token_270) ?_
    refine Seg.step (pc' := 274) (I_putI cls12 (by decide) wf_12_190 (hE _ _ sk_12) rfl rfl dX12_token_271) ?_
    refine S_bM fun M27 => ?_
    refine Seg.step (pc' := 213) (I_goto (tgt := 213) dX12_token_274 (by decide)) ?_
    exact S_arr (fun K hK => GG.forget (Lle.ye (Lle.nil)) hK)
  refine Seg.forget (Lle.ye (Lle.nil)) ?_
  refine S_bind (Y := MM) (k' := 0) (n' := 0) 114 (fun y => [some (rV 88)]) (fun y => []) (fun y => (sh, ex, R, y)) (S_loop (Y := MM) (fun y => [some (rV 88)]) (fun y => []) (fun y => (sh, ex, R, y)) (fun x28 => ?_) FU M10) (fun x32 => ?_)
  · refine Seg.step (pc' := 91) (I_aload_n (i := 0) dX12_token_90 rfl rfl) ?_
    refine Seg.step (pc' := 92) (I_aload_n (i := 0) dX12_token_91 rfl rfl) ?_
    refine Seg.step (pc' := 95) (I_getI cls12 (by decide) wf_12_190 (hE _ _ sk_12) rfl dX12_token_92) ?_
    refine S_callV1 (md' := m_X12_isSmall) (fun y => some (iV y)) (fun y => (sh, ex, R, x28)) (hE _ _ sk_12) ⟨by decide, rfl⟩ mm_X12_isSmall wm_12_196 ⟨rfl, rfl, by decide, by decide, by decide, by decide⟩ (Nat.le_of_ble_eq_true rfl) dX12_token_95 (fun y hy => c_X12_isSmall hE hL y hy) (fun x29 => ?_)
    refine S_if_eq (tgt := 114) dX12_token_98 (by decide) (fun h30 => ?_) (fun h30 => ?_)
    · exact S_arr (fun K hK => GG.forget (Lle.ye (Lle.nil)) hK)
    refine Seg.step (pc' := 102) (I_aload_n (i := 0) dX12_token_101 rfl rfl) ?_
    refine Seg.step (pc' := 103) (I_dup dX12_token_102 (fun _ h => by cases h)) ?_
    refine Seg.step (pc' := 106) (I_getI cls12 (by decide) wf_12_190 (hE _ _ sk_12) rfl dX12_token_103) ?_
    refine Seg.step (pc' := 107) (I_iconst dX12_token_106 ⟨by decide, by decide⟩) ?_
    refine Seg.step (pc' := 108) (I_iadd dX12_token_107) ?_
    refine Seg.step (pc' := 111) (I_putI cls12 (by decide) wf_12_190 (hE _ _ sk_12) rfl rfl dX12_token_108) ?_
    refine S_bM fun M31 => ?_
    refine Seg.step (pc' := 90) (I_goto (tgt := 90) dX12_token_111 (by decide)) ?_
    exact S_arr (fun K hK => GG.forget (Lle.ye (Lle.nil)) hK)
  refine Seg.step (pc' := 115) (I_aload_n (i := 0) dX12_token_114 rfl rfl) ?_
  refine Seg.step (pc' := 116) (I_aload_n (i := 0) dX12_token_115 rfl rfl) ?_
  refine Seg.step (pc' := 117) (I_aload_n (i := 0) dX12_token_116 rfl rfl) ?_
  refine Seg.step (pc' := 120) (I_getI cls12 (by decide) wf_12_184 (hE _ _ sk_12) rfl dX12_token_117) ?_
  refine Seg.step (pc' := 121) (I_aload_n (i := 0) dX12_token_120 rfl rfl) ?_
  refine Seg.step (pc' := 124) (I_getI cls12 (by decide) wf_12_190 (hE _ _ sk_12) rfl dX12_token_121) ?_
  refine S_callV2 (md' := m_X12_wordAt) (fun y => some (iV y)) (fun y => (sh, ex, R, x32)) (hE _ _ sk_12) ⟨by decide, rfl⟩ mm_X12_wordAt wm_12_200 ⟨rfl, rfl, by decide, by decide, by decide, by decide⟩ (Nat.le_of_ble_eq_true rfl) dX12_token_124 (fun y hy => c_X12_wordAt hE hL y hy) (fun x33 => ?_)
  refine Seg.step (pc' := 130) (I_putI cls12 (by decide) wf_12_204 (hE _ _ sk_12) rfl rfl dX12_token_127) ?_
  refine S_bM fun M34 => ?_
  refine Seg.step (pc' := 131) (I_aload_n (i := 0) dX12_token_130 rfl rfl) ?_
  refine Seg.step (pc' := 132) (I_aload_n (i := 0) dX12_token_131 rfl rfl) ?_
  refine Seg.step (pc' := 135) (I_getI cls12 (by decide) wf_12_204 (hE _ _ sk_12) rfl dX12_token_132) ?_
  refine S_bind (Y := Int) (k' := 0) (n' := 0) 162 (fun y => [some (rV 88)]) (fun y => [iV y, rV 88]) (fun y => (sh, ex, R, M34)) ?_ (fun x37 => ?_)
  · refine S_if_lt (tgt := 142) dX12_token_135 (by decide) (fun h35 => ?_) (fun h35 => ?_)
    · refine Seg.step (pc' := 143) (I_aload_n (i := 0) dX12_token_142 rfl rfl) ?_
      refine Seg.step (pc' := 146) (I_getI cls12 (by decide) wf_12_190 (hE _ _ sk_12) rfl dX12_token_143) ?_
      refine Seg.step (pc' := 147) (I_aload_n (i := 0) dX12_token_146 rfl rfl) ?_
      refine Seg.step (pc' := 150) (I_getI cls12 (by decide) wf_12_184 (hE _ _ sk_12) rfl dX12_token_147) ?_
      refine Seg.step (pc' := 151) (I_isub dX12_token_150) ?_
      refine Seg.step (pc' := 153) (I_bipush dX12_token_151 (by decide) ⟨by decide, by decide⟩) ?_
      refine S_icmp_le (tgt := 161) dX12_token_153 (by decide) (fun h36 => ?_) (fun h36 => ?_)
      · refine Seg.step (pc' := 158) (I_bipush dX12_token_156 (by decide) ⟨by decide, by decide⟩) ?_
        refine Seg.step (pc' := 162) (I_goto (tgt := 162) dX12_token_158 (by decide)) ?_
        exact S_arr (fun K hK => GG.forget (Lle.ye (Lle.nil)) hK)
      refine Seg.step (pc' := 162) (I_iconst dX12_token_161 ⟨by decide, by decide⟩) ?_
      exact S_arr (fun K hK => GG.forget (Lle.ye (Lle.nil)) hK)
    refine Seg.step (pc' := 139) (I_iconst dX12_token_138 ⟨by decide, by decide⟩) ?_
    refine Seg.step (pc' := 162) (I_goto (tgt := 162) dX12_token_139 (by decide)) ?_
    exact S_arr (fun K hK => GG.forget (Lle.ye (Lle.nil)) hK)
  refine Seg.step (pc' := 165) (I_putI cls12 (by decide) wf_12_193 (hE _ _ sk_12) rfl rfl dX12_token_162) ?_
  refine S_bM fun M38 => ?_
  refine Seg.step (pc' := 166) (I_aload_n (i := 0) dX12_token_165 rfl rfl) ?_
  refine Seg.step (pc' := 169) (I_getI cls12 (by decide) wf_12_193 (hE _ _ sk_12) rfl dX12_token_166) ?_
  refine Seg.step (pc' := 170) (I_iconst dX12_token_169 ⟨by decide, by decide⟩) ?_
  refine S_icmp_ne (tgt := 281) dX12_token_170 (by decide) (fun h39 => ?_) (fun h39 => ?_)
  · refine Seg.step (pc' := 174) (I_aload_n (i := 0) dX12_token_173 rfl rfl) ?_
    refine Seg.step (pc' := 175) (I_aload_n (i := 0) dX12_token_174 rfl rfl) ?_
    refine Seg.step (pc' := 176) (I_aload_n (i := 0) dX12_token_175 rfl rfl) ?_
    refine Seg.step (pc' := 179) (I_getI cls12 (by decide) wf_12_184 (hE _ _ sk_12) rfl dX12_token_176) ?_
    refine Seg.step (pc' := 180) (I_aload_n (i := 0) dX12_token_179 rfl rfl) ?_
    refine Seg.step (pc' := 183) (I_getI cls12 (by decide) wf_12_190 (hE _ _ sk_12) rfl dX12_token_180) ?_
    refine S_callV2 (md' := m_X12_packed) (fun y => some (iV y)) (fun y => (sh, ex, R, M38)) (hE _ _ sk_12) ⟨by decide, rfl⟩ mm_X12_packed wm_12_207 ⟨rfl, rfl, by decide, by decide, by decide, by decide⟩ (Nat.le_of_ble_eq_true rfl) dX12_token_183 (fun y hy => c_X12_packed hE hL y hy) (fun x40 => ?_)
    refine Seg.step (pc' := 189) (I_putI cls12 (by decide) wf_12_204 (hE _ _ sk_12) rfl rfl dX12_token_186) ?_
    refine S_bM fun M41 => ?_
    refine Seg.step (pc' := 281) (I_goto (tgt := 281) dX12_token_189 (by decide)) ?_
    exact S_vret dX12_token_281 rfl (by decide) (by decide) (fun K hK => hK)
  exact S_vret dX12_token_281 rfl (by decide) (by decide) (fun K hK => hK)
theorem dX12_isKey_0 : decode cX12_isKey 0 = .ok (.aload_n 0, 1) := by decide +kernel
theorem dX12_isKey_1 : decode cX12_isKey 1 = .ok (.getfield 193, 3) := by decide +kernel
theorem dX12_isKey_4 : decode cX12_isKey 4 = .ok (.iconst 1, 1) := by decide +kernel
theorem dX12_isKey_5 : decode cX12_isKey 5 = .ok (.if_icmp .ne 15, 3) := by decide +kernel
theorem dX12_isKey_8 : decode cX12_isKey 8 = .ok (.aload_n 0, 1) := by decide +kernel
theorem dX12_isKey_9 : decode cX12_isKey 9 = .ok (.getfield 204, 3) := by decide +kernel
theorem dX12_isKey_12 : decode cX12_isKey 12 = .ok (.iload_n 1, 1) := by decide +kernel
theorem dX12_isKey_13 : decode cX12_isKey 13 = .ok (.if_icmp .ne 7, 3) := by decide +kernel
theorem dX12_isKey_16 : decode cX12_isKey 16 = .ok (.iconst 1, 1) := by decide +kernel
theorem dX12_isKey_17 : decode cX12_isKey 17 = .ok (.goto 4, 3) := by decide +kernel
theorem dX12_isKey_20 : decode cX12_isKey 20 = .ok (.iconst 0, 1) := by decide +kernel
theorem dX12_isKey_21 : decode cX12_isKey 21 = .ok (.ireturn, 1) := by decide +kernel
def f_X12_isKey (M : MM) (p1 : Int) : Option (Int) :=
if (M 88 8) = 1 then
(if (M 88 9) = p1 then
(some 1)
else
some 0)
else
some 0
set_option maxRecDepth 4000 in
theorem c_X12_isKey {E : EE} {sh : List (Nat × Nat)} {ex : Bool} {R : RM} {M : MM} {p1 : Int} (hE : Ext sh) (hL : Links R) : ∀ y, f_X12_isKey M p1 = some y → MetC E m_X12_isKey 0 0 [rV 88, iV p1] (sh, ex, R, M) (fun r w' => r = some (iV y) ∧ w' = (sh, ex, R, M)) := by
  intro y hy
  refine MetC.seg (o := f_X12_isKey M p1) (t := (fun K y => K (some (iV y)) (sh, ex, R, M))) (L := [some (rV 88), some (iV p1)]) (by decide) rfl (Nat.le_of_ble_eq_true rfl) ?_ hy ⟨rfl, rfl⟩
  unfold f_X12_isKey
  refine Seg.step (pc' := 1) (I_aload_n (i := 0) dX12_isKey_0 rfl rfl) ?_
  refine Seg.step (pc' := 4) (I_getI cls12 (by decide) wf_12_193 (hE _ _ sk_12) rfl dX12_isKey_1) ?_
  refine Seg.step (pc' := 5) (I_iconst dX12_isKey_4 ⟨by decide, by decide⟩) ?_
  refine S_icmp_ne (tgt := 20) dX12_isKey_5 (by decide) (fun h1 => ?_) (fun h1 => ?_)
  · refine Seg.step (pc' := 9) (I_aload_n (i := 0) dX12_isKey_8 rfl rfl) ?_
    refine Seg.step (pc' := 12) (I_getI cls12 (by decide) wf_12_204 (hE _ _ sk_12) rfl dX12_isKey_9) ?_
    refine Seg.step (pc' := 13) (I_iload_n (i := 1) dX12_isKey_12 rfl rfl) ?_
    refine S_icmp_ne (tgt := 20) dX12_isKey_13 (by decide) (fun h2 => ?_) (fun h2 => ?_)
    · refine Seg.step (pc' := 17) (I_iconst dX12_isKey_16 ⟨by decide, by decide⟩) ?_
      refine Seg.step (pc' := 21) (I_goto (tgt := 21) dX12_isKey_17 (by decide)) ?_
      exact S_zret dX12_isKey_21 rfl (by decide) (by decide) (by decide) (fun K hK => hK)
    refine Seg.step (pc' := 21) (I_iconst dX12_isKey_20 ⟨by decide, by decide⟩) ?_
    exact S_zret dX12_isKey_21 rfl (by decide) (by decide) (by decide) (fun K hK => hK)
  refine Seg.step (pc' := 21) (I_iconst dX12_isKey_20 ⟨by decide, by decide⟩) ?_
  exact S_zret dX12_isKey_21 rfl (by decide) (by decide) (by decide) (fun K hK => hK)
theorem dX12_isSign_0 : decode cX12_isSign 0 = .ok (.aload_n 0, 1) := by decide +kernel
theorem dX12_isSign_1 : decode cX12_isSign 1 = .ok (.getfield 193, 3) := by decide +kernel
theorem dX12_isSign_4 : decode cX12_isSign 4 = .ok (.iconst 4, 1) := by decide +kernel
theorem dX12_isSign_5 : decode cX12_isSign 5 = .ok (.if_icmp .ne 15, 3) := by decide +kernel
theorem dX12_isSign_8 : decode cX12_isSign 8 = .ok (.aload_n 0, 1) := by decide +kernel
theorem dX12_isSign_9 : decode cX12_isSign 9 = .ok (.getfield 204, 3) := by decide +kernel
theorem dX12_isSign_12 : decode cX12_isSign 12 = .ok (.iload_n 1, 1) := by decide +kernel
theorem dX12_isSign_13 : decode cX12_isSign 13 = .ok (.if_icmp .ne 7, 3) := by decide +kernel
theorem dX12_isSign_16 : decode cX12_isSign 16 = .ok (.iconst 1, 1) := by decide +kernel
theorem dX12_isSign_17 : decode cX12_isSign 17 = .ok (.goto 4, 3) := by decide +kernel
theorem dX12_isSign_20 : decode cX12_isSign 20 = .ok (.iconst 0, 1) := by decide +kernel
theorem dX12_isSign_21 : decode cX12_isSign 21 = .ok (.ireturn, 1) := by decide +kernel
def f_X12_isSign (M : MM) (p1 : Int) : Option (Int) :=
if (M 88 8) = 4 then
(if (M 88 9) = p1 then
(some 1)
else
some 0)
else
some 0
set_option maxRecDepth 4000 in
theorem c_X12_isSign {E : EE} {sh : List (Nat × Nat)} {ex : Bool} {R : RM} {M : MM} {p1 : Int} (hE : Ext sh) (hL : Links R) : ∀ y, f_X12_isSign M p1 = some y → MetC E m_X12_isSign 0 0 [rV 88, iV p1] (sh, ex, R, M) (fun r w' => r = some (iV y) ∧ w' = (sh, ex, R, M)) := by
  intro y hy
  refine MetC.seg (o := f_X12_isSign M p1) (t := (fun K y => K (some (iV y)) (sh, ex, R, M))) (L := [some (rV 88), some (iV p1)]) (by decide) rfl (Nat.le_of_ble_eq_true rfl) ?_ hy ⟨rfl, rfl⟩
  unfold f_X12_isSign
  refine Seg.step (pc' := 1) (I_aload_n (i := 0) dX12_isSign_0 rfl rfl) ?_
  refine Seg.step (pc' := 4) (I_getI cls12 (by decide) wf_12_193 (hE _ _ sk_12) rfl dX12_isSign_1) ?_
  refine Seg.step (pc' := 5) (I_iconst dX12_isSign_4 ⟨by decide, by decide⟩) ?_
  refine S_icmp_ne (tgt := 20) dX12_isSign_5 (by decide) (fun h1 => ?_) (fun h1 => ?_)
  · refine Seg.step (pc' := 9) (I_aload_n (i := 0) dX12_isSign_8 rfl rfl) ?_
    refine Seg.step (pc' := 12) (I_getI cls12 (by decide) wf_12_204 (hE _ _ sk_12) rfl dX12_isSign_9) ?_
    refine Seg.step (pc' := 13) (I_iload_n (i := 1) dX12_isSign_12 rfl rfl) ?_
    refine S_icmp_ne (tgt := 20) dX12_isSign_13 (by decide) (fun h2 => ?_) (fun h2 => ?_)
    · refine Seg.step (pc' := 17) (I_iconst dX12_isSign_16 ⟨by decide, by decide⟩) ?_
      refine Seg.step (pc' := 21) (I_goto (tgt := 21) dX12_isSign_17 (by decide)) ?_
      exact S_zret dX12_isSign_21 rfl (by decide) (by decide) (by decide) (fun K hK => hK)
    refine Seg.step (pc' := 21) (I_iconst dX12_isSign_20 ⟨by decide, by decide⟩) ?_
    exact S_zret dX12_isSign_21 rfl (by decide) (by decide) (by decide) (fun K hK => hK)
  refine Seg.step (pc' := 21) (I_iconst dX12_isSign_20 ⟨by decide, by decide⟩) ?_
  exact S_zret dX12_isSign_21 rfl (by decide) (by decide) (by decide) (fun K hK => hK)
theorem dX12_number_0 : decode cX12_number 0 = .ok (.aload_n 0, 1) := by decide +kernel
theorem dX12_number_1 : decode cX12_number 1 = .ok (.getfield 193, 3) := by decide +kernel
theorem dX12_number_4 : decode cX12_number 4 = .ok (.iconst 3, 1) := by decide +kernel
theorem dX12_number_5 : decode cX12_number 5 = .ok (.if_icmp .eq 9, 3) := by decide +kernel
theorem dX12_number_8 : decode cX12_number 8 = .ok (.aload_n 0, 1) := by decide +kernel
theorem dX12_number_9 : decode cX12_number 9 = .ok (.iconst 1, 1) := by decide +kernel
theorem dX12_number_10 : decode cX12_number 10 = .ok (.invokevirtual 217, 3) := by decide +kernel
theorem dX12_number_13 : decode cX12_number 13 = .ok (.ireturn, 1) := by decide +kernel
theorem dX12_number_14 : decode cX12_number 14 = .ok (.aload_n 0, 1) := by decide +kernel
theorem dX12_number_15 : decode cX12_number 15 = .ok (.getfield 204, 3) := by decide +kernel
theorem dX12_number_18 : decode cX12_number 18 = .ok (.iload_n 1, 1) := by decide +kernel
theorem dX12_number_19 : decode cX12_number 19 = .ok (.iload_n 2, 1) := by decide +kernel
theorem dX12_number_20 : decode cX12_number 20 = .ok (.invokestatic 220, 3) := by decide +kernel
theorem dX12_number_23 : decode cX12_number 23 = .ok (.ifCond .ne 9, 3) := by decide +kernel
theorem dX12_number_26 : decode cX12_number 26 = .ok (.aload_n 0, 1) := by decide +kernel
theorem dX12_number_27 : decode cX12_number 27 = .ok (.iconst 2, 1) := by decide +kernel
theorem dX12_number_28 : decode cX12_number 28 = .ok (.invokevirtual 217, 3) := by decide +kernel
theorem dX12_number_31 : decode cX12_number 31 = .ok (.ireturn, 1) := by decide +kernel
theorem dX12_number_32 : decode cX12_number 32 = .ok (.aload_n 0, 1) := by decide +kernel
theorem dX12_number_33 : decode cX12_number 33 = .ok (.aload_n 0, 1) := by decide +kernel
theorem dX12_number_34 : decode cX12_number 34 = .ok (.getfield 204, 3) := by decide +kernel
theorem dX12_number_37 : decode cX12_number 37 = .ok (.putfield 224, 3) := by decide +kernel
theorem dX12_number_40 : decode cX12_number 40 = .ok (.aload_n 0, 1) := by decide +kernel
theorem dX12_number_41 : decode cX12_number 41 = .ok (.invokevirtual 227, 3) := by decide +kernel
theorem dX12_number_44 : decode cX12_number 44 = .ok (.iconst 1, 1) := by decide +kernel
theorem dX12_number_45 : decode cX12_number 45 = .ok (.ireturn, 1) := by decide +kernel
def f_X12_number (M : MM) (p1 : Int) (p2 : Int) : Option (Int × MM) :=
if (M 88 8) = 3 then
((f_X12_isIn M (M 88 9) p1 p2).bind fun x2 =>
if x2 = 0 then
((f_X12_wrong M 2).bind fun x4 =>
gd (x4.1 = 0 ∨ x4.1 = 1) <|
some (x4.1, x4.2))
else
bM (upM M 88 11 (M 88 9)) fun M6 =>
(f_X12_token M6).bind fun x7 =>
some (1, x7))
else
(f_X12_wrong M 1).bind fun x8 =>
gd (x8.1 = 0 ∨ x8.1 = 1) <|
some (x8.1, x8.2)
set_option maxRecDepth 4000 in
theorem c_X12_number {E : EE} {sh : List (Nat × Nat)} {ex : Bool} {R : RM} {M : MM} {p1 : Int} {p2 : Int} (hE : Ext sh) (hL : Links R) : ∀ y, f_X12_number M p1 p2 = some y → MetC E m_X12_number 0 0 [rV 88, iV p1, iV p2] (sh, ex, R, M) (fun r w' => r = some (iV y.1) ∧ w' = (sh, ex, R, y.2)) := by
  intro y hy
  refine MetC.seg (o := f_X12_number M p1 p2) (t := (fun K y => K (some (iV y.1)) (sh, ex, R, y.2))) (L := [some (rV 88), some (iV p1), some (iV p2)]) (by decide) rfl (Nat.le_of_ble_eq_true rfl) ?_ hy ⟨rfl, rfl⟩
  unfold f_X12_number
  refine Seg.step (pc' := 1) (I_aload_n (i := 0) dX12_number_0 rfl rfl) ?_
  refine Seg.step (pc' := 4) (I_getI cls12 (by decide) wf_12_193 (hE _ _ sk_12) rfl dX12_number_1) ?_
  refine Seg.step (pc' := 5) (I_iconst dX12_number_4 ⟨by decide, by decide⟩) ?_
  refine S_icmp_eq (tgt := 14) dX12_number_5 (by decide) (fun h1 => ?_) (fun h1 => ?_)
  · refine Seg.step (pc' := 15) (I_aload_n (i := 0) dX12_number_14 rfl rfl) ?_
    refine Seg.step (pc' := 18) (I_getI cls12 (by decide) wf_12_204 (hE _ _ sk_12) rfl dX12_number_15) ?_
    refine Seg.step (pc' := 19) (I_iload_n (i := 1) dX12_number_18 rfl rfl) ?_
    refine Seg.step (pc' := 20) (I_iload_n (i := 2) dX12_number_19 rfl rfl) ?_
    refine S_callS3 (md' := m_X12_isIn) (fun y => some (iV y)) (fun y => (sh, ex, R, M)) mm_X12_isIn wm_12_220 ⟨rfl, rfl, by decide, by decide, by decide, by decide⟩ (Nat.le_of_ble_eq_true rfl) dX12_number_20 (fun y hy => c_X12_isIn hE hL y hy) (fun x2 => ?_)
    refine S_if_ne (tgt := 32) dX12_number_23 (by decide) (fun h3 => ?_) (fun h3 => ?_)
    · refine Seg.step (pc' := 27) (I_aload_n (i := 0) dX12_number_26 rfl rfl) ?_
      refine Seg.step (pc' := 28) (I_iconst dX12_number_27 ⟨by decide, by decide⟩) ?_
      refine S_callV1 (md' := m_X12_wrong) (fun y => some (iV y.1)) (fun y => (sh, ex, R, y.2)) (hE _ _ sk_12) ⟨by decide, rfl⟩ mm_X12_wrong wm_12_217 ⟨rfl, rfl, by decide, by decide, by decide, by decide⟩ (Nat.le_of_ble_eq_true rfl) dX12_number_28 (fun y hy => c_X12_wrong hE hL y hy) (fun x4 => ?_)
      refine S_gd fun h5 => ?_
      exact S_zret dX12_number_31 rfl h5 (by decide) (by decide) (fun K hK => hK)
    refine Seg.step (pc' := 33) (I_aload_n (i := 0) dX12_number_32 rfl rfl) ?_
    refine Seg.step (pc' := 34) (I_aload_n (i := 0) dX12_number_33 rfl rfl) ?_
    refine Seg.step (pc' := 37) (I_getI cls12 (by decide) wf_12_204 (hE _ _ sk_12) rfl dX12_number_34) ?_
    refine Seg.step (pc' := 40) (I_putI cls12 (by decide) wf_12_224 (hE _ _ sk_12) rfl rfl dX12_number_37) ?_
    refine S_bM fun M6 => ?_
    refine Seg.step (pc' := 41) (I_aload_n (i := 0) dX12_number_40 rfl rfl) ?_
    refine S_callV0 (md' := m_X12_token) (fun y => none) (fun y => (sh, ex, R, y)) (hE _ _ sk_12) ⟨by decide, rfl⟩ mm_X12_token wm_12_227 ⟨rfl, rfl, by decide, by decide, by decide, by decide⟩ (Nat.le_of_ble_eq_true rfl) dX12_number_41 (fun y hy => c_X12_token hE hL y hy) (fun x7 => ?_)
    refine Seg.step (pc' := 45) (I_iconst dX12_number_44 ⟨by decide, by decide⟩) ?_
    exact S_zret dX12_number_45 rfl (by decide) (by decide) (by decide) (fun K hK => hK)
  refine Seg.step (pc' := 9) (I_aload_n (i := 0) dX12_number_8 rfl rfl) ?_
  refine Seg.step (pc' := 10) (I_iconst dX12_number_9 ⟨by decide, by decide⟩) ?_
  refine S_callV1 (md' := m_X12_wrong) (fun y => some (iV y.1)) (fun y => (sh, ex, R, y.2)) (hE _ _ sk_12) ⟨by decide, rfl⟩ mm_X12_wrong wm_12_217 ⟨rfl, rfl, by decide, by decide, by decide, by decide⟩ (Nat.le_of_ble_eq_true rfl) dX12_number_10 (fun y hy => c_X12_wrong hE hL y hy) (fun x8 => ?_)
  refine S_gd fun h9 => ?_
  exact S_zret dX12_number_13 rfl h9 (by decide) (by decide) (fun K hK => hK)
theorem dX12_plain_0 : decode cX12_plain 0 = .ok (.aload_n 0, 1) := by decide +kernel
theorem dX12_plain_1 : decode cX12_plain 1 = .ok (.iconst 0, 1) := by decide +kernel
theorem dX12_plain_2 : decode cX12_plain 2 = .ok (.putfield 237, 3) := by decide +kernel
theorem dX12_plain_5 : decode cX12_plain 5 = .ok (.aload_n 0, 1) := by decide +kernel
theorem dX12_plain_6 : decode cX12_plain 6 = .ok (.iconst 0, 1) := by decide +kernel
theorem dX12_plain_7 : decode cX12_plain 7 = .ok (.putfield 240, 3) := by decide +kernel
theorem dX12_plain_10 : decode cX12_plain 10 = .ok (.aload_n 0, 1) := by decide +kernel
theorem dX12_plain_11 : decode cX12_plain 11 = .ok (.iconst 0, 1) := by decide +kernel
theorem dX12_plain_12 : decode cX12_plain 12 = .ok (.putfield 243, 3) := by decide +kernel
theorem dX12_plain_15 : decode cX12_plain 15 = .ok (.aload_n 0, 1) := by decide +kernel
theorem dX12_plain_16 : decode cX12_plain 16 = .ok (.iconst 0, 1) := by decide +kernel
theorem dX12_plain_17 : decode cX12_plain 17 = .ok (.putfield 246, 3) := by decide +kernel
theorem dX12_plain_20 : decode cX12_plain 20 = .ok (.aload_n 0, 1) := by decide +kernel
theorem dX12_plain_21 : decode cX12_plain 21 = .ok (.iconst 0, 1) := by decide +kernel
theorem dX12_plain_22 : decode cX12_plain 22 = .ok (.putfield 249, 3) := by decide +kernel
theorem dX12_plain_25 : decode cX12_plain 25 = .ok (.aload_n 0, 1) := by decide +kernel
theorem dX12_plain_26 : decode cX12_plain 26 = .ok (.iconst 0, 1) := by decide +kernel
theorem dX12_plain_27 : decode cX12_plain 27 = .ok (.putfield 252, 3) := by decide +kernel
theorem dX12_plain_30 : decode cX12_plain 30 = .ok (.iconst 0, 1) := by decide +kernel
theorem dX12_plain_31 : decode cX12_plain 31 = .ok (.istore_n 1, 1) := by decide +kernel
theorem dX12_plain_32 : decode cX12_plain 32 = .ok (.iload_n 1, 1) := by decide +kernel
theorem dX12_plain_33 : decode cX12_plain 33 = .ok (.iconst 2, 1) := by decide +kernel
theorem dX12_plain_34 : decode cX12_plain 34 = .ok (.if_icmp .ge 16, 3) := by decide +kernel
theorem dX12_plain_37 : decode cX12_plain 37 = .ok (.aload_n 0, 1) := by decide +kernel
theorem dX12_plain_38 : decode cX12_plain 38 = .ok (.getfield 20, 3) := by decide +kernel
theorem dX12_plain_41 : decode cX12_plain 41 = .ok (.iload_n 1, 1) := by decide +kernel
theorem dX12_plain_42 : decode cX12_plain 42 = .ok (.iconst 0, 1) := by decide +kernel
theorem dX12_plain_43 : decode cX12_plain 43 = .ok (.bastore, 1) := by decide +kernel
theorem dX12_plain_44 : decode cX12_plain 44 = .ok (.iinc 1 1, 3) := by decide +kernel
theorem dX12_plain_47 : decode cX12_plain 47 = .ok (.goto (-15), 3) := by decide +kernel
theorem dX12_plain_50 : decode cX12_plain 50 = .ok (.aload_n 0, 1) := by decide +kernel
theorem dX12_plain_51 : decode cX12_plain 51 = .ok (.getfield 24, 3) := by decide +kernel
theorem dX12_plain_54 : decode cX12_plain 54 = .ok (.iconst 3, 1) := by decide +kernel
theorem dX12_plain_55 : decode cX12_plain 55 = .ok (.bipush 20, 2) := by decide +kernel
theorem dX12_plain_57 : decode cX12_plain 57 = .ok (.iastore, 1) := by decide +kernel
theorem dX12_plain_58 : decode cX12_plain 58 = .ok (.aload_n 0, 1) := by decide +kernel
theorem dX12_plain_59 : decode cX12_plain 59 = .ok (.getfield 24, 3) := by decide +kernel
theorem dX12_plain_62 : decode cX12_plain 62 = .ok (.iconst 4, 1) := by decide +kernel
theorem dX12_plain_63 : decode cX12_plain 63 = .ok (.iconst 0, 1) := by decide +kernel
theorem dX12_plain_64 : decode cX12_plain 64 = .ok (.iastore, 1) := by decide +kernel
theorem dX12_plain_65 : decode cX12_plain 65 = .ok (.aload_n 0, 1) := by decide +kernel
theorem dX12_plain_66 : decode cX12_plain 66 = .ok (.getfield 24, 3) := by decide +kernel
theorem dX12_plain_69 : decode cX12_plain 69 = .ok (.iconst 5, 1) := by decide +kernel
theorem dX12_plain_70 : decode cX12_plain 70 = .ok (.iconst 3, 1) := by decide +kernel
theorem dX12_plain_71 : decode cX12_plain 71 = .ok (.iastore, 1) := by decide +kernel
theorem dX12_plain_72 : decode cX12_plain 72 = .ok (.iconst 3, 1) := by decide +kernel
theorem dX12_plain_73 : decode cX12_plain 73 = .ok (.istore_n 1, 1) := by decide +kernel
theorem dX12_plain_74 : decode cX12_plain 74 = .ok (.iload_n 1, 1) := by decide +kernel
theorem dX12_plain_75 : decode cX12_plain 75 = .ok (.bipush 6, 2) := by decide +kernel
theorem dX12_plain_77 : decode cX12_plain 77 = .ok (.if_icmp .ge 16, 3) := by decide +kernel
theorem dX12_plain_80 : decode cX12_plain 80 = .ok (.aload_n 0, 1) := by decide +kernel
theorem dX12_plain_81 : decode cX12_plain 81 = .ok (.getfield 66, 3) := by decide +kernel
theorem dX12_plain_84 : decode cX12_plain 84 = .ok (.iload_n 1, 1) := by decide +kernel
theorem dX12_plain_85 : decode cX12_plain 85 = .ok (.iconst 0, 1) := by decide +kernel
theorem dX12_plain_86 : decode cX12_plain 86 = .ok (.bastore, 1) := by decide +kernel
theorem dX12_plain_87 : decode cX12_plain 87 = .ok (.iinc 1 1, 3) := by decide +kernel
theorem dX12_plain_90 : decode cX12_plain 90 = .ok (.goto (-16), 3) := by decide +kernel
theorem dX12_plain_93 : decode cX12_plain 93 = .ok (.return_, 1) := by decide +kernel
def f_X12_plain (M : MM)  : Option (MM) :=
bM (upM M 88 17 0) fun M1 =>
bM (upM M1 88 18 0) fun M2 =>
bM (upM M2 88 19 0) fun M3 =>
bM (upM M3 88 20 0) fun M4 =>
bM (upM M4 88 21 0) fun M5 =>
bM (upM M5 88 48 0) fun M6 =>
(lp (X := Int × MM) (Y := MM) (fun x7 =>
if x7.1 < 2 then
(gd (0 ≤ x7.1 ∧ x7.1 < (2 : Int)) <|
bM (upM x7.2 91 (x7.1).toNat 0) fun M10 =>
some (Sum.inl (w32 (x7.1 + 1), M10)))
else
some (Sum.inr x7.2)) FU (0, M6)).bind fun x11 =>
bM (upM x11 92 3 20) fun M12 =>
bM (upM M12 92 4 0) fun M13 =>
bM (upM M13 92 5 3) fun M14 =>
lp (X := Int × MM) (Y := MM) (fun x15 =>
if x15.1 < 6 then
(gd (0 ≤ x15.1 ∧ x15.1 < (6 : Int)) <|
bM (upM x15.2 106 (x15.1).toNat 0) fun M18 =>
some (Sum.inl (w32 (x15.1 + 1), M18)))
else
some (Sum.inr x15.2)) FU (3, M14)
set_option maxRecDepth 4000 in
theorem c_X12_plain {E : EE} {sh : List (Nat × Nat)} {ex : Bool} {R : RM} {M : MM}  (hE : Ext sh) (hL : Links R) : ∀ y, f_X12_plain M = some y → MetC E m_X12_plain 0 0 [rV 88] (sh, ex, R, M) (fun r w' => r = none ∧ w' = (sh, ex, R, y)) := by
  intro y hy
  refine MetC.seg (o := f_X12_plain M) (t := (fun K y => K (none) (sh, ex, R, y))) (L := [some (rV 88), none]) (by decide) rfl (Nat.le_of_ble_eq_true rfl) ?_ hy ⟨rfl, rfl⟩
  unfold f_X12_plain
  refine Seg.step (pc' := 1) (I_aload_n (i := 0) dX12_plain_0 rfl rfl) ?_
  refine Seg.step (pc' := 2) (I_iconst dX12_plain_1 ⟨by decide, by decide⟩) ?_
  refine Seg.step (pc' := 5) (I_putI cls12 (by decide) wf_12_237 (hE _ _ sk_12) rfl rfl dX12_plain_2) ?_
  refine S_bM fun M1 => ?_
  refine Seg.step (pc' := 6) (I_aload_n (i := 0) dX12_plain_5 rfl rfl) ?_
  refine Seg.step (pc' := 7) (I_iconst dX12_plain_6 ⟨by decide, by decide⟩) ?_
  refine Seg.step (pc' := 10) (I_putI cls12 (by decide) wf_12_240 (hE _ _ sk_12) rfl rfl dX12_plain_7) ?_
  refine S_bM fun M2 => ?_
  refine Seg.step (pc' := 11) (I_aload_n (i := 0) dX12_plain_10 rfl rfl) ?_
  refine Seg.step (pc' := 12) (I_iconst dX12_plain_11 ⟨by decide, by decide⟩) ?_
  refine Seg.step (pc' := 15) (I_putI cls12 (by decide) wf_12_243 (hE _ _ sk_12) rfl rfl dX12_plain_12) ?_
  refine S_bM fun M3 => ?_
  refine Seg.step (pc' := 16) (I_aload_n (i := 0) dX12_plain_15 rfl rfl) ?_
  refine Seg.step (pc' := 17) (I_iconst dX12_plain_16 ⟨by decide, by decide⟩) ?_
  refine Seg.step (pc' := 20) (I_putI cls12 (by decide) wf_12_246 (hE _ _ sk_12) rfl rfl dX12_plain_17) ?_
  refine S_bM fun M4 => ?_
  refine Seg.step (pc' := 21) (I_aload_n (i := 0) dX12_plain_20 rfl rfl) ?_
  refine Seg.step (pc' := 22) (I_iconst dX12_plain_21 ⟨by decide, by decide⟩) ?_
  refine Seg.step (pc' := 25) (I_putI cls12 (by decide) wf_12_249 (hE _ _ sk_12) rfl rfl dX12_plain_22) ?_
  refine S_bM fun M5 => ?_
  refine Seg.step (pc' := 26) (I_aload_n (i := 0) dX12_plain_25 rfl rfl) ?_
  refine Seg.step (pc' := 27) (I_iconst dX12_plain_26 ⟨by decide, by decide⟩) ?_
  refine Seg.step (pc' := 30) (I_putI cls12 (by decide) wf_12_252 (hE _ _ sk_12) rfl rfl dX12_plain_27) ?_
  refine S_bM fun M6 => ?_
  refine Seg.step (pc' := 31) (I_iconst dX12_plain_30 ⟨by decide, by decide⟩) ?_
  refine Seg.step (pc' := 32) (I_istore_n (i := 1) dX12_plain_31 rfl (by decide) rfl) ?_
  refine Seg.forget (Lle.ye (Lle.ye (Lle.nil))) ?_
  refine S_bind (Y := MM) (k' := 0) (n' := 0) 50 (fun y => [some (rV 88), none]) (fun y => []) (fun y => (sh, ex, R, y)) (S_loop (Y := Int × MM) (fun y => [some (rV 88), some (iV y.1)]) (fun y => []) (fun y => (sh, ex, R, y.2)) (fun x7 => ?_) FU (0, M6)) (fun x11 => ?_)
  · refine Seg.step (pc' := 33) (I_iload_n (i := 1) dX12_plain_32 rfl rfl) ?_
    refine Seg.step (pc' := 34) (I_iconst dX12_plain_33 ⟨by decide, by decide⟩) ?_
    refine S_icmp_ge (tgt := 50) dX12_plain_34 (by decide) (fun h8 => ?_) (fun h8 => ?_)
    · refine Seg.step (pc' := 38) (I_aload_n (i := 0) dX12_plain_37 rfl rfl) ?_
      refine Seg.step (pc' := 41) (I_getR cls12 (by decide) wf_12_20 (hE _ _ sk_12) rfl (lk_12_22 hL) dX12_plain_38) ?_
      refine Seg.step (pc' := 42) (I_iload_n (i := 1) dX12_plain_41 rfl rfl) ?_
      refine Seg.step (pc' := 43) (I_iconst dX12_plain_42 ⟨by decide, by decide⟩) ?_
      refine S_gd fun h9 => ?_
      refine Seg.step (pc' := 44) (I_zast (hE _ _ sk_12_22) h9 (by decide) dX12_plain_43) ?_
      refine S_bM fun M10 => ?_
      refine Seg.step (pc' := 47) (I_iinc dX12_plain_44 rfl (by decide) rfl) ?_
      refine Seg.step (pc' := 32) (I_goto (tgt := 32) dX12_plain_47 (by decide)) ?_
      exact S_arr (fun K hK => GG.forget (Lle.ye (Lle.ye (Lle.nil))) hK)
    exact S_arr (fun K hK => GG.forget (Lle.ye (Lle.no (Lle.nil))) hK)
  refine Seg.step (pc' := 51) (I_aload_n (i := 0) dX12_plain_50 rfl rfl) ?_
  refine Seg.step (pc' := 54) (I_getR cls12 (by decide) wf_12_24 (hE _ _ sk_12) rfl (lk_12_23 hL) dX12_plain_51) ?_
  refine Seg.step (pc' := 55) (I_iconst dX12_plain_54 ⟨by decide, by decide⟩) ?_
  refine Seg.step (pc' := 57) (I_bipush dX12_plain_55 (by decide) ⟨by decide, by decide⟩) ?_
  refine Seg.step (pc' := 58) (I_iast (hE _ _ sk_12_23) ⟨by decide, by decide⟩ dX12_plain_57) ?_
  refine S_bM fun M12 => ?_
  refine Seg.step (pc' := 59) (I_aload_n (i := 0) dX12_plain_58 rfl rfl) ?_
  refine Seg.step (pc' := 62) (I_getR cls12 (by decide) wf_12_24 (hE _ _ sk_12) rfl (lk_12_23 hL) dX12_plain_59) ?_
  refine Seg.step (pc' := 63) (I_iconst dX12_plain_62 ⟨by decide, by decide⟩) ?_
  refine Seg.step (pc' := 64) (I_iconst dX12_plain_63 ⟨by decide, by decide⟩) ?_
  refine Seg.step (pc' := 65) (I_iast (hE _ _ sk_12_23) ⟨by decide, by decide⟩ dX12_plain_64) ?_
  refine S_bM fun M13 => ?_
  refine Seg.step (pc' := 66) (I_aload_n (i := 0) dX12_plain_65 rfl rfl) ?_
  refine Seg.step (pc' := 69) (I_getR cls12 (by decide) wf_12_24 (hE _ _ sk_12) rfl (lk_12_23 hL) dX12_plain_66) ?_
  refine Seg.step (pc' := 70) (I_iconst dX12_plain_69 ⟨by decide, by decide⟩) ?_
  refine Seg.step (pc' := 71) (I_iconst dX12_plain_70 ⟨by decide, by decide⟩) ?_
  refine Seg.step (pc' := 72) (I_iast (hE _ _ sk_12_23) ⟨by decide, by decide⟩ dX12_plain_71) ?_
  refine S_bM fun M14 => ?_
  refine Seg.step (pc' := 73) (I_iconst dX12_plain_72 ⟨by decide, by decide⟩) ?_
  refine Seg.step (pc' := 74) (I_istore_n (i := 1) dX12_plain_73 rfl (by decide) rfl) ?_
  refine Seg.forget (Lle.ye (Lle.ye (Lle.nil))) ?_
  refine S_loop (Y := Int × MM) (fun y => [some (rV 88), some (iV y.1)]) (fun y => []) (fun y => (sh, ex, R, y.2)) (fun x15 => ?_) FU (3, M14)
  refine Seg.step (pc' := 75) (I_iload_n (i := 1) dX12_plain_74 rfl rfl) ?_
  refine Seg.step (pc' := 77) (I_bipush dX12_plain_75 (by decide) ⟨by decide, by decide⟩) ?_
  refine S_icmp_ge (tgt := 93) dX12_plain_77 (by decide) (fun h16 => ?_) (fun h16 => ?_)
  · refine Seg.step (pc' := 81) (I_aload_n (i := 0) dX12_plain_80 rfl rfl) ?_
    refine Seg.step (pc' := 84) (I_getR cls12 (by decide) wf_12_66 (hE _ _ sk_12) rfl (lk_12_37 hL) dX12_plain_81) ?_
    refine Seg.step (pc' := 85) (I_iload_n (i := 1) dX12_plain_84 rfl rfl) ?_
    refine Seg.step (pc' := 86) (I_iconst dX12_plain_85 ⟨by decide, by decide⟩) ?_
    refine S_gd fun h17 => ?_
    refine Seg.step (pc' := 87) (I_zast (hE _ _ sk_12_37) h17 (by decide) dX12_plain_86) ?_
    refine S_bM fun M18 => ?_
    refine Seg.step (pc' := 90) (I_iinc dX12_plain_87 rfl (by decide) rfl) ?_
    refine Seg.step (pc' := 74) (I_goto (tgt := 74) dX12_plain_90 (by decide)) ?_
    exact S_arr (fun K hK => GG.forget (Lle.ye (Lle.ye (Lle.nil))) hK)
  exact S_vret dX12_plain_93 rfl (by decide) (by decide) (fun K hK => hK)
theorem dX12_copies_0 : decode cX12_copies 0 = .ok (.iconst 0, 1) := by decide +kernel
theorem dX12_copies_1 : decode cX12_copies 1 = .ok (.istore_n 2, 1) := by decide +kernel
theorem dX12_copies_2 : decode cX12_copies 2 = .ok (.iload_n 2, 1) := by decide +kernel
theorem dX12_copies_3 : decode cX12_copies 3 = .ok (.iload_n 1, 1) := by decide +kernel
theorem dX12_copies_4 : decode cX12_copies 4 = .ok (.if_icmp .ge 17, 3) := by decide +kernel
theorem dX12_copies_7 : decode cX12_copies 7 = .ok (.aload_n 0, 1) := by decide +kernel
theorem dX12_copies_8 : decode cX12_copies 8 = .ok (.iload_n 2, 1) := by decide +kernel
theorem dX12_copies_9 : decode cX12_copies 9 = .ok (.aload_n 0, 1) := by decide +kernel
theorem dX12_copies_10 : decode cX12_copies 10 = .ok (.iload_n 1, 1) := by decide +kernel
theorem dX12_copies_11 : decode cX12_copies 11 = .ok (.iload_n 2, 1) := by decide +kernel
theorem dX12_copies_12 : decode cX12_copies 12 = .ok (.iadd, 1) := by decide +kernel
theorem dX12_copies_13 : decode cX12_copies 13 = .ok (.iaload, 1) := by decide +kernel
theorem dX12_copies_14 : decode cX12_copies 14 = .ok (.iastore, 1) := by decide +kernel
theorem dX12_copies_15 : decode cX12_copies 15 = .ok (.iinc 2 1, 3) := by decide +kernel
theorem dX12_copies_18 : decode cX12_copies 18 = .ok (.goto (-16), 3) := by decide +kernel
theorem dX12_copies_21 : decode cX12_copies 21 = .ok (.return_, 1) := by decide +kernel
def f_X12_copies (M : MM) (a1 n1 : Nat) (p2 : Int) : Option (MM) :=
lp (X := Int × MM) (Y := MM) (fun x1 =>
if x1.1 < p2 then
(gd (0 ≤ w32 (p2 + x1.1) ∧ w32 (p2 + x1.1) < (n1 : Int)) <|
gd (0 ≤ x1.1 ∧ x1.1 < (n1 : Int)) <|
bM (upM x1.2 a1 (x1.1).toNat (x1.2 a1 (w32 (p2 + x1.1)).toNat)) fun M5 =>
some (Sum.inl (w32 (x1.1 + 1), M5)))
else
some (Sum.inr x1.2)) FU (0, M)
set_option maxRecDepth 4000 in
theorem c_X12_copies {E : EE} {sh : List (Nat × Nat)} {ex : Bool} {R : RM} {M : MM} {a1 n1 : Nat} {p2 : Int} (hE : Ext sh) (hL : Links R) (hs1 : SH0[a1]? = some (50, n1)) : ∀ y, f_X12_copies M a1 n1 p2 = some y → MetC E m_X12_copies 0 0 [rV a1, iV p2] (sh, ex, R, M) (fun r w' => r = none ∧ w' = (sh, ex, R, y)) := by
  intro y hy
  refine MetC.seg (o := f_X12_copies M a1 n1 p2) (t := (fun K y => K (none) (sh, ex, R, y))) (L := [some (rV a1), some (iV p2), none]) (by decide) rfl (Nat.le_of_ble_eq_true rfl) ?_ hy ⟨rfl, rfl⟩
  unfold f_X12_copies
  refine Seg.step (pc' := 1) (I_iconst dX12_copies_0 ⟨by decide, by decide⟩) ?_
  refine Seg.step (pc' := 2) (I_istore_n (i := 2) dX12_copies_1 rfl (by decide) rfl) ?_
  refine Seg.forget (Lle.ye (Lle.ye (Lle.ye (Lle.nil)))) ?_
  refine S_loop (Y := Int × MM) (fun y => [some (rV a1), some (iV p2), some (iV y.1)]) (fun y => []) (fun y => (sh, ex, R, y.2)) (fun x1 => ?_) FU (0, M)
  refine Seg.step (pc' := 3) (I_iload_n (i := 2) dX12_copies_2 rfl rfl) ?_
  refine Seg.step (pc' := 4) (I_iload_n (i := 1) dX12_copies_3 rfl rfl) ?_
  refine S_icmp_ge (tgt := 21) dX12_copies_4 (by decide) (fun h2 => ?_) (fun h2 => ?_)
  · refine Seg.step (pc' := 8) (I_aload_n (i := 0) dX12_copies_7 rfl rfl) ?_
    refine Seg.step (pc' := 9) (I_iload_n (i := 2) dX12_copies_8 rfl rfl) ?_
    refine Seg.step (pc' := 10) (I_aload_n (i := 0) dX12_copies_9 rfl rfl) ?_
    refine Seg.step (pc' := 11) (I_iload_n (i := 1) dX12_copies_10 rfl rfl) ?_
    refine Seg.step (pc' := 12) (I_iload_n (i := 2) dX12_copies_11 rfl rfl) ?_
    refine Seg.step (pc' := 13) (I_iadd dX12_copies_12) ?_
    refine S_gd fun h3 => ?_
    refine Seg.step (pc' := 14) (I_iald (hE _ _ hs1) h3 dX12_copies_13) ?_
    refine S_gd fun h4 => ?_
    refine Seg.step (pc' := 15) (I_iast (hE _ _ hs1) h4 dX12_copies_14) ?_
    refine S_bM fun M5 => ?_
    refine Seg.step (pc' := 18) (I_iinc dX12_copies_15 rfl (by decide) rfl) ?_
    refine Seg.step (pc' := 2) (I_goto (tgt := 2) dX12_copies_18 (by decide)) ?_
    exact S_arr (fun K hK => GG.forget (Lle.ye (Lle.ye (Lle.ye (Lle.nil)))) hK)
  exact S_vret dX12_copies_21 rfl (by decide) (by decide) (fun K hK => hK)
theorem dX12_atFirst_0 : decode cX12_atFirst 0 = .ok (.iconst 0, 1) := by decide +kernel
theorem dX12_atFirst_1 : decode cX12_atFirst 1 = .ok (.istore_n 2, 1) := by decide +kernel
theorem dX12_atFirst_2 : decode cX12_atFirst 2 = .ok (.iload_n 2, 1) := by decide +kernel
theorem dX12_atFirst_3 : decode cX12_atFirst 3 = .ok (.iconst 5, 1) := by decide +kernel
theorem dX12_atFirst_4 : decode cX12_atFirst 4 = .ok (.if_icmp .ge 61, 3) := by decide +kernel
theorem dX12_atFirst_7 : decode cX12_atFirst 7 = .ok (.aload_n 0, 1) := by decide +kernel
theorem dX12_atFirst_8 : decode cX12_atFirst 8 = .ok (.getfield 97, 3) := by decide +kernel
theorem dX12_atFirst_11 : decode cX12_atFirst 11 = .ok (.iconst 5, 1) := by decide +kernel
theorem dX12_atFirst_12 : decode cX12_atFirst 12 = .ok (.iload_n 1, 1) := by decide +kernel
theorem dX12_atFirst_13 : decode cX12_atFirst 13 = .ok (.imul, 1) := by decide +kernel
theorem dX12_atFirst_14 : decode cX12_atFirst 14 = .ok (.iload_n 2, 1) := by decide +kernel
theorem dX12_atFirst_15 : decode cX12_atFirst 15 = .ok (.iadd, 1) := by decide +kernel
theorem dX12_atFirst_16 : decode cX12_atFirst 16 = .ok (.aload_n 0, 1) := by decide +kernel
theorem dX12_atFirst_17 : decode cX12_atFirst 17 = .ok (.getfield 30, 3) := by decide +kernel
theorem dX12_atFirst_20 : decode cX12_atFirst 20 = .ok (.iload_n 2, 1) := by decide +kernel
theorem dX12_atFirst_21 : decode cX12_atFirst 21 = .ok (.iaload, 1) := by decide +kernel
theorem dX12_atFirst_22 : decode cX12_atFirst 22 = .ok (.iastore, 1) := by decide +kernel
theorem dX12_atFirst_23 : decode cX12_atFirst 23 = .ok (.iconst 0, 1) := by decide +kernel
theorem dX12_atFirst_24 : decode cX12_atFirst 24 = .ok (.istore_n 3, 1) := by decide +kernel
theorem dX12_atFirst_25 : decode cX12_atFirst 25 = .ok (.iload_n 3, 1) := by decide +kernel
theorem dX12_atFirst_26 : decode cX12_atFirst 26 = .ok (.bipush 6, 2) := by decide +kernel
theorem dX12_atFirst_28 : decode cX12_atFirst 28 = .ok (.if_icmp .ge 31, 3) := by decide +kernel
theorem dX12_atFirst_31 : decode cX12_atFirst 31 = .ok (.aload_n 0, 1) := by decide +kernel
theorem dX12_atFirst_32 : decode cX12_atFirst 32 = .ok (.getfield 100, 3) := by decide +kernel
theorem dX12_atFirst_35 : decode cX12_atFirst 35 = .ok (.bipush 30, 2) := by decide +kernel
theorem dX12_atFirst_37 : decode cX12_atFirst 37 = .ok (.iload_n 1, 1) := by decide +kernel
theorem dX12_atFirst_38 : decode cX12_atFirst 38 = .ok (.imul, 1) := by decide +kernel
theorem dX12_atFirst_39 : decode cX12_atFirst 39 = .ok (.bipush 6, 2) := by decide +kernel
theorem dX12_atFirst_41 : decode cX12_atFirst 41 = .ok (.iload_n 2, 1) := by decide +kernel
theorem dX12_atFirst_42 : decode cX12_atFirst 42 = .ok (.imul, 1) := by decide +kernel
theorem dX12_atFirst_43 : decode cX12_atFirst 43 = .ok (.iadd, 1) := by decide +kernel
theorem dX12_atFirst_44 : decode cX12_atFirst 44 = .ok (.iload_n 3, 1) := by decide +kernel
theorem dX12_atFirst_45 : decode cX12_atFirst 45 = .ok (.iadd, 1) := by decide +kernel
theorem dX12_atFirst_46 : decode cX12_atFirst 46 = .ok (.aload_n 0, 1) := by decide +kernel
theorem dX12_atFirst_47 : decode cX12_atFirst 47 = .ok (.getfield 30, 3) := by decide +kernel
theorem dX12_atFirst_50 : decode cX12_atFirst 50 = .ok (.iload_n 2, 1) := by decide +kernel
theorem dX12_atFirst_51 : decode cX12_atFirst 51 = .ok (.iaload, 1) := by decide +kernel
theorem dX12_atFirst_52 : decode cX12_atFirst 52 = .ok (.iastore, 1) := by decide +kernel
theorem dX12_atFirst_53 : decode cX12_atFirst 53 = .ok (.iinc 3 1, 3) := by decide +kernel
theorem dX12_atFirst_56 : decode cX12_atFirst 56 = .ok (.goto (-31), 3) := by decide +kernel
theorem dX12_atFirst_59 : decode cX12_atFirst 59 = .ok (.iinc 2 1, 3) := by decide +kernel
theorem dX12_atFirst_62 : decode cX12_atFirst 62 = .ok (.goto (-60), 3) := by decide +kernel
theorem dX12_atFirst_65 : decode cX12_atFirst 65 = .ok (.iconst 0, 1) := by decide +kernel
theorem dX12_atFirst_66 : decode cX12_atFirst 66 = .ok (.istore_n 2, 1) := by decide +kernel
theorem dX12_atFirst_67 : decode cX12_atFirst 67 = .ok (.iload_n 2, 1) := by decide +kernel
theorem dX12_atFirst_68 : decode cX12_atFirst 68 = .ok (.iconst 5, 1) := by decide +kernel
theorem dX12_atFirst_69 : decode cX12_atFirst 69 = .ok (.if_icmp .ge 42, 3) := by decide +kernel
theorem dX12_atFirst_72 : decode cX12_atFirst 72 = .ok (.aload_n 0, 1) := by decide +kernel
theorem dX12_atFirst_73 : decode cX12_atFirst 73 = .ok (.getfield 103, 3) := by decide +kernel
theorem dX12_atFirst_76 : decode cX12_atFirst 76 = .ok (.iconst 5, 1) := by decide +kernel
theorem dX12_atFirst_77 : decode cX12_atFirst 77 = .ok (.iload_n 1, 1) := by decide +kernel
theorem dX12_atFirst_78 : decode cX12_atFirst 78 = .ok (.imul, 1) := by decide +kernel
theorem dX12_atFirst_79 : decode cX12_atFirst 79 = .ok (.iload_n 2, 1) := by decide +kernel
theorem dX12_atFirst_80 : decode cX12_atFirst 80 = .ok (.iadd, 1) := by decide +kernel
theorem dX12_atFirst_81 : decode cX12_atFirst 81 = .ok (.iconst 0, 1) := by decide +kernel
theorem dX12_atFirst_82 : decode cX12_atFirst 82 = .ok (.iastore, 1) := by decide +kernel
theorem dX12_atFirst_83 : decode cX12_atFirst 83 = .ok (.aload_n 0, 1) := by decide +kernel
theorem dX12_atFirst_84 : decode cX12_atFirst 84 = .ok (.getfield 106, 3) := by decide +kernel
theorem dX12_atFirst_87 : decode cX12_atFirst 87 = .ok (.iconst 5, 1) := by decide +kernel
theorem dX12_atFirst_88 : decode cX12_atFirst 88 = .ok (.iload_n 1, 1) := by decide +kernel
theorem dX12_atFirst_89 : decode cX12_atFirst 89 = .ok (.imul, 1) := by decide +kernel
theorem dX12_atFirst_90 : decode cX12_atFirst 90 = .ok (.iload_n 2, 1) := by decide +kernel
theorem dX12_atFirst_91 : decode cX12_atFirst 91 = .ok (.iadd, 1) := by decide +kernel
theorem dX12_atFirst_92 : decode cX12_atFirst 92 = .ok (.iconst 0, 1) := by decide +kernel
theorem dX12_atFirst_93 : decode cX12_atFirst 93 = .ok (.iastore, 1) := by decide +kernel
theorem dX12_atFirst_94 : decode cX12_atFirst 94 = .ok (.aload_n 0, 1) := by decide +kernel
theorem dX12_atFirst_95 : decode cX12_atFirst 95 = .ok (.getfield 109, 3) := by decide +kernel
theorem dX12_atFirst_98 : decode cX12_atFirst 98 = .ok (.iconst 5, 1) := by decide +kernel
theorem dX12_atFirst_99 : decode cX12_atFirst 99 = .ok (.iload_n 1, 1) := by decide +kernel
theorem dX12_atFirst_100 : decode cX12_atFirst 100 = .ok (.imul, 1) := by decide +kernel
theorem dX12_atFirst_101 : decode cX12_atFirst 101 = .ok (.iload_n 2, 1) := by decide +kernel
theorem dX12_atFirst_102 : decode cX12_atFirst 102 = .ok (.iadd, 1) := by decide +kernel
theorem dX12_atFirst_103 : decode cX12_atFirst 103 = .ok (.iconst 0, 1) := by decide +kernel
theorem dX12_atFirst_104 : decode cX12_atFirst 104 = .ok (.bastore, 1) := by decide +kernel
theorem dX12_atFirst_105 : decode cX12_atFirst 105 = .ok (.iinc 2 1, 3) := by decide +kernel
theorem dX12_atFirst_108 : decode cX12_atFirst 108 = .ok (.goto (-41), 3) := by decide +kernel
theorem dX12_atFirst_111 : decode cX12_atFirst 111 = .ok (.aload_n 0, 1) := by decide +kernel
theorem dX12_atFirst_112 : decode cX12_atFirst 112 = .ok (.getfield 112, 3) := by decide +kernel
theorem dX12_atFirst_115 : decode cX12_atFirst 115 = .ok (.iload_n 1, 1) := by decide +kernel
theorem dX12_atFirst_116 : decode cX12_atFirst 116 = .ok (.aload_n 0, 1) := by decide +kernel
theorem dX12_atFirst_117 : decode cX12_atFirst 117 = .ok (.getfield 24, 3) := by decide +kernel
theorem dX12_atFirst_120 : decode cX12_atFirst 120 = .ok (.iconst 0, 1) := by decide +kernel
theorem dX12_atFirst_121 : decode cX12_atFirst 121 = .ok (.iaload, 1) := by decide +kernel
theorem dX12_atFirst_122 : decode cX12_atFirst 122 = .ok (.iastore, 1) := by decide +kernel
theorem dX12_atFirst_123 : decode cX12_atFirst 123 = .ok (.aload_n 0, 1) := by decide +kernel
theorem dX12_atFirst_124 : decode cX12_atFirst 124 = .ok (.getfield 115, 3) := by decide +kernel
theorem dX12_atFirst_127 : decode cX12_atFirst 127 = .ok (.iload_n 1, 1) := by decide +kernel
theorem dX12_atFirst_128 : decode cX12_atFirst 128 = .ok (.aload_n 0, 1) := by decide +kernel
theorem dX12_atFirst_129 : decode cX12_atFirst 129 = .ok (.getfield 24, 3) := by decide +kernel
theorem dX12_atFirst_132 : decode cX12_atFirst 132 = .ok (.iconst 1, 1) := by decide +kernel
theorem dX12_atFirst_133 : decode cX12_atFirst 133 = .ok (.iaload, 1) := by decide +kernel
theorem dX12_atFirst_134 : decode cX12_atFirst 134 = .ok (.iastore, 1) := by decide +kernel
theorem dX12_atFirst_135 : decode cX12_atFirst 135 = .ok (.aload_n 0, 1) := by decide +kernel
theorem dX12_atFirst_136 : decode cX12_atFirst 136 = .ok (.getfield 118, 3) := by decide +kernel
theorem dX12_atFirst_139 : decode cX12_atFirst 139 = .ok (.iload_n 1, 1) := by decide +kernel
theorem dX12_atFirst_140 : decode cX12_atFirst 140 = .ok (.iconst 0, 1) := by decide +kernel
theorem dX12_atFirst_141 : decode cX12_atFirst 141 = .ok (.bastore, 1) := by decide +kernel
theorem dX12_atFirst_142 : decode cX12_atFirst 142 = .ok (.aload_n 0, 1) := by decide +kernel
theorem dX12_atFirst_143 : decode cX12_atFirst 143 = .ok (.getfield 121, 3) := by decide +kernel
theorem dX12_atFirst_146 : decode cX12_atFirst 146 = .ok (.iload_n 1, 1) := by decide +kernel
theorem dX12_atFirst_147 : decode cX12_atFirst 147 = .ok (.iconst 0, 1) := by decide +kernel
theorem dX12_atFirst_148 : decode cX12_atFirst 148 = .ok (.iastore, 1) := by decide +kernel
theorem dX12_atFirst_149 : decode cX12_atFirst 149 = .ok (.aload_n 0, 1) := by decide +kernel
theorem dX12_atFirst_150 : decode cX12_atFirst 150 = .ok (.getfield 124, 3) := by decide +kernel
theorem dX12_atFirst_153 : decode cX12_atFirst 153 = .ok (.iload_n 1, 1) := by decide +kernel
theorem dX12_atFirst_154 : decode cX12_atFirst 154 = .ok (.iconst 0, 1) := by decide +kernel
theorem dX12_atFirst_155 : decode cX12_atFirst 155 = .ok (.iastore, 1) := by decide +kernel
theorem dX12_atFirst_156 : decode cX12_atFirst 156 = .ok (.aload_n 0, 1) := by decide +kernel
theorem dX12_atFirst_157 : decode cX12_atFirst 157 = .ok (.getfield 127, 3) := by decide +kernel
theorem dX12_atFirst_160 : decode cX12_atFirst 160 = .ok (.iload_n 1, 1) := by decide +kernel
theorem dX12_atFirst_161 : decode cX12_atFirst 161 = .ok (.iconst 0, 1) := by decide +kernel
theorem dX12_atFirst_162 : decode cX12_atFirst 162 = .ok (.iastore, 1) := by decide +kernel
theorem dX12_atFirst_163 : decode cX12_atFirst 163 = .ok (.aload_n 0, 1) := by decide +kernel
theorem dX12_atFirst_164 : decode cX12_atFirst 164 = .ok (.getfield 130, 3) := by decide +kernel
theorem dX12_atFirst_167 : decode cX12_atFirst 167 = .ok (.iload_n 1, 1) := by decide +kernel
theorem dX12_atFirst_168 : decode cX12_atFirst 168 = .ok (.iconst 0, 1) := by decide +kernel
theorem dX12_atFirst_169 : decode cX12_atFirst 169 = .ok (.iastore, 1) := by decide +kernel
theorem dX12_atFirst_170 : decode cX12_atFirst 170 = .ok (.return_, 1) := by decide +kernel
def f_X12_atFirst (M : MM) (p1 : Int) : Option (MM) :=
(lp (X := Int × MM) (Y := MM) (fun x1 =>
if x1.1 < 5 then
(gd (0 ≤ x1.1 ∧ x1.1 < (10 : Int)) <|
gd (0 ≤ w32 ((w32 (5 * p1)) + x1.1) ∧ w32 ((w32 (5 * p1)) + x1.1) < (10 : Int)) <|
bM (upM x1.2 116 (w32 ((w32 (5 * p1)) + x1.1)).toNat (x1.2 94 (x1.1).toNat)) fun M5 =>
(lp (X := Int × MM) (Y := MM) (fun x6 =>
if x6.1 < 6 then
(gd (0 ≤ x1.1 ∧ x1.1 < (10 : Int)) <|
gd (0 ≤ w32 ((w32 ((w32 (30 * p1)) + (w32 (6 * x1.1)))) + x6.1) ∧ w32 ((w32 ((w32 (30 * p1)) + (w32 (6 * x1.1)))) + x6.1) < (60 : Int)) <|
bM (upM x6.2 117 (w32 ((w32 ((w32 (30 * p1)) + (w32 (6 * x1.1)))) + x6.1)).toNat (x6.2 94 (x1.1).toNat)) fun M10 =>
some (Sum.inl (w32 (x6.1 + 1), M10)))
else
some (Sum.inr x6.2)) FU (0, M5)).bind fun x11 =>
some (Sum.inl (w32 (x1.1 + 1), x11)))
else
some (Sum.inr x1.2)) FU (0, M)).bind fun x12 =>
(lp (X := Int × MM) (Y := MM) (fun x13 =>
if x13.1 < 5 then
(gd (0 ≤ w32 ((w32 (5 * p1)) + x13.1) ∧ w32 ((w32 (5 * p1)) + x13.1) < (10 : Int)) <|
bM (upM x13.2 118 (w32 ((w32 (5 * p1)) + x13.1)).toNat 0) fun M16 =>
gd (0 ≤ w32 ((w32 (5 * p1)) + x13.1) ∧ w32 ((w32 (5 * p1)) + x13.1) < (10 : Int)) <|
bM (upM M16 119 (w32 ((w32 (5 * p1)) + x13.1)).toNat 0) fun M18 =>
gd (0 ≤ w32 ((w32 (5 * p1)) + x13.1) ∧ w32 ((w32 (5 * p1)) + x13.1) < (10 : Int)) <|
bM (upM M18 120 (w32 ((w32 (5 * p1)) + x13.1)).toNat 0) fun M20 =>
some (Sum.inl (w32 (x13.1 + 1), M20)))
else
some (Sum.inr x13.2)) FU (0, x12)).bind fun x21 =>
gd (0 ≤ p1 ∧ p1 < (2 : Int)) <|
bM (upM x21 121 (p1).toNat (x21 92 0)) fun M23 =>
gd (0 ≤ p1 ∧ p1 < (2 : Int)) <|
bM (upM M23 122 (p1).toNat (M23 92 1)) fun M25 =>
gd (0 ≤ p1 ∧ p1 < (2 : Int)) <|
bM (upM M25 123 (p1).toNat 0) fun M27 =>
gd (0 ≤ p1 ∧ p1 < (2 : Int)) <|
bM (upM M27 124 (p1).toNat 0) fun M29 =>
gd (0 ≤ p1 ∧ p1 < (2 : Int)) <|
bM (upM M29 125 (p1).toNat 0) fun M31 =>
gd (0 ≤ p1 ∧ p1 < (2 : Int)) <|
bM (upM M31 126 (p1).toNat 0) fun M33 =>
gd (0 ≤ p1 ∧ p1 < (2 : Int)) <|
bM (upM M33 127 (p1).toNat 0) fun M35 =>
some M35
set_option maxRecDepth 4000 in
theorem c_X12_atFirst {E : EE} {sh : List (Nat × Nat)} {ex : Bool} {R : RM} {M : MM} {p1 : Int} (hE : Ext sh) (hL : Links R) : ∀ y, f_X12_atFirst M p1 = some y → MetC E m_X12_atFirst 0 0 [rV 88, iV p1] (sh, ex, R, M) (fun r w' => r = none ∧ w' = (sh, ex, R, y)) := by
  intro y hy
  refine MetC.seg (o := f_X12_atFirst M p1) (t := (fun K y => K (none) (sh, ex, R, y))) (L := [some (rV 88), some (iV p1), none, none]) (by decide) rfl (Nat.le_of_ble_eq_true rfl) ?_ hy ⟨rfl, rfl⟩
  unfold f_X12_atFirst
  refine Seg.step (pc' := 1) (I_iconst dX12_atFirst_0 ⟨by decide, by decide⟩) ?_
  refine Seg.step (pc' := 2) (I_istore_n (i := 2) dX12_atFirst_1 rfl (by decide) rfl) ?_
  refine Seg.forget (Lle.ye (Lle.ye (Lle.ye (Lle.no (Lle.nil))))) ?_
  refine S_bind (Y := MM) (k' := 0) (n' := 0) 65 (fun y => [some (rV 88), some (iV p1), none, none]) (fun y => []) (fun y => (sh, ex, R, y)) (S_loop (Y := Int × MM) (fun y => [some (rV 88), some (iV p1), some (iV y.1), none]) (fun y => []) (fun y => (sh, ex, R, y.2)) (fun x1 => ?_) FU (0, M)) (fun x12 => ?_)
  · refine Seg.step (pc' := 3) (I_iload_n (i := 2) dX12_atFirst_2 rfl rfl) ?_
    refine Seg.step (pc' := 4) (I_iconst dX12_atFirst_3 ⟨by decide, by decide⟩) ?_
    refine S_icmp_ge (tgt := 65) dX12_atFirst_4 (by decide) (fun h2 => ?_) (fun h2 => ?_)
    · refine Seg.step (pc' := 8) (I_aload_n (i := 0) dX12_atFirst_7 rfl rfl) ?_
      refine Seg.step (pc' := 11) (I_getR cls12 (by decide) wf_12_97 (hE _ _ sk_12) rfl (lk_12_54 hL) dX12_atFirst_8) ?_
      refine Seg.step (pc' := 12) (I_iconst dX12_atFirst_11 ⟨by decide, by decide⟩) ?_
      refine Seg.step (pc' := 13) (I_iload_n (i := 1) dX12_atFirst_12 rfl rfl) ?_
      refine Seg.step (pc' := 14) (I_imul dX12_atFirst_13) ?_
      refine Seg.step (pc' := 15) (I_iload_n (i := 2) dX12_atFirst_14 rfl rfl) ?_
      refine Seg.step (pc' := 16) (I_iadd dX12_atFirst_15) ?_
      refine Seg.step (pc' := 17) (I_aload_n (i := 0) dX12_atFirst_16 rfl rfl) ?_
      refine Seg.step (pc' := 20) (I_getR cls12 (by decide) wf_12_30 (hE _ _ sk_12) rfl (lk_12_25 hL) dX12_atFirst_17) ?_
      refine Seg.step (pc' := 21) (I_iload_n (i := 2) dX12_atFirst_20 rfl rfl) ?_
      refine S_gd fun h3 => ?_
      refine Seg.step (pc' := 22) (I_iald (hE _ _ sk_12_25) h3 dX12_atFirst_21) ?_
      refine S_gd fun h4 => ?_
      refine Seg.step (pc' := 23) (I_iast (hE _ _ sk_12_54) h4 dX12_atFirst_22) ?_
      refine S_bM fun M5 => ?_
      refine Seg.step (pc' := 24) (I_iconst dX12_atFirst_23 ⟨by decide, by decide⟩) ?_
      refine Seg.step (pc' := 25) (I_istore_n (i := 3) dX12_atFirst_24 rfl (by decide) rfl) ?_
      refine Seg.forget (Lle.ye (Lle.ye (Lle.ye (Lle.ye (Lle.nil))))) ?_
      refine S_bind (Y := MM) (k' := 0) (n' := 0) 59 (fun y => [some (rV 88), some (iV p1), some (iV x1.1), none]) (fun y => []) (fun y => (sh, ex, R, y)) (S_loop (Y := Int × MM) (fun y => [some (rV 88), some (iV p1), some (iV x1.1), some (iV y.1)]) (fun y => []) (fun y => (sh, ex, R, y.2)) (fun x6 => ?_) FU (0, M5)) (fun x11 => ?_)
      · refine Seg.step (pc' := 26) (I_iload_n (i := 3) dX12_atFirst_25 rfl rfl) ?_
        refine Seg.step (pc' := 28) (I_bipush dX12_atFirst_26 (by decide) ⟨by decide, by decide⟩) ?_
        refine S_icmp_ge (tgt := 59) dX12_atFirst_28 (by decide) (fun h7 => ?_) (fun h7 => ?_)
        · refine Seg.step (pc' := 32) (I_aload_n (i := 0) dX12_atFirst_31 rfl rfl) ?_
          refine Seg.step (pc' := 35) (I_getR cls12 (by decide) wf_12_100 (hE _ _ sk_12) rfl (lk_12_55 hL) dX12_atFirst_32) ?_
          refine Seg.step (pc' := 37) (I_bipush dX12_atFirst_35 (by decide) ⟨by decide, by decide⟩) ?_
          refine Seg.step (pc' := 38) (I_iload_n (i := 1) dX12_atFirst_37 rfl rfl) ?_
          refine Seg.step (pc' := 39) (I_imul dX12_atFirst_38) ?_
          refine Seg.step (pc' := 41) (I_bipush dX12_atFirst_39 (by decide) ⟨by decide, by decide⟩) ?_
          refine Seg.step (pc' := 42) (I_iload_n (i := 2) dX12_atFirst_41 rfl rfl) ?_
          refine Seg.step (pc' := 43) (I_imul dX12_atFirst_42) ?_
          refine Seg.step (pc' := 44) (I_iadd dX12_atFirst_43) ?_
          refine Seg.step (pc' := 45) (I_iload_n (i := 3) dX12_atFirst_44 rfl rfl) ?_
          refine Seg.step (pc' := 46) (I_iadd dX12_atFirst_45) ?_
          refine Seg.step (pc' := 47) (I_aload_n (i := 0) dX12_atFirst_46 rfl rfl) ?_
          refine Seg.step (pc' := 50) (I_getR cls12 (by decide) wf_12_30 (hE _ _ sk_12) rfl (lk_12_25 hL) dX12_atFirst_47) ?_
          refine Seg.step (pc' := 51) (I_iload_n (i := 2) dX12_atFirst_50 rfl rfl) ?_
          refine S_gd fun h8 => ?_
          refine Seg.step (pc' := 52) (I_iald (hE _ _ sk_12_25) h8 dX12_atFirst_51) ?_
          refine S_gd fun h9 => ?_
          refine Seg.step (pc' := 53) (I_iast (hE _ _ sk_12_55) h9 dX12_atFirst_52) ?_
          refine S_bM fun M10 => ?_
          refine Seg.step (pc' := 56) (I_iinc dX12_atFirst_53 rfl (by decide) rfl) ?_
          refine Seg.step (pc' := 25) (I_goto (tgt := 25) dX12_atFirst_56 (by decide)) ?_
          exact S_arr (fun K hK => GG.forget (Lle.ye (Lle.ye (Lle.ye (Lle.ye (Lle.nil))))) hK)
        exact S_arr (fun K hK => GG.forget (Lle.ye (Lle.ye (Lle.ye (Lle.no (Lle.nil))))) hK)
      refine Seg.step (pc' := 62) (I_iinc dX12_atFirst_59 rfl (by decide) rfl) ?_
      refine Seg.step (pc' := 2) (I_goto (tgt := 2) dX12_atFirst_62 (by decide)) ?_
      exact S_arr (fun K hK => GG.forget (Lle.ye (Lle.ye (Lle.ye (Lle.no (Lle.nil))))) hK)
    exact S_arr (fun K hK => GG.forget (Lle.ye (Lle.ye (Lle.no (Lle.no (Lle.nil))))) hK)
  refine Seg.step (pc' := 66) (I_iconst dX12_atFirst_65 ⟨by decide, by decide⟩) ?_
  refine Seg.step (pc' := 67) (I_istore_n (i := 2) dX12_atFirst_66 rfl (by decide) rfl) ?_
  refine Seg.forget (Lle.ye (Lle.ye (Lle.ye (Lle.no (Lle.nil))))) ?_
  refine S_bind (Y := MM) (k' := 0) (n' := 0) 111 (fun y => [some (rV 88), some (iV p1), none, none]) (fun y => []) (fun y => (sh, ex, R, y)) (S_loop (Y := Int × MM) (fun y => [some (rV 88), some (iV p1), some (iV y.1), none]) (fun y => []) (fun y => (sh, ex, R, y.2)) (fun x13 => ?_) FU (0, x12)) (fun x21 => ?_)
  · refine Seg.step (pc' := 68) (I_iload_n (i := 2) dX12_atFirst_67 rfl rfl) ?_
    refine Seg.step (pc' := 69) (I_iconst dX12_atFirst_68 ⟨by decide, by decide⟩) ?_
    refine S_icmp_ge (tgt := 111) dX12_atFirst_69 (by decide) (fun h14 => ?_) (fun h14 => ?_)
    · refine Seg.step (pc' := 73) (I_aload_n (i := 0) dX12_atFirst_72 rfl rfl) ?_
      refine Seg.step (pc' := 76) (I_getR cls12 (by decide) wf_12_103 (hE _ _ sk_12) rfl (lk_12_56 hL) dX12_atFirst_73) ?_
      refine Seg.step (pc' := 77) (I_iconst dX12_atFirst_76 ⟨by decide, by decide⟩) ?_
      refine Seg.step (pc' := 78) (I_iload_n (i := 1) dX12_atFirst_77 rfl rfl) ?_
      refine Seg.step (pc' := 79) (I_imul dX12_atFirst_78) ?_
      refine Seg.step (pc' := 80) (I_iload_n (i := 2) dX12_atFirst_79 rfl rfl) ?_
      refine Seg.step (pc' := 81) (I_iadd dX12_atFirst_80) ?_
      refine Seg.step (pc' := 82) (I_iconst dX12_atFirst_81 ⟨by decide, by decide⟩) ?_
      refine S_gd fun h15 => ?_
      refine Seg.step (pc' := 83) (I_iast (hE _ _ sk_12_56) h15 dX12_atFirst_82) ?_
      refine S_bM fun M16 => ?_
      refine Seg.step (pc' := 84) (I_aload_n (i := 0) dX12_atFirst_83 rfl rfl) ?_
      refine Seg.step (pc' := 87) (I_getR cls12 (by decide) wf_12_106 (hE _ _ sk_12) rfl (lk_12_57 hL) dX12_atFirst_84) ?_
      refine Seg.step (pc' := 88) (I_iconst dX12_atFirst_87 ⟨by decide, by decide⟩) ?_
      refine Seg.step (pc' := 89) (I_iload_n (i := 1) dX12_atFirst_88 rfl rfl) ?_
      refine Seg.step (pc' := 90) (I_imul dX12_atFirst_89) ?_
      refine Seg.step (pc' := 91) (I_iload_n (i := 2) dX12_atFirst_90 rfl rfl) ?_
      refine Seg.step (pc' := 92) (I_iadd dX12_atFirst_91) ?_
      refine Seg.step (pc' := 93) (I_iconst dX12_atFirst_92 ⟨by decide, by decide⟩) ?_
      refine S_gd fun h17 => ?_
      refine Seg.step (pc' := 94) (I_iast (hE _ _ sk_12_57) h17 dX12_atFirst_93) ?_
      refine S_bM fun M18 => ?_
      refine Seg.step (pc' := 95) (I_aload_n (i := 0) dX12_atFirst_94 rfl rfl) ?_
      refine Seg.step (pc' := 98) (I_getR cls12 (by decide) wf_12_109 (hE _ _ sk_12) rfl (lk_12_58 hL) dX12_atFirst_95) ?_
      refine Seg.step (pc' := 99) (I_iconst dX12_atFirst_98 ⟨by decide, by decide⟩) ?_
      refine Seg.step (pc' := 100) (I_iload_n (i := 1) dX12_atFirst_99 rfl rfl) ?_
      refine Seg.step (pc' := 101) (I_imul dX12_atFirst_100) ?_
      refine Seg.step (pc' := 102) (I_iload_n (i := 2) dX12_atFirst_101 rfl rfl) ?_
      refine Seg.step (pc' := 103) (I_iadd dX12_atFirst_102) ?_
      refine Seg.step (pc' := 104) (I_iconst dX12_atFirst_103 ⟨by decide, by decide⟩) ?_
      refine S_gd fun h19 => ?_
      refine Seg.step (pc' := 105) (I_zast (hE _ _ sk_12_58) h19 (by decide) dX12_atFirst_104) ?_
      refine S_bM fun M20 => ?_
      refine Seg.step (pc' := 108) (I_iinc dX12_atFirst_105 rfl (by decide) rfl) ?_
      refine Seg.step (pc' := 67) (I_goto (tgt := 67) dX12_atFirst_108 (by decide)) ?_
      exact S_arr (fun K hK => GG.forget (Lle.ye (Lle.ye (Lle.ye (Lle.no (Lle.nil))))) hK)
    exact S_arr (fun K hK => GG.forget (Lle.ye (Lle.ye (Lle.no (Lle.no (Lle.nil))))) hK)
  refine Seg.step (pc' := 112) (I_aload_n (i := 0) dX12_atFirst_111 rfl rfl) ?_
  refine Seg.step (pc' := 115) (I_getR cls12 (by decide) wf_12_112 (hE _ _ sk_12) rfl (lk_12_59 hL) dX12_atFirst_112) ?_
  refine Seg.step (pc' := 116) (I_iload_n (i := 1) dX12_atFirst_115 rfl rfl) ?_
  refine Seg.step (pc' := 117) (I_aload_n (i := 0) dX12_atFirst_116 rfl rfl) ?_
  refine Seg.step (pc' := 120) (I_getR cls12 (by decide) wf_12_24 (hE _ _ sk_12) rfl (lk_12_23 hL) dX12_atFirst_117) ?_
  refine Seg.step (pc' := 121) (I_iconst dX12_atFirst_120 ⟨by decide, by decide⟩) ?_
  refine Seg.step (pc' := 122) (I_iald (hE _ _ sk_12_23) ⟨by decide, by decide⟩ dX12_atFirst_121) ?_
  refine S_gd fun h22 => ?_
  refine Seg.step (pc' := 123) (I_iast (hE _ _ sk_12_59) h22 dX12_atFirst_122) ?_
  refine S_bM fun M23 => ?_
  refine Seg.step (pc' := 124) (I_aload_n (i := 0) dX12_atFirst_123 rfl rfl) ?_
  refine Seg.step (pc' := 127) (I_getR cls12 (by decide) wf_12_115 (hE _ _ sk_12) rfl (lk_12_60 hL) dX12_atFirst_124) ?_
  refine Seg.step (pc' := 128) (I_iload_n (i := 1) dX12_atFirst_127 rfl rfl) ?_
  refine Seg.step (pc' := 129) (I_aload_n (i := 0) dX12_atFirst_128 rfl rfl) ?_
  refine Seg.step (pc' := 132) (I_getR cls12 (by decide) wf_12_24 (hE _ _ sk_12) rfl (lk_12_23 hL) dX12_atFirst_129) ?_
  refine Seg.step (pc' := 133) (I_iconst dX12_atFirst_132 ⟨by decide, by decide⟩) ?_
  refine Seg.step (pc' := 134) (I_iald (hE _ _ sk_12_23) ⟨by decide, by decide⟩ dX12_atFirst_133) ?_
  refine S_gd fun h24 => ?_
  refine Seg.step (pc' := 135) (I_iast (hE _ _ sk_12_60) h24 dX12_atFirst_134) ?_
  refine S_bM fun M25 => ?_
  refine Seg.step (pc' := 136) (I_aload_n (i := 0) dX12_atFirst_135 rfl rfl) ?_
  refine Seg.step (pc' := 139) (I_getR cls12 (by decide) wf_12_118 (hE _ _ sk_12) rfl (lk_12_61 hL) dX12_atFirst_136) ?_
  refine Seg.step (pc' := 140) (I_iload_n (i := 1) dX12_atFirst_139 rfl rfl) ?_
  refine Seg.step (pc' := 141) (I_iconst dX12_atFirst_140 ⟨by decide, by decide⟩) ?_
  refine S_gd fun h26 => ?_
  refine Seg.step (pc' := 142) (I_zast (hE _ _ sk_12_61) h26 (by decide) dX12_atFirst_141) ?_
  refine S_bM fun M27 => ?_
  refine Seg.step (pc' := 143) (I_aload_n (i := 0) dX12_atFirst_142 rfl rfl) ?_
  refine Seg.step (pc' := 146) (I_getR cls12 (by decide) wf_12_121 (hE _ _ sk_12) rfl (lk_12_62 hL) dX12_atFirst_143) ?_
  refine Seg.step (pc' := 147) (I_iload_n (i := 1) dX12_atFirst_146 rfl rfl) ?_
  refine Seg.step (pc' := 148) (I_iconst dX12_atFirst_147 ⟨by decide, by decide⟩) ?_
  refine S_gd fun h28 => ?_
  refine Seg.step (pc' := 149) (I_iast (hE _ _ sk_12_62) h28 dX12_atFirst_148) ?_
  refine S_bM fun M29 => ?_
  refine Seg.step (pc' := 150) (I_aload_n (i := 0) dX12_atFirst_149 rfl rfl) ?_
  refine Seg.step (pc' := 153) (I_getR cls12 (by decide) wf_12_124 (hE _ _ sk_12) rfl (lk_12_63 hL) dX12_atFirst_150) ?_
  refine Seg.step (pc' := 154) (I_iload_n (i := 1) dX12_atFirst_153 rfl rfl) ?_
  refine Seg.step (pc' := 155) (I_iconst dX12_atFirst_154 ⟨by decide, by decide⟩) ?_
  refine S_gd fun h30 => ?_
  refine Seg.step (pc' := 156) (I_iast (hE _ _ sk_12_63) h30 dX12_atFirst_155) ?_
  refine S_bM fun M31 => ?_
  refine Seg.step (pc' := 157) (I_aload_n (i := 0) dX12_atFirst_156 rfl rfl) ?_
  refine Seg.step (pc' := 160) (I_getR cls12 (by decide) wf_12_127 (hE _ _ sk_12) rfl (lk_12_64 hL) dX12_atFirst_157) ?_
  refine Seg.step (pc' := 161) (I_iload_n (i := 1) dX12_atFirst_160 rfl rfl) ?_
  refine Seg.step (pc' := 162) (I_iconst dX12_atFirst_161 ⟨by decide, by decide⟩) ?_
  refine S_gd fun h32 => ?_
  refine Seg.step (pc' := 163) (I_iast (hE _ _ sk_12_64) h32 dX12_atFirst_162) ?_
  refine S_bM fun M33 => ?_
  refine Seg.step (pc' := 164) (I_aload_n (i := 0) dX12_atFirst_163 rfl rfl) ?_
  refine Seg.step (pc' := 167) (I_getR cls12 (by decide) wf_12_130 (hE _ _ sk_12) rfl (lk_12_65 hL) dX12_atFirst_164) ?_
  refine Seg.step (pc' := 168) (I_iload_n (i := 1) dX12_atFirst_167 rfl rfl) ?_
  refine Seg.step (pc' := 169) (I_iconst dX12_atFirst_168 ⟨by decide, by decide⟩) ?_
  refine S_gd fun h34 => ?_
  refine Seg.step (pc' := 170) (I_iast (hE _ _ sk_12_65) h34 dX12_atFirst_169) ?_
  refine S_bM fun M35 => ?_
  exact S_vret dX12_atFirst_170 rfl (by decide) (by decide) (fun K hK => hK)
theorem dX12_plainTried_0 : decode cX12_plainTried 0 = .ok (.aload_n 0, 1) := by decide +kernel
theorem dX12_plainTried_1 : decode cX12_plainTried 1 = .ok (.iconst 0, 1) := by decide +kernel
theorem dX12_plainTried_2 : decode cX12_plainTried 2 = .ok (.putfield 397, 3) := by decide +kernel
theorem dX12_plainTried_5 : decode cX12_plainTried 5 = .ok (.aload_n 0, 1) := by decide +kernel
theorem dX12_plainTried_6 : decode cX12_plainTried 6 = .ok (.iconst 0, 1) := by decide +kernel
theorem dX12_plainTried_7 : decode cX12_plainTried 7 = .ok (.putfield 400, 3) := by decide +kernel
theorem dX12_plainTried_10 : decode cX12_plainTried 10 = .ok (.aload_n 0, 1) := by decide +kernel
theorem dX12_plainTried_11 : decode cX12_plainTried 11 = .ok (.iconst 0, 1) := by decide +kernel
theorem dX12_plainTried_12 : decode cX12_plainTried 12 = .ok (.putfield 403, 3) := by decide +kernel
theorem dX12_plainTried_15 : decode cX12_plainTried 15 = .ok (.aload_n 0, 1) := by decide +kernel
theorem dX12_plainTried_16 : decode cX12_plainTried 16 = .ok (.iconst 0, 1) := by decide +kernel
theorem dX12_plainTried_17 : decode cX12_plainTried 17 = .ok (.putfield 406, 3) := by decide +kernel
theorem dX12_plainTried_20 : decode cX12_plainTried 20 = .ok (.aload_n 0, 1) := by decide +kernel
theorem dX12_plainTried_21 : decode cX12_plainTried 21 = .ok (.iconst (-1), 1) := by decide +kernel
theorem dX12_plainTried_22 : decode cX12_plainTried 22 = .ok (.putfield 409, 3) := by decide +kernel
theorem dX12_plainTried_25 : decode cX12_plainTried 25 = .ok (.aload_n 0, 1) := by decide +kernel
theorem dX12_plainTried_26 : decode cX12_plainTried 26 = .ok (.iconst (-1), 1) := by decide +kernel
theorem dX12_plainTried_27 : decode cX12_plainTried 27 = .ok (.putfield 412, 3) := by decide +kernel
theorem dX12_plainTried_30 : decode cX12_plainTried 30 = .ok (.aload_n 0, 1) := by decide +kernel
theorem dX12_plainTried_31 : decode cX12_plainTried 31 = .ok (.iconst (-1), 1) := by decide +kernel
theorem dX12_plainTried_32 : decode cX12_plainTried 32 = .ok (.putfield 415, 3) := by decide +kernel
theorem dX12_plainTried_35 : decode cX12_plainTried 35 = .ok (.aload_n 0, 1) := by decide +kernel
theorem dX12_plainTried_36 : decode cX12_plainTried 36 = .ok (.iconst 0, 1) := by decide +kernel
theorem dX12_plainTried_37 : decode cX12_plainTried 37 = .ok (.putfield 418, 3) := by decide +kernel
theorem dX12_plainTried_40 : decode cX12_plainTried 40 = .ok (.aload_n 0, 1) := by decide +kernel
theorem dX12_plainTried_41 : decode cX12_plainTried 41 = .ok (.iconst 0, 1) := by decide +kernel
theorem dX12_plainTried_42 : decode cX12_plainTried 42 = .ok (.putfield 421, 3) := by decide +kernel
theorem dX12_plainTried_45 : decode cX12_plainTried 45 = .ok (.aload_n 0, 1) := by decide +kernel
theorem dX12_plainTried_46 : decode cX12_plainTried 46 = .ok (.iconst 0, 1) := by decide +kernel
theorem dX12_plainTried_47 : decode cX12_plainTried 47 = .ok (.putfield 424, 3) := by decide +kernel
theorem dX12_plainTried_50 : decode cX12_plainTried 50 = .ok (.aload_n 0, 1) := by decide +kernel
theorem dX12_plainTried_51 : decode cX12_plainTried 51 = .ok (.iconst 0, 1) := by decide +kernel
theorem dX12_plainTried_52 : decode cX12_plainTried 52 = .ok (.putfield 427, 3) := by decide +kernel
theorem dX12_plainTried_55 : decode cX12_plainTried 55 = .ok (.return_, 1) := by decide +kernel
def f_X12_plainTried (M : MM)  : Option (MM) :=
bM (upM M 88 69 0) fun M1 =>
bM (upM M1 88 70 0) fun M2 =>
bM (upM M2 88 71 0) fun M3 =>
bM (upM M3 88 72 0) fun M4 =>
bM (upM M4 88 73 (-1)) fun M5 =>
bM (upM M5 88 74 (-1)) fun M6 =>
bM (upM M6 88 75 (-1)) fun M7 =>
bM (upM M7 88 76 0) fun M8 =>
bM (upM M8 88 77 0) fun M9 =>
bM (upM M9 88 78 0) fun M10 =>
bM (upM M10 88 79 0) fun M11 =>
some M11
set_option maxRecDepth 4000 in
theorem c_X12_plainTried {E : EE} {sh : List (Nat × Nat)} {ex : Bool} {R : RM} {M : MM}  (hE : Ext sh) (hL : Links R) : ∀ y, f_X12_plainTried M = some y → MetC E m_X12_plainTried 0 0 [rV 88] (sh, ex, R, M) (fun r w' => r = none ∧ w' = (sh, ex, R, y)) := by
  intro y hy
  refine MetC.seg (o := f_X12_plainTried M) (t := (fun K y => K (none) (sh, ex, R, y))) (L := [some (rV 88)]) (by decide) rfl (Nat.le_of_ble_eq_true rfl) ?_ hy ⟨rfl, rfl⟩
  unfold f_X12_plainTried
  refine Seg.step (pc' := 1) (I_aload_n (i := 0) dX12_plainTried_0 rfl rfl) ?_
  refine Seg.step (pc' := 2) (I_iconst dX12_plainTried_1 ⟨by decide, by decide⟩) ?_
  refine Seg.step (pc' := 5) (I_putZ cls12 (by decide) wf_12_397 (hE _ _ sk_12) rfl rfl (by decide) dX12_plainTried_2) ?_
  refine S_bM fun M1 => ?_
  refine Seg.step (pc' := 6) (I_aload_n (i := 0) dX12_plainTried_5 rfl rfl) ?_
  refine Seg.step (pc' := 7) (I_iconst dX12_plainTried_6 ⟨by decide, by decide⟩) ?_
  refine Seg.step (pc' := 10) (I_putZ cls12 (by decide) wf_12_400 (hE _ _ sk_12) rfl rfl (by decide) dX12_plainTried_7) ?_
  refine S_bM fun M2 => ?_
  refine Seg.step (pc' := 11) (I_aload_n (i := 0) dX12_plainTried_10 rfl rfl) ?_
  refine Seg.step (pc' := 12) (I_iconst dX12_plainTried_11 ⟨by decide, by decide⟩) ?_
  refine Seg.step (pc' := 15) (I_putZ cls12 (by decide) wf_12_403 (hE _ _ sk_12) rfl rfl (by decide) dX12_plainTried_12) ?_
  refine S_bM fun M3 => ?_
  refine Seg.step (pc' := 16) (I_aload_n (i := 0) dX12_plainTried_15 rfl rfl) ?_
  refine Seg.step (pc' := 17) (I_iconst dX12_plainTried_16 ⟨by decide, by decide⟩) ?_
  refine Seg.step (pc' := 20) (I_putZ cls12 (by decide) wf_12_406 (hE _ _ sk_12) rfl rfl (by decide) dX12_plainTried_17) ?_
  refine S_bM fun M4 => ?_
  refine Seg.step (pc' := 21) (I_aload_n (i := 0) dX12_plainTried_20 rfl rfl) ?_
  refine Seg.step (pc' := 22) (I_iconst dX12_plainTried_21 ⟨by decide, by decide⟩) ?_
  refine Seg.step (pc' := 25) (I_putI cls12 (by decide) wf_12_409 (hE _ _ sk_12) rfl rfl dX12_plainTried_22) ?_
  refine S_bM fun M5 => ?_
  refine Seg.step (pc' := 26) (I_aload_n (i := 0) dX12_plainTried_25 rfl rfl) ?_
  refine Seg.step (pc' := 27) (I_iconst dX12_plainTried_26 ⟨by decide, by decide⟩) ?_
  refine Seg.step (pc' := 30) (I_putI cls12 (by decide) wf_12_412 (hE _ _ sk_12) rfl rfl dX12_plainTried_27) ?_
  refine S_bM fun M6 => ?_
  refine Seg.step (pc' := 31) (I_aload_n (i := 0) dX12_plainTried_30 rfl rfl) ?_
  refine Seg.step (pc' := 32) (I_iconst dX12_plainTried_31 ⟨by decide, by decide⟩) ?_
  refine Seg.step (pc' := 35) (I_putI cls12 (by decide) wf_12_415 (hE _ _ sk_12) rfl rfl dX12_plainTried_32) ?_
  refine S_bM fun M7 => ?_
  refine Seg.step (pc' := 36) (I_aload_n (i := 0) dX12_plainTried_35 rfl rfl) ?_
  refine Seg.step (pc' := 37) (I_iconst dX12_plainTried_36 ⟨by decide, by decide⟩) ?_
  refine Seg.step (pc' := 40) (I_putI cls12 (by decide) wf_12_418 (hE _ _ sk_12) rfl rfl dX12_plainTried_37) ?_
  refine S_bM fun M8 => ?_
  refine Seg.step (pc' := 41) (I_aload_n (i := 0) dX12_plainTried_40 rfl rfl) ?_
  refine Seg.step (pc' := 42) (I_iconst dX12_plainTried_41 ⟨by decide, by decide⟩) ?_
  refine Seg.step (pc' := 45) (I_putI cls12 (by decide) wf_12_421 (hE _ _ sk_12) rfl rfl dX12_plainTried_42) ?_
  refine S_bM fun M9 => ?_
  refine Seg.step (pc' := 46) (I_aload_n (i := 0) dX12_plainTried_45 rfl rfl) ?_
  refine Seg.step (pc' := 47) (I_iconst dX12_plainTried_46 ⟨by decide, by decide⟩) ?_
  refine Seg.step (pc' := 50) (I_putI cls12 (by decide) wf_12_424 (hE _ _ sk_12) rfl rfl dX12_plainTried_47) ?_
  refine S_bM fun M10 => ?_
  refine Seg.step (pc' := 51) (I_aload_n (i := 0) dX12_plainTried_50 rfl rfl) ?_
  refine Seg.step (pc' := 52) (I_iconst dX12_plainTried_51 ⟨by decide, by decide⟩) ?_
  refine Seg.step (pc' := 55) (I_putI cls12 (by decide) wf_12_427 (hE _ _ sk_12) rfl rfl dX12_plainTried_52) ?_
  refine S_bM fun M11 => ?_
  exact S_vret dX12_plainTried_55 rfl (by decide) (by decide) (fun K hK => hK)
theorem dX12_begin_0 : decode cX12_begin 0 = .ok (.aload_n 0, 1) := by decide +kernel
theorem dX12_begin_1 : decode cX12_begin 1 = .ok (.iconst 0, 1) := by decide +kernel
theorem dX12_begin_2 : decode cX12_begin 2 = .ok (.invokevirtual 382, 3) := by decide +kernel
theorem dX12_begin_5 : decode cX12_begin 5 = .ok (.iconst 0, 1) := by decide +kernel
theorem dX12_begin_6 : decode cX12_begin 6 = .ok (.istore_n 1, 1) := by decide +kernel
theorem dX12_begin_7 : decode cX12_begin 7 = .ok (.iload_n 1, 1) := by decide +kernel
theorem dX12_begin_8 : decode cX12_begin 8 = .ok (.bipush 24, 2) := by decide +kernel
theorem dX12_begin_10 : decode cX12_begin 10 = .ok (.if_icmp .ge 23, 3) := by decide +kernel
theorem dX12_begin_13 : decode cX12_begin 13 = .ok (.aload_n 0, 1) := by decide +kernel
theorem dX12_begin_14 : decode cX12_begin 14 = .ok (.getfield 133, 3) := by decide +kernel
theorem dX12_begin_17 : decode cX12_begin 17 = .ok (.iload_n 1, 1) := by decide +kernel
theorem dX12_begin_18 : decode cX12_begin 18 = .ok (.iconst 0, 1) := by decide +kernel
theorem dX12_begin_19 : decode cX12_begin 19 = .ok (.iastore, 1) := by decide +kernel
theorem dX12_begin_20 : decode cX12_begin 20 = .ok (.aload_n 0, 1) := by decide +kernel
theorem dX12_begin_21 : decode cX12_begin 21 = .ok (.getfield 136, 3) := by decide +kernel
theorem dX12_begin_24 : decode cX12_begin 24 = .ok (.iload_n 1, 1) := by decide +kernel
theorem dX12_begin_25 : decode cX12_begin 25 = .ok (.iconst 0, 1) := by decide +kernel
theorem dX12_begin_26 : decode cX12_begin 26 = .ok (.iastore, 1) := by decide +kernel
theorem dX12_begin_27 : decode cX12_begin 27 = .ok (.iinc 1 1, 3) := by decide +kernel
theorem dX12_begin_30 : decode cX12_begin 30 = .ok (.goto (-23), 3) := by decide +kernel
theorem dX12_begin_33 : decode cX12_begin 33 = .ok (.aload_n 0, 1) := by decide +kernel
theorem dX12_begin_34 : decode cX12_begin 34 = .ok (.invokevirtual 385, 3) := by decide +kernel
theorem dX12_begin_37 : decode cX12_begin 37 = .ok (.aload_n 0, 1) := by decide +kernel
theorem dX12_begin_38 : decode cX12_begin 38 = .ok (.iconst 0, 1) := by decide +kernel
theorem dX12_begin_39 : decode cX12_begin 39 = .ok (.putfield 388, 3) := by decide +kernel
theorem dX12_begin_42 : decode cX12_begin 42 = .ok (.aload_n 0, 1) := by decide +kernel
theorem dX12_begin_43 : decode cX12_begin 43 = .ok (.iconst (-1), 1) := by decide +kernel
theorem dX12_begin_44 : decode cX12_begin 44 = .ok (.putfield 142, 3) := by decide +kernel
theorem dX12_begin_47 : decode cX12_begin 47 = .ok (.aload_n 0, 1) := by decide +kernel
theorem dX12_begin_48 : decode cX12_begin 48 = .ok (.iconst 0, 1) := by decide +kernel
theorem dX12_begin_49 : decode cX12_begin 49 = .ok (.putfield 391, 3) := by decide +kernel
theorem dX12_begin_52 : decode cX12_begin 52 = .ok (.aload_n 0, 1) := by decide +kernel
theorem dX12_begin_53 : decode cX12_begin 53 = .ok (.iconst 0, 1) := by decide +kernel
theorem dX12_begin_54 : decode cX12_begin 54 = .ok (.putfield 394, 3) := by decide +kernel
theorem dX12_begin_57 : decode cX12_begin 57 = .ok (.return_, 1) := by decide +kernel
def f_X12_begin (M : MM)  : Option (MM) :=
(f_X12_atFirst M 0).bind fun x1 =>
(lp (X := Int × MM) (Y := MM) (fun x2 =>
if x2.1 < 24 then
(gd (0 ≤ x2.1 ∧ x2.1 < (24 : Int)) <|
bM (upM x2.2 128 (x2.1).toNat 0) fun M5 =>
gd (0 ≤ x2.1 ∧ x2.1 < (24 : Int)) <|
bM (upM M5 129 (x2.1).toNat 0) fun M7 =>
some (Sum.inl (w32 (x2.1 + 1), M7)))
else
some (Sum.inr x2.2)) FU (0, x1)).bind fun x8 =>
(f_X12_plainTried x8).bind fun x9 =>
bM (upM x9 88 80 0) fun M10 =>
bM (upM M10 88 81 (-1)) fun M11 =>
bM (upM M11 88 85 0) fun M12 =>
bM (upM M12 88 87 0) fun M13 =>
some M13
set_option maxRecDepth 4000 in
theorem c_X12_begin {E : EE} {sh : List (Nat × Nat)} {ex : Bool} {R : RM} {M : MM}  (hE : Ext sh) (hL : Links R) : ∀ y, f_X12_begin M = some y → MetC E m_X12_begin 0 0 [rV 88] (sh, ex, R, M) (fun r w' => r = none ∧ w' = (sh, ex, R, y)) := by
  intro y hy
  refine MetC.seg (o := f_X12_begin M) (t := (fun K y => K (none) (sh, ex, R, y))) (L := [some (rV 88), none]) (by decide) rfl (Nat.le_of_ble_eq_true rfl) ?_ hy ⟨rfl, rfl⟩
  unfold f_X12_begin
  refine Seg.step (pc' := 1) (I_aload_n (i := 0) dX12_begin_0 rfl rfl) ?_
  refine Seg.step (pc' := 2) (I_iconst dX12_begin_1 ⟨by decide, by decide⟩) ?_
  refine S_callV1 (md' := m_X12_atFirst) (fun y => none) (fun y => (sh, ex, R, y)) (hE _ _ sk_12) ⟨by decide, rfl⟩ mm_X12_atFirst wm_12_382 ⟨rfl, rfl, by decide, by decide, by decide, by decide⟩ (Nat.le_of_ble_eq_true rfl) dX12_begin_2 (fun y hy => c_X12_atFirst hE hL y hy) (fun x1 => ?_)
  refine Seg.step (pc' := 6) (I_iconst dX12_begin_5 ⟨by decide, by decide⟩) ?_
  refine Seg.step (pc' := 7) (I_istore_n (i := 1) dX12_begin_6 rfl (by decide) rfl) ?_
  refine Seg.forget (Lle.ye (Lle.ye (Lle.nil))) ?_
  refine S_bind (Y := MM) (k' := 0) (n' := 0) 33 (fun y => [some (rV 88), none]) (fun y => []) (fun y => (sh, ex, R, y)) (S_loop (Y := Int × MM) (fun y => [some (rV 88), some (iV y.1)]) (fun y => []) (fun y => (sh, ex, R, y.2)) (fun x2 => ?_) FU (0, x1)) (fun x8 => ?_)
  · refine Seg.step (pc' := 8) (I_iload_n (i := 1) dX12_begin_7 rfl rfl) ?_
    refine Seg.step (pc' := 10) (I_bipush dX12_begin_8 (by decide) ⟨by decide, by decide⟩) ?_
    refine S_icmp_ge (tgt := 33) dX12_begin_10 (by decide) (fun h3 => ?_) (fun h3 => ?_)
    · refine Seg.step (pc' := 14) (I_aload_n (i := 0) dX12_begin_13 rfl rfl) ?_
      refine Seg.step (pc' := 17) (I_getR cls12 (by decide) wf_12_133 (hE _ _ sk_12) rfl (lk_12_66 hL) dX12_begin_14) ?_
      refine Seg.step (pc' := 18) (I_iload_n (i := 1) dX12_begin_17 rfl rfl) ?_
      refine Seg.step (pc' := 19) (I_iconst dX12_begin_18 ⟨by decide, by decide⟩) ?_
      refine S_gd fun h4 => ?_
      refine Seg.step (pc' := 20) (I_iast (hE _ _ sk_12_66) h4 dX12_begin_19) ?_
      refine S_bM fun M5 => ?_
      refine Seg.step (pc' := 21) (I_aload_n (i := 0) dX12_begin_20 rfl rfl) ?_
      refine Seg.step (pc' := 24) (I_getR cls12 (by decide) wf_12_136 (hE _ _ sk_12) rfl (lk_12_67 hL) dX12_begin_21) ?_
      refine Seg.step (pc' := 25) (I_iload_n (i := 1) dX12_begin_24 rfl rfl) ?_
      refine Seg.step (pc' := 26) (I_iconst dX12_begin_25 ⟨by decide, by decide⟩) ?_
      refine S_gd fun h6 => ?_
      refine Seg.step (pc' := 27) (I_iast (hE _ _ sk_12_67) h6 dX12_begin_26) ?_
      refine S_bM fun M7 => ?_
      refine Seg.step (pc' := 30) (I_iinc dX12_begin_27 rfl (by decide) rfl) ?_
      refine Seg.step (pc' := 7) (I_goto (tgt := 7) dX12_begin_30 (by decide)) ?_
      exact S_arr (fun K hK => GG.forget (Lle.ye (Lle.ye (Lle.nil))) hK)
    exact S_arr (fun K hK => GG.forget (Lle.ye (Lle.no (Lle.nil))) hK)
  refine Seg.step (pc' := 34) (I_aload_n (i := 0) dX12_begin_33 rfl rfl) ?_
  refine S_callV0 (md' := m_X12_plainTried) (fun y => none) (fun y => (sh, ex, R, y)) (hE _ _ sk_12) ⟨by decide, rfl⟩ mm_X12_plainTried wm_12_385 ⟨rfl, rfl, by decide, by decide, by decide, by decide⟩ (Nat.le_of_ble_eq_true rfl) dX12_begin_34 (fun y hy => c_X12_plainTried hE hL y hy) (fun x9 => ?_)
  refine Seg.step (pc' := 38) (I_aload_n (i := 0) dX12_begin_37 rfl rfl) ?_
  refine Seg.step (pc' := 39) (I_iconst dX12_begin_38 ⟨by decide, by decide⟩) ?_
  refine Seg.step (pc' := 42) (I_putI cls12 (by decide) wf_12_388 (hE _ _ sk_12) rfl rfl dX12_begin_39) ?_
  refine S_bM fun M10 => ?_
  refine Seg.step (pc' := 43) (I_aload_n (i := 0) dX12_begin_42 rfl rfl) ?_
  refine Seg.step (pc' := 44) (I_iconst dX12_begin_43 ⟨by decide, by decide⟩) ?_
  refine Seg.step (pc' := 47) (I_putI cls12 (by decide) wf_12_142 (hE _ _ sk_12) rfl rfl dX12_begin_44) ?_
  refine S_bM fun M11 => ?_
  refine Seg.step (pc' := 48) (I_aload_n (i := 0) dX12_begin_47 rfl rfl) ?_
  refine Seg.step (pc' := 49) (I_iconst dX12_begin_48 ⟨by decide, by decide⟩) ?_
  refine Seg.step (pc' := 52) (I_putI cls12 (by decide) wf_12_391 (hE _ _ sk_12) rfl rfl dX12_begin_49) ?_
  refine S_bM fun M12 => ?_
  refine Seg.step (pc' := 53) (I_aload_n (i := 0) dX12_begin_52 rfl rfl) ?_
  refine Seg.step (pc' := 54) (I_iconst dX12_begin_53 ⟨by decide, by decide⟩) ?_
  refine Seg.step (pc' := 57) (I_putZ cls12 (by decide) wf_12_394 (hE _ _ sk_12) rfl rfl (by decide) dX12_begin_54) ?_
  refine S_bM fun M13 => ?_
  exact S_vret dX12_begin_57 rfl (by decide) (by decide) (fun K hK => hK)
theorem dX12_keepText_0 : decode cX12_keepText 0 = .ok (.aload_n 0, 1) := by decide +kernel
theorem dX12_keepText_1 : decode cX12_keepText 1 = .ok (.aload_n 0, 1) := by decide +kernel
theorem dX12_keepText_2 : decode cX12_keepText 2 = .ok (.getfield 237, 3) := by decide +kernel
theorem dX12_keepText_5 : decode cX12_keepText 5 = .ok (.putfield 255, 3) := by decide +kernel
theorem dX12_keepText_8 : decode cX12_keepText 8 = .ok (.aload_n 0, 1) := by decide +kernel
theorem dX12_keepText_9 : decode cX12_keepText 9 = .ok (.aload_n 0, 1) := by decide +kernel
theorem dX12_keepText_10 : decode cX12_keepText 10 = .ok (.getfield 240, 3) := by decide +kernel
theorem dX12_keepText_13 : decode cX12_keepText 13 = .ok (.putfield 258, 3) := by decide +kernel
theorem dX12_keepText_16 : decode cX12_keepText 16 = .ok (.aload_n 0, 1) := by decide +kernel
theorem dX12_keepText_17 : decode cX12_keepText 17 = .ok (.aload_n 0, 1) := by decide +kernel
theorem dX12_keepText_18 : decode cX12_keepText 18 = .ok (.getfield 243, 3) := by decide +kernel
theorem dX12_keepText_21 : decode cX12_keepText 21 = .ok (.putfield 261, 3) := by decide +kernel
theorem dX12_keepText_24 : decode cX12_keepText 24 = .ok (.aload_n 0, 1) := by decide +kernel
theorem dX12_keepText_25 : decode cX12_keepText 25 = .ok (.aload_n 0, 1) := by decide +kernel
theorem dX12_keepText_26 : decode cX12_keepText 26 = .ok (.getfield 246, 3) := by decide +kernel
theorem dX12_keepText_29 : decode cX12_keepText 29 = .ok (.putfield 264, 3) := by decide +kernel
theorem dX12_keepText_32 : decode cX12_keepText 32 = .ok (.aload_n 0, 1) := by decide +kernel
theorem dX12_keepText_33 : decode cX12_keepText 33 = .ok (.aload_n 0, 1) := by decide +kernel
theorem dX12_keepText_34 : decode cX12_keepText 34 = .ok (.getfield 249, 3) := by decide +kernel
theorem dX12_keepText_37 : decode cX12_keepText 37 = .ok (.putfield 267, 3) := by decide +kernel
theorem dX12_keepText_40 : decode cX12_keepText 40 = .ok (.aload_n 0, 1) := by decide +kernel
theorem dX12_keepText_41 : decode cX12_keepText 41 = .ok (.getfield 24, 3) := by decide +kernel
theorem dX12_keepText_44 : decode cX12_keepText 44 = .ok (.iconst 3, 1) := by decide +kernel
theorem dX12_keepText_45 : decode cX12_keepText 45 = .ok (.invokestatic 270, 3) := by decide +kernel
theorem dX12_keepText_48 : decode cX12_keepText 48 = .ok (.aload_n 0, 1) := by decide +kernel
theorem dX12_keepText_49 : decode cX12_keepText 49 = .ok (.getfield 27, 3) := by decide +kernel
theorem dX12_keepText_52 : decode cX12_keepText 52 = .ok (.iconst 5, 1) := by decide +kernel
theorem dX12_keepText_53 : decode cX12_keepText 53 = .ok (.invokestatic 270, 3) := by decide +kernel
theorem dX12_keepText_56 : decode cX12_keepText 56 = .ok (.aload_n 0, 1) := by decide +kernel
theorem dX12_keepText_57 : decode cX12_keepText 57 = .ok (.getfield 30, 3) := by decide +kernel
theorem dX12_keepText_60 : decode cX12_keepText 60 = .ok (.iconst 5, 1) := by decide +kernel
theorem dX12_keepText_61 : decode cX12_keepText 61 = .ok (.invokestatic 270, 3) := by decide +kernel
theorem dX12_keepText_64 : decode cX12_keepText 64 = .ok (.aload_n 0, 1) := by decide +kernel
theorem dX12_keepText_65 : decode cX12_keepText 65 = .ok (.getfield 33, 3) := by decide +kernel
theorem dX12_keepText_68 : decode cX12_keepText 68 = .ok (.iconst 5, 1) := by decide +kernel
theorem dX12_keepText_69 : decode cX12_keepText 69 = .ok (.invokestatic 270, 3) := by decide +kernel
theorem dX12_keepText_72 : decode cX12_keepText 72 = .ok (.aload_n 0, 1) := by decide +kernel
theorem dX12_keepText_73 : decode cX12_keepText 73 = .ok (.getfield 36, 3) := by decide +kernel
theorem dX12_keepText_76 : decode cX12_keepText 76 = .ok (.iconst 5, 1) := by decide +kernel
theorem dX12_keepText_77 : decode cX12_keepText 77 = .ok (.invokestatic 270, 3) := by decide +kernel
theorem dX12_keepText_80 : decode cX12_keepText 80 = .ok (.aload_n 0, 1) := by decide +kernel
theorem dX12_keepText_81 : decode cX12_keepText 81 = .ok (.getfield 39, 3) := by decide +kernel
theorem dX12_keepText_84 : decode cX12_keepText 84 = .ok (.iconst 5, 1) := by decide +kernel
theorem dX12_keepText_85 : decode cX12_keepText 85 = .ok (.invokestatic 270, 3) := by decide +kernel
theorem dX12_keepText_88 : decode cX12_keepText 88 = .ok (.aload_n 0, 1) := by decide +kernel
theorem dX12_keepText_89 : decode cX12_keepText 89 = .ok (.getfield 42, 3) := by decide +kernel
theorem dX12_keepText_92 : decode cX12_keepText 92 = .ok (.iconst 5, 1) := by decide +kernel
theorem dX12_keepText_93 : decode cX12_keepText 93 = .ok (.invokestatic 270, 3) := by decide +kernel
theorem dX12_keepText_96 : decode cX12_keepText 96 = .ok (.aload_n 0, 1) := by decide +kernel
theorem dX12_keepText_97 : decode cX12_keepText 97 = .ok (.getfield 45, 3) := by decide +kernel
theorem dX12_keepText_100 : decode cX12_keepText 100 = .ok (.iconst 5, 1) := by decide +kernel
theorem dX12_keepText_101 : decode cX12_keepText 101 = .ok (.invokestatic 270, 3) := by decide +kernel
theorem dX12_keepText_104 : decode cX12_keepText 104 = .ok (.aload_n 0, 1) := by decide +kernel
theorem dX12_keepText_105 : decode cX12_keepText 105 = .ok (.getfield 48, 3) := by decide +kernel
theorem dX12_keepText_108 : decode cX12_keepText 108 = .ok (.iconst 5, 1) := by decide +kernel
theorem dX12_keepText_109 : decode cX12_keepText 109 = .ok (.invokestatic 270, 3) := by decide +kernel
theorem dX12_keepText_112 : decode cX12_keepText 112 = .ok (.aload_n 0, 1) := by decide +kernel
theorem dX12_keepText_113 : decode cX12_keepText 113 = .ok (.getfield 51, 3) := by decide +kernel
theorem dX12_keepText_116 : decode cX12_keepText 116 = .ok (.iconst 5, 1) := by decide +kernel
theorem dX12_keepText_117 : decode cX12_keepText 117 = .ok (.invokestatic 270, 3) := by decide +kernel
theorem dX12_keepText_120 : decode cX12_keepText 120 = .ok (.aload_n 0, 1) := by decide +kernel
theorem dX12_keepText_121 : decode cX12_keepText 121 = .ok (.getfield 54, 3) := by decide +kernel
theorem dX12_keepText_124 : decode cX12_keepText 124 = .ok (.iconst 4, 1) := by decide +kernel
theorem dX12_keepText_125 : decode cX12_keepText 125 = .ok (.invokestatic 270, 3) := by decide +kernel
theorem dX12_keepText_128 : decode cX12_keepText 128 = .ok (.aload_n 0, 1) := by decide +kernel
theorem dX12_keepText_129 : decode cX12_keepText 129 = .ok (.getfield 57, 3) := by decide +kernel
theorem dX12_keepText_132 : decode cX12_keepText 132 = .ok (.iconst 4, 1) := by decide +kernel
theorem dX12_keepText_133 : decode cX12_keepText 133 = .ok (.invokestatic 270, 3) := by decide +kernel
theorem dX12_keepText_136 : decode cX12_keepText 136 = .ok (.aload_n 0, 1) := by decide +kernel
theorem dX12_keepText_137 : decode cX12_keepText 137 = .ok (.getfield 60, 3) := by decide +kernel
theorem dX12_keepText_140 : decode cX12_keepText 140 = .ok (.iconst 4, 1) := by decide +kernel
theorem dX12_keepText_141 : decode cX12_keepText 141 = .ok (.invokestatic 270, 3) := by decide +kernel
theorem dX12_keepText_144 : decode cX12_keepText 144 = .ok (.aload_n 0, 1) := by decide +kernel
theorem dX12_keepText_145 : decode cX12_keepText 145 = .ok (.getfield 63, 3) := by decide +kernel
theorem dX12_keepText_148 : decode cX12_keepText 148 = .ok (.bipush 8, 2) := by decide +kernel
theorem dX12_keepText_150 : decode cX12_keepText 150 = .ok (.invokestatic 270, 3) := by decide +kernel
theorem dX12_keepText_153 : decode cX12_keepText 153 = .ok (.iconst 0, 1) := by decide +kernel
theorem dX12_keepText_154 : decode cX12_keepText 154 = .ok (.istore_n 1, 1) := by decide +kernel
theorem dX12_keepText_155 : decode cX12_keepText 155 = .ok (.iload_n 1, 1) := by decide +kernel
theorem dX12_keepText_156 : decode cX12_keepText 156 = .ok (.iconst 3, 1) := by decide +kernel
theorem dX12_keepText_157 : decode cX12_keepText 157 = .ok (.if_icmp .ge 23, 3) := by decide +kernel
theorem dX12_keepText_160 : decode cX12_keepText 160 = .ok (.aload_n 0, 1) := by decide +kernel
theorem dX12_keepText_161 : decode cX12_keepText 161 = .ok (.getfield 66, 3) := by decide +kernel
theorem dX12_keepText_164 : decode cX12_keepText 164 = .ok (.iload_n 1, 1) := by decide +kernel
theorem dX12_keepText_165 : decode cX12_keepText 165 = .ok (.aload_n 0, 1) := by decide +kernel
theorem dX12_keepText_166 : decode cX12_keepText 166 = .ok (.getfield 66, 3) := by decide +kernel
theorem dX12_keepText_169 : decode cX12_keepText 169 = .ok (.iconst 3, 1) := by decide +kernel
theorem dX12_keepText_170 : decode cX12_keepText 170 = .ok (.iload_n 1, 1) := by decide +kernel
theorem dX12_keepText_171 : decode cX12_keepText 171 = .ok (.iadd, 1) := by decide +kernel
theorem dX12_keepText_172 : decode cX12_keepText 172 = .ok (.baload, 1) := by decide +kernel
theorem dX12_keepText_173 : decode cX12_keepText 173 = .ok (.bastore, 1) := by decide +kernel
theorem dX12_keepText_174 : decode cX12_keepText 174 = .ok (.iinc 1 1, 3) := by decide +kernel
theorem dX12_keepText_177 : decode cX12_keepText 177 = .ok (.goto (-22), 3) := by decide +kernel
theorem dX12_keepText_180 : decode cX12_keepText 180 = .ok (.aload_n 0, 1) := by decide +kernel
theorem dX12_keepText_181 : decode cX12_keepText 181 = .ok (.getfield 69, 3) := by decide +kernel
theorem dX12_keepText_184 : decode cX12_keepText 184 = .ok (.iconst 3, 1) := by decide +kernel
theorem dX12_keepText_185 : decode cX12_keepText 185 = .ok (.invokestatic 270, 3) := by decide +kernel
theorem dX12_keepText_188 : decode cX12_keepText 188 = .ok (.aload_n 0, 1) := by decide +kernel
theorem dX12_keepText_189 : decode cX12_keepText 189 = .ok (.getfield 72, 3) := by decide +kernel
theorem dX12_keepText_192 : decode cX12_keepText 192 = .ok (.iconst 3, 1) := by decide +kernel
theorem dX12_keepText_193 : decode cX12_keepText 193 = .ok (.invokestatic 270, 3) := by decide +kernel
theorem dX12_keepText_196 : decode cX12_keepText 196 = .ok (.aload_n 0, 1) := by decide +kernel
theorem dX12_keepText_197 : decode cX12_keepText 197 = .ok (.getfield 75, 3) := by decide +kernel
theorem dX12_keepText_200 : decode cX12_keepText 200 = .ok (.bipush 64, 2) := by decide +kernel
theorem dX12_keepText_202 : decode cX12_keepText 202 = .ok (.invokestatic 270, 3) := by decide +kernel
theorem dX12_keepText_205 : decode cX12_keepText 205 = .ok (.aload_n 0, 1) := by decide +kernel
theorem dX12_keepText_206 : decode cX12_keepText 206 = .ok (.getfield 78, 3) := by decide +kernel
theorem dX12_keepText_209 : decode cX12_keepText 209 = .ok (.bipush 64, 2) := by decide +kernel
theorem dX12_keepText_211 : decode cX12_keepText 211 = .ok (.invokestatic 270, 3) := by decide +kernel
theorem dX12_keepText_214 : decode cX12_keepText 214 = .ok (.aload_n 0, 1) := by decide +kernel
theorem dX12_keepText_215 : decode cX12_keepText 215 = .ok (.getfield 81, 3) := by decide +kernel
theorem dX12_keepText_218 : decode cX12_keepText 218 = .ok (.bipush 64, 2) := by decide +kernel
theorem dX12_keepText_220 : decode cX12_keepText 220 = .ok (.invokestatic 270, 3) := by decide +kernel
theorem dX12_keepText_223 : decode cX12_keepText 223 = .ok (.aload_n 0, 1) := by decide +kernel
theorem dX12_keepText_224 : decode cX12_keepText 224 = .ok (.invokevirtual 274, 3) := by decide +kernel
theorem dX12_keepText_227 : decode cX12_keepText 227 = .ok (.return_, 1) := by decide +kernel
def f_X12_keepText (M : MM)  : Option (MM) :=
bM (upM M 88 12 (M 88 17)) fun M1 =>
bM (upM M1 88 13 (M1 88 18)) fun M2 =>
bM (upM M2 88 14 (M2 88 19)) fun M3 =>
bM (upM M3 88 15 (M3 88 20)) fun M4 =>
bM (upM M4 88 16 (M4 88 21)) fun M5 =>
(f_X12_copies M5 92 6 3).bind fun x6 =>
(f_X12_copies x6 93 10 5).bind fun x7 =>
(f_X12_copies x7 94 10 5).bind fun x8 =>
(f_X12_copies x8 95 10 5).bind fun x9 =>
(f_X12_copies x9 96 10 5).bind fun x10 =>
(f_X12_copies x10 97 10 5).bind fun x11 =>
(f_X12_copies x11 98 10 5).bind fun x12 =>
(f_X12_copies x12 99 10 5).bind fun x13 =>
(f_X12_copies x13 100 10 5).bind fun x14 =>
(f_X12_copies x14 101 10 5).bind fun x15 =>
(f_X12_copies x15 102 8 4).bind fun x16 =>
(f_X12_copies x16 103 8 4).bind fun x17 =>
(f_X12_copies x17 104 8 4).bind fun x18 =>
(f_X12_copies x18 105 16 8).bind fun x19 =>
(lp (X := Int × MM) (Y := MM) (fun x20 =>
if x20.1 < 3 then
(gd (0 ≤ w32 (3 + x20.1) ∧ w32 (3 + x20.1) < (6 : Int)) <|
gd (0 ≤ x20.1 ∧ x20.1 < (6 : Int)) <|
gd ((x20.2 106 (w32 (3 + x20.1)).toNat) = 0 ∨ (x20.2 106 (w32 (3 + x20.1)).toNat) = 1) <|
bM (upM x20.2 106 (x20.1).toNat (x20.2 106 (w32 (3 + x20.1)).toNat)) fun M25 =>
some (Sum.inl (w32 (x20.1 + 1), M25)))
else
some (Sum.inr x20.2)) FU (0, x19)).bind fun x26 =>
(f_X12_copies x26 107 6 3).bind fun x27 =>
(f_X12_copies x27 108 6 3).bind fun x28 =>
(f_X12_copies x28 109 128 64).bind fun x29 =>
(f_X12_copies x29 110 128 64).bind fun x30 =>
(f_X12_copies x30 111 128 64).bind fun x31 =>
(f_X12_begin x31).bind fun x32 =>
some x32
set_option maxRecDepth 4000 in
theorem c_X12_keepText {E : EE} {sh : List (Nat × Nat)} {ex : Bool} {R : RM} {M : MM}  (hE : Ext sh) (hL : Links R) : ∀ y, f_X12_keepText M = some y → MetC E m_X12_keepText 0 0 [rV 88] (sh, ex, R, M) (fun r w' => r = none ∧ w' = (sh, ex, R, y)) := by
  intro y hy
  refine MetC.seg (o := f_X12_keepText M) (t := (fun K y => K (none) (sh, ex, R, y))) (L := [some (rV 88), none]) (by decide) rfl (Nat.le_of_ble_eq_true rfl) ?_ hy ⟨rfl, rfl⟩
  unfold f_X12_keepText
  refine Seg.step (pc' := 1) (I_aload_n (i := 0) dX12_keepText_0 rfl rfl) ?_
  refine Seg.step (pc' := 2) (I_aload_n (i := 0) dX12_keepText_1 rfl rfl) ?_
  refine Seg.step (pc' := 5) (I_getI cls12 (by decide) wf_12_237 (hE _ _ sk_12) rfl dX12_keepText_2) ?_
  refine Seg.step (pc' := 8) (I_putI cls12 (by decide) wf_12_255 (hE _ _ sk_12) rfl rfl dX12_keepText_5) ?_
  refine S_bM fun M1 => ?_
  refine Seg.step (pc' := 9) (I_aload_n (i := 0) dX12_keepText_8 rfl rfl) ?_
  refine Seg.step (pc' := 10) (I_aload_n (i := 0) dX12_keepText_9 rfl rfl) ?_
  refine Seg.step (pc' := 13) (I_getI cls12 (by decide) wf_12_240 (hE _ _ sk_12) rfl dX12_keepText_10) ?_
  refine Seg.step (pc' := 16) (I_putI cls12 (by decide) wf_12_258 (hE _ _ sk_12) rfl rfl dX12_keepText_13) ?_
  refine S_bM fun M2 => ?_
  refine Seg.step (pc' := 17) (I_aload_n (i := 0) dX12_keepText_16 rfl rfl) ?_
  refine Seg.step (pc' := 18) (I_aload_n (i := 0) dX12_keepText_17 rfl rfl) ?_
  refine Seg.step (pc' := 21) (I_getI cls12 (by decide) wf_12_243 (hE _ _ sk_12) rfl dX12_keepText_18) ?_
  refine Seg.step (pc' := 24) (I_putI cls12 (by decide) wf_12_261 (hE _ _ sk_12) rfl rfl dX12_keepText_21) ?_
  refine S_bM fun M3 => ?_
  refine Seg.step (pc' := 25) (I_aload_n (i := 0) dX12_keepText_24 rfl rfl) ?_
  refine Seg.step (pc' := 26) (I_aload_n (i := 0) dX12_keepText_25 rfl rfl) ?_
  refine Seg.step (pc' := 29) (I_getI cls12 (by decide) wf_12_246 (hE _ _ sk_12) rfl dX12_keepText_26) ?_
  refine Seg.step (pc' := 32) (I_putI cls12 (by decide) wf_12_264 (hE _ _ sk_12) rfl rfl dX12_keepText_29) ?_
  refine S_bM fun M4 => ?_
  refine Seg.step (pc' := 33) (I_aload_n (i := 0) dX12_keepText_32 rfl rfl) ?_
  refine Seg.step (pc' := 34) (I_aload_n (i := 0) dX12_keepText_33 rfl rfl) ?_
  refine Seg.step (pc' := 37) (I_getI cls12 (by decide) wf_12_249 (hE _ _ sk_12) rfl dX12_keepText_34) ?_
  refine Seg.step (pc' := 40) (I_putI cls12 (by decide) wf_12_267 (hE _ _ sk_12) rfl rfl dX12_keepText_37) ?_
  refine S_bM fun M5 => ?_
  refine Seg.step (pc' := 41) (I_aload_n (i := 0) dX12_keepText_40 rfl rfl) ?_
  refine Seg.step (pc' := 44) (I_getR cls12 (by decide) wf_12_24 (hE _ _ sk_12) rfl (lk_12_23 hL) dX12_keepText_41) ?_
  refine Seg.step (pc' := 45) (I_iconst dX12_keepText_44 ⟨by decide, by decide⟩) ?_
  refine S_callS2 (md' := m_X12_copies) (fun y => none) (fun y => (sh, ex, R, y)) mm_X12_copies wm_12_270 ⟨rfl, rfl, by decide, by decide, by decide, by decide⟩ (Nat.le_of_ble_eq_true rfl) dX12_keepText_45 (fun y hy => c_X12_copies hE hL sk_12_23 y hy) (fun x6 => ?_)
  refine Seg.step (pc' := 49) (I_aload_n (i := 0) dX12_keepText_48 rfl rfl) ?_
  refine Seg.step (pc' := 52) (I_getR cls12 (by decide) wf_12_27 (hE _ _ sk_12) rfl (lk_12_24 hL) dX12_keepText_49) ?_
  refine Seg.step (pc' := 53) (I_iconst dX12_keepText_52 ⟨by decide, by decide⟩) ?_
  refine S_callS2 (md' := m_X12_copies) (fun y => none) (fun y => (sh, ex, R, y)) mm_X12_copies wm_12_270 ⟨rfl, rfl, by decide, by decide, by decide, by decide⟩ (Nat.le_of_ble_eq_true rfl) dX12_keepText_53 (fun y hy => c_X12_copies hE hL sk_12_24 y hy) (fun x7 => ?_)
  refine Seg.step (pc' := 57) (I_aload_n (i := 0) dX12_keepText_56 rfl rfl) ?_
  refine Seg.step (pc' := 60) (I_getR cls12 (by decide) wf_12_30 (hE _ _ sk_12) rfl (lk_12_25 hL) dX12_keepText_57) ?_
  refine Seg.step (pc' := 61) (I_iconst dX12_keepText_60 ⟨by decide, by decide⟩) ?_
  refine S_callS2 (md' := m_X12_copies) (fun y => none) (fun y => (sh, ex, R, y)) mm_X12_copies wm_12_270 ⟨rfl, rfl, by decide, by decide, by decide, by decide⟩ (Nat.le_of_ble_eq_true rfl) dX12_keepText_61 (fun y hy => c_X12_copies hE hL sk_12_25 y hy) (fun x8 => ?_)
  refine Seg.step (pc' := 65) (I_aload_n (i := 0) dX12_keepText_64 rfl rfl) ?_
  refine Seg.step (pc' := 68) (I_getR cls12 (by decide) wf_12_33 (hE _ _ sk_12) rfl (lk_12_26 hL) dX12_keepText_65) ?_
  refine Seg.step (pc' := 69) (I_iconst dX12_keepText_68 ⟨by decide, by decide⟩) ?_
  refine S_callS2 (md' := m_X12_copies) (fun y => none) (fun y => (sh, ex, R, y)) mm_X12_copies wm_12_270 ⟨rfl, rfl, by decide, by decide, by decide, by decide⟩ (Nat.le_of_ble_eq_true rfl) dX12_keepText_69 (fun y hy => c_X12_copies hE hL sk_12_26 y hy) (fun x9 => ?_)
  refine Seg.step (pc' := 73) (I_aload_n (i := 0) dX12_keepText_72 rfl rfl) ?_
  refine Seg.step (pc' := 76) (I_getR cls12 (by decide) wf_12_36 (hE _ _ sk_12) rfl (lk_12_27 hL) dX12_keepText_73) ?_
  refine Seg.step (pc' := 77) (I_iconst dX12_keepText_76 ⟨by decide, by decide⟩) ?_
  refine S_callS2 (md' := m_X12_copies) (fun y => none) (fun y => (sh, ex, R, y)) mm_X12_copies wm_12_270 ⟨rfl, rfl, by decide, by decide, by decide, by decide⟩ (Nat.le_of_ble_eq_true rfl) dX12_keepText_77 (fun y hy => c_X12_copies hE hL sk_12_27 y hy) (fun x10 => ?_)
  refine Seg.step (pc' := 81) (I_aload_n (i := 0) dX12_keepText_80 rfl rfl) ?_
  refine Seg.step (pc' := 84) (I_getR cls12 (by decide) wf_12_39 (hE _ _ sk_12) rfl (lk_12_28 hL) dX12_keepText_81) ?_
  refine Seg.step (pc' := 85) (I_iconst dX12_keepText_84 ⟨by decide, by decide⟩) ?_
  refine S_callS2 (md' := m_X12_copies) (fun y => none) (fun y => (sh, ex, R, y)) mm_X12_copies wm_12_270 ⟨rfl, rfl, by decide, by decide, by decide, by decide⟩ (Nat.le_of_ble_eq_true rfl) dX12_keepText_85 (fun y hy => c_X12_copies hE hL sk_12_28 y hy) (fun x11 => ?_)
  refine Seg.step (pc' := 89) (I_aload_n (i := 0) dX12_keepText_88 rfl rfl) ?_
  refine Seg.step (pc' := 92) (I_getR cls12 (by decide) wf_12_42 (hE _ _ sk_12) rfl (lk_12_29 hL) dX12_keepText_89) ?_
  refine Seg.step (pc' := 93) (I_iconst dX12_keepText_92 ⟨by decide, by decide⟩) ?_
  refine S_callS2 (md' := m_X12_copies) (fun y => none) (fun y => (sh, ex, R, y)) mm_X12_copies wm_12_270 ⟨rfl, rfl, by decide, by decide, by decide, by decide⟩ (Nat.le_of_ble_eq_true rfl) dX12_keepText_93 (fun y hy => c_X12_copies hE hL sk_12_29 y hy) (fun x12 => ?_)
  refine Seg.step (pc' := 97) (I_aload_n (i := 0) dX12_keepText_96 rfl rfl) ?_
  refine Seg.step (pc' := 100) (I_getR cls12 (by decide) wf_12_45 (hE _ _ sk_12) rfl (lk_12_30 hL) dX12_keepText_97) ?_
  refine Seg.step (pc' := 101) (I_iconst dX12_keepText_100 ⟨by decide, by decide⟩) ?_
  refine S_callS2 (md' := m_X12_copies) (fun y => none) (fun y => (sh, ex, R, y)) mm_X12_copies wm_12_270 ⟨rfl, rfl, by decide, by decide, by decide, by decide⟩ (Nat.le_of_ble_eq_true rfl) dX12_keepText_101 (fun y hy => c_X12_copies hE hL sk_12_30 y hy) (fun x13 => ?_)
  refine Seg.step (pc' := 105) (I_aload_n (i := 0) dX12_keepText_104 rfl rfl) ?_
  refine Seg.step (pc' := 108) (I_getR cls12 (by decide) wf_12_48 (hE _ _ sk_12) rfl (lk_12_31 hL) dX12_keepText_105) ?_
  refine Seg.step (pc' := 109) (I_iconst dX12_keepText_108 ⟨by decide, by decide⟩) ?_
  refine S_callS2 (md' := m_X12_copies) (fun y => none) (fun y => (sh, ex, R, y)) mm_X12_copies wm_12_270 ⟨rfl, rfl, by decide, by decide, by decide, by decide⟩ (Nat.le_of_ble_eq_true rfl) dX12_keepText_109 (fun y hy => c_X12_copies hE hL sk_12_31 y hy) (fun x14 => ?_)
  refine Seg.step (pc' := 113) (I_aload_n (i := 0) dX12_keepText_112 rfl rfl) ?_
  refine Seg.step (pc' := 116) (I_getR cls12 (by decide) wf_12_51 (hE _ _ sk_12) rfl (lk_12_32 hL) dX12_keepText_113) ?_
  refine Seg.step (pc' := 117) (I_iconst dX12_keepText_116 ⟨by decide, by decide⟩) ?_
  refine S_callS2 (md' := m_X12_copies) (fun y => none) (fun y => (sh, ex, R, y)) mm_X12_copies wm_12_270 ⟨rfl, rfl, by decide, by decide, by decide, by decide⟩ (Nat.le_of_ble_eq_true rfl) dX12_keepText_117 (fun y hy => c_X12_copies hE hL sk_12_32 y hy) (fun x15 => ?_)
  refine Seg.step (pc' := 121) (I_aload_n (i := 0) dX12_keepText_120 rfl rfl) ?_
  refine Seg.step (pc' := 124) (I_getR cls12 (by decide) wf_12_54 (hE _ _ sk_12) rfl (lk_12_33 hL) dX12_keepText_121) ?_
  refine Seg.step (pc' := 125) (I_iconst dX12_keepText_124 ⟨by decide, by decide⟩) ?_
  refine S_callS2 (md' := m_X12_copies) (fun y => none) (fun y => (sh, ex, R, y)) mm_X12_copies wm_12_270 ⟨rfl, rfl, by decide, by decide, by decide, by decide⟩ (Nat.le_of_ble_eq_true rfl) dX12_keepText_125 (fun y hy => c_X12_copies hE hL sk_12_33 y hy) (fun x16 => ?_)
  refine Seg.step (pc' := 129) (I_aload_n (i := 0) dX12_keepText_128 rfl rfl) ?_
  refine Seg.step (pc' := 132) (I_getR cls12 (by decide) wf_12_57 (hE _ _ sk_12) rfl (lk_12_34 hL) dX12_keepText_129) ?_
  refine Seg.step (pc' := 133) (I_iconst dX12_keepText_132 ⟨by decide, by decide⟩) ?_
  refine S_callS2 (md' := m_X12_copies) (fun y => none) (fun y => (sh, ex, R, y)) mm_X12_copies wm_12_270 ⟨rfl, rfl, by decide, by decide, by decide, by decide⟩ (Nat.le_of_ble_eq_true rfl) dX12_keepText_133 (fun y hy => c_X12_copies hE hL sk_12_34 y hy) (fun x17 => ?_)
  refine Seg.step (pc' := 137) (I_aload_n (i := 0) dX12_keepText_136 rfl rfl) ?_
  refine Seg.step (pc' := 140) (I_getR cls12 (by decide) wf_12_60 (hE _ _ sk_12) rfl (lk_12_35 hL) dX12_keepText_137) ?_
  refine Seg.step (pc' := 141) (I_iconst dX12_keepText_140 ⟨by decide, by decide⟩) ?_
  refine S_callS2 (md' := m_X12_copies) (fun y => none) (fun y => (sh, ex, R, y)) mm_X12_copies wm_12_270 ⟨rfl, rfl, by decide, by decide, by decide, by decide⟩ (Nat.le_of_ble_eq_true rfl) dX12_keepText_141 (fun y hy => c_X12_copies hE hL sk_12_35 y hy) (fun x18 => ?_)
  refine Seg.step (pc' := 145) (I_aload_n (i := 0) dX12_keepText_144 rfl rfl) ?_
  refine Seg.step (pc' := 148) (I_getR cls12 (by decide) wf_12_63 (hE _ _ sk_12) rfl (lk_12_36 hL) dX12_keepText_145) ?_
  refine Seg.step (pc' := 150) (I_bipush dX12_keepText_148 (by decide) ⟨by decide, by decide⟩) ?_
  refine S_callS2 (md' := m_X12_copies) (fun y => none) (fun y => (sh, ex, R, y)) mm_X12_copies wm_12_270 ⟨rfl, rfl, by decide, by decide, by decide, by decide⟩ (Nat.le_of_ble_eq_true rfl) dX12_keepText_150 (fun y hy => c_X12_copies hE hL sk_12_36 y hy) (fun x19 => ?_)
  refine Seg.step (pc' := 154) (I_iconst dX12_keepText_153 ⟨by decide, by decide⟩) ?_
  refine Seg.step (pc' := 155) (I_istore_n (i := 1) dX12_keepText_154 rfl (by decide) rfl) ?_
  refine Seg.forget (Lle.ye (Lle.ye (Lle.nil))) ?_
  refine S_bind (Y := MM) (k' := 0) (n' := 0) 180 (fun y => [some (rV 88), none]) (fun y => []) (fun y => (sh, ex, R, y)) (S_loop (Y := Int × MM) (fun y => [some (rV 88), some (iV y.1)]) (fun y => []) (fun y => (sh, ex, R, y.2)) (fun x20 => ?_) FU (0, x19)) (fun x26 => ?_)
  · refine Seg.step (pc' := 156) (I_iload_n (i := 1) dX12_keepText_155 rfl rfl) ?_
    refine Seg.step (pc' := 157) (I_iconst dX12_keepText_156 ⟨by decide, by decide⟩) ?_
    refine S_icmp_ge (tgt := 180) dX12_keepText_157 (by decide) (fun h21 => ?_) (fun h21 => ?_)
    · refine Seg.step (pc' := 161) (I_aload_n (i := 0) dX12_keepText_160 rfl rfl) ?_
      refine Seg.step (pc' := 164) (I_getR cls12 (by decide) wf_12_66 (hE _ _ sk_12) rfl (lk_12_37 hL) dX12_keepText_161) ?_
      refine Seg.step (pc' := 165) (I_iload_n (i := 1) dX12_keepText_164 rfl rfl) ?_
      refine Seg.step (pc' := 166) (I_aload_n (i := 0) dX12_keepText_165 rfl rfl) ?_
      refine Seg.step (pc' := 169) (I_getR cls12 (by decide) wf_12_66 (hE _ _ sk_12) rfl (lk_12_37 hL) dX12_keepText_166) ?_
      refine Seg.step (pc' := 170) (I_iconst dX12_keepText_169 ⟨by decide, by decide⟩) ?_
      refine Seg.step (pc' := 171) (I_iload_n (i := 1) dX12_keepText_170 rfl rfl) ?_
      refine Seg.step (pc' := 172) (I_iadd dX12_keepText_171) ?_
      refine S_gd fun h22 => ?_
      refine Seg.step (pc' := 173) (I_zald (hE _ _ sk_12_37) h22 dX12_keepText_172) ?_
      refine S_gd fun h23 => ?_
      refine S_gd fun h24 => ?_
      refine Seg.step (pc' := 174) (I_zast (hE _ _ sk_12_37) h23 h24 dX12_keepText_173) ?_
      refine S_bM fun M25 => ?_
      refine Seg.step (pc' := 177) (I_iinc dX12_keepText_174 rfl (by decide) rfl) ?_
      refine Seg.step (pc' := 155) (I_goto (tgt := 155) dX12_keepText_177 (by decide)) ?_
      exact S_arr (fun K hK => GG.forget (Lle.ye (Lle.ye (Lle.nil))) hK)
    exact S_arr (fun K hK => GG.forget (Lle.ye (Lle.no (Lle.nil))) hK)
  refine Seg.step (pc' := 181) (I_aload_n (i := 0) dX12_keepText_180 rfl rfl) ?_
  refine Seg.step (pc' := 184) (I_getR cls12 (by decide) wf_12_69 (hE _ _ sk_12) rfl (lk_12_38 hL) dX12_keepText_181) ?_
  refine Seg.step (pc' := 185) (I_iconst dX12_keepText_184 ⟨by decide, by decide⟩) ?_
  refine S_callS2 (md' := m_X12_copies) (fun y => none) (fun y => (sh, ex, R, y)) mm_X12_copies wm_12_270 ⟨rfl, rfl, by decide, by decide, by decide, by decide⟩ (Nat.le_of_ble_eq_true rfl) dX12_keepText_185 (fun y hy => c_X12_copies hE hL sk_12_38 y hy) (fun x27 => ?_)
  refine Seg.step (pc' := 189) (I_aload_n (i := 0) dX12_keepText_188 rfl rfl) ?_
  refine Seg.step (pc' := 192) (I_getR cls12 (by decide) wf_12_72 (hE _ _ sk_12) rfl (lk_12_39 hL) dX12_keepText_189) ?_
  refine Seg.step (pc' := 193) (I_iconst dX12_keepText_192 ⟨by decide, by decide⟩) ?_
  refine S_callS2 (md' := m_X12_copies) (fun y => none) (fun y => (sh, ex, R, y)) mm_X12_copies wm_12_270 ⟨rfl, rfl, by decide, by decide, by decide, by decide⟩ (Nat.le_of_ble_eq_true rfl) dX12_keepText_193 (fun y hy => c_X12_copies hE hL sk_12_39 y hy) (fun x28 => ?_)
  refine Seg.step (pc' := 197) (I_aload_n (i := 0) dX12_keepText_196 rfl rfl) ?_
  refine Seg.step (pc' := 200) (I_getR cls12 (by decide) wf_12_75 (hE _ _ sk_12) rfl (lk_12_40 hL) dX12_keepText_197) ?_
  refine Seg.step (pc' := 202) (I_bipush dX12_keepText_200 (by decide) ⟨by decide, by decide⟩) ?_
  refine S_callS2 (md' := m_X12_copies) (fun y => none) (fun y => (sh, ex, R, y)) mm_X12_copies wm_12_270 ⟨rfl, rfl, by decide, by decide, by decide, by decide⟩ (Nat.le_of_ble_eq_true rfl) dX12_keepText_202 (fun y hy => c_X12_copies hE hL sk_12_40 y hy) (fun x29 => ?_)
  refine Seg.step (pc' := 206) (I_aload_n (i := 0) dX12_keepText_205 rfl rfl) ?_
  refine Seg.step (pc' := 209) (I_getR cls12 (by decide) wf_12_78 (hE _ _ sk_12) rfl (lk_12_41 hL) dX12_keepText_206) ?_
  refine Seg.step (pc' := 211) (I_bipush dX12_keepText_209 (by decide) ⟨by decide, by decide⟩) ?_
  refine S_callS2 (md' := m_X12_copies) (fun y => none) (fun y => (sh, ex, R, y)) mm_X12_copies wm_12_270 ⟨rfl, rfl, by decide, by decide, by decide, by decide⟩ (Nat.le_of_ble_eq_true rfl) dX12_keepText_211 (fun y hy => c_X12_copies hE hL sk_12_41 y hy) (fun x30 => ?_)
  refine Seg.step (pc' := 215) (I_aload_n (i := 0) dX12_keepText_214 rfl rfl) ?_
  refine Seg.step (pc' := 218) (I_getR cls12 (by decide) wf_12_81 (hE _ _ sk_12) rfl (lk_12_42 hL) dX12_keepText_215) ?_
  refine Seg.step (pc' := 220) (I_bipush dX12_keepText_218 (by decide) ⟨by decide, by decide⟩) ?_
  refine S_callS2 (md' := m_X12_copies) (fun y => none) (fun y => (sh, ex, R, y)) mm_X12_copies wm_12_270 ⟨rfl, rfl, by decide, by decide, by decide, by decide⟩ (Nat.le_of_ble_eq_true rfl) dX12_keepText_220 (fun y hy => c_X12_copies hE hL sk_12_42 y hy) (fun x31 => ?_)
  refine Seg.step (pc' := 224) (I_aload_n (i := 0) dX12_keepText_223 rfl rfl) ?_
  refine S_callV0 (md' := m_X12_begin) (fun y => none) (fun y => (sh, ex, R, y)) (hE _ _ sk_12) ⟨by decide, rfl⟩ mm_X12_begin wm_12_274 ⟨rfl, rfl, by decide, by decide, by decide, by decide⟩ (Nat.le_of_ble_eq_true rfl) dX12_keepText_224 (fun y hy => c_X12_begin hE hL y hy) (fun x32 => ?_)
  exact S_vret dX12_keepText_227 rfl (by decide) (by decide) (fun K hK => hK)
theorem dX12_find_0 : decode cX12_find 0 = .ok (.iconst 0, 1) := by decide +kernel
theorem dX12_find_1 : decode cX12_find 1 = .ok (.istore 4, 2) := by decide +kernel
theorem dX12_find_3 : decode cX12_find 3 = .ok (.iload 4, 2) := by decide +kernel
theorem dX12_find_5 : decode cX12_find 5 = .ok (.iload_n 2, 1) := by decide +kernel
theorem dX12_find_6 : decode cX12_find 6 = .ok (.if_icmp .ge 22, 3) := by decide +kernel
theorem dX12_find_9 : decode cX12_find 9 = .ok (.aload_n 0, 1) := by decide +kernel
theorem dX12_find_10 : decode cX12_find 10 = .ok (.iload_n 1, 1) := by decide +kernel
theorem dX12_find_11 : decode cX12_find 11 = .ok (.iload 4, 2) := by decide +kernel
theorem dX12_find_13 : decode cX12_find 13 = .ok (.iadd, 1) := by decide +kernel
theorem dX12_find_14 : decode cX12_find 14 = .ok (.iaload, 1) := by decide +kernel
theorem dX12_find_15 : decode cX12_find 15 = .ok (.iload_n 3, 1) := by decide +kernel
theorem dX12_find_16 : decode cX12_find 16 = .ok (.if_icmp .ne 6, 3) := by decide +kernel
theorem dX12_find_19 : decode cX12_find 19 = .ok (.iload 4, 2) := by decide +kernel
theorem dX12_find_21 : decode cX12_find 21 = .ok (.ireturn, 1) := by decide +kernel
theorem dX12_find_22 : decode cX12_find 22 = .ok (.iinc 4 1, 3) := by decide +kernel
theorem dX12_find_25 : decode cX12_find 25 = .ok (.goto (-22), 3) := by decide +kernel
theorem dX12_find_28 : decode cX12_find 28 = .ok (.iconst (-1), 1) := by decide +kernel
theorem dX12_find_29 : decode cX12_find 29 = .ok (.ireturn, 1) := by decide +kernel
def f_X12_find (M : MM) (a1 n1 : Nat) (p2 : Int) (p3 : Int) (p4 : Int) : Option (Int) :=
lp (X := Int) (Y := Int) (fun x1 =>
if x1 < p3 then
(gd (0 ≤ w32 (p2 + x1) ∧ w32 (p2 + x1) < (n1 : Int)) <|
if (M a1 (w32 (p2 + x1)).toNat) = p4 then
(some (Sum.inr x1))
else
some (Sum.inl (w32 (x1 + 1))))
else
some (Sum.inr (-1))) FU 0
set_option maxRecDepth 4000 in
theorem c_X12_find {E : EE} {sh : List (Nat × Nat)} {ex : Bool} {R : RM} {M : MM} {a1 n1 : Nat} {p2 : Int} {p3 : Int} {p4 : Int} (hE : Ext sh) (hL : Links R) (hs1 : SH0[a1]? = some (50, n1)) : ∀ y, f_X12_find M a1 n1 p2 p3 p4 = some y → MetC E m_X12_find 0 0 [rV a1, iV p2, iV p3, iV p4] (sh, ex, R, M) (fun r w' => r = some (iV y) ∧ w' = (sh, ex, R, M)) := by
  intro y hy
  refine MetC.seg (o := f_X12_find M a1 n1 p2 p3 p4) (t := (fun K y => K (some (iV y)) (sh, ex, R, M))) (L := [some (rV a1), some (iV p2), some (iV p3), some (iV p4), none]) (by decide) rfl (Nat.le_of_ble_eq_true rfl) ?_ hy ⟨rfl, rfl⟩
  unfold f_X12_find
  refine Seg.step (pc' := 1) (I_iconst dX12_find_0 ⟨by decide, by decide⟩) ?_
  refine Seg.step (pc' := 3) (I_istore dX12_find_1 (by decide) rfl) ?_
  refine Seg.forget (Lle.ye (Lle.ye (Lle.ye (Lle.ye (Lle.ye (Lle.nil)))))) ?_
  refine S_loop (Y := Int) (fun y => [some (rV a1), some (iV p2), some (iV p3), some (iV p4), some (iV y)]) (fun y => []) (fun y => (sh, ex, R, M)) (fun x1 => ?_) FU 0
  refine Seg.step (pc' := 5) (I_iload dX12_find_3 rfl) ?_
  refine Seg.step (pc' := 6) (I_iload_n (i := 2) dX12_find_5 rfl rfl) ?_
  refine S_icmp_ge (tgt := 28) dX12_find_6 (by decide) (fun h2 => ?_) (fun h2 => ?_)
  · refine Seg.step (pc' := 10) (I_aload_n (i := 0) dX12_find_9 rfl rfl) ?_
    refine Seg.step (pc' := 11) (I_iload_n (i := 1) dX12_find_10 rfl rfl) ?_
    refine Seg.step (pc' := 13) (I_iload dX12_find_11 rfl) ?_
    refine Seg.step (pc' := 14) (I_iadd dX12_find_13) ?_
    refine S_gd fun h3 => ?_
    refine Seg.step (pc' := 15) (I_iald (hE _ _ hs1) h3 dX12_find_14) ?_
    refine Seg.step (pc' := 16) (I_iload_n (i := 3) dX12_find_15 rfl rfl) ?_
    refine S_icmp_ne (tgt := 22) dX12_find_16 (by decide) (fun h4 => ?_) (fun h4 => ?_)
    · refine Seg.step (pc' := 21) (I_iload dX12_find_19 rfl) ?_
      exact S_iret dX12_find_21 rfl (by decide) (by decide) (fun K hK => hK)
    refine Seg.step (pc' := 25) (I_iinc dX12_find_22 rfl (by decide) rfl) ?_
    refine Seg.step (pc' := 3) (I_goto (tgt := 3) dX12_find_25 (by decide)) ?_
    exact S_arr (fun K hK => GG.forget (Lle.ye (Lle.ye (Lle.ye (Lle.ye (Lle.ye (Lle.nil)))))) hK)
  refine Seg.step (pc' := 29) (I_iconst dX12_find_28 ⟨by decide, by decide⟩) ?_
  exact S_iret dX12_find_29 rfl (by decide) (by decide) (fun K hK => hK)
theorem dX12_newName_0 : decode cX12_newName 0 = .ok (.aload_n 0, 1) := by decide +kernel
theorem dX12_newName_1 : decode cX12_newName 1 = .ok (.getfield 193, 3) := by decide +kernel
theorem dX12_newName_4 : decode cX12_newName 4 = .ok (.iconst 2, 1) := by decide +kernel
theorem dX12_newName_5 : decode cX12_newName 5 = .ok (.if_icmp .eq 9, 3) := by decide +kernel
theorem dX12_newName_8 : decode cX12_newName 8 = .ok (.aload_n 0, 1) := by decide +kernel
theorem dX12_newName_9 : decode cX12_newName 9 = .ok (.iconst 1, 1) := by decide +kernel
theorem dX12_newName_10 : decode cX12_newName 10 = .ok (.invokevirtual 217, 3) := by decide +kernel
theorem dX12_newName_13 : decode cX12_newName 13 = .ok (.ireturn, 1) := by decide +kernel
theorem dX12_newName_14 : decode cX12_newName 14 = .ok (.aload_n 1, 1) := by decide +kernel
theorem dX12_newName_15 : decode cX12_newName 15 = .ok (.iload_n 2, 1) := by decide +kernel
theorem dX12_newName_16 : decode cX12_newName 16 = .ok (.iload_n 3, 1) := by decide +kernel
theorem dX12_newName_17 : decode cX12_newName 17 = .ok (.aload_n 0, 1) := by decide +kernel
theorem dX12_newName_18 : decode cX12_newName 18 = .ok (.getfield 204, 3) := by decide +kernel
theorem dX12_newName_21 : decode cX12_newName 21 = .ok (.invokestatic 277, 3) := by decide +kernel
theorem dX12_newName_24 : decode cX12_newName 24 = .ok (.ifCond .lt 9, 3) := by decide +kernel
theorem dX12_newName_27 : decode cX12_newName 27 = .ok (.aload_n 0, 1) := by decide +kernel
theorem dX12_newName_28 : decode cX12_newName 28 = .ok (.iconst 3, 1) := by decide +kernel
theorem dX12_newName_29 : decode cX12_newName 29 = .ok (.invokevirtual 217, 3) := by decide +kernel
theorem dX12_newName_32 : decode cX12_newName 32 = .ok (.ireturn, 1) := by decide +kernel
theorem dX12_newName_33 : decode cX12_newName 33 = .ok (.aload_n 1, 1) := by decide +kernel
theorem dX12_newName_34 : decode cX12_newName 34 = .ok (.iload_n 2, 1) := by decide +kernel
theorem dX12_newName_35 : decode cX12_newName 35 = .ok (.iload_n 3, 1) := by decide +kernel
theorem dX12_newName_36 : decode cX12_newName 36 = .ok (.iadd, 1) := by decide +kernel
theorem dX12_newName_37 : decode cX12_newName 37 = .ok (.aload_n 0, 1) := by decide +kernel
theorem dX12_newName_38 : decode cX12_newName 38 = .ok (.getfield 204, 3) := by decide +kernel
theorem dX12_newName_41 : decode cX12_newName 41 = .ok (.iastore, 1) := by decide +kernel
theorem dX12_newName_42 : decode cX12_newName 42 = .ok (.aload_n 0, 1) := by decide +kernel
theorem dX12_newName_43 : decode cX12_newName 43 = .ok (.invokevirtual 227, 3) := by decide +kernel
theorem dX12_newName_46 : decode cX12_newName 46 = .ok (.iconst 1, 1) := by decide +kernel
theorem dX12_newName_47 : decode cX12_newName 47 = .ok (.ireturn, 1) := by decide +kernel
def f_X12_newName (M : MM) (a1 n1 : Nat) (p2 : Int) (p3 : Int) : Option (Int × MM) :=
if (M 88 8) = 2 then
((f_X12_find M a1 n1 p2 p3 (M 88 9)).bind fun x2 =>
if x2 < 0 then
(gd (0 ≤ w32 (p2 + p3) ∧ w32 (p2 + p3) < (n1 : Int)) <|
bM (upM M a1 (w32 (p2 + p3)).toNat (M 88 9)) fun M5 =>
(f_X12_token M5).bind fun x6 =>
some (1, x6))
else
(f_X12_wrong M 3).bind fun x7 =>
gd (x7.1 = 0 ∨ x7.1 = 1) <|
some (x7.1, x7.2))
else
(f_X12_wrong M 1).bind fun x9 =>
gd (x9.1 = 0 ∨ x9.1 = 1) <|
some (x9.1, x9.2)
set_option maxRecDepth 4000 in
theorem c_X12_newName {E : EE} {sh : List (Nat × Nat)} {ex : Bool} {R : RM} {M : MM} {a1 n1 : Nat} {p2 : Int} {p3 : Int} (hE : Ext sh) (hL : Links R) (hs1 : SH0[a1]? = some (50, n1)) : ∀ y, f_X12_newName M a1 n1 p2 p3 = some y → MetC E m_X12_newName 0 0 [rV 88, rV a1, iV p2, iV p3] (sh, ex, R, M) (fun r w' => r = some (iV y.1) ∧ w' = (sh, ex, R, y.2)) := by
  intro y hy
  refine MetC.seg (o := f_X12_newName M a1 n1 p2 p3) (t := (fun K y => K (some (iV y.1)) (sh, ex, R, y.2))) (L := [some (rV 88), some (rV a1), some (iV p2), some (iV p3)]) (by decide) rfl (Nat.le_of_ble_eq_true rfl) ?_ hy ⟨rfl, rfl⟩
  unfold f_X12_newName
  refine Seg.step (pc' := 1) (I_aload_n (i := 0) dX12_newName_0 rfl rfl) ?_
  refine Seg.step (pc' := 4) (I_getI cls12 (by decide) wf_12_193 (hE _ _ sk_12) rfl dX12_newName_1) ?_
  refine Seg.step (pc' := 5) (I_iconst dX12_newName_4 ⟨by decide, by decide⟩) ?_
  refine S_icmp_eq (tgt := 14) dX12_newName_5 (by decide) (fun h1 => ?_) (fun h1 => ?_)
  · refine Seg.step (pc' := 15) (I_aload_n (i := 1) dX12_newName_14 rfl rfl) ?_
    refine Seg.step (pc' := 16) (I_iload_n (i := 2) dX12_newName_15 rfl rfl) ?_
    refine Seg.step (pc' := 17) (I_iload_n (i := 3) dX12_newName_16 rfl rfl) ?_
    refine Seg.step (pc' := 18) (I_aload_n (i := 0) dX12_newName_17 rfl rfl) ?_
    refine Seg.step (pc' := 21) (I_getI cls12 (by decide) wf_12_204 (hE _ _ sk_12) rfl dX12_newName_18) ?_
    refine S_callS4 (md' := m_X12_find) (fun y => some (iV y)) (fun y => (sh, ex, R, M)) mm_X12_find wm_12_277 ⟨rfl, rfl, by decide, by decide, by decide, by decide⟩ (Nat.le_of_ble_eq_true rfl) dX12_newName_21 (fun y hy => c_X12_find hE hL hs1 y hy) (fun x2 => ?_)
    refine S_if_lt (tgt := 33) dX12_newName_24 (by decide) (fun h3 => ?_) (fun h3 => ?_)
    · refine Seg.step (pc' := 34) (I_aload_n (i := 1) dX12_newName_33 rfl rfl) ?_
      refine Seg.step (pc' := 35) (I_iload_n (i := 2) dX12_newName_34 rfl rfl) ?_
      refine Seg.step (pc' := 36) (I_iload_n (i := 3) dX12_newName_35 rfl rfl) ?_
      refine Seg.step (pc' := 37) (I_iadd dX12_newName_36) ?_
      refine Seg.step (pc' := 38) (I_aload_n (i := 0) dX12_newName_37 rfl rfl) ?_
      refine Seg.step (pc' := 41) (I_getI cls12 (by decide) wf_12_204 (hE _ _ sk_12) rfl dX12_newName_38) ?_
      refine S_gd fun h4 => ?_
      refine Seg.step (pc' := 42) (I_iast (hE _ _ hs1) h4 dX12_newName_41) ?_
      refine S_bM fun M5 => ?_
      refine Seg.step (pc' := 43) (I_aload_n (i := 0) dX12_newName_42 rfl rfl) ?_
      refine S_callV0 (md' := m_X12_token) (fun y => none) (fun y => (sh, ex, R, y)) (hE _ _ sk_12) ⟨by decide, rfl⟩ mm_X12_token wm_12_227 ⟨rfl, rfl, by decide, by decide, by decide, by decide⟩ (Nat.le_of_ble_eq_true rfl) dX12_newName_43 (fun y hy => c_X12_token hE hL y hy) (fun x6 => ?_)
      refine Seg.step (pc' := 47) (I_iconst dX12_newName_46 ⟨by decide, by decide⟩) ?_
      exact S_zret dX12_newName_47 rfl (by decide) (by decide) (by decide) (fun K hK => hK)
    refine Seg.step (pc' := 28) (I_aload_n (i := 0) dX12_newName_27 rfl rfl) ?_
    refine Seg.step (pc' := 29) (I_iconst dX12_newName_28 ⟨by decide, by decide⟩) ?_
    refine S_callV1 (md' := m_X12_wrong) (fun y => some (iV y.1)) (fun y => (sh, ex, R, y.2)) (hE _ _ sk_12) ⟨by decide, rfl⟩ mm_X12_wrong wm_12_217 ⟨rfl, rfl, by decide, by decide, by decide, by decide⟩ (Nat.le_of_ble_eq_true rfl) dX12_newName_29 (fun y hy => c_X12_wrong hE hL y hy) (fun x7 => ?_)
    refine S_gd fun h8 => ?_
    exact S_zret dX12_newName_32 rfl h8 (by decide) (by decide) (fun K hK => hK)
  refine Seg.step (pc' := 9) (I_aload_n (i := 0) dX12_newName_8 rfl rfl) ?_
  refine Seg.step (pc' := 10) (I_iconst dX12_newName_9 ⟨by decide, by decide⟩) ?_
  refine S_callV1 (md' := m_X12_wrong) (fun y => some (iV y.1)) (fun y => (sh, ex, R, y.2)) (hE _ _ sk_12) ⟨by decide, rfl⟩ mm_X12_wrong wm_12_217 ⟨rfl, rfl, by decide, by decide, by decide, by decide⟩ (Nat.le_of_ble_eq_true rfl) dX12_newName_10 (fun y hy => c_X12_wrong hE hL y hy) (fun x9 => ?_)
  refine S_gd fun h10 => ?_
  exact S_zret dX12_newName_13 rfl h10 (by decide) (by decide) (fun K hK => hK)
theorem dX12_roomThere_0 : decode cX12_roomThere 0 = .ok (.aload_n 0, 1) := by decide +kernel
theorem dX12_roomThere_1 : decode cX12_roomThere 1 = .ok (.getfield 193, 3) := by decide +kernel
theorem dX12_roomThere_4 : decode cX12_roomThere 4 = .ok (.iconst 2, 1) := by decide +kernel
theorem dX12_roomThere_5 : decode cX12_roomThere 5 = .ok (.if_icmp .eq 9, 3) := by decide +kernel
theorem dX12_roomThere_8 : decode cX12_roomThere 8 = .ok (.aload_n 0, 1) := by decide +kernel
theorem dX12_roomThere_9 : decode cX12_roomThere 9 = .ok (.iconst 1, 1) := by decide +kernel
theorem dX12_roomThere_10 : decode cX12_roomThere 10 = .ok (.invokevirtual 217, 3) := by decide +kernel
theorem dX12_roomThere_13 : decode cX12_roomThere 13 = .ok (.ireturn, 1) := by decide +kernel
theorem dX12_roomThere_14 : decode cX12_roomThere 14 = .ok (.aload_n 0, 1) := by decide +kernel
theorem dX12_roomThere_15 : decode cX12_roomThere 15 = .ok (.getfield 27, 3) := by decide +kernel
theorem dX12_roomThere_18 : decode cX12_roomThere 18 = .ok (.iconst 5, 1) := by decide +kernel
theorem dX12_roomThere_19 : decode cX12_roomThere 19 = .ok (.aload_n 0, 1) := by decide +kernel
theorem dX12_roomThere_20 : decode cX12_roomThere 20 = .ok (.getfield 237, 3) := by decide +kernel
theorem dX12_roomThere_23 : decode cX12_roomThere 23 = .ok (.aload_n 0, 1) := by decide +kernel
theorem dX12_roomThere_24 : decode cX12_roomThere 24 = .ok (.getfield 204, 3) := by decide +kernel
theorem dX12_roomThere_27 : decode cX12_roomThere 27 = .ok (.invokestatic 277, 3) := by decide +kernel
theorem dX12_roomThere_30 : decode cX12_roomThere 30 = .ok (.istore_n 1, 1) := by decide +kernel
theorem dX12_roomThere_31 : decode cX12_roomThere 31 = .ok (.iload_n 1, 1) := by decide +kernel
theorem dX12_roomThere_32 : decode cX12_roomThere 32 = .ok (.ifCond .ge 9, 3) := by decide +kernel
theorem dX12_roomThere_35 : decode cX12_roomThere 35 = .ok (.aload_n 0, 1) := by decide +kernel
theorem dX12_roomThere_36 : decode cX12_roomThere 36 = .ok (.iconst 4, 1) := by decide +kernel
theorem dX12_roomThere_37 : decode cX12_roomThere 37 = .ok (.invokevirtual 217, 3) := by decide +kernel
theorem dX12_roomThere_40 : decode cX12_roomThere 40 = .ok (.ireturn, 1) := by decide +kernel
theorem dX12_roomThere_41 : decode cX12_roomThere 41 = .ok (.aload_n 0, 1) := by decide +kernel
theorem dX12_roomThere_42 : decode cX12_roomThere 42 = .ok (.invokevirtual 227, 3) := by decide +kernel
theorem dX12_roomThere_45 : decode cX12_roomThere 45 = .ok (.aload_n 0, 1) := by decide +kernel
theorem dX12_roomThere_46 : decode cX12_roomThere 46 = .ok (.iload_n 1, 1) := by decide +kernel
theorem dX12_roomThere_47 : decode cX12_roomThere 47 = .ok (.putfield 224, 3) := by decide +kernel
theorem dX12_roomThere_50 : decode cX12_roomThere 50 = .ok (.iconst 1, 1) := by decide +kernel
theorem dX12_roomThere_51 : decode cX12_roomThere 51 = .ok (.ireturn, 1) := by decide +kernel
def f_X12_roomThere (M : MM)  : Option (Int × MM) :=
if (M 88 8) = 2 then
((f_X12_find M 93 10 5 (M 88 17) (M 88 9)).bind fun x2 =>
if x2 < 0 then
((f_X12_wrong M 4).bind fun x4 =>
gd (x4.1 = 0 ∨ x4.1 = 1) <|
some (x4.1, x4.2))
else
(f_X12_token M).bind fun x6 =>
bM (upM x6 88 11 x2) fun M7 =>
some (1, M7))
else
(f_X12_wrong M 1).bind fun x8 =>
gd (x8.1 = 0 ∨ x8.1 = 1) <|
some (x8.1, x8.2)
set_option maxRecDepth 4000 in
theorem c_X12_roomThere {E : EE} {sh : List (Nat × Nat)} {ex : Bool} {R : RM} {M : MM}  (hE : Ext sh) (hL : Links R) : ∀ y, f_X12_roomThere M = some y → MetC E m_X12_roomThere 0 0 [rV 88] (sh, ex, R, M) (fun r w' => r = some (iV y.1) ∧ w' = (sh, ex, R, y.2)) := by
  intro y hy
  refine MetC.seg (o := f_X12_roomThere M) (t := (fun K y => K (some (iV y.1)) (sh, ex, R, y.2))) (L := [some (rV 88), none]) (by decide) rfl (Nat.le_of_ble_eq_true rfl) ?_ hy ⟨rfl, rfl⟩
  unfold f_X12_roomThere
  refine Seg.step (pc' := 1) (I_aload_n (i := 0) dX12_roomThere_0 rfl rfl) ?_
  refine Seg.step (pc' := 4) (I_getI cls12 (by decide) wf_12_193 (hE _ _ sk_12) rfl dX12_roomThere_1) ?_
  refine Seg.step (pc' := 5) (I_iconst dX12_roomThere_4 ⟨by decide, by decide⟩) ?_
  refine S_icmp_eq (tgt := 14) dX12_roomThere_5 (by decide) (fun h1 => ?_) (fun h1 => ?_)
  · refine Seg.step (pc' := 15) (I_aload_n (i := 0) dX12_roomThere_14 rfl rfl) ?_
    refine Seg.step (pc' := 18) (I_getR cls12 (by decide) wf_12_27 (hE _ _ sk_12) rfl (lk_12_24 hL) dX12_roomThere_15) ?_
    refine Seg.step (pc' := 19) (I_iconst dX12_roomThere_18 ⟨by decide, by decide⟩) ?_
    refine Seg.step (pc' := 20) (I_aload_n (i := 0) dX12_roomThere_19 rfl rfl) ?_
    refine Seg.step (pc' := 23) (I_getI cls12 (by decide) wf_12_237 (hE _ _ sk_12) rfl dX12_roomThere_20) ?_
    refine Seg.step (pc' := 24) (I_aload_n (i := 0) dX12_roomThere_23 rfl rfl) ?_
    refine Seg.step (pc' := 27) (I_getI cls12 (by decide) wf_12_204 (hE _ _ sk_12) rfl dX12_roomThere_24) ?_
    refine S_callS4 (md' := m_X12_find) (fun y => some (iV y)) (fun y => (sh, ex, R, M)) mm_X12_find wm_12_277 ⟨rfl, rfl, by decide, by decide, by decide, by decide⟩ (Nat.le_of_ble_eq_true rfl) dX12_roomThere_27 (fun y hy => c_X12_find hE hL sk_12_24 y hy) (fun x2 => ?_)
    refine Seg.step (pc' := 31) (I_istore_n (i := 1) dX12_roomThere_30 rfl (by decide) rfl) ?_
    refine Seg.step (pc' := 32) (I_iload_n (i := 1) dX12_roomThere_31 rfl rfl) ?_
    refine S_if_ge (tgt := 41) dX12_roomThere_32 (by decide) (fun h3 => ?_) (fun h3 => ?_)
    · refine Seg.step (pc' := 36) (I_aload_n (i := 0) dX12_roomThere_35 rfl rfl) ?_
      refine Seg.step (pc' := 37) (I_iconst dX12_roomThere_36 ⟨by decide, by decide⟩) ?_
      refine S_callV1 (md' := m_X12_wrong) (fun y => some (iV y.1)) (fun y => (sh, ex, R, y.2)) (hE _ _ sk_12) ⟨by decide, rfl⟩ mm_X12_wrong wm_12_217 ⟨rfl, rfl, by decide, by decide, by decide, by decide⟩ (Nat.le_of_ble_eq_true rfl) dX12_roomThere_37 (fun y hy => c_X12_wrong hE hL y hy) (fun x4 => ?_)
      refine S_gd fun h5 => ?_
      exact S_zret dX12_roomThere_40 rfl h5 (by decide) (by decide) (fun K hK => hK)
    refine Seg.step (pc' := 42) (I_aload_n (i := 0) dX12_roomThere_41 rfl rfl) ?_
    refine S_callV0 (md' := m_X12_token) (fun y => none) (fun y => (sh, ex, R, y)) (hE _ _ sk_12) ⟨by decide, rfl⟩ mm_X12_token wm_12_227 ⟨rfl, rfl, by decide, by decide, by decide, by decide⟩ (Nat.le_of_ble_eq_true rfl) dX12_roomThere_42 (fun y hy => c_X12_token hE hL y hy) (fun x6 => ?_)
    refine Seg.step (pc' := 46) (I_aload_n (i := 0) dX12_roomThere_45 rfl rfl) ?_
    refine Seg.step (pc' := 47) (I_iload_n (i := 1) dX12_roomThere_46 rfl rfl) ?_
    refine Seg.step (pc' := 50) (I_putI cls12 (by decide) wf_12_224 (hE _ _ sk_12) rfl rfl dX12_roomThere_47) ?_
    refine S_bM fun M7 => ?_
    refine Seg.step (pc' := 51) (I_iconst dX12_roomThere_50 ⟨by decide, by decide⟩) ?_
    exact S_zret dX12_roomThere_51 rfl (by decide) (by decide) (by decide) (fun K hK => hK)
  refine Seg.step (pc' := 9) (I_aload_n (i := 0) dX12_roomThere_8 rfl rfl) ?_
  refine Seg.step (pc' := 10) (I_iconst dX12_roomThere_9 ⟨by decide, by decide⟩) ?_
  refine S_callV1 (md' := m_X12_wrong) (fun y => some (iV y.1)) (fun y => (sh, ex, R, y.2)) (hE _ _ sk_12) ⟨by decide, rfl⟩ mm_X12_wrong wm_12_217 ⟨rfl, rfl, by decide, by decide, by decide, by decide⟩ (Nat.le_of_ble_eq_true rfl) dX12_roomThere_10 (fun y hy => c_X12_wrong hE hL y hy) (fun x8 => ?_)
  refine S_gd fun h9 => ?_
  exact S_zret dX12_roomThere_13 rfl h9 (by decide) (by decide) (fun K hK => hK)
theorem dX12_roomLine_0 : decode cX12_roomLine 0 = .ok (.aload_n 0, 1) := by decide +kernel
theorem dX12_roomLine_1 : decode cX12_roomLine 1 = .ok (.getfield 237, 3) := by decide +kernel
theorem dX12_roomLine_4 : decode cX12_roomLine 4 = .ok (.iconst 5, 1) := by decide +kernel
theorem dX12_roomLine_5 : decode cX12_roomLine 5 = .ok (.if_icmp .ne 9, 3) := by decide +kernel
theorem dX12_roomLine_8 : decode cX12_roomLine 8 = .ok (.aload_n 0, 1) := by decide +kernel
theorem dX12_roomLine_9 : decode cX12_roomLine 9 = .ok (.iconst 2, 1) := by decide +kernel
theorem dX12_roomLine_10 : decode cX12_roomLine 10 = .ok (.invokevirtual 217, 3) := by decide +kernel
theorem dX12_roomLine_13 : decode cX12_roomLine 13 = .ok (.ireturn, 1) := by decide +kernel
theorem dX12_roomLine_14 : decode cX12_roomLine 14 = .ok (.aload_n 0, 1) := by decide +kernel
theorem dX12_roomLine_15 : decode cX12_roomLine 15 = .ok (.invokevirtual 227, 3) := by decide +kernel
theorem dX12_roomLine_18 : decode cX12_roomLine 18 = .ok (.aload_n 0, 1) := by decide +kernel
theorem dX12_roomLine_19 : decode cX12_roomLine 19 = .ok (.aload_n 0, 1) := by decide +kernel
theorem dX12_roomLine_20 : decode cX12_roomLine 20 = .ok (.getfield 27, 3) := by decide +kernel
theorem dX12_roomLine_23 : decode cX12_roomLine 23 = .ok (.iconst 5, 1) := by decide +kernel
theorem dX12_roomLine_24 : decode cX12_roomLine 24 = .ok (.aload_n 0, 1) := by decide +kernel
theorem dX12_roomLine_25 : decode cX12_roomLine 25 = .ok (.getfield 237, 3) := by decide +kernel
theorem dX12_roomLine_28 : decode cX12_roomLine 28 = .ok (.invokevirtual 281, 3) := by decide +kernel
theorem dX12_roomLine_31 : decode cX12_roomLine 31 = .ok (.ifCond .ne 5, 3) := by decide +kernel
theorem dX12_roomLine_34 : decode cX12_roomLine 34 = .ok (.iconst 0, 1) := by decide +kernel
theorem dX12_roomLine_35 : decode cX12_roomLine 35 = .ok (.ireturn, 1) := by decide +kernel
theorem dX12_roomLine_36 : decode cX12_roomLine 36 = .ok (.iconst 5, 1) := by decide +kernel
theorem dX12_roomLine_37 : decode cX12_roomLine 37 = .ok (.aload_n 0, 1) := by decide +kernel
theorem dX12_roomLine_38 : decode cX12_roomLine 38 = .ok (.getfield 237, 3) := by decide +kernel
theorem dX12_roomLine_41 : decode cX12_roomLine 41 = .ok (.iadd, 1) := by decide +kernel
theorem dX12_roomLine_42 : decode cX12_roomLine 42 = .ok (.istore_n 1, 1) := by decide +kernel
theorem dX12_roomLine_43 : decode cX12_roomLine 43 = .ok (.aload_n 0, 1) := by decide +kernel
theorem dX12_roomLine_44 : decode cX12_roomLine 44 = .ok (.iconst 0, 1) := by decide +kernel
theorem dX12_roomLine_45 : decode cX12_roomLine 45 = .ok (.sipush 400, 3) := by decide +kernel
theorem dX12_roomLine_48 : decode cX12_roomLine 48 = .ok (.invokevirtual 233, 3) := by decide +kernel
theorem dX12_roomLine_51 : decode cX12_roomLine 51 = .ok (.ifCond .ne 5, 3) := by decide +kernel
theorem dX12_roomLine_54 : decode cX12_roomLine 54 = .ok (.iconst 0, 1) := by decide +kernel
theorem dX12_roomLine_55 : decode cX12_roomLine 55 = .ok (.ireturn, 1) := by decide +kernel
theorem dX12_roomLine_56 : decode cX12_roomLine 56 = .ok (.aload_n 0, 1) := by decide +kernel
theorem dX12_roomLine_57 : decode cX12_roomLine 57 = .ok (.getfield 30, 3) := by decide +kernel
theorem dX12_roomLine_60 : decode cX12_roomLine 60 = .ok (.iload_n 1, 1) := by decide +kernel
theorem dX12_roomLine_61 : decode cX12_roomLine 61 = .ok (.aload_n 0, 1) := by decide +kernel
theorem dX12_roomLine_62 : decode cX12_roomLine 62 = .ok (.getfield 224, 3) := by decide +kernel
theorem dX12_roomLine_65 : decode cX12_roomLine 65 = .ok (.iastore, 1) := by decide +kernel
theorem dX12_roomLine_66 : decode cX12_roomLine 66 = .ok (.aload_n 0, 1) := by decide +kernel
theorem dX12_roomLine_67 : decode cX12_roomLine 67 = .ok (.iconst 0, 1) := by decide +kernel
theorem dX12_roomLine_68 : decode cX12_roomLine 68 = .ok (.bipush 99, 2) := by decide +kernel
theorem dX12_roomLine_70 : decode cX12_roomLine 70 = .ok (.invokevirtual 233, 3) := by decide +kernel
theorem dX12_roomLine_73 : decode cX12_roomLine 73 = .ok (.ifCond .ne 5, 3) := by decide +kernel
theorem dX12_roomLine_76 : decode cX12_roomLine 76 = .ok (.iconst 0, 1) := by decide +kernel
theorem dX12_roomLine_77 : decode cX12_roomLine 77 = .ok (.ireturn, 1) := by decide +kernel
theorem dX12_roomLine_78 : decode cX12_roomLine 78 = .ok (.aload_n 0, 1) := by decide +kernel
theorem dX12_roomLine_79 : decode cX12_roomLine 79 = .ok (.getfield 33, 3) := by decide +kernel
theorem dX12_roomLine_82 : decode cX12_roomLine 82 = .ok (.iload_n 1, 1) := by decide +kernel
theorem dX12_roomLine_83 : decode cX12_roomLine 83 = .ok (.aload_n 0, 1) := by decide +kernel
theorem dX12_roomLine_84 : decode cX12_roomLine 84 = .ok (.getfield 224, 3) := by decide +kernel
theorem dX12_roomLine_87 : decode cX12_roomLine 87 = .ok (.iastore, 1) := by decide +kernel
theorem dX12_roomLine_88 : decode cX12_roomLine 88 = .ok (.aload_n 0, 1) := by decide +kernel
theorem dX12_roomLine_89 : decode cX12_roomLine 89 = .ok (.iconst 0, 1) := by decide +kernel
theorem dX12_roomLine_90 : decode cX12_roomLine 90 = .ok (.bipush 99, 2) := by decide +kernel
theorem dX12_roomLine_92 : decode cX12_roomLine 92 = .ok (.invokevirtual 233, 3) := by decide +kernel
theorem dX12_roomLine_95 : decode cX12_roomLine 95 = .ok (.ifCond .ne 5, 3) := by decide +kernel
theorem dX12_roomLine_98 : decode cX12_roomLine 98 = .ok (.iconst 0, 1) := by decide +kernel
theorem dX12_roomLine_99 : decode cX12_roomLine 99 = .ok (.ireturn, 1) := by decide +kernel
theorem dX12_roomLine_100 : decode cX12_roomLine 100 = .ok (.aload_n 0, 1) := by decide +kernel
theorem dX12_roomLine_101 : decode cX12_roomLine 101 = .ok (.getfield 36, 3) := by decide +kernel
theorem dX12_roomLine_104 : decode cX12_roomLine 104 = .ok (.iload_n 1, 1) := by decide +kernel
theorem dX12_roomLine_105 : decode cX12_roomLine 105 = .ok (.aload_n 0, 1) := by decide +kernel
theorem dX12_roomLine_106 : decode cX12_roomLine 106 = .ok (.getfield 224, 3) := by decide +kernel
theorem dX12_roomLine_109 : decode cX12_roomLine 109 = .ok (.iastore, 1) := by decide +kernel
theorem dX12_roomLine_110 : decode cX12_roomLine 110 = .ok (.aload_n 0, 1) := by decide +kernel
theorem dX12_roomLine_111 : decode cX12_roomLine 111 = .ok (.dup, 1) := by decide +kernel
theorem dX12_roomLine_112 : decode cX12_roomLine 112 = .ok (.getfield 237, 3) := by decide +kernel
theorem dX12_roomLine_115 : decode cX12_roomLine 115 = .ok (.iconst 1, 1) := by decide +kernel
theorem dX12_roomLine_116 : decode cX12_roomLine 116 = .ok (.iadd, 1) := by decide +kernel
theorem dX12_roomLine_117 : decode cX12_roomLine 117 = .ok (.putfield 237, 3) := by decide +kernel
theorem dX12_roomLine_120 : decode cX12_roomLine 120 = .ok (.iconst 1, 1) := by decide +kernel
theorem dX12_roomLine_121 : decode cX12_roomLine 121 = .ok (.ireturn, 1) := by decide +kernel
def f_X12_roomLine (M : MM)  : Option (Int × MM) :=
if (M 88 17) = 5 then
((f_X12_wrong M 2).bind fun x2 =>
gd (x2.1 = 0 ∨ x2.1 = 1) <|
some (x2.1, x2.2))
else
(f_X12_token M).bind fun x4 =>
(f_X12_newName x4 93 10 5 (x4 88 17)).bind fun x5 =>
if x5.1 = 0 then
(some (0, x5.2))
else
bI (w32 (5 + (x5.2 88 17))) fun x7 =>
(f_X12_number x5.2 0 400).bind fun x8 =>
if x8.1 = 0 then
(some (0, x8.2))
else
gd (0 ≤ x7 ∧ x7 < (10 : Int)) <|
bM (upM x8.2 94 (x7).toNat (x8.2 88 11)) fun M11 =>
(f_X12_number M11 0 99).bind fun x12 =>
if x12.1 = 0 then
(some (0, x12.2))
else
gd (0 ≤ x7 ∧ x7 < (10 : Int)) <|
bM (upM x12.2 95 (x7).toNat (x12.2 88 11)) fun M15 =>
(f_X12_number M15 0 99).bind fun x16 =>
if x16.1 = 0 then
(some (0, x16.2))
else
gd (0 ≤ x7 ∧ x7 < (10 : Int)) <|
bM (upM x16.2 96 (x7).toNat (x16.2 88 11)) fun M19 =>
bM (upM M19 88 17 (w32 ((M19 88 17) + 1))) fun M20 =>
some (1, M20)
set_option maxRecDepth 4000 in
theorem c_X12_roomLine {E : EE} {sh : List (Nat × Nat)} {ex : Bool} {R : RM} {M : MM}  (hE : Ext sh) (hL : Links R) : ∀ y, f_X12_roomLine M = some y → MetC E m_X12_roomLine 0 0 [rV 88] (sh, ex, R, M) (fun r w' => r = some (iV y.1) ∧ w' = (sh, ex, R, y.2)) := by
  intro y hy
  refine MetC.seg (o := f_X12_roomLine M) (t := (fun K y => K (some (iV y.1)) (sh, ex, R, y.2))) (L := [some (rV 88), none]) (by decide) rfl (Nat.le_of_ble_eq_true rfl) ?_ hy ⟨rfl, rfl⟩
  unfold f_X12_roomLine
  refine Seg.step (pc' := 1) (I_aload_n (i := 0) dX12_roomLine_0 rfl rfl) ?_
  refine Seg.step (pc' := 4) (I_getI cls12 (by decide) wf_12_237 (hE _ _ sk_12) rfl dX12_roomLine_1) ?_
  refine Seg.step (pc' := 5) (I_iconst dX12_roomLine_4 ⟨by decide, by decide⟩) ?_
  refine S_icmp_ne (tgt := 14) dX12_roomLine_5 (by decide) (fun h1 => ?_) (fun h1 => ?_)
  · refine Seg.step (pc' := 9) (I_aload_n (i := 0) dX12_roomLine_8 rfl rfl) ?_
    refine Seg.step (pc' := 10) (I_iconst dX12_roomLine_9 ⟨by decide, by decide⟩) ?_
    refine S_callV1 (md' := m_X12_wrong) (fun y => some (iV y.1)) (fun y => (sh, ex, R, y.2)) (hE _ _ sk_12) ⟨by decide, rfl⟩ mm_X12_wrong wm_12_217 ⟨rfl, rfl, by decide, by decide, by decide, by decide⟩ (Nat.le_of_ble_eq_true rfl) dX12_roomLine_10 (fun y hy => c_X12_wrong hE hL y hy) (fun x2 => ?_)
    refine S_gd fun h3 => ?_
    exact S_zret dX12_roomLine_13 rfl h3 (by decide) (by decide) (fun K hK => hK)
  refine Seg.step (pc' := 15) (I_aload_n (i := 0) dX12_roomLine_14 rfl rfl) ?_
  refine S_callV0 (md' := m_X12_token) (fun y => none) (fun y => (sh, ex, R, y)) (hE _ _ sk_12) ⟨by decide, rfl⟩ mm_X12_token wm_12_227 ⟨rfl, rfl, by decide, by decide, by decide, by decide⟩ (Nat.le_of_ble_eq_true rfl) dX12_roomLine_15 (fun y hy => c_X12_token hE hL y hy) (fun x4 => ?_)
  refine Seg.step (pc' := 19) (I_aload_n (i := 0) dX12_roomLine_18 rfl rfl) ?_
  refine Seg.step (pc' := 20) (I_aload_n (i := 0) dX12_roomLine_19 rfl rfl) ?_
  refine Seg.step (pc' := 23) (I_getR cls12 (by decide) wf_12_27 (hE _ _ sk_12) rfl (lk_12_24 hL) dX12_roomLine_20) ?_
  refine Seg.step (pc' := 24) (I_iconst dX12_roomLine_23 ⟨by decide, by decide⟩) ?_
  refine Seg.step (pc' := 25) (I_aload_n (i := 0) dX12_roomLine_24 rfl rfl) ?_
  refine Seg.step (pc' := 28) (I_getI cls12 (by decide) wf_12_237 (hE _ _ sk_12) rfl dX12_roomLine_25) ?_
  refine S_callV3 (md' := m_X12_newName) (fun y => some (iV y.1)) (fun y => (sh, ex, R, y.2)) (hE _ _ sk_12) ⟨by decide, rfl⟩ mm_X12_newName wm_12_281 ⟨rfl, rfl, by decide, by decide, by decide, by decide⟩ (Nat.le_of_ble_eq_true rfl) dX12_roomLine_28 (fun y hy => c_X12_newName hE hL sk_12_24 y hy) (fun x5 => ?_)
  refine S_if_ne (tgt := 36) dX12_roomLine_31 (by decide) (fun h6 => ?_) (fun h6 => ?_)
  · refine Seg.step (pc' := 35) (I_iconst dX12_roomLine_34 ⟨by decide, by decide⟩) ?_
    exact S_zret dX12_roomLine_35 rfl (by decide) (by decide) (by decide) (fun K hK => hK)
  refine Seg.step (pc' := 37) (I_iconst dX12_roomLine_36 ⟨by decide, by decide⟩) ?_
  refine Seg.step (pc' := 38) (I_aload_n (i := 0) dX12_roomLine_37 rfl rfl) ?_
  refine Seg.step (pc' := 41) (I_getI cls12 (by decide) wf_12_237 (hE _ _ sk_12) rfl dX12_roomLine_38) ?_
  refine Seg.step (pc' := 42) (I_iadd dX12_roomLine_41) ?_
  refine S_bI fun x7 => ?_
  refine Seg.step (pc' := 43) (I_istore_n (i := 1) dX12_roomLine_42 rfl (by decide) rfl) ?_
  refine Seg.step (pc' := 44) (I_aload_n (i := 0) dX12_roomLine_43 rfl rfl) ?_
  refine Seg.step (pc' := 45) (I_iconst dX12_roomLine_44 ⟨by decide, by decide⟩) ?_
  refine Seg.step (pc' := 48) (I_sipush dX12_roomLine_45 (by decide) ⟨by decide, by decide⟩) ?_
  refine S_callV2 (md' := m_X12_number) (fun y => some (iV y.1)) (fun y => (sh, ex, R, y.2)) (hE _ _ sk_12) ⟨by decide, rfl⟩ mm_X12_number wm_12_233 ⟨rfl, rfl, by decide, by decide, by decide, by decide⟩ (Nat.le_of_ble_eq_true rfl) dX12_roomLine_48 (fun y hy => c_X12_number hE hL y hy) (fun x8 => ?_)
  refine S_if_ne (tgt := 56) dX12_roomLine_51 (by decide) (fun h9 => ?_) (fun h9 => ?_)
  · refine Seg.step (pc' := 55) (I_iconst dX12_roomLine_54 ⟨by decide, by decide⟩) ?_
    exact S_zret dX12_roomLine_55 rfl (by decide) (by decide) (by decide) (fun K hK => hK)
  refine Seg.step (pc' := 57) (I_aload_n (i := 0) dX12_roomLine_56 rfl rfl) ?_
  refine Seg.step (pc' := 60) (I_getR cls12 (by decide) wf_12_30 (hE _ _ sk_12) rfl (lk_12_25 hL) dX12_roomLine_57) ?_
  refine Seg.step (pc' := 61) (I_iload_n (i := 1) dX12_roomLine_60 rfl rfl) ?_
  refine Seg.step (pc' := 62) (I_aload_n (i := 0) dX12_roomLine_61 rfl rfl) ?_
  refine Seg.step (pc' := 65) (I_getI cls12 (by decide) wf_12_224 (hE _ _ sk_12) rfl dX12_roomLine_62) ?_
  refine S_gd fun h10 => ?_
  refine Seg.step (pc' := 66) (I_iast (hE _ _ sk_12_25) h10 dX12_roomLine_65) ?_
  refine S_bM fun M11 => ?_
  refine Seg.step (pc' := 67) (I_aload_n (i := 0) dX12_roomLine_66 rfl rfl) ?_
  refine Seg.step (pc' := 68) (I_iconst dX12_roomLine_67 ⟨by decide, by decide⟩) ?_
  refine Seg.step (pc' := 70) (I_bipush dX12_roomLine_68 (by decide) ⟨by decide, by decide⟩) ?_
  refine S_callV2 (md' := m_X12_number) (fun y => some (iV y.1)) (fun y => (sh, ex, R, y.2)) (hE _ _ sk_12) ⟨by decide, rfl⟩ mm_X12_number wm_12_233 ⟨rfl, rfl, by decide, by decide, by decide, by decide⟩ (Nat.le_of_ble_eq_true rfl) dX12_roomLine_70 (fun y hy => c_X12_number hE hL y hy) (fun x12 => ?_)
  refine S_if_ne (tgt := 78) dX12_roomLine_73 (by decide) (fun h13 => ?_) (fun h13 => ?_)
  · refine Seg.step (pc' := 77) (I_iconst dX12_roomLine_76 ⟨by decide, by decide⟩) ?_
    exact S_zret dX12_roomLine_77 rfl (by decide) (by decide) (by decide) (fun K hK => hK)
  refine Seg.step (pc' := 79) (I_aload_n (i := 0) dX12_roomLine_78 rfl rfl) ?_
  refine Seg.step (pc' := 82) (I_getR cls12 (by decide) wf_12_33 (hE _ _ sk_12) rfl (lk_12_26 hL) dX12_roomLine_79) ?_
  refine Seg.step (pc' := 83) (I_iload_n (i := 1) dX12_roomLine_82 rfl rfl) ?_
  refine Seg.step (pc' := 84) (I_aload_n (i := 0) dX12_roomLine_83 rfl rfl) ?_
  refine Seg.step (pc' := 87) (I_getI cls12 (by decide) wf_12_224 (hE _ _ sk_12) rfl dX12_roomLine_84) ?_
  refine S_gd fun h14 => ?_
  refine Seg.step (pc' := 88) (I_iast (hE _ _ sk_12_26) h14 dX12_roomLine_87) ?_
  refine S_bM fun M15 => ?_
  refine Seg.step (pc' := 89) (I_aload_n (i := 0) dX12_roomLine_88 rfl rfl) ?_
  refine Seg.step (pc' := 90) (I_iconst dX12_roomLine_89 ⟨by decide, by decide⟩) ?_
  refine Seg.step (pc' := 92) (I_bipush dX12_roomLine_90 (by decide) ⟨by decide, by decide⟩) ?_
  refine S_callV2 (md' := m_X12_number) (fun y => some (iV y.1)) (fun y => (sh, ex, R, y.2)) (hE _ _ sk_12) ⟨by decide, rfl⟩ mm_X12_number wm_12_233 ⟨rfl, rfl, by decide, by decide, by decide, by decide⟩ (Nat.le_of_ble_eq_true rfl) dX12_roomLine_92 (fun y hy => c_X12_number hE hL y hy) (fun x16 => ?_)
  refine S_if_ne (tgt := 100) dX12_roomLine_95 (by decide) (fun h17 => ?_) (fun h17 => ?_)
  · refine Seg.step (pc' := 99) (I_iconst dX12_roomLine_98 ⟨by decide, by decide⟩) ?_
    exact S_zret dX12_roomLine_99 rfl (by decide) (by decide) (by decide) (fun K hK => hK)
  refine Seg.step (pc' := 101) (I_aload_n (i := 0) dX12_roomLine_100 rfl rfl) ?_
  refine Seg.step (pc' := 104) (I_getR cls12 (by decide) wf_12_36 (hE _ _ sk_12) rfl (lk_12_27 hL) dX12_roomLine_101) ?_
  refine Seg.step (pc' := 105) (I_iload_n (i := 1) dX12_roomLine_104 rfl rfl) ?_
  refine Seg.step (pc' := 106) (I_aload_n (i := 0) dX12_roomLine_105 rfl rfl) ?_
  refine Seg.step (pc' := 109) (I_getI cls12 (by decide) wf_12_224 (hE _ _ sk_12) rfl dX12_roomLine_106) ?_
  refine S_gd fun h18 => ?_
  refine Seg.step (pc' := 110) (I_iast (hE _ _ sk_12_27) h18 dX12_roomLine_109) ?_
  refine S_bM fun M19 => ?_
  refine Seg.step (pc' := 111) (I_aload_n (i := 0) dX12_roomLine_110 rfl rfl) ?_
  refine Seg.step (pc' := 112) (I_dup dX12_roomLine_111 (fun _ h => by cases h)) ?_
  refine Seg.step (pc' := 115) (I_getI cls12 (by decide) wf_12_237 (hE _ _ sk_12) rfl dX12_roomLine_112) ?_
  refine Seg.step (pc' := 116) (I_iconst dX12_roomLine_115 ⟨by decide, by decide⟩) ?_
  refine Seg.step (pc' := 117) (I_iadd dX12_roomLine_116) ?_
  refine Seg.step (pc' := 120) (I_putI cls12 (by decide) wf_12_237 (hE _ _ sk_12) rfl rfl dX12_roomLine_117) ?_
  refine S_bM fun M20 => ?_
  refine Seg.step (pc' := 121) (I_iconst dX12_roomLine_120 ⟨by decide, by decide⟩) ?_
  exact S_zret dX12_roomLine_121 rfl (by decide) (by decide) (by decide) (fun K hK => hK)
theorem dX12_personLine_0 : decode cX12_personLine 0 = .ok (.aload_n 0, 1) := by decide +kernel
theorem dX12_personLine_1 : decode cX12_personLine 1 = .ok (.getfield 240, 3) := by decide +kernel
theorem dX12_personLine_4 : decode cX12_personLine 4 = .ok (.iconst 5, 1) := by decide +kernel
theorem dX12_personLine_5 : decode cX12_personLine 5 = .ok (.if_icmp .ne 9, 3) := by decide +kernel
theorem dX12_personLine_8 : decode cX12_personLine 8 = .ok (.aload_n 0, 1) := by decide +kernel
theorem dX12_personLine_9 : decode cX12_personLine 9 = .ok (.iconst 2, 1) := by decide +kernel
theorem dX12_personLine_10 : decode cX12_personLine 10 = .ok (.invokevirtual 217, 3) := by decide +kernel
theorem dX12_personLine_13 : decode cX12_personLine 13 = .ok (.ireturn, 1) := by decide +kernel
theorem dX12_personLine_14 : decode cX12_personLine 14 = .ok (.aload_n 0, 1) := by decide +kernel
theorem dX12_personLine_15 : decode cX12_personLine 15 = .ok (.invokevirtual 227, 3) := by decide +kernel
theorem dX12_personLine_18 : decode cX12_personLine 18 = .ok (.aload_n 0, 1) := by decide +kernel
theorem dX12_personLine_19 : decode cX12_personLine 19 = .ok (.aload_n 0, 1) := by decide +kernel
theorem dX12_personLine_20 : decode cX12_personLine 20 = .ok (.getfield 39, 3) := by decide +kernel
theorem dX12_personLine_23 : decode cX12_personLine 23 = .ok (.iconst 5, 1) := by decide +kernel
theorem dX12_personLine_24 : decode cX12_personLine 24 = .ok (.aload_n 0, 1) := by decide +kernel
theorem dX12_personLine_25 : decode cX12_personLine 25 = .ok (.getfield 240, 3) := by decide +kernel
theorem dX12_personLine_28 : decode cX12_personLine 28 = .ok (.invokevirtual 281, 3) := by decide +kernel
theorem dX12_personLine_31 : decode cX12_personLine 31 = .ok (.ifCond .ne 5, 3) := by decide +kernel
theorem dX12_personLine_34 : decode cX12_personLine 34 = .ok (.iconst 0, 1) := by decide +kernel
theorem dX12_personLine_35 : decode cX12_personLine 35 = .ok (.ireturn, 1) := by decide +kernel
theorem dX12_personLine_36 : decode cX12_personLine 36 = .ok (.iconst 5, 1) := by decide +kernel
theorem dX12_personLine_37 : decode cX12_personLine 37 = .ok (.aload_n 0, 1) := by decide +kernel
theorem dX12_personLine_38 : decode cX12_personLine 38 = .ok (.getfield 240, 3) := by decide +kernel
theorem dX12_personLine_41 : decode cX12_personLine 41 = .ok (.iadd, 1) := by decide +kernel
theorem dX12_personLine_42 : decode cX12_personLine 42 = .ok (.istore_n 1, 1) := by decide +kernel
theorem dX12_personLine_43 : decode cX12_personLine 43 = .ok (.aload_n 0, 1) := by decide +kernel
theorem dX12_personLine_44 : decode cX12_personLine 44 = .ok (.invokevirtual 285, 3) := by decide +kernel
theorem dX12_personLine_47 : decode cX12_personLine 47 = .ok (.ifCond .ne 5, 3) := by decide +kernel
theorem dX12_personLine_50 : decode cX12_personLine 50 = .ok (.iconst 0, 1) := by decide +kernel
theorem dX12_personLine_51 : decode cX12_personLine 51 = .ok (.ireturn, 1) := by decide +kernel
theorem dX12_personLine_52 : decode cX12_personLine 52 = .ok (.aload_n 0, 1) := by decide +kernel
theorem dX12_personLine_53 : decode cX12_personLine 53 = .ok (.getfield 42, 3) := by decide +kernel
theorem dX12_personLine_56 : decode cX12_personLine 56 = .ok (.iload_n 1, 1) := by decide +kernel
theorem dX12_personLine_57 : decode cX12_personLine 57 = .ok (.aload_n 0, 1) := by decide +kernel
theorem dX12_personLine_58 : decode cX12_personLine 58 = .ok (.getfield 224, 3) := by decide +kernel
theorem dX12_personLine_61 : decode cX12_personLine 61 = .ok (.iastore, 1) := by decide +kernel
theorem dX12_personLine_62 : decode cX12_personLine 62 = .ok (.aload_n 0, 1) := by decide +kernel
theorem dX12_personLine_63 : decode cX12_personLine 63 = .ok (.iconst 0, 1) := by decide +kernel
theorem dX12_personLine_64 : decode cX12_personLine 64 = .ok (.bipush 40, 2) := by decide +kernel
theorem dX12_personLine_66 : decode cX12_personLine 66 = .ok (.invokevirtual 233, 3) := by decide +kernel
theorem dX12_personLine_69 : decode cX12_personLine 69 = .ok (.ifCond .ne 5, 3) := by decide +kernel
theorem dX12_personLine_72 : decode cX12_personLine 72 = .ok (.iconst 0, 1) := by decide +kernel
theorem dX12_personLine_73 : decode cX12_personLine 73 = .ok (.ireturn, 1) := by decide +kernel
theorem dX12_personLine_74 : decode cX12_personLine 74 = .ok (.aload_n 0, 1) := by decide +kernel
theorem dX12_personLine_75 : decode cX12_personLine 75 = .ok (.getfield 45, 3) := by decide +kernel
theorem dX12_personLine_78 : decode cX12_personLine 78 = .ok (.iload_n 1, 1) := by decide +kernel
theorem dX12_personLine_79 : decode cX12_personLine 79 = .ok (.aload_n 0, 1) := by decide +kernel
theorem dX12_personLine_80 : decode cX12_personLine 80 = .ok (.getfield 224, 3) := by decide +kernel
theorem dX12_personLine_83 : decode cX12_personLine 83 = .ok (.iastore, 1) := by decide +kernel
theorem dX12_personLine_84 : decode cX12_personLine 84 = .ok (.aload_n 0, 1) := by decide +kernel
theorem dX12_personLine_85 : decode cX12_personLine 85 = .ok (.iconst 0, 1) := by decide +kernel
theorem dX12_personLine_86 : decode cX12_personLine 86 = .ok (.iconst 5, 1) := by decide +kernel
theorem dX12_personLine_87 : decode cX12_personLine 87 = .ok (.invokevirtual 233, 3) := by decide +kernel
theorem dX12_personLine_90 : decode cX12_personLine 90 = .ok (.ifCond .ne 5, 3) := by decide +kernel
theorem dX12_personLine_93 : decode cX12_personLine 93 = .ok (.iconst 0, 1) := by decide +kernel
theorem dX12_personLine_94 : decode cX12_personLine 94 = .ok (.ireturn, 1) := by decide +kernel
theorem dX12_personLine_95 : decode cX12_personLine 95 = .ok (.aload_n 0, 1) := by decide +kernel
theorem dX12_personLine_96 : decode cX12_personLine 96 = .ok (.getfield 48, 3) := by decide +kernel
theorem dX12_personLine_99 : decode cX12_personLine 99 = .ok (.iload_n 1, 1) := by decide +kernel
theorem dX12_personLine_100 : decode cX12_personLine 100 = .ok (.aload_n 0, 1) := by decide +kernel
theorem dX12_personLine_101 : decode cX12_personLine 101 = .ok (.getfield 224, 3) := by decide +kernel
theorem dX12_personLine_104 : decode cX12_personLine 104 = .ok (.iastore, 1) := by decide +kernel
theorem dX12_personLine_105 : decode cX12_personLine 105 = .ok (.aload_n 0, 1) := by decide +kernel
theorem dX12_personLine_106 : decode cX12_personLine 106 = .ok (.iconst 0, 1) := by decide +kernel
theorem dX12_personLine_107 : decode cX12_personLine 107 = .ok (.bipush 23, 2) := by decide +kernel
theorem dX12_personLine_109 : decode cX12_personLine 109 = .ok (.invokevirtual 233, 3) := by decide +kernel
theorem dX12_personLine_112 : decode cX12_personLine 112 = .ok (.ifCond .ne 5, 3) := by decide +kernel
theorem dX12_personLine_115 : decode cX12_personLine 115 = .ok (.iconst 0, 1) := by decide +kernel
theorem dX12_personLine_116 : decode cX12_personLine 116 = .ok (.ireturn, 1) := by decide +kernel
theorem dX12_personLine_117 : decode cX12_personLine 117 = .ok (.aload_n 0, 1) := by decide +kernel
theorem dX12_personLine_118 : decode cX12_personLine 118 = .ok (.getfield 51, 3) := by decide +kernel
theorem dX12_personLine_121 : decode cX12_personLine 121 = .ok (.iload_n 1, 1) := by decide +kernel
theorem dX12_personLine_122 : decode cX12_personLine 122 = .ok (.aload_n 0, 1) := by decide +kernel
theorem dX12_personLine_123 : decode cX12_personLine 123 = .ok (.getfield 224, 3) := by decide +kernel
theorem dX12_personLine_126 : decode cX12_personLine 126 = .ok (.iastore, 1) := by decide +kernel
theorem dX12_personLine_127 : decode cX12_personLine 127 = .ok (.aload_n 0, 1) := by decide +kernel
theorem dX12_personLine_128 : decode cX12_personLine 128 = .ok (.dup, 1) := by decide +kernel
theorem dX12_personLine_129 : decode cX12_personLine 129 = .ok (.getfield 240, 3) := by decide +kernel
theorem dX12_personLine_132 : decode cX12_personLine 132 = .ok (.iconst 1, 1) := by decide +kernel
theorem dX12_personLine_133 : decode cX12_personLine 133 = .ok (.iadd, 1) := by decide +kernel
theorem dX12_personLine_134 : decode cX12_personLine 134 = .ok (.putfield 240, 3) := by decide +kernel
theorem dX12_personLine_137 : decode cX12_personLine 137 = .ok (.iconst 1, 1) := by decide +kernel
theorem dX12_personLine_138 : decode cX12_personLine 138 = .ok (.ireturn, 1) := by decide +kernel
def f_X12_personLine (M : MM)  : Option (Int × MM) :=
if (M 88 18) = 5 then
((f_X12_wrong M 2).bind fun x2 =>
gd (x2.1 = 0 ∨ x2.1 = 1) <|
some (x2.1, x2.2))
else
(f_X12_token M).bind fun x4 =>
(f_X12_newName x4 97 10 5 (x4 88 18)).bind fun x5 =>
if x5.1 = 0 then
(some (0, x5.2))
else
bI (w32 (5 + (x5.2 88 18))) fun x7 =>
(f_X12_roomThere x5.2).bind fun x8 =>
if x8.1 = 0 then
(some (0, x8.2))
else
gd (0 ≤ x7 ∧ x7 < (10 : Int)) <|
bM (upM x8.2 98 (x7).toNat (x8.2 88 11)) fun M11 =>
(f_X12_number M11 0 40).bind fun x12 =>
if x12.1 = 0 then
(some (0, x12.2))
else
gd (0 ≤ x7 ∧ x7 < (10 : Int)) <|
bM (upM x12.2 99 (x7).toNat (x12.2 88 11)) fun M15 =>
(f_X12_number M15 0 5).bind fun x16 =>
if x16.1 = 0 then
(some (0, x16.2))
else
gd (0 ≤ x7 ∧ x7 < (10 : Int)) <|
bM (upM x16.2 100 (x7).toNat (x16.2 88 11)) fun M19 =>
(f_X12_number M19 0 23).bind fun x20 =>
if x20.1 = 0 then
(some (0, x20.2))
else
gd (0 ≤ x7 ∧ x7 < (10 : Int)) <|
bM (upM x20.2 101 (x7).toNat (x20.2 88 11)) fun M23 =>
bM (upM M23 88 18 (w32 ((M23 88 18) + 1))) fun M24 =>
some (1, M24)
set_option maxRecDepth 4000 in
theorem c_X12_personLine {E : EE} {sh : List (Nat × Nat)} {ex : Bool} {R : RM} {M : MM}  (hE : Ext sh) (hL : Links R) : ∀ y, f_X12_personLine M = some y → MetC E m_X12_personLine 0 0 [rV 88] (sh, ex, R, M) (fun r w' => r = some (iV y.1) ∧ w' = (sh, ex, R, y.2)) := by
  intro y hy
  refine MetC.seg (o := f_X12_personLine M) (t := (fun K y => K (some (iV y.1)) (sh, ex, R, y.2))) (L := [some (rV 88), none]) (by decide) rfl (Nat.le_of_ble_eq_true rfl) ?_ hy ⟨rfl, rfl⟩
  unfold f_X12_personLine
  refine Seg.step (pc' := 1) (I_aload_n (i := 0) dX12_personLine_0 rfl rfl) ?_
  refine Seg.step (pc' := 4) (I_getI cls12 (by decide) wf_12_240 (hE _ _ sk_12) rfl dX12_personLine_1) ?_
  refine Seg.step (pc' := 5) (I_iconst dX12_personLine_4 ⟨by decide, by decide⟩) ?_
  refine S_icmp_ne (tgt := 14) dX12_personLine_5 (by decide) (fun h1 => ?_) (fun h1 => ?_)
  · refine Seg.step (pc' := 9) (I_aload_n (i := 0) dX12_personLine_8 rfl rfl) ?_
    refine Seg.step (pc' := 10) (I_iconst dX12_personLine_9 ⟨by decide, by decide⟩) ?_
    refine S_callV1 (md' := m_X12_wrong) (fun y => some (iV y.1)) (fun y => (sh, ex, R, y.2)) (hE _ _ sk_12) ⟨by decide, rfl⟩ mm_X12_wrong wm_12_217 ⟨rfl, rfl, by decide, by decide, by decide, by decide⟩ (Nat.le_of_ble_eq_true rfl) dX12_personLine_10 (fun y hy => c_X12_wrong hE hL y hy) (fun x2 => ?_)
    refine S_gd fun h3 => ?_
    exact S_zret dX12_personLine_13 rfl h3 (by decide) (by decide) (fun K hK => hK)
  refine Seg.step (pc' := 15) (I_aload_n (i := 0) dX12_personLine_14 rfl rfl) ?_
  refine S_callV0 (md' := m_X12_token) (fun y => none) (fun y => (sh, ex, R, y)) (hE _ _ sk_12) ⟨by decide, rfl⟩ mm_X12_token wm_12_227 ⟨rfl, rfl, by decide, by decide, by decide, by decide⟩ (Nat.le_of_ble_eq_true rfl) dX12_personLine_15 (fun y hy => c_X12_token hE hL y hy) (fun x4 => ?_)
  refine Seg.step (pc' := 19) (I_aload_n (i := 0) dX12_personLine_18 rfl rfl) ?_
  refine Seg.step (pc' := 20) (I_aload_n (i := 0) dX12_personLine_19 rfl rfl) ?_
  refine Seg.step (pc' := 23) (I_getR cls12 (by decide) wf_12_39 (hE _ _ sk_12) rfl (lk_12_28 hL) dX12_personLine_20) ?_
  refine Seg.step (pc' := 24) (I_iconst dX12_personLine_23 ⟨by decide, by decide⟩) ?_
  refine Seg.step (pc' := 25) (I_aload_n (i := 0) dX12_personLine_24 rfl rfl) ?_
  refine Seg.step (pc' := 28) (I_getI cls12 (by decide) wf_12_240 (hE _ _ sk_12) rfl dX12_personLine_25) ?_
  refine S_callV3 (md' := m_X12_newName) (fun y => some (iV y.1)) (fun y => (sh, ex, R, y.2)) (hE _ _ sk_12) ⟨by decide, rfl⟩ mm_X12_newName wm_12_281 ⟨rfl, rfl, by decide, by decide, by decide, by decide⟩ (Nat.le_of_ble_eq_true rfl) dX12_personLine_28 (fun y hy => c_X12_newName hE hL sk_12_28 y hy) (fun x5 => ?_)
  refine S_if_ne (tgt := 36) dX12_personLine_31 (by decide) (fun h6 => ?_) (fun h6 => ?_)
  · refine Seg.step (pc' := 35) (I_iconst dX12_personLine_34 ⟨by decide, by decide⟩) ?_
    exact S_zret dX12_personLine_35 rfl (by decide) (by decide) (by decide) (fun K hK => hK)
  refine Seg.step (pc' := 37) (I_iconst dX12_personLine_36 ⟨by decide, by decide⟩) ?_
  refine Seg.step (pc' := 38) (I_aload_n (i := 0) dX12_personLine_37 rfl rfl) ?_
  refine Seg.step (pc' := 41) (I_getI cls12 (by decide) wf_12_240 (hE _ _ sk_12) rfl dX12_personLine_38) ?_
  refine Seg.step (pc' := 42) (I_iadd dX12_personLine_41) ?_
  refine S_bI fun x7 => ?_
  refine Seg.step (pc' := 43) (I_istore_n (i := 1) dX12_personLine_42 rfl (by decide) rfl) ?_
  refine Seg.step (pc' := 44) (I_aload_n (i := 0) dX12_personLine_43 rfl rfl) ?_
  refine S_callV0 (md' := m_X12_roomThere) (fun y => some (iV y.1)) (fun y => (sh, ex, R, y.2)) (hE _ _ sk_12) ⟨by decide, rfl⟩ mm_X12_roomThere wm_12_285 ⟨rfl, rfl, by decide, by decide, by decide, by decide⟩ (Nat.le_of_ble_eq_true rfl) dX12_personLine_44 (fun y hy => c_X12_roomThere hE hL y hy) (fun x8 => ?_)
  refine S_if_ne (tgt := 52) dX12_personLine_47 (by decide) (fun h9 => ?_) (fun h9 => ?_)
  · refine Seg.step (pc' := 51) (I_iconst dX12_personLine_50 ⟨by decide, by decide⟩) ?_
    exact S_zret dX12_personLine_51 rfl (by decide) (by decide) (by decide) (fun K hK => hK)
  refine Seg.step (pc' := 53) (I_aload_n (i := 0) dX12_personLine_52 rfl rfl) ?_
  refine Seg.step (pc' := 56) (I_getR cls12 (by decide) wf_12_42 (hE _ _ sk_12) rfl (lk_12_29 hL) dX12_personLine_53) ?_
  refine Seg.step (pc' := 57) (I_iload_n (i := 1) dX12_personLine_56 rfl rfl) ?_
  refine Seg.step (pc' := 58) (I_aload_n (i := 0) dX12_personLine_57 rfl rfl) ?_
  refine Seg.step (pc' := 61) (I_getI cls12 (by decide) wf_12_224 (hE _ _ sk_12) rfl dX12_personLine_58) ?_
  refine S_gd fun h10 => ?_
  refine Seg.step (pc' := 62) (I_iast (hE _ _ sk_12_29) h10 dX12_personLine_61) ?_
  refine S_bM fun M11 => ?_
  refine Seg.step (pc' := 63) (I_aload_n (i := 0) dX12_personLine_62 rfl rfl) ?_
  refine Seg.step (pc' := 64) (I_iconst dX12_personLine_63 ⟨by decide, by decide⟩) ?_
  refine Seg.step (pc' := 66) (I_bipush dX12_personLine_64 (by decide) ⟨by decide, by decide⟩) ?_
  refine S_callV2 (md' := m_X12_number) (fun y => some (iV y.1)) (fun y => (sh, ex, R, y.2)) (hE _ _ sk_12) ⟨by decide, rfl⟩ mm_X12_number wm_12_233 ⟨rfl, rfl, by decide, by decide, by decide, by decide⟩ (Nat.le_of_ble_eq_true rfl) dX12_personLine_66 (fun y hy => c_X12_number hE hL y hy) (fun x12 => ?_)
  refine S_if_ne (tgt := 74) dX12_personLine_69 (by decide) (fun h13 => ?_) (fun h13 => ?_)
  · refine Seg.step (pc' := 73) (I_iconst dX12_personLine_72 ⟨by decide, by decide⟩) ?_
    exact S_zret dX12_personLine_73 rfl (by decide) (by decide) (by decide) (fun K hK => hK)
  refine Seg.step (pc' := 75) (I_aload_n (i := 0) dX12_personLine_74 rfl rfl) ?_
  refine Seg.step (pc' := 78) (I_getR cls12 (by decide) wf_12_45 (hE _ _ sk_12) rfl (lk_12_30 hL) dX12_personLine_75) ?_
  refine Seg.step (pc' := 79) (I_iload_n (i := 1) dX12_personLine_78 rfl rfl) ?_
  refine Seg.step (pc' := 80) (I_aload_n (i := 0) dX12_personLine_79 rfl rfl) ?_
  refine Seg.step (pc' := 83) (I_getI cls12 (by decide) wf_12_224 (hE _ _ sk_12) rfl dX12_personLine_80) ?_
  refine S_gd fun h14 => ?_
  refine Seg.step (pc' := 84) (I_iast (hE _ _ sk_12_30) h14 dX12_personLine_83) ?_
  refine S_bM fun M15 => ?_
  refine Seg.step (pc' := 85) (I_aload_n (i := 0) dX12_personLine_84 rfl rfl) ?_
  refine Seg.step (pc' := 86) (I_iconst dX12_personLine_85 ⟨by decide, by decide⟩) ?_
  refine Seg.step (pc' := 87) (I_iconst dX12_personLine_86 ⟨by decide, by decide⟩) ?_
  refine S_callV2 (md' := m_X12_number) (fun y => some (iV y.1)) (fun y => (sh, ex, R, y.2)) (hE _ _ sk_12) ⟨by decide, rfl⟩ mm_X12_number wm_12_233 ⟨rfl, rfl, by decide, by decide, by decide, by decide⟩ (Nat.le_of_ble_eq_true rfl) dX12_personLine_87 (fun y hy => c_X12_number hE hL y hy) (fun x16 => ?_)
  refine S_if_ne (tgt := 95) dX12_personLine_90 (by decide) (fun h17 => ?_) (fun h17 => ?_)
  · refine Seg.step (pc' := 94) (I_iconst dX12_personLine_93 ⟨by decide, by decide⟩) ?_
    exact S_zret dX12_personLine_94 rfl (by decide) (by decide) (by decide) (fun K hK => hK)
  refine Seg.step (pc' := 96) (I_aload_n (i := 0) dX12_personLine_95 rfl rfl) ?_
  refine Seg.step (pc' := 99) (I_getR cls12 (by decide) wf_12_48 (hE _ _ sk_12) rfl (lk_12_31 hL) dX12_personLine_96) ?_
  refine Seg.step (pc' := 100) (I_iload_n (i := 1) dX12_personLine_99 rfl rfl) ?_
  refine Seg.step (pc' := 101) (I_aload_n (i := 0) dX12_personLine_100 rfl rfl) ?_
  refine Seg.step (pc' := 104) (I_getI cls12 (by decide) wf_12_224 (hE _ _ sk_12) rfl dX12_personLine_101) ?_
  refine S_gd fun h18 => ?_
  refine Seg.step (pc' := 105) (I_iast (hE _ _ sk_12_31) h18 dX12_personLine_104) ?_
  refine S_bM fun M19 => ?_
  refine Seg.step (pc' := 106) (I_aload_n (i := 0) dX12_personLine_105 rfl rfl) ?_
  refine Seg.step (pc' := 107) (I_iconst dX12_personLine_106 ⟨by decide, by decide⟩) ?_
  refine Seg.step (pc' := 109) (I_bipush dX12_personLine_107 (by decide) ⟨by decide, by decide⟩) ?_
  refine S_callV2 (md' := m_X12_number) (fun y => some (iV y.1)) (fun y => (sh, ex, R, y.2)) (hE _ _ sk_12) ⟨by decide, rfl⟩ mm_X12_number wm_12_233 ⟨rfl, rfl, by decide, by decide, by decide, by decide⟩ (Nat.le_of_ble_eq_true rfl) dX12_personLine_109 (fun y hy => c_X12_number hE hL y hy) (fun x20 => ?_)
  refine S_if_ne (tgt := 117) dX12_personLine_112 (by decide) (fun h21 => ?_) (fun h21 => ?_)
  · refine Seg.step (pc' := 116) (I_iconst dX12_personLine_115 ⟨by decide, by decide⟩) ?_
    exact S_zret dX12_personLine_116 rfl (by decide) (by decide) (by decide) (fun K hK => hK)
  refine Seg.step (pc' := 118) (I_aload_n (i := 0) dX12_personLine_117 rfl rfl) ?_
  refine Seg.step (pc' := 121) (I_getR cls12 (by decide) wf_12_51 (hE _ _ sk_12) rfl (lk_12_32 hL) dX12_personLine_118) ?_
  refine Seg.step (pc' := 122) (I_iload_n (i := 1) dX12_personLine_121 rfl rfl) ?_
  refine Seg.step (pc' := 123) (I_aload_n (i := 0) dX12_personLine_122 rfl rfl) ?_
  refine Seg.step (pc' := 126) (I_getI cls12 (by decide) wf_12_224 (hE _ _ sk_12) rfl dX12_personLine_123) ?_
  refine S_gd fun h22 => ?_
  refine Seg.step (pc' := 127) (I_iast (hE _ _ sk_12_32) h22 dX12_personLine_126) ?_
  refine S_bM fun M23 => ?_
  refine Seg.step (pc' := 128) (I_aload_n (i := 0) dX12_personLine_127 rfl rfl) ?_
  refine Seg.step (pc' := 129) (I_dup dX12_personLine_128 (fun _ h => by cases h)) ?_
  refine Seg.step (pc' := 132) (I_getI cls12 (by decide) wf_12_240 (hE _ _ sk_12) rfl dX12_personLine_129) ?_
  refine Seg.step (pc' := 133) (I_iconst dX12_personLine_132 ⟨by decide, by decide⟩) ?_
  refine Seg.step (pc' := 134) (I_iadd dX12_personLine_133) ?_
  refine Seg.step (pc' := 137) (I_putI cls12 (by decide) wf_12_240 (hE _ _ sk_12) rfl rfl dX12_personLine_134) ?_
  refine S_bM fun M24 => ?_
  refine Seg.step (pc' := 138) (I_iconst dX12_personLine_137 ⟨by decide, by decide⟩) ?_
  exact S_zret dX12_personLine_138 rfl (by decide) (by decide) (by decide) (fun K hK => hK)
