theorem dX12_isOn_0 : decode cX12_isOn 0 = .ok (.aload_n 0, 1) := by decide +kernel
theorem dX12_isOn_1 : decode cX12_isOn 1 = .ok (.getfield 255, 3) := by decide +kernel
theorem dX12_isOn_4 : decode cX12_isOn 4 = .ok (.ifCond .ne 5, 3) := by decide +kernel
theorem dX12_isOn_7 : decode cX12_isOn 7 = .ok (.iconst 0, 1) := by decide +kernel
theorem dX12_isOn_8 : decode cX12_isOn 8 = .ok (.ireturn, 1) := by decide +kernel
theorem dX12_isOn_9 : decode cX12_isOn 9 = .ok (.aload_n 0, 1) := by decide +kernel
theorem dX12_isOn_10 : decode cX12_isOn 10 = .ok (.getfield 97, 3) := by decide +kernel
theorem dX12_isOn_13 : decode cX12_isOn 13 = .ok (.iconst 5, 1) := by decide +kernel
theorem dX12_isOn_14 : decode cX12_isOn 14 = .ok (.iload_n 1, 1) := by decide +kernel
theorem dX12_isOn_15 : decode cX12_isOn 15 = .ok (.imul, 1) := by decide +kernel
theorem dX12_isOn_16 : decode cX12_isOn 16 = .ok (.aload_n 0, 1) := by decide +kernel
theorem dX12_isOn_17 : decode cX12_isOn 17 = .ok (.getfield 115, 3) := by decide +kernel
theorem dX12_isOn_20 : decode cX12_isOn 20 = .ok (.iload_n 1, 1) := by decide +kernel
theorem dX12_isOn_21 : decode cX12_isOn 21 = .ok (.iaload, 1) := by decide +kernel
theorem dX12_isOn_22 : decode cX12_isOn 22 = .ok (.iadd, 1) := by decide +kernel
theorem dX12_isOn_23 : decode cX12_isOn 23 = .ok (.iaload, 1) := by decide +kernel
theorem dX12_isOn_24 : decode cX12_isOn 24 = .ok (.aload_n 0, 1) := by decide +kernel
theorem dX12_isOn_25 : decode cX12_isOn 25 = .ok (.getfield 118, 3) := by decide +kernel
theorem dX12_isOn_28 : decode cX12_isOn 28 = .ok (.iload_n 1, 1) := by decide +kernel
theorem dX12_isOn_29 : decode cX12_isOn 29 = .ok (.baload, 1) := by decide +kernel
theorem dX12_isOn_30 : decode cX12_isOn 30 = .ok (.ifCond .eq 8, 3) := by decide +kernel
theorem dX12_isOn_33 : decode cX12_isOn 33 = .ok (.bipush 50, 2) := by decide +kernel
theorem dX12_isOn_35 : decode cX12_isOn 35 = .ok (.goto 4, 3) := by decide +kernel
theorem dX12_isOn_38 : decode cX12_isOn 38 = .ok (.iconst 0, 1) := by decide +kernel
theorem dX12_isOn_39 : decode cX12_isOn 39 = .ok (.iadd, 1) := by decide +kernel
theorem dX12_isOn_40 : decode cX12_isOn 40 = .ok (.bipush 10, 2) := by decide +kernel
theorem dX12_isOn_42 : decode cX12_isOn 42 = .ok (.aload_n 0, 1) := by decide +kernel
theorem dX12_isOn_43 : decode cX12_isOn 43 = .ok (.getfield 112, 3) := by decide +kernel
theorem dX12_isOn_46 : decode cX12_isOn 46 = .ok (.iload_n 1, 1) := by decide +kernel
theorem dX12_isOn_47 : decode cX12_isOn 47 = .ok (.iaload, 1) := by decide +kernel
theorem dX12_isOn_48 : decode cX12_isOn 48 = .ok (.imul, 1) := by decide +kernel
theorem dX12_isOn_49 : decode cX12_isOn 49 = .ok (.if_icmp .ge 7, 3) := by decide +kernel
theorem dX12_isOn_52 : decode cX12_isOn 52 = .ok (.iconst 1, 1) := by decide +kernel
theorem dX12_isOn_53 : decode cX12_isOn 53 = .ok (.goto 4, 3) := by decide +kernel
theorem dX12_isOn_56 : decode cX12_isOn 56 = .ok (.iconst 0, 1) := by decide +kernel
theorem dX12_isOn_57 : decode cX12_isOn 57 = .ok (.ireturn, 1) := by decide +kernel
def f_X12_isOn (M : MM) (p1 : Int) : Option (Int) :=
if (M 88 12) = 0 then
(some 0)
else
gd (0 ≤ p1 ∧ p1 < (2 : Int)) <|
gd (0 ≤ w32 ((w32 (5 * p1)) + (M 122 (p1).toNat)) ∧ w32 ((w32 (5 * p1)) + (M 122 (p1).toNat)) < (10 : Int)) <|
gd (0 ≤ p1 ∧ p1 < (2 : Int)) <|
((if (M 123 (p1).toNat) = 0 then
(some 0)
else
some 50) : Option (Int)).bind fun x6 =>
gd (0 ≤ p1 ∧ p1 < (2 : Int)) <|
if (w32 ((M 116 (w32 ((w32 (5 * p1)) + (M 122 (p1).toNat))).toNat) + x6)) < (w32 (10 * (M 121 (p1).toNat))) then
(some 1)
else
some 0
set_option maxRecDepth 4000 in
theorem c_X12_isOn {E : EE} {sh : List (Nat × Nat)} {ex : Bool} {R : RM} {M : MM} {p1 : Int} (hE : Ext sh) (hL : Links R) : ∀ y, f_X12_isOn M p1 = some y → MetC E m_X12_isOn 0 0 [rV 88, iV p1] (sh, ex, R, M) (fun r w' => r = some (iV y) ∧ w' = (sh, ex, R, M)) := by
  intro y hy
  refine MetC.seg (o := f_X12_isOn M p1) (t := (fun K y => K (some (iV y)) (sh, ex, R, M))) (L := [some (rV 88), some (iV p1)]) (by decide) rfl (Nat.le_of_ble_eq_true rfl) ?_ hy ⟨rfl, rfl⟩
  unfold f_X12_isOn
  refine Seg.step (pc' := 1) (I_aload_n (i := 0) dX12_isOn_0 rfl rfl) ?_
  refine Seg.step (pc' := 4) (I_getI cls12 (by decide) wf_12_255 (hE _ _ sk_12) rfl dX12_isOn_1) ?_
  refine S_if_ne (tgt := 9) dX12_isOn_4 (by decide) (fun h1 => ?_) (fun h1 => ?_)
  · refine Seg.step (pc' := 8) (I_iconst dX12_isOn_7 ⟨by decide, by decide⟩) ?_
    exact S_zret dX12_isOn_8 rfl (by decide) (by decide) (by decide) (fun K hK => hK)
  refine Seg.step (pc' := 10) (I_aload_n (i := 0) dX12_isOn_9 rfl rfl) ?_
  refine Seg.step (pc' := 13) (I_getR cls12 (by decide) wf_12_97 (hE _ _ sk_12) rfl (lk_12_54 hL) dX12_isOn_10) ?_
  refine Seg.step (pc' := 14) (I_iconst dX12_isOn_13 ⟨by decide, by decide⟩) ?_
  refine Seg.step (pc' := 15) (I_iload_n (i := 1) dX12_isOn_14 rfl rfl) ?_
  refine Seg.step (pc' := 16) (I_imul dX12_isOn_15) ?_
  refine Seg.step (pc' := 17) (I_aload_n (i := 0) dX12_isOn_16 rfl rfl) ?_
  refine Seg.step (pc' := 20) (I_getR cls12 (by decide) wf_12_115 (hE _ _ sk_12) rfl (lk_12_60 hL) dX12_isOn_17) ?_
  refine Seg.step (pc' := 21) (I_iload_n (i := 1) dX12_isOn_20 rfl rfl) ?_
  refine S_gd fun h2 => ?_
  refine Seg.step (pc' := 22) (I_iald (hE _ _ sk_12_60) h2 dX12_isOn_21) ?_
  refine Seg.step (pc' := 23) (I_iadd dX12_isOn_22) ?_
  refine S_gd fun h3 => ?_
  refine Seg.step (pc' := 24) (I_iald (hE _ _ sk_12_54) h3 dX12_isOn_23) ?_
  refine Seg.step (pc' := 25) (I_aload_n (i := 0) dX12_isOn_24 rfl rfl) ?_
  refine Seg.step (pc' := 28) (I_getR cls12 (by decide) wf_12_118 (hE _ _ sk_12) rfl (lk_12_61 hL) dX12_isOn_25) ?_
  refine Seg.step (pc' := 29) (I_iload_n (i := 1) dX12_isOn_28 rfl rfl) ?_
  refine S_gd fun h4 => ?_
  refine Seg.step (pc' := 30) (I_zald (hE _ _ sk_12_61) h4 dX12_isOn_29) ?_
  refine S_bind (Y := Int) (k' := 0) (n' := 0) 39 (fun y => [some (rV 88), some (iV p1)]) (fun y => [iV y, iV (M 116 (w32 ((w32 (5 * p1)) + (M 122 (p1).toNat))).toNat)]) (fun y => (sh, ex, R, M)) ?_ (fun x6 => ?_)
  · refine S_if_eq (tgt := 38) dX12_isOn_30 (by decide) (fun h5 => ?_) (fun h5 => ?_)
    · refine Seg.step (pc' := 39) (I_iconst dX12_isOn_38 ⟨by decide, by decide⟩) ?_
      exact S_arr (fun K hK => GG.forget (Lle.ye (Lle.ye (Lle.nil))) hK)
    refine Seg.step (pc' := 35) (I_bipush dX12_isOn_33 (by decide) ⟨by decide, by decide⟩) ?_
    refine Seg.step (pc' := 39) (I_goto (tgt := 39) dX12_isOn_35 (by decide)) ?_
    exact S_arr (fun K hK => GG.forget (Lle.ye (Lle.ye (Lle.nil))) hK)
  refine Seg.step (pc' := 40) (I_iadd dX12_isOn_39) ?_
  refine Seg.step (pc' := 42) (I_bipush dX12_isOn_40 (by decide) ⟨by decide, by decide⟩) ?_
  refine Seg.step (pc' := 43) (I_aload_n (i := 0) dX12_isOn_42 rfl rfl) ?_
  refine Seg.step (pc' := 46) (I_getR cls12 (by decide) wf_12_112 (hE _ _ sk_12) rfl (lk_12_59 hL) dX12_isOn_43) ?_
  refine Seg.step (pc' := 47) (I_iload_n (i := 1) dX12_isOn_46 rfl rfl) ?_
  refine S_gd fun h7 => ?_
  refine Seg.step (pc' := 48) (I_iald (hE _ _ sk_12_59) h7 dX12_isOn_47) ?_
  refine Seg.step (pc' := 49) (I_imul dX12_isOn_48) ?_
  refine S_icmp_ge (tgt := 56) dX12_isOn_49 (by decide) (fun h8 => ?_) (fun h8 => ?_)
  · refine Seg.step (pc' := 53) (I_iconst dX12_isOn_52 ⟨by decide, by decide⟩) ?_
    refine Seg.step (pc' := 57) (I_goto (tgt := 57) dX12_isOn_53 (by decide)) ?_
    exact S_zret dX12_isOn_57 rfl (by decide) (by decide) (by decide) (fun K hK => hK)
  refine Seg.step (pc' := 57) (I_iconst dX12_isOn_56 ⟨by decide, by decide⟩) ?_
  exact S_zret dX12_isOn_57 rfl (by decide) (by decide) (by decide) (fun K hK => hK)
theorem dX12_within_0 : decode cX12_within 0 = .ok (.iload_n 0, 1) := by decide +kernel
theorem dX12_within_1 : decode cX12_within 1 = .ok (.iload_n 1, 1) := by decide +kernel
theorem dX12_within_2 : decode cX12_within 2 = .ok (.if_icmp .ge 7, 3) := by decide +kernel
theorem dX12_within_5 : decode cX12_within 5 = .ok (.iload_n 1, 1) := by decide +kernel
theorem dX12_within_6 : decode cX12_within 6 = .ok (.goto 13, 3) := by decide +kernel
theorem dX12_within_9 : decode cX12_within 9 = .ok (.iload_n 0, 1) := by decide +kernel
theorem dX12_within_10 : decode cX12_within 10 = .ok (.iload_n 2, 1) := by decide +kernel
theorem dX12_within_11 : decode cX12_within 11 = .ok (.if_icmp .le 7, 3) := by decide +kernel
theorem dX12_within_14 : decode cX12_within 14 = .ok (.iload_n 2, 1) := by decide +kernel
theorem dX12_within_15 : decode cX12_within 15 = .ok (.goto 4, 3) := by decide +kernel
theorem dX12_within_18 : decode cX12_within 18 = .ok (.iload_n 0, 1) := by decide +kernel
theorem dX12_within_19 : decode cX12_within 19 = .ok (.ireturn, 1) := by decide +kernel
def f_X12_within (M : MM) (p1 : Int) (p2 : Int) (p3 : Int) : Option (Int) :=
if p1 < p2 then
(some p2)
else
if p3 < p1 then
(some p3)
else
some p1
set_option maxRecDepth 4000 in
theorem c_X12_within {E : EE} {sh : List (Nat × Nat)} {ex : Bool} {R : RM} {M : MM} {p1 : Int} {p2 : Int} {p3 : Int} (hE : Ext sh) (hL : Links R) : ∀ y, f_X12_within M p1 p2 p3 = some y → MetC E m_X12_within 0 0 [iV p1, iV p2, iV p3] (sh, ex, R, M) (fun r w' => r = some (iV y) ∧ w' = (sh, ex, R, M)) := by
  intro y hy
  refine MetC.seg (o := f_X12_within M p1 p2 p3) (t := (fun K y => K (some (iV y)) (sh, ex, R, M))) (L := [some (iV p1), some (iV p2), some (iV p3)]) (by decide) rfl (Nat.le_of_ble_eq_true rfl) ?_ hy ⟨rfl, rfl⟩
  unfold f_X12_within
  refine Seg.step (pc' := 1) (I_iload_n (i := 0) dX12_within_0 rfl rfl) ?_
  refine Seg.step (pc' := 2) (I_iload_n (i := 1) dX12_within_1 rfl rfl) ?_
  refine S_icmp_ge (tgt := 9) dX12_within_2 (by decide) (fun h1 => ?_) (fun h1 => ?_)
  · refine Seg.step (pc' := 6) (I_iload_n (i := 1) dX12_within_5 rfl rfl) ?_
    refine Seg.step (pc' := 19) (I_goto (tgt := 19) dX12_within_6 (by decide)) ?_
    exact S_iret dX12_within_19 rfl (by decide) (by decide) (fun K hK => hK)
  refine Seg.step (pc' := 10) (I_iload_n (i := 0) dX12_within_9 rfl rfl) ?_
  refine Seg.step (pc' := 11) (I_iload_n (i := 2) dX12_within_10 rfl rfl) ?_
  refine S_icmp_le (tgt := 18) dX12_within_11 (by decide) (fun h2 => ?_) (fun h2 => ?_)
  · refine Seg.step (pc' := 15) (I_iload_n (i := 2) dX12_within_14 rfl rfl) ?_
    refine Seg.step (pc' := 19) (I_goto (tgt := 19) dX12_within_15 (by decide)) ?_
    exact S_iret dX12_within_19 rfl (by decide) (by decide) (fun K hK => hK)
  refine Seg.step (pc' := 19) (I_iload_n (i := 0) dX12_within_18 rfl rfl) ?_
  exact S_iret dX12_within_19 rfl (by decide) (by decide) (fun K hK => hK)
theorem dX12_find_0 : decode cX12_find 0 = .ok (.iconst 0, 1) := by decide +kernel
theorem dX12_find_1 : decode cX12_find 1 = .ok (.istore 4, 2) := by decide +kernel
theorem dX12_find_3 : decode cX12_find 3 = .ok (.iload 4, 2) := by decide +kernel
theorem dX12_find_5 : decode cX12_find 5 = .ok (.iload_n 2, 1) := by decide +kernel
theorem dX12_find_6 : decode cX12_find 6 = .ok (.if_icmp .ge 22, 3) := by decide +kernel
theorem dX12_find_9 : decode cX12_find 9 = .ok (.aload_n 0, 1) := by decide +kernel
theorem dX12_find_10 : decode cX12_find 10 = .ok (.iload_n 1, 1) := by decide +kernel
theorem dX12_find_11 : decode cX12_find 11 = .ok (.iload 4, 2) := by decide +kernel
theorem dX12_find_13 : decode cX12_find 13 = .ok (.iadd, 1) := by decide +kernel
theorem dX12_find_14 : decode cX12_find 14 = .ok (.iaload, 1) := by decide +kernel
theorem dX12_find_15 : decode cX12_find 15 = .ok (.iload_n 3, 1) := by decide +kernel
theorem dX12_find_16 : decode cX12_find 16 = .ok (.if_icmp .ne 6, 3) := by decide +kernel
theorem dX12_find_19 : decode cX12_find 19 = .ok (.iload 4, 2) := by decide +kernel
theorem dX12_find_21 : decode cX12_find 21 = .ok (.ireturn, 1) := by decide +kernel
theorem dX12_find_22 : decode cX12_find 22 = .ok (.iinc 4 1, 3) := by decide +kernel
theorem dX12_find_25 : decode cX12_find 25 = .ok (.goto (-22), 3) := by decide +kernel
theorem dX12_find_28 : decode cX12_find 28 = .ok (.iconst (-1), 1) := by decide +kernel
theorem dX12_find_29 : decode cX12_find 29 = .ok (.ireturn, 1) := by decide +kernel
def f_X12_find (M : MM) (a1 n1 : Nat) (p2 : Int) (p3 : Int) (p4 : Int) : Option (Int) :=
lp (X := Int) (Y := Int) (fun x1 =>
if x1 < p3 then
(gd (0 ≤ w32 (p2 + x1) ∧ w32 (p2 + x1) < (n1 : Int)) <|
if (M a1 (w32 (p2 + x1)).toNat) = p4 then
(some (Sum.inr x1))
else
some (Sum.inl (w32 (x1 + 1))))
else
some (Sum.inr (-1))) FU 0
set_option maxRecDepth 4000 in
theorem c_X12_find {E : EE} {sh : List (Nat × Nat)} {ex : Bool} {R : RM} {M : MM} {a1 n1 : Nat} {p2 : Int} {p3 : Int} {p4 : Int} (hE : Ext sh) (hL : Links R) (h1 : SH0[a1]? = some (50, n1)) : ∀ y, f_X12_find M a1 n1 p2 p3 p4 = some y → MetC E m_X12_find 0 0 [rV a1, iV p2, iV p3, iV p4] (sh, ex, R, M) (fun r w' => r = some (iV y) ∧ w' = (sh, ex, R, M)) := by
  intro y hy
  refine MetC.seg (o := f_X12_find M a1 n1 p2 p3 p4) (t := (fun K y => K (some (iV y)) (sh, ex, R, M))) (L := [some (rV a1), some (iV p2), some (iV p3), some (iV p4), none]) (by decide) rfl (Nat.le_of_ble_eq_true rfl) ?_ hy ⟨rfl, rfl⟩
  unfold f_X12_find
  refine Seg.step (pc' := 1) (I_iconst dX12_find_0 ⟨by decide, by decide⟩) ?_
  refine Seg.step (pc' := 3) (I_istore dX12_find_1 (by decide) rfl) ?_
  refine Seg.forget (Lle.ye (Lle.ye (Lle.ye (Lle.ye (Lle.ye (Lle.nil)))))) ?_
  refine S_loop (Y := Int) (fun y => [some (rV a1), some (iV p2), some (iV p3), some (iV p4), some (iV y)]) (fun y => []) (fun y => (sh, ex, R, M)) (fun x1 => ?_) FU 0
  refine Seg.step (pc' := 5) (I_iload dX12_find_3 rfl) ?_
  refine Seg.step (pc' := 6) (I_iload_n (i := 2) dX12_find_5 rfl rfl) ?_
  refine S_icmp_ge (tgt := 28) dX12_find_6 (by decide) (fun h2 => ?_) (fun h2 => ?_)
  · refine Seg.step (pc' := 10) (I_aload_n (i := 0) dX12_find_9 rfl rfl) ?_
    refine Seg.step (pc' := 11) (I_iload_n (i := 1) dX12_find_10 rfl rfl) ?_
    refine Seg.step (pc' := 13) (I_iload dX12_find_11 rfl) ?_
    refine Seg.step (pc' := 14) (I_iadd dX12_find_13) ?_
    refine S_gd fun h3 => ?_
    refine Seg.step (pc' := 15) (I_iald (hE _ _ h1) h3 dX12_find_14) ?_
    refine Seg.step (pc' := 16) (I_iload_n (i := 3) dX12_find_15 rfl rfl) ?_
    refine S_icmp_ne (tgt := 22) dX12_find_16 (by decide) (fun h4 => ?_) (fun h4 => ?_)
    · refine Seg.step (pc' := 21) (I_iload dX12_find_19 rfl) ?_
      exact S_iret dX12_find_21 rfl (by decide) (by decide) (fun K hK => hK)
    refine Seg.step (pc' := 25) (I_iinc dX12_find_22 rfl (by decide) rfl) ?_
    refine Seg.step (pc' := 3) (I_goto (tgt := 3) dX12_find_25 (by decide)) ?_
    exact S_arr (fun K hK => GG.forget (Lle.ye (Lle.ye (Lle.ye (Lle.ye (Lle.ye (Lle.nil)))))) hK)
  refine Seg.step (pc' := 29) (I_iconst dX12_find_28 ⟨by decide, by decide⟩) ?_
  exact S_iret dX12_find_29 rfl (by decide) (by decide) (fun K hK => hK)
theorem dX12_isRoom_0 : decode cX12_isRoom 0 = .ok (.iload_n 1, 1) := by decide +kernel
theorem dX12_isRoom_1 : decode cX12_isRoom 1 = .ok (.ifCond .lt 15, 3) := by decide +kernel
theorem dX12_isRoom_4 : decode cX12_isRoom 4 = .ok (.iload_n 1, 1) := by decide +kernel
theorem dX12_isRoom_5 : decode cX12_isRoom 5 = .ok (.aload_n 0, 1) := by decide +kernel
theorem dX12_isRoom_6 : decode cX12_isRoom 6 = .ok (.getfield 255, 3) := by decide +kernel
theorem dX12_isRoom_9 : decode cX12_isRoom 9 = .ok (.if_icmp .ge 7, 3) := by decide +kernel
theorem dX12_isRoom_12 : decode cX12_isRoom 12 = .ok (.iconst 1, 1) := by decide +kernel
theorem dX12_isRoom_13 : decode cX12_isRoom 13 = .ok (.goto 4, 3) := by decide +kernel
theorem dX12_isRoom_16 : decode cX12_isRoom 16 = .ok (.iconst 0, 1) := by decide +kernel
theorem dX12_isRoom_17 : decode cX12_isRoom 17 = .ok (.ireturn, 1) := by decide +kernel
def f_X12_isRoom (M : MM) (p1 : Int) : Option (Int) :=
if p1 < 0 then
(some 0)
else
if p1 < (M 88 12) then
(some 1)
else
some 0
set_option maxRecDepth 4000 in
theorem c_X12_isRoom {E : EE} {sh : List (Nat × Nat)} {ex : Bool} {R : RM} {M : MM} {p1 : Int} (hE : Ext sh) (hL : Links R) : ∀ y, f_X12_isRoom M p1 = some y → MetC E m_X12_isRoom 0 0 [rV 88, iV p1] (sh, ex, R, M) (fun r w' => r = some (iV y) ∧ w' = (sh, ex, R, M)) := by
  intro y hy
  refine MetC.seg (o := f_X12_isRoom M p1) (t := (fun K y => K (some (iV y)) (sh, ex, R, M))) (L := [some (rV 88), some (iV p1)]) (by decide) rfl (Nat.le_of_ble_eq_true rfl) ?_ hy ⟨rfl, rfl⟩
  unfold f_X12_isRoom
  refine Seg.step (pc' := 1) (I_iload_n (i := 1) dX12_isRoom_0 rfl rfl) ?_
  refine S_if_lt (tgt := 16) dX12_isRoom_1 (by decide) (fun h1 => ?_) (fun h1 => ?_)
  · refine Seg.step (pc' := 17) (I_iconst dX12_isRoom_16 ⟨by decide, by decide⟩) ?_
    exact S_zret dX12_isRoom_17 rfl (by decide) (by decide) (by decide) (fun K hK => hK)
  refine Seg.step (pc' := 5) (I_iload_n (i := 1) dX12_isRoom_4 rfl rfl) ?_
  refine Seg.step (pc' := 6) (I_aload_n (i := 0) dX12_isRoom_5 rfl rfl) ?_
  refine Seg.step (pc' := 9) (I_getI cls12 (by decide) wf_12_255 (hE _ _ sk_12) rfl dX12_isRoom_6) ?_
  refine S_icmp_ge (tgt := 16) dX12_isRoom_9 (by decide) (fun h2 => ?_) (fun h2 => ?_)
  · refine Seg.step (pc' := 13) (I_iconst dX12_isRoom_12 ⟨by decide, by decide⟩) ?_
    refine Seg.step (pc' := 17) (I_goto (tgt := 17) dX12_isRoom_13 (by decide)) ?_
    exact S_zret dX12_isRoom_17 rfl (by decide) (by decide) (by decide) (fun K hK => hK)
  refine Seg.step (pc' := 17) (I_iconst dX12_isRoom_16 ⟨by decide, by decide⟩) ?_
  exact S_zret dX12_isRoom_17 rfl (by decide) (by decide) (by decide) (fun K hK => hK)
theorem dX12_leakOf_0 : decode cX12_leakOf 0 = .ok (.iload_n 1, 1) := by decide +kernel
theorem dX12_leakOf_1 : decode cX12_leakOf 1 = .ok (.aload_n 0, 1) := by decide +kernel
theorem dX12_leakOf_2 : decode cX12_leakOf 2 = .ok (.getfield 412, 3) := by decide +kernel
theorem dX12_leakOf_5 : decode cX12_leakOf 5 = .ok (.if_icmp .ne 14, 3) := by decide +kernel
theorem dX12_leakOf_8 : decode cX12_leakOf 8 = .ok (.aload_n 0, 1) := by decide +kernel
theorem dX12_leakOf_9 : decode cX12_leakOf 9 = .ok (.getfield 33, 3) := by decide +kernel
theorem dX12_leakOf_12 : decode cX12_leakOf 12 = .ok (.iload_n 1, 1) := by decide +kernel
theorem dX12_leakOf_13 : decode cX12_leakOf 13 = .ok (.iaload, 1) := by decide +kernel
theorem dX12_leakOf_14 : decode cX12_leakOf 14 = .ok (.iconst 2, 1) := by decide +kernel
theorem dX12_leakOf_15 : decode cX12_leakOf 15 = .ok (.idiv, 1) := by decide +kernel
theorem dX12_leakOf_16 : decode cX12_leakOf 16 = .ok (.goto 9, 3) := by decide +kernel
theorem dX12_leakOf_19 : decode cX12_leakOf 19 = .ok (.aload_n 0, 1) := by decide +kernel
theorem dX12_leakOf_20 : decode cX12_leakOf 20 = .ok (.getfield 33, 3) := by decide +kernel
theorem dX12_leakOf_23 : decode cX12_leakOf 23 = .ok (.iload_n 1, 1) := by decide +kernel
theorem dX12_leakOf_24 : decode cX12_leakOf 24 = .ok (.iaload, 1) := by decide +kernel
theorem dX12_leakOf_25 : decode cX12_leakOf 25 = .ok (.ireturn, 1) := by decide +kernel
def f_X12_leakOf (M : MM) (p1 : Int) : Option (Int) :=
if p1 = (M 88 74) then
(gd (0 ≤ p1 ∧ p1 < (10 : Int)) <|
some (w32 (Int.tdiv (M 95 (p1).toNat) 2)))
else
gd (0 ≤ p1 ∧ p1 < (10 : Int)) <|
some (M 95 (p1).toNat)
set_option maxRecDepth 4000 in
theorem c_X12_leakOf {E : EE} {sh : List (Nat × Nat)} {ex : Bool} {R : RM} {M : MM} {p1 : Int} (hE : Ext sh) (hL : Links R) : ∀ y, f_X12_leakOf M p1 = some y → MetC E m_X12_leakOf 0 0 [rV 88, iV p1] (sh, ex, R, M) (fun r w' => r = some (iV y) ∧ w' = (sh, ex, R, M)) := by
  intro y hy
  refine MetC.seg (o := f_X12_leakOf M p1) (t := (fun K y => K (some (iV y)) (sh, ex, R, M))) (L := [some (rV 88), some (iV p1)]) (by decide) rfl (Nat.le_of_ble_eq_true rfl) ?_ hy ⟨rfl, rfl⟩
  unfold f_X12_leakOf
  refine Seg.step (pc' := 1) (I_iload_n (i := 1) dX12_leakOf_0 rfl rfl) ?_
  refine Seg.step (pc' := 2) (I_aload_n (i := 0) dX12_leakOf_1 rfl rfl) ?_
  refine Seg.step (pc' := 5) (I_getI cls12 (by decide) wf_12_412 (hE _ _ sk_12) rfl dX12_leakOf_2) ?_
  refine S_icmp_ne (tgt := 19) dX12_leakOf_5 (by decide) (fun h1 => ?_) (fun h1 => ?_)
  · refine Seg.step (pc' := 9) (I_aload_n (i := 0) dX12_leakOf_8 rfl rfl) ?_
    refine Seg.step (pc' := 12) (I_getR cls12 (by decide) wf_12_33 (hE _ _ sk_12) rfl (lk_12_26 hL) dX12_leakOf_9) ?_
    refine Seg.step (pc' := 13) (I_iload_n (i := 1) dX12_leakOf_12 rfl rfl) ?_
    refine S_gd fun h2 => ?_
    refine Seg.step (pc' := 14) (I_iald (hE _ _ sk_12_26) h2 dX12_leakOf_13) ?_
    refine Seg.step (pc' := 15) (I_iconst dX12_leakOf_14 ⟨by decide, by decide⟩) ?_
    refine Seg.step (pc' := 16) (I_idiv dX12_leakOf_15 (by decide)) ?_
    refine Seg.step (pc' := 25) (I_goto (tgt := 25) dX12_leakOf_16 (by decide)) ?_
    exact S_iret dX12_leakOf_25 rfl (by decide) (by decide) (fun K hK => hK)
  refine Seg.step (pc' := 20) (I_aload_n (i := 0) dX12_leakOf_19 rfl rfl) ?_
  refine Seg.step (pc' := 23) (I_getR cls12 (by decide) wf_12_33 (hE _ _ sk_12) rfl (lk_12_26 hL) dX12_leakOf_20) ?_
  refine Seg.step (pc' := 24) (I_iload_n (i := 1) dX12_leakOf_23 rfl rfl) ?_
  refine S_gd fun h3 => ?_
  refine Seg.step (pc' := 25) (I_iald (hE _ _ sk_12_26) h3 dX12_leakOf_24) ?_
  exact S_iret dX12_leakOf_25 rfl (by decide) (by decide) (fun K hK => hK)
theorem dX12_outOf_0 : decode cX12_outOf 0 = .ok (.aload_n 0, 1) := by decide +kernel
theorem dX12_outOf_1 : decode cX12_outOf 1 = .ok (.getfield 264, 3) := by decide +kernel
theorem dX12_outOf_4 : decode cX12_outOf 4 = .ok (.ifCond .ne 8, 3) := by decide +kernel
theorem dX12_outOf_7 : decode cX12_outOf 7 = .ok (.bipush 100, 2) := by decide +kernel
theorem dX12_outOf_9 : decode cX12_outOf 9 = .ok (.goto 14, 3) := by decide +kernel
theorem dX12_outOf_12 : decode cX12_outOf 12 = .ok (.aload_n 0, 1) := by decide +kernel
theorem dX12_outOf_13 : decode cX12_outOf 13 = .ok (.getfield 63, 3) := by decide +kernel
theorem dX12_outOf_16 : decode cX12_outOf 16 = .ok (.iload_n 1, 1) := by decide +kernel
theorem dX12_outOf_17 : decode cX12_outOf 17 = .ok (.aload_n 0, 1) := by decide +kernel
theorem dX12_outOf_18 : decode cX12_outOf 18 = .ok (.getfield 264, 3) := by decide +kernel
theorem dX12_outOf_21 : decode cX12_outOf 21 = .ok (.irem, 1) := by decide +kernel
theorem dX12_outOf_22 : decode cX12_outOf 22 = .ok (.iaload, 1) := by decide +kernel
theorem dX12_outOf_23 : decode cX12_outOf 23 = .ok (.istore_n 2, 1) := by decide +kernel
theorem dX12_outOf_24 : decode cX12_outOf 24 = .ok (.iload_n 2, 1) := by decide +kernel
theorem dX12_outOf_25 : decode cX12_outOf 25 = .ok (.aload_n 0, 1) := by decide +kernel
theorem dX12_outOf_26 : decode cX12_outOf 26 = .ok (.getfield 421, 3) := by decide +kernel
theorem dX12_outOf_29 : decode cX12_outOf 29 = .ok (.iadd, 1) := by decide +kernel
theorem dX12_outOf_30 : decode cX12_outOf 30 = .ok (.iconst 0, 1) := by decide +kernel
theorem dX12_outOf_31 : decode cX12_outOf 31 = .ok (.sipush 400, 3) := by decide +kernel
theorem dX12_outOf_34 : decode cX12_outOf 34 = .ok (.invokestatic 433, 3) := by decide +kernel
theorem dX12_outOf_37 : decode cX12_outOf 37 = .ok (.ireturn, 1) := by decide +kernel
def f_X12_outOf (M : MM) (p1 : Int) : Option (Int) :=
((if (M 88 15) = 0 then
(some 100)
else
gd (M 88 15 ≠ 0) <|
gd (0 ≤ w32 (Int.tmod p1 (M 88 15)) ∧ w32 (Int.tmod p1 (M 88 15)) < (16 : Int)) <|
some (M 105 (w32 (Int.tmod p1 (M 88 15))).toNat)) : Option (Int)).bind fun x4 =>
(f_X12_within M (w32 (x4 + (M 88 77))) 0 400).bind fun x5 =>
some x5
set_option maxRecDepth 4000 in
theorem c_X12_outOf {E : EE} {sh : List (Nat × Nat)} {ex : Bool} {R : RM} {M : MM} {p1 : Int} (hE : Ext sh) (hL : Links R) : ∀ y, f_X12_outOf M p1 = some y → MetC E m_X12_outOf 0 0 [rV 88, iV p1] (sh, ex, R, M) (fun r w' => r = some (iV y) ∧ w' = (sh, ex, R, M)) := by
  intro y hy
  refine MetC.seg (o := f_X12_outOf M p1) (t := (fun K y => K (some (iV y)) (sh, ex, R, M))) (L := [some (rV 88), some (iV p1), none]) (by decide) rfl (Nat.le_of_ble_eq_true rfl) ?_ hy ⟨rfl, rfl⟩
  unfold f_X12_outOf
  refine Seg.step (pc' := 1) (I_aload_n (i := 0) dX12_outOf_0 rfl rfl) ?_
  refine Seg.step (pc' := 4) (I_getI cls12 (by decide) wf_12_264 (hE _ _ sk_12) rfl dX12_outOf_1) ?_
  refine S_bind (Y := Int) (k' := 0) (n' := 0) 23 (fun y => [some (rV 88), none, none]) (fun y => [iV y]) (fun y => (sh, ex, R, M)) ?_ (fun x4 => ?_)
  · refine S_if_ne (tgt := 12) dX12_outOf_4 (by decide) (fun h1 => ?_) (fun h1 => ?_)
    · refine Seg.step (pc' := 9) (I_bipush dX12_outOf_7 (by decide) ⟨by decide, by decide⟩) ?_
      refine Seg.step (pc' := 23) (I_goto (tgt := 23) dX12_outOf_9 (by decide)) ?_
      exact S_arr (fun K hK => GG.forget (Lle.ye (Lle.no (Lle.no (Lle.nil)))) hK)
    refine Seg.step (pc' := 13) (I_aload_n (i := 0) dX12_outOf_12 rfl rfl) ?_
    refine Seg.step (pc' := 16) (I_getR cls12 (by decide) wf_12_63 (hE _ _ sk_12) rfl (lk_12_36 hL) dX12_outOf_13) ?_
    refine Seg.step (pc' := 17) (I_iload_n (i := 1) dX12_outOf_16 rfl rfl) ?_
    refine Seg.step (pc' := 18) (I_aload_n (i := 0) dX12_outOf_17 rfl rfl) ?_
    refine Seg.step (pc' := 21) (I_getI cls12 (by decide) wf_12_264 (hE _ _ sk_12) rfl dX12_outOf_18) ?_
    refine S_gd fun h2 => ?_
    refine Seg.step (pc' := 22) (I_irem dX12_outOf_21 h2) ?_
    refine S_gd fun h3 => ?_
    refine Seg.step (pc' := 23) (I_iald (hE _ _ sk_12_36) h3 dX12_outOf_22) ?_
    exact S_arr (fun K hK => GG.forget (Lle.ye (Lle.no (Lle.no (Lle.nil)))) hK)
  refine Seg.step (pc' := 24) (I_istore_n (i := 2) dX12_outOf_23 rfl (by decide) rfl) ?_
  refine Seg.step (pc' := 25) (I_iload_n (i := 2) dX12_outOf_24 rfl rfl) ?_
  refine Seg.step (pc' := 26) (I_aload_n (i := 0) dX12_outOf_25 rfl rfl) ?_
  refine Seg.step (pc' := 29) (I_getI cls12 (by decide) wf_12_421 (hE _ _ sk_12) rfl dX12_outOf_26) ?_
  refine Seg.step (pc' := 30) (I_iadd dX12_outOf_29) ?_
  refine Seg.step (pc' := 31) (I_iconst dX12_outOf_30 ⟨by decide, by decide⟩) ?_
  refine Seg.step (pc' := 34) (I_sipush dX12_outOf_31 (by decide) ⟨by decide, by decide⟩) ?_
  refine S_callS3 (md' := m_X12_within) (fun y => some (iV y)) (fun y => (sh, ex, R, M)) mm_X12_within wm_12_433 ⟨rfl, rfl, by decide, by decide, by decide, by decide⟩ (Nat.le_of_ble_eq_true rfl) dX12_outOf_34 (fun y hy => c_X12_within hE hL y hy) (fun x5 => ?_)
  exact S_iret dX12_outOf_37 rfl (by decide) (by decide) (fun K hK => hK)
