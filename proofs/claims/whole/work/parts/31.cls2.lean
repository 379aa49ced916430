theorem dX1_rankOf_0 : decode cX1_rankOf 0 = .ok (.iload_n 0, 1) := by decide +kernel
theorem dX1_rankOf_1 : decode cX1_rankOf 1 = .ok (.lookupswitch 128 #[(42, 125), (43, 123), (45, 123), (47, 125), (60, 121), (61, 121), (62, 121), (256, 121), (257, 121), (258, 121), (310, 115), (311, 117), (312, 119)], 115) := by decide +kernel
theorem dX1_rankOf_116 : decode cX1_rankOf 116 = .ok (.iconst 1, 1) := by decide +kernel
theorem dX1_rankOf_117 : decode cX1_rankOf 117 = .ok (.ireturn, 1) := by decide +kernel
theorem dX1_rankOf_118 : decode cX1_rankOf 118 = .ok (.iconst 2, 1) := by decide +kernel
theorem dX1_rankOf_119 : decode cX1_rankOf 119 = .ok (.ireturn, 1) := by decide +kernel
theorem dX1_rankOf_120 : decode cX1_rankOf 120 = .ok (.iconst 3, 1) := by decide +kernel
theorem dX1_rankOf_121 : decode cX1_rankOf 121 = .ok (.ireturn, 1) := by decide +kernel
theorem dX1_rankOf_122 : decode cX1_rankOf 122 = .ok (.iconst 4, 1) := by decide +kernel
theorem dX1_rankOf_123 : decode cX1_rankOf 123 = .ok (.ireturn, 1) := by decide +kernel
theorem dX1_rankOf_124 : decode cX1_rankOf 124 = .ok (.iconst 5, 1) := by decide +kernel
theorem dX1_rankOf_125 : decode cX1_rankOf 125 = .ok (.ireturn, 1) := by decide +kernel
theorem dX1_rankOf_126 : decode cX1_rankOf 126 = .ok (.bipush 6, 2) := by decide +kernel
theorem dX1_rankOf_128 : decode cX1_rankOf 128 = .ok (.ireturn, 1) := by decide +kernel
theorem dX1_rankOf_129 : decode cX1_rankOf 129 = .ok (.iconst 0, 1) := by decide +kernel
theorem dX1_rankOf_130 : decode cX1_rankOf 130 = .ok (.ireturn, 1) := by decide +kernel
def f_X1_rankOf (M : MM) (p1 : Int) : Option (Int) :=
if p1 = 42 then
(some 6)
else
if p1 = 43 then
(some 5)
else
if p1 = 45 then
(some 5)
else
if p1 = 47 then
(some 6)
else
if p1 = 60 then
(some 4)
else
if p1 = 61 then
(some 4)
else
if p1 = 62 then
(some 4)
else
if p1 = 256 then
(some 4)
else
if p1 = 257 then
(some 4)
else
if p1 = 258 then
(some 4)
else
if p1 = 310 then
(some 1)
else
if p1 = 311 then
(some 2)
else
if p1 = 312 then
(some 3)
else
some 0
set_option maxRecDepth 4000 in
theorem c_X1_rankOf {E : EE} {sh : List (Nat × Nat)} {ex : Bool} {R : RM} {M : MM} {p1 : Int} (hE : Ext sh) (hL : Links R) : ∀ y, f_X1_rankOf M p1 = some y → MetC E m_X1_rankOf 0 0 [iV p1] (sh, ex, R, M) (fun r w' => r = some (iV y) ∧ w' = (sh, ex, R, M)) := by
  intro y hy
  refine MetC.seg (o := f_X1_rankOf M p1) (t := (fun K y => K (some (iV y)) (sh, ex, R, M))) (L := [some (iV p1)]) (by decide) rfl (Nat.le_of_ble_eq_true rfl) ?_ hy ⟨rfl, rfl⟩
  unfold f_X1_rankOf
  refine Seg.step (pc' := 1) (I_iload_n (i := 0) dX1_rankOf_0 rfl rfl) ?_
  refine S_ite (fun h1 => ?_) (fun h1 => ?_)
  · refine Seg.step (I_lsw (off := 125) (tgt := 126) dX1_rankOf_1 (by decide) (by rw [h1]; rfl) (by decide)) ?_
    refine Seg.step (pc' := 128) (I_bipush dX1_rankOf_126 (by decide) ⟨by decide, by decide⟩) ?_
    exact S_iret dX1_rankOf_128 rfl (by decide) (by decide) (fun K hK => hK)
  refine S_ite (fun h2 => ?_) (fun h2 => ?_)
  · refine Seg.step (I_lsw (off := 123) (tgt := 124) dX1_rankOf_1 (by decide) (by rw [h2]; rfl) (by decide)) ?_
    refine Seg.step (pc' := 125) (I_iconst dX1_rankOf_124 ⟨by decide, by decide⟩) ?_
    exact S_iret dX1_rankOf_125 rfl (by decide) (by decide) (fun K hK => hK)
  refine S_ite (fun h3 => ?_) (fun h3 => ?_)
  · refine Seg.step (I_lsw (off := 123) (tgt := 124) dX1_rankOf_1 (by decide) (by rw [h3]; rfl) (by decide)) ?_
    refine Seg.step (pc' := 125) (I_iconst dX1_rankOf_124 ⟨by decide, by decide⟩) ?_
    exact S_iret dX1_rankOf_125 rfl (by decide) (by decide) (fun K hK => hK)
  refine S_ite (fun h4 => ?_) (fun h4 => ?_)
  · refine Seg.step (I_lsw (off := 125) (tgt := 126) dX1_rankOf_1 (by decide) (by rw [h4]; rfl) (by decide)) ?_
    refine Seg.step (pc' := 128) (I_bipush dX1_rankOf_126 (by decide) ⟨by decide, by decide⟩) ?_
    exact S_iret dX1_rankOf_128 rfl (by decide) (by decide) (fun K hK => hK)
  refine S_ite (fun h5 => ?_) (fun h5 => ?_)
  · refine Seg.step (I_lsw (off := 121) (tgt := 122) dX1_rankOf_1 (by decide) (by rw [h5]; rfl) (by decide)) ?_
    refine Seg.step (pc' := 123) (I_iconst dX1_rankOf_122 ⟨by decide, by decide⟩) ?_
    exact S_iret dX1_rankOf_123 rfl (by decide) (by decide) (fun K hK => hK)
  refine S_ite (fun h6 => ?_) (fun h6 => ?_)
  · refine Seg.step (I_lsw (off := 121) (tgt := 122) dX1_rankOf_1 (by decide) (by rw [h6]; rfl) (by decide)) ?_
    refine Seg.step (pc' := 123) (I_iconst dX1_rankOf_122 ⟨by decide, by decide⟩) ?_
    exact S_iret dX1_rankOf_123 rfl (by decide) (by decide) (fun K hK => hK)
  refine S_ite (fun h7 => ?_) (fun h7 => ?_)
  · refine Seg.step (I_lsw (off := 121) (tgt := 122) dX1_rankOf_1 (by decide) (by rw [h7]; rfl) (by decide)) ?_
    refine Seg.step (pc' := 123) (I_iconst dX1_rankOf_122 ⟨by decide, by decide⟩) ?_
    exact S_iret dX1_rankOf_123 rfl (by decide) (by decide) (fun K hK => hK)
  refine S_ite (fun h8 => ?_) (fun h8 => ?_)
  · refine Seg.step (I_lsw (off := 121) (tgt := 122) dX1_rankOf_1 (by decide) (by rw [h8]; rfl) (by decide)) ?_
    refine Seg.step (pc' := 123) (I_iconst dX1_rankOf_122 ⟨by decide, by decide⟩) ?_
    exact S_iret dX1_rankOf_123 rfl (by decide) (by decide) (fun K hK => hK)
  refine S_ite (fun h9 => ?_) (fun h9 => ?_)
  · refine Seg.step (I_lsw (off := 121) (tgt := 122) dX1_rankOf_1 (by decide) (by rw [h9]; rfl) (by decide)) ?_
    refine Seg.step (pc' := 123) (I_iconst dX1_rankOf_122 ⟨by decide, by decide⟩) ?_
    exact S_iret dX1_rankOf_123 rfl (by decide) (by decide) (fun K hK => hK)
  refine S_ite (fun h10 => ?_) (fun h10 => ?_)
  · refine Seg.step (I_lsw (off := 121) (tgt := 122) dX1_rankOf_1 (by decide) (by rw [h10]; rfl) (by decide)) ?_
    refine Seg.step (pc' := 123) (I_iconst dX1_rankOf_122 ⟨by decide, by decide⟩) ?_
    exact S_iret dX1_rankOf_123 rfl (by decide) (by decide) (fun K hK => hK)
  refine S_ite (fun h11 => ?_) (fun h11 => ?_)
  · refine Seg.step (I_lsw (off := 115) (tgt := 116) dX1_rankOf_1 (by decide) (by rw [h11]; rfl) (by decide)) ?_
    refine Seg.step (pc' := 117) (I_iconst dX1_rankOf_116 ⟨by decide, by decide⟩) ?_
    exact S_iret dX1_rankOf_117 rfl (by decide) (by decide) (fun K hK => hK)
  refine S_ite (fun h12 => ?_) (fun h12 => ?_)
  · refine Seg.step (I_lsw (off := 117) (tgt := 118) dX1_rankOf_1 (by decide) (by rw [h12]; rfl) (by decide)) ?_
    refine Seg.step (pc' := 119) (I_iconst dX1_rankOf_118 ⟨by decide, by decide⟩) ?_
    exact S_iret dX1_rankOf_119 rfl (by decide) (by decide) (fun K hK => hK)
  refine S_ite (fun h13 => ?_) (fun h13 => ?_)
  · refine Seg.step (I_lsw (off := 119) (tgt := 120) dX1_rankOf_1 (by decide) (by rw [h13]; rfl) (by decide)) ?_
    refine Seg.step (pc' := 121) (I_iconst dX1_rankOf_120 ⟨by decide, by decide⟩) ?_
    exact S_iret dX1_rankOf_121 rfl (by decide) (by decide) (fun K hK => hK)
  refine Seg.step (I_lsw (off := 128) (tgt := 129) dX1_rankOf_1 (by decide) (by simp [Op.lookupswitch.offset, eq_comm, h1, h2, h3, h4, h5, h6, h7, h8, h9, h10, h11, h12, h13]) (by decide)) ?_
  refine Seg.step (pc' := 130) (I_iconst dX1_rankOf_129 ⟨by decide, by decide⟩) ?_
  exact S_iret dX1_rankOf_130 rfl (by decide) (by decide) (fun K hK => hK)
theorem dX3_write_0 : decode cX3_write 0 = .ok (.aload_n 0, 1) := by decide +kernel
theorem dX3_write_1 : decode cX3_write 1 = .ok (.getfield 31, 3) := by decide +kernel
theorem dX3_write_4 : decode cX3_write 4 = .ok (.bipush 64, 2) := by decide +kernel
theorem dX3_write_6 : decode cX3_write 6 = .ok (.if_icmp .ge 33, 3) := by decide +kernel
theorem dX3_write_9 : decode cX3_write 9 = .ok (.aload_n 0, 1) := by decide +kernel
theorem dX3_write_10 : decode cX3_write 10 = .ok (.getfield 9, 3) := by decide +kernel
theorem dX3_write_13 : decode cX3_write 13 = .ok (.aload_n 0, 1) := by decide +kernel
theorem dX3_write_14 : decode cX3_write 14 = .ok (.getfield 31, 3) := by decide +kernel
theorem dX3_write_17 : decode cX3_write 17 = .ok (.iload_n 1, 1) := by decide +kernel
theorem dX3_write_18 : decode cX3_write 18 = .ok (.iastore, 1) := by decide +kernel
theorem dX3_write_19 : decode cX3_write 19 = .ok (.aload_n 0, 1) := by decide +kernel
theorem dX3_write_20 : decode cX3_write 20 = .ok (.getfield 15, 3) := by decide +kernel
theorem dX3_write_23 : decode cX3_write 23 = .ok (.aload_n 0, 1) := by decide +kernel
theorem dX3_write_24 : decode cX3_write 24 = .ok (.getfield 31, 3) := by decide +kernel
theorem dX3_write_27 : decode cX3_write 27 = .ok (.iload_n 2, 1) := by decide +kernel
theorem dX3_write_28 : decode cX3_write 28 = .ok (.iastore, 1) := by decide +kernel
theorem dX3_write_29 : decode cX3_write 29 = .ok (.aload_n 0, 1) := by decide +kernel
theorem dX3_write_30 : decode cX3_write 30 = .ok (.dup, 1) := by decide +kernel
theorem dX3_write_31 : decode cX3_write 31 = .ok (.getfield 31, 3) := by decide +kernel
theorem dX3_write_34 : decode cX3_write 34 = .ok (.iconst 1, 1) := by decide +kernel
theorem dX3_write_35 : decode cX3_write 35 = .ok (.iadd, 1) := by decide +kernel
theorem dX3_write_36 : decode cX3_write 36 = .ok (.putfield 31, 3) := by decide +kernel
theorem dX3_write_39 : decode cX3_write 39 = .ok (.return_, 1) := by decide +kernel
def f_X3_write (M : MM) (a0 : Nat) (p1 : Int) (p2 : Int) : Option (MM) :=
if (M a0 6) < 64 then
(gd (0 ≤ M a0 6 ∧ M a0 6 < (64 : Int)) <|
bM (upM M (a0 + 1) (M a0 6).toNat p1) fun M3 =>
gd (0 ≤ M3 a0 6 ∧ M3 a0 6 < (64 : Int)) <|
bM (upM M3 (a0 + 2) (M3 a0 6).toNat p2) fun M5 =>
bM (upM M5 a0 6 (w32 ((M5 a0 6) + 1))) fun M6 =>
some M6)
else
some M
set_option maxRecDepth 4000 in
theorem c_X3_write {E : EE} {sh : List (Nat × Nat)} {ex : Bool} {R : RM} {M : MM} {a0 : Nat} {p1 : Int} {p2 : Int} (hE : Ext sh) (hL : Links R) (hs0 : SH0[a0]? = some (3, 8)) : ∀ y, f_X3_write M a0 p1 p2 = some y → MetC E m_X3_write 0 0 [rV a0, iV p1, iV p2] (sh, ex, R, M) (fun r w' => r = none ∧ w' = (sh, ex, R, y)) := by
  intro y hy
  refine MetC.seg (o := f_X3_write M a0 p1 p2) (t := (fun K y => K (none) (sh, ex, R, y))) (L := [some (rV a0), some (iV p1), some (iV p2)]) (by decide) rfl (Nat.le_of_ble_eq_true rfl) ?_ hy ⟨rfl, rfl⟩
  unfold f_X3_write
  refine Seg.step (pc' := 1) (I_aload_n (i := 0) dX3_write_0 rfl rfl) ?_
  refine Seg.step (pc' := 4) (I_getI cls3 (by decide) wf_3_31 (hE _ _ hs0) rfl dX3_write_1) ?_
  refine Seg.step (pc' := 6) (I_bipush dX3_write_4 (by decide) ⟨by decide, by decide⟩) ?_
  refine S_icmp_ge (tgt := 39) dX3_write_6 (by decide) (fun h1 => ?_) (fun h1 => ?_)
  · refine Seg.step (pc' := 10) (I_aload_n (i := 0) dX3_write_9 rfl rfl) ?_
    refine Seg.step (pc' := 13) (I_getR cls3 (by decide) wf_3_9 (hE _ _ hs0) rfl (lk_3_0 hL hs0) dX3_write_10) ?_
    refine Seg.step (pc' := 14) (I_aload_n (i := 0) dX3_write_13 rfl rfl) ?_
    refine Seg.step (pc' := 17) (I_getI cls3 (by decide) wf_3_31 (hE _ _ hs0) rfl dX3_write_14) ?_
    refine Seg.step (pc' := 18) (I_iload_n (i := 1) dX3_write_17 rfl rfl) ?_
    refine S_gd fun h2 => ?_
    refine Seg.step (pc' := 19) (I_iast (hE _ _ (sk_3_0 hs0)) h2 dX3_write_18) ?_
    refine S_bM fun M3 => ?_
    refine Seg.step (pc' := 20) (I_aload_n (i := 0) dX3_write_19 rfl rfl) ?_
    refine Seg.step (pc' := 23) (I_getR cls3 (by decide) wf_3_15 (hE _ _ hs0) rfl (lk_3_1 hL hs0) dX3_write_20) ?_
    refine Seg.step (pc' := 24) (I_aload_n (i := 0) dX3_write_23 rfl rfl) ?_
    refine Seg.step (pc' := 27) (I_getI cls3 (by decide) wf_3_31 (hE _ _ hs0) rfl dX3_write_24) ?_
    refine Seg.step (pc' := 28) (I_iload_n (i := 2) dX3_write_27 rfl rfl) ?_
    refine S_gd fun h4 => ?_
    refine Seg.step (pc' := 29) (I_iast (hE _ _ (sk_3_1 hs0)) h4 dX3_write_28) ?_
    refine S_bM fun M5 => ?_
    refine Seg.step (pc' := 30) (I_aload_n (i := 0) dX3_write_29 rfl rfl) ?_
    refine Seg.step (pc' := 31) (I_dup dX3_write_30 (fun _ h => by cases h)) ?_
    refine Seg.step (pc' := 34) (I_getI cls3 (by decide) wf_3_31 (hE _ _ hs0) rfl dX3_write_31) ?_
    refine Seg.step (pc' := 35) (I_iconst dX3_write_34 ⟨by decide, by decide⟩) ?_
    refine Seg.step (pc' := 36) (I_iadd dX3_write_35) ?_
    refine Seg.step (pc' := 39) (I_putI cls3 (by decide) wf_3_31 (hE _ _ hs0) rfl rfl dX3_write_36) ?_
    refine S_bM fun M6 => ?_
    exact S_vret dX3_write_39 rfl (by decide) (by decide) (fun K hK => hK)
  exact S_vret dX3_write_39 rfl (by decide) (by decide) (fun K hK => hK)
theorem dX1_release_0 : decode cX1_release 0 = .ok (.aload_n 0, 1) := by decide +kernel
theorem dX1_release_1 : decode cX1_release 1 = .ok (.getfield 23, 3) := by decide +kernel
theorem dX1_release_4 : decode cX1_release 4 = .ok (.ifCond .le 48, 3) := by decide +kernel
theorem dX1_release_7 : decode cX1_release 7 = .ok (.aload_n 0, 1) := by decide +kernel
theorem dX1_release_8 : decode cX1_release 8 = .ok (.getfield 9, 3) := by decide +kernel
theorem dX1_release_11 : decode cX1_release 11 = .ok (.aload_n 0, 1) := by decide +kernel
theorem dX1_release_12 : decode cX1_release 12 = .ok (.getfield 23, 3) := by decide +kernel
theorem dX1_release_15 : decode cX1_release 15 = .ok (.iconst 1, 1) := by decide +kernel
theorem dX1_release_16 : decode cX1_release 16 = .ok (.isub, 1) := by decide +kernel
theorem dX1_release_17 : decode cX1_release 17 = .ok (.iaload, 1) := by decide +kernel
theorem dX1_release_18 : decode cX1_release 18 = .ok (.invokestatic 80, 3) := by decide +kernel
theorem dX1_release_21 : decode cX1_release 21 = .ok (.iload_n 2, 1) := by decide +kernel
theorem dX1_release_22 : decode cX1_release 22 = .ok (.if_icmp .lt 30, 3) := by decide +kernel
theorem dX1_release_25 : decode cX1_release 25 = .ok (.aload_n 0, 1) := by decide +kernel
theorem dX1_release_26 : decode cX1_release 26 = .ok (.dup, 1) := by decide +kernel
theorem dX1_release_27 : decode cX1_release 27 = .ok (.getfield 23, 3) := by decide +kernel
theorem dX1_release_30 : decode cX1_release 30 = .ok (.iconst 1, 1) := by decide +kernel
theorem dX1_release_31 : decode cX1_release 31 = .ok (.isub, 1) := by decide +kernel
theorem dX1_release_32 : decode cX1_release 32 = .ok (.putfield 23, 3) := by decide +kernel
theorem dX1_release_35 : decode cX1_release 35 = .ok (.aload_n 1, 1) := by decide +kernel
theorem dX1_release_36 : decode cX1_release 36 = .ok (.aload_n 0, 1) := by decide +kernel
theorem dX1_release_37 : decode cX1_release 37 = .ok (.getfield 9, 3) := by decide +kernel
theorem dX1_release_40 : decode cX1_release 40 = .ok (.aload_n 0, 1) := by decide +kernel
theorem dX1_release_41 : decode cX1_release 41 = .ok (.getfield 23, 3) := by decide +kernel
theorem dX1_release_44 : decode cX1_release 44 = .ok (.iaload, 1) := by decide +kernel
theorem dX1_release_45 : decode cX1_release 45 = .ok (.iconst 0, 1) := by decide +kernel
theorem dX1_release_46 : decode cX1_release 46 = .ok (.invokevirtual 76, 3) := by decide +kernel
theorem dX1_release_49 : decode cX1_release 49 = .ok (.goto (-49), 3) := by decide +kernel
theorem dX1_release_52 : decode cX1_release 52 = .ok (.return_, 1) := by decide +kernel
def f_X1_release (M : MM) (a1 : Nat) (p2 : Int) : Option (MM) :=
lp (X := MM) (Y := MM) (fun x1 =>
if 0 < (x1 5 3) then
(gd (0 ≤ w32 ((x1 5 3) - 1) ∧ w32 ((x1 5 3) - 1) < (72 : Int)) <|
(f_X1_rankOf x1 (x1 6 (w32 ((x1 5 3) - 1)).toNat)).bind fun x4 =>
if x4 < p2 then
(some (Sum.inr x1))
else
bM (upM x1 5 3 (w32 ((x1 5 3) - 1))) fun M6 =>
gd (0 ≤ M6 5 3 ∧ M6 5 3 < (72 : Int)) <|
(f_X3_write M6 a1 (M6 6 (M6 5 3).toNat) 0).bind fun x8 =>
some (Sum.inl x8))
else
some (Sum.inr x1)) FU M
set_option maxRecDepth 4000 in
theorem c_X1_release {E : EE} {sh : List (Nat × Nat)} {ex : Bool} {R : RM} {M : MM} {a1 : Nat} {p2 : Int} (hE : Ext sh) (hL : Links R) (hs1 : SH0[a1]? = some (3, 8)) : ∀ y, f_X1_release M a1 p2 = some y → MetC E m_X1_release 0 0 [rV 5, rV a1, iV p2] (sh, ex, R, M) (fun r w' => r = none ∧ w' = (sh, ex, R, y)) := by
  intro y hy
  refine MetC.seg (o := f_X1_release M a1 p2) (t := (fun K y => K (none) (sh, ex, R, y))) (L := [some (rV 5), some (rV a1), some (iV p2)]) (by decide) rfl (Nat.le_of_ble_eq_true rfl) ?_ hy ⟨rfl, rfl⟩
  unfold f_X1_release
  refine Seg.forget (Lle.ye (Lle.ye (Lle.ye (Lle.nil)))) ?_
  refine S_loop (Y := MM) (fun y => [some (rV 5), some (rV a1), some (iV p2)]) (fun y => []) (fun y => (sh, ex, R, y)) (fun x1 => ?_) FU M
  refine Seg.step (pc' := 1) (I_aload_n (i := 0) dX1_release_0 rfl rfl) ?_
  refine Seg.step (pc' := 4) (I_getI cls1 (by decide) wf_1_23 (hE _ _ sk_1) rfl dX1_release_1) ?_
  refine S_if_le (tgt := 52) dX1_release_4 (by decide) (fun h2 => ?_) (fun h2 => ?_)
  · refine Seg.step (pc' := 8) (I_aload_n (i := 0) dX1_release_7 rfl rfl) ?_
    refine Seg.step (pc' := 11) (I_getR cls1 (by decide) wf_1_9 (hE _ _ sk_1) rfl (lk_1_1 hL) dX1_release_8) ?_
    refine Seg.step (pc' := 12) (I_aload_n (i := 0) dX1_release_11 rfl rfl) ?_
    refine Seg.step (pc' := 15) (I_getI cls1 (by decide) wf_1_23 (hE _ _ sk_1) rfl dX1_release_12) ?_
    refine Seg.step (pc' := 16) (I_iconst dX1_release_15 ⟨by decide, by decide⟩) ?_
    refine Seg.step (pc' := 17) (I_isub dX1_release_16) ?_
    refine S_gd fun h3 => ?_
    refine Seg.step (pc' := 18) (I_iald (hE _ _ sk_1_1) h3 dX1_release_17) ?_
    refine S_callS1 (md' := m_X1_rankOf) (fun y => some (iV y)) (fun y => (sh, ex, R, x1)) mm_X1_rankOf wm_1_80 ⟨rfl, rfl, by decide, by decide, by decide, by decide⟩ (Nat.le_of_ble_eq_true rfl) dX1_release_18 (fun y hy => c_X1_rankOf hE hL y hy) (fun x4 => ?_)
    refine Seg.step (pc' := 22) (I_iload_n (i := 2) dX1_release_21 rfl rfl) ?_
    refine S_icmp_lt (tgt := 52) dX1_release_22 (by decide) (fun h5 => ?_) (fun h5 => ?_)
    · exact S_vret dX1_release_52 rfl (by decide) (by decide) (fun K hK => hK)
    refine Seg.step (pc' := 26) (I_aload_n (i := 0) dX1_release_25 rfl rfl) ?_
    refine Seg.step (pc' := 27) (I_dup dX1_release_26 (fun _ h => by cases h)) ?_
    refine Seg.step (pc' := 30) (I_getI cls1 (by decide) wf_1_23 (hE _ _ sk_1) rfl dX1_release_27) ?_
    refine Seg.step (pc' := 31) (I_iconst dX1_release_30 ⟨by decide, by decide⟩) ?_
    refine Seg.step (pc' := 32) (I_isub dX1_release_31) ?_
    refine Seg.step (pc' := 35) (I_putI cls1 (by decide) wf_1_23 (hE _ _ sk_1) rfl rfl dX1_release_32) ?_
    refine S_bM fun M6 => ?_
    refine Seg.step (pc' := 36) (I_aload_n (i := 1) dX1_release_35 rfl rfl) ?_
    refine Seg.step (pc' := 37) (I_aload_n (i := 0) dX1_release_36 rfl rfl) ?_
    refine Seg.step (pc' := 40) (I_getR cls1 (by decide) wf_1_9 (hE _ _ sk_1) rfl (lk_1_1 hL) dX1_release_37) ?_
    refine Seg.step (pc' := 41) (I_aload_n (i := 0) dX1_release_40 rfl rfl) ?_
    refine Seg.step (pc' := 44) (I_getI cls1 (by decide) wf_1_23 (hE _ _ sk_1) rfl dX1_release_41) ?_
    refine S_gd fun h7 => ?_
    refine Seg.step (pc' := 45) (I_iald (hE _ _ sk_1_1) h7 dX1_release_44) ?_
    refine Seg.step (pc' := 46) (I_iconst dX1_release_45 ⟨by decide, by decide⟩) ?_
    refine S_callV2 (md' := m_X3_write) (fun y => none) (fun y => (sh, ex, R, y)) (hE _ _ hs1) ⟨by decide, rfl⟩ mm_X3_write wm_1_76 ⟨rfl, rfl, by decide, by decide, by decide, by decide⟩ (Nat.le_of_ble_eq_true rfl) dX1_release_46 (fun y hy => c_X3_write hE hL hs1 y hy) (fun x8 => ?_)
    refine Seg.step (pc' := 0) (I_goto (tgt := 0) dX1_release_49 (by decide)) ?_
    exact S_arr (fun K hK => GG.forget (Lle.ye (Lle.ye (Lle.ye (Lle.nil)))) hK)
  exact S_vret dX1_release_52 rfl (by decide) (by decide) (fun K hK => hK)
theorem dX1_await_0 : decode cX1_await 0 = .ok (.aload_n 0, 1) := by decide +kernel
theorem dX1_await_1 : decode cX1_await 1 = .ok (.getfield 23, 3) := by decide +kernel
theorem dX1_await_4 : decode cX1_await 4 = .ok (.aload_n 0, 1) := by decide +kernel
theorem dX1_await_5 : decode cX1_await 5 = .ok (.getfield 9, 3) := by decide +kernel
theorem dX1_await_8 : decode cX1_await 8 = .ok (.arraylength, 1) := by decide +kernel
theorem dX1_await_9 : decode cX1_await 9 = .ok (.if_icmp .ge 23, 3) := by decide +kernel
theorem dX1_await_12 : decode cX1_await 12 = .ok (.aload_n 0, 1) := by decide +kernel
theorem dX1_await_13 : decode cX1_await 13 = .ok (.getfield 9, 3) := by decide +kernel
theorem dX1_await_16 : decode cX1_await 16 = .ok (.aload_n 0, 1) := by decide +kernel
theorem dX1_await_17 : decode cX1_await 17 = .ok (.getfield 23, 3) := by decide +kernel
theorem dX1_await_20 : decode cX1_await 20 = .ok (.iload_n 1, 1) := by decide +kernel
theorem dX1_await_21 : decode cX1_await 21 = .ok (.iastore, 1) := by decide +kernel
theorem dX1_await_22 : decode cX1_await 22 = .ok (.aload_n 0, 1) := by decide +kernel
theorem dX1_await_23 : decode cX1_await 23 = .ok (.dup, 1) := by decide +kernel
theorem dX1_await_24 : decode cX1_await 24 = .ok (.getfield 23, 3) := by decide +kernel
theorem dX1_await_27 : decode cX1_await 27 = .ok (.iconst 1, 1) := by decide +kernel
theorem dX1_await_28 : decode cX1_await 28 = .ok (.iadd, 1) := by decide +kernel
theorem dX1_await_29 : decode cX1_await 29 = .ok (.putfield 23, 3) := by decide +kernel
theorem dX1_await_32 : decode cX1_await 32 = .ok (.return_, 1) := by decide +kernel
def f_X1_await (M : MM) (p1 : Int) : Option (MM) :=
if (M 5 3) < 72 then
(gd (0 ≤ M 5 3 ∧ M 5 3 < (72 : Int)) <|
bM (upM M 6 (M 5 3).toNat p1) fun M3 =>
bM (upM M3 5 3 (w32 ((M3 5 3) + 1))) fun M4 =>
some M4)
else
some M
set_option maxRecDepth 4000 in
theorem c_X1_await {E : EE} {sh : List (Nat × Nat)} {ex : Bool} {R : RM} {M : MM} {p1 : Int} (hE : Ext sh) (hL : Links R) : ∀ y, f_X1_await M p1 = some y → MetC E m_X1_await 0 0 [rV 5, iV p1] (sh, ex, R, M) (fun r w' => r = none ∧ w' = (sh, ex, R, y)) := by
  intro y hy
  refine MetC.seg (o := f_X1_await M p1) (t := (fun K y => K (none) (sh, ex, R, y))) (L := [some (rV 5), some (iV p1)]) (by decide) rfl (Nat.le_of_ble_eq_true rfl) ?_ hy ⟨rfl, rfl⟩
  unfold f_X1_await
  refine Seg.step (pc' := 1) (I_aload_n (i := 0) dX1_await_0 rfl rfl) ?_
  refine Seg.step (pc' := 4) (I_getI cls1 (by decide) wf_1_23 (hE _ _ sk_1) rfl dX1_await_1) ?_
  refine Seg.step (pc' := 5) (I_aload_n (i := 0) dX1_await_4 rfl rfl) ?_
  refine Seg.step (pc' := 8) (I_getR cls1 (by decide) wf_1_9 (hE _ _ sk_1) rfl (lk_1_1 hL) dX1_await_5) ?_
  refine Seg.step (pc' := 9) (I_alen (hE _ _ sk_1_1) (by decide) ⟨by decide, by decide⟩ dX1_await_8) ?_
  refine S_icmp_ge (tgt := 32) dX1_await_9 (by decide) (fun h1 => ?_) (fun h1 => ?_)
  · refine Seg.step (pc' := 13) (I_aload_n (i := 0) dX1_await_12 rfl rfl) ?_
    refine Seg.step (pc' := 16) (I_getR cls1 (by decide) wf_1_9 (hE _ _ sk_1) rfl (lk_1_1 hL) dX1_await_13) ?_
    refine Seg.step (pc' := 17) (I_aload_n (i := 0) dX1_await_16 rfl rfl) ?_
    refine Seg.step (pc' := 20) (I_getI cls1 (by decide) wf_1_23 (hE _ _ sk_1) rfl dX1_await_17) ?_
    refine Seg.step (pc' := 21) (I_iload_n (i := 1) dX1_await_20 rfl rfl) ?_
    refine S_gd fun h2 => ?_
    refine Seg.step (pc' := 22) (I_iast (hE _ _ sk_1_1) h2 dX1_await_21) ?_
    refine S_bM fun M3 => ?_
    refine Seg.step (pc' := 23) (I_aload_n (i := 0) dX1_await_22 rfl rfl) ?_
    refine Seg.step (pc' := 24) (I_dup dX1_await_23 (fun _ h => by cases h)) ?_
    refine Seg.step (pc' := 27) (I_getI cls1 (by decide) wf_1_23 (hE _ _ sk_1) rfl dX1_await_24) ?_
    refine Seg.step (pc' := 28) (I_iconst dX1_await_27 ⟨by decide, by decide⟩) ?_
    refine Seg.step (pc' := 29) (I_iadd dX1_await_28) ?_
    refine Seg.step (pc' := 32) (I_putI cls1 (by decide) wf_1_23 (hE _ _ sk_1) rfl rfl dX1_await_29) ?_
    refine S_bM fun M4 => ?_
    exact S_vret dX1_await_32 rfl (by decide) (by decide) (fun K hK => hK)
  exact S_vret dX1_await_32 rfl (by decide) (by decide) (fun K hK => hK)
theorem dX1_openBracket_0 : decode cX1_openBracket 0 = .ok (.aload_n 0, 1) := by decide +kernel
theorem dX1_openBracket_1 : decode cX1_openBracket 1 = .ok (.getfield 27, 3) := by decide +kernel
theorem dX1_openBracket_4 : decode cX1_openBracket 4 = .ok (.bipush 8, 2) := by decide +kernel
theorem dX1_openBracket_6 : decode cX1_openBracket 6 = .ok (.if_icmp .lt 5, 3) := by decide +kernel
theorem dX1_openBracket_9 : decode cX1_openBracket 9 = .ok (.iconst 2, 1) := by decide +kernel
theorem dX1_openBracket_10 : decode cX1_openBracket 10 = .ok (.ireturn, 1) := by decide +kernel
theorem dX1_openBracket_11 : decode cX1_openBracket 11 = .ok (.aload_n 0, 1) := by decide +kernel
theorem dX1_openBracket_12 : decode cX1_openBracket 12 = .ok (.dup, 1) := by decide +kernel
theorem dX1_openBracket_13 : decode cX1_openBracket 13 = .ok (.getfield 27, 3) := by decide +kernel
theorem dX1_openBracket_16 : decode cX1_openBracket 16 = .ok (.iconst 1, 1) := by decide +kernel
theorem dX1_openBracket_17 : decode cX1_openBracket 17 = .ok (.iadd, 1) := by decide +kernel
theorem dX1_openBracket_18 : decode cX1_openBracket 18 = .ok (.putfield 27, 3) := by decide +kernel
theorem dX1_openBracket_21 : decode cX1_openBracket 21 = .ok (.aload_n 0, 1) := by decide +kernel
theorem dX1_openBracket_22 : decode cX1_openBracket 22 = .ok (.getfield 15, 3) := by decide +kernel
theorem dX1_openBracket_25 : decode cX1_openBracket 25 = .ok (.aload_n 0, 1) := by decide +kernel
theorem dX1_openBracket_26 : decode cX1_openBracket 26 = .ok (.getfield 27, 3) := by decide +kernel
theorem dX1_openBracket_29 : decode cX1_openBracket 29 = .ok (.iconst 0, 1) := by decide +kernel
theorem dX1_openBracket_30 : decode cX1_openBracket 30 = .ok (.bastore, 1) := by decide +kernel
theorem dX1_openBracket_31 : decode cX1_openBracket 31 = .ok (.aload_n 0, 1) := by decide +kernel
theorem dX1_openBracket_32 : decode cX1_openBracket 32 = .ok (.iconst 1, 1) := by decide +kernel
theorem dX1_openBracket_33 : decode cX1_openBracket 33 = .ok (.putfield 34, 3) := by decide +kernel
theorem dX1_openBracket_36 : decode cX1_openBracket 36 = .ok (.aload_n 0, 1) := by decide +kernel
theorem dX1_openBracket_37 : decode cX1_openBracket 37 = .ok (.bipush 40, 2) := by decide +kernel
theorem dX1_openBracket_39 : decode cX1_openBracket 39 = .ok (.invokevirtual 72, 3) := by decide +kernel
theorem dX1_openBracket_42 : decode cX1_openBracket 42 = .ok (.iconst 0, 1) := by decide +kernel
theorem dX1_openBracket_43 : decode cX1_openBracket 43 = .ok (.ireturn, 1) := by decide +kernel
def f_X1_openBracket (M : MM)  : Option (Int × MM) :=
if (M 5 4) < 8 then
(bM (upM M 5 4 (w32 ((M 5 4) + 1))) fun M2 =>
gd (0 ≤ M2 5 4 ∧ M2 5 4 < (9 : Int)) <|
bM (upM M2 7 (M2 5 4).toNat 0) fun M4 =>
bM (upM M4 5 6 1) fun M5 =>
(f_X1_await M5 40).bind fun x6 =>
some (0, x6))
else
some (2, M)
set_option maxRecDepth 4000 in
theorem c_X1_openBracket {E : EE} {sh : List (Nat × Nat)} {ex : Bool} {R : RM} {M : MM}  (hE : Ext sh) (hL : Links R) : ∀ y, f_X1_openBracket M = some y → MetC E m_X1_openBracket 0 0 [rV 5] (sh, ex, R, M) (fun r w' => r = some (iV y.1) ∧ w' = (sh, ex, R, y.2)) := by
  intro y hy
  refine MetC.seg (o := f_X1_openBracket M) (t := (fun K y => K (some (iV y.1)) (sh, ex, R, y.2))) (L := [some (rV 5)]) (by decide) rfl (Nat.le_of_ble_eq_true rfl) ?_ hy ⟨rfl, rfl⟩
  unfold f_X1_openBracket
  refine Seg.step (pc' := 1) (I_aload_n (i := 0) dX1_openBracket_0 rfl rfl) ?_
  refine Seg.step (pc' := 4) (I_getI cls1 (by decide) wf_1_27 (hE _ _ sk_1) rfl dX1_openBracket_1) ?_
  refine Seg.step (pc' := 6) (I_bipush dX1_openBracket_4 (by decide) ⟨by decide, by decide⟩) ?_
  refine S_icmp_lt (tgt := 11) dX1_openBracket_6 (by decide) (fun h1 => ?_) (fun h1 => ?_)
  · refine Seg.step (pc' := 12) (I_aload_n (i := 0) dX1_openBracket_11 rfl rfl) ?_
    refine Seg.step (pc' := 13) (I_dup dX1_openBracket_12 (fun _ h => by cases h)) ?_
    refine Seg.step (pc' := 16) (I_getI cls1 (by decide) wf_1_27 (hE _ _ sk_1) rfl dX1_openBracket_13) ?_
    refine Seg.step (pc' := 17) (I_iconst dX1_openBracket_16 ⟨by decide, by decide⟩) ?_
    refine Seg.step (pc' := 18) (I_iadd dX1_openBracket_17) ?_
    refine Seg.step (pc' := 21) (I_putI cls1 (by decide) wf_1_27 (hE _ _ sk_1) rfl rfl dX1_openBracket_18) ?_
    refine S_bM fun M2 => ?_
    refine Seg.step (pc' := 22) (I_aload_n (i := 0) dX1_openBracket_21 rfl rfl) ?_
    refine Seg.step (pc' := 25) (I_getR cls1 (by decide) wf_1_15 (hE _ _ sk_1) rfl (lk_1_2 hL) dX1_openBracket_22) ?_
    refine Seg.step (pc' := 26) (I_aload_n (i := 0) dX1_openBracket_25 rfl rfl) ?_
    refine Seg.step (pc' := 29) (I_getI cls1 (by decide) wf_1_27 (hE _ _ sk_1) rfl dX1_openBracket_26) ?_
    refine Seg.step (pc' := 30) (I_iconst dX1_openBracket_29 ⟨by decide, by decide⟩) ?_
    refine S_gd fun h3 => ?_
    refine Seg.step (pc' := 31) (I_zast (hE _ _ sk_1_2) h3 (by decide) dX1_openBracket_30) ?_
    refine S_bM fun M4 => ?_
    refine Seg.step (pc' := 32) (I_aload_n (i := 0) dX1_openBracket_31 rfl rfl) ?_
    refine Seg.step (pc' := 33) (I_iconst dX1_openBracket_32 ⟨by decide, by decide⟩) ?_
    refine Seg.step (pc' := 36) (I_putZ cls1 (by decide) wf_1_34 (hE _ _ sk_1) rfl rfl (by decide) dX1_openBracket_33) ?_
    refine S_bM fun M5 => ?_
    refine Seg.step (pc' := 37) (I_aload_n (i := 0) dX1_openBracket_36 rfl rfl) ?_
    refine Seg.step (pc' := 39) (I_bipush dX1_openBracket_37 (by decide) ⟨by decide, by decide⟩) ?_
    refine S_callV1 (md' := m_X1_await) (fun y => none) (fun y => (sh, ex, R, y)) (hE _ _ sk_1) ⟨by decide, rfl⟩ mm_X1_await wm_1_72 ⟨rfl, rfl, by decide, by decide, by decide, by decide⟩ (Nat.le_of_ble_eq_true rfl) dX1_openBracket_39 (fun y hy => c_X1_await hE hL y hy) (fun x6 => ?_)
    refine Seg.step (pc' := 43) (I_iconst dX1_openBracket_42 ⟨by decide, by decide⟩) ?_
    exact S_iret dX1_openBracket_43 rfl (by decide) (by decide) (fun K hK => hK)
  refine Seg.step (pc' := 10) (I_iconst dX1_openBracket_9 ⟨by decide, by decide⟩) ?_
  exact S_iret dX1_openBracket_10 rfl (by decide) (by decide) (fun K hK => hK)
theorem dX1_readPart_0 : decode cX1_readPart 0 = .ok (.aload_n 0, 1) := by decide +kernel
theorem dX1_readPart_1 : decode cX1_readPart 1 = .ok (.getfield 19, 3) := by decide +kernel
theorem dX1_readPart_4 : decode cX1_readPart 4 = .ok (.getfield 37, 3) := by decide +kernel
theorem dX1_readPart_7 : decode cX1_readPart 7 = .ok (.istore_n 2, 1) := by decide +kernel
theorem dX1_readPart_8 : decode cX1_readPart 8 = .ok (.iload_n 2, 1) := by decide +kernel
theorem dX1_readPart_9 : decode cX1_readPart 9 = .ok (.bipush 40, 2) := by decide +kernel
theorem dX1_readPart_11 : decode cX1_readPart 11 = .ok (.if_icmp .ne 8, 3) := by decide +kernel
theorem dX1_readPart_14 : decode cX1_readPart 14 = .ok (.aload_n 0, 1) := by decide +kernel
theorem dX1_readPart_15 : decode cX1_readPart 15 = .ok (.invokevirtual 56, 3) := by decide +kernel
theorem dX1_readPart_18 : decode cX1_readPart 18 = .ok (.ireturn, 1) := by decide +kernel
theorem dX1_readPart_19 : decode cX1_readPart 19 = .ok (.iload_n 2, 1) := by decide +kernel
theorem dX1_readPart_20 : decode cX1_readPart 20 = .ok (.sipush 312, 3) := by decide +kernel
theorem dX1_readPart_23 : decode cX1_readPart 23 = .ok (.if_icmp .ne 14, 3) := by decide +kernel
theorem dX1_readPart_26 : decode cX1_readPart 26 = .ok (.aload_n 0, 1) := by decide +kernel
theorem dX1_readPart_27 : decode cX1_readPart 27 = .ok (.getfield 34, 3) := by decide +kernel
theorem dX1_readPart_30 : decode cX1_readPart 30 = .ok (.ifCond .eq 7, 3) := by decide +kernel
theorem dX1_readPart_33 : decode cX1_readPart 33 = .ok (.iconst 1, 1) := by decide +kernel
theorem dX1_readPart_34 : decode cX1_readPart 34 = .ok (.goto 4, 3) := by decide +kernel
theorem dX1_readPart_37 : decode cX1_readPart 37 = .ok (.iconst 0, 1) := by decide +kernel
theorem dX1_readPart_38 : decode cX1_readPart 38 = .ok (.istore_n 3, 1) := by decide +kernel
theorem dX1_readPart_39 : decode cX1_readPart 39 = .ok (.iload_n 2, 1) := by decide +kernel
theorem dX1_readPart_40 : decode cX1_readPart 40 = .ok (.iconst 2, 1) := by decide +kernel
theorem dX1_readPart_41 : decode cX1_readPart 41 = .ok (.if_icmp .ne 7, 3) := by decide +kernel
theorem dX1_readPart_44 : decode cX1_readPart 44 = .ok (.iconst 1, 1) := by decide +kernel
theorem dX1_readPart_45 : decode cX1_readPart 45 = .ok (.goto 4, 3) := by decide +kernel
theorem dX1_readPart_48 : decode cX1_readPart 48 = .ok (.iconst 0, 1) := by decide +kernel
theorem dX1_readPart_49 : decode cX1_readPart 49 = .ok (.istore 4, 2) := by decide +kernel
theorem dX1_readPart_51 : decode cX1_readPart 51 = .ok (.iload_n 3, 1) := by decide +kernel
theorem dX1_readPart_52 : decode cX1_readPart 52 = .ok (.ifCond .ne 17, 3) := by decide +kernel
theorem dX1_readPart_55 : decode cX1_readPart 55 = .ok (.iload 4, 2) := by decide +kernel
theorem dX1_readPart_57 : decode cX1_readPart 57 = .ok (.ifCond .ne 12, 3) := by decide +kernel
theorem dX1_readPart_60 : decode cX1_readPart 60 = .ok (.iload_n 2, 1) := by decide +kernel
theorem dX1_readPart_61 : decode cX1_readPart 61 = .ok (.invokestatic 60, 3) := by decide +kernel
theorem dX1_readPart_64 : decode cX1_readPart 64 = .ok (.ifCond .ne 5, 3) := by decide +kernel
theorem dX1_readPart_67 : decode cX1_readPart 67 = .ok (.iconst 1, 1) := by decide +kernel
theorem dX1_readPart_68 : decode cX1_readPart 68 = .ok (.ireturn, 1) := by decide +kernel
theorem dX1_readPart_69 : decode cX1_readPart 69 = .ok (.aload_n 1, 1) := by decide +kernel
theorem dX1_readPart_70 : decode cX1_readPart 70 = .ok (.getfield 64, 3) := by decide +kernel
theorem dX1_readPart_73 : decode cX1_readPart 73 = .ok (.bipush 64, 2) := by decide +kernel
theorem dX1_readPart_75 : decode cX1_readPart 75 = .ok (.if_icmp .ge 21, 3) := by decide +kernel
theorem dX1_readPart_78 : decode cX1_readPart 78 = .ok (.iload 4, 2) := by decide +kernel
theorem dX1_readPart_80 : decode cX1_readPart 80 = .ok (.ifCond .eq 18, 3) := by decide +kernel
theorem dX1_readPart_83 : decode cX1_readPart 83 = .ok (.aload_n 0, 1) := by decide +kernel
theorem dX1_readPart_84 : decode cX1_readPart 84 = .ok (.getfield 19, 3) := by decide +kernel
theorem dX1_readPart_87 : decode cX1_readPart 87 = .ok (.getfield 69, 3) := by decide +kernel
theorem dX1_readPart_90 : decode cX1_readPart 90 = .ok (.sipush 9999, 3) := by decide +kernel
theorem dX1_readPart_93 : decode cX1_readPart 93 = .ok (.if_icmp .le 5, 3) := by decide +kernel
theorem dX1_readPart_96 : decode cX1_readPart 96 = .ok (.iconst 2, 1) := by decide +kernel
theorem dX1_readPart_97 : decode cX1_readPart 97 = .ok (.ireturn, 1) := by decide +kernel
theorem dX1_readPart_98 : decode cX1_readPart 98 = .ok (.aload_n 1, 1) := by decide +kernel
theorem dX1_readPart_99 : decode cX1_readPart 99 = .ok (.dup, 1) := by decide +kernel
theorem dX1_readPart_100 : decode cX1_readPart 100 = .ok (.getfield 64, 3) := by decide +kernel
theorem dX1_readPart_103 : decode cX1_readPart 103 = .ok (.iconst 1, 1) := by decide +kernel
theorem dX1_readPart_104 : decode cX1_readPart 104 = .ok (.iadd, 1) := by decide +kernel
theorem dX1_readPart_105 : decode cX1_readPart 105 = .ok (.putfield 64, 3) := by decide +kernel
theorem dX1_readPart_108 : decode cX1_readPart 108 = .ok (.iload_n 3, 1) := by decide +kernel
theorem dX1_readPart_109 : decode cX1_readPart 109 = .ok (.ifCond .eq 11, 3) := by decide +kernel
theorem dX1_readPart_112 : decode cX1_readPart 112 = .ok (.aload_n 0, 1) := by decide +kernel
theorem dX1_readPart_113 : decode cX1_readPart 113 = .ok (.iload_n 2, 1) := by decide +kernel
theorem dX1_readPart_114 : decode cX1_readPart 114 = .ok (.invokevirtual 72, 3) := by decide +kernel
theorem dX1_readPart_117 : decode cX1_readPart 117 = .ok (.goto 20, 3) := by decide +kernel
theorem dX1_readPart_120 : decode cX1_readPart 120 = .ok (.aload_n 1, 1) := by decide +kernel
theorem dX1_readPart_121 : decode cX1_readPart 121 = .ok (.iload_n 2, 1) := by decide +kernel
theorem dX1_readPart_122 : decode cX1_readPart 122 = .ok (.aload_n 0, 1) := by decide +kernel
theorem dX1_readPart_123 : decode cX1_readPart 123 = .ok (.getfield 19, 3) := by decide +kernel
theorem dX1_readPart_126 : decode cX1_readPart 126 = .ok (.getfield 69, 3) := by decide +kernel
theorem dX1_readPart_129 : decode cX1_readPart 129 = .ok (.invokevirtual 76, 3) := by decide +kernel
theorem dX1_readPart_132 : decode cX1_readPart 132 = .ok (.aload_n 0, 1) := by decide +kernel
theorem dX1_readPart_133 : decode cX1_readPart 133 = .ok (.iconst 0, 1) := by decide +kernel
theorem dX1_readPart_134 : decode cX1_readPart 134 = .ok (.putfield 30, 3) := by decide +kernel
theorem dX1_readPart_137 : decode cX1_readPart 137 = .ok (.iconst 0, 1) := by decide +kernel
theorem dX1_readPart_138 : decode cX1_readPart 138 = .ok (.ireturn, 1) := by decide +kernel
def f_X1_readPart (M : MM) (a1 : Nat) : Option (Int × MM) :=
bI (M 3 4) fun x1 =>
if x1 = 40 then
((f_X1_openBracket M).bind fun x3 =>
some (x3.1, x3.2))
else
((if x1 = 312 then
(if (M 5 6) = 0 then
(some 0)
else
some 1)
else
some 0) : Option (Int)).bind fun x6 =>
((if x1 = 2 then
(some 1)
else
some 0) : Option (Int)).bind fun x8 =>
bS ((if x6 = 0 then
(if x8 = 0 then
((f_X9_isName M x1).bind fun x11 =>
if x11 = 0 then
(some (Sum.inr (1, M)))
else
some (Sum.inl ()))
else
some (Sum.inl ()))
else
some (Sum.inl ())) : Option ((Unit) ⊕ (Int × MM))) (fun x13 =>
if (M a1 7) < 64 then
(bS ((if x8 = 0 then
(some (Sum.inl ()))
else
if 9999 < (M 3 5) then
(some (Sum.inr (2, M)))
else
some (Sum.inl ())) : Option ((Unit) ⊕ (Int × MM))) (fun x17 =>
bM (upM M a1 7 (w32 ((M a1 7) + 1))) fun M18 =>
if x6 = 0 then
((f_X3_write M18 a1 x1 (M18 3 5)).bind fun x20 =>
bM (upM x20 5 5 0) fun M21 =>
some (0, M21))
else
(f_X1_await M18 x1).bind fun x22 =>
some (0, x22)) (fun r => r))
else
some (2, M)) (fun r => r)
set_option maxRecDepth 4000 in
theorem c_X1_readPart {E : EE} {sh : List (Nat × Nat)} {ex : Bool} {R : RM} {M : MM} {a1 : Nat} (hE : Ext sh) (hL : Links R) (hs1 : SH0[a1]? = some (3, 8)) : ∀ y, f_X1_readPart M a1 = some y → MetC E m_X1_readPart 0 0 [rV 5, rV a1] (sh, ex, R, M) (fun r w' => r = some (iV y.1) ∧ w' = (sh, ex, R, y.2)) := by
  intro y hy
  refine MetC.seg (o := f_X1_readPart M a1) (t := (fun K y => K (some (iV y.1)) (sh, ex, R, y.2))) (L := [some (rV 5), some (rV a1), none, none, none]) (by decide) rfl (Nat.le_of_ble_eq_true rfl) ?_ hy ⟨rfl, rfl⟩
  unfold f_X1_readPart
  refine Seg.step (pc' := 1) (I_aload_n (i := 0) dX1_readPart_0 rfl rfl) ?_
  refine Seg.step (pc' := 4) (I_getR cls1 (by decide) wf_1_19 (hE _ _ sk_1) rfl (lk_1_0 hL) dX1_readPart_1) ?_
  refine Seg.step (pc' := 7) (I_getI cls9 (by decide) wf_1_37 (hE _ _ sk_1_0) rfl dX1_readPart_4) ?_
  refine S_bI fun x1 => ?_
  refine Seg.step (pc' := 8) (I_istore_n (i := 2) dX1_readPart_7 rfl (by decide) rfl) ?_
  refine Seg.step (pc' := 9) (I_iload_n (i := 2) dX1_readPart_8 rfl rfl) ?_
  refine Seg.step (pc' := 11) (I_bipush dX1_readPart_9 (by decide) ⟨by decide, by decide⟩) ?_
  refine S_icmp_ne (tgt := 19) dX1_readPart_11 (by decide) (fun h2 => ?_) (fun h2 => ?_)
  · refine Seg.step (pc' := 15) (I_aload_n (i := 0) dX1_readPart_14 rfl rfl) ?_
    refine S_callV0 (md' := m_X1_openBracket) (fun y => some (iV y.1)) (fun y => (sh, ex, R, y.2)) (hE _ _ sk_1) ⟨by decide, rfl⟩ mm_X1_openBracket wm_1_56 ⟨rfl, rfl, by decide, by decide, by decide, by decide⟩ (Nat.le_of_ble_eq_true rfl) dX1_readPart_15 (fun y hy => c_X1_openBracket hE hL y hy) (fun x3 => ?_)
    exact S_iret dX1_readPart_18 rfl (by decide) (by decide) (fun K hK => hK)
  refine Seg.step (pc' := 20) (I_iload_n (i := 2) dX1_readPart_19 rfl rfl) ?_
  refine Seg.step (pc' := 23) (I_sipush dX1_readPart_20 (by decide) ⟨by decide, by decide⟩) ?_
  refine S_bind (Y := Int) (k' := 0) (n' := 0) 38 (fun y => [some (rV 5), some (rV a1), some (iV x1), none, none]) (fun y => [iV y]) (fun y => (sh, ex, R, M)) ?_ (fun x6 => ?_)
  · refine S_icmp_ne (tgt := 37) dX1_readPart_23 (by decide) (fun h4 => ?_) (fun h4 => ?_)
    · refine Seg.step (pc' := 27) (I_aload_n (i := 0) dX1_readPart_26 rfl rfl) ?_
      refine Seg.step (pc' := 30) (I_getZ cls1 (by decide) wf_1_34 (hE _ _ sk_1) rfl dX1_readPart_27) ?_
      refine S_if_eq (tgt := 37) dX1_readPart_30 (by decide) (fun h5 => ?_) (fun h5 => ?_)
      · refine Seg.step (pc' := 38) (I_iconst dX1_readPart_37 ⟨by decide, by decide⟩) ?_
        exact S_arr (fun K hK => GG.forget (Lle.ye (Lle.ye (Lle.ye (Lle.no (Lle.no (Lle.nil)))))) hK)
      refine Seg.step (pc' := 34) (I_iconst dX1_readPart_33 ⟨by decide, by decide⟩) ?_
      refine Seg.step (pc' := 38) (I_goto (tgt := 38) dX1_readPart_34 (by decide)) ?_
      exact S_arr (fun K hK => GG.forget (Lle.ye (Lle.ye (Lle.ye (Lle.no (Lle.no (Lle.nil)))))) hK)
    refine Seg.step (pc' := 38) (I_iconst dX1_readPart_37 ⟨by decide, by decide⟩) ?_
    exact S_arr (fun K hK => GG.forget (Lle.ye (Lle.ye (Lle.ye (Lle.no (Lle.no (Lle.nil)))))) hK)
  refine Seg.step (pc' := 39) (I_istore_n (i := 3) dX1_readPart_38 rfl (by decide) rfl) ?_
  refine Seg.step (pc' := 40) (I_iload_n (i := 2) dX1_readPart_39 rfl rfl) ?_
  refine Seg.step (pc' := 41) (I_iconst dX1_readPart_40 ⟨by decide, by decide⟩) ?_
  refine S_bind (Y := Int) (k' := 0) (n' := 0) 49 (fun y => [some (rV 5), some (rV a1), some (iV x1), some (iV x6), none]) (fun y => [iV y]) (fun y => (sh, ex, R, M)) ?_ (fun x8 => ?_)
  · refine S_icmp_ne (tgt := 48) dX1_readPart_41 (by decide) (fun h7 => ?_) (fun h7 => ?_)
    · refine Seg.step (pc' := 45) (I_iconst dX1_readPart_44 ⟨by decide, by decide⟩) ?_
      refine Seg.step (pc' := 49) (I_goto (tgt := 49) dX1_readPart_45 (by decide)) ?_
      exact S_arr (fun K hK => GG.forget (Lle.ye (Lle.ye (Lle.ye (Lle.ye (Lle.no (Lle.nil)))))) hK)
    refine Seg.step (pc' := 49) (I_iconst dX1_readPart_48 ⟨by decide, by decide⟩) ?_
    exact S_arr (fun K hK => GG.forget (Lle.ye (Lle.ye (Lle.ye (Lle.ye (Lle.no (Lle.nil)))))) hK)
  refine Seg.step (pc' := 51) (I_istore dX1_readPart_49 (by decide) rfl) ?_
  refine Seg.step (pc' := 52) (I_iload_n (i := 3) dX1_readPart_51 rfl rfl) ?_
  refine S_bind2 (Y := Unit) (k' := 0) (n' := 0) 69 (fun y => [some (rV 5), some (rV a1), some (iV x1), some (iV x6), some (iV x8)]) (fun y => []) (fun y => (sh, ex, R, M)) ?_ (fun x13 => ?_)
  · refine S_if_ne (tgt := 69) dX1_readPart_52 (by decide) (fun h9 => ?_) (fun h9 => ?_)
    · refine Seg.step (pc' := 57) (I_iload dX1_readPart_55 rfl) ?_
      refine S_if_ne (tgt := 69) dX1_readPart_57 (by decide) (fun h10 => ?_) (fun h10 => ?_)
      · refine Seg.step (pc' := 61) (I_iload_n (i := 2) dX1_readPart_60 rfl rfl) ?_
        refine S_callS1 (md' := m_X9_isName) (fun y => some (iV y)) (fun y => (sh, ex, R, M)) mm_X9_isName wm_1_60 ⟨rfl, rfl, by decide, by decide, by decide, by decide⟩ (Nat.le_of_ble_eq_true rfl) dX1_readPart_61 (fun y hy => c_X9_isName hE hL y hy) (fun x11 => ?_)
        refine S_if_ne (tgt := 69) dX1_readPart_64 (by decide) (fun h12 => ?_) (fun h12 => ?_)
        · refine Seg.step (pc' := 68) (I_iconst dX1_readPart_67 ⟨by decide, by decide⟩) ?_
          exact S_iret dX1_readPart_68 rfl (by decide) (by decide) (fun K hK => hK)
        exact S_arr (fun K hK => GG.forget (Lle.ye (Lle.ye (Lle.ye (Lle.ye (Lle.ye (Lle.nil)))))) hK)
      exact S_arr (fun K hK => GG.forget (Lle.ye (Lle.ye (Lle.ye (Lle.ye (Lle.ye (Lle.nil)))))) hK)
    exact S_arr (fun K hK => GG.forget (Lle.ye (Lle.ye (Lle.ye (Lle.ye (Lle.ye (Lle.nil)))))) hK)
  refine Seg.step (pc' := 70) (I_aload_n (i := 1) dX1_readPart_69 rfl rfl) ?_
  refine Seg.step (pc' := 73) (I_getI cls3 (by decide) wf_1_64 (hE _ _ hs1) rfl dX1_readPart_70) ?_
  refine Seg.step (pc' := 75) (I_bipush dX1_readPart_73 (by decide) ⟨by decide, by decide⟩) ?_
  refine S_icmp_ge (tgt := 96) dX1_readPart_75 (by decide) (fun h14 => ?_) (fun h14 => ?_)
  · refine Seg.step (pc' := 80) (I_iload dX1_readPart_78 rfl) ?_
    refine S_bind2 (Y := Unit) (k' := 0) (n' := 0) 98 (fun y => [some (rV 5), some (rV a1), some (iV x1), some (iV x6), none]) (fun y => []) (fun y => (sh, ex, R, M)) ?_ (fun x17 => ?_)
    · refine S_if_eq (tgt := 98) dX1_readPart_80 (by decide) (fun h15 => ?_) (fun h15 => ?_)
      · exact S_arr (fun K hK => GG.forget (Lle.ye (Lle.ye (Lle.ye (Lle.ye (Lle.no (Lle.nil)))))) hK)
      refine Seg.step (pc' := 84) (I_aload_n (i := 0) dX1_readPart_83 rfl rfl) ?_
      refine Seg.step (pc' := 87) (I_getR cls1 (by decide) wf_1_19 (hE _ _ sk_1) rfl (lk_1_0 hL) dX1_readPart_84) ?_
      refine Seg.step (pc' := 90) (I_getI cls9 (by decide) wf_1_69 (hE _ _ sk_1_0) rfl dX1_readPart_87) ?_
      refine Seg.step (pc' := 93) (I_sipush dX1_readPart_90 (by decide) ⟨by decide, by decide⟩) ?_
      refine S_icmp_le (tgt := 98) dX1_readPart_93 (by decide) (fun h16 => ?_) (fun h16 => ?_)
      · refine Seg.step (pc' := 97) (I_iconst dX1_readPart_96 ⟨by decide, by decide⟩) ?_
        exact S_iret dX1_readPart_97 rfl (by decide) (by decide) (fun K hK => hK)
      exact S_arr (fun K hK => GG.forget (Lle.ye (Lle.ye (Lle.ye (Lle.ye (Lle.no (Lle.nil)))))) hK)
    refine Seg.step (pc' := 99) (I_aload_n (i := 1) dX1_readPart_98 rfl rfl) ?_
    refine Seg.step (pc' := 100) (I_dup dX1_readPart_99 (fun _ h => by cases h)) ?_
    refine Seg.step (pc' := 103) (I_getI cls3 (by decide) wf_1_64 (hE _ _ hs1) rfl dX1_readPart_100) ?_
    refine Seg.step (pc' := 104) (I_iconst dX1_readPart_103 ⟨by decide, by decide⟩) ?_
    refine Seg.step (pc' := 105) (I_iadd dX1_readPart_104) ?_
    refine Seg.step (pc' := 108) (I_putI cls3 (by decide) wf_1_64 (hE _ _ hs1) rfl rfl dX1_readPart_105) ?_
    refine S_bM fun M18 => ?_
    refine Seg.step (pc' := 109) (I_iload_n (i := 3) dX1_readPart_108 rfl rfl) ?_
    refine S_if_eq (tgt := 120) dX1_readPart_109 (by decide) (fun h19 => ?_) (fun h19 => ?_)
    · refine Seg.step (pc' := 121) (I_aload_n (i := 1) dX1_readPart_120 rfl rfl) ?_
      refine Seg.step (pc' := 122) (I_iload_n (i := 2) dX1_readPart_121 rfl rfl) ?_
      refine Seg.step (pc' := 123) (I_aload_n (i := 0) dX1_readPart_122 rfl rfl) ?_
      refine Seg.step (pc' := 126) (I_getR cls1 (by decide) wf_1_19 (hE _ _ sk_1) rfl (lk_1_0 hL) dX1_readPart_123) ?_
      refine Seg.step (pc' := 129) (I_getI cls9 (by decide) wf_1_69 (hE _ _ sk_1_0) rfl dX1_readPart_126) ?_
      refine S_callV2 (md' := m_X3_write) (fun y => none) (fun y => (sh, ex, R, y)) (hE _ _ hs1) ⟨by decide, rfl⟩ mm_X3_write wm_1_76 ⟨rfl, rfl, by decide, by decide, by decide, by decide⟩ (Nat.le_of_ble_eq_true rfl) dX1_readPart_129 (fun y hy => c_X3_write hE hL hs1 y hy) (fun x20 => ?_)
      refine Seg.step (pc' := 133) (I_aload_n (i := 0) dX1_readPart_132 rfl rfl) ?_
      refine Seg.step (pc' := 134) (I_iconst dX1_readPart_133 ⟨by decide, by decide⟩) ?_
      refine Seg.step (pc' := 137) (I_putZ cls1 (by decide) wf_1_30 (hE _ _ sk_1) rfl rfl (by decide) dX1_readPart_134) ?_
      refine S_bM fun M21 => ?_
      refine Seg.step (pc' := 138) (I_iconst dX1_readPart_137 ⟨by decide, by decide⟩) ?_
      exact S_iret dX1_readPart_138 rfl (by decide) (by decide) (fun K hK => hK)
    refine Seg.step (pc' := 113) (I_aload_n (i := 0) dX1_readPart_112 rfl rfl) ?_
    refine Seg.step (pc' := 114) (I_iload_n (i := 2) dX1_readPart_113 rfl rfl) ?_
    refine S_callV1 (md' := m_X1_await) (fun y => none) (fun y => (sh, ex, R, y)) (hE _ _ sk_1) ⟨by decide, rfl⟩ mm_X1_await wm_1_72 ⟨rfl, rfl, by decide, by decide, by decide, by decide⟩ (Nat.le_of_ble_eq_true rfl) dX1_readPart_114 (fun y hy => c_X1_await hE hL y hy) (fun x22 => ?_)
    refine Seg.step (pc' := 137) (I_goto (tgt := 137) dX1_readPart_117 (by decide)) ?_
    refine Seg.step (pc' := 138) (I_iconst dX1_readPart_137 ⟨by decide, by decide⟩) ?_
    exact S_iret dX1_readPart_138 rfl (by decide) (by decide) (fun K hK => hK)
  refine Seg.step (pc' := 97) (I_iconst dX1_readPart_96 ⟨by decide, by decide⟩) ?_
  exact S_iret dX1_readPart_97 rfl (by decide) (by decide) (fun K hK => hK)
theorem dX1_readJoint_0 : decode cX1_readJoint 0 = .ok (.aload_n 0, 1) := by decide +kernel
theorem dX1_readJoint_1 : decode cX1_readJoint 1 = .ok (.getfield 19, 3) := by decide +kernel
theorem dX1_readJoint_4 : decode cX1_readJoint 4 = .ok (.getfield 37, 3) := by decide +kernel
theorem dX1_readJoint_7 : decode cX1_readJoint 7 = .ok (.istore_n 2, 1) := by decide +kernel
theorem dX1_readJoint_8 : decode cX1_readJoint 8 = .ok (.iload_n 2, 1) := by decide +kernel
theorem dX1_readJoint_9 : decode cX1_readJoint 9 = .ok (.bipush 41, 2) := by decide +kernel
theorem dX1_readJoint_11 : decode cX1_readJoint 11 = .ok (.if_icmp .ne 38, 3) := by decide +kernel
theorem dX1_readJoint_14 : decode cX1_readJoint 14 = .ok (.aload_n 0, 1) := by decide +kernel
theorem dX1_readJoint_15 : decode cX1_readJoint 15 = .ok (.getfield 27, 3) := by decide +kernel
theorem dX1_readJoint_18 : decode cX1_readJoint 18 = .ok (.ifCond .le 31, 3) := by decide +kernel
theorem dX1_readJoint_21 : decode cX1_readJoint 21 = .ok (.aload_n 0, 1) := by decide +kernel
theorem dX1_readJoint_22 : decode cX1_readJoint 22 = .ok (.aload_n 1, 1) := by decide +kernel
theorem dX1_readJoint_23 : decode cX1_readJoint 23 = .ok (.iconst 1, 1) := by decide +kernel
theorem dX1_readJoint_24 : decode cX1_readJoint 24 = .ok (.invokevirtual 42, 3) := by decide +kernel
theorem dX1_readJoint_27 : decode cX1_readJoint 27 = .ok (.aload_n 0, 1) := by decide +kernel
theorem dX1_readJoint_28 : decode cX1_readJoint 28 = .ok (.dup, 1) := by decide +kernel
theorem dX1_readJoint_29 : decode cX1_readJoint 29 = .ok (.getfield 23, 3) := by decide +kernel
theorem dX1_readJoint_32 : decode cX1_readJoint 32 = .ok (.iconst 1, 1) := by decide +kernel
theorem dX1_readJoint_33 : decode cX1_readJoint 33 = .ok (.isub, 1) := by decide +kernel
theorem dX1_readJoint_34 : decode cX1_readJoint 34 = .ok (.putfield 23, 3) := by decide +kernel
theorem dX1_readJoint_37 : decode cX1_readJoint 37 = .ok (.aload_n 0, 1) := by decide +kernel
theorem dX1_readJoint_38 : decode cX1_readJoint 38 = .ok (.dup, 1) := by decide +kernel
theorem dX1_readJoint_39 : decode cX1_readJoint 39 = .ok (.getfield 27, 3) := by decide +kernel
theorem dX1_readJoint_42 : decode cX1_readJoint 42 = .ok (.iconst 1, 1) := by decide +kernel
theorem dX1_readJoint_43 : decode cX1_readJoint 43 = .ok (.isub, 1) := by decide +kernel
theorem dX1_readJoint_44 : decode cX1_readJoint 44 = .ok (.putfield 27, 3) := by decide +kernel
theorem dX1_readJoint_47 : decode cX1_readJoint 47 = .ok (.iconst 0, 1) := by decide +kernel
theorem dX1_readJoint_48 : decode cX1_readJoint 48 = .ok (.ireturn, 1) := by decide +kernel
theorem dX1_readJoint_49 : decode cX1_readJoint 49 = .ok (.iload_n 2, 1) := by decide +kernel
theorem dX1_readJoint_50 : decode cX1_readJoint 50 = .ok (.invokestatic 80, 3) := by decide +kernel
theorem dX1_readJoint_53 : decode cX1_readJoint 53 = .ok (.istore_n 3, 1) := by decide +kernel
theorem dX1_readJoint_54 : decode cX1_readJoint 54 = .ok (.iload_n 3, 1) := by decide +kernel
theorem dX1_readJoint_55 : decode cX1_readJoint 55 = .ok (.ifCond .eq 25, 3) := by decide +kernel
theorem dX1_readJoint_58 : decode cX1_readJoint 58 = .ok (.iload_n 3, 1) := by decide +kernel
theorem dX1_readJoint_59 : decode cX1_readJoint 59 = .ok (.iconst 3, 1) := by decide +kernel
theorem dX1_readJoint_60 : decode cX1_readJoint 60 = .ok (.if_icmp .eq 20, 3) := by decide +kernel
theorem dX1_readJoint_63 : decode cX1_readJoint 63 = .ok (.iload_n 3, 1) := by decide +kernel
theorem dX1_readJoint_64 : decode cX1_readJoint 64 = .ok (.iconst 4, 1) := by decide +kernel
theorem dX1_readJoint_65 : decode cX1_readJoint 65 = .ok (.if_icmp .ne 17, 3) := by decide +kernel
theorem dX1_readJoint_68 : decode cX1_readJoint 68 = .ok (.aload_n 0, 1) := by decide +kernel
theorem dX1_readJoint_69 : decode cX1_readJoint 69 = .ok (.getfield 15, 3) := by decide +kernel
theorem dX1_readJoint_72 : decode cX1_readJoint 72 = .ok (.aload_n 0, 1) := by decide +kernel
theorem dX1_readJoint_73 : decode cX1_readJoint 73 = .ok (.getfield 27, 3) := by decide +kernel
theorem dX1_readJoint_76 : decode cX1_readJoint 76 = .ok (.baload, 1) := by decide +kernel
theorem dX1_readJoint_77 : decode cX1_readJoint 77 = .ok (.ifCond .eq 5, 3) := by decide +kernel
theorem dX1_readJoint_80 : decode cX1_readJoint 80 = .ok (.iconst 1, 1) := by decide +kernel
theorem dX1_readJoint_81 : decode cX1_readJoint 81 = .ok (.ireturn, 1) := by decide +kernel
theorem dX1_readJoint_82 : decode cX1_readJoint 82 = .ok (.aload_n 1, 1) := by decide +kernel
theorem dX1_readJoint_83 : decode cX1_readJoint 83 = .ok (.getfield 64, 3) := by decide +kernel
theorem dX1_readJoint_86 : decode cX1_readJoint 86 = .ok (.bipush 64, 2) := by decide +kernel
theorem dX1_readJoint_88 : decode cX1_readJoint 88 = .ok (.if_icmp .lt 5, 3) := by decide +kernel
theorem dX1_readJoint_91 : decode cX1_readJoint 91 = .ok (.iconst 2, 1) := by decide +kernel
theorem dX1_readJoint_92 : decode cX1_readJoint 92 = .ok (.ireturn, 1) := by decide +kernel
theorem dX1_readJoint_93 : decode cX1_readJoint 93 = .ok (.aload_n 1, 1) := by decide +kernel
theorem dX1_readJoint_94 : decode cX1_readJoint 94 = .ok (.dup, 1) := by decide +kernel
theorem dX1_readJoint_95 : decode cX1_readJoint 95 = .ok (.getfield 64, 3) := by decide +kernel
theorem dX1_readJoint_98 : decode cX1_readJoint 98 = .ok (.iconst 1, 1) := by decide +kernel
theorem dX1_readJoint_99 : decode cX1_readJoint 99 = .ok (.iadd, 1) := by decide +kernel
theorem dX1_readJoint_100 : decode cX1_readJoint 100 = .ok (.putfield 64, 3) := by decide +kernel
theorem dX1_readJoint_103 : decode cX1_readJoint 103 = .ok (.aload_n 0, 1) := by decide +kernel
theorem dX1_readJoint_104 : decode cX1_readJoint 104 = .ok (.aload_n 1, 1) := by decide +kernel
theorem dX1_readJoint_105 : decode cX1_readJoint 105 = .ok (.iload_n 3, 1) := by decide +kernel
theorem dX1_readJoint_106 : decode cX1_readJoint 106 = .ok (.invokevirtual 42, 3) := by decide +kernel
theorem dX1_readJoint_109 : decode cX1_readJoint 109 = .ok (.aload_n 0, 1) := by decide +kernel
theorem dX1_readJoint_110 : decode cX1_readJoint 110 = .ok (.iload_n 2, 1) := by decide +kernel
theorem dX1_readJoint_111 : decode cX1_readJoint 111 = .ok (.invokevirtual 72, 3) := by decide +kernel
theorem dX1_readJoint_114 : decode cX1_readJoint 114 = .ok (.iload_n 3, 1) := by decide +kernel
theorem dX1_readJoint_115 : decode cX1_readJoint 115 = .ok (.iconst 4, 1) := by decide +kernel
theorem dX1_readJoint_116 : decode cX1_readJoint 116 = .ok (.if_icmp .gt 22, 3) := by decide +kernel
theorem dX1_readJoint_119 : decode cX1_readJoint 119 = .ok (.aload_n 0, 1) := by decide +kernel
theorem dX1_readJoint_120 : decode cX1_readJoint 120 = .ok (.getfield 15, 3) := by decide +kernel
theorem dX1_readJoint_123 : decode cX1_readJoint 123 = .ok (.aload_n 0, 1) := by decide +kernel
theorem dX1_readJoint_124 : decode cX1_readJoint 124 = .ok (.getfield 27, 3) := by decide +kernel
theorem dX1_readJoint_127 : decode cX1_readJoint 127 = .ok (.iload_n 3, 1) := by decide +kernel
theorem dX1_readJoint_128 : decode cX1_readJoint 128 = .ok (.iconst 4, 1) := by decide +kernel
theorem dX1_readJoint_129 : decode cX1_readJoint 129 = .ok (.if_icmp .ne 7, 3) := by decide +kernel
theorem dX1_readJoint_132 : decode cX1_readJoint 132 = .ok (.iconst 1, 1) := by decide +kernel
theorem dX1_readJoint_133 : decode cX1_readJoint 133 = .ok (.goto 4, 3) := by decide +kernel
theorem dX1_readJoint_136 : decode cX1_readJoint 136 = .ok (.iconst 0, 1) := by decide +kernel
theorem dX1_readJoint_137 : decode cX1_readJoint 137 = .ok (.bastore, 1) := by decide +kernel
theorem dX1_readJoint_138 : decode cX1_readJoint 138 = .ok (.aload_n 0, 1) := by decide +kernel
theorem dX1_readJoint_139 : decode cX1_readJoint 139 = .ok (.iconst 1, 1) := by decide +kernel
theorem dX1_readJoint_140 : decode cX1_readJoint 140 = .ok (.putfield 30, 3) := by decide +kernel
theorem dX1_readJoint_143 : decode cX1_readJoint 143 = .ok (.aload_n 0, 1) := by decide +kernel
theorem dX1_readJoint_144 : decode cX1_readJoint 144 = .ok (.iload_n 3, 1) := by decide +kernel
theorem dX1_readJoint_145 : decode cX1_readJoint 145 = .ok (.iconst 4, 1) := by decide +kernel
theorem dX1_readJoint_146 : decode cX1_readJoint 146 = .ok (.if_icmp .ge 7, 3) := by decide +kernel
theorem dX1_readJoint_149 : decode cX1_readJoint 149 = .ok (.iconst 1, 1) := by decide +kernel
theorem dX1_readJoint_150 : decode cX1_readJoint 150 = .ok (.goto 4, 3) := by decide +kernel
theorem dX1_readJoint_153 : decode cX1_readJoint 153 = .ok (.iconst 0, 1) := by decide +kernel
theorem dX1_readJoint_154 : decode cX1_readJoint 154 = .ok (.putfield 34, 3) := by decide +kernel
theorem dX1_readJoint_157 : decode cX1_readJoint 157 = .ok (.iconst 0, 1) := by decide +kernel
theorem dX1_readJoint_158 : decode cX1_readJoint 158 = .ok (.ireturn, 1) := by decide +kernel
def f_X1_readJoint (M : MM) (a1 : Nat) : Option (Int × MM) :=
bI (M 3 4) fun x1 =>
bS ((if x1 = 41 then
(if 0 < (M 5 4) then
((f_X1_release M a1 1).bind fun x4 =>
bM (upM x4 5 3 (w32 ((x4 5 3) - 1))) fun M5 =>
bM (upM M5 5 4 (w32 ((M5 5 4) - 1))) fun M6 =>
some (Sum.inr (0, M6)))
else
some (Sum.inl ()))
else
some (Sum.inl ())) : Option ((Unit) ⊕ (Int × MM))) (fun x7 =>
(f_X1_rankOf M x1).bind fun x8 =>
if x8 = 0 then
(some (1, M))
else
if x8 = 3 then
(some (1, M))
else
bS ((if x8 = 4 then
(gd (0 ≤ M 5 4 ∧ M 5 4 < (9 : Int)) <|
if (M 7 (M 5 4).toNat) = 0 then
(some (Sum.inl ()))
else
some (Sum.inr (1, M)))
else
some (Sum.inl ())) : Option ((Unit) ⊕ (Int × MM))) (fun x14 =>
if (M a1 7) < 64 then
(bM (upM M a1 7 (w32 ((M a1 7) + 1))) fun M16 =>
(f_X1_release M16 a1 x8).bind fun x17 =>
(f_X1_await x17 x1).bind fun x18 =>
((if 4 < x8 then
(some x18)
else
((if x8 = 4 then
(some 1)
else
some 0) : Option (Int)).bind fun x21 =>
gd (0 ≤ x18 5 4 ∧ x18 5 4 < (9 : Int)) <|
gd (x21 = 0 ∨ x21 = 1) <|
bM (upM x18 7 (x18 5 4).toNat x21) fun M24 =>
some M24) : Option (MM)).bind fun x25 =>
bM (upM x25 5 5 1) fun M26 =>
((if x8 < 4 then
(some 1)
else
some 0) : Option (Int)).bind fun x28 =>
gd (x28 = 0 ∨ x28 = 1) <|
bM (upM M26 5 6 x28) fun M30 =>
some (0, M30))
else
some (2, M)) (fun r => r)) (fun r => r)
set_option maxRecDepth 4000 in
theorem c_X1_readJoint {E : EE} {sh : List (Nat × Nat)} {ex : Bool} {R : RM} {M : MM} {a1 : Nat} (hE : Ext sh) (hL : Links R) (hs1 : SH0[a1]? = some (3, 8)) : ∀ y, f_X1_readJoint M a1 = some y → MetC E m_X1_readJoint 0 0 [rV 5, rV a1] (sh, ex, R, M) (fun r w' => r = some (iV y.1) ∧ w' = (sh, ex, R, y.2)) := by
  intro y hy
  refine MetC.seg (o := f_X1_readJoint M a1) (t := (fun K y => K (some (iV y.1)) (sh, ex, R, y.2))) (L := [some (rV 5), some (rV a1), none, none]) (by decide) rfl (Nat.le_of_ble_eq_true rfl) ?_ hy ⟨rfl, rfl⟩
  unfold f_X1_readJoint
  refine Seg.step (pc' := 1) (I_aload_n (i := 0) dX1_readJoint_0 rfl rfl) ?_
  refine Seg.step (pc' := 4) (I_getR cls1 (by decide) wf_1_19 (hE _ _ sk_1) rfl (lk_1_0 hL) dX1_readJoint_1) ?_
  refine Seg.step (pc' := 7) (I_getI cls9 (by decide) wf_1_37 (hE _ _ sk_1_0) rfl dX1_readJoint_4) ?_
  refine S_bI fun x1 => ?_
  refine Seg.step (pc' := 8) (I_istore_n (i := 2) dX1_readJoint_7 rfl (by decide) rfl) ?_
  refine Seg.step (pc' := 9) (I_iload_n (i := 2) dX1_readJoint_8 rfl rfl) ?_
  refine Seg.step (pc' := 11) (I_bipush dX1_readJoint_9 (by decide) ⟨by decide, by decide⟩) ?_
  refine S_bind2 (Y := Unit) (k' := 0) (n' := 0) 49 (fun y => [some (rV 5), some (rV a1), some (iV x1), none]) (fun y => []) (fun y => (sh, ex, R, M)) ?_ (fun x7 => ?_)
  · refine S_icmp_ne (tgt := 49) dX1_readJoint_11 (by decide) (fun h2 => ?_) (fun h2 => ?_)
    · refine Seg.step (pc' := 15) (I_aload_n (i := 0) dX1_readJoint_14 rfl rfl) ?_
      refine Seg.step (pc' := 18) (I_getI cls1 (by decide) wf_1_27 (hE _ _ sk_1) rfl dX1_readJoint_15) ?_
      refine S_if_le (tgt := 49) dX1_readJoint_18 (by decide) (fun h3 => ?_) (fun h3 => ?_)
      · refine Seg.step (pc' := 22) (I_aload_n (i := 0) dX1_readJoint_21 rfl rfl) ?_
        refine Seg.step (pc' := 23) (I_aload_n (i := 1) dX1_readJoint_22 rfl rfl) ?_
        refine Seg.step (pc' := 24) (I_iconst dX1_readJoint_23 ⟨by decide, by decide⟩) ?_
        refine S_callV2 (md' := m_X1_release) (fun y => none) (fun y => (sh, ex, R, y)) (hE _ _ sk_1) ⟨by decide, rfl⟩ mm_X1_release wm_1_42 ⟨rfl, rfl, by decide, by decide, by decide, by decide⟩ (Nat.le_of_ble_eq_true rfl) dX1_readJoint_24 (fun y hy => c_X1_release hE hL hs1 y hy) (fun x4 => ?_)
        refine Seg.step (pc' := 28) (I_aload_n (i := 0) dX1_readJoint_27 rfl rfl) ?_
        refine Seg.step (pc' := 29) (I_dup dX1_readJoint_28 (fun _ h => by cases h)) ?_
        refine Seg.step (pc' := 32) (I_getI cls1 (by decide) wf_1_23 (hE _ _ sk_1) rfl dX1_readJoint_29) ?_
        refine Seg.step (pc' := 33) (I_iconst dX1_readJoint_32 ⟨by decide, by decide⟩) ?_
        refine Seg.step (pc' := 34) (I_isub dX1_readJoint_33) ?_
        refine Seg.step (pc' := 37) (I_putI cls1 (by decide) wf_1_23 (hE _ _ sk_1) rfl rfl dX1_readJoint_34) ?_
        refine S_bM fun M5 => ?_
        refine Seg.step (pc' := 38) (I_aload_n (i := 0) dX1_readJoint_37 rfl rfl) ?_
        refine Seg.step (pc' := 39) (I_dup dX1_readJoint_38 (fun _ h => by cases h)) ?_
        refine Seg.step (pc' := 42) (I_getI cls1 (by decide) wf_1_27 (hE _ _ sk_1) rfl dX1_readJoint_39) ?_
        refine Seg.step (pc' := 43) (I_iconst dX1_readJoint_42 ⟨by decide, by decide⟩) ?_
        refine Seg.step (pc' := 44) (I_isub dX1_readJoint_43) ?_
        refine Seg.step (pc' := 47) (I_putI cls1 (by decide) wf_1_27 (hE _ _ sk_1) rfl rfl dX1_readJoint_44) ?_
        refine S_bM fun M6 => ?_
        refine Seg.step (pc' := 48) (I_iconst dX1_readJoint_47 ⟨by decide, by decide⟩) ?_
        exact S_iret dX1_readJoint_48 rfl (by decide) (by decide) (fun K hK => hK)
      exact S_arr (fun K hK => GG.forget (Lle.ye (Lle.ye (Lle.ye (Lle.no (Lle.nil))))) hK)
    exact S_arr (fun K hK => GG.forget (Lle.ye (Lle.ye (Lle.ye (Lle.no (Lle.nil))))) hK)
  refine Seg.step (pc' := 50) (I_iload_n (i := 2) dX1_readJoint_49 rfl rfl) ?_
  refine S_callS1 (md' := m_X1_rankOf) (fun y => some (iV y)) (fun y => (sh, ex, R, M)) mm_X1_rankOf wm_1_80 ⟨rfl, rfl, by decide, by decide, by decide, by decide⟩ (Nat.le_of_ble_eq_true rfl) dX1_readJoint_50 (fun y hy => c_X1_rankOf hE hL y hy) (fun x8 => ?_)
  refine Seg.step (pc' := 54) (I_istore_n (i := 3) dX1_readJoint_53 rfl (by decide) rfl) ?_
  refine Seg.step (pc' := 55) (I_iload_n (i := 3) dX1_readJoint_54 rfl rfl) ?_
  refine S_if_eq (tgt := 80) dX1_readJoint_55 (by decide) (fun h9 => ?_) (fun h9 => ?_)
  · refine Seg.step (pc' := 81) (I_iconst dX1_readJoint_80 ⟨by decide, by decide⟩) ?_
    exact S_iret dX1_readJoint_81 rfl (by decide) (by decide) (fun K hK => hK)
  refine Seg.step (pc' := 59) (I_iload_n (i := 3) dX1_readJoint_58 rfl rfl) ?_
  refine Seg.step (pc' := 60) (I_iconst dX1_readJoint_59 ⟨by decide, by decide⟩) ?_
  refine S_icmp_eq (tgt := 80) dX1_readJoint_60 (by decide) (fun h10 => ?_) (fun h10 => ?_)
  · refine Seg.step (pc' := 81) (I_iconst dX1_readJoint_80 ⟨by decide, by decide⟩) ?_
    exact S_iret dX1_readJoint_81 rfl (by decide) (by decide) (fun K hK => hK)
  refine Seg.step (pc' := 64) (I_iload_n (i := 3) dX1_readJoint_63 rfl rfl) ?_
  refine Seg.step (pc' := 65) (I_iconst dX1_readJoint_64 ⟨by decide, by decide⟩) ?_
  refine S_bind2 (Y := Unit) (k' := 0) (n' := 0) 82 (fun y => [some (rV 5), some (rV a1), some (iV x1), some (iV x8)]) (fun y => []) (fun y => (sh, ex, R, M)) ?_ (fun x14 => ?_)
  · refine S_icmp_ne (tgt := 82) dX1_readJoint_65 (by decide) (fun h11 => ?_) (fun h11 => ?_)
    · refine Seg.step (pc' := 69) (I_aload_n (i := 0) dX1_readJoint_68 rfl rfl) ?_
      refine Seg.step (pc' := 72) (I_getR cls1 (by decide) wf_1_15 (hE _ _ sk_1) rfl (lk_1_2 hL) dX1_readJoint_69) ?_
      refine Seg.step (pc' := 73) (I_aload_n (i := 0) dX1_readJoint_72 rfl rfl) ?_
      refine Seg.step (pc' := 76) (I_getI cls1 (by decide) wf_1_27 (hE _ _ sk_1) rfl dX1_readJoint_73) ?_
      refine S_gd fun h12 => ?_
      refine Seg.step (pc' := 77) (I_zald (hE _ _ sk_1_2) h12 dX1_readJoint_76) ?_
      refine S_if_eq (tgt := 82) dX1_readJoint_77 (by decide) (fun h13 => ?_) (fun h13 => ?_)
      · exact S_arr (fun K hK => GG.forget (Lle.ye (Lle.ye (Lle.ye (Lle.ye (Lle.nil))))) hK)
      refine Seg.step (pc' := 81) (I_iconst dX1_readJoint_80 ⟨by decide, by decide⟩) ?_
      exact S_iret dX1_readJoint_81 rfl (by decide) (by decide) (fun K hK => hK)
    exact S_arr (fun K hK => GG.forget (Lle.ye (Lle.ye (Lle.ye (Lle.ye (Lle.nil))))) hK)
  refine Seg.step (pc' := 83) (I_aload_n (i := 1) dX1_readJoint_82 rfl rfl) ?_
  refine Seg.step (pc' := 86) (I_getI cls3 (by decide) wf_1_64 (hE _ _ hs1) rfl dX1_readJoint_83) ?_
  refine Seg.step (pc' := 88) (I_bipush dX1_readJoint_86 (by decide) ⟨by decide, by decide⟩) ?_
  refine S_icmp_lt (tgt := 93) dX1_readJoint_88 (by decide) (fun h15 => ?_) (fun h15 => ?_)
  · refine Seg.step (pc' := 94) (I_aload_n (i := 1) dX1_readJoint_93 rfl rfl) ?_
    refine Seg.step (pc' := 95) (I_dup dX1_readJoint_94 (fun _ h => by cases h)) ?_
    refine Seg.step (pc' := 98) (I_getI cls3 (by decide) wf_1_64 (hE _ _ hs1) rfl dX1_readJoint_95) ?_
    refine Seg.step (pc' := 99) (I_iconst dX1_readJoint_98 ⟨by decide, by decide⟩) ?_
    refine Seg.step (pc' := 100) (I_iadd dX1_readJoint_99) ?_
    refine Seg.step (pc' := 103) (I_putI cls3 (by decide) wf_1_64 (hE _ _ hs1) rfl rfl dX1_readJoint_100) ?_
    refine S_bM fun M16 => ?_
    refine Seg.step (pc' := 104) (I_aload_n (i := 0) dX1_readJoint_103 rfl rfl) ?_
    refine Seg.step (pc' := 105) (I_aload_n (i := 1) dX1_readJoint_104 rfl rfl) ?_
    refine Seg.step (pc' := 106) (I_iload_n (i := 3) dX1_readJoint_105 rfl rfl) ?_
    refine S_callV2 (md' := m_X1_release) (fun y => none) (fun y => (sh, ex, R, y)) (hE _ _ sk_1) ⟨by decide, rfl⟩ mm_X1_release wm_1_42 ⟨rfl, rfl, by decide, by decide, by decide, by decide⟩ (Nat.le_of_ble_eq_true rfl) dX1_readJoint_106 (fun y hy => c_X1_release hE hL hs1 y hy) (fun x17 => ?_)
    refine Seg.step (pc' := 110) (I_aload_n (i := 0) dX1_readJoint_109 rfl rfl) ?_
    refine Seg.step (pc' := 111) (I_iload_n (i := 2) dX1_readJoint_110 rfl rfl) ?_
    refine S_callV1 (md' := m_X1_await) (fun y => none) (fun y => (sh, ex, R, y)) (hE _ _ sk_1) ⟨by decide, rfl⟩ mm_X1_await wm_1_72 ⟨rfl, rfl, by decide, by decide, by decide, by decide⟩ (Nat.le_of_ble_eq_true rfl) dX1_readJoint_111 (fun y hy => c_X1_await hE hL y hy) (fun x18 => ?_)
    refine Seg.step (pc' := 115) (I_iload_n (i := 3) dX1_readJoint_114 rfl rfl) ?_
    refine Seg.step (pc' := 116) (I_iconst dX1_readJoint_115 ⟨by decide, by decide⟩) ?_
    refine S_bind (Y := MM) (k' := 0) (n' := 0) 138 (fun y => [some (rV 5), none, none, some (iV x8)]) (fun y => []) (fun y => (sh, ex, R, y)) ?_ (fun x25 => ?_)
    · refine S_icmp_gt (tgt := 138) dX1_readJoint_116 (by decide) (fun h19 => ?_) (fun h19 => ?_)
      · exact S_arr (fun K hK => GG.forget (Lle.ye (Lle.no (Lle.no (Lle.ye (Lle.nil))))) hK)
      refine Seg.step (pc' := 120) (I_aload_n (i := 0) dX1_readJoint_119 rfl rfl) ?_
      refine Seg.step (pc' := 123) (I_getR cls1 (by decide) wf_1_15 (hE _ _ sk_1) rfl (lk_1_2 hL) dX1_readJoint_120) ?_
      refine Seg.step (pc' := 124) (I_aload_n (i := 0) dX1_readJoint_123 rfl rfl) ?_
      refine Seg.step (pc' := 127) (I_getI cls1 (by decide) wf_1_27 (hE _ _ sk_1) rfl dX1_readJoint_124) ?_
      refine Seg.step (pc' := 128) (I_iload_n (i := 3) dX1_readJoint_127 rfl rfl) ?_
      refine Seg.step (pc' := 129) (I_iconst dX1_readJoint_128 ⟨by decide, by decide⟩) ?_
      refine S_bind (Y := Int) (k' := 0) (n' := 0) 137 (fun y => [some (rV 5), none, none, some (iV x8)]) (fun y => [iV y, iV (x18 5 4), rV 7]) (fun y => (sh, ex, R, x18)) ?_ (fun x21 => ?_)
      · refine S_icmp_ne (tgt := 136) dX1_readJoint_129 (by decide) (fun h20 => ?_) (fun h20 => ?_)
        · refine Seg.step (pc' := 133) (I_iconst dX1_readJoint_132 ⟨by decide, by decide⟩) ?_
          refine Seg.step (pc' := 137) (I_goto (tgt := 137) dX1_readJoint_133 (by decide)) ?_
          exact S_arr (fun K hK => GG.forget (Lle.ye (Lle.no (Lle.no (Lle.ye (Lle.nil))))) hK)
        refine Seg.step (pc' := 137) (I_iconst dX1_readJoint_136 ⟨by decide, by decide⟩) ?_
        exact S_arr (fun K hK => GG.forget (Lle.ye (Lle.no (Lle.no (Lle.ye (Lle.nil))))) hK)
      refine S_gd fun h22 => ?_
      refine S_gd fun h23 => ?_
      refine Seg.step (pc' := 138) (I_zast (hE _ _ sk_1_2) h22 h23 dX1_readJoint_137) ?_
      refine S_bM fun M24 => ?_
      exact S_arr (fun K hK => GG.forget (Lle.ye (Lle.no (Lle.no (Lle.ye (Lle.nil))))) hK)
    refine Seg.step (pc' := 139) (I_aload_n (i := 0) dX1_readJoint_138 rfl rfl) ?_
    refine Seg.step (pc' := 140) (I_iconst dX1_readJoint_139 ⟨by decide, by decide⟩) ?_
    refine Seg.step (pc' := 143) (I_putZ cls1 (by decide) wf_1_30 (hE _ _ sk_1) rfl rfl (by decide) dX1_readJoint_140) ?_
    refine S_bM fun M26 => ?_
    refine Seg.step (pc' := 144) (I_aload_n (i := 0) dX1_readJoint_143 rfl rfl) ?_
    refine Seg.step (pc' := 145) (I_iload_n (i := 3) dX1_readJoint_144 rfl rfl) ?_
    refine Seg.step (pc' := 146) (I_iconst dX1_readJoint_145 ⟨by decide, by decide⟩) ?_
    refine S_bind (Y := Int) (k' := 0) (n' := 0) 154 (fun y => [none, none, none, none]) (fun y => [iV y, rV 5]) (fun y => (sh, ex, R, M26)) ?_ (fun x28 => ?_)
    · refine S_icmp_ge (tgt := 153) dX1_readJoint_146 (by decide) (fun h27 => ?_) (fun h27 => ?_)
      · refine Seg.step (pc' := 150) (I_iconst dX1_readJoint_149 ⟨by decide, by decide⟩) ?_
        refine Seg.step (pc' := 154) (I_goto (tgt := 154) dX1_readJoint_150 (by decide)) ?_
        exact S_arr (fun K hK => GG.forget (Lle.no (Lle.no (Lle.no (Lle.no (Lle.nil))))) hK)
      refine Seg.step (pc' := 154) (I_iconst dX1_readJoint_153 ⟨by decide, by decide⟩) ?_
      exact S_arr (fun K hK => GG.forget (Lle.no (Lle.no (Lle.no (Lle.no (Lle.nil))))) hK)
    refine S_gd fun h29 => ?_
    refine Seg.step (pc' := 157) (I_putZ cls1 (by decide) wf_1_34 (hE _ _ sk_1) rfl rfl h29 dX1_readJoint_154) ?_
    refine S_bM fun M30 => ?_
    refine Seg.step (pc' := 158) (I_iconst dX1_readJoint_157 ⟨by decide, by decide⟩) ?_
    exact S_iret dX1_readJoint_158 rfl (by decide) (by decide) (fun K hK => hK)
  refine Seg.step (pc' := 92) (I_iconst dX1_readJoint_91 ⟨by decide, by decide⟩) ?_
  exact S_iret dX1_readJoint_92 rfl (by decide) (by decide) (fun K hK => hK)
theorem dX9_readWord_0 : decode cX9_readWord 0 = .ok (.iconst 0, 1) := by decide +kernel
theorem dX9_readWord_1 : decode cX9_readWord 1 = .ok (.istore_n 1, 1) := by decide +kernel
theorem dX9_readWord_2 : decode cX9_readWord 2 = .ok (.aload_n 0, 1) := by decide +kernel
theorem dX9_readWord_3 : decode cX9_readWord 3 = .ok (.iconst 0, 1) := by decide +kernel
theorem dX9_readWord_4 : decode cX9_readWord 4 = .ok (.putfield 65, 3) := by decide +kernel
theorem dX9_readWord_7 : decode cX9_readWord 7 = .ok (.aload_n 0, 1) := by decide +kernel
theorem dX9_readWord_8 : decode cX9_readWord 8 = .ok (.getfield 43, 3) := by decide +kernel
theorem dX9_readWord_11 : decode cX9_readWord 11 = .ok (.aload_n 0, 1) := by decide +kernel
theorem dX9_readWord_12 : decode cX9_readWord 12 = .ok (.getfield 40, 3) := by decide +kernel
theorem dX9_readWord_15 : decode cX9_readWord 15 = .ok (.if_icmp .ge 79, 3) := by decide +kernel
theorem dX9_readWord_18 : decode cX9_readWord 18 = .ok (.aload_n 0, 1) := by decide +kernel
theorem dX9_readWord_19 : decode cX9_readWord 19 = .ok (.getfield 15, 3) := by decide +kernel
theorem dX9_readWord_22 : decode cX9_readWord 22 = .ok (.aload_n 0, 1) := by decide +kernel
theorem dX9_readWord_23 : decode cX9_readWord 23 = .ok (.getfield 43, 3) := by decide +kernel
theorem dX9_readWord_26 : decode cX9_readWord 26 = .ok (.baload, 1) := by decide +kernel
theorem dX9_readWord_27 : decode cX9_readWord 27 = .ok (.bipush 97, 2) := by decide +kernel
theorem dX9_readWord_29 : decode cX9_readWord 29 = .ok (.if_icmp .lt 65, 3) := by decide +kernel
theorem dX9_readWord_32 : decode cX9_readWord 32 = .ok (.aload_n 0, 1) := by decide +kernel
theorem dX9_readWord_33 : decode cX9_readWord 33 = .ok (.getfield 15, 3) := by decide +kernel
theorem dX9_readWord_36 : decode cX9_readWord 36 = .ok (.aload_n 0, 1) := by decide +kernel
theorem dX9_readWord_37 : decode cX9_readWord 37 = .ok (.getfield 43, 3) := by decide +kernel
theorem dX9_readWord_40 : decode cX9_readWord 40 = .ok (.baload, 1) := by decide +kernel
theorem dX9_readWord_41 : decode cX9_readWord 41 = .ok (.bipush 122, 2) := by decide +kernel
theorem dX9_readWord_43 : decode cX9_readWord 43 = .ok (.if_icmp .gt 51, 3) := by decide +kernel
theorem dX9_readWord_46 : decode cX9_readWord 46 = .ok (.iload_n 1, 1) := by decide +kernel
theorem dX9_readWord_47 : decode cX9_readWord 47 = .ok (.bipush 6, 2) := by decide +kernel
theorem dX9_readWord_49 : decode cX9_readWord 49 = .ok (.if_icmp .ge 29, 3) := by decide +kernel
theorem dX9_readWord_52 : decode cX9_readWord 52 = .ok (.aload_n 0, 1) := by decide +kernel
theorem dX9_readWord_53 : decode cX9_readWord 53 = .ok (.aload_n 0, 1) := by decide +kernel
theorem dX9_readWord_54 : decode cX9_readWord 54 = .ok (.getfield 65, 3) := by decide +kernel
theorem dX9_readWord_57 : decode cX9_readWord 57 = .ok (.bipush 32, 2) := by decide +kernel
theorem dX9_readWord_59 : decode cX9_readWord 59 = .ok (.imul, 1) := by decide +kernel
theorem dX9_readWord_60 : decode cX9_readWord 60 = .ok (.aload_n 0, 1) := by decide +kernel
theorem dX9_readWord_61 : decode cX9_readWord 61 = .ok (.getfield 15, 3) := by decide +kernel
theorem dX9_readWord_64 : decode cX9_readWord 64 = .ok (.aload_n 0, 1) := by decide +kernel
theorem dX9_readWord_65 : decode cX9_readWord 65 = .ok (.getfield 43, 3) := by decide +kernel
theorem dX9_readWord_68 : decode cX9_readWord 68 = .ok (.baload, 1) := by decide +kernel
theorem dX9_readWord_69 : decode cX9_readWord 69 = .ok (.iadd, 1) := by decide +kernel
theorem dX9_readWord_70 : decode cX9_readWord 70 = .ok (.bipush 97, 2) := by decide +kernel
theorem dX9_readWord_72 : decode cX9_readWord 72 = .ok (.isub, 1) := by decide +kernel
theorem dX9_readWord_73 : decode cX9_readWord 73 = .ok (.iconst 1, 1) := by decide +kernel
theorem dX9_readWord_74 : decode cX9_readWord 74 = .ok (.iadd, 1) := by decide +kernel
theorem dX9_readWord_75 : decode cX9_readWord 75 = .ok (.putfield 65, 3) := by decide +kernel
theorem dX9_readWord_78 : decode cX9_readWord 78 = .ok (.iinc 1 1, 3) := by decide +kernel
theorem dX9_readWord_81 : decode cX9_readWord 81 = .ok (.aload_n 0, 1) := by decide +kernel
theorem dX9_readWord_82 : decode cX9_readWord 82 = .ok (.dup, 1) := by decide +kernel
theorem dX9_readWord_83 : decode cX9_readWord 83 = .ok (.getfield 43, 3) := by decide +kernel
theorem dX9_readWord_86 : decode cX9_readWord 86 = .ok (.iconst 1, 1) := by decide +kernel
theorem dX9_readWord_87 : decode cX9_readWord 87 = .ok (.iadd, 1) := by decide +kernel
theorem dX9_readWord_88 : decode cX9_readWord 88 = .ok (.putfield 43, 3) := by decide +kernel
theorem dX9_readWord_91 : decode cX9_readWord 91 = .ok (.goto (-84), 3) := by decide +kernel
theorem dX9_readWord_94 : decode cX9_readWord 94 = .ok (.iload_n 1, 1) := by decide +kernel
theorem dX9_readWord_95 : decode cX9_readWord 95 = .ok (.bipush 6, 2) := by decide +kernel
theorem dX9_readWord_97 : decode cX9_readWord 97 = .ok (.if_icmp .le 9, 3) := by decide +kernel
theorem dX9_readWord_100 : decode cX9_readWord 100 = .ok (.aload_n 0, 1) := by decide +kernel
theorem dX9_readWord_101 : decode cX9_readWord 101 = .ok (.iconst 0, 1) := by decide +kernel
theorem dX9_readWord_102 : decode cX9_readWord 102 = .ok (.putfield 52, 3) := by decide +kernel
theorem dX9_readWord_105 : decode cX9_readWord 105 = .ok (.return_, 1) := by decide +kernel
theorem dX9_readWord_106 : decode cX9_readWord 106 = .ok (.aload_n 0, 1) := by decide +kernel
theorem dX9_readWord_107 : decode cX9_readWord 107 = .ok (.dup, 1) := by decide +kernel
theorem dX9_readWord_108 : decode cX9_readWord 108 = .ok (.getfield 65, 3) := by decide +kernel
theorem dX9_readWord_111 : decode cX9_readWord 111 = .ok (.iconst 5, 1) := by decide +kernel
theorem dX9_readWord_112 : decode cX9_readWord 112 = .ok (.bipush 6, 2) := by decide +kernel
theorem dX9_readWord_114 : decode cX9_readWord 114 = .ok (.iload_n 1, 1) := by decide +kernel
theorem dX9_readWord_115 : decode cX9_readWord 115 = .ok (.isub, 1) := by decide +kernel
theorem dX9_readWord_116 : decode cX9_readWord 116 = .ok (.imul, 1) := by decide +kernel
theorem dX9_readWord_117 : decode cX9_readWord 117 = .ok (.ishl, 1) := by decide +kernel
theorem dX9_readWord_118 : decode cX9_readWord 118 = .ok (.putfield 65, 3) := by decide +kernel
theorem dX9_readWord_121 : decode cX9_readWord 121 = .ok (.aload_n 0, 1) := by decide +kernel
theorem dX9_readWord_122 : decode cX9_readWord 122 = .ok (.iconst 3, 1) := by decide +kernel
theorem dX9_readWord_123 : decode cX9_readWord 123 = .ok (.putfield 52, 3) := by decide +kernel
theorem dX9_readWord_126 : decode cX9_readWord 126 = .ok (.iconst 0, 1) := by decide +kernel
theorem dX9_readWord_127 : decode cX9_readWord 127 = .ok (.istore_n 2, 1) := by decide +kernel
theorem dX9_readWord_128 : decode cX9_readWord 128 = .ok (.iload_n 2, 1) := by decide +kernel
theorem dX9_readWord_129 : decode cX9_readWord 129 = .ok (.bipush 20, 2) := by decide +kernel
theorem dX9_readWord_131 : decode cX9_readWord 131 = .ok (.if_icmp .ge 31, 3) := by decide +kernel
theorem dX9_readWord_134 : decode cX9_readWord 134 = .ok (.aload_n 0, 1) := by decide +kernel
theorem dX9_readWord_135 : decode cX9_readWord 135 = .ok (.getfield 11, 3) := by decide +kernel
theorem dX9_readWord_138 : decode cX9_readWord 138 = .ok (.iload_n 2, 1) := by decide +kernel
theorem dX9_readWord_139 : decode cX9_readWord 139 = .ok (.iaload, 1) := by decide +kernel
theorem dX9_readWord_140 : decode cX9_readWord 140 = .ok (.aload_n 0, 1) := by decide +kernel
theorem dX9_readWord_141 : decode cX9_readWord 141 = .ok (.getfield 65, 3) := by decide +kernel
theorem dX9_readWord_144 : decode cX9_readWord 144 = .ok (.if_icmp .ne 12, 3) := by decide +kernel
theorem dX9_readWord_147 : decode cX9_readWord 147 = .ok (.aload_n 0, 1) := by decide +kernel
theorem dX9_readWord_148 : decode cX9_readWord 148 = .ok (.sipush 300, 3) := by decide +kernel
theorem dX9_readWord_151 : decode cX9_readWord 151 = .ok (.iload_n 2, 1) := by decide +kernel
theorem dX9_readWord_152 : decode cX9_readWord 152 = .ok (.iadd, 1) := by decide +kernel
theorem dX9_readWord_153 : decode cX9_readWord 153 = .ok (.putfield 52, 3) := by decide +kernel
theorem dX9_readWord_156 : decode cX9_readWord 156 = .ok (.iinc 2 1, 3) := by decide +kernel
theorem dX9_readWord_159 : decode cX9_readWord 159 = .ok (.goto (-31), 3) := by decide +kernel
theorem dX9_readWord_162 : decode cX9_readWord 162 = .ok (.return_, 1) := by decide +kernel
def f_X9_readWord (M : MM)  : Option (MM) :=
bM (upM M 3 5 0) fun M1 =>
(lp (X := Int × MM) (Y := Int × MM) (fun x2 =>
if (x2.2 3 3) < (x2.2 3 2) then
(gd (0 ≤ x2.2 3 3 ∧ x2.2 3 3 < (700 : Int)) <|
if (x2.2 1 (x2.2 3 3).toNat) < 97 then
(some (Sum.inr (x2.1, x2.2)))
else
gd (0 ≤ x2.2 3 3 ∧ x2.2 3 3 < (700 : Int)) <|
if 122 < (x2.2 1 (x2.2 3 3).toNat) then
(some (Sum.inr (x2.1, x2.2)))
else
((if x2.1 < 6 then
(gd (0 ≤ x2.2 3 3 ∧ x2.2 3 3 < (700 : Int)) <|
bM (upM x2.2 3 5 (w32 ((w32 ((w32 ((w32 ((x2.2 3 5) * 32)) + (x2.2 1 (x2.2 3 3).toNat))) - 97)) + 1))) fun M10 =>
some M10)
else
some x2.2) : Option (MM)).bind fun x11 =>
bM (upM x11 3 3 (w32 ((x11 3 3) + 1))) fun M12 =>
some (Sum.inl (w32 (x2.1 + 1), M12)))
else
some (Sum.inr (x2.1, x2.2))) FU (0, M1)).bind fun x13 =>
if 6 < x13.1 then
(bM (upM x13.2 3 4 0) fun M15 =>
some M15)
else
bM (upM x13.2 3 5 (shl32 (x13.2 3 5) (w32 (5 * (w32 (6 - x13.1)))))) fun M16 =>
bM (upM M16 3 4 3) fun M17 =>
lp (X := Int × MM) (Y := MM) (fun x18 =>
if x18.1 < 20 then
(gd (0 ≤ x18.1 ∧ x18.1 < (20 : Int)) <|
((if (x18.2 4 (x18.1).toNat) = (x18.2 3 5) then
(bM (upM x18.2 3 4 (w32 (300 + x18.1))) fun M22 =>
some M22)
else
some x18.2) : Option (MM)).bind fun x23 =>
some (Sum.inl (w32 (x18.1 + 1), x23)))
else
some (Sum.inr x18.2)) FU (0, M17)
set_option maxRecDepth 4000 in
theorem c_X9_readWord {E : EE} {sh : List (Nat × Nat)} {ex : Bool} {R : RM} {M : MM}  (hE : Ext sh) (hL : Links R) : ∀ y, f_X9_readWord M = some y → MetC E m_X9_readWord 0 0 [rV 3] (sh, ex, R, M) (fun r w' => r = none ∧ w' = (sh, ex, R, y)) := by
  intro y hy
  refine MetC.seg (o := f_X9_readWord M) (t := (fun K y => K (none) (sh, ex, R, y))) (L := [some (rV 3), none, none]) (by decide) rfl (Nat.le_of_ble_eq_true rfl) ?_ hy ⟨rfl, rfl⟩
  unfold f_X9_readWord
  refine Seg.step (pc' := 1) (I_iconst dX9_readWord_0 ⟨by decide, by decide⟩) ?_
  refine Seg.step (pc' := 2) (I_istore_n (i := 1) dX9_readWord_1 rfl (by decide) rfl) ?_
  refine Seg.step (pc' := 3) (I_aload_n (i := 0) dX9_readWord_2 rfl rfl) ?_
  refine Seg.step (pc' := 4) (I_iconst dX9_readWord_3 ⟨by decide, by decide⟩) ?_
  refine Seg.step (pc' := 7) (I_putI cls9 (by decide) wf_9_65 (hE _ _ sk_9) rfl rfl dX9_readWord_4) ?_
  refine S_bM fun M1 => ?_
  refine Seg.forget (Lle.ye (Lle.ye (Lle.no (Lle.nil)))) ?_
  refine S_bind (Y := Int × MM) (k' := 0) (n' := 0) 94 (fun y => [some (rV 3), some (iV y.1), none]) (fun y => []) (fun y => (sh, ex, R, y.2)) (S_loop (Y := Int × MM) (fun y => [some (rV 3), some (iV y.1), none]) (fun y => []) (fun y => (sh, ex, R, y.2)) (fun x2 => ?_) FU (0, M1)) (fun x13 => ?_)
  · refine Seg.step (pc' := 8) (I_aload_n (i := 0) dX9_readWord_7 rfl rfl) ?_
    refine Seg.step (pc' := 11) (I_getI cls9 (by decide) wf_9_43 (hE _ _ sk_9) rfl dX9_readWord_8) ?_
    refine Seg.step (pc' := 12) (I_aload_n (i := 0) dX9_readWord_11 rfl rfl) ?_
    refine Seg.step (pc' := 15) (I_getI cls9 (by decide) wf_9_40 (hE _ _ sk_9) rfl dX9_readWord_12) ?_
    refine S_icmp_ge (tgt := 94) dX9_readWord_15 (by decide) (fun h3 => ?_) (fun h3 => ?_)
    · refine Seg.step (pc' := 19) (I_aload_n (i := 0) dX9_readWord_18 rfl rfl) ?_
      refine Seg.step (pc' := 22) (I_getR cls9 (by decide) wf_9_15 (hE _ _ sk_9) rfl (lk_9_1 hL) dX9_readWord_19) ?_
      refine Seg.step (pc' := 23) (I_aload_n (i := 0) dX9_readWord_22 rfl rfl) ?_
      refine Seg.step (pc' := 26) (I_getI cls9 (by decide) wf_9_43 (hE _ _ sk_9) rfl dX9_readWord_23) ?_
      refine S_gd fun h4 => ?_
      refine Seg.step (pc' := 27) (I_bald (hE _ _ sk_9_1) h4 dX9_readWord_26) ?_
      refine Seg.step (pc' := 29) (I_bipush dX9_readWord_27 (by decide) ⟨by decide, by decide⟩) ?_
      refine S_icmp_lt (tgt := 94) dX9_readWord_29 (by decide) (fun h5 => ?_) (fun h5 => ?_)
      · exact S_arr (fun K hK => GG.forget (Lle.ye (Lle.ye (Lle.no (Lle.nil)))) hK)
      refine Seg.step (pc' := 33) (I_aload_n (i := 0) dX9_readWord_32 rfl rfl) ?_
      refine Seg.step (pc' := 36) (I_getR cls9 (by decide) wf_9_15 (hE _ _ sk_9) rfl (lk_9_1 hL) dX9_readWord_33) ?_
      refine Seg.step (pc' := 37) (I_aload_n (i := 0) dX9_readWord_36 rfl rfl) ?_
      refine Seg.step (pc' := 40) (I_getI cls9 (by decide) wf_9_43 (hE _ _ sk_9) rfl dX9_readWord_37) ?_
      refine S_gd fun h6 => ?_
      refine Seg.step (pc' := 41) (I_bald (hE _ _ sk_9_1) h6 dX9_readWord_40) ?_
      refine Seg.step (pc' := 43) (I_bipush dX9_readWord_41 (by decide) ⟨by decide, by decide⟩) ?_
      refine S_icmp_gt (tgt := 94) dX9_readWord_43 (by decide) (fun h7 => ?_) (fun h7 => ?_)
      · exact S_arr (fun K hK => GG.forget (Lle.ye (Lle.ye (Lle.no (Lle.nil)))) hK)
      refine Seg.step (pc' := 47) (I_iload_n (i := 1) dX9_readWord_46 rfl rfl) ?_
      refine Seg.step (pc' := 49) (I_bipush dX9_readWord_47 (by decide) ⟨by decide, by decide⟩) ?_
      refine S_bind (Y := MM) (k' := 0) (n' := 0) 78 (fun y => [some (rV 3), some (iV x2.1), none]) (fun y => []) (fun y => (sh, ex, R, y)) ?_ (fun x11 => ?_)
      · refine S_icmp_ge (tgt := 78) dX9_readWord_49 (by decide) (fun h8 => ?_) (fun h8 => ?_)
        · refine Seg.step (pc' := 53) (I_aload_n (i := 0) dX9_readWord_52 rfl rfl) ?_
          refine Seg.step (pc' := 54) (I_aload_n (i := 0) dX9_readWord_53 rfl rfl) ?_
          refine Seg.step (pc' := 57) (I_getI cls9 (by decide) wf_9_65 (hE _ _ sk_9) rfl dX9_readWord_54) ?_
          refine Seg.step (pc' := 59) (I_bipush dX9_readWord_57 (by decide) ⟨by decide, by decide⟩) ?_
          refine Seg.step (pc' := 60) (I_imul dX9_readWord_59) ?_
          refine Seg.step (pc' := 61) (I_aload_n (i := 0) dX9_readWord_60 rfl rfl) ?_
          refine Seg.step (pc' := 64) (I_getR cls9 (by decide) wf_9_15 (hE _ _ sk_9) rfl (lk_9_1 hL) dX9_readWord_61) ?_
          refine Seg.step (pc' := 65) (I_aload_n (i := 0) dX9_readWord_64 rfl rfl) ?_
          refine Seg.step (pc' := 68) (I_getI cls9 (by decide) wf_9_43 (hE _ _ sk_9) rfl dX9_readWord_65) ?_
          refine S_gd fun h9 => ?_
          refine Seg.step (pc' := 69) (I_bald (hE _ _ sk_9_1) h9 dX9_readWord_68) ?_
          refine Seg.step (pc' := 70) (I_iadd dX9_readWord_69) ?_
          refine Seg.step (pc' := 72) (I_bipush dX9_readWord_70 (by decide) ⟨by decide, by decide⟩) ?_
          refine Seg.step (pc' := 73) (I_isub dX9_readWord_72) ?_
          refine Seg.step (pc' := 74) (I_iconst dX9_readWord_73 ⟨by decide, by decide⟩) ?_
          refine Seg.step (pc' := 75) (I_iadd dX9_readWord_74) ?_
          refine Seg.step (pc' := 78) (I_putI cls9 (by decide) wf_9_65 (hE _ _ sk_9) rfl rfl dX9_readWord_75) ?_
          refine S_bM fun M10 => ?_
          exact S_arr (fun K hK => GG.forget (Lle.ye (Lle.ye (Lle.no (Lle.nil)))) hK)
        exact S_arr (fun K hK => GG.forget (Lle.ye (Lle.ye (Lle.no (Lle.nil)))) hK)
      refine Seg.step (pc' := 81) (I_iinc dX9_readWord_78 rfl (by decide) rfl) ?_
      refine Seg.step (pc' := 82) (I_aload_n (i := 0) dX9_readWord_81 rfl rfl) ?_
      refine Seg.step (pc' := 83) (I_dup dX9_readWord_82 (fun _ h => by cases h)) ?_
      refine Seg.step (pc' := 86) (I_getI cls9 (by decide) wf_9_43 (hE _ _ sk_9) rfl dX9_readWord_83) ?_
      refine Seg.step (pc' := 87) (I_iconst dX9_readWord_86 ⟨by decide, by decide⟩) ?_
      refine Seg.step (pc' := 88) (I_iadd dX9_readWord_87) ?_
      refine Seg.step (pc' := 91) (I_putI cls9 (by decide) wf_9_43 (hE _ _ sk_9) rfl rfl dX9_readWord_88) ?_
      refine S_bM fun M12 => ?_
      refine Seg.step (pc' := 7) (I_goto (tgt := 7) dX9_readWord_91 (by decide)) ?_
      exact S_arr (fun K hK => GG.forget (Lle.ye (Lle.ye (Lle.no (Lle.nil)))) hK)
    exact S_arr (fun K hK => GG.forget (Lle.ye (Lle.ye (Lle.no (Lle.nil)))) hK)
  refine Seg.step (pc' := 95) (I_iload_n (i := 1) dX9_readWord_94 rfl rfl) ?_
  refine Seg.step (pc' := 97) (I_bipush dX9_readWord_95 (by decide) ⟨by decide, by decide⟩) ?_
  refine S_icmp_le (tgt := 106) dX9_readWord_97 (by decide) (fun h14 => ?_) (fun h14 => ?_)
  · refine Seg.step (pc' := 101) (I_aload_n (i := 0) dX9_readWord_100 rfl rfl) ?_
    refine Seg.step (pc' := 102) (I_iconst dX9_readWord_101 ⟨by decide, by decide⟩) ?_
    refine Seg.step (pc' := 105) (I_putI cls9 (by decide) wf_9_52 (hE _ _ sk_9) rfl rfl dX9_readWord_102) ?_
    refine S_bM fun M15 => ?_
    exact S_vret dX9_readWord_105 rfl (by decide) (by decide) (fun K hK => hK)
  refine Seg.step (pc' := 107) (I_aload_n (i := 0) dX9_readWord_106 rfl rfl) ?_
  refine Seg.step (pc' := 108) (I_dup dX9_readWord_107 (fun _ h => by cases h)) ?_
  refine Seg.step (pc' := 111) (I_getI cls9 (by decide) wf_9_65 (hE _ _ sk_9) rfl dX9_readWord_108) ?_
  refine Seg.step (pc' := 112) (I_iconst dX9_readWord_111 ⟨by decide, by decide⟩) ?_
  refine Seg.step (pc' := 114) (I_bipush dX9_readWord_112 (by decide) ⟨by decide, by decide⟩) ?_
  refine Seg.step (pc' := 115) (I_iload_n (i := 1) dX9_readWord_114 rfl rfl) ?_
  refine Seg.step (pc' := 116) (I_isub dX9_readWord_115) ?_
  refine Seg.step (pc' := 117) (I_imul dX9_readWord_116) ?_
  refine Seg.step (pc' := 118) (I_ishl dX9_readWord_117) ?_
  refine Seg.step (pc' := 121) (I_putI cls9 (by decide) wf_9_65 (hE _ _ sk_9) rfl rfl dX9_readWord_118) ?_
  refine S_bM fun M16 => ?_
  refine Seg.step (pc' := 122) (I_aload_n (i := 0) dX9_readWord_121 rfl rfl) ?_
  refine Seg.step (pc' := 123) (I_iconst dX9_readWord_122 ⟨by decide, by decide⟩) ?_
  refine Seg.step (pc' := 126) (I_putI cls9 (by decide) wf_9_52 (hE _ _ sk_9) rfl rfl dX9_readWord_123) ?_
  refine S_bM fun M17 => ?_
  refine Seg.step (pc' := 127) (I_iconst dX9_readWord_126 ⟨by decide, by decide⟩) ?_
  refine Seg.step (pc' := 128) (I_istore_n (i := 2) dX9_readWord_127 rfl (by decide) rfl) ?_
  refine Seg.forget (Lle.ye (Lle.no (Lle.ye (Lle.nil)))) ?_
  refine S_loop (Y := Int × MM) (fun y => [some (rV 3), none, some (iV y.1)]) (fun y => []) (fun y => (sh, ex, R, y.2)) (fun x18 => ?_) FU (0, M17)
  refine Seg.step (pc' := 129) (I_iload_n (i := 2) dX9_readWord_128 rfl rfl) ?_
  refine Seg.step (pc' := 131) (I_bipush dX9_readWord_129 (by decide) ⟨by decide, by decide⟩) ?_
  refine S_icmp_ge (tgt := 162) dX9_readWord_131 (by decide) (fun h19 => ?_) (fun h19 => ?_)
  · refine Seg.step (pc' := 135) (I_aload_n (i := 0) dX9_readWord_134 rfl rfl) ?_
    refine Seg.step (pc' := 138) (I_getR cls9 (by decide) wf_9_11 (hE _ _ sk_9) rfl (lk_9_0 hL) dX9_readWord_135) ?_
    refine Seg.step (pc' := 139) (I_iload_n (i := 2) dX9_readWord_138 rfl rfl) ?_
    refine S_gd fun h20 => ?_
    refine Seg.step (pc' := 140) (I_iald (hE _ _ sk_9_0) h20 dX9_readWord_139) ?_
    refine Seg.step (pc' := 141) (I_aload_n (i := 0) dX9_readWord_140 rfl rfl) ?_
    refine Seg.step (pc' := 144) (I_getI cls9 (by decide) wf_9_65 (hE _ _ sk_9) rfl dX9_readWord_141) ?_
    refine S_bind (Y := MM) (k' := 0) (n' := 0) 156 (fun y => [some (rV 3), none, some (iV x18.1)]) (fun y => []) (fun y => (sh, ex, R, y)) ?_ (fun x23 => ?_)
    · refine S_icmp_ne (tgt := 156) dX9_readWord_144 (by decide) (fun h21 => ?_) (fun h21 => ?_)
      · refine Seg.step (pc' := 148) (I_aload_n (i := 0) dX9_readWord_147 rfl rfl) ?_
        refine Seg.step (pc' := 151) (I_sipush dX9_readWord_148 (by decide) ⟨by decide, by decide⟩) ?_
        refine Seg.step (pc' := 152) (I_iload_n (i := 2) dX9_readWord_151 rfl rfl) ?_
        refine Seg.step (pc' := 153) (I_iadd dX9_readWord_152) ?_
        refine Seg.step (pc' := 156) (I_putI cls9 (by decide) wf_9_52 (hE _ _ sk_9) rfl rfl dX9_readWord_153) ?_
        refine S_bM fun M22 => ?_
        exact S_arr (fun K hK => GG.forget (Lle.ye (Lle.no (Lle.ye (Lle.nil)))) hK)
      exact S_arr (fun K hK => GG.forget (Lle.ye (Lle.no (Lle.ye (Lle.nil)))) hK)
    refine Seg.step (pc' := 159) (I_iinc dX9_readWord_156 rfl (by decide) rfl) ?_
    refine Seg.step (pc' := 128) (I_goto (tgt := 128) dX9_readWord_159 (by decide)) ?_
    exact S_arr (fun K hK => GG.forget (Lle.ye (Lle.no (Lle.ye (Lle.nil)))) hK)
  exact S_vret dX9_readWord_162 rfl (by decide) (by decide) (fun K hK => hK)
theorem dX9_readNumber_0 : decode cX9_readNumber 0 = .ok (.aload_n 0, 1) := by decide +kernel
theorem dX9_readNumber_1 : decode cX9_readNumber 1 = .ok (.iconst 2, 1) := by decide +kernel
theorem dX9_readNumber_2 : decode cX9_readNumber 2 = .ok (.putfield 52, 3) := by decide +kernel
theorem dX9_readNumber_5 : decode cX9_readNumber 5 = .ok (.aload_n 0, 1) := by decide +kernel
theorem dX9_readNumber_6 : decode cX9_readNumber 6 = .ok (.iconst 0, 1) := by decide +kernel
theorem dX9_readNumber_7 : decode cX9_readNumber 7 = .ok (.putfield 65, 3) := by decide +kernel
theorem dX9_readNumber_10 : decode cX9_readNumber 10 = .ok (.aload_n 0, 1) := by decide +kernel
theorem dX9_readNumber_11 : decode cX9_readNumber 11 = .ok (.getfield 43, 3) := by decide +kernel
theorem dX9_readNumber_14 : decode cX9_readNumber 14 = .ok (.aload_n 0, 1) := by decide +kernel
theorem dX9_readNumber_15 : decode cX9_readNumber 15 = .ok (.getfield 40, 3) := by decide +kernel
theorem dX9_readNumber_18 : decode cX9_readNumber 18 = .ok (.if_icmp .ge 73, 3) := by decide +kernel
theorem dX9_readNumber_21 : decode cX9_readNumber 21 = .ok (.aload_n 0, 1) := by decide +kernel
theorem dX9_readNumber_22 : decode cX9_readNumber 22 = .ok (.getfield 15, 3) := by decide +kernel
theorem dX9_readNumber_25 : decode cX9_readNumber 25 = .ok (.aload_n 0, 1) := by decide +kernel
theorem dX9_readNumber_26 : decode cX9_readNumber 26 = .ok (.getfield 43, 3) := by decide +kernel
theorem dX9_readNumber_29 : decode cX9_readNumber 29 = .ok (.baload, 1) := by decide +kernel
theorem dX9_readNumber_30 : decode cX9_readNumber 30 = .ok (.bipush 48, 2) := by decide +kernel
theorem dX9_readNumber_32 : decode cX9_readNumber 32 = .ok (.if_icmp .lt 59, 3) := by decide +kernel
theorem dX9_readNumber_35 : decode cX9_readNumber 35 = .ok (.aload_n 0, 1) := by decide +kernel
theorem dX9_readNumber_36 : decode cX9_readNumber 36 = .ok (.getfield 15, 3) := by decide +kernel
theorem dX9_readNumber_39 : decode cX9_readNumber 39 = .ok (.aload_n 0, 1) := by decide +kernel
theorem dX9_readNumber_40 : decode cX9_readNumber 40 = .ok (.getfield 43, 3) := by decide +kernel
theorem dX9_readNumber_43 : decode cX9_readNumber 43 = .ok (.baload, 1) := by decide +kernel
theorem dX9_readNumber_44 : decode cX9_readNumber 44 = .ok (.bipush 57, 2) := by decide +kernel
theorem dX9_readNumber_46 : decode cX9_readNumber 46 = .ok (.if_icmp .gt 45, 3) := by decide +kernel
theorem dX9_readNumber_49 : decode cX9_readNumber 49 = .ok (.aload_n 0, 1) := by decide +kernel
theorem dX9_readNumber_50 : decode cX9_readNumber 50 = .ok (.ldc 68, 2) := by decide +kernel
theorem dX9_readNumber_52 : decode cX9_readNumber 52 = .ok (.aload_n 0, 1) := by decide +kernel
theorem dX9_readNumber_53 : decode cX9_readNumber 53 = .ok (.getfield 65, 3) := by decide +kernel
theorem dX9_readNumber_56 : decode cX9_readNumber 56 = .ok (.bipush 10, 2) := by decide +kernel
theorem dX9_readNumber_58 : decode cX9_readNumber 58 = .ok (.imul, 1) := by decide +kernel
theorem dX9_readNumber_59 : decode cX9_readNumber 59 = .ok (.aload_n 0, 1) := by decide +kernel
theorem dX9_readNumber_60 : decode cX9_readNumber 60 = .ok (.getfield 15, 3) := by decide +kernel
theorem dX9_readNumber_63 : decode cX9_readNumber 63 = .ok (.aload_n 0, 1) := by decide +kernel
theorem dX9_readNumber_64 : decode cX9_readNumber 64 = .ok (.getfield 43, 3) := by decide +kernel
theorem dX9_readNumber_67 : decode cX9_readNumber 67 = .ok (.baload, 1) := by decide +kernel
theorem dX9_readNumber_68 : decode cX9_readNumber 68 = .ok (.iadd, 1) := by decide +kernel
theorem dX9_readNumber_69 : decode cX9_readNumber 69 = .ok (.bipush 48, 2) := by decide +kernel
theorem dX9_readNumber_71 : decode cX9_readNumber 71 = .ok (.isub, 1) := by decide +kernel
theorem dX9_readNumber_72 : decode cX9_readNumber 72 = .ok (.invokestatic 35, 3) := by decide +kernel
theorem dX9_readNumber_75 : decode cX9_readNumber 75 = .ok (.putfield 65, 3) := by decide +kernel
theorem dX9_readNumber_78 : decode cX9_readNumber 78 = .ok (.aload_n 0, 1) := by decide +kernel
theorem dX9_readNumber_79 : decode cX9_readNumber 79 = .ok (.dup, 1) := by decide +kernel
theorem dX9_readNumber_80 : decode cX9_readNumber 80 = .ok (.getfield 43, 3) := by decide +kernel
theorem dX9_readNumber_83 : decode cX9_readNumber 83 = .ok (.iconst 1, 1) := by decide +kernel
theorem dX9_readNumber_84 : decode cX9_readNumber 84 = .ok (.iadd, 1) := by decide +kernel
theorem dX9_readNumber_85 : decode cX9_readNumber 85 = .ok (.putfield 43, 3) := by decide +kernel
theorem dX9_readNumber_88 : decode cX9_readNumber 88 = .ok (.goto (-78), 3) := by decide +kernel
theorem dX9_readNumber_91 : decode cX9_readNumber 91 = .ok (.return_, 1) := by decide +kernel
def f_X9_readNumber (M : MM)  : Option (MM) :=
bM (upM M 3 4 2) fun M1 =>
bM (upM M1 3 5 0) fun M2 =>
lp (X := MM) (Y := MM) (fun x3 =>
if (x3 3 3) < (x3 3 2) then
(gd (0 ≤ x3 3 3 ∧ x3 3 3 < (700 : Int)) <|
if (x3 1 (x3 3 3).toNat) < 48 then
(some (Sum.inr x3))
else
gd (0 ≤ x3 3 3 ∧ x3 3 3 < (700 : Int)) <|
if 57 < (x3 1 (x3 3 3).toNat) then
(some (Sum.inr x3))
else
gd (0 ≤ x3 3 3 ∧ x3 3 3 < (700 : Int)) <|
bM (upM x3 3 5 (if w32 ((w32 ((w32 ((x3 3 5) * 10)) + (x3 1 (x3 3 3).toNat))) - 48) < 1000000 then w32 ((w32 ((w32 ((x3 3 5) * 10)) + (x3 1 (x3 3 3).toNat))) - 48) else 1000000)) fun M10 =>
bM (upM M10 3 3 (w32 ((M10 3 3) + 1))) fun M11 =>
some (Sum.inl M11))
else
some (Sum.inr x3)) FU M2
set_option maxRecDepth 4000 in
theorem c_X9_readNumber {E : EE} {sh : List (Nat × Nat)} {ex : Bool} {R : RM} {M : MM}  (hE : Ext sh) (hL : Links R) : ∀ y, f_X9_readNumber M = some y → MetC E m_X9_readNumber 0 0 [rV 3] (sh, ex, R, M) (fun r w' => r = none ∧ w' = (sh, ex, R, y)) := by
  intro y hy
  refine MetC.seg (o := f_X9_readNumber M) (t := (fun K y => K (none) (sh, ex, R, y))) (L := [some (rV 3)]) (by decide) rfl (Nat.le_of_ble_eq_true rfl) ?_ hy ⟨rfl, rfl⟩
  unfold f_X9_readNumber
  refine Seg.step (pc' := 1) (I_aload_n (i := 0) dX9_readNumber_0 rfl rfl) ?_
  refine Seg.step (pc' := 2) (I_iconst dX9_readNumber_1 ⟨by decide, by decide⟩) ?_
  refine Seg.step (pc' := 5) (I_putI cls9 (by decide) wf_9_52 (hE _ _ sk_9) rfl rfl dX9_readNumber_2) ?_
  refine S_bM fun M1 => ?_
  refine Seg.step (pc' := 6) (I_aload_n (i := 0) dX9_readNumber_5 rfl rfl) ?_
  refine Seg.step (pc' := 7) (I_iconst dX9_readNumber_6 ⟨by decide, by decide⟩) ?_
  refine Seg.step (pc' := 10) (I_putI cls9 (by decide) wf_9_65 (hE _ _ sk_9) rfl rfl dX9_readNumber_7) ?_
  refine S_bM fun M2 => ?_
  refine Seg.forget (Lle.ye (Lle.nil)) ?_
  refine S_loop (Y := MM) (fun y => [some (rV 3)]) (fun y => []) (fun y => (sh, ex, R, y)) (fun x3 => ?_) FU M2
  refine Seg.step (pc' := 11) (I_aload_n (i := 0) dX9_readNumber_10 rfl rfl) ?_
  refine Seg.step (pc' := 14) (I_getI cls9 (by decide) wf_9_43 (hE _ _ sk_9) rfl dX9_readNumber_11) ?_
  refine Seg.step (pc' := 15) (I_aload_n (i := 0) dX9_readNumber_14 rfl rfl) ?_
  refine Seg.step (pc' := 18) (I_getI cls9 (by decide) wf_9_40 (hE _ _ sk_9) rfl dX9_readNumber_15) ?_
  refine S_icmp_ge (tgt := 91) dX9_readNumber_18 (by decide) (fun h4 => ?_) (fun h4 => ?_)
  · refine Seg.step (pc' := 22) (I_aload_n (i := 0) dX9_readNumber_21 rfl rfl) ?_
    refine Seg.step (pc' := 25) (I_getR cls9 (by decide) wf_9_15 (hE _ _ sk_9) rfl (lk_9_1 hL) dX9_readNumber_22) ?_
    refine Seg.step (pc' := 26) (I_aload_n (i := 0) dX9_readNumber_25 rfl rfl) ?_
    refine Seg.step (pc' := 29) (I_getI cls9 (by decide) wf_9_43 (hE _ _ sk_9) rfl dX9_readNumber_26) ?_
    refine S_gd fun h5 => ?_
    refine Seg.step (pc' := 30) (I_bald (hE _ _ sk_9_1) h5 dX9_readNumber_29) ?_
    refine Seg.step (pc' := 32) (I_bipush dX9_readNumber_30 (by decide) ⟨by decide, by decide⟩) ?_
    refine S_icmp_lt (tgt := 91) dX9_readNumber_32 (by decide) (fun h6 => ?_) (fun h6 => ?_)
    · exact S_vret dX9_readNumber_91 rfl (by decide) (by decide) (fun K hK => hK)
    refine Seg.step (pc' := 36) (I_aload_n (i := 0) dX9_readNumber_35 rfl rfl) ?_
    refine Seg.step (pc' := 39) (I_getR cls9 (by decide) wf_9_15 (hE _ _ sk_9) rfl (lk_9_1 hL) dX9_readNumber_36) ?_
    refine Seg.step (pc' := 40) (I_aload_n (i := 0) dX9_readNumber_39 rfl rfl) ?_
    refine Seg.step (pc' := 43) (I_getI cls9 (by decide) wf_9_43 (hE _ _ sk_9) rfl dX9_readNumber_40) ?_
    refine S_gd fun h7 => ?_
    refine Seg.step (pc' := 44) (I_bald (hE _ _ sk_9_1) h7 dX9_readNumber_43) ?_
    refine Seg.step (pc' := 46) (I_bipush dX9_readNumber_44 (by decide) ⟨by decide, by decide⟩) ?_
    refine S_icmp_gt (tgt := 91) dX9_readNumber_46 (by decide) (fun h8 => ?_) (fun h8 => ?_)
    · exact S_vret dX9_readNumber_91 rfl (by decide) (by decide) (fun K hK => hK)
    refine Seg.step (pc' := 50) (I_aload_n (i := 0) dX9_readNumber_49 rfl rfl) ?_
    refine Seg.step (pc' := 52) (I_ldc (z := 1000000) dX9_readNumber_50 wk_9_68 ⟨by decide, by decide⟩) ?_
    refine Seg.step (pc' := 53) (I_aload_n (i := 0) dX9_readNumber_52 rfl rfl) ?_
    refine Seg.step (pc' := 56) (I_getI cls9 (by decide) wf_9_65 (hE _ _ sk_9) rfl dX9_readNumber_53) ?_
    refine Seg.step (pc' := 58) (I_bipush dX9_readNumber_56 (by decide) ⟨by decide, by decide⟩) ?_
    refine Seg.step (pc' := 59) (I_imul dX9_readNumber_58) ?_
    refine Seg.step (pc' := 60) (I_aload_n (i := 0) dX9_readNumber_59 rfl rfl) ?_
    refine Seg.step (pc' := 63) (I_getR cls9 (by decide) wf_9_15 (hE _ _ sk_9) rfl (lk_9_1 hL) dX9_readNumber_60) ?_
    refine Seg.step (pc' := 64) (I_aload_n (i := 0) dX9_readNumber_63 rfl rfl) ?_
    refine Seg.step (pc' := 67) (I_getI cls9 (by decide) wf_9_43 (hE _ _ sk_9) rfl dX9_readNumber_64) ?_
    refine S_gd fun h9 => ?_
    refine Seg.step (pc' := 68) (I_bald (hE _ _ sk_9_1) h9 dX9_readNumber_67) ?_
    refine Seg.step (pc' := 69) (I_iadd dX9_readNumber_68) ?_
    refine Seg.step (pc' := 71) (I_bipush dX9_readNumber_69 (by decide) ⟨by decide, by decide⟩) ?_
    refine Seg.step (pc' := 72) (I_isub dX9_readNumber_71) ?_
    refine Seg.step (I_mmin wm_9_35 wj_min_s wj_Math_i wj_min_c (by decide) (Nat.le_of_ble_eq_true rfl) (by decide) (by decide) dX9_readNumber_72) ?_
    refine Seg.step (pc' := 78) (I_putI cls9 (by decide) wf_9_65 (hE _ _ sk_9) rfl rfl dX9_readNumber_75) ?_
    refine S_bM fun M10 => ?_
    refine Seg.step (pc' := 79) (I_aload_n (i := 0) dX9_readNumber_78 rfl rfl) ?_
    refine Seg.step (pc' := 80) (I_dup dX9_readNumber_79 (fun _ h => by cases h)) ?_
    refine Seg.step (pc' := 83) (I_getI cls9 (by decide) wf_9_43 (hE _ _ sk_9) rfl dX9_readNumber_80) ?_
    refine Seg.step (pc' := 84) (I_iconst dX9_readNumber_83 ⟨by decide, by decide⟩) ?_
    refine Seg.step (pc' := 85) (I_iadd dX9_readNumber_84) ?_
    refine Seg.step (pc' := 88) (I_putI cls9 (by decide) wf_9_43 (hE _ _ sk_9) rfl rfl dX9_readNumber_85) ?_
    refine S_bM fun M11 => ?_
    refine Seg.step (pc' := 10) (I_goto (tgt := 10) dX9_readNumber_88 (by decide)) ?_
    exact S_arr (fun K hK => GG.forget (Lle.ye (Lle.nil)) hK)
  exact S_vret dX9_readNumber_91 rfl (by decide) (by decide) (fun K hK => hK)
theorem dX9_byteAt_0 : decode cX9_byteAt 0 = .ok (.iload_n 1, 1) := by decide +kernel
theorem dX9_byteAt_1 : decode cX9_byteAt 1 = .ok (.aload_n 0, 1) := by decide +kernel
theorem dX9_byteAt_2 : decode cX9_byteAt 2 = .ok (.getfield 40, 3) := by decide +kernel
theorem dX9_byteAt_5 : decode cX9_byteAt 5 = .ok (.if_icmp .ge 12, 3) := by decide +kernel
theorem dX9_byteAt_8 : decode cX9_byteAt 8 = .ok (.aload_n 0, 1) := by decide +kernel
theorem dX9_byteAt_9 : decode cX9_byteAt 9 = .ok (.getfield 15, 3) := by decide +kernel
theorem dX9_byteAt_12 : decode cX9_byteAt 12 = .ok (.iload_n 1, 1) := by decide +kernel
theorem dX9_byteAt_13 : decode cX9_byteAt 13 = .ok (.baload, 1) := by decide +kernel
theorem dX9_byteAt_14 : decode cX9_byteAt 14 = .ok (.goto 4, 3) := by decide +kernel
theorem dX9_byteAt_17 : decode cX9_byteAt 17 = .ok (.iconst 1, 1) := by decide +kernel
theorem dX9_byteAt_18 : decode cX9_byteAt 18 = .ok (.ireturn, 1) := by decide +kernel
def f_X9_byteAt (M : MM) (p1 : Int) : Option (Int) :=
if p1 < (M 3 2) then
(gd (0 ≤ p1 ∧ p1 < (700 : Int)) <|
some (M 1 (p1).toNat))
else
some 1
set_option maxRecDepth 4000 in
theorem c_X9_byteAt {E : EE} {sh : List (Nat × Nat)} {ex : Bool} {R : RM} {M : MM} {p1 : Int} (hE : Ext sh) (hL : Links R) : ∀ y, f_X9_byteAt M p1 = some y → MetC E m_X9_byteAt 0 0 [rV 3, iV p1] (sh, ex, R, M) (fun r w' => r = some (iV y) ∧ w' = (sh, ex, R, M)) := by
  intro y hy
  refine MetC.seg (o := f_X9_byteAt M p1) (t := (fun K y => K (some (iV y)) (sh, ex, R, M))) (L := [some (rV 3), some (iV p1)]) (by decide) rfl (Nat.le_of_ble_eq_true rfl) ?_ hy ⟨rfl, rfl⟩
  unfold f_X9_byteAt
  refine Seg.step (pc' := 1) (I_iload_n (i := 1) dX9_byteAt_0 rfl rfl) ?_
  refine Seg.step (pc' := 2) (I_aload_n (i := 0) dX9_byteAt_1 rfl rfl) ?_
  refine Seg.step (pc' := 5) (I_getI cls9 (by decide) wf_9_40 (hE _ _ sk_9) rfl dX9_byteAt_2) ?_
  refine S_icmp_ge (tgt := 17) dX9_byteAt_5 (by decide) (fun h1 => ?_) (fun h1 => ?_)
  · refine Seg.step (pc' := 9) (I_aload_n (i := 0) dX9_byteAt_8 rfl rfl) ?_
    refine Seg.step (pc' := 12) (I_getR cls9 (by decide) wf_9_15 (hE _ _ sk_9) rfl (lk_9_1 hL) dX9_byteAt_9) ?_
    refine Seg.step (pc' := 13) (I_iload_n (i := 1) dX9_byteAt_12 rfl rfl) ?_
    refine S_gd fun h2 => ?_
    refine Seg.step (pc' := 14) (I_bald (hE _ _ sk_9_1) h2 dX9_byteAt_13) ?_
    refine Seg.step (pc' := 18) (I_goto (tgt := 18) dX9_byteAt_14 (by decide)) ?_
    exact S_iret dX9_byteAt_18 rfl (by decide) (by decide) (fun K hK => hK)
  refine Seg.step (pc' := 18) (I_iconst dX9_byteAt_17 ⟨by decide, by decide⟩) ?_
  exact S_iret dX9_byteAt_18 rfl (by decide) (by decide) (fun K hK => hK)
theorem dX9_readSign_0 : decode cX9_readSign 0 = .ok (.aload_n 0, 1) := by decide +kernel
theorem dX9_readSign_1 : decode cX9_readSign 1 = .ok (.dup, 1) := by decide +kernel
theorem dX9_readSign_2 : decode cX9_readSign 2 = .ok (.getfield 43, 3) := by decide +kernel
theorem dX9_readSign_5 : decode cX9_readSign 5 = .ok (.iconst 1, 1) := by decide +kernel
theorem dX9_readSign_6 : decode cX9_readSign 6 = .ok (.iadd, 1) := by decide +kernel
theorem dX9_readSign_7 : decode cX9_readSign 7 = .ok (.putfield 43, 3) := by decide +kernel
theorem dX9_readSign_10 : decode cX9_readSign 10 = .ok (.aload_n 0, 1) := by decide +kernel
theorem dX9_readSign_11 : decode cX9_readSign 11 = .ok (.aload_n 0, 1) := by decide +kernel
theorem dX9_readSign_12 : decode cX9_readSign 12 = .ok (.getfield 43, 3) := by decide +kernel
theorem dX9_readSign_15 : decode cX9_readSign 15 = .ok (.invokevirtual 69, 3) := by decide +kernel
theorem dX9_readSign_18 : decode cX9_readSign 18 = .ok (.istore_n 2, 1) := by decide +kernel
theorem dX9_readSign_19 : decode cX9_readSign 19 = .ok (.aload_n 0, 1) := by decide +kernel
theorem dX9_readSign_20 : decode cX9_readSign 20 = .ok (.iconst 0, 1) := by decide +kernel
theorem dX9_readSign_21 : decode cX9_readSign 21 = .ok (.putfield 52, 3) := by decide +kernel
theorem dX9_readSign_24 : decode cX9_readSign 24 = .ok (.iload_n 1, 1) := by decide +kernel
theorem dX9_readSign_25 : decode cX9_readSign 25 = .ok (.tableswitch 165 40 62 #[107, 107, 107, 107, 165, 107, 165, 107, 165, 165, 165, 165, 165, 165, 165, 165, 165, 165, 165, 107, 113, 107, 145], 107) := by decide +kernel
theorem dX9_readSign_132 : decode cX9_readSign 132 = .ok (.aload_n 0, 1) := by decide +kernel
theorem dX9_readSign_133 : decode cX9_readSign 133 = .ok (.iload_n 1, 1) := by decide +kernel
theorem dX9_readSign_134 : decode cX9_readSign 134 = .ok (.putfield 52, 3) := by decide +kernel
theorem dX9_readSign_137 : decode cX9_readSign 137 = .ok (.return_, 1) := by decide +kernel
theorem dX9_readSign_138 : decode cX9_readSign 138 = .ok (.aload_n 0, 1) := by decide +kernel
theorem dX9_readSign_139 : decode cX9_readSign 139 = .ok (.iload_n 2, 1) := by decide +kernel
theorem dX9_readSign_140 : decode cX9_readSign 140 = .ok (.bipush 61, 2) := by decide +kernel
theorem dX9_readSign_142 : decode cX9_readSign 142 = .ok (.if_icmp .ne 9, 3) := by decide +kernel
theorem dX9_readSign_145 : decode cX9_readSign 145 = .ok (.sipush 256, 3) := by decide +kernel
theorem dX9_readSign_148 : decode cX9_readSign 148 = .ok (.goto 16, 3) := by decide +kernel
theorem dX9_readSign_151 : decode cX9_readSign 151 = .ok (.iload_n 2, 1) := by decide +kernel
theorem dX9_readSign_152 : decode cX9_readSign 152 = .ok (.bipush 62, 2) := by decide +kernel
theorem dX9_readSign_154 : decode cX9_readSign 154 = .ok (.if_icmp .ne 9, 3) := by decide +kernel
theorem dX9_readSign_157 : decode cX9_readSign 157 = .ok (.sipush 257, 3) := by decide +kernel
theorem dX9_readSign_160 : decode cX9_readSign 160 = .ok (.goto 4, 3) := by decide +kernel
theorem dX9_readSign_163 : decode cX9_readSign 163 = .ok (.iload_n 1, 1) := by decide +kernel
theorem dX9_readSign_164 : decode cX9_readSign 164 = .ok (.putfield 52, 3) := by decide +kernel
theorem dX9_readSign_167 : decode cX9_readSign 167 = .ok (.goto 24, 3) := by decide +kernel
theorem dX9_readSign_170 : decode cX9_readSign 170 = .ok (.aload_n 0, 1) := by decide +kernel
theorem dX9_readSign_171 : decode cX9_readSign 171 = .ok (.iload_n 2, 1) := by decide +kernel
theorem dX9_readSign_172 : decode cX9_readSign 172 = .ok (.bipush 61, 2) := by decide +kernel
theorem dX9_readSign_174 : decode cX9_readSign 174 = .ok (.if_icmp .ne 9, 3) := by decide +kernel
theorem dX9_readSign_177 : decode cX9_readSign 177 = .ok (.sipush 258, 3) := by decide +kernel
theorem dX9_readSign_180 : decode cX9_readSign 180 = .ok (.goto 4, 3) := by decide +kernel
theorem dX9_readSign_183 : decode cX9_readSign 183 = .ok (.iload_n 1, 1) := by decide +kernel
theorem dX9_readSign_184 : decode cX9_readSign 184 = .ok (.putfield 52, 3) := by decide +kernel
theorem dX9_readSign_187 : decode cX9_readSign 187 = .ok (.goto 4, 3) := by decide +kernel
theorem dX9_readSign_190 : decode cX9_readSign 190 = .ok (.return_, 1) := by decide +kernel
theorem dX9_readSign_191 : decode cX9_readSign 191 = .ok (.aload_n 0, 1) := by decide +kernel
theorem dX9_readSign_192 : decode cX9_readSign 192 = .ok (.getfield 52, 3) := by decide +kernel
theorem dX9_readSign_195 : decode cX9_readSign 195 = .ok (.iload_n 1, 1) := by decide +kernel
theorem dX9_readSign_196 : decode cX9_readSign 196 = .ok (.if_icmp .eq 13, 3) := by decide +kernel
theorem dX9_readSign_199 : decode cX9_readSign 199 = .ok (.aload_n 0, 1) := by decide +kernel
theorem dX9_readSign_200 : decode cX9_readSign 200 = .ok (.dup, 1) := by decide +kernel
theorem dX9_readSign_201 : decode cX9_readSign 201 = .ok (.getfield 43, 3) := by decide +kernel
theorem dX9_readSign_204 : decode cX9_readSign 204 = .ok (.iconst 1, 1) := by decide +kernel
theorem dX9_readSign_205 : decode cX9_readSign 205 = .ok (.iadd, 1) := by decide +kernel
theorem dX9_readSign_206 : decode cX9_readSign 206 = .ok (.putfield 43, 3) := by decide +kernel
theorem dX9_readSign_209 : decode cX9_readSign 209 = .ok (.return_, 1) := by decide +kernel
def f_X9_readSign (M : MM) (p1 : Int) : Option (MM) :=
bM (upM M 3 3 (w32 ((M 3 3) + 1))) fun M1 =>
(f_X9_byteAt M1 (M1 3 3)).bind fun x2 =>
bM (upM M1 3 4 0) fun M3 =>
bS ((if p1 = 40 then
(bM (upM M3 3 4 p1) fun M5 =>
some (Sum.inr M5))
else
if p1 = 41 then
(bM (upM M3 3 4 p1) fun M7 =>
some (Sum.inr M7))
else
if p1 = 42 then
(bM (upM M3 3 4 p1) fun M9 =>
some (Sum.inr M9))
else
if p1 = 43 then
(bM (upM M3 3 4 p1) fun M11 =>
some (Sum.inr M11))
else
if p1 = 44 then
(some (Sum.inr M3))
else
if p1 = 45 then
(bM (upM M3 3 4 p1) fun M14 =>
some (Sum.inr M14))
else
if p1 = 46 then
(some (Sum.inr M3))
else
if p1 = 47 then
(bM (upM M3 3 4 p1) fun M17 =>
some (Sum.inr M17))
else
if p1 = 48 then
(some (Sum.inr M3))
else
if p1 = 49 then
(some (Sum.inr M3))
else
if p1 = 50 then
(some (Sum.inr M3))
else
if p1 = 51 then
(some (Sum.inr M3))
else
if p1 = 52 then
(some (Sum.inr M3))
else
if p1 = 53 then
(some (Sum.inr M3))
else
if p1 = 54 then
(some (Sum.inr M3))
else
if p1 = 55 then
(some (Sum.inr M3))
else
if p1 = 56 then
(some (Sum.inr M3))
else
if p1 = 57 then
(some (Sum.inr M3))
else
if p1 = 58 then
(some (Sum.inr M3))
else
if p1 = 59 then
(bM (upM M3 3 4 p1) fun M30 =>
some (Sum.inr M30))
else
if p1 = 60 then
(((if x2 = 61 then
(some 256)
else
if x2 = 62 then
(some 257)
else
some p1) : Option (Int)).bind fun x34 =>
bM (upM M3 3 4 x34) fun M35 =>
some (Sum.inl M35))
else
if p1 = 61 then
(bM (upM M3 3 4 p1) fun M37 =>
some (Sum.inr M37))
else
if p1 = 62 then
(((if x2 = 61 then
(some 258)
else
some p1) : Option (Int)).bind fun x40 =>
bM (upM M3 3 4 x40) fun M41 =>
some (Sum.inl M41))
else
some (Sum.inr M3)) : Option ((MM) ⊕ (MM))) (fun x42 =>
if (x42 3 4) = p1 then
(some x42)
else
bM (upM x42 3 3 (w32 ((x42 3 3) + 1))) fun M44 =>
some M44) (fun r => r)
set_option maxRecDepth 4000 in
theorem c_X9_readSign {E : EE} {sh : List (Nat × Nat)} {ex : Bool} {R : RM} {M : MM} {p1 : Int} (hE : Ext sh) (hL : Links R) : ∀ y, f_X9_readSign M p1 = some y → MetC E m_X9_readSign 0 0 [rV 3, iV p1] (sh, ex, R, M) (fun r w' => r = none ∧ w' = (sh, ex, R, y)) := by
  intro y hy
  refine MetC.seg (o := f_X9_readSign M p1) (t := (fun K y => K (none) (sh, ex, R, y))) (L := [some (rV 3), some (iV p1), none]) (by decide) rfl (Nat.le_of_ble_eq_true rfl) ?_ hy ⟨rfl, rfl⟩
  unfold f_X9_readSign
  refine Seg.step (pc' := 1) (I_aload_n (i := 0) dX9_readSign_0 rfl rfl) ?_
  refine Seg.step (pc' := 2) (I_dup dX9_readSign_1 (fun _ h => by cases h)) ?_
  refine Seg.step (pc' := 5) (I_getI cls9 (by decide) wf_9_43 (hE _ _ sk_9) rfl dX9_readSign_2) ?_
  refine Seg.step (pc' := 6) (I_iconst dX9_readSign_5 ⟨by decide, by decide⟩) ?_
  refine Seg.step (pc' := 7) (I_iadd dX9_readSign_6) ?_
  refine Seg.step (pc' := 10) (I_putI cls9 (by decide) wf_9_43 (hE _ _ sk_9) rfl rfl dX9_readSign_7) ?_
  refine S_bM fun M1 => ?_
  refine Seg.step (pc' := 11) (I_aload_n (i := 0) dX9_readSign_10 rfl rfl) ?_
  refine Seg.step (pc' := 12) (I_aload_n (i := 0) dX9_readSign_11 rfl rfl) ?_
  refine Seg.step (pc' := 15) (I_getI cls9 (by decide) wf_9_43 (hE _ _ sk_9) rfl dX9_readSign_12) ?_
  refine S_callV1 (md' := m_X9_byteAt) (fun y => some (iV y)) (fun y => (sh, ex, R, M1)) (hE _ _ sk_9) ⟨by decide, rfl⟩ mm_X9_byteAt wm_9_69 ⟨rfl, rfl, by decide, by decide, by decide, by decide⟩ (Nat.le_of_ble_eq_true rfl) dX9_readSign_15 (fun y hy => c_X9_byteAt hE hL y hy) (fun x2 => ?_)
  refine Seg.step (pc' := 19) (I_istore_n (i := 2) dX9_readSign_18 rfl (by decide) rfl) ?_
  refine Seg.step (pc' := 20) (I_aload_n (i := 0) dX9_readSign_19 rfl rfl) ?_
  refine Seg.step (pc' := 21) (I_iconst dX9_readSign_20 ⟨by decide, by decide⟩) ?_
  refine Seg.step (pc' := 24) (I_putI cls9 (by decide) wf_9_52 (hE _ _ sk_9) rfl rfl dX9_readSign_21) ?_
  refine S_bM fun M3 => ?_
  refine Seg.step (pc' := 25) (I_iload_n (i := 1) dX9_readSign_24 rfl rfl) ?_
  refine S_bind2 (Y := MM) (k' := 0) (n' := 0) 191 (fun y => [some (rV 3), some (iV p1), none]) (fun y => []) (fun y => (sh, ex, R, y)) ?_ (fun x42 => ?_)
  · refine S_ite (fun h4 => ?_) (fun h4 => ?_)
    · refine Seg.step (I_tsw (v := 40) (off := 107) (tgt := 132) dX9_readSign_25 h4 (by decide) rfl (by decide)) ?_
      refine Seg.step (pc' := 133) (I_aload_n (i := 0) dX9_readSign_132 rfl rfl) ?_
      refine Seg.step (pc' := 134) (I_iload_n (i := 1) dX9_readSign_133 rfl rfl) ?_
      refine Seg.step (pc' := 137) (I_putI cls9 (by decide) wf_9_52 (hE _ _ sk_9) rfl rfl dX9_readSign_134) ?_
      refine S_bM fun M5 => ?_
      exact S_vret dX9_readSign_137 rfl (by decide) (by decide) (fun K hK => hK)
    refine S_ite (fun h6 => ?_) (fun h6 => ?_)
    · refine Seg.step (I_tsw (v := 41) (off := 107) (tgt := 132) dX9_readSign_25 h6 (by decide) rfl (by decide)) ?_
      refine Seg.step (pc' := 133) (I_aload_n (i := 0) dX9_readSign_132 rfl rfl) ?_
      refine Seg.step (pc' := 134) (I_iload_n (i := 1) dX9_readSign_133 rfl rfl) ?_
      refine Seg.step (pc' := 137) (I_putI cls9 (by decide) wf_9_52 (hE _ _ sk_9) rfl rfl dX9_readSign_134) ?_
      refine S_bM fun M7 => ?_
      exact S_vret dX9_readSign_137 rfl (by decide) (by decide) (fun K hK => hK)
    refine S_ite (fun h8 => ?_) (fun h8 => ?_)
    · refine Seg.step (I_tsw (v := 42) (off := 107) (tgt := 132) dX9_readSign_25 h8 (by decide) rfl (by decide)) ?_
      refine Seg.step (pc' := 133) (I_aload_n (i := 0) dX9_readSign_132 rfl rfl) ?_
      refine Seg.step (pc' := 134) (I_iload_n (i := 1) dX9_readSign_133 rfl rfl) ?_
      refine Seg.step (pc' := 137) (I_putI cls9 (by decide) wf_9_52 (hE _ _ sk_9) rfl rfl dX9_readSign_134) ?_
      refine S_bM fun M9 => ?_
      exact S_vret dX9_readSign_137 rfl (by decide) (by decide) (fun K hK => hK)
    refine S_ite (fun h10 => ?_) (fun h10 => ?_)
    · refine Seg.step (I_tsw (v := 43) (off := 107) (tgt := 132) dX9_readSign_25 h10 (by decide) rfl (by decide)) ?_
      refine Seg.step (pc' := 133) (I_aload_n (i := 0) dX9_readSign_132 rfl rfl) ?_
      refine Seg.step (pc' := 134) (I_iload_n (i := 1) dX9_readSign_133 rfl rfl) ?_
      refine Seg.step (pc' := 137) (I_putI cls9 (by decide) wf_9_52 (hE _ _ sk_9) rfl rfl dX9_readSign_134) ?_
      refine S_bM fun M11 => ?_
      exact S_vret dX9_readSign_137 rfl (by decide) (by decide) (fun K hK => hK)
    refine S_ite (fun h12 => ?_) (fun h12 => ?_)
    · refine Seg.step (I_tsw (v := 44) (off := 165) (tgt := 190) dX9_readSign_25 h12 (by decide) rfl (by decide)) ?_
      exact S_vret dX9_readSign_190 rfl (by decide) (by decide) (fun K hK => hK)
    refine S_ite (fun h13 => ?_) (fun h13 => ?_)
    · refine Seg.step (I_tsw (v := 45) (off := 107) (tgt := 132) dX9_readSign_25 h13 (by decide) rfl (by decide)) ?_
      refine Seg.step (pc' := 133) (I_aload_n (i := 0) dX9_readSign_132 rfl rfl) ?_
      refine Seg.step (pc' := 134) (I_iload_n (i := 1) dX9_readSign_133 rfl rfl) ?_
      refine Seg.step (pc' := 137) (I_putI cls9 (by decide) wf_9_52 (hE _ _ sk_9) rfl rfl dX9_readSign_134) ?_
      refine S_bM fun M14 => ?_
      exact S_vret dX9_readSign_137 rfl (by decide) (by decide) (fun K hK => hK)
    refine S_ite (fun h15 => ?_) (fun h15 => ?_)
    · refine Seg.step (I_tsw (v := 46) (off := 165) (tgt := 190) dX9_readSign_25 h15 (by decide) rfl (by decide)) ?_
      exact S_vret dX9_readSign_190 rfl (by decide) (by decide) (fun K hK => hK)
    refine S_ite (fun h16 => ?_) (fun h16 => ?_)
    · refine Seg.step (I_tsw (v := 47) (off := 107) (tgt := 132) dX9_readSign_25 h16 (by decide) rfl (by decide)) ?_
      refine Seg.step (pc' := 133) (I_aload_n (i := 0) dX9_readSign_132 rfl rfl) ?_
      refine Seg.step (pc' := 134) (I_iload_n (i := 1) dX9_readSign_133 rfl rfl) ?_
      refine Seg.step (pc' := 137) (I_putI cls9 (by decide) wf_9_52 (hE _ _ sk_9) rfl rfl dX9_readSign_134) ?_
      refine S_bM fun M17 => ?_
      exact S_vret dX9_readSign_137 rfl (by decide) (by decide) (fun K hK => hK)
    refine S_ite (fun h18 => ?_) (fun h18 => ?_)
    · refine Seg.step (I_tsw (v := 48) (off := 165) (tgt := 190) dX9_readSign_25 h18 (by decide) rfl (by decide)) ?_
      exact S_vret dX9_readSign_190 rfl (by decide) (by decide) (fun K hK => hK)
    refine S_ite (fun h19 => ?_) (fun h19 => ?_)
    · refine Seg.step (I_tsw (v := 49) (off := 165) (tgt := 190) dX9_readSign_25 h19 (by decide) rfl (by decide)) ?_
      exact S_vret dX9_readSign_190 rfl (by decide) (by decide) (fun K hK => hK)
    refine S_ite (fun h20 => ?_) (fun h20 => ?_)
    · refine Seg.step (I_tsw (v := 50) (off := 165) (tgt := 190) dX9_readSign_25 h20 (by decide) rfl (by decide)) ?_
      exact S_vret dX9_readSign_190 rfl (by decide) (by decide) (fun K hK => hK)
    refine S_ite (fun h21 => ?_) (fun h21 => ?_)
    · refine Seg.step (I_tsw (v := 51) (off := 165) (tgt := 190) dX9_readSign_25 h21 (by decide) rfl (by decide)) ?_
      exact S_vret dX9_readSign_190 rfl (by decide) (by decide) (fun K hK => hK)
    refine S_ite (fun h22 => ?_) (fun h22 => ?_)
    · refine Seg.step (I_tsw (v := 52) (off := 165) (tgt := 190) dX9_readSign_25 h22 (by decide) rfl (by decide)) ?_
      exact S_vret dX9_readSign_190 rfl (by decide) (by decide) (fun K hK => hK)
    refine S_ite (fun h23 => ?_) (fun h23 => ?_)
    · refine Seg.step (I_tsw (v := 53) (off := 165) (tgt := 190) dX9_readSign_25 h23 (by decide) rfl (by decide)) ?_
      exact S_vret dX9_readSign_190 rfl (by decide) (by decide) (fun K hK => hK)
    refine S_ite (fun h24 => ?_) (fun h24 => ?_)
    · refine Seg.step (I_tsw (v := 54) (off := 165) (tgt := 190) dX9_readSign_25 h24 (by decide) rfl (by decide)) ?_
      exact S_vret dX9_readSign_190 rfl (by decide) (by decide) (fun K hK => hK)
    refine S_ite (fun h25 => ?_) (fun h25 => ?_)
    · refine Seg.step (I_tsw (v := 55) (off := 165) (tgt := 190) dX9_readSign_25 h25 (by decide) rfl (by decide)) ?_
      exact S_vret dX9_readSign_190 rfl (by decide) (by decide) (fun K hK => hK)
    refine S_ite (fun h26 => ?_) (fun h26 => ?_)
    · refine Seg.step (I_tsw (v := 56) (off := 165) (tgt := 190) dX9_readSign_25 h26 (by decide) rfl (by decide)) ?_
      exact S_vret dX9_readSign_190 rfl (by decide) (by decide) (fun K hK => hK)
    refine S_ite (fun h27 => ?_) (fun h27 => ?_)
    · refine Seg.step (I_tsw (v := 57) (off := 165) (tgt := 190) dX9_readSign_25 h27 (by decide) rfl (by decide)) ?_
      exact S_vret dX9_readSign_190 rfl (by decide) (by decide) (fun K hK => hK)
    refine S_ite (fun h28 => ?_) (fun h28 => ?_)
    · refine Seg.step (I_tsw (v := 58) (off := 165) (tgt := 190) dX9_readSign_25 h28 (by decide) rfl (by decide)) ?_
      exact S_vret dX9_readSign_190 rfl (by decide) (by decide) (fun K hK => hK)
    refine S_ite (fun h29 => ?_) (fun h29 => ?_)
    · refine Seg.step (I_tsw (v := 59) (off := 107) (tgt := 132) dX9_readSign_25 h29 (by decide) rfl (by decide)) ?_
      refine Seg.step (pc' := 133) (I_aload_n (i := 0) dX9_readSign_132 rfl rfl) ?_
      refine Seg.step (pc' := 134) (I_iload_n (i := 1) dX9_readSign_133 rfl rfl) ?_
      refine Seg.step (pc' := 137) (I_putI cls9 (by decide) wf_9_52 (hE _ _ sk_9) rfl rfl dX9_readSign_134) ?_
      refine S_bM fun M30 => ?_
      exact S_vret dX9_readSign_137 rfl (by decide) (by decide) (fun K hK => hK)
    refine S_ite (fun h31 => ?_) (fun h31 => ?_)
    · refine Seg.step (I_tsw (v := 60) (off := 113) (tgt := 138) dX9_readSign_25 h31 (by decide) rfl (by decide)) ?_
      refine Seg.step (pc' := 139) (I_aload_n (i := 0) dX9_readSign_138 rfl rfl) ?_
      refine Seg.step (pc' := 140) (I_iload_n (i := 2) dX9_readSign_139 rfl rfl) ?_
      refine Seg.step (pc' := 142) (I_bipush dX9_readSign_140 (by decide) ⟨by decide, by decide⟩) ?_
      refine S_bind (Y := Int) (k' := 0) (n' := 0) 164 (fun y => [some (rV 3), some (iV p1), none]) (fun y => [iV y, rV 3]) (fun y => (sh, ex, R, M3)) ?_ (fun x34 => ?_)
      · refine S_icmp_ne (tgt := 151) dX9_readSign_142 (by decide) (fun h32 => ?_) (fun h32 => ?_)
        · refine Seg.step (pc' := 148) (I_sipush dX9_readSign_145 (by decide) ⟨by decide, by decide⟩) ?_
          refine Seg.step (pc' := 164) (I_goto (tgt := 164) dX9_readSign_148 (by decide)) ?_
          exact S_arr (fun K hK => GG.forget (Lle.ye (Lle.ye (Lle.no (Lle.nil)))) hK)
        refine Seg.step (pc' := 152) (I_iload_n (i := 2) dX9_readSign_151 rfl rfl) ?_
        refine Seg.step (pc' := 154) (I_bipush dX9_readSign_152 (by decide) ⟨by decide, by decide⟩) ?_
        refine S_icmp_ne (tgt := 163) dX9_readSign_154 (by decide) (fun h33 => ?_) (fun h33 => ?_)
        · refine Seg.step (pc' := 160) (I_sipush dX9_readSign_157 (by decide) ⟨by decide, by decide⟩) ?_
          refine Seg.step (pc' := 164) (I_goto (tgt := 164) dX9_readSign_160 (by decide)) ?_
          exact S_arr (fun K hK => GG.forget (Lle.ye (Lle.ye (Lle.no (Lle.nil)))) hK)
        refine Seg.step (pc' := 164) (I_iload_n (i := 1) dX9_readSign_163 rfl rfl) ?_
        exact S_arr (fun K hK => GG.forget (Lle.ye (Lle.ye (Lle.no (Lle.nil)))) hK)
      refine Seg.step (pc' := 167) (I_putI cls9 (by decide) wf_9_52 (hE _ _ sk_9) rfl rfl dX9_readSign_164) ?_
      refine S_bM fun M35 => ?_
      refine Seg.step (pc' := 191) (I_goto (tgt := 191) dX9_readSign_167 (by decide)) ?_
      exact S_arr (fun K hK => GG.forget (Lle.ye (Lle.ye (Lle.no (Lle.nil)))) hK)
    refine S_ite (fun h36 => ?_) (fun h36 => ?_)
    · refine Seg.step (I_tsw (v := 61) (off := 107) (tgt := 132) dX9_readSign_25 h36 (by decide) rfl (by decide)) ?_
      refine Seg.step (pc' := 133) (I_aload_n (i := 0) dX9_readSign_132 rfl rfl) ?_
      refine Seg.step (pc' := 134) (I_iload_n (i := 1) dX9_readSign_133 rfl rfl) ?_
      refine Seg.step (pc' := 137) (I_putI cls9 (by decide) wf_9_52 (hE _ _ sk_9) rfl rfl dX9_readSign_134) ?_
      refine S_bM fun M37 => ?_
      exact S_vret dX9_readSign_137 rfl (by decide) (by decide) (fun K hK => hK)
    refine S_ite (fun h38 => ?_) (fun h38 => ?_)
    · refine Seg.step (I_tsw (v := 62) (off := 145) (tgt := 170) dX9_readSign_25 h38 (by decide) rfl (by decide)) ?_
      refine Seg.step (pc' := 171) (I_aload_n (i := 0) dX9_readSign_170 rfl rfl) ?_
      refine Seg.step (pc' := 172) (I_iload_n (i := 2) dX9_readSign_171 rfl rfl) ?_
      refine Seg.step (pc' := 174) (I_bipush dX9_readSign_172 (by decide) ⟨by decide, by decide⟩) ?_
      refine S_bind (Y := Int) (k' := 0) (n' := 0) 184 (fun y => [some (rV 3), some (iV p1), none]) (fun y => [iV y, rV 3]) (fun y => (sh, ex, R, M3)) ?_ (fun x40 => ?_)
      · refine S_icmp_ne (tgt := 183) dX9_readSign_174 (by decide) (fun h39 => ?_) (fun h39 => ?_)
        · refine Seg.step (pc' := 180) (I_sipush dX9_readSign_177 (by decide) ⟨by decide, by decide⟩) ?_
          refine Seg.step (pc' := 184) (I_goto (tgt := 184) dX9_readSign_180 (by decide)) ?_
          exact S_arr (fun K hK => GG.forget (Lle.ye (Lle.ye (Lle.no (Lle.nil)))) hK)
        refine Seg.step (pc' := 184) (I_iload_n (i := 1) dX9_readSign_183 rfl rfl) ?_
        exact S_arr (fun K hK => GG.forget (Lle.ye (Lle.ye (Lle.no (Lle.nil)))) hK)
      refine Seg.step (pc' := 187) (I_putI cls9 (by decide) wf_9_52 (hE _ _ sk_9) rfl rfl dX9_readSign_184) ?_
      refine S_bM fun M41 => ?_
      refine Seg.step (pc' := 191) (I_goto (tgt := 191) dX9_readSign_187 (by decide)) ?_
      exact S_arr (fun K hK => GG.forget (Lle.ye (Lle.ye (Lle.no (Lle.nil)))) hK)
    refine Seg.step (I_tswd (tgt := 190) dX9_readSign_25 (by omega) (by decide)) ?_
    exact S_vret dX9_readSign_190 rfl (by decide) (by decide) (fun K hK => hK)
  refine Seg.step (pc' := 192) (I_aload_n (i := 0) dX9_readSign_191 rfl rfl) ?_
  refine Seg.step (pc' := 195) (I_getI cls9 (by decide) wf_9_52 (hE _ _ sk_9) rfl dX9_readSign_192) ?_
  refine Seg.step (pc' := 196) (I_iload_n (i := 1) dX9_readSign_195 rfl rfl) ?_
  refine S_icmp_eq (tgt := 209) dX9_readSign_196 (by decide) (fun h43 => ?_) (fun h43 => ?_)
  · exact S_vret dX9_readSign_209 rfl (by decide) (by decide) (fun K hK => hK)
  refine Seg.step (pc' := 200) (I_aload_n (i := 0) dX9_readSign_199 rfl rfl) ?_
  refine Seg.step (pc' := 201) (I_dup dX9_readSign_200 (fun _ h => by cases h)) ?_
  refine Seg.step (pc' := 204) (I_getI cls9 (by decide) wf_9_43 (hE _ _ sk_9) rfl dX9_readSign_201) ?_
  refine Seg.step (pc' := 205) (I_iconst dX9_readSign_204 ⟨by decide, by decide⟩) ?_
  refine Seg.step (pc' := 206) (I_iadd dX9_readSign_205) ?_
  refine Seg.step (pc' := 209) (I_putI cls9 (by decide) wf_9_43 (hE _ _ sk_9) rfl rfl dX9_readSign_206) ?_
  refine S_bM fun M44 => ?_
  exact S_vret dX9_readSign_209 rfl (by decide) (by decide) (fun K hK => hK)
theorem dX9_advance_0 : decode cX9_advance 0 = .ok (.aload_n 0, 1) := by decide +kernel
theorem dX9_advance_1 : decode cX9_advance 1 = .ok (.getfield 43, 3) := by decide +kernel
theorem dX9_advance_4 : decode cX9_advance 4 = .ok (.aload_n 0, 1) := by decide +kernel
theorem dX9_advance_5 : decode cX9_advance 5 = .ok (.getfield 40, 3) := by decide +kernel
theorem dX9_advance_8 : decode cX9_advance 8 = .ok (.if_icmp .ge 44, 3) := by decide +kernel
theorem dX9_advance_11 : decode cX9_advance 11 = .ok (.aload_n 0, 1) := by decide +kernel
theorem dX9_advance_12 : decode cX9_advance 12 = .ok (.getfield 15, 3) := by decide +kernel
theorem dX9_advance_15 : decode cX9_advance 15 = .ok (.aload_n 0, 1) := by decide +kernel
theorem dX9_advance_16 : decode cX9_advance 16 = .ok (.getfield 43, 3) := by decide +kernel
theorem dX9_advance_19 : decode cX9_advance 19 = .ok (.baload, 1) := by decide +kernel
theorem dX9_advance_20 : decode cX9_advance 20 = .ok (.bipush 32, 2) := by decide +kernel
theorem dX9_advance_22 : decode cX9_advance 22 = .ok (.if_icmp .eq 17, 3) := by decide +kernel
theorem dX9_advance_25 : decode cX9_advance 25 = .ok (.aload_n 0, 1) := by decide +kernel
theorem dX9_advance_26 : decode cX9_advance 26 = .ok (.getfield 15, 3) := by decide +kernel
theorem dX9_advance_29 : decode cX9_advance 29 = .ok (.aload_n 0, 1) := by decide +kernel
theorem dX9_advance_30 : decode cX9_advance 30 = .ok (.getfield 43, 3) := by decide +kernel
theorem dX9_advance_33 : decode cX9_advance 33 = .ok (.baload, 1) := by decide +kernel
theorem dX9_advance_34 : decode cX9_advance 34 = .ok (.bipush 10, 2) := by decide +kernel
theorem dX9_advance_36 : decode cX9_advance 36 = .ok (.if_icmp .ne 16, 3) := by decide +kernel
theorem dX9_advance_39 : decode cX9_advance 39 = .ok (.aload_n 0, 1) := by decide +kernel
theorem dX9_advance_40 : decode cX9_advance 40 = .ok (.dup, 1) := by decide +kernel
theorem dX9_advance_41 : decode cX9_advance 41 = .ok (.getfield 43, 3) := by decide +kernel
theorem dX9_advance_44 : decode cX9_advance 44 = .ok (.iconst 1, 1) := by decide +kernel
theorem dX9_advance_45 : decode cX9_advance 45 = .ok (.iadd, 1) := by decide +kernel
theorem dX9_advance_46 : decode cX9_advance 46 = .ok (.putfield 43, 3) := by decide +kernel
theorem dX9_advance_49 : decode cX9_advance 49 = .ok (.goto (-49), 3) := by decide +kernel
theorem dX9_advance_52 : decode cX9_advance 52 = .ok (.aload_n 0, 1) := by decide +kernel
theorem dX9_advance_53 : decode cX9_advance 53 = .ok (.aload_n 0, 1) := by decide +kernel
theorem dX9_advance_54 : decode cX9_advance 54 = .ok (.getfield 43, 3) := by decide +kernel
theorem dX9_advance_57 : decode cX9_advance 57 = .ok (.putfield 49, 3) := by decide +kernel
theorem dX9_advance_60 : decode cX9_advance 60 = .ok (.aload_n 0, 1) := by decide +kernel
theorem dX9_advance_61 : decode cX9_advance 61 = .ok (.getfield 43, 3) := by decide +kernel
theorem dX9_advance_64 : decode cX9_advance 64 = .ok (.aload_n 0, 1) := by decide +kernel
theorem dX9_advance_65 : decode cX9_advance 65 = .ok (.getfield 40, 3) := by decide +kernel
theorem dX9_advance_68 : decode cX9_advance 68 = .ok (.if_icmp .lt 9, 3) := by decide +kernel
theorem dX9_advance_71 : decode cX9_advance 71 = .ok (.aload_n 0, 1) := by decide +kernel
theorem dX9_advance_72 : decode cX9_advance 72 = .ok (.iconst 1, 1) := by decide +kernel
theorem dX9_advance_73 : decode cX9_advance 73 = .ok (.putfield 52, 3) := by decide +kernel
theorem dX9_advance_76 : decode cX9_advance 76 = .ok (.return_, 1) := by decide +kernel
theorem dX9_advance_77 : decode cX9_advance 77 = .ok (.aload_n 0, 1) := by decide +kernel
theorem dX9_advance_78 : decode cX9_advance 78 = .ok (.getfield 15, 3) := by decide +kernel
theorem dX9_advance_81 : decode cX9_advance 81 = .ok (.aload_n 0, 1) := by decide +kernel
theorem dX9_advance_82 : decode cX9_advance 82 = .ok (.getfield 43, 3) := by decide +kernel
theorem dX9_advance_85 : decode cX9_advance 85 = .ok (.baload, 1) := by decide +kernel
theorem dX9_advance_86 : decode cX9_advance 86 = .ok (.istore_n 1, 1) := by decide +kernel
theorem dX9_advance_87 : decode cX9_advance 87 = .ok (.iload_n 1, 1) := by decide +kernel
theorem dX9_advance_88 : decode cX9_advance 88 = .ok (.bipush 97, 2) := by decide +kernel
theorem dX9_advance_90 : decode cX9_advance 90 = .ok (.if_icmp .lt 16, 3) := by decide +kernel
theorem dX9_advance_93 : decode cX9_advance 93 = .ok (.iload_n 1, 1) := by decide +kernel
theorem dX9_advance_94 : decode cX9_advance 94 = .ok (.bipush 122, 2) := by decide +kernel
theorem dX9_advance_96 : decode cX9_advance 96 = .ok (.if_icmp .gt 10, 3) := by decide +kernel
theorem dX9_advance_99 : decode cX9_advance 99 = .ok (.aload_n 0, 1) := by decide +kernel
theorem dX9_advance_100 : decode cX9_advance 100 = .ok (.invokevirtual 55, 3) := by decide +kernel
theorem dX9_advance_103 : decode cX9_advance 103 = .ok (.goto 27, 3) := by decide +kernel
theorem dX9_advance_106 : decode cX9_advance 106 = .ok (.iload_n 1, 1) := by decide +kernel
theorem dX9_advance_107 : decode cX9_advance 107 = .ok (.bipush 48, 2) := by decide +kernel
theorem dX9_advance_109 : decode cX9_advance 109 = .ok (.if_icmp .lt 16, 3) := by decide +kernel
theorem dX9_advance_112 : decode cX9_advance 112 = .ok (.iload_n 1, 1) := by decide +kernel
theorem dX9_advance_113 : decode cX9_advance 113 = .ok (.bipush 57, 2) := by decide +kernel
theorem dX9_advance_115 : decode cX9_advance 115 = .ok (.if_icmp .gt 10, 3) := by decide +kernel
theorem dX9_advance_118 : decode cX9_advance 118 = .ok (.aload_n 0, 1) := by decide +kernel
theorem dX9_advance_119 : decode cX9_advance 119 = .ok (.invokevirtual 58, 3) := by decide +kernel
theorem dX9_advance_122 : decode cX9_advance 122 = .ok (.goto 8, 3) := by decide +kernel
theorem dX9_advance_125 : decode cX9_advance 125 = .ok (.aload_n 0, 1) := by decide +kernel
theorem dX9_advance_126 : decode cX9_advance 126 = .ok (.iload_n 1, 1) := by decide +kernel
theorem dX9_advance_127 : decode cX9_advance 127 = .ok (.invokevirtual 61, 3) := by decide +kernel
theorem dX9_advance_130 : decode cX9_advance 130 = .ok (.return_, 1) := by decide +kernel
def f_X9_advance (M : MM)  : Option (MM) :=
(lp (X := MM) (Y := MM) (fun x1 =>
if (x1 3 3) < (x1 3 2) then
(gd (0 ≤ x1 3 3 ∧ x1 3 3 < (700 : Int)) <|
if (x1 1 (x1 3 3).toNat) = 32 then
(bM (upM x1 3 3 (w32 ((x1 3 3) + 1))) fun M5 =>
some (Sum.inl M5))
else
gd (0 ≤ x1 3 3 ∧ x1 3 3 < (700 : Int)) <|
if (x1 1 (x1 3 3).toNat) = 10 then
(bM (upM x1 3 3 (w32 ((x1 3 3) + 1))) fun M8 =>
some (Sum.inl M8))
else
some (Sum.inr x1))
else
some (Sum.inr x1)) FU M).bind fun x9 =>
bM (upM x9 3 6 (x9 3 3)) fun M10 =>
if (M10 3 3) < (M10 3 2) then
(gd (0 ≤ M10 3 3 ∧ M10 3 3 < (700 : Int)) <|
bI (M10 1 (M10 3 3).toNat) fun x13 =>
bS ((if x13 < 97 then
(some (Sum.inl ()))
else
if 122 < x13 then
(some (Sum.inl ()))
else
(f_X9_readWord M10).bind fun x16 =>
some (Sum.inr x16)) : Option ((Unit) ⊕ (MM))) (fun x17 =>
bS ((if x13 < 48 then
(some (Sum.inl ()))
else
if 57 < x13 then
(some (Sum.inl ()))
else
(f_X9_readNumber M10).bind fun x20 =>
some (Sum.inr x20)) : Option ((Unit) ⊕ (MM))) (fun x21 =>
(f_X9_readSign M10 x13).bind fun x22 =>
some x22) (fun r => r)) (fun r => r))
else
bM (upM M10 3 4 1) fun M23 =>
some M23
set_option maxRecDepth 4000 in
theorem c_X9_advance {E : EE} {sh : List (Nat × Nat)} {ex : Bool} {R : RM} {M : MM}  (hE : Ext sh) (hL : Links R) : ∀ y, f_X9_advance M = some y → MetC E m_X9_advance 0 0 [rV 3] (sh, ex, R, M) (fun r w' => r = none ∧ w' = (sh, ex, R, y)) := by
  intro y hy
  refine MetC.seg (o := f_X9_advance M) (t := (fun K y => K (none) (sh, ex, R, y))) (L := [some (rV 3), none]) (by decide) rfl (Nat.le_of_ble_eq_true rfl) ?_ hy ⟨rfl, rfl⟩
  unfold f_X9_advance
  refine Seg.forget (Lle.ye (Lle.no (Lle.nil))) ?_
  refine S_bind (Y := MM) (k' := 0) (n' := 0) 52 (fun y => [some (rV 3), none]) (fun y => []) (fun y => (sh, ex, R, y)) (S_loop (Y := MM) (fun y => [some (rV 3), none]) (fun y => []) (fun y => (sh, ex, R, y)) (fun x1 => ?_) FU M) (fun x9 => ?_)
  · refine Seg.step (pc' := 1) (I_aload_n (i := 0) dX9_advance_0 rfl rfl) ?_
    refine Seg.step (pc' := 4) (I_getI cls9 (by decide) wf_9_43 (hE _ _ sk_9) rfl dX9_advance_1) ?_
    refine Seg.step (pc' := 5) (I_aload_n (i := 0) dX9_advance_4 rfl rfl) ?_
    refine Seg.step (pc' := 8) (I_getI cls9 (by decide) wf_9_40 (hE _ _ sk_9) rfl dX9_advance_5) ?_
    refine S_icmp_ge (tgt := 52) dX9_advance_8 (by decide) (fun h2 => ?_) (fun h2 => ?_)
    · refine Seg.step (pc' := 12) (I_aload_n (i := 0) dX9_advance_11 rfl rfl) ?_
      refine Seg.step (pc' := 15) (I_getR cls9 (by decide) wf_9_15 (hE _ _ sk_9) rfl (lk_9_1 hL) dX9_advance_12) ?_
      refine Seg.step (pc' := 16) (I_aload_n (i := 0) dX9_advance_15 rfl rfl) ?_
      refine Seg.step (pc' := 19) (I_getI cls9 (by decide) wf_9_43 (hE _ _ sk_9) rfl dX9_advance_16) ?_
      refine S_gd fun h3 => ?_
      refine Seg.step (pc' := 20) (I_bald (hE _ _ sk_9_1) h3 dX9_advance_19) ?_
      refine Seg.step (pc' := 22) (I_bipush dX9_advance_20 (by decide) ⟨by decide, by decide⟩) ?_
      refine S_icmp_eq (tgt := 39) dX9_advance_22 (by decide) (fun h4 => ?_) (fun h4 => ?_)
      · refine Seg.step (pc' := 40) (I_aload_n (i := 0) dX9_advance_39 rfl rfl) ?_
        refine Seg.step (pc' := 41) (I_dup dX9_advance_40 (fun _ h => by cases h)) ?_
        refine Seg.step (pc' := 44) (I_getI cls9 (by decide) wf_9_43 (hE _ _ sk_9) rfl dX9_advance_41) ?_
        refine Seg.step (pc' := 45) (I_iconst dX9_advance_44 ⟨by decide, by decide⟩) ?_
        refine Seg.step (pc' := 46) (I_iadd dX9_advance_45) ?_
        refine Seg.step (pc' := 49) (I_putI cls9 (by decide) wf_9_43 (hE _ _ sk_9) rfl rfl dX9_advance_46) ?_
        refine S_bM fun M5 => ?_
        refine Seg.step (pc' := 0) (I_goto (tgt := 0) dX9_advance_49 (by decide)) ?_
        exact S_arr (fun K hK => GG.forget (Lle.ye (Lle.no (Lle.nil))) hK)
      refine Seg.step (pc' := 26) (I_aload_n (i := 0) dX9_advance_25 rfl rfl) ?_
      refine Seg.step (pc' := 29) (I_getR cls9 (by decide) wf_9_15 (hE _ _ sk_9) rfl (lk_9_1 hL) dX9_advance_26) ?_
      refine Seg.step (pc' := 30) (I_aload_n (i := 0) dX9_advance_29 rfl rfl) ?_
      refine Seg.step (pc' := 33) (I_getI cls9 (by decide) wf_9_43 (hE _ _ sk_9) rfl dX9_advance_30) ?_
      refine S_gd fun h6 => ?_
      refine Seg.step (pc' := 34) (I_bald (hE _ _ sk_9_1) h6 dX9_advance_33) ?_
      refine Seg.step (pc' := 36) (I_bipush dX9_advance_34 (by decide) ⟨by decide, by decide⟩) ?_
      refine S_icmp_ne (tgt := 52) dX9_advance_36 (by decide) (fun h7 => ?_) (fun h7 => ?_)
      · refine Seg.step (pc' := 40) (I_aload_n (i := 0) dX9_advance_39 rfl rfl) ?_
        refine Seg.step (pc' := 41) (I_dup dX9_advance_40 (fun _ h => by cases h)) ?_
        refine Seg.step (pc' := 44) (I_getI cls9 (by decide) wf_9_43 (hE _ _ sk_9) rfl dX9_advance_41) ?_
        refine Seg.step (pc' := 45) (I_iconst dX9_advance_44 ⟨by decide, by decide⟩) ?_
        refine Seg.step (pc' := 46) (I_iadd dX9_advance_45) ?_
        refine Seg.step (pc' := 49) (I_putI cls9 (by decide) wf_9_43 (hE _ _ sk_9) rfl rfl dX9_advance_46) ?_
        refine S_bM fun M8 => ?_
        refine Seg.step (pc' := 0) (I_goto (tgt := 0) dX9_advance_49 (by decide)) ?_
        exact S_arr (fun K hK => GG.forget (Lle.ye (Lle.no (Lle.nil))) hK)
      exact S_arr (fun K hK => GG.forget (Lle.ye (Lle.no (Lle.nil))) hK)
    exact S_arr (fun K hK => GG.forget (Lle.ye (Lle.no (Lle.nil))) hK)
  refine Seg.step (pc' := 53) (I_aload_n (i := 0) dX9_advance_52 rfl rfl) ?_
  refine Seg.step (pc' := 54) (I_aload_n (i := 0) dX9_advance_53 rfl rfl) ?_
  refine Seg.step (pc' := 57) (I_getI cls9 (by decide) wf_9_43 (hE _ _ sk_9) rfl dX9_advance_54) ?_
  refine Seg.step (pc' := 60) (I_putI cls9 (by decide) wf_9_49 (hE _ _ sk_9) rfl rfl dX9_advance_57) ?_
  refine S_bM fun M10 => ?_
  refine Seg.step (pc' := 61) (I_aload_n (i := 0) dX9_advance_60 rfl rfl) ?_
  refine Seg.step (pc' := 64) (I_getI cls9 (by decide) wf_9_43 (hE _ _ sk_9) rfl dX9_advance_61) ?_
  refine Seg.step (pc' := 65) (I_aload_n (i := 0) dX9_advance_64 rfl rfl) ?_
  refine Seg.step (pc' := 68) (I_getI cls9 (by decide) wf_9_40 (hE _ _ sk_9) rfl dX9_advance_65) ?_
  refine S_icmp_lt (tgt := 77) dX9_advance_68 (by decide) (fun h11 => ?_) (fun h11 => ?_)
  · refine Seg.step (pc' := 78) (I_aload_n (i := 0) dX9_advance_77 rfl rfl) ?_
    refine Seg.step (pc' := 81) (I_getR cls9 (by decide) wf_9_15 (hE _ _ sk_9) rfl (lk_9_1 hL) dX9_advance_78) ?_
    refine Seg.step (pc' := 82) (I_aload_n (i := 0) dX9_advance_81 rfl rfl) ?_
    refine Seg.step (pc' := 85) (I_getI cls9 (by decide) wf_9_43 (hE _ _ sk_9) rfl dX9_advance_82) ?_
    refine S_gd fun h12 => ?_
    refine Seg.step (pc' := 86) (I_bald (hE _ _ sk_9_1) h12 dX9_advance_85) ?_
    refine S_bI fun x13 => ?_
    refine Seg.step (pc' := 87) (I_istore_n (i := 1) dX9_advance_86 rfl (by decide) rfl) ?_
    refine Seg.step (pc' := 88) (I_iload_n (i := 1) dX9_advance_87 rfl rfl) ?_
    refine Seg.step (pc' := 90) (I_bipush dX9_advance_88 (by decide) ⟨by decide, by decide⟩) ?_
    refine S_bind2 (Y := Unit) (k' := 0) (n' := 0) 106 (fun y => [some (rV 3), some (iV x13)]) (fun y => []) (fun y => (sh, ex, R, M10)) ?_ (fun x17 => ?_)
    · refine S_icmp_lt (tgt := 106) dX9_advance_90 (by decide) (fun h14 => ?_) (fun h14 => ?_)
      · exact S_arr (fun K hK => GG.forget (Lle.ye (Lle.ye (Lle.nil))) hK)
      refine Seg.step (pc' := 94) (I_iload_n (i := 1) dX9_advance_93 rfl rfl) ?_
      refine Seg.step (pc' := 96) (I_bipush dX9_advance_94 (by decide) ⟨by decide, by decide⟩) ?_
      refine S_icmp_gt (tgt := 106) dX9_advance_96 (by decide) (fun h15 => ?_) (fun h15 => ?_)
      · exact S_arr (fun K hK => GG.forget (Lle.ye (Lle.ye (Lle.nil))) hK)
      refine Seg.step (pc' := 100) (I_aload_n (i := 0) dX9_advance_99 rfl rfl) ?_
      refine S_callV0 (md' := m_X9_readWord) (fun y => none) (fun y => (sh, ex, R, y)) (hE _ _ sk_9) ⟨by decide, rfl⟩ mm_X9_readWord wm_9_55 ⟨rfl, rfl, by decide, by decide, by decide, by decide⟩ (Nat.le_of_ble_eq_true rfl) dX9_advance_100 (fun y hy => c_X9_readWord hE hL y hy) (fun x16 => ?_)
      refine Seg.step (pc' := 130) (I_goto (tgt := 130) dX9_advance_103 (by decide)) ?_
      exact S_vret dX9_advance_130 rfl (by decide) (by decide) (fun K hK => hK)
    refine Seg.step (pc' := 107) (I_iload_n (i := 1) dX9_advance_106 rfl rfl) ?_
    refine Seg.step (pc' := 109) (I_bipush dX9_advance_107 (by decide) ⟨by decide, by decide⟩) ?_
    refine S_bind2 (Y := Unit) (k' := 0) (n' := 0) 125 (fun y => [some (rV 3), some (iV x13)]) (fun y => []) (fun y => (sh, ex, R, M10)) ?_ (fun x21 => ?_)
    · refine S_icmp_lt (tgt := 125) dX9_advance_109 (by decide) (fun h18 => ?_) (fun h18 => ?_)
      · exact S_arr (fun K hK => GG.forget (Lle.ye (Lle.ye (Lle.nil))) hK)
      refine Seg.step (pc' := 113) (I_iload_n (i := 1) dX9_advance_112 rfl rfl) ?_
      refine Seg.step (pc' := 115) (I_bipush dX9_advance_113 (by decide) ⟨by decide, by decide⟩) ?_
      refine S_icmp_gt (tgt := 125) dX9_advance_115 (by decide) (fun h19 => ?_) (fun h19 => ?_)
      · exact S_arr (fun K hK => GG.forget (Lle.ye (Lle.ye (Lle.nil))) hK)
      refine Seg.step (pc' := 119) (I_aload_n (i := 0) dX9_advance_118 rfl rfl) ?_
      refine S_callV0 (md' := m_X9_readNumber) (fun y => none) (fun y => (sh, ex, R, y)) (hE _ _ sk_9) ⟨by decide, rfl⟩ mm_X9_readNumber wm_9_58 ⟨rfl, rfl, by decide, by decide, by decide, by decide⟩ (Nat.le_of_ble_eq_true rfl) dX9_advance_119 (fun y hy => c_X9_readNumber hE hL y hy) (fun x20 => ?_)
      refine Seg.step (pc' := 130) (I_goto (tgt := 130) dX9_advance_122 (by decide)) ?_
      exact S_vret dX9_advance_130 rfl (by decide) (by decide) (fun K hK => hK)
    refine Seg.step (pc' := 126) (I_aload_n (i := 0) dX9_advance_125 rfl rfl) ?_
    refine Seg.step (pc' := 127) (I_iload_n (i := 1) dX9_advance_126 rfl rfl) ?_
    refine S_callV1 (md' := m_X9_readSign) (fun y => none) (fun y => (sh, ex, R, y)) (hE _ _ sk_9) ⟨by decide, rfl⟩ mm_X9_readSign wm_9_61 ⟨rfl, rfl, by decide, by decide, by decide, by decide⟩ (Nat.le_of_ble_eq_true rfl) dX9_advance_127 (fun y hy => c_X9_readSign hE hL y hy) (fun x22 => ?_)
    exact S_vret dX9_advance_130 rfl (by decide) (by decide) (fun K hK => hK)
  refine Seg.step (pc' := 72) (I_aload_n (i := 0) dX9_advance_71 rfl rfl) ?_
  refine Seg.step (pc' := 73) (I_iconst dX9_advance_72 ⟨by decide, by decide⟩) ?_
  refine Seg.step (pc' := 76) (I_putI cls9 (by decide) wf_9_52 (hE _ _ sk_9) rfl rfl dX9_advance_73) ?_
  refine S_bM fun M23 => ?_
  exact S_vret dX9_advance_76 rfl (by decide) (by decide) (fun K hK => hK)
theorem dX1_readInto_0 : decode cX1_readInto 0 = .ok (.aload_n 0, 1) := by decide +kernel
theorem dX1_readInto_1 : decode cX1_readInto 1 = .ok (.iconst 0, 1) := by decide +kernel
theorem dX1_readInto_2 : decode cX1_readInto 2 = .ok (.putfield 23, 3) := by decide +kernel
theorem dX1_readInto_5 : decode cX1_readInto 5 = .ok (.aload_n 0, 1) := by decide +kernel
theorem dX1_readInto_6 : decode cX1_readInto 6 = .ok (.iconst 0, 1) := by decide +kernel
theorem dX1_readInto_7 : decode cX1_readInto 7 = .ok (.putfield 27, 3) := by decide +kernel
theorem dX1_readInto_10 : decode cX1_readInto 10 = .ok (.aload_n 0, 1) := by decide +kernel
theorem dX1_readInto_11 : decode cX1_readInto 11 = .ok (.getfield 15, 3) := by decide +kernel
theorem dX1_readInto_14 : decode cX1_readInto 14 = .ok (.iconst 0, 1) := by decide +kernel
theorem dX1_readInto_15 : decode cX1_readInto 15 = .ok (.iconst 0, 1) := by decide +kernel
theorem dX1_readInto_16 : decode cX1_readInto 16 = .ok (.bastore, 1) := by decide +kernel
theorem dX1_readInto_17 : decode cX1_readInto 17 = .ok (.aload_n 0, 1) := by decide +kernel
theorem dX1_readInto_18 : decode cX1_readInto 18 = .ok (.iconst 1, 1) := by decide +kernel
theorem dX1_readInto_19 : decode cX1_readInto 19 = .ok (.putfield 30, 3) := by decide +kernel
theorem dX1_readInto_22 : decode cX1_readInto 22 = .ok (.aload_n 0, 1) := by decide +kernel
theorem dX1_readInto_23 : decode cX1_readInto 23 = .ok (.iconst 1, 1) := by decide +kernel
theorem dX1_readInto_24 : decode cX1_readInto 24 = .ok (.putfield 34, 3) := by decide +kernel
theorem dX1_readInto_27 : decode cX1_readInto 27 = .ok (.iconst 0, 1) := by decide +kernel
theorem dX1_readInto_28 : decode cX1_readInto 28 = .ok (.istore_n 2, 1) := by decide +kernel
theorem dX1_readInto_29 : decode cX1_readInto 29 = .ok (.iload_n 2, 1) := by decide +kernel
theorem dX1_readInto_30 : decode cX1_readInto 30 = .ok (.sipush 700, 3) := by decide +kernel
theorem dX1_readInto_33 : decode cX1_readInto 33 = .ok (.if_icmp .gt 77, 3) := by decide +kernel
theorem dX1_readInto_36 : decode cX1_readInto 36 = .ok (.aload_n 0, 1) := by decide +kernel
theorem dX1_readInto_37 : decode cX1_readInto 37 = .ok (.getfield 30, 3) := by decide +kernel
theorem dX1_readInto_40 : decode cX1_readInto 40 = .ok (.ifCond .ne 30, 3) := by decide +kernel
theorem dX1_readInto_43 : decode cX1_readInto 43 = .ok (.aload_n 0, 1) := by decide +kernel
theorem dX1_readInto_44 : decode cX1_readInto 44 = .ok (.getfield 27, 3) := by decide +kernel
theorem dX1_readInto_47 : decode cX1_readInto 47 = .ok (.ifCond .ne 23, 3) := by decide +kernel
theorem dX1_readInto_50 : decode cX1_readInto 50 = .ok (.aload_n 0, 1) := by decide +kernel
theorem dX1_readInto_51 : decode cX1_readInto 51 = .ok (.getfield 19, 3) := by decide +kernel
theorem dX1_readInto_54 : decode cX1_readInto 54 = .ok (.getfield 37, 3) := by decide +kernel
theorem dX1_readInto_57 : decode cX1_readInto 57 = .ok (.bipush 59, 2) := by decide +kernel
theorem dX1_readInto_59 : decode cX1_readInto 59 = .ok (.if_icmp .ne 11, 3) := by decide +kernel
theorem dX1_readInto_62 : decode cX1_readInto 62 = .ok (.aload_n 0, 1) := by decide +kernel
theorem dX1_readInto_63 : decode cX1_readInto 63 = .ok (.aload_n 1, 1) := by decide +kernel
theorem dX1_readInto_64 : decode cX1_readInto 64 = .ok (.iconst 1, 1) := by decide +kernel
theorem dX1_readInto_65 : decode cX1_readInto 65 = .ok (.invokevirtual 42, 3) := by decide +kernel
theorem dX1_readInto_68 : decode cX1_readInto 68 = .ok (.iconst 0, 1) := by decide +kernel
theorem dX1_readInto_69 : decode cX1_readInto 69 = .ok (.ireturn, 1) := by decide +kernel
theorem dX1_readInto_70 : decode cX1_readInto 70 = .ok (.aload_n 0, 1) := by decide +kernel
theorem dX1_readInto_71 : decode cX1_readInto 71 = .ok (.getfield 30, 3) := by decide +kernel
theorem dX1_readInto_74 : decode cX1_readInto 74 = .ok (.ifCond .eq 11, 3) := by decide +kernel
theorem dX1_readInto_77 : decode cX1_readInto 77 = .ok (.aload_n 0, 1) := by decide +kernel
theorem dX1_readInto_78 : decode cX1_readInto 78 = .ok (.aload_n 1, 1) := by decide +kernel
theorem dX1_readInto_79 : decode cX1_readInto 79 = .ok (.invokevirtual 46, 3) := by decide +kernel
theorem dX1_readInto_82 : decode cX1_readInto 82 = .ok (.goto 8, 3) := by decide +kernel
theorem dX1_readInto_85 : decode cX1_readInto 85 = .ok (.aload_n 0, 1) := by decide +kernel
theorem dX1_readInto_86 : decode cX1_readInto 86 = .ok (.aload_n 1, 1) := by decide +kernel
theorem dX1_readInto_87 : decode cX1_readInto 87 = .ok (.invokevirtual 50, 3) := by decide +kernel
theorem dX1_readInto_90 : decode cX1_readInto 90 = .ok (.istore_n 3, 1) := by decide +kernel
theorem dX1_readInto_91 : decode cX1_readInto 91 = .ok (.iload_n 3, 1) := by decide +kernel
theorem dX1_readInto_92 : decode cX1_readInto 92 = .ok (.ifCond .eq 5, 3) := by decide +kernel
theorem dX1_readInto_95 : decode cX1_readInto 95 = .ok (.iload_n 3, 1) := by decide +kernel
theorem dX1_readInto_96 : decode cX1_readInto 96 = .ok (.ireturn, 1) := by decide +kernel
theorem dX1_readInto_97 : decode cX1_readInto 97 = .ok (.aload_n 0, 1) := by decide +kernel
theorem dX1_readInto_98 : decode cX1_readInto 98 = .ok (.getfield 19, 3) := by decide +kernel
theorem dX1_readInto_101 : decode cX1_readInto 101 = .ok (.invokevirtual 53, 3) := by decide +kernel
theorem dX1_readInto_104 : decode cX1_readInto 104 = .ok (.iinc 2 1, 3) := by decide +kernel
theorem dX1_readInto_107 : decode cX1_readInto 107 = .ok (.goto (-78), 3) := by decide +kernel
theorem dX1_readInto_110 : decode cX1_readInto 110 = .ok (.iconst 1, 1) := by decide +kernel
theorem dX1_readInto_111 : decode cX1_readInto 111 = .ok (.ireturn, 1) := by decide +kernel
def f_X1_readInto (M : MM) (a1 : Nat) : Option (Int × MM) :=
bM (upM M 5 3 0) fun M1 =>
bM (upM M1 5 4 0) fun M2 =>
bM (upM M2 7 0 0) fun M3 =>
bM (upM M3 5 5 1) fun M4 =>
bM (upM M4 5 6 1) fun M5 =>
bS (lp (X := Int × MM) (Y := (MM) ⊕ (Int × MM)) (fun x6 =>
if 700 < x6.1 then
(some (Sum.inr (Sum.inr (1, x6.2))))
else
if (x6.2 5 5) = 0 then
(if (x6.2 5 4) = 0 then
(if (x6.2 3 4) = 59 then
(some (Sum.inr (Sum.inl x6.2)))
else
((if (x6.2 5 5) = 0 then
((f_X1_readJoint x6.2 a1).bind fun x12 =>
some (x12.1, x12.2))
else
(f_X1_readPart x6.2 a1).bind fun x13 =>
some (x13.1, x13.2)) : Option (Int × MM)).bind fun x14 =>
if x14.1 = 0 then
((f_X9_advance x14.2).bind fun x16 =>
some (Sum.inl (w32 (x6.1 + 1), x16)))
else
some (Sum.inr (Sum.inr (x14.1, x14.2))))
else
((if (x6.2 5 5) = 0 then
((f_X1_readJoint x6.2 a1).bind fun x18 =>
some (x18.1, x18.2))
else
(f_X1_readPart x6.2 a1).bind fun x19 =>
some (x19.1, x19.2)) : Option (Int × MM)).bind fun x20 =>
if x20.1 = 0 then
((f_X9_advance x20.2).bind fun x22 =>
some (Sum.inl (w32 (x6.1 + 1), x22)))
else
some (Sum.inr (Sum.inr (x20.1, x20.2))))
else
((if (x6.2 5 5) = 0 then
((f_X1_readJoint x6.2 a1).bind fun x24 =>
some (x24.1, x24.2))
else
(f_X1_readPart x6.2 a1).bind fun x25 =>
some (x25.1, x25.2)) : Option (Int × MM)).bind fun x26 =>
if x26.1 = 0 then
((f_X9_advance x26.2).bind fun x28 =>
some (Sum.inl (w32 (x6.1 + 1), x28)))
else
some (Sum.inr (Sum.inr (x26.1, x26.2)))) FU (0, M5)) (fun x29 =>
(f_X1_release x29 a1 1).bind fun x30 =>
some (0, x30)) (fun r => r)
set_option maxRecDepth 4000 in
theorem c_X1_readInto {E : EE} {sh : List (Nat × Nat)} {ex : Bool} {R : RM} {M : MM} {a1 : Nat} (hE : Ext sh) (hL : Links R) (hs1 : SH0[a1]? = some (3, 8)) : ∀ y, f_X1_readInto M a1 = some y → MetC E m_X1_readInto 0 0 [rV 5, rV a1] (sh, ex, R, M) (fun r w' => r = some (iV y.1) ∧ w' = (sh, ex, R, y.2)) := by
  intro y hy
  refine MetC.seg (o := f_X1_readInto M a1) (t := (fun K y => K (some (iV y.1)) (sh, ex, R, y.2))) (L := [some (rV 5), some (rV a1), none, none]) (by decide) rfl (Nat.le_of_ble_eq_true rfl) ?_ hy ⟨rfl, rfl⟩
  unfold f_X1_readInto
  refine Seg.step (pc' := 1) (I_aload_n (i := 0) dX1_readInto_0 rfl rfl) ?_
  refine Seg.step (pc' := 2) (I_iconst dX1_readInto_1 ⟨by decide, by decide⟩) ?_
  refine Seg.step (pc' := 5) (I_putI cls1 (by decide) wf_1_23 (hE _ _ sk_1) rfl rfl dX1_readInto_2) ?_
  refine S_bM fun M1 => ?_
  refine Seg.step (pc' := 6) (I_aload_n (i := 0) dX1_readInto_5 rfl rfl) ?_
  refine Seg.step (pc' := 7) (I_iconst dX1_readInto_6 ⟨by decide, by decide⟩) ?_
  refine Seg.step (pc' := 10) (I_putI cls1 (by decide) wf_1_27 (hE _ _ sk_1) rfl rfl dX1_readInto_7) ?_
  refine S_bM fun M2 => ?_
  refine Seg.step (pc' := 11) (I_aload_n (i := 0) dX1_readInto_10 rfl rfl) ?_
  refine Seg.step (pc' := 14) (I_getR cls1 (by decide) wf_1_15 (hE _ _ sk_1) rfl (lk_1_2 hL) dX1_readInto_11) ?_
  refine Seg.step (pc' := 15) (I_iconst dX1_readInto_14 ⟨by decide, by decide⟩) ?_
  refine Seg.step (pc' := 16) (I_iconst dX1_readInto_15 ⟨by decide, by decide⟩) ?_
  refine Seg.step (pc' := 17) (I_zast (hE _ _ sk_1_2) ⟨by decide, by decide⟩ (by decide) dX1_readInto_16) ?_
  refine S_bM fun M3 => ?_
  refine Seg.step (pc' := 18) (I_aload_n (i := 0) dX1_readInto_17 rfl rfl) ?_
  refine Seg.step (pc' := 19) (I_iconst dX1_readInto_18 ⟨by decide, by decide⟩) ?_
  refine Seg.step (pc' := 22) (I_putZ cls1 (by decide) wf_1_30 (hE _ _ sk_1) rfl rfl (by decide) dX1_readInto_19) ?_
  refine S_bM fun M4 => ?_
  refine Seg.step (pc' := 23) (I_aload_n (i := 0) dX1_readInto_22 rfl rfl) ?_
  refine Seg.step (pc' := 24) (I_iconst dX1_readInto_23 ⟨by decide, by decide⟩) ?_
  refine Seg.step (pc' := 27) (I_putZ cls1 (by decide) wf_1_34 (hE _ _ sk_1) rfl rfl (by decide) dX1_readInto_24) ?_
  refine S_bM fun M5 => ?_
  refine Seg.step (pc' := 28) (I_iconst dX1_readInto_27 ⟨by decide, by decide⟩) ?_
  refine Seg.step (pc' := 29) (I_istore_n (i := 2) dX1_readInto_28 rfl (by decide) rfl) ?_
  refine Seg.forget (Lle.ye (Lle.ye (Lle.ye (Lle.no (Lle.nil))))) ?_
  refine S_bind2 (Y := MM) (k' := 0) (n' := 0) 62 (fun y => [some (rV 5), some (rV a1), none, none]) (fun y => []) (fun y => (sh, ex, R, y)) (S_loop (Y := Int × MM) (fun y => [some (rV 5), some (rV a1), some (iV y.1), none]) (fun y => []) (fun y => (sh, ex, R, y.2)) (fun x6 => ?_) FU (0, M5)) (fun x29 => ?_)
  · refine Seg.step (pc' := 30) (I_iload_n (i := 2) dX1_readInto_29 rfl rfl) ?_
    refine Seg.step (pc' := 33) (I_sipush dX1_readInto_30 (by decide) ⟨by decide, by decide⟩) ?_
    refine S_icmp_gt (tgt := 110) dX1_readInto_33 (by decide) (fun h7 => ?_) (fun h7 => ?_)
    · refine Seg.step (pc' := 111) (I_iconst dX1_readInto_110 ⟨by decide, by decide⟩) ?_
      exact S_iret dX1_readInto_111 rfl (by decide) (by decide) (fun K hK => hK)
    refine Seg.step (pc' := 37) (I_aload_n (i := 0) dX1_readInto_36 rfl rfl) ?_
    refine Seg.step (pc' := 40) (I_getZ cls1 (by decide) wf_1_30 (hE _ _ sk_1) rfl dX1_readInto_37) ?_
    refine S_if_ne (tgt := 70) dX1_readInto_40 (by decide) (fun h8 => ?_) (fun h8 => ?_)
    · refine Seg.step (pc' := 44) (I_aload_n (i := 0) dX1_readInto_43 rfl rfl) ?_
      refine Seg.step (pc' := 47) (I_getI cls1 (by decide) wf_1_27 (hE _ _ sk_1) rfl dX1_readInto_44) ?_
      refine S_if_ne (tgt := 70) dX1_readInto_47 (by decide) (fun h9 => ?_) (fun h9 => ?_)
      · refine Seg.step (pc' := 51) (I_aload_n (i := 0) dX1_readInto_50 rfl rfl) ?_
        refine Seg.step (pc' := 54) (I_getR cls1 (by decide) wf_1_19 (hE _ _ sk_1) rfl (lk_1_0 hL) dX1_readInto_51) ?_
        refine Seg.step (pc' := 57) (I_getI cls9 (by decide) wf_1_37 (hE _ _ sk_1_0) rfl dX1_readInto_54) ?_
        refine Seg.step (pc' := 59) (I_bipush dX1_readInto_57 (by decide) ⟨by decide, by decide⟩) ?_
        refine S_icmp_ne (tgt := 70) dX1_readInto_59 (by decide) (fun h10 => ?_) (fun h10 => ?_)
        · exact S_arr (fun K hK => GG.forget (Lle.ye (Lle.ye (Lle.no (Lle.no (Lle.nil))))) hK)
        refine Seg.step (pc' := 71) (I_aload_n (i := 0) dX1_readInto_70 rfl rfl) ?_
        refine Seg.step (pc' := 74) (I_getZ cls1 (by decide) wf_1_30 (hE _ _ sk_1) rfl dX1_readInto_71) ?_
        refine S_bind (Y := Int × MM) (k' := 0) (n' := 0) 90 (fun y => [some (rV 5), some (rV a1), some (iV x6.1), none]) (fun y => [iV y.1]) (fun y => (sh, ex, R, y.2)) ?_ (fun x14 => ?_)
        · refine S_if_eq (tgt := 85) dX1_readInto_74 (by decide) (fun h11 => ?_) (fun h11 => ?_)
          · refine Seg.step (pc' := 86) (I_aload_n (i := 0) dX1_readInto_85 rfl rfl) ?_
            refine Seg.step (pc' := 87) (I_aload_n (i := 1) dX1_readInto_86 rfl rfl) ?_
            refine S_callV1 (md' := m_X1_readJoint) (fun y => some (iV y.1)) (fun y => (sh, ex, R, y.2)) (hE _ _ sk_1) ⟨by decide, rfl⟩ mm_X1_readJoint wm_1_50 ⟨rfl, rfl, by decide, by decide, by decide, by decide⟩ (Nat.le_of_ble_eq_true rfl) dX1_readInto_87 (fun y hy => c_X1_readJoint hE hL hs1 y hy) (fun x12 => ?_)
            exact S_arr (fun K hK => GG.forget (Lle.ye (Lle.ye (Lle.ye (Lle.no (Lle.nil))))) hK)
          refine Seg.step (pc' := 78) (I_aload_n (i := 0) dX1_readInto_77 rfl rfl) ?_
          refine Seg.step (pc' := 79) (I_aload_n (i := 1) dX1_readInto_78 rfl rfl) ?_
          refine S_callV1 (md' := m_X1_readPart) (fun y => some (iV y.1)) (fun y => (sh, ex, R, y.2)) (hE _ _ sk_1) ⟨by decide, rfl⟩ mm_X1_readPart wm_1_46 ⟨rfl, rfl, by decide, by decide, by decide, by decide⟩ (Nat.le_of_ble_eq_true rfl) dX1_readInto_79 (fun y hy => c_X1_readPart hE hL hs1 y hy) (fun x13 => ?_)
          refine Seg.step (pc' := 90) (I_goto (tgt := 90) dX1_readInto_82 (by decide)) ?_
          exact S_arr (fun K hK => GG.forget (Lle.ye (Lle.ye (Lle.ye (Lle.no (Lle.nil))))) hK)
        refine Seg.step (pc' := 91) (I_istore_n (i := 3) dX1_readInto_90 rfl (by decide) rfl) ?_
        refine Seg.step (pc' := 92) (I_iload_n (i := 3) dX1_readInto_91 rfl rfl) ?_
        refine S_if_eq (tgt := 97) dX1_readInto_92 (by decide) (fun h15 => ?_) (fun h15 => ?_)
        · refine Seg.step (pc' := 98) (I_aload_n (i := 0) dX1_readInto_97 rfl rfl) ?_
          refine Seg.step (pc' := 101) (I_getR cls1 (by decide) wf_1_19 (hE _ _ sk_1) rfl (lk_1_0 hL) dX1_readInto_98) ?_
          refine S_callV0 (md' := m_X9_advance) (fun y => none) (fun y => (sh, ex, R, y)) (hE _ _ sk_1_0) ⟨by decide, rfl⟩ mm_X9_advance wm_1_53 ⟨rfl, rfl, by decide, by decide, by decide, by decide⟩ (Nat.le_of_ble_eq_true rfl) dX1_readInto_101 (fun y hy => c_X9_advance hE hL y hy) (fun x16 => ?_)
          refine Seg.step (pc' := 107) (I_iinc dX1_readInto_104 rfl (by decide) rfl) ?_
          refine Seg.step (pc' := 29) (I_goto (tgt := 29) dX1_readInto_107 (by decide)) ?_
          exact S_arr (fun K hK => GG.forget (Lle.ye (Lle.ye (Lle.ye (Lle.no (Lle.nil))))) hK)
        refine Seg.step (pc' := 96) (I_iload_n (i := 3) dX1_readInto_95 rfl rfl) ?_
        exact S_iret dX1_readInto_96 rfl (by decide) (by decide) (fun K hK => hK)
      refine Seg.step (pc' := 71) (I_aload_n (i := 0) dX1_readInto_70 rfl rfl) ?_
      refine Seg.step (pc' := 74) (I_getZ cls1 (by decide) wf_1_30 (hE _ _ sk_1) rfl dX1_readInto_71) ?_
      refine S_bind (Y := Int × MM) (k' := 0) (n' := 0) 90 (fun y => [some (rV 5), some (rV a1), some (iV x6.1), none]) (fun y => [iV y.1]) (fun y => (sh, ex, R, y.2)) ?_ (fun x20 => ?_)
      · refine S_if_eq (tgt := 85) dX1_readInto_74 (by decide) (fun h17 => ?_) (fun h17 => ?_)
        · refine Seg.step (pc' := 86) (I_aload_n (i := 0) dX1_readInto_85 rfl rfl) ?_
          refine Seg.step (pc' := 87) (I_aload_n (i := 1) dX1_readInto_86 rfl rfl) ?_
          refine S_callV1 (md' := m_X1_readJoint) (fun y => some (iV y.1)) (fun y => (sh, ex, R, y.2)) (hE _ _ sk_1) ⟨by decide, rfl⟩ mm_X1_readJoint wm_1_50 ⟨rfl, rfl, by decide, by decide, by decide, by decide⟩ (Nat.le_of_ble_eq_true rfl) dX1_readInto_87 (fun y hy => c_X1_readJoint hE hL hs1 y hy) (fun x18 => ?_)
          exact S_arr (fun K hK => GG.forget (Lle.ye (Lle.ye (Lle.ye (Lle.no (Lle.nil))))) hK)
        refine Seg.step (pc' := 78) (I_aload_n (i := 0) dX1_readInto_77 rfl rfl) ?_
        refine Seg.step (pc' := 79) (I_aload_n (i := 1) dX1_readInto_78 rfl rfl) ?_
        refine S_callV1 (md' := m_X1_readPart) (fun y => some (iV y.1)) (fun y => (sh, ex, R, y.2)) (hE _ _ sk_1) ⟨by decide, rfl⟩ mm_X1_readPart wm_1_46 ⟨rfl, rfl, by decide, by decide, by decide, by decide⟩ (Nat.le_of_ble_eq_true rfl) dX1_readInto_79 (fun y hy => c_X1_readPart hE hL hs1 y hy) (fun x19 => ?_)
        refine Seg.step (pc' := 90) (I_goto (tgt := 90) dX1_readInto_82 (by decide)) ?_
        exact S_arr (fun K hK => GG.forget (Lle.ye (Lle.ye (Lle.ye (Lle.no (Lle.nil))))) hK)
      refine Seg.step (pc' := 91) (I_istore_n (i := 3) dX1_readInto_90 rfl (by decide) rfl) ?_
      refine Seg.step (pc' := 92) (I_iload_n (i := 3) dX1_readInto_91 rfl rfl) ?_
      refine S_if_eq (tgt := 97) dX1_readInto_92 (by decide) (fun h21 => ?_) (fun h21 => ?_)
      · refine Seg.step (pc' := 98) (I_aload_n (i := 0) dX1_readInto_97 rfl rfl) ?_
        refine Seg.step (pc' := 101) (I_getR cls1 (by decide) wf_1_19 (hE _ _ sk_1) rfl (lk_1_0 hL) dX1_readInto_98) ?_
        refine S_callV0 (md' := m_X9_advance) (fun y => none) (fun y => (sh, ex, R, y)) (hE _ _ sk_1_0) ⟨by decide, rfl⟩ mm_X9_advance wm_1_53 ⟨rfl, rfl, by decide, by decide, by decide, by decide⟩ (Nat.le_of_ble_eq_true rfl) dX1_readInto_101 (fun y hy => c_X9_advance hE hL y hy) (fun x22 => ?_)
        refine Seg.step (pc' := 107) (I_iinc dX1_readInto_104 rfl (by decide) rfl) ?_
        refine Seg.step (pc' := 29) (I_goto (tgt := 29) dX1_readInto_107 (by decide)) ?_
        exact S_arr (fun K hK => GG.forget (Lle.ye (Lle.ye (Lle.ye (Lle.no (Lle.nil))))) hK)
      refine Seg.step (pc' := 96) (I_iload_n (i := 3) dX1_readInto_95 rfl rfl) ?_
      exact S_iret dX1_readInto_96 rfl (by decide) (by decide) (fun K hK => hK)
    refine Seg.step (pc' := 71) (I_aload_n (i := 0) dX1_readInto_70 rfl rfl) ?_
    refine Seg.step (pc' := 74) (I_getZ cls1 (by decide) wf_1_30 (hE _ _ sk_1) rfl dX1_readInto_71) ?_
    refine S_bind (Y := Int × MM) (k' := 0) (n' := 0) 90 (fun y => [some (rV 5), some (rV a1), some (iV x6.1), none]) (fun y => [iV y.1]) (fun y => (sh, ex, R, y.2)) ?_ (fun x26 => ?_)
    · refine S_if_eq (tgt := 85) dX1_readInto_74 (by decide) (fun h23 => ?_) (fun h23 => ?_)
      · refine Seg.step (pc' := 86) (I_aload_n (i := 0) dX1_readInto_85 rfl rfl) ?_
        refine Seg.step (pc' := 87) (I_aload_n (i := 1) dX1_readInto_86 rfl rfl) ?_
        refine S_callV1 (md' := m_X1_readJoint) (fun y => some (iV y.1)) (fun y => (sh, ex, R, y.2)) (hE _ _ sk_1) ⟨by decide, rfl⟩ mm_X1_readJoint wm_1_50 ⟨rfl, rfl, by decide, by decide, by decide, by decide⟩ (Nat.le_of_ble_eq_true rfl) dX1_readInto_87 (fun y hy => c_X1_readJoint hE hL hs1 y hy) (fun x24 => ?_)
        exact S_arr (fun K hK => GG.forget (Lle.ye (Lle.ye (Lle.ye (Lle.no (Lle.nil))))) hK)
      refine Seg.step (pc' := 78) (I_aload_n (i := 0) dX1_readInto_77 rfl rfl) ?_
      refine Seg.step (pc' := 79) (I_aload_n (i := 1) dX1_readInto_78 rfl rfl) ?_
      refine S_callV1 (md' := m_X1_readPart) (fun y => some (iV y.1)) (fun y => (sh, ex, R, y.2)) (hE _ _ sk_1) ⟨by decide, rfl⟩ mm_X1_readPart wm_1_46 ⟨rfl, rfl, by decide, by decide, by decide, by decide⟩ (Nat.le_of_ble_eq_true rfl) dX1_readInto_79 (fun y hy => c_X1_readPart hE hL hs1 y hy) (fun x25 => ?_)
      refine Seg.step (pc' := 90) (I_goto (tgt := 90) dX1_readInto_82 (by decide)) ?_
      exact S_arr (fun K hK => GG.forget (Lle.ye (Lle.ye (Lle.ye (Lle.no (Lle.nil))))) hK)
    refine Seg.step (pc' := 91) (I_istore_n (i := 3) dX1_readInto_90 rfl (by decide) rfl) ?_
    refine Seg.step (pc' := 92) (I_iload_n (i := 3) dX1_readInto_91 rfl rfl) ?_
    refine S_if_eq (tgt := 97) dX1_readInto_92 (by decide) (fun h27 => ?_) (fun h27 => ?_)
    · refine Seg.step (pc' := 98) (I_aload_n (i := 0) dX1_readInto_97 rfl rfl) ?_
      refine Seg.step (pc' := 101) (I_getR cls1 (by decide) wf_1_19 (hE _ _ sk_1) rfl (lk_1_0 hL) dX1_readInto_98) ?_
      refine S_callV0 (md' := m_X9_advance) (fun y => none) (fun y => (sh, ex, R, y)) (hE _ _ sk_1_0) ⟨by decide, rfl⟩ mm_X9_advance wm_1_53 ⟨rfl, rfl, by decide, by decide, by decide, by decide⟩ (Nat.le_of_ble_eq_true rfl) dX1_readInto_101 (fun y hy => c_X9_advance hE hL y hy) (fun x28 => ?_)
      refine Seg.step (pc' := 107) (I_iinc dX1_readInto_104 rfl (by decide) rfl) ?_
      refine Seg.step (pc' := 29) (I_goto (tgt := 29) dX1_readInto_107 (by decide)) ?_
      exact S_arr (fun K hK => GG.forget (Lle.ye (Lle.ye (Lle.ye (Lle.no (Lle.nil))))) hK)
    refine Seg.step (pc' := 96) (I_iload_n (i := 3) dX1_readInto_95 rfl rfl) ?_
    exact S_iret dX1_readInto_96 rfl (by decide) (by decide) (fun K hK => hK)
  refine Seg.step (pc' := 63) (I_aload_n (i := 0) dX1_readInto_62 rfl rfl) ?_
  refine Seg.step (pc' := 64) (I_aload_n (i := 1) dX1_readInto_63 rfl rfl) ?_
  refine Seg.step (pc' := 65) (I_iconst dX1_readInto_64 ⟨by decide, by decide⟩) ?_
  refine S_callV2 (md' := m_X1_release) (fun y => none) (fun y => (sh, ex, R, y)) (hE _ _ sk_1) ⟨by decide, rfl⟩ mm_X1_release wm_1_42 ⟨rfl, rfl, by decide, by decide, by decide, by decide⟩ (Nat.le_of_ble_eq_true rfl) dX1_readInto_65 (fun y hy => c_X1_release hE hL hs1 y hy) (fun x30 => ?_)
  refine Seg.step (pc' := 69) (I_iconst dX1_readInto_68 ⟨by decide, by decide⟩) ?_
  exact S_iret dX1_readInto_69 rfl (by decide) (by decide) (fun K hK => hK)
theorem dX3_clear_0 : decode cX3_clear 0 = .ok (.aload_n 0, 1) := by decide +kernel
theorem dX3_clear_1 : decode cX3_clear 1 = .ok (.iconst 0, 1) := by decide +kernel
theorem dX3_clear_2 : decode cX3_clear 2 = .ok (.putfield 31, 3) := by decide +kernel
theorem dX3_clear_5 : decode cX3_clear 5 = .ok (.aload_n 0, 1) := by decide +kernel
theorem dX3_clear_6 : decode cX3_clear 6 = .ok (.iconst 0, 1) := by decide +kernel
theorem dX3_clear_7 : decode cX3_clear 7 = .ok (.putfield 35, 3) := by decide +kernel
theorem dX3_clear_10 : decode cX3_clear 10 = .ok (.iconst 0, 1) := by decide +kernel
theorem dX3_clear_11 : decode cX3_clear 11 = .ok (.istore_n 1, 1) := by decide +kernel
theorem dX3_clear_12 : decode cX3_clear 12 = .ok (.iload_n 1, 1) := by decide +kernel
theorem dX3_clear_13 : decode cX3_clear 13 = .ok (.iconst 3, 1) := by decide +kernel
theorem dX3_clear_14 : decode cX3_clear 14 = .ok (.if_icmp .ge 23, 3) := by decide +kernel
theorem dX3_clear_17 : decode cX3_clear 17 = .ok (.aload_n 0, 1) := by decide +kernel
theorem dX3_clear_18 : decode cX3_clear 18 = .ok (.getfield 18, 3) := by decide +kernel
theorem dX3_clear_21 : decode cX3_clear 21 = .ok (.iload_n 1, 1) := by decide +kernel
theorem dX3_clear_22 : decode cX3_clear 22 = .ok (.iconst 0, 1) := by decide +kernel
theorem dX3_clear_23 : decode cX3_clear 23 = .ok (.iastore, 1) := by decide +kernel
theorem dX3_clear_24 : decode cX3_clear 24 = .ok (.aload_n 0, 1) := by decide +kernel
theorem dX3_clear_25 : decode cX3_clear 25 = .ok (.getfield 21, 3) := by decide +kernel
theorem dX3_clear_28 : decode cX3_clear 28 = .ok (.iload_n 1, 1) := by decide +kernel
theorem dX3_clear_29 : decode cX3_clear 29 = .ok (.iconst 0, 1) := by decide +kernel
theorem dX3_clear_30 : decode cX3_clear 30 = .ok (.iastore, 1) := by decide +kernel
theorem dX3_clear_31 : decode cX3_clear 31 = .ok (.iinc 1 1, 3) := by decide +kernel
theorem dX3_clear_34 : decode cX3_clear 34 = .ok (.goto (-22), 3) := by decide +kernel
theorem dX3_clear_37 : decode cX3_clear 37 = .ok (.return_, 1) := by decide +kernel
def f_X3_clear (M : MM) (a0 : Nat) : Option (MM) :=
bM (upM M a0 6 0) fun M1 =>
bM (upM M1 a0 7 0) fun M2 =>
lp (X := Int × MM) (Y := MM) (fun x3 =>
if x3.1 < 3 then
(gd (0 ≤ x3.1 ∧ x3.1 < (3 : Int)) <|
bM (upM x3.2 (a0 + 3) (x3.1).toNat 0) fun M6 =>
gd (0 ≤ x3.1 ∧ x3.1 < (3 : Int)) <|
bM (upM M6 (a0 + 4) (x3.1).toNat 0) fun M8 =>
some (Sum.inl (w32 (x3.1 + 1), M8)))
else
some (Sum.inr x3.2)) FU (0, M2)
set_option maxRecDepth 4000 in
theorem c_X3_clear {E : EE} {sh : List (Nat × Nat)} {ex : Bool} {R : RM} {M : MM} {a0 : Nat} (hE : Ext sh) (hL : Links R) (hs0 : SH0[a0]? = some (3, 8)) : ∀ y, f_X3_clear M a0 = some y → MetC E m_X3_clear 0 0 [rV a0] (sh, ex, R, M) (fun r w' => r = none ∧ w' = (sh, ex, R, y)) := by
  intro y hy
  refine MetC.seg (o := f_X3_clear M a0) (t := (fun K y => K (none) (sh, ex, R, y))) (L := [some (rV a0), none]) (by decide) rfl (Nat.le_of_ble_eq_true rfl) ?_ hy ⟨rfl, rfl⟩
  unfold f_X3_clear
  refine Seg.step (pc' := 1) (I_aload_n (i := 0) dX3_clear_0 rfl rfl) ?_
  refine Seg.step (pc' := 2) (I_iconst dX3_clear_1 ⟨by decide, by decide⟩) ?_
  refine Seg.step (pc' := 5) (I_putI cls3 (by decide) wf_3_31 (hE _ _ hs0) rfl rfl dX3_clear_2) ?_
  refine S_bM fun M1 => ?_
  refine Seg.step (pc' := 6) (I_aload_n (i := 0) dX3_clear_5 rfl rfl) ?_
  refine Seg.step (pc' := 7) (I_iconst dX3_clear_6 ⟨by decide, by decide⟩) ?_
  refine Seg.step (pc' := 10) (I_putI cls3 (by decide) wf_3_35 (hE _ _ hs0) rfl rfl dX3_clear_7) ?_
  refine S_bM fun M2 => ?_
  refine Seg.step (pc' := 11) (I_iconst dX3_clear_10 ⟨by decide, by decide⟩) ?_
  refine Seg.step (pc' := 12) (I_istore_n (i := 1) dX3_clear_11 rfl (by decide) rfl) ?_
  refine Seg.forget (Lle.ye (Lle.ye (Lle.nil))) ?_
  refine S_loop (Y := Int × MM) (fun y => [some (rV a0), some (iV y.1)]) (fun y => []) (fun y => (sh, ex, R, y.2)) (fun x3 => ?_) FU (0, M2)
  refine Seg.step (pc' := 13) (I_iload_n (i := 1) dX3_clear_12 rfl rfl) ?_
  refine Seg.step (pc' := 14) (I_iconst dX3_clear_13 ⟨by decide, by decide⟩) ?_
  refine S_icmp_ge (tgt := 37) dX3_clear_14 (by decide) (fun h4 => ?_) (fun h4 => ?_)
  · refine Seg.step (pc' := 18) (I_aload_n (i := 0) dX3_clear_17 rfl rfl) ?_
    refine Seg.step (pc' := 21) (I_getR cls3 (by decide) wf_3_18 (hE _ _ hs0) rfl (lk_3_2 hL hs0) dX3_clear_18) ?_
    refine Seg.step (pc' := 22) (I_iload_n (i := 1) dX3_clear_21 rfl rfl) ?_
    refine Seg.step (pc' := 23) (I_iconst dX3_clear_22 ⟨by decide, by decide⟩) ?_
    refine S_gd fun h5 => ?_
    refine Seg.step (pc' := 24) (I_iast (hE _ _ (sk_3_2 hs0)) h5 dX3_clear_23) ?_
    refine S_bM fun M6 => ?_
    refine Seg.step (pc' := 25) (I_aload_n (i := 0) dX3_clear_24 rfl rfl) ?_
    refine Seg.step (pc' := 28) (I_getR cls3 (by decide) wf_3_21 (hE _ _ hs0) rfl (lk_3_3 hL hs0) dX3_clear_25) ?_
    refine Seg.step (pc' := 29) (I_iload_n (i := 1) dX3_clear_28 rfl rfl) ?_
    refine Seg.step (pc' := 30) (I_iconst dX3_clear_29 ⟨by decide, by decide⟩) ?_
    refine S_gd fun h7 => ?_
    refine Seg.step (pc' := 31) (I_iast (hE _ _ (sk_3_3 hs0)) h7 dX3_clear_30) ?_
    refine S_bM fun M8 => ?_
    refine Seg.step (pc' := 34) (I_iinc dX3_clear_31 rfl (by decide) rfl) ?_
    refine Seg.step (pc' := 12) (I_goto (tgt := 12) dX3_clear_34 (by decide)) ?_
    exact S_arr (fun K hK => GG.forget (Lle.ye (Lle.ye (Lle.nil))) hK)
  exact S_vret dX3_clear_37 rfl (by decide) (by decide) (fun K hK => hK)
theorem dX2_clear_0 : decode cX2_clear 0 = .ok (.aload_n 0, 1) := by decide +kernel
theorem dX2_clear_1 : decode cX2_clear 1 = .ok (.getfield 12, 3) := by decide +kernel
theorem dX2_clear_4 : decode cX2_clear 4 = .ok (.iconst 0, 1) := by decide +kernel
theorem dX2_clear_5 : decode cX2_clear 5 = .ok (.putfield 52, 3) := by decide +kernel
theorem dX2_clear_8 : decode cX2_clear 8 = .ok (.aload_n 0, 1) := by decide +kernel
theorem dX2_clear_9 : decode cX2_clear 9 = .ok (.getfield 21, 3) := by decide +kernel
theorem dX2_clear_12 : decode cX2_clear 12 = .ok (.iconst 0, 1) := by decide +kernel
theorem dX2_clear_13 : decode cX2_clear 13 = .ok (.putfield 55, 3) := by decide +kernel
theorem dX2_clear_16 : decode cX2_clear 16 = .ok (.aload_n 0, 1) := by decide +kernel
theorem dX2_clear_17 : decode cX2_clear 17 = .ok (.getfield 28, 3) := by decide +kernel
theorem dX2_clear_20 : decode cX2_clear 20 = .ok (.invokevirtual 56, 3) := by decide +kernel
theorem dX2_clear_23 : decode cX2_clear 23 = .ok (.aload_n 0, 1) := by decide +kernel
theorem dX2_clear_24 : decode cX2_clear 24 = .ok (.iconst 0, 1) := by decide +kernel
theorem dX2_clear_25 : decode cX2_clear 25 = .ok (.putfield 59, 3) := by decide +kernel
theorem dX2_clear_28 : decode cX2_clear 28 = .ok (.aload_n 0, 1) := by decide +kernel
theorem dX2_clear_29 : decode cX2_clear 29 = .ok (.iconst 0, 1) := by decide +kernel
theorem dX2_clear_30 : decode cX2_clear 30 = .ok (.putfield 62, 3) := by decide +kernel
theorem dX2_clear_33 : decode cX2_clear 33 = .ok (.aload_n 0, 1) := by decide +kernel
theorem dX2_clear_34 : decode cX2_clear 34 = .ok (.bipush 20, 2) := by decide +kernel
theorem dX2_clear_36 : decode cX2_clear 36 = .ok (.putfield 45, 3) := by decide +kernel
theorem dX2_clear_39 : decode cX2_clear 39 = .ok (.aload_n 0, 1) := by decide +kernel
theorem dX2_clear_40 : decode cX2_clear 40 = .ok (.iconst 0, 1) := by decide +kernel
theorem dX2_clear_41 : decode cX2_clear 41 = .ok (.putfield 65, 3) := by decide +kernel
theorem dX2_clear_44 : decode cX2_clear 44 = .ok (.aload_n 0, 1) := by decide +kernel
theorem dX2_clear_45 : decode cX2_clear 45 = .ok (.iconst 3, 1) := by decide +kernel
theorem dX2_clear_46 : decode cX2_clear 46 = .ok (.putfield 49, 3) := by decide +kernel
theorem dX2_clear_49 : decode cX2_clear 49 = .ok (.aload_n 0, 1) := by decide +kernel
theorem dX2_clear_50 : decode cX2_clear 50 = .ok (.iconst 0, 1) := by decide +kernel
theorem dX2_clear_51 : decode cX2_clear 51 = .ok (.putfield 68, 3) := by decide +kernel
theorem dX2_clear_54 : decode cX2_clear 54 = .ok (.aload_n 0, 1) := by decide +kernel
theorem dX2_clear_55 : decode cX2_clear 55 = .ok (.iconst 0, 1) := by decide +kernel
theorem dX2_clear_56 : decode cX2_clear 56 = .ok (.putfield 72, 3) := by decide +kernel
theorem dX2_clear_59 : decode cX2_clear 59 = .ok (.aload_n 0, 1) := by decide +kernel
theorem dX2_clear_60 : decode cX2_clear 60 = .ok (.iconst 0, 1) := by decide +kernel
theorem dX2_clear_61 : decode cX2_clear 61 = .ok (.putfield 75, 3) := by decide +kernel
theorem dX2_clear_64 : decode cX2_clear 64 = .ok (.return_, 1) := by decide +kernel
def f_X2_clear (M : MM) (a0 : Nat) : Option (MM) :=
bM (upM M (a0 + 1) 0 0) fun M1 =>
bM (upM M1 (a0 + 6) 0 0) fun M2 =>
(f_X3_clear M2 (a0 + 12)).bind fun x3 =>
bM (upM x3 a0 3 0) fun M4 =>
bM (upM M4 a0 7 0) fun M5 =>
bM (upM M5 a0 9 20) fun M6 =>
bM (upM M6 a0 10 0) fun M7 =>
bM (upM M7 a0 11 3) fun M8 =>
bM (upM M8 a0 12 0) fun M9 =>
bM (upM M9 a0 13 0) fun M10 =>
bM (upM M10 a0 14 0) fun M11 =>
some M11
set_option maxRecDepth 4000 in
theorem c_X2_clear {E : EE} {sh : List (Nat × Nat)} {ex : Bool} {R : RM} {M : MM} {a0 : Nat} (hE : Ext sh) (hL : Links R) (hs0 : SH0[a0]? = some (2, 15)) : ∀ y, f_X2_clear M a0 = some y → MetC E m_X2_clear 0 0 [rV a0] (sh, ex, R, M) (fun r w' => r = none ∧ w' = (sh, ex, R, y)) := by
  intro y hy
  refine MetC.seg (o := f_X2_clear M a0) (t := (fun K y => K (none) (sh, ex, R, y))) (L := [some (rV a0)]) (by decide) rfl (Nat.le_of_ble_eq_true rfl) ?_ hy ⟨rfl, rfl⟩
  unfold f_X2_clear
  refine Seg.step (pc' := 1) (I_aload_n (i := 0) dX2_clear_0 rfl rfl) ?_
  refine Seg.step (pc' := 4) (I_getR cls2 (by decide) wf_2_12 (hE _ _ hs0) rfl (lk_2_0 hL hs0) dX2_clear_1) ?_
  refine Seg.step (pc' := 5) (I_iconst dX2_clear_4 ⟨by decide, by decide⟩) ?_
  refine Seg.step (pc' := 8) (I_putI cls8 (by decide) wf_2_52 (hE _ _ (sk_2_0 hs0)) rfl rfl dX2_clear_5) ?_
  refine S_bM fun M1 => ?_
  refine Seg.step (pc' := 9) (I_aload_n (i := 0) dX2_clear_8 rfl rfl) ?_
  refine Seg.step (pc' := 12) (I_getR cls2 (by decide) wf_2_21 (hE _ _ hs0) rfl (lk_2_1 hL hs0) dX2_clear_9) ?_
  refine Seg.step (pc' := 13) (I_iconst dX2_clear_12 ⟨by decide, by decide⟩) ?_
  refine Seg.step (pc' := 16) (I_putI cls6 (by decide) wf_2_55 (hE _ _ (sk_2_1 hs0)) rfl rfl dX2_clear_13) ?_
  refine S_bM fun M2 => ?_
  refine Seg.step (pc' := 17) (I_aload_n (i := 0) dX2_clear_16 rfl rfl) ?_
  refine Seg.step (pc' := 20) (I_getR cls2 (by decide) wf_2_28 (hE _ _ hs0) rfl (lk_2_2 hL hs0) dX2_clear_17) ?_
  refine S_callV0 (md' := m_X3_clear) (fun y => none) (fun y => (sh, ex, R, y)) (hE _ _ (sk_2_2 hs0)) ⟨by decide, rfl⟩ mm_X3_clear wm_2_56 ⟨rfl, rfl, by decide, by decide, by decide, by decide⟩ (Nat.le_of_ble_eq_true rfl) dX2_clear_20 (fun y hy => c_X3_clear hE hL (sk_2_2 hs0) y hy) (fun x3 => ?_)
  refine Seg.step (pc' := 24) (I_aload_n (i := 0) dX2_clear_23 rfl rfl) ?_
  refine Seg.step (pc' := 25) (I_iconst dX2_clear_24 ⟨by decide, by decide⟩) ?_
  refine Seg.step (pc' := 28) (I_putI cls2 (by decide) wf_2_59 (hE _ _ hs0) rfl rfl dX2_clear_25) ?_
  refine S_bM fun M4 => ?_
  refine Seg.step (pc' := 29) (I_aload_n (i := 0) dX2_clear_28 rfl rfl) ?_
  refine Seg.step (pc' := 30) (I_iconst dX2_clear_29 ⟨by decide, by decide⟩) ?_
  refine Seg.step (pc' := 33) (I_putI cls2 (by decide) wf_2_62 (hE _ _ hs0) rfl rfl dX2_clear_30) ?_
  refine S_bM fun M5 => ?_
  refine Seg.step (pc' := 34) (I_aload_n (i := 0) dX2_clear_33 rfl rfl) ?_
  refine Seg.step (pc' := 36) (I_bipush dX2_clear_34 (by decide) ⟨by decide, by decide⟩) ?_
  refine Seg.step (pc' := 39) (I_putI cls2 (by decide) wf_2_45 (hE _ _ hs0) rfl rfl dX2_clear_36) ?_
  refine S_bM fun M6 => ?_
  refine Seg.step (pc' := 40) (I_aload_n (i := 0) dX2_clear_39 rfl rfl) ?_
  refine Seg.step (pc' := 41) (I_iconst dX2_clear_40 ⟨by decide, by decide⟩) ?_
  refine Seg.step (pc' := 44) (I_putI cls2 (by decide) wf_2_65 (hE _ _ hs0) rfl rfl dX2_clear_41) ?_
  refine S_bM fun M7 => ?_
  refine Seg.step (pc' := 45) (I_aload_n (i := 0) dX2_clear_44 rfl rfl) ?_
  refine Seg.step (pc' := 46) (I_iconst dX2_clear_45 ⟨by decide, by decide⟩) ?_
  refine Seg.step (pc' := 49) (I_putI cls2 (by decide) wf_2_49 (hE _ _ hs0) rfl rfl dX2_clear_46) ?_
  refine S_bM fun M8 => ?_
  refine Seg.step (pc' := 50) (I_aload_n (i := 0) dX2_clear_49 rfl rfl) ?_
  refine Seg.step (pc' := 51) (I_iconst dX2_clear_50 ⟨by decide, by decide⟩) ?_
  refine Seg.step (pc' := 54) (I_putZ cls2 (by decide) wf_2_68 (hE _ _ hs0) rfl rfl (by decide) dX2_clear_51) ?_
  refine S_bM fun M9 => ?_
  refine Seg.step (pc' := 55) (I_aload_n (i := 0) dX2_clear_54 rfl rfl) ?_
  refine Seg.step (pc' := 56) (I_iconst dX2_clear_55 ⟨by decide, by decide⟩) ?_
  refine Seg.step (pc' := 59) (I_putZ cls2 (by decide) wf_2_72 (hE _ _ hs0) rfl rfl (by decide) dX2_clear_56) ?_
  refine S_bM fun M10 => ?_
  refine Seg.step (pc' := 60) (I_aload_n (i := 0) dX2_clear_59 rfl rfl) ?_
  refine Seg.step (pc' := 61) (I_iconst dX2_clear_60 ⟨by decide, by decide⟩) ?_
  refine Seg.step (pc' := 64) (I_putI cls2 (by decide) wf_2_75 (hE _ _ hs0) rfl rfl dX2_clear_61) ?_
  refine S_bM fun M11 => ?_
  exact S_vret dX2_clear_64 rfl (by decide) (by decide) (fun K hK => hK)
theorem dX3_isTold_0 : decode cX3_isTold 0 = .ok (.aload_n 0, 1) := by decide +kernel
theorem dX3_isTold_1 : decode cX3_isTold 1 = .ok (.getfield 21, 3) := by decide +kernel
theorem dX3_isTold_4 : decode cX3_isTold 4 = .ok (.iload_n 1, 1) := by decide +kernel
theorem dX3_isTold_5 : decode cX3_isTold 5 = .ok (.iaload, 1) := by decide +kernel
theorem dX3_isTold_6 : decode cX3_isTold 6 = .ok (.aload_n 0, 1) := by decide +kernel
theorem dX3_isTold_7 : decode cX3_isTold 7 = .ok (.getfield 18, 3) := by decide +kernel
theorem dX3_isTold_10 : decode cX3_isTold 10 = .ok (.iload_n 1, 1) := by decide +kernel
theorem dX3_isTold_11 : decode cX3_isTold 11 = .ok (.iaload, 1) := by decide +kernel
theorem dX3_isTold_12 : decode cX3_isTold 12 = .ok (.if_icmp .le 7, 3) := by decide +kernel
theorem dX3_isTold_15 : decode cX3_isTold 15 = .ok (.iconst 1, 1) := by decide +kernel
theorem dX3_isTold_16 : decode cX3_isTold 16 = .ok (.goto 4, 3) := by decide +kernel
theorem dX3_isTold_19 : decode cX3_isTold 19 = .ok (.iconst 0, 1) := by decide +kernel
theorem dX3_isTold_20 : decode cX3_isTold 20 = .ok (.ireturn, 1) := by decide +kernel
def f_X3_isTold (M : MM) (a0 : Nat) (p1 : Int) : Option (Int) :=
gd (0 ≤ p1 ∧ p1 < (3 : Int)) <|
gd (0 ≤ p1 ∧ p1 < (3 : Int)) <|
if (M (a0 + 3) (p1).toNat) < (M (a0 + 4) (p1).toNat) then
(some 1)
else
some 0
set_option maxRecDepth 4000 in
theorem c_X3_isTold {E : EE} {sh : List (Nat × Nat)} {ex : Bool} {R : RM} {M : MM} {a0 : Nat} {p1 : Int} (hE : Ext sh) (hL : Links R) (hs0 : SH0[a0]? = some (3, 8)) : ∀ y, f_X3_isTold M a0 p1 = some y → MetC E m_X3_isTold 0 0 [rV a0, iV p1] (sh, ex, R, M) (fun r w' => r = some (iV y) ∧ w' = (sh, ex, R, M)) := by
  intro y hy
  refine MetC.seg (o := f_X3_isTold M a0 p1) (t := (fun K y => K (some (iV y)) (sh, ex, R, M))) (L := [some (rV a0), some (iV p1)]) (by decide) rfl (Nat.le_of_ble_eq_true rfl) ?_ hy ⟨rfl, rfl⟩
  unfold f_X3_isTold
  refine Seg.step (pc' := 1) (I_aload_n (i := 0) dX3_isTold_0 rfl rfl) ?_
  refine Seg.step (pc' := 4) (I_getR cls3 (by decide) wf_3_21 (hE _ _ hs0) rfl (lk_3_3 hL hs0) dX3_isTold_1) ?_
  refine Seg.step (pc' := 5) (I_iload_n (i := 1) dX3_isTold_4 rfl rfl) ?_
  refine S_gd fun h1 => ?_
  refine Seg.step (pc' := 6) (I_iald (hE _ _ (sk_3_3 hs0)) h1 dX3_isTold_5) ?_
  refine Seg.step (pc' := 7) (I_aload_n (i := 0) dX3_isTold_6 rfl rfl) ?_
  refine Seg.step (pc' := 10) (I_getR cls3 (by decide) wf_3_18 (hE _ _ hs0) rfl (lk_3_2 hL hs0) dX3_isTold_7) ?_
  refine Seg.step (pc' := 11) (I_iload_n (i := 1) dX3_isTold_10 rfl rfl) ?_
  refine S_gd fun h2 => ?_
  refine Seg.step (pc' := 12) (I_iald (hE _ _ (sk_3_2 hs0)) h2 dX3_isTold_11) ?_
  refine S_icmp_le (tgt := 19) dX3_isTold_12 (by decide) (fun h3 => ?_) (fun h3 => ?_)
  · refine Seg.step (pc' := 16) (I_iconst dX3_isTold_15 ⟨by decide, by decide⟩) ?_
    refine Seg.step (pc' := 20) (I_goto (tgt := 20) dX3_isTold_16 (by decide)) ?_
    exact S_zret dX3_isTold_20 rfl (by decide) (by decide) (by decide) (fun K hK => hK)
  refine Seg.step (pc' := 20) (I_iconst dX3_isTold_19 ⟨by decide, by decide⟩) ?_
  exact S_zret dX3_isTold_20 rfl (by decide) (by decide) (by decide) (fun K hK => hK)
theorem dX3_begin_0 : decode cX3_begin 0 = .ok (.aload_n 0, 1) := by decide +kernel
theorem dX3_begin_1 : decode cX3_begin 1 = .ok (.getfield 18, 3) := by decide +kernel
theorem dX3_begin_4 : decode cX3_begin 4 = .ok (.iload_n 1, 1) := by decide +kernel
theorem dX3_begin_5 : decode cX3_begin 5 = .ok (.aload_n 0, 1) := by decide +kernel
theorem dX3_begin_6 : decode cX3_begin 6 = .ok (.getfield 31, 3) := by decide +kernel
theorem dX3_begin_9 : decode cX3_begin 9 = .ok (.iastore, 1) := by decide +kernel
theorem dX3_begin_10 : decode cX3_begin 10 = .ok (.aload_n 0, 1) := by decide +kernel
theorem dX3_begin_11 : decode cX3_begin 11 = .ok (.getfield 21, 3) := by decide +kernel
theorem dX3_begin_14 : decode cX3_begin 14 = .ok (.iload_n 1, 1) := by decide +kernel
theorem dX3_begin_15 : decode cX3_begin 15 = .ok (.aload_n 0, 1) := by decide +kernel
theorem dX3_begin_16 : decode cX3_begin 16 = .ok (.getfield 31, 3) := by decide +kernel
theorem dX3_begin_19 : decode cX3_begin 19 = .ok (.iastore, 1) := by decide +kernel
theorem dX3_begin_20 : decode cX3_begin 20 = .ok (.return_, 1) := by decide +kernel
def f_X3_begin (M : MM) (a0 : Nat) (p1 : Int) : Option (MM) :=
gd (0 ≤ p1 ∧ p1 < (3 : Int)) <|
bM (upM M (a0 + 3) (p1).toNat (M a0 6)) fun M2 =>
gd (0 ≤ p1 ∧ p1 < (3 : Int)) <|
bM (upM M2 (a0 + 4) (p1).toNat (M2 a0 6)) fun M4 =>
some M4
set_option maxRecDepth 4000 in
theorem c_X3_begin {E : EE} {sh : List (Nat × Nat)} {ex : Bool} {R : RM} {M : MM} {a0 : Nat} {p1 : Int} (hE : Ext sh) (hL : Links R) (hs0 : SH0[a0]? = some (3, 8)) : ∀ y, f_X3_begin M a0 p1 = some y → MetC E m_X3_begin 0 0 [rV a0, iV p1] (sh, ex, R, M) (fun r w' => r = none ∧ w' = (sh, ex, R, y)) := by
  intro y hy
  refine MetC.seg (o := f_X3_begin M a0 p1) (t := (fun K y => K (none) (sh, ex, R, y))) (L := [some (rV a0), some (iV p1)]) (by decide) rfl (Nat.le_of_ble_eq_true rfl) ?_ hy ⟨rfl, rfl⟩
  unfold f_X3_begin
  refine Seg.step (pc' := 1) (I_aload_n (i := 0) dX3_begin_0 rfl rfl) ?_
  refine Seg.step (pc' := 4) (I_getR cls3 (by decide) wf_3_18 (hE _ _ hs0) rfl (lk_3_2 hL hs0) dX3_begin_1) ?_
  refine Seg.step (pc' := 5) (I_iload_n (i := 1) dX3_begin_4 rfl rfl) ?_
  refine Seg.step (pc' := 6) (I_aload_n (i := 0) dX3_begin_5 rfl rfl) ?_
  refine Seg.step (pc' := 9) (I_getI cls3 (by decide) wf_3_31 (hE _ _ hs0) rfl dX3_begin_6) ?_
  refine S_gd fun h1 => ?_
  refine Seg.step (pc' := 10) (I_iast (hE _ _ (sk_3_2 hs0)) h1 dX3_begin_9) ?_
  refine S_bM fun M2 => ?_
  refine Seg.step (pc' := 11) (I_aload_n (i := 0) dX3_begin_10 rfl rfl) ?_
  refine Seg.step (pc' := 14) (I_getR cls3 (by decide) wf_3_21 (hE _ _ hs0) rfl (lk_3_3 hL hs0) dX3_begin_11) ?_
  refine Seg.step (pc' := 15) (I_iload_n (i := 1) dX3_begin_14 rfl rfl) ?_
  refine Seg.step (pc' := 16) (I_aload_n (i := 0) dX3_begin_15 rfl rfl) ?_
  refine Seg.step (pc' := 19) (I_getI cls3 (by decide) wf_3_31 (hE _ _ hs0) rfl dX3_begin_16) ?_
  refine S_gd fun h3 => ?_
  refine Seg.step (pc' := 20) (I_iast (hE _ _ (sk_3_3 hs0)) h3 dX3_begin_19) ?_
  refine S_bM fun M4 => ?_
  exact S_vret dX3_begin_20 rfl (by decide) (by decide) (fun K hK => hK)
theorem dX3_end_0 : decode cX3_end 0 = .ok (.aload_n 0, 1) := by decide +kernel
theorem dX3_end_1 : decode cX3_end 1 = .ok (.getfield 21, 3) := by decide +kernel
theorem dX3_end_4 : decode cX3_end 4 = .ok (.iload_n 1, 1) := by decide +kernel
theorem dX3_end_5 : decode cX3_end 5 = .ok (.aload_n 0, 1) := by decide +kernel
theorem dX3_end_6 : decode cX3_end 6 = .ok (.getfield 31, 3) := by decide +kernel
theorem dX3_end_9 : decode cX3_end 9 = .ok (.iastore, 1) := by decide +kernel
theorem dX3_end_10 : decode cX3_end 10 = .ok (.return_, 1) := by decide +kernel
def f_X3_end (M : MM) (a0 : Nat) (p1 : Int) : Option (MM) :=
gd (0 ≤ p1 ∧ p1 < (3 : Int)) <|
bM (upM M (a0 + 4) (p1).toNat (M a0 6)) fun M2 =>
some M2
set_option maxRecDepth 4000 in
theorem c_X3_end {E : EE} {sh : List (Nat × Nat)} {ex : Bool} {R : RM} {M : MM} {a0 : Nat} {p1 : Int} (hE : Ext sh) (hL : Links R) (hs0 : SH0[a0]? = some (3, 8)) : ∀ y, f_X3_end M a0 p1 = some y → MetC E m_X3_end 0 0 [rV a0, iV p1] (sh, ex, R, M) (fun r w' => r = none ∧ w' = (sh, ex, R, y)) := by
  intro y hy
  refine MetC.seg (o := f_X3_end M a0 p1) (t := (fun K y => K (none) (sh, ex, R, y))) (L := [some (rV a0), some (iV p1)]) (by decide) rfl (Nat.le_of_ble_eq_true rfl) ?_ hy ⟨rfl, rfl⟩
  unfold f_X3_end
  refine Seg.step (pc' := 1) (I_aload_n (i := 0) dX3_end_0 rfl rfl) ?_
  refine Seg.step (pc' := 4) (I_getR cls3 (by decide) wf_3_21 (hE _ _ hs0) rfl (lk_3_3 hL hs0) dX3_end_1) ?_
  refine Seg.step (pc' := 5) (I_iload_n (i := 1) dX3_end_4 rfl rfl) ?_
  refine Seg.step (pc' := 6) (I_aload_n (i := 0) dX3_end_5 rfl rfl) ?_
  refine Seg.step (pc' := 9) (I_getI cls3 (by decide) wf_3_31 (hE _ _ hs0) rfl dX3_end_6) ?_
  refine S_gd fun h1 => ?_
  refine Seg.step (pc' := 10) (I_iast (hE _ _ (sk_3_3 hs0)) h1 dX3_end_9) ?_
  refine S_bM fun M2 => ?_
  exact S_vret dX3_end_10 rfl (by decide) (by decide) (fun K hK => hK)
theorem dX4_clear_0 : decode cX4_clear 0 = .ok (.aload_n 0, 1) := by decide +kernel
theorem dX4_clear_1 : decode cX4_clear 1 = .ok (.iconst 0, 1) := by decide +kernel
theorem dX4_clear_2 : decode cX4_clear 2 = .ok (.putfield 32, 3) := by decide +kernel
theorem dX4_clear_5 : decode cX4_clear 5 = .ok (.aload_n 0, 1) := by decide +kernel
theorem dX4_clear_6 : decode cX4_clear 6 = .ok (.iconst (-1), 1) := by decide +kernel
theorem dX4_clear_7 : decode cX4_clear 7 = .ok (.putfield 9, 3) := by decide +kernel
theorem dX4_clear_10 : decode cX4_clear 10 = .ok (.return_, 1) := by decide +kernel
def f_X4_clear (M : MM)  : Option (MM) :=
bM (upM M 78 0 0) fun M1 =>
bM (upM M1 78 1 (-1)) fun M2 =>
some M2
set_option maxRecDepth 4000 in
theorem c_X4_clear {E : EE} {sh : List (Nat × Nat)} {ex : Bool} {R : RM} {M : MM}  (hE : Ext sh) (hL : Links R) : ∀ y, f_X4_clear M = some y → MetC E m_X4_clear 0 0 [rV 78] (sh, ex, R, M) (fun r w' => r = none ∧ w' = (sh, ex, R, y)) := by
  intro y hy
  refine MetC.seg (o := f_X4_clear M) (t := (fun K y => K (none) (sh, ex, R, y))) (L := [some (rV 78)]) (by decide) rfl (Nat.le_of_ble_eq_true rfl) ?_ hy ⟨rfl, rfl⟩
  unfold f_X4_clear
  refine Seg.step (pc' := 1) (I_aload_n (i := 0) dX4_clear_0 rfl rfl) ?_
  refine Seg.step (pc' := 2) (I_iconst dX4_clear_1 ⟨by decide, by decide⟩) ?_
  refine Seg.step (pc' := 5) (I_putI cls4 (by decide) wf_4_32 (hE _ _ sk_4) rfl rfl dX4_clear_2) ?_
  refine S_bM fun M1 => ?_
  refine Seg.step (pc' := 6) (I_aload_n (i := 0) dX4_clear_5 rfl rfl) ?_
  refine Seg.step (pc' := 7) (I_iconst dX4_clear_6 ⟨by decide, by decide⟩) ?_
  refine Seg.step (pc' := 10) (I_putI cls4 (by decide) wf_4_9 (hE _ _ sk_4) rfl rfl dX4_clear_7) ?_
  refine S_bM fun M2 => ?_
  exact S_vret dX4_clear_10 rfl (by decide) (by decide) (fun K hK => hK)
theorem dX4_knownBy_0 : decode cX4_knownBy 0 = .ok (.aload_n 0, 1) := by decide +kernel
theorem dX4_knownBy_1 : decode cX4_knownBy 1 = .ok (.getfield 9, 3) := by decide +kernel
theorem dX4_knownBy_4 : decode cX4_knownBy 4 = .ok (.iconst (-1), 1) := by decide +kernel
theorem dX4_knownBy_5 : decode cX4_knownBy 5 = .ok (.if_icmp .ne 10, 3) := by decide +kernel
theorem dX4_knownBy_8 : decode cX4_knownBy 8 = .ok (.aload_n 0, 1) := by decide +kernel
theorem dX4_knownBy_9 : decode cX4_knownBy 9 = .ok (.getfield 32, 3) := by decide +kernel
theorem dX4_knownBy_12 : decode cX4_knownBy 12 = .ok (.goto 7, 3) := by decide +kernel
theorem dX4_knownBy_15 : decode cX4_knownBy 15 = .ok (.aload_n 0, 1) := by decide +kernel
theorem dX4_knownBy_16 : decode cX4_knownBy 16 = .ok (.getfield 9, 3) := by decide +kernel
theorem dX4_knownBy_19 : decode cX4_knownBy 19 = .ok (.ireturn, 1) := by decide +kernel
def f_X4_knownBy (M : MM)  : Option (Int) :=
if (M 78 1) = (-1) then
(some (M 78 0))
else
some (M 78 1)
set_option maxRecDepth 4000 in
theorem c_X4_knownBy {E : EE} {sh : List (Nat × Nat)} {ex : Bool} {R : RM} {M : MM}  (hE : Ext sh) (hL : Links R) : ∀ y, f_X4_knownBy M = some y → MetC E m_X4_knownBy 0 0 [rV 78] (sh, ex, R, M) (fun r w' => r = some (iV y) ∧ w' = (sh, ex, R, M)) := by
  intro y hy
  refine MetC.seg (o := f_X4_knownBy M) (t := (fun K y => K (some (iV y)) (sh, ex, R, M))) (L := [some (rV 78)]) (by decide) rfl (Nat.le_of_ble_eq_true rfl) ?_ hy ⟨rfl, rfl⟩
  unfold f_X4_knownBy
  refine Seg.step (pc' := 1) (I_aload_n (i := 0) dX4_knownBy_0 rfl rfl) ?_
  refine Seg.step (pc' := 4) (I_getI cls4 (by decide) wf_4_9 (hE _ _ sk_4) rfl dX4_knownBy_1) ?_
  refine Seg.step (pc' := 5) (I_iconst dX4_knownBy_4 ⟨by decide, by decide⟩) ?_
  refine S_icmp_ne (tgt := 15) dX4_knownBy_5 (by decide) (fun h1 => ?_) (fun h1 => ?_)
  · refine Seg.step (pc' := 9) (I_aload_n (i := 0) dX4_knownBy_8 rfl rfl) ?_
    refine Seg.step (pc' := 12) (I_getI cls4 (by decide) wf_4_32 (hE _ _ sk_4) rfl dX4_knownBy_9) ?_
    refine Seg.step (pc' := 19) (I_goto (tgt := 19) dX4_knownBy_12 (by decide)) ?_
    exact S_iret dX4_knownBy_19 rfl (by decide) (by decide) (fun K hK => hK)
  refine Seg.step (pc' := 16) (I_aload_n (i := 0) dX4_knownBy_15 rfl rfl) ?_
  refine Seg.step (pc' := 19) (I_getI cls4 (by decide) wf_4_9 (hE _ _ sk_4) rfl dX4_knownBy_16) ?_
  exact S_iret dX4_knownBy_19 rfl (by decide) (by decide) (fun K hK => hK)
theorem dX4_addWear_0 : decode cX4_addWear 0 = .ok (.aload_n 0, 1) := by decide +kernel
theorem dX4_addWear_1 : decode cX4_addWear 1 = .ok (.getfield 32, 3) := by decide +kernel
theorem dX4_addWear_4 : decode cX4_addWear 4 = .ok (.bipush 24, 2) := by decide +kernel
theorem dX4_addWear_6 : decode cX4_addWear 6 = .ok (.if_icmp .lt 5, 3) := by decide +kernel
theorem dX4_addWear_9 : decode cX4_addWear 9 = .ok (.iconst (-1), 1) := by decide +kernel
theorem dX4_addWear_10 : decode cX4_addWear 10 = .ok (.ireturn, 1) := by decide +kernel
theorem dX4_addWear_11 : decode cX4_addWear 11 = .ok (.aload_n 0, 1) := by decide +kernel
theorem dX4_addWear_12 : decode cX4_addWear 12 = .ok (.getfield 15, 3) := by decide +kernel
theorem dX4_addWear_15 : decode cX4_addWear 15 = .ok (.aload_n 0, 1) := by decide +kernel
theorem dX4_addWear_16 : decode cX4_addWear 16 = .ok (.getfield 32, 3) := by decide +kernel
theorem dX4_addWear_19 : decode cX4_addWear 19 = .ok (.iload_n 1, 1) := by decide +kernel
theorem dX4_addWear_20 : decode cX4_addWear 20 = .ok (.iastore, 1) := by decide +kernel
theorem dX4_addWear_21 : decode cX4_addWear 21 = .ok (.aload_n 0, 1) := by decide +kernel
theorem dX4_addWear_22 : decode cX4_addWear 22 = .ok (.getfield 19, 3) := by decide +kernel
theorem dX4_addWear_25 : decode cX4_addWear 25 = .ok (.aload_n 0, 1) := by decide +kernel
theorem dX4_addWear_26 : decode cX4_addWear 26 = .ok (.getfield 32, 3) := by decide +kernel
theorem dX4_addWear_29 : decode cX4_addWear 29 = .ok (.iload_n 2, 1) := by decide +kernel
theorem dX4_addWear_30 : decode cX4_addWear 30 = .ok (.iastore, 1) := by decide +kernel
theorem dX4_addWear_31 : decode cX4_addWear 31 = .ok (.aload_n 0, 1) := by decide +kernel
theorem dX4_addWear_32 : decode cX4_addWear 32 = .ok (.getfield 22, 3) := by decide +kernel
theorem dX4_addWear_35 : decode cX4_addWear 35 = .ok (.aload_n 0, 1) := by decide +kernel
theorem dX4_addWear_36 : decode cX4_addWear 36 = .ok (.getfield 32, 3) := by decide +kernel
theorem dX4_addWear_39 : decode cX4_addWear 39 = .ok (.iload_n 3, 1) := by decide +kernel
theorem dX4_addWear_40 : decode cX4_addWear 40 = .ok (.bastore, 1) := by decide +kernel
theorem dX4_addWear_41 : decode cX4_addWear 41 = .ok (.aload_n 0, 1) := by decide +kernel
theorem dX4_addWear_42 : decode cX4_addWear 42 = .ok (.getfield 26, 3) := by decide +kernel
theorem dX4_addWear_45 : decode cX4_addWear 45 = .ok (.aload_n 0, 1) := by decide +kernel
theorem dX4_addWear_46 : decode cX4_addWear 46 = .ok (.getfield 32, 3) := by decide +kernel
theorem dX4_addWear_49 : decode cX4_addWear 49 = .ok (.iconst (-1), 1) := by decide +kernel
theorem dX4_addWear_50 : decode cX4_addWear 50 = .ok (.iastore, 1) := by decide +kernel
theorem dX4_addWear_51 : decode cX4_addWear 51 = .ok (.aload_n 0, 1) := by decide +kernel
theorem dX4_addWear_52 : decode cX4_addWear 52 = .ok (.dup, 1) := by decide +kernel
theorem dX4_addWear_53 : decode cX4_addWear 53 = .ok (.getfield 32, 3) := by decide +kernel
theorem dX4_addWear_56 : decode cX4_addWear 56 = .ok (.iconst 1, 1) := by decide +kernel
theorem dX4_addWear_57 : decode cX4_addWear 57 = .ok (.iadd, 1) := by decide +kernel
theorem dX4_addWear_58 : decode cX4_addWear 58 = .ok (.putfield 32, 3) := by decide +kernel
theorem dX4_addWear_61 : decode cX4_addWear 61 = .ok (.aload_n 0, 1) := by decide +kernel
theorem dX4_addWear_62 : decode cX4_addWear 62 = .ok (.getfield 32, 3) := by decide +kernel
theorem dX4_addWear_65 : decode cX4_addWear 65 = .ok (.iconst 1, 1) := by decide +kernel
theorem dX4_addWear_66 : decode cX4_addWear 66 = .ok (.isub, 1) := by decide +kernel
theorem dX4_addWear_67 : decode cX4_addWear 67 = .ok (.ireturn, 1) := by decide +kernel
def f_X4_addWear (M : MM) (p1 : Int) (p2 : Int) (p3 : Int) : Option (Int × MM) :=
if (M 78 0) < 24 then
(gd (0 ≤ M 78 0 ∧ M 78 0 < (24 : Int)) <|
bM (upM M 79 (M 78 0).toNat p1) fun M3 =>
gd (0 ≤ M3 78 0 ∧ M3 78 0 < (24 : Int)) <|
bM (upM M3 80 (M3 78 0).toNat p2) fun M5 =>
gd (0 ≤ M5 78 0 ∧ M5 78 0 < (24 : Int)) <|
gd (p3 = 0 ∨ p3 = 1) <|
bM (upM M5 81 (M5 78 0).toNat p3) fun M8 =>
gd (0 ≤ M8 78 0 ∧ M8 78 0 < (24 : Int)) <|
bM (upM M8 82 (M8 78 0).toNat (-1)) fun M10 =>
bM (upM M10 78 0 (w32 ((M10 78 0) + 1))) fun M11 =>
some (w32 ((M11 78 0) - 1), M11))
else
some ((-1), M)
set_option maxRecDepth 4000 in
theorem c_X4_addWear {E : EE} {sh : List (Nat × Nat)} {ex : Bool} {R : RM} {M : MM} {p1 : Int} {p2 : Int} {p3 : Int} (hE : Ext sh) (hL : Links R) : ∀ y, f_X4_addWear M p1 p2 p3 = some y → MetC E m_X4_addWear 0 0 [rV 78, iV p1, iV p2, iV p3] (sh, ex, R, M) (fun r w' => r = some (iV y.1) ∧ w' = (sh, ex, R, y.2)) := by
  intro y hy
  refine MetC.seg (o := f_X4_addWear M p1 p2 p3) (t := (fun K y => K (some (iV y.1)) (sh, ex, R, y.2))) (L := [some (rV 78), some (iV p1), some (iV p2), some (iV p3)]) (by decide) rfl (Nat.le_of_ble_eq_true rfl) ?_ hy ⟨rfl, rfl⟩
  unfold f_X4_addWear
  refine Seg.step (pc' := 1) (I_aload_n (i := 0) dX4_addWear_0 rfl rfl) ?_
  refine Seg.step (pc' := 4) (I_getI cls4 (by decide) wf_4_32 (hE _ _ sk_4) rfl dX4_addWear_1) ?_
  refine Seg.step (pc' := 6) (I_bipush dX4_addWear_4 (by decide) ⟨by decide, by decide⟩) ?_
  refine S_icmp_lt (tgt := 11) dX4_addWear_6 (by decide) (fun h1 => ?_) (fun h1 => ?_)
  · refine Seg.step (pc' := 12) (I_aload_n (i := 0) dX4_addWear_11 rfl rfl) ?_
    refine Seg.step (pc' := 15) (I_getR cls4 (by decide) wf_4_15 (hE _ _ sk_4) rfl (lk_4_2 hL) dX4_addWear_12) ?_
    refine Seg.step (pc' := 16) (I_aload_n (i := 0) dX4_addWear_15 rfl rfl) ?_
    refine Seg.step (pc' := 19) (I_getI cls4 (by decide) wf_4_32 (hE _ _ sk_4) rfl dX4_addWear_16) ?_
    refine Seg.step (pc' := 20) (I_iload_n (i := 1) dX4_addWear_19 rfl rfl) ?_
    refine S_gd fun h2 => ?_
    refine Seg.step (pc' := 21) (I_iast (hE _ _ sk_4_2) h2 dX4_addWear_20) ?_
    refine S_bM fun M3 => ?_
    refine Seg.step (pc' := 22) (I_aload_n (i := 0) dX4_addWear_21 rfl rfl) ?_
    refine Seg.step (pc' := 25) (I_getR cls4 (by decide) wf_4_19 (hE _ _ sk_4) rfl (lk_4_3 hL) dX4_addWear_22) ?_
    refine Seg.step (pc' := 26) (I_aload_n (i := 0) dX4_addWear_25 rfl rfl) ?_
    refine Seg.step (pc' := 29) (I_getI cls4 (by decide) wf_4_32 (hE _ _ sk_4) rfl dX4_addWear_26) ?_
    refine Seg.step (pc' := 30) (I_iload_n (i := 2) dX4_addWear_29 rfl rfl) ?_
    refine S_gd fun h4 => ?_
    refine Seg.step (pc' := 31) (I_iast (hE _ _ sk_4_3) h4 dX4_addWear_30) ?_
    refine S_bM fun M5 => ?_
    refine Seg.step (pc' := 32) (I_aload_n (i := 0) dX4_addWear_31 rfl rfl) ?_
    refine Seg.step (pc' := 35) (I_getR cls4 (by decide) wf_4_22 (hE _ _ sk_4) rfl (lk_4_4 hL) dX4_addWear_32) ?_
    refine Seg.step (pc' := 36) (I_aload_n (i := 0) dX4_addWear_35 rfl rfl) ?_
    refine Seg.step (pc' := 39) (I_getI cls4 (by decide) wf_4_32 (hE _ _ sk_4) rfl dX4_addWear_36) ?_
    refine Seg.step (pc' := 40) (I_iload_n (i := 3) dX4_addWear_39 rfl rfl) ?_
    refine S_gd fun h6 => ?_
    refine S_gd fun h7 => ?_
    refine Seg.step (pc' := 41) (I_zast (hE _ _ sk_4_4) h6 h7 dX4_addWear_40) ?_
    refine S_bM fun M8 => ?_
    refine Seg.step (pc' := 42) (I_aload_n (i := 0) dX4_addWear_41 rfl rfl) ?_
    refine Seg.step (pc' := 45) (I_getR cls4 (by decide) wf_4_26 (hE _ _ sk_4) rfl (lk_4_5 hL) dX4_addWear_42) ?_
    refine Seg.step (pc' := 46) (I_aload_n (i := 0) dX4_addWear_45 rfl rfl) ?_
    refine Seg.step (pc' := 49) (I_getI cls4 (by decide) wf_4_32 (hE _ _ sk_4) rfl dX4_addWear_46) ?_
    refine Seg.step (pc' := 50) (I_iconst dX4_addWear_49 ⟨by decide, by decide⟩) ?_
    refine S_gd fun h9 => ?_
    refine Seg.step (pc' := 51) (I_iast (hE _ _ sk_4_5) h9 dX4_addWear_50) ?_
    refine S_bM fun M10 => ?_
    refine Seg.step (pc' := 52) (I_aload_n (i := 0) dX4_addWear_51 rfl rfl) ?_
    refine Seg.step (pc' := 53) (I_dup dX4_addWear_52 (fun _ h => by cases h)) ?_
    refine Seg.step (pc' := 56) (I_getI cls4 (by decide) wf_4_32 (hE _ _ sk_4) rfl dX4_addWear_53) ?_
    refine Seg.step (pc' := 57) (I_iconst dX4_addWear_56 ⟨by decide, by decide⟩) ?_
    refine Seg.step (pc' := 58) (I_iadd dX4_addWear_57) ?_
    refine Seg.step (pc' := 61) (I_putI cls4 (by decide) wf_4_32 (hE _ _ sk_4) rfl rfl dX4_addWear_58) ?_
    refine S_bM fun M11 => ?_
    refine Seg.step (pc' := 62) (I_aload_n (i := 0) dX4_addWear_61 rfl rfl) ?_
    refine Seg.step (pc' := 65) (I_getI cls4 (by decide) wf_4_32 (hE _ _ sk_4) rfl dX4_addWear_62) ?_
    refine Seg.step (pc' := 66) (I_iconst dX4_addWear_65 ⟨by decide, by decide⟩) ?_
    refine Seg.step (pc' := 67) (I_isub dX4_addWear_66) ?_
    exact S_iret dX4_addWear_67 rfl (by decide) (by decide) (fun K hK => hK)
  refine Seg.step (pc' := 10) (I_iconst dX4_addWear_9 ⟨by decide, by decide⟩) ?_
  exact S_iret dX4_addWear_10 rfl (by decide) (by decide) (fun K hK => hK)
theorem dX4_addStrike_0 : decode cX4_addStrike 0 = .ok (.iload_n 1, 1) := by decide +kernel
theorem dX4_addStrike_1 : decode cX4_addStrike 1 = .ok (.ifCond .lt 20, 3) := by decide +kernel
theorem dX4_addStrike_4 : decode cX4_addStrike 4 = .ok (.iload_n 1, 1) := by decide +kernel
theorem dX4_addStrike_5 : decode cX4_addStrike 5 = .ok (.aload_n 0, 1) := by decide +kernel
theorem dX4_addStrike_6 : decode cX4_addStrike 6 = .ok (.getfield 32, 3) := by decide +kernel
theorem dX4_addStrike_9 : decode cX4_addStrike 9 = .ok (.if_icmp .ge 12, 3) := by decide +kernel
theorem dX4_addStrike_12 : decode cX4_addStrike 12 = .ok (.aload_n 0, 1) := by decide +kernel
theorem dX4_addStrike_13 : decode cX4_addStrike 13 = .ok (.getfield 32, 3) := by decide +kernel
theorem dX4_addStrike_16 : decode cX4_addStrike 16 = .ok (.bipush 24, 2) := by decide +kernel
theorem dX4_addStrike_18 : decode cX4_addStrike 18 = .ok (.if_icmp .lt 5, 3) := by decide +kernel
theorem dX4_addStrike_21 : decode cX4_addStrike 21 = .ok (.iconst (-1), 1) := by decide +kernel
theorem dX4_addStrike_22 : decode cX4_addStrike 22 = .ok (.ireturn, 1) := by decide +kernel
theorem dX4_addStrike_23 : decode cX4_addStrike 23 = .ok (.aload_n 0, 1) := by decide +kernel
theorem dX4_addStrike_24 : decode cX4_addStrike 24 = .ok (.getfield 26, 3) := by decide +kernel
theorem dX4_addStrike_27 : decode cX4_addStrike 27 = .ok (.aload_n 0, 1) := by decide +kernel
theorem dX4_addStrike_28 : decode cX4_addStrike 28 = .ok (.getfield 32, 3) := by decide +kernel
theorem dX4_addStrike_31 : decode cX4_addStrike 31 = .ok (.iload_n 1, 1) := by decide +kernel
theorem dX4_addStrike_32 : decode cX4_addStrike 32 = .ok (.iastore, 1) := by decide +kernel
theorem dX4_addStrike_33 : decode cX4_addStrike 33 = .ok (.aload_n 0, 1) := by decide +kernel
theorem dX4_addStrike_34 : decode cX4_addStrike 34 = .ok (.dup, 1) := by decide +kernel
theorem dX4_addStrike_35 : decode cX4_addStrike 35 = .ok (.getfield 32, 3) := by decide +kernel
theorem dX4_addStrike_38 : decode cX4_addStrike 38 = .ok (.iconst 1, 1) := by decide +kernel
theorem dX4_addStrike_39 : decode cX4_addStrike 39 = .ok (.iadd, 1) := by decide +kernel
theorem dX4_addStrike_40 : decode cX4_addStrike 40 = .ok (.putfield 32, 3) := by decide +kernel
theorem dX4_addStrike_43 : decode cX4_addStrike 43 = .ok (.aload_n 0, 1) := by decide +kernel
theorem dX4_addStrike_44 : decode cX4_addStrike 44 = .ok (.getfield 32, 3) := by decide +kernel
theorem dX4_addStrike_47 : decode cX4_addStrike 47 = .ok (.iconst 1, 1) := by decide +kernel
theorem dX4_addStrike_48 : decode cX4_addStrike 48 = .ok (.isub, 1) := by decide +kernel
theorem dX4_addStrike_49 : decode cX4_addStrike 49 = .ok (.ireturn, 1) := by decide +kernel
def f_X4_addStrike (M : MM) (p1 : Int) : Option (Int × MM) :=
if p1 < 0 then
(some ((-1), M))
else
if p1 < (M 78 0) then
(if (M 78 0) < 24 then
(gd (0 ≤ M 78 0 ∧ M 78 0 < (24 : Int)) <|
bM (upM M 82 (M 78 0).toNat p1) fun M5 =>
bM (upM M5 78 0 (w32 ((M5 78 0) + 1))) fun M6 =>
some (w32 ((M6 78 0) - 1), M6))
else
some ((-1), M))
else
some ((-1), M)
set_option maxRecDepth 4000 in
theorem c_X4_addStrike {E : EE} {sh : List (Nat × Nat)} {ex : Bool} {R : RM} {M : MM} {p1 : Int} (hE : Ext sh) (hL : Links R) : ∀ y, f_X4_addStrike M p1 = some y → MetC E m_X4_addStrike 0 0 [rV 78, iV p1] (sh, ex, R, M) (fun r w' => r = some (iV y.1) ∧ w' = (sh, ex, R, y.2)) := by
  intro y hy
  refine MetC.seg (o := f_X4_addStrike M p1) (t := (fun K y => K (some (iV y.1)) (sh, ex, R, y.2))) (L := [some (rV 78), some (iV p1)]) (by decide) rfl (Nat.le_of_ble_eq_true rfl) ?_ hy ⟨rfl, rfl⟩
  unfold f_X4_addStrike
  refine Seg.step (pc' := 1) (I_iload_n (i := 1) dX4_addStrike_0 rfl rfl) ?_
  refine S_if_lt (tgt := 21) dX4_addStrike_1 (by decide) (fun h1 => ?_) (fun h1 => ?_)
  · refine Seg.step (pc' := 22) (I_iconst dX4_addStrike_21 ⟨by decide, by decide⟩) ?_
    exact S_iret dX4_addStrike_22 rfl (by decide) (by decide) (fun K hK => hK)
  refine Seg.step (pc' := 5) (I_iload_n (i := 1) dX4_addStrike_4 rfl rfl) ?_
  refine Seg.step (pc' := 6) (I_aload_n (i := 0) dX4_addStrike_5 rfl rfl) ?_
  refine Seg.step (pc' := 9) (I_getI cls4 (by decide) wf_4_32 (hE _ _ sk_4) rfl dX4_addStrike_6) ?_
  refine S_icmp_ge (tgt := 21) dX4_addStrike_9 (by decide) (fun h2 => ?_) (fun h2 => ?_)
  · refine Seg.step (pc' := 13) (I_aload_n (i := 0) dX4_addStrike_12 rfl rfl) ?_
    refine Seg.step (pc' := 16) (I_getI cls4 (by decide) wf_4_32 (hE _ _ sk_4) rfl dX4_addStrike_13) ?_
    refine Seg.step (pc' := 18) (I_bipush dX4_addStrike_16 (by decide) ⟨by decide, by decide⟩) ?_
    refine S_icmp_lt (tgt := 23) dX4_addStrike_18 (by decide) (fun h3 => ?_) (fun h3 => ?_)
    · refine Seg.step (pc' := 24) (I_aload_n (i := 0) dX4_addStrike_23 rfl rfl) ?_
      refine Seg.step (pc' := 27) (I_getR cls4 (by decide) wf_4_26 (hE _ _ sk_4) rfl (lk_4_5 hL) dX4_addStrike_24) ?_
      refine Seg.step (pc' := 28) (I_aload_n (i := 0) dX4_addStrike_27 rfl rfl) ?_
      refine Seg.step (pc' := 31) (I_getI cls4 (by decide) wf_4_32 (hE _ _ sk_4) rfl dX4_addStrike_28) ?_
      refine Seg.step (pc' := 32) (I_iload_n (i := 1) dX4_addStrike_31 rfl rfl) ?_
      refine S_gd fun h4 => ?_
      refine Seg.step (pc' := 33) (I_iast (hE _ _ sk_4_5) h4 dX4_addStrike_32) ?_
      refine S_bM fun M5 => ?_
      refine Seg.step (pc' := 34) (I_aload_n (i := 0) dX4_addStrike_33 rfl rfl) ?_
      refine Seg.step (pc' := 35) (I_dup dX4_addStrike_34 (fun _ h => by cases h)) ?_
      refine Seg.step (pc' := 38) (I_getI cls4 (by decide) wf_4_32 (hE _ _ sk_4) rfl dX4_addStrike_35) ?_
      refine Seg.step (pc' := 39) (I_iconst dX4_addStrike_38 ⟨by decide, by decide⟩) ?_
      refine Seg.step (pc' := 40) (I_iadd dX4_addStrike_39) ?_
      refine Seg.step (pc' := 43) (I_putI cls4 (by decide) wf_4_32 (hE _ _ sk_4) rfl rfl dX4_addStrike_40) ?_
      refine S_bM fun M6 => ?_
      refine Seg.step (pc' := 44) (I_aload_n (i := 0) dX4_addStrike_43 rfl rfl) ?_
      refine Seg.step (pc' := 47) (I_getI cls4 (by decide) wf_4_32 (hE _ _ sk_4) rfl dX4_addStrike_44) ?_
      refine Seg.step (pc' := 48) (I_iconst dX4_addStrike_47 ⟨by decide, by decide⟩) ?_
      refine Seg.step (pc' := 49) (I_isub dX4_addStrike_48) ?_
      exact S_iret dX4_addStrike_49 rfl (by decide) (by decide) (fun K hK => hK)
    refine Seg.step (pc' := 22) (I_iconst dX4_addStrike_21 ⟨by decide, by decide⟩) ?_
    exact S_iret dX4_addStrike_22 rfl (by decide) (by decide) (fun K hK => hK)
  refine Seg.step (pc' := 22) (I_iconst dX4_addStrike_21 ⟨by decide, by decide⟩) ?_
  exact S_iret dX4_addStrike_22 rfl (by decide) (by decide) (fun K hK => hK)
theorem dX4_ponder_0 : decode cX4_ponder 0 = .ok (.aload_n 0, 1) := by decide +kernel
theorem dX4_ponder_1 : decode cX4_ponder 1 = .ok (.invokevirtual 35, 3) := by decide +kernel
theorem dX4_ponder_4 : decode cX4_ponder 4 = .ok (.istore_n 1, 1) := by decide +kernel
theorem dX4_ponder_5 : decode cX4_ponder 5 = .ok (.iconst 0, 1) := by decide +kernel
theorem dX4_ponder_6 : decode cX4_ponder 6 = .ok (.istore_n 2, 1) := by decide +kernel
theorem dX4_ponder_7 : decode cX4_ponder 7 = .ok (.iload_n 2, 1) := by decide +kernel
theorem dX4_ponder_8 : decode cX4_ponder 8 = .ok (.iload_n 1, 1) := by decide +kernel
theorem dX4_ponder_9 : decode cX4_ponder 9 = .ok (.if_icmp .ge 16, 3) := by decide +kernel
theorem dX4_ponder_12 : decode cX4_ponder 12 = .ok (.aload_n 0, 1) := by decide +kernel
theorem dX4_ponder_13 : decode cX4_ponder 13 = .ok (.getfield 29, 3) := by decide +kernel
theorem dX4_ponder_16 : decode cX4_ponder 16 = .ok (.iload_n 2, 1) := by decide +kernel
theorem dX4_ponder_17 : decode cX4_ponder 17 = .ok (.iconst 0, 1) := by decide +kernel
theorem dX4_ponder_18 : decode cX4_ponder 18 = .ok (.bastore, 1) := by decide +kernel
theorem dX4_ponder_19 : decode cX4_ponder 19 = .ok (.iinc 2 1, 3) := by decide +kernel
theorem dX4_ponder_22 : decode cX4_ponder 22 = .ok (.goto (-15), 3) := by decide +kernel
theorem dX4_ponder_25 : decode cX4_ponder 25 = .ok (.iload_n 1, 1) := by decide +kernel
theorem dX4_ponder_26 : decode cX4_ponder 26 = .ok (.iconst 1, 1) := by decide +kernel
theorem dX4_ponder_27 : decode cX4_ponder 27 = .ok (.isub, 1) := by decide +kernel
theorem dX4_ponder_28 : decode cX4_ponder 28 = .ok (.istore_n 2, 1) := by decide +kernel
theorem dX4_ponder_29 : decode cX4_ponder 29 = .ok (.iload_n 2, 1) := by decide +kernel
theorem dX4_ponder_30 : decode cX4_ponder 30 = .ok (.ifCond .lt 40, 3) := by decide +kernel
theorem dX4_ponder_33 : decode cX4_ponder 33 = .ok (.aload_n 0, 1) := by decide +kernel
theorem dX4_ponder_34 : decode cX4_ponder 34 = .ok (.getfield 29, 3) := by decide +kernel
theorem dX4_ponder_37 : decode cX4_ponder 37 = .ok (.iload_n 2, 1) := by decide +kernel
theorem dX4_ponder_38 : decode cX4_ponder 38 = .ok (.baload, 1) := by decide +kernel
theorem dX4_ponder_39 : decode cX4_ponder 39 = .ok (.ifCond .ne 25, 3) := by decide +kernel
theorem dX4_ponder_42 : decode cX4_ponder 42 = .ok (.aload_n 0, 1) := by decide +kernel
theorem dX4_ponder_43 : decode cX4_ponder 43 = .ok (.getfield 26, 3) := by decide +kernel
theorem dX4_ponder_46 : decode cX4_ponder 46 = .ok (.iload_n 2, 1) := by decide +kernel
theorem dX4_ponder_47 : decode cX4_ponder 47 = .ok (.iaload, 1) := by decide +kernel
theorem dX4_ponder_48 : decode cX4_ponder 48 = .ok (.iconst (-1), 1) := by decide +kernel
theorem dX4_ponder_49 : decode cX4_ponder 49 = .ok (.if_icmp .eq 15, 3) := by decide +kernel
theorem dX4_ponder_52 : decode cX4_ponder 52 = .ok (.aload_n 0, 1) := by decide +kernel
theorem dX4_ponder_53 : decode cX4_ponder 53 = .ok (.getfield 29, 3) := by decide +kernel
theorem dX4_ponder_56 : decode cX4_ponder 56 = .ok (.aload_n 0, 1) := by decide +kernel
theorem dX4_ponder_57 : decode cX4_ponder 57 = .ok (.getfield 26, 3) := by decide +kernel
theorem dX4_ponder_60 : decode cX4_ponder 60 = .ok (.iload_n 2, 1) := by decide +kernel
theorem dX4_ponder_61 : decode cX4_ponder 61 = .ok (.iaload, 1) := by decide +kernel
theorem dX4_ponder_62 : decode cX4_ponder 62 = .ok (.iconst 1, 1) := by decide +kernel
theorem dX4_ponder_63 : decode cX4_ponder 63 = .ok (.bastore, 1) := by decide +kernel
theorem dX4_ponder_64 : decode cX4_ponder 64 = .ok (.iinc 2 (-1), 3) := by decide +kernel
theorem dX4_ponder_67 : decode cX4_ponder 67 = .ok (.goto (-38), 3) := by decide +kernel
theorem dX4_ponder_70 : decode cX4_ponder 70 = .ok (.return_, 1) := by decide +kernel
def f_X4_ponder (M : MM)  : Option (MM) :=
(f_X4_knownBy M).bind fun x1 =>
(lp (X := Int × MM) (Y := MM) (fun x2 =>
if x2.1 < x1 then
(gd (0 ≤ x2.1 ∧ x2.1 < (24 : Int)) <|
bM (upM x2.2 83 (x2.1).toNat 0) fun M5 =>
some (Sum.inl (w32 (x2.1 + 1), M5)))
else
some (Sum.inr x2.2)) FU (0, M)).bind fun x6 =>
bI (w32 (x1 - 1)) fun x7 =>
lp (X := Int × MM) (Y := MM) (fun x8 =>
if x8.1 < 0 then
(some (Sum.inr x8.2))
else
gd (0 ≤ x8.1 ∧ x8.1 < (24 : Int)) <|
((if (x8.2 83 (x8.1).toNat) = 0 then
(gd (0 ≤ x8.1 ∧ x8.1 < (24 : Int)) <|
if (x8.2 82 (x8.1).toNat) = (-1) then
(some x8.2)
else
gd (0 ≤ x8.1 ∧ x8.1 < (24 : Int)) <|
gd (0 ≤ x8.2 82 (x8.1).toNat ∧ x8.2 82 (x8.1).toNat < (24 : Int)) <|
bM (upM x8.2 83 (x8.2 82 (x8.1).toNat).toNat 1) fun M16 =>
some M16)
else
some x8.2) : Option (MM)).bind fun x17 =>
some (Sum.inl (w32 (x8.1 + (-1)), x17))) FU (x7, x6)
set_option maxRecDepth 4000 in
theorem c_X4_ponder {E : EE} {sh : List (Nat × Nat)} {ex : Bool} {R : RM} {M : MM}  (hE : Ext sh) (hL : Links R) : ∀ y, f_X4_ponder M = some y → MetC E m_X4_ponder 0 0 [rV 78] (sh, ex, R, M) (fun r w' => r = none ∧ w' = (sh, ex, R, y)) := by
  intro y hy
  refine MetC.seg (o := f_X4_ponder M) (t := (fun K y => K (none) (sh, ex, R, y))) (L := [some (rV 78), none, none]) (by decide) rfl (Nat.le_of_ble_eq_true rfl) ?_ hy ⟨rfl, rfl⟩
  unfold f_X4_ponder
  refine Seg.step (pc' := 1) (I_aload_n (i := 0) dX4_ponder_0 rfl rfl) ?_
  refine S_callV0 (md' := m_X4_knownBy) (fun y => some (iV y)) (fun y => (sh, ex, R, M)) (hE _ _ sk_4) ⟨by decide, rfl⟩ mm_X4_knownBy wm_4_35 ⟨rfl, rfl, by decide, by decide, by decide, by decide⟩ (Nat.le_of_ble_eq_true rfl) dX4_ponder_1 (fun y hy => c_X4_knownBy hE hL y hy) (fun x1 => ?_)
  refine Seg.step (pc' := 5) (I_istore_n (i := 1) dX4_ponder_4 rfl (by decide) rfl) ?_
  refine Seg.step (pc' := 6) (I_iconst dX4_ponder_5 ⟨by decide, by decide⟩) ?_
  refine Seg.step (pc' := 7) (I_istore_n (i := 2) dX4_ponder_6 rfl (by decide) rfl) ?_
  refine Seg.forget (Lle.ye (Lle.ye (Lle.ye (Lle.nil)))) ?_
  refine S_bind (Y := MM) (k' := 0) (n' := 0) 25 (fun y => [some (rV 78), some (iV x1), none]) (fun y => []) (fun y => (sh, ex, R, y)) (S_loop (Y := Int × MM) (fun y => [some (rV 78), some (iV x1), some (iV y.1)]) (fun y => []) (fun y => (sh, ex, R, y.2)) (fun x2 => ?_) FU (0, M)) (fun x6 => ?_)
  · refine Seg.step (pc' := 8) (I_iload_n (i := 2) dX4_ponder_7 rfl rfl) ?_
    refine Seg.step (pc' := 9) (I_iload_n (i := 1) dX4_ponder_8 rfl rfl) ?_
    refine S_icmp_ge (tgt := 25) dX4_ponder_9 (by decide) (fun h3 => ?_) (fun h3 => ?_)
    · refine Seg.step (pc' := 13) (I_aload_n (i := 0) dX4_ponder_12 rfl rfl) ?_
      refine Seg.step (pc' := 16) (I_getR cls4 (by decide) wf_4_29 (hE _ _ sk_4) rfl (lk_4_6 hL) dX4_ponder_13) ?_
      refine Seg.step (pc' := 17) (I_iload_n (i := 2) dX4_ponder_16 rfl rfl) ?_
      refine Seg.step (pc' := 18) (I_iconst dX4_ponder_17 ⟨by decide, by decide⟩) ?_
      refine S_gd fun h4 => ?_
      refine Seg.step (pc' := 19) (I_zast (hE _ _ sk_4_6) h4 (by decide) dX4_ponder_18) ?_
      refine S_bM fun M5 => ?_
      refine Seg.step (pc' := 22) (I_iinc dX4_ponder_19 rfl (by decide) rfl) ?_
      refine Seg.step (pc' := 7) (I_goto (tgt := 7) dX4_ponder_22 (by decide)) ?_
      exact S_arr (fun K hK => GG.forget (Lle.ye (Lle.ye (Lle.ye (Lle.nil)))) hK)
    exact S_arr (fun K hK => GG.forget (Lle.ye (Lle.ye (Lle.no (Lle.nil)))) hK)
  refine Seg.step (pc' := 26) (I_iload_n (i := 1) dX4_ponder_25 rfl rfl) ?_
  refine Seg.step (pc' := 27) (I_iconst dX4_ponder_26 ⟨by decide, by decide⟩) ?_
  refine Seg.step (pc' := 28) (I_isub dX4_ponder_27) ?_
  refine S_bI fun x7 => ?_
  refine Seg.step (pc' := 29) (I_istore_n (i := 2) dX4_ponder_28 rfl (by decide) rfl) ?_
  refine Seg.forget (Lle.ye (Lle.no (Lle.ye (Lle.nil)))) ?_
  refine S_loop (Y := Int × MM) (fun y => [some (rV 78), none, some (iV y.1)]) (fun y => []) (fun y => (sh, ex, R, y.2)) (fun x8 => ?_) FU (x7, x6)
  refine Seg.step (pc' := 30) (I_iload_n (i := 2) dX4_ponder_29 rfl rfl) ?_
  refine S_if_lt (tgt := 70) dX4_ponder_30 (by decide) (fun h9 => ?_) (fun h9 => ?_)
  · exact S_vret dX4_ponder_70 rfl (by decide) (by decide) (fun K hK => hK)
  refine Seg.step (pc' := 34) (I_aload_n (i := 0) dX4_ponder_33 rfl rfl) ?_
  refine Seg.step (pc' := 37) (I_getR cls4 (by decide) wf_4_29 (hE _ _ sk_4) rfl (lk_4_6 hL) dX4_ponder_34) ?_
  refine Seg.step (pc' := 38) (I_iload_n (i := 2) dX4_ponder_37 rfl rfl) ?_
  refine S_gd fun h10 => ?_
  refine Seg.step (pc' := 39) (I_zald (hE _ _ sk_4_6) h10 dX4_ponder_38) ?_
  refine S_bind (Y := MM) (k' := 0) (n' := 0) 64 (fun y => [some (rV 78), none, some (iV x8.1)]) (fun y => []) (fun y => (sh, ex, R, y)) ?_ (fun x17 => ?_)
  · refine S_if_ne (tgt := 64) dX4_ponder_39 (by decide) (fun h11 => ?_) (fun h11 => ?_)
    · refine Seg.step (pc' := 43) (I_aload_n (i := 0) dX4_ponder_42 rfl rfl) ?_
      refine Seg.step (pc' := 46) (I_getR cls4 (by decide) wf_4_26 (hE _ _ sk_4) rfl (lk_4_5 hL) dX4_ponder_43) ?_
      refine Seg.step (pc' := 47) (I_iload_n (i := 2) dX4_ponder_46 rfl rfl) ?_
      refine S_gd fun h12 => ?_
      refine Seg.step (pc' := 48) (I_iald (hE _ _ sk_4_5) h12 dX4_ponder_47) ?_
      refine Seg.step (pc' := 49) (I_iconst dX4_ponder_48 ⟨by decide, by decide⟩) ?_
      refine S_icmp_eq (tgt := 64) dX4_ponder_49 (by decide) (fun h13 => ?_) (fun h13 => ?_)
      · exact S_arr (fun K hK => GG.forget (Lle.ye (Lle.no (Lle.ye (Lle.nil)))) hK)
      refine Seg.step (pc' := 53) (I_aload_n (i := 0) dX4_ponder_52 rfl rfl) ?_
      refine Seg.step (pc' := 56) (I_getR cls4 (by decide) wf_4_29 (hE _ _ sk_4) rfl (lk_4_6 hL) dX4_ponder_53) ?_
      refine Seg.step (pc' := 57) (I_aload_n (i := 0) dX4_ponder_56 rfl rfl) ?_
      refine Seg.step (pc' := 60) (I_getR cls4 (by decide) wf_4_26 (hE _ _ sk_4) rfl (lk_4_5 hL) dX4_ponder_57) ?_
      refine Seg.step (pc' := 61) (I_iload_n (i := 2) dX4_ponder_60 rfl rfl) ?_
      refine S_gd fun h14 => ?_
      refine Seg.step (pc' := 62) (I_iald (hE _ _ sk_4_5) h14 dX4_ponder_61) ?_
      refine Seg.step (pc' := 63) (I_iconst dX4_ponder_62 ⟨by decide, by decide⟩) ?_
      refine S_gd fun h15 => ?_
      refine Seg.step (pc' := 64) (I_zast (hE _ _ sk_4_6) h15 (by decide) dX4_ponder_63) ?_
      refine S_bM fun M16 => ?_
      exact S_arr (fun K hK => GG.forget (Lle.ye (Lle.no (Lle.ye (Lle.nil)))) hK)
    exact S_arr (fun K hK => GG.forget (Lle.ye (Lle.no (Lle.ye (Lle.nil)))) hK)
  refine Seg.step (pc' := 67) (I_iinc dX4_ponder_64 rfl (by decide) rfl) ?_
  refine Seg.step (pc' := 29) (I_goto (tgt := 29) dX4_ponder_67 (by decide)) ?_
  exact S_arr (fun K hK => GG.forget (Lle.ye (Lle.no (Lle.ye (Lle.nil)))) hK)
theorem dX4_isKnownWear_0 : decode cX4_isKnownWear 0 = .ok (.aload_n 0, 1) := by decide +kernel
theorem dX4_isKnownWear_1 : decode cX4_isKnownWear 1 = .ok (.getfield 26, 3) := by decide +kernel
theorem dX4_isKnownWear_4 : decode cX4_isKnownWear 4 = .ok (.iload_n 1, 1) := by decide +kernel
theorem dX4_isKnownWear_5 : decode cX4_isKnownWear 5 = .ok (.iaload, 1) := by decide +kernel
theorem dX4_isKnownWear_6 : decode cX4_isKnownWear 6 = .ok (.iconst (-1), 1) := by decide +kernel
theorem dX4_isKnownWear_7 : decode cX4_isKnownWear 7 = .ok (.if_icmp .ne 16, 3) := by decide +kernel
theorem dX4_isKnownWear_10 : decode cX4_isKnownWear 10 = .ok (.aload_n 0, 1) := by decide +kernel
theorem dX4_isKnownWear_11 : decode cX4_isKnownWear 11 = .ok (.getfield 29, 3) := by decide +kernel
theorem dX4_isKnownWear_14 : decode cX4_isKnownWear 14 = .ok (.iload_n 1, 1) := by decide +kernel
theorem dX4_isKnownWear_15 : decode cX4_isKnownWear 15 = .ok (.baload, 1) := by decide +kernel
theorem dX4_isKnownWear_16 : decode cX4_isKnownWear 16 = .ok (.ifCond .ne 7, 3) := by decide +kernel
theorem dX4_isKnownWear_19 : decode cX4_isKnownWear 19 = .ok (.iconst 1, 1) := by decide +kernel
theorem dX4_isKnownWear_20 : decode cX4_isKnownWear 20 = .ok (.goto 4, 3) := by decide +kernel
theorem dX4_isKnownWear_23 : decode cX4_isKnownWear 23 = .ok (.iconst 0, 1) := by decide +kernel
theorem dX4_isKnownWear_24 : decode cX4_isKnownWear 24 = .ok (.ireturn, 1) := by decide +kernel
def f_X4_isKnownWear (M : MM) (p1 : Int) : Option (Int) :=
gd (0 ≤ p1 ∧ p1 < (24 : Int)) <|
if (M 82 (p1).toNat) = (-1) then
(gd (0 ≤ p1 ∧ p1 < (24 : Int)) <|
if (M 83 (p1).toNat) = 0 then
(some 1)
else
some 0)
else
some 0
set_option maxRecDepth 4000 in
theorem c_X4_isKnownWear {E : EE} {sh : List (Nat × Nat)} {ex : Bool} {R : RM} {M : MM} {p1 : Int} (hE : Ext sh) (hL : Links R) : ∀ y, f_X4_isKnownWear M p1 = some y → MetC E m_X4_isKnownWear 0 0 [rV 78, iV p1] (sh, ex, R, M) (fun r w' => r = some (iV y) ∧ w' = (sh, ex, R, M)) := by
  intro y hy
  refine MetC.seg (o := f_X4_isKnownWear M p1) (t := (fun K y => K (some (iV y)) (sh, ex, R, M))) (L := [some (rV 78), some (iV p1)]) (by decide) rfl (Nat.le_of_ble_eq_true rfl) ?_ hy ⟨rfl, rfl⟩
  unfold f_X4_isKnownWear
  refine Seg.step (pc' := 1) (I_aload_n (i := 0) dX4_isKnownWear_0 rfl rfl) ?_
  refine Seg.step (pc' := 4) (I_getR cls4 (by decide) wf_4_26 (hE _ _ sk_4) rfl (lk_4_5 hL) dX4_isKnownWear_1) ?_
  refine Seg.step (pc' := 5) (I_iload_n (i := 1) dX4_isKnownWear_4 rfl rfl) ?_
  refine S_gd fun h1 => ?_
  refine Seg.step (pc' := 6) (I_iald (hE _ _ sk_4_5) h1 dX4_isKnownWear_5) ?_
  refine Seg.step (pc' := 7) (I_iconst dX4_isKnownWear_6 ⟨by decide, by decide⟩) ?_
  refine S_icmp_ne (tgt := 23) dX4_isKnownWear_7 (by decide) (fun h2 => ?_) (fun h2 => ?_)
  · refine Seg.step (pc' := 11) (I_aload_n (i := 0) dX4_isKnownWear_10 rfl rfl) ?_
    refine Seg.step (pc' := 14) (I_getR cls4 (by decide) wf_4_29 (hE _ _ sk_4) rfl (lk_4_6 hL) dX4_isKnownWear_11) ?_
    refine Seg.step (pc' := 15) (I_iload_n (i := 1) dX4_isKnownWear_14 rfl rfl) ?_
    refine S_gd fun h3 => ?_
    refine Seg.step (pc' := 16) (I_zald (hE _ _ sk_4_6) h3 dX4_isKnownWear_15) ?_
    refine S_if_ne (tgt := 23) dX4_isKnownWear_16 (by decide) (fun h4 => ?_) (fun h4 => ?_)
    · refine Seg.step (pc' := 20) (I_iconst dX4_isKnownWear_19 ⟨by decide, by decide⟩) ?_
      refine Seg.step (pc' := 24) (I_goto (tgt := 24) dX4_isKnownWear_20 (by decide)) ?_
      exact S_zret dX4_isKnownWear_24 rfl (by decide) (by decide) (by decide) (fun K hK => hK)
    refine Seg.step (pc' := 24) (I_iconst dX4_isKnownWear_23 ⟨by decide, by decide⟩) ?_
    exact S_zret dX4_isKnownWear_24 rfl (by decide) (by decide) (by decide) (fun K hK => hK)
  refine Seg.step (pc' := 24) (I_iconst dX4_isKnownWear_23 ⟨by decide, by decide⟩) ?_
  exact S_zret dX4_isKnownWear_24 rfl (by decide) (by decide) (by decide) (fun K hK => hK)
theorem dX4_longestKnown_0 : decode cX4_longestKnown 0 = .ok (.iconst 0, 1) := by decide +kernel
theorem dX4_longestKnown_1 : decode cX4_longestKnown 1 = .ok (.istore_n 1, 1) := by decide +kernel
theorem dX4_longestKnown_2 : decode cX4_longestKnown 2 = .ok (.aload_n 0, 1) := by decide +kernel
theorem dX4_longestKnown_3 : decode cX4_longestKnown 3 = .ok (.invokevirtual 35, 3) := by decide +kernel
theorem dX4_longestKnown_6 : decode cX4_longestKnown 6 = .ok (.istore_n 2, 1) := by decide +kernel
theorem dX4_longestKnown_7 : decode cX4_longestKnown 7 = .ok (.iconst 0, 1) := by decide +kernel
theorem dX4_longestKnown_8 : decode cX4_longestKnown 8 = .ok (.istore_n 3, 1) := by decide +kernel
theorem dX4_longestKnown_9 : decode cX4_longestKnown 9 = .ok (.iload_n 3, 1) := by decide +kernel
theorem dX4_longestKnown_10 : decode cX4_longestKnown 10 = .ok (.iload_n 2, 1) := by decide +kernel
theorem dX4_longestKnown_11 : decode cX4_longestKnown 11 = .ok (.if_icmp .ge 28, 3) := by decide +kernel
theorem dX4_longestKnown_14 : decode cX4_longestKnown 14 = .ok (.aload_n 0, 1) := by decide +kernel
theorem dX4_longestKnown_15 : decode cX4_longestKnown 15 = .ok (.iload_n 3, 1) := by decide +kernel
theorem dX4_longestKnown_16 : decode cX4_longestKnown 16 = .ok (.invokevirtual 39, 3) := by decide +kernel
theorem dX4_longestKnown_19 : decode cX4_longestKnown 19 = .ok (.ifCond .eq 14, 3) := by decide +kernel
theorem dX4_longestKnown_22 : decode cX4_longestKnown 22 = .ok (.iload_n 1, 1) := by decide +kernel
theorem dX4_longestKnown_23 : decode cX4_longestKnown 23 = .ok (.aload_n 0, 1) := by decide +kernel
theorem dX4_longestKnown_24 : decode cX4_longestKnown 24 = .ok (.getfield 15, 3) := by decide +kernel
theorem dX4_longestKnown_27 : decode cX4_longestKnown 27 = .ok (.iload_n 3, 1) := by decide +kernel
theorem dX4_longestKnown_28 : decode cX4_longestKnown 28 = .ok (.iaload, 1) := by decide +kernel
theorem dX4_longestKnown_29 : decode cX4_longestKnown 29 = .ok (.invokestatic 43, 3) := by decide +kernel
theorem dX4_longestKnown_32 : decode cX4_longestKnown 32 = .ok (.istore_n 1, 1) := by decide +kernel
theorem dX4_longestKnown_33 : decode cX4_longestKnown 33 = .ok (.iinc 3 1, 3) := by decide +kernel
theorem dX4_longestKnown_36 : decode cX4_longestKnown 36 = .ok (.goto (-27), 3) := by decide +kernel
theorem dX4_longestKnown_39 : decode cX4_longestKnown 39 = .ok (.iload_n 1, 1) := by decide +kernel
theorem dX4_longestKnown_40 : decode cX4_longestKnown 40 = .ok (.ireturn, 1) := by decide +kernel
def f_X4_longestKnown (M : MM)  : Option (Int) :=
(f_X4_knownBy M).bind fun x1 =>
lp (X := Int × Int) (Y := Int) (fun x2 =>
if x2.2 < x1 then
((f_X4_isKnownWear M x2.2).bind fun x4 =>
((if x4 = 0 then
(some x2.1)
else
gd (0 ≤ x2.2 ∧ x2.2 < (24 : Int)) <|
bI (if x2.1 < M 79 (x2.2).toNat then M 79 (x2.2).toNat else x2.1) fun x7 =>
some x7) : Option (Int)).bind fun x8 =>
some (Sum.inl (x8, w32 (x2.2 + 1))))
else
some (Sum.inr x2.1)) FU (0, 0)
set_option maxRecDepth 4000 in
theorem c_X4_longestKnown {E : EE} {sh : List (Nat × Nat)} {ex : Bool} {R : RM} {M : MM}  (hE : Ext sh) (hL : Links R) : ∀ y, f_X4_longestKnown M = some y → MetC E m_X4_longestKnown 0 0 [rV 78] (sh, ex, R, M) (fun r w' => r = some (iV y) ∧ w' = (sh, ex, R, M)) := by
  intro y hy
  refine MetC.seg (o := f_X4_longestKnown M) (t := (fun K y => K (some (iV y)) (sh, ex, R, M))) (L := [some (rV 78), none, none, none]) (by decide) rfl (Nat.le_of_ble_eq_true rfl) ?_ hy ⟨rfl, rfl⟩
  unfold f_X4_longestKnown
  refine Seg.step (pc' := 1) (I_iconst dX4_longestKnown_0 ⟨by decide, by decide⟩) ?_
  refine Seg.step (pc' := 2) (I_istore_n (i := 1) dX4_longestKnown_1 rfl (by decide) rfl) ?_
  refine Seg.step (pc' := 3) (I_aload_n (i := 0) dX4_longestKnown_2 rfl rfl) ?_
  refine S_callV0 (md' := m_X4_knownBy) (fun y => some (iV y)) (fun y => (sh, ex, R, M)) (hE _ _ sk_4) ⟨by decide, rfl⟩ mm_X4_knownBy wm_4_35 ⟨rfl, rfl, by decide, by decide, by decide, by decide⟩ (Nat.le_of_ble_eq_true rfl) dX4_longestKnown_3 (fun y hy => c_X4_knownBy hE hL y hy) (fun x1 => ?_)
  refine Seg.step (pc' := 7) (I_istore_n (i := 2) dX4_longestKnown_6 rfl (by decide) rfl) ?_
  refine Seg.step (pc' := 8) (I_iconst dX4_longestKnown_7 ⟨by decide, by decide⟩) ?_
  refine Seg.step (pc' := 9) (I_istore_n (i := 3) dX4_longestKnown_8 rfl (by decide) rfl) ?_
  refine Seg.forget (Lle.ye (Lle.ye (Lle.ye (Lle.ye (Lle.nil))))) ?_
  refine S_loop (Y := Int × Int) (fun y => [some (rV 78), some (iV y.1), some (iV x1), some (iV y.2)]) (fun y => []) (fun y => (sh, ex, R, M)) (fun x2 => ?_) FU (0, 0)
  refine Seg.step (pc' := 10) (I_iload_n (i := 3) dX4_longestKnown_9 rfl rfl) ?_
  refine Seg.step (pc' := 11) (I_iload_n (i := 2) dX4_longestKnown_10 rfl rfl) ?_
  refine S_icmp_ge (tgt := 39) dX4_longestKnown_11 (by decide) (fun h3 => ?_) (fun h3 => ?_)
  · refine Seg.step (pc' := 15) (I_aload_n (i := 0) dX4_longestKnown_14 rfl rfl) ?_
    refine Seg.step (pc' := 16) (I_iload_n (i := 3) dX4_longestKnown_15 rfl rfl) ?_
    refine S_callV1 (md' := m_X4_isKnownWear) (fun y => some (iV y)) (fun y => (sh, ex, R, M)) (hE _ _ sk_4) ⟨by decide, rfl⟩ mm_X4_isKnownWear wm_4_39 ⟨rfl, rfl, by decide, by decide, by decide, by decide⟩ (Nat.le_of_ble_eq_true rfl) dX4_longestKnown_16 (fun y hy => c_X4_isKnownWear hE hL y hy) (fun x4 => ?_)
    refine S_bind (Y := Int) (k' := 0) (n' := 0) 33 (fun y => [some (rV 78), some (iV y), some (iV x1), some (iV x2.2)]) (fun y => []) (fun y => (sh, ex, R, M)) ?_ (fun x8 => ?_)
    · refine S_if_eq (tgt := 33) dX4_longestKnown_19 (by decide) (fun h5 => ?_) (fun h5 => ?_)
      · exact S_arr (fun K hK => GG.forget (Lle.ye (Lle.ye (Lle.ye (Lle.ye (Lle.nil))))) hK)
      refine Seg.step (pc' := 23) (I_iload_n (i := 1) dX4_longestKnown_22 rfl rfl) ?_
      refine Seg.step (pc' := 24) (I_aload_n (i := 0) dX4_longestKnown_23 rfl rfl) ?_
      refine Seg.step (pc' := 27) (I_getR cls4 (by decide) wf_4_15 (hE _ _ sk_4) rfl (lk_4_2 hL) dX4_longestKnown_24) ?_
      refine Seg.step (pc' := 28) (I_iload_n (i := 3) dX4_longestKnown_27 rfl rfl) ?_
      refine S_gd fun h6 => ?_
      refine Seg.step (pc' := 29) (I_iald (hE _ _ sk_4_2) h6 dX4_longestKnown_28) ?_
      refine Seg.step (I_mmax wm_4_43 wj_max_s wj_Math_i wj_max_c (by decide) (Nat.le_of_ble_eq_true rfl) (by decide) (by decide) dX4_longestKnown_29) ?_
      refine S_bI fun x7 => ?_
      refine Seg.step (pc' := 33) (I_istore_n (i := 1) dX4_longestKnown_32 rfl (by decide) rfl) ?_
      exact S_arr (fun K hK => GG.forget (Lle.ye (Lle.ye (Lle.ye (Lle.ye (Lle.nil))))) hK)
    refine Seg.step (pc' := 36) (I_iinc dX4_longestKnown_33 rfl (by decide) rfl) ?_
    refine Seg.step (pc' := 9) (I_goto (tgt := 9) dX4_longestKnown_36 (by decide)) ?_
    exact S_arr (fun K hK => GG.forget (Lle.ye (Lle.ye (Lle.ye (Lle.ye (Lle.nil))))) hK)
  refine Seg.step (pc' := 40) (I_iload_n (i := 1) dX4_longestKnown_39 rfl rfl) ?_
  exact S_iret dX4_longestKnown_40 rfl (by decide) (by decide) (fun K hK => hK)
theorem dX4_agrees_0 : decode cX4_agrees 0 = .ok (.aload_n 0, 1) := by decide +kernel
theorem dX4_agrees_1 : decode cX4_agrees 1 = .ok (.invokevirtual 35, 3) := by decide +kernel
theorem dX4_agrees_4 : decode cX4_agrees 4 = .ok (.istore_n 3, 1) := by decide +kernel
theorem dX4_agrees_5 : decode cX4_agrees 5 = .ok (.iconst 0, 1) := by decide +kernel
theorem dX4_agrees_6 : decode cX4_agrees 6 = .ok (.istore 4, 2) := by decide +kernel
theorem dX4_agrees_8 : decode cX4_agrees 8 = .ok (.iload 4, 2) := by decide +kernel
theorem dX4_agrees_10 : decode cX4_agrees 10 = .ok (.iload_n 3, 1) := by decide +kernel
theorem dX4_agrees_11 : decode cX4_agrees 11 = .ok (.if_icmp .ge 57, 3) := by decide +kernel
theorem dX4_agrees_14 : decode cX4_agrees 14 = .ok (.aload_n 0, 1) := by decide +kernel
theorem dX4_agrees_15 : decode cX4_agrees 15 = .ok (.getfield 15, 3) := by decide +kernel
theorem dX4_agrees_18 : decode cX4_agrees 18 = .ok (.iload 4, 2) := by decide +kernel
theorem dX4_agrees_20 : decode cX4_agrees 20 = .ok (.iaload, 1) := by decide +kernel
theorem dX4_agrees_21 : decode cX4_agrees 21 = .ok (.iload_n 1, 1) := by decide +kernel
theorem dX4_agrees_22 : decode cX4_agrees 22 = .ok (.if_icmp .ne 40, 3) := by decide +kernel
theorem dX4_agrees_25 : decode cX4_agrees 25 = .ok (.aload_n 0, 1) := by decide +kernel
theorem dX4_agrees_26 : decode cX4_agrees 26 = .ok (.iload 4, 2) := by decide +kernel
theorem dX4_agrees_28 : decode cX4_agrees 28 = .ok (.invokevirtual 39, 3) := by decide +kernel
theorem dX4_agrees_31 : decode cX4_agrees 31 = .ok (.ifCond .eq 31, 3) := by decide +kernel
theorem dX4_agrees_34 : decode cX4_agrees 34 = .ok (.iload_n 2, 1) := by decide +kernel
theorem dX4_agrees_35 : decode cX4_agrees 35 = .ok (.aload_n 0, 1) := by decide +kernel
theorem dX4_agrees_36 : decode cX4_agrees 36 = .ok (.getfield 19, 3) := by decide +kernel
theorem dX4_agrees_39 : decode cX4_agrees 39 = .ok (.iload 4, 2) := by decide +kernel
theorem dX4_agrees_41 : decode cX4_agrees 41 = .ok (.iaload, 1) := by decide +kernel
theorem dX4_agrees_42 : decode cX4_agrees 42 = .ok (.if_icmp .lt 7, 3) := by decide +kernel
theorem dX4_agrees_45 : decode cX4_agrees 45 = .ok (.iconst 1, 1) := by decide +kernel
theorem dX4_agrees_46 : decode cX4_agrees 46 = .ok (.goto 4, 3) := by decide +kernel
theorem dX4_agrees_49 : decode cX4_agrees 49 = .ok (.iconst 0, 1) := by decide +kernel
theorem dX4_agrees_50 : decode cX4_agrees 50 = .ok (.aload_n 0, 1) := by decide +kernel
theorem dX4_agrees_51 : decode cX4_agrees 51 = .ok (.getfield 22, 3) := by decide +kernel
theorem dX4_agrees_54 : decode cX4_agrees 54 = .ok (.iload 4, 2) := by decide +kernel
theorem dX4_agrees_56 : decode cX4_agrees 56 = .ok (.baload, 1) := by decide +kernel
theorem dX4_agrees_57 : decode cX4_agrees 57 = .ok (.if_icmp .eq 5, 3) := by decide +kernel
theorem dX4_agrees_60 : decode cX4_agrees 60 = .ok (.iconst 0, 1) := by decide +kernel
theorem dX4_agrees_61 : decode cX4_agrees 61 = .ok (.ireturn, 1) := by decide +kernel
theorem dX4_agrees_62 : decode cX4_agrees 62 = .ok (.iinc 4 1, 3) := by decide +kernel
theorem dX4_agrees_65 : decode cX4_agrees 65 = .ok (.goto (-57), 3) := by decide +kernel
theorem dX4_agrees_68 : decode cX4_agrees 68 = .ok (.iconst 1, 1) := by decide +kernel
theorem dX4_agrees_69 : decode cX4_agrees 69 = .ok (.ireturn, 1) := by decide +kernel
def f_X4_agrees (M : MM) (p1 : Int) (p2 : Int) : Option (Int) :=
(f_X4_knownBy M).bind fun x1 =>
lp (X := Int) (Y := Int) (fun x2 =>
if x2 < x1 then
(gd (0 ≤ x2 ∧ x2 < (24 : Int)) <|
bS ((if (M 79 (x2).toNat) = p1 then
((f_X4_isKnownWear M x2).bind fun x6 =>
if x6 = 0 then
(some (Sum.inl ()))
else
gd (0 ≤ x2 ∧ x2 < (24 : Int)) <|
((if p2 < (M 80 (x2).toNat) then
(some 0)
else
some 1) : Option (Int)).bind fun x10 =>
gd (0 ≤ x2 ∧ x2 < (24 : Int)) <|
if x10 = (M 81 (x2).toNat) then
(some (Sum.inl ()))
else
some (Sum.inr 0))
else
some (Sum.inl ())) : Option ((Unit) ⊕ (Int))) (fun x13 =>
some (Sum.inl (w32 (x2 + 1)))) (fun r => (Sum.inr r)))
else
some (Sum.inr 1)) FU 0
set_option maxRecDepth 4000 in
theorem c_X4_agrees {E : EE} {sh : List (Nat × Nat)} {ex : Bool} {R : RM} {M : MM} {p1 : Int} {p2 : Int} (hE : Ext sh) (hL : Links R) : ∀ y, f_X4_agrees M p1 p2 = some y → MetC E m_X4_agrees 0 0 [rV 78, iV p1, iV p2] (sh, ex, R, M) (fun r w' => r = some (iV y) ∧ w' = (sh, ex, R, M)) := by
  intro y hy
  refine MetC.seg (o := f_X4_agrees M p1 p2) (t := (fun K y => K (some (iV y)) (sh, ex, R, M))) (L := [some (rV 78), some (iV p1), some (iV p2), none, none]) (by decide) rfl (Nat.le_of_ble_eq_true rfl) ?_ hy ⟨rfl, rfl⟩
  unfold f_X4_agrees
  refine Seg.step (pc' := 1) (I_aload_n (i := 0) dX4_agrees_0 rfl rfl) ?_
  refine S_callV0 (md' := m_X4_knownBy) (fun y => some (iV y)) (fun y => (sh, ex, R, M)) (hE _ _ sk_4) ⟨by decide, rfl⟩ mm_X4_knownBy wm_4_35 ⟨rfl, rfl, by decide, by decide, by decide, by decide⟩ (Nat.le_of_ble_eq_true rfl) dX4_agrees_1 (fun y hy => c_X4_knownBy hE hL y hy) (fun x1 => ?_)
  refine Seg.step (pc' := 5) (I_istore_n (i := 3) dX4_agrees_4 rfl (by decide) rfl) ?_
  refine Seg.step (pc' := 6) (I_iconst dX4_agrees_5 ⟨by decide, by decide⟩) ?_
  refine Seg.step (pc' := 8) (I_istore dX4_agrees_6 (by decide) rfl) ?_
  refine Seg.forget (Lle.ye (Lle.ye (Lle.ye (Lle.ye (Lle.ye (Lle.nil)))))) ?_
  refine S_loop (Y := Int) (fun y => [some (rV 78), some (iV p1), some (iV p2), some (iV x1), some (iV y)]) (fun y => []) (fun y => (sh, ex, R, M)) (fun x2 => ?_) FU 0
  refine Seg.step (pc' := 10) (I_iload dX4_agrees_8 rfl) ?_
  refine Seg.step (pc' := 11) (I_iload_n (i := 3) dX4_agrees_10 rfl rfl) ?_
  refine S_icmp_ge (tgt := 68) dX4_agrees_11 (by decide) (fun h3 => ?_) (fun h3 => ?_)
  · refine Seg.step (pc' := 15) (I_aload_n (i := 0) dX4_agrees_14 rfl rfl) ?_
    refine Seg.step (pc' := 18) (I_getR cls4 (by decide) wf_4_15 (hE _ _ sk_4) rfl (lk_4_2 hL) dX4_agrees_15) ?_
    refine Seg.step (pc' := 20) (I_iload dX4_agrees_18 rfl) ?_
    refine S_gd fun h4 => ?_
    refine Seg.step (pc' := 21) (I_iald (hE _ _ sk_4_2) h4 dX4_agrees_20) ?_
    refine Seg.step (pc' := 22) (I_iload_n (i := 1) dX4_agrees_21 rfl rfl) ?_
    refine S_bind2 (Y := Unit) (k' := 0) (n' := 0) 62 (fun y => [some (rV 78), some (iV p1), some (iV p2), some (iV x1), some (iV x2)]) (fun y => []) (fun y => (sh, ex, R, M)) ?_ (fun x13 => ?_)
    · refine S_icmp_ne (tgt := 62) dX4_agrees_22 (by decide) (fun h5 => ?_) (fun h5 => ?_)
      · refine Seg.step (pc' := 26) (I_aload_n (i := 0) dX4_agrees_25 rfl rfl) ?_
        refine Seg.step (pc' := 28) (I_iload dX4_agrees_26 rfl) ?_
        refine S_callV1 (md' := m_X4_isKnownWear) (fun y => some (iV y)) (fun y => (sh, ex, R, M)) (hE _ _ sk_4) ⟨by decide, rfl⟩ mm_X4_isKnownWear wm_4_39 ⟨rfl, rfl, by decide, by decide, by decide, by decide⟩ (Nat.le_of_ble_eq_true rfl) dX4_agrees_28 (fun y hy => c_X4_isKnownWear hE hL y hy) (fun x6 => ?_)
        refine S_if_eq (tgt := 62) dX4_agrees_31 (by decide) (fun h7 => ?_) (fun h7 => ?_)
        · exact S_arr (fun K hK => GG.forget (Lle.ye (Lle.ye (Lle.ye (Lle.ye (Lle.ye (Lle.nil)))))) hK)
        refine Seg.step (pc' := 35) (I_iload_n (i := 2) dX4_agrees_34 rfl rfl) ?_
        refine Seg.step (pc' := 36) (I_aload_n (i := 0) dX4_agrees_35 rfl rfl) ?_
        refine Seg.step (pc' := 39) (I_getR cls4 (by decide) wf_4_19 (hE _ _ sk_4) rfl (lk_4_3 hL) dX4_agrees_36) ?_
        refine Seg.step (pc' := 41) (I_iload dX4_agrees_39 rfl) ?_
        refine S_gd fun h8 => ?_
        refine Seg.step (pc' := 42) (I_iald (hE _ _ sk_4_3) h8 dX4_agrees_41) ?_
        refine S_bind (Y := Int) (k' := 0) (n' := 0) 50 (fun y => [some (rV 78), some (iV p1), some (iV p2), some (iV x1), some (iV x2)]) (fun y => [iV y]) (fun y => (sh, ex, R, M)) ?_ (fun x10 => ?_)
        · refine S_icmp_lt (tgt := 49) dX4_agrees_42 (by decide) (fun h9 => ?_) (fun h9 => ?_)
          · refine Seg.step (pc' := 50) (I_iconst dX4_agrees_49 ⟨by decide, by decide⟩) ?_
            exact S_arr (fun K hK => GG.forget (Lle.ye (Lle.ye (Lle.ye (Lle.ye (Lle.ye (Lle.nil)))))) hK)
          refine Seg.step (pc' := 46) (I_iconst dX4_agrees_45 ⟨by decide, by decide⟩) ?_
          refine Seg.step (pc' := 50) (I_goto (tgt := 50) dX4_agrees_46 (by decide)) ?_
          exact S_arr (fun K hK => GG.forget (Lle.ye (Lle.ye (Lle.ye (Lle.ye (Lle.ye (Lle.nil)))))) hK)
        refine Seg.step (pc' := 51) (I_aload_n (i := 0) dX4_agrees_50 rfl rfl) ?_
        refine Seg.step (pc' := 54) (I_getR cls4 (by decide) wf_4_22 (hE _ _ sk_4) rfl (lk_4_4 hL) dX4_agrees_51) ?_
        refine Seg.step (pc' := 56) (I_iload dX4_agrees_54 rfl) ?_
        refine S_gd fun h11 => ?_
        refine Seg.step (pc' := 57) (I_zald (hE _ _ sk_4_4) h11 dX4_agrees_56) ?_
        refine S_icmp_eq (tgt := 62) dX4_agrees_57 (by decide) (fun h12 => ?_) (fun h12 => ?_)
        · exact S_arr (fun K hK => GG.forget (Lle.ye (Lle.ye (Lle.ye (Lle.ye (Lle.ye (Lle.nil)))))) hK)
        refine Seg.step (pc' := 61) (I_iconst dX4_agrees_60 ⟨by decide, by decide⟩) ?_
        exact S_zret dX4_agrees_61 rfl (by decide) (by decide) (by decide) (fun K hK => hK)
      exact S_arr (fun K hK => GG.forget (Lle.ye (Lle.ye (Lle.ye (Lle.ye (Lle.ye (Lle.nil)))))) hK)
    refine Seg.step (pc' := 65) (I_iinc dX4_agrees_62 rfl (by decide) rfl) ?_
    refine Seg.step (pc' := 8) (I_goto (tgt := 8) dX4_agrees_65 (by decide)) ?_
    exact S_arr (fun K hK => GG.forget (Lle.ye (Lle.ye (Lle.ye (Lle.ye (Lle.ye (Lle.nil)))))) hK)
  refine Seg.step (pc' := 69) (I_iconst dX4_agrees_68 ⟨by decide, by decide⟩) ?_
  exact S_zret dX4_agrees_69 rfl (by decide) (by decide) (by decide) (fun K hK => hK)
theorem dX5_note_0 : decode cX5_note 0 = .ok (.aload_n 0, 1) := by decide +kernel
theorem dX5_note_1 : decode cX5_note 1 = .ok (.getfield 21, 3) := by decide +kernel
theorem dX5_note_4 : decode cX5_note 4 = .ok (.bipush 20, 2) := by decide +kernel
theorem dX5_note_6 : decode cX5_note 6 = .ok (.if_icmp .lt 60, 3) := by decide +kernel
theorem dX5_note_9 : decode cX5_note 9 = .ok (.aload_n 0, 1) := by decide +kernel
theorem dX5_note_10 : decode cX5_note 10 = .ok (.bipush 19, 2) := by decide +kernel
theorem dX5_note_12 : decode cX5_note 12 = .ok (.putfield 21, 3) := by decide +kernel
theorem dX5_note_15 : decode cX5_note 15 = .ok (.aload_n 0, 1) := by decide +kernel
theorem dX5_note_16 : decode cX5_note 16 = .ok (.getfield 9, 3) := by decide +kernel
theorem dX5_note_19 : decode cX5_note 19 = .ok (.iconst 1, 1) := by decide +kernel
theorem dX5_note_20 : decode cX5_note 20 = .ok (.aload_n 0, 1) := by decide +kernel
theorem dX5_note_21 : decode cX5_note 21 = .ok (.getfield 9, 3) := by decide +kernel
theorem dX5_note_24 : decode cX5_note 24 = .ok (.iconst 0, 1) := by decide +kernel
theorem dX5_note_25 : decode cX5_note 25 = .ok (.aload_n 0, 1) := by decide +kernel
theorem dX5_note_26 : decode cX5_note 26 = .ok (.getfield 21, 3) := by decide +kernel
theorem dX5_note_29 : decode cX5_note 29 = .ok (.invokestatic 25, 3) := by decide +kernel
theorem dX5_note_32 : decode cX5_note 32 = .ok (.aload_n 0, 1) := by decide +kernel
theorem dX5_note_33 : decode cX5_note 33 = .ok (.getfield 15, 3) := by decide +kernel
theorem dX5_note_36 : decode cX5_note 36 = .ok (.iconst 1, 1) := by decide +kernel
theorem dX5_note_37 : decode cX5_note 37 = .ok (.aload_n 0, 1) := by decide +kernel
theorem dX5_note_38 : decode cX5_note 38 = .ok (.getfield 15, 3) := by decide +kernel
theorem dX5_note_41 : decode cX5_note 41 = .ok (.iconst 0, 1) := by decide +kernel
theorem dX5_note_42 : decode cX5_note 42 = .ok (.aload_n 0, 1) := by decide +kernel
theorem dX5_note_43 : decode cX5_note 43 = .ok (.getfield 21, 3) := by decide +kernel
theorem dX5_note_46 : decode cX5_note 46 = .ok (.invokestatic 25, 3) := by decide +kernel
theorem dX5_note_49 : decode cX5_note 49 = .ok (.aload_n 0, 1) := by decide +kernel
theorem dX5_note_50 : decode cX5_note 50 = .ok (.getfield 18, 3) := by decide +kernel
theorem dX5_note_53 : decode cX5_note 53 = .ok (.iconst 1, 1) := by decide +kernel
theorem dX5_note_54 : decode cX5_note 54 = .ok (.aload_n 0, 1) := by decide +kernel
theorem dX5_note_55 : decode cX5_note 55 = .ok (.getfield 18, 3) := by decide +kernel
theorem dX5_note_58 : decode cX5_note 58 = .ok (.iconst 0, 1) := by decide +kernel
theorem dX5_note_59 : decode cX5_note 59 = .ok (.aload_n 0, 1) := by decide +kernel
theorem dX5_note_60 : decode cX5_note 60 = .ok (.getfield 21, 3) := by decide +kernel
theorem dX5_note_63 : decode cX5_note 63 = .ok (.invokestatic 25, 3) := by decide +kernel
theorem dX5_note_66 : decode cX5_note 66 = .ok (.aload_n 0, 1) := by decide +kernel
theorem dX5_note_67 : decode cX5_note 67 = .ok (.getfield 9, 3) := by decide +kernel
theorem dX5_note_70 : decode cX5_note 70 = .ok (.aload_n 0, 1) := by decide +kernel
theorem dX5_note_71 : decode cX5_note 71 = .ok (.getfield 21, 3) := by decide +kernel
theorem dX5_note_74 : decode cX5_note 74 = .ok (.iload_n 1, 1) := by decide +kernel
theorem dX5_note_75 : decode cX5_note 75 = .ok (.iastore, 1) := by decide +kernel
theorem dX5_note_76 : decode cX5_note 76 = .ok (.aload_n 0, 1) := by decide +kernel
theorem dX5_note_77 : decode cX5_note 77 = .ok (.getfield 15, 3) := by decide +kernel
theorem dX5_note_80 : decode cX5_note 80 = .ok (.aload_n 0, 1) := by decide +kernel
theorem dX5_note_81 : decode cX5_note 81 = .ok (.getfield 21, 3) := by decide +kernel
theorem dX5_note_84 : decode cX5_note 84 = .ok (.iload_n 2, 1) := by decide +kernel
theorem dX5_note_85 : decode cX5_note 85 = .ok (.iastore, 1) := by decide +kernel
theorem dX5_note_86 : decode cX5_note 86 = .ok (.aload_n 0, 1) := by decide +kernel
theorem dX5_note_87 : decode cX5_note 87 = .ok (.getfield 18, 3) := by decide +kernel
theorem dX5_note_90 : decode cX5_note 90 = .ok (.aload_n 0, 1) := by decide +kernel
theorem dX5_note_91 : decode cX5_note 91 = .ok (.getfield 21, 3) := by decide +kernel
theorem dX5_note_94 : decode cX5_note 94 = .ok (.iload_n 3, 1) := by decide +kernel
theorem dX5_note_95 : decode cX5_note 95 = .ok (.iastore, 1) := by decide +kernel
theorem dX5_note_96 : decode cX5_note 96 = .ok (.aload_n 0, 1) := by decide +kernel
theorem dX5_note_97 : decode cX5_note 97 = .ok (.dup, 1) := by decide +kernel
theorem dX5_note_98 : decode cX5_note 98 = .ok (.getfield 21, 3) := by decide +kernel
theorem dX5_note_101 : decode cX5_note 101 = .ok (.iconst 1, 1) := by decide +kernel
theorem dX5_note_102 : decode cX5_note 102 = .ok (.iadd, 1) := by decide +kernel
theorem dX5_note_103 : decode cX5_note 103 = .ok (.putfield 21, 3) := by decide +kernel
theorem dX5_note_106 : decode cX5_note 106 = .ok (.return_, 1) := by decide +kernel
def f_X5_note (M : MM) (p1 : Int) (p2 : Int) (p3 : Int) : Option (MM) :=
((if (M 84 0) < 20 then
(some M)
else
bM (upM M 84 0 19) fun M2 =>
gd (0 ≤ (1 : Int) ∧ 0 ≤ (0 : Int) ∧ 0 ≤ (M2 84 0 : Int) ∧ 1 + M2 84 0 ≤ (20 : Int) ∧ 0 + M2 84 0 ≤ (20 : Int)) <|
bM (cpM M2 85 85 1 0 (M2 84 0).toNat) fun M4 =>
gd (0 ≤ (1 : Int) ∧ 0 ≤ (0 : Int) ∧ 0 ≤ (M4 84 0 : Int) ∧ 1 + M4 84 0 ≤ (20 : Int) ∧ 0 + M4 84 0 ≤ (20 : Int)) <|
bM (cpM M4 86 86 1 0 (M4 84 0).toNat) fun M6 =>
gd (0 ≤ (1 : Int) ∧ 0 ≤ (0 : Int) ∧ 0 ≤ (M6 84 0 : Int) ∧ 1 + M6 84 0 ≤ (20 : Int) ∧ 0 + M6 84 0 ≤ (20 : Int)) <|
bM (cpM M6 87 87 1 0 (M6 84 0).toNat) fun M8 =>
some M8) : Option (MM)).bind fun x9 =>
gd (0 ≤ x9 84 0 ∧ x9 84 0 < (20 : Int)) <|
bM (upM x9 85 (x9 84 0).toNat p1) fun M11 =>
gd (0 ≤ M11 84 0 ∧ M11 84 0 < (20 : Int)) <|
bM (upM M11 86 (M11 84 0).toNat p2) fun M13 =>
gd (0 ≤ M13 84 0 ∧ M13 84 0 < (20 : Int)) <|
bM (upM M13 87 (M13 84 0).toNat p3) fun M15 =>
bM (upM M15 84 0 (w32 ((M15 84 0) + 1))) fun M16 =>
some M16
set_option maxRecDepth 4000 in
theorem c_X5_note {E : EE} {sh : List (Nat × Nat)} {R : RM} {M : MM} {p1 : Int} {p2 : Int} {p3 : Int} (hE : Ext sh) (hL : Links R) : ∀ y, f_X5_note M p1 p2 p3 = some y → MetC E m_X5_note 0 0 [rV 84, iV p1, iV p2, iV p3] (sh, false, R, M) (fun r w' => r = none ∧ w' = (sh, false, R, y)) := by
  intro y hy
  refine MetC.seg (o := f_X5_note M p1 p2 p3) (t := (fun K y => K (none) (sh, false, R, y))) (L := [some (rV 84), some (iV p1), some (iV p2), some (iV p3)]) (by decide) rfl (Nat.le_of_ble_eq_true rfl) ?_ hy ⟨rfl, rfl⟩
  unfold f_X5_note
  refine Seg.step (pc' := 1) (I_aload_n (i := 0) dX5_note_0 rfl rfl) ?_
  refine Seg.step (pc' := 4) (I_getI cls5 (by decide) wf_5_21 (hE _ _ sk_5) rfl dX5_note_1) ?_
  refine Seg.step (pc' := 6) (I_bipush dX5_note_4 (by decide) ⟨by decide, by decide⟩) ?_
  refine S_bind (Y := MM) (k' := 0) (n' := 0) 66 (fun y => [some (rV 84), some (iV p1), some (iV p2), some (iV p3)]) (fun y => []) (fun y => (sh, false, R, y)) ?_ (fun x9 => ?_)
  · refine S_icmp_lt (tgt := 66) dX5_note_6 (by decide) (fun h1 => ?_) (fun h1 => ?_)
    · exact S_arr (fun K hK => GG.forget (Lle.ye (Lle.ye (Lle.ye (Lle.ye (Lle.nil))))) hK)
    refine Seg.step (pc' := 10) (I_aload_n (i := 0) dX5_note_9 rfl rfl) ?_
    refine Seg.step (pc' := 12) (I_bipush dX5_note_10 (by decide) ⟨by decide, by decide⟩) ?_
    refine Seg.step (pc' := 15) (I_putI cls5 (by decide) wf_5_21 (hE _ _ sk_5) rfl rfl dX5_note_12) ?_
    refine S_bM fun M2 => ?_
    refine Seg.step (pc' := 16) (I_aload_n (i := 0) dX5_note_15 rfl rfl) ?_
    refine Seg.step (pc' := 19) (I_getR cls5 (by decide) wf_5_9 (hE _ _ sk_5) rfl (lk_5_1 hL) dX5_note_16) ?_
    refine Seg.step (pc' := 20) (I_iconst dX5_note_19 ⟨by decide, by decide⟩) ?_
    refine Seg.step (pc' := 21) (I_aload_n (i := 0) dX5_note_20 rfl rfl) ?_
    refine Seg.step (pc' := 24) (I_getR cls5 (by decide) wf_5_9 (hE _ _ sk_5) rfl (lk_5_1 hL) dX5_note_21) ?_
    refine Seg.step (pc' := 25) (I_iconst dX5_note_24 ⟨by decide, by decide⟩) ?_
    refine Seg.step (pc' := 26) (I_aload_n (i := 0) dX5_note_25 rfl rfl) ?_
    refine Seg.step (pc' := 29) (I_getI cls5 (by decide) wf_5_21 (hE _ _ sk_5) rfl dX5_note_26) ?_
    refine S_gd fun h3 => ?_
    refine Seg.step (I_copy wm_5_25 wj_ac_n wj_ac_s wj_ac_i (hE _ _ sk_5_1) (hE _ _ sk_5_1) h3 (by decide) (Nat.le_of_ble_eq_true rfl) dX5_note_29) ?_
    refine S_bM fun M4 => ?_
    refine Seg.step (pc' := 33) (I_aload_n (i := 0) dX5_note_32 rfl rfl) ?_
    refine Seg.step (pc' := 36) (I_getR cls5 (by decide) wf_5_15 (hE _ _ sk_5) rfl (lk_5_2 hL) dX5_note_33) ?_
    refine Seg.step (pc' := 37) (I_iconst dX5_note_36 ⟨by decide, by decide⟩) ?_
    refine Seg.step (pc' := 38) (I_aload_n (i := 0) dX5_note_37 rfl rfl) ?_
    refine Seg.step (pc' := 41) (I_getR cls5 (by decide) wf_5_15 (hE _ _ sk_5) rfl (lk_5_2 hL) dX5_note_38) ?_
    refine Seg.step (pc' := 42) (I_iconst dX5_note_41 ⟨by decide, by decide⟩) ?_
    refine Seg.step (pc' := 43) (I_aload_n (i := 0) dX5_note_42 rfl rfl) ?_
    refine Seg.step (pc' := 46) (I_getI cls5 (by decide) wf_5_21 (hE _ _ sk_5) rfl dX5_note_43) ?_
    refine S_gd fun h5 => ?_
    refine Seg.step (I_copy wm_5_25 wj_ac_n wj_ac_s wj_ac_i (hE _ _ sk_5_2) (hE _ _ sk_5_2) h5 (by decide) (Nat.le_of_ble_eq_true rfl) dX5_note_46) ?_
    refine S_bM fun M6 => ?_
    refine Seg.step (pc' := 50) (I_aload_n (i := 0) dX5_note_49 rfl rfl) ?_
    refine Seg.step (pc' := 53) (I_getR cls5 (by decide) wf_5_18 (hE _ _ sk_5) rfl (lk_5_3 hL) dX5_note_50) ?_
    refine Seg.step (pc' := 54) (I_iconst dX5_note_53 ⟨by decide, by decide⟩) ?_
    refine Seg.step (pc' := 55) (I_aload_n (i := 0) dX5_note_54 rfl rfl) ?_
    refine Seg.step (pc' := 58) (I_getR cls5 (by decide) wf_5_18 (hE _ _ sk_5) rfl (lk_5_3 hL) dX5_note_55) ?_
    refine Seg.step (pc' := 59) (I_iconst dX5_note_58 ⟨by decide, by decide⟩) ?_
    refine Seg.step (pc' := 60) (I_aload_n (i := 0) dX5_note_59 rfl rfl) ?_
    refine Seg.step (pc' := 63) (I_getI cls5 (by decide) wf_5_21 (hE _ _ sk_5) rfl dX5_note_60) ?_
    refine S_gd fun h7 => ?_
    refine Seg.step (I_copy wm_5_25 wj_ac_n wj_ac_s wj_ac_i (hE _ _ sk_5_3) (hE _ _ sk_5_3) h7 (by decide) (Nat.le_of_ble_eq_true rfl) dX5_note_63) ?_
    refine S_bM fun M8 => ?_
    exact S_arr (fun K hK => GG.forget (Lle.ye (Lle.ye (Lle.ye (Lle.ye (Lle.nil))))) hK)
  refine Seg.step (pc' := 67) (I_aload_n (i := 0) dX5_note_66 rfl rfl) ?_
  refine Seg.step (pc' := 70) (I_getR cls5 (by decide) wf_5_9 (hE _ _ sk_5) rfl (lk_5_1 hL) dX5_note_67) ?_
  refine Seg.step (pc' := 71) (I_aload_n (i := 0) dX5_note_70 rfl rfl) ?_
  refine Seg.step (pc' := 74) (I_getI cls5 (by decide) wf_5_21 (hE _ _ sk_5) rfl dX5_note_71) ?_
  refine Seg.step (pc' := 75) (I_iload_n (i := 1) dX5_note_74 rfl rfl) ?_
  refine S_gd fun h10 => ?_
  refine Seg.step (pc' := 76) (I_iast (hE _ _ sk_5_1) h10 dX5_note_75) ?_
  refine S_bM fun M11 => ?_
  refine Seg.step (pc' := 77) (I_aload_n (i := 0) dX5_note_76 rfl rfl) ?_
  refine Seg.step (pc' := 80) (I_getR cls5 (by decide) wf_5_15 (hE _ _ sk_5) rfl (lk_5_2 hL) dX5_note_77) ?_
  refine Seg.step (pc' := 81) (I_aload_n (i := 0) dX5_note_80 rfl rfl) ?_
  refine Seg.step (pc' := 84) (I_getI cls5 (by decide) wf_5_21 (hE _ _ sk_5) rfl dX5_note_81) ?_
  refine Seg.step (pc' := 85) (I_iload_n (i := 2) dX5_note_84 rfl rfl) ?_
  refine S_gd fun h12 => ?_
  refine Seg.step (pc' := 86) (I_iast (hE _ _ sk_5_2) h12 dX5_note_85) ?_
  refine S_bM fun M13 => ?_
  refine Seg.step (pc' := 87) (I_aload_n (i := 0) dX5_note_86 rfl rfl) ?_
  refine Seg.step (pc' := 90) (I_getR cls5 (by decide) wf_5_18 (hE _ _ sk_5) rfl (lk_5_3 hL) dX5_note_87) ?_
  refine Seg.step (pc' := 91) (I_aload_n (i := 0) dX5_note_90 rfl rfl) ?_
  refine Seg.step (pc' := 94) (I_getI cls5 (by decide) wf_5_21 (hE _ _ sk_5) rfl dX5_note_91) ?_
  refine Seg.step (pc' := 95) (I_iload_n (i := 3) dX5_note_94 rfl rfl) ?_
  refine S_gd fun h14 => ?_
  refine Seg.step (pc' := 96) (I_iast (hE _ _ sk_5_3) h14 dX5_note_95) ?_
  refine S_bM fun M15 => ?_
  refine Seg.step (pc' := 97) (I_aload_n (i := 0) dX5_note_96 rfl rfl) ?_
  refine Seg.step (pc' := 98) (I_dup dX5_note_97 (fun _ h => by cases h)) ?_
  refine Seg.step (pc' := 101) (I_getI cls5 (by decide) wf_5_21 (hE _ _ sk_5) rfl dX5_note_98) ?_
  refine Seg.step (pc' := 102) (I_iconst dX5_note_101 ⟨by decide, by decide⟩) ?_
  refine Seg.step (pc' := 103) (I_iadd dX5_note_102) ?_
  refine Seg.step (pc' := 106) (I_putI cls5 (by decide) wf_5_21 (hE _ _ sk_5) rfl rfl dX5_note_103) ?_
  refine S_bM fun M16 => ?_
  exact S_vret dX5_note_106 rfl (by decide) (by decide) (fun K hK => hK)
theorem dX5_takeBack_0 : decode cX5_takeBack 0 = .ok (.aload_n 0, 1) := by decide +kernel
theorem dX5_takeBack_1 : decode cX5_takeBack 1 = .ok (.dup, 1) := by decide +kernel
theorem dX5_takeBack_2 : decode cX5_takeBack 2 = .ok (.getfield 21, 3) := by decide +kernel
theorem dX5_takeBack_5 : decode cX5_takeBack 5 = .ok (.iconst 1, 1) := by decide +kernel
theorem dX5_takeBack_6 : decode cX5_takeBack 6 = .ok (.isub, 1) := by decide +kernel
theorem dX5_takeBack_7 : decode cX5_takeBack 7 = .ok (.putfield 21, 3) := by decide +kernel
theorem dX5_takeBack_10 : decode cX5_takeBack 10 = .ok (.aload_n 0, 1) := by decide +kernel
theorem dX5_takeBack_11 : decode cX5_takeBack 11 = .ok (.getfield 18, 3) := by decide +kernel
theorem dX5_takeBack_14 : decode cX5_takeBack 14 = .ok (.aload_n 0, 1) := by decide +kernel
theorem dX5_takeBack_15 : decode cX5_takeBack 15 = .ok (.getfield 21, 3) := by decide +kernel
theorem dX5_takeBack_18 : decode cX5_takeBack 18 = .ok (.iaload, 1) := by decide +kernel
theorem dX5_takeBack_19 : decode cX5_takeBack 19 = .ok (.istore_n 2, 1) := by decide +kernel
theorem dX5_takeBack_20 : decode cX5_takeBack 20 = .ok (.aload_n 0, 1) := by decide +kernel
theorem dX5_takeBack_21 : decode cX5_takeBack 21 = .ok (.getfield 9, 3) := by decide +kernel
theorem dX5_takeBack_24 : decode cX5_takeBack 24 = .ok (.aload_n 0, 1) := by decide +kernel
theorem dX5_takeBack_25 : decode cX5_takeBack 25 = .ok (.getfield 21, 3) := by decide +kernel
theorem dX5_takeBack_28 : decode cX5_takeBack 28 = .ok (.iaload, 1) := by decide +kernel
theorem dX5_takeBack_29 : decode cX5_takeBack 29 = .ok (.tableswitch 60 0 2 #[27, 35, 43], 27) := by decide +kernel
theorem dX5_takeBack_56 : decode cX5_takeBack 56 = .ok (.aload_n 1, 1) := by decide +kernel
theorem dX5_takeBack_57 : decode cX5_takeBack 57 = .ok (.iload_n 2, 1) := by decide +kernel
theorem dX5_takeBack_58 : decode cX5_takeBack 58 = .ok (.putfield 31, 3) := by decide +kernel
theorem dX5_takeBack_61 : decode cX5_takeBack 61 = .ok (.goto 52, 3) := by decide +kernel
theorem dX5_takeBack_64 : decode cX5_takeBack 64 = .ok (.aload_n 1, 1) := by decide +kernel
theorem dX5_takeBack_65 : decode cX5_takeBack 65 = .ok (.iload_n 2, 1) := by decide +kernel
theorem dX5_takeBack_66 : decode cX5_takeBack 66 = .ok (.putfield 36, 3) := by decide +kernel
theorem dX5_takeBack_69 : decode cX5_takeBack 69 = .ok (.goto 44, 3) := by decide +kernel
theorem dX5_takeBack_72 : decode cX5_takeBack 72 = .ok (.aload_n 1, 1) := by decide +kernel
theorem dX5_takeBack_73 : decode cX5_takeBack 73 = .ok (.iload_n 2, 1) := by decide +kernel
theorem dX5_takeBack_74 : decode cX5_takeBack 74 = .ok (.iconst 1, 1) := by decide +kernel
theorem dX5_takeBack_75 : decode cX5_takeBack 75 = .ok (.if_icmp .ne 7, 3) := by decide +kernel
theorem dX5_takeBack_78 : decode cX5_takeBack 78 = .ok (.iconst 1, 1) := by decide +kernel
theorem dX5_takeBack_79 : decode cX5_takeBack 79 = .ok (.goto 4, 3) := by decide +kernel
theorem dX5_takeBack_82 : decode cX5_takeBack 82 = .ok (.iconst 0, 1) := by decide +kernel
theorem dX5_takeBack_83 : decode cX5_takeBack 83 = .ok (.putfield 39, 3) := by decide +kernel
theorem dX5_takeBack_86 : decode cX5_takeBack 86 = .ok (.goto 27, 3) := by decide +kernel
theorem dX5_takeBack_89 : decode cX5_takeBack 89 = .ok (.aload_n 1, 1) := by decide +kernel
theorem dX5_takeBack_90 : decode cX5_takeBack 90 = .ok (.getfield 43, 3) := by decide +kernel
theorem dX5_takeBack_93 : decode cX5_takeBack 93 = .ok (.aload_n 0, 1) := by decide +kernel
theorem dX5_takeBack_94 : decode cX5_takeBack 94 = .ok (.getfield 15, 3) := by decide +kernel
theorem dX5_takeBack_97 : decode cX5_takeBack 97 = .ok (.aload_n 0, 1) := by decide +kernel
theorem dX5_takeBack_98 : decode cX5_takeBack 98 = .ok (.getfield 21, 3) := by decide +kernel
theorem dX5_takeBack_101 : decode cX5_takeBack 101 = .ok (.iaload, 1) := by decide +kernel
theorem dX5_takeBack_102 : decode cX5_takeBack 102 = .ok (.iload_n 2, 1) := by decide +kernel
theorem dX5_takeBack_103 : decode cX5_takeBack 103 = .ok (.iconst 1, 1) := by decide +kernel
theorem dX5_takeBack_104 : decode cX5_takeBack 104 = .ok (.if_icmp .ne 7, 3) := by decide +kernel
theorem dX5_takeBack_107 : decode cX5_takeBack 107 = .ok (.iconst 1, 1) := by decide +kernel
theorem dX5_takeBack_108 : decode cX5_takeBack 108 = .ok (.goto 4, 3) := by decide +kernel
theorem dX5_takeBack_111 : decode cX5_takeBack 111 = .ok (.iconst 0, 1) := by decide +kernel
theorem dX5_takeBack_112 : decode cX5_takeBack 112 = .ok (.bastore, 1) := by decide +kernel
theorem dX5_takeBack_113 : decode cX5_takeBack 113 = .ok (.return_, 1) := by decide +kernel
def f_X5_takeBack (M : MM) (a1 : Nat) : Option (MM) :=
bM (upM M 84 0 (w32 ((M 84 0) - 1))) fun M1 =>
gd (0 ≤ M1 84 0 ∧ M1 84 0 < (20 : Int)) <|
bI (M1 87 (M1 84 0).toNat) fun x3 =>
gd (0 ≤ M1 84 0 ∧ M1 84 0 < (20 : Int)) <|
if (M1 85 (M1 84 0).toNat) = 0 then
(bM (upM M1 a1 3 x3) fun M6 =>
some M6)
else
if (M1 85 (M1 84 0).toNat) = 1 then
(bM (upM M1 a1 4 x3) fun M8 =>
some M8)
else
if (M1 85 (M1 84 0).toNat) = 2 then
(((if x3 = 1 then
(some 1)
else
some 0) : Option (Int)).bind fun x11 =>
gd (x11 = 0 ∨ x11 = 1) <|
bM (upM M1 a1 5 x11) fun M13 =>
some M13)
else
gd (0 ≤ M1 84 0 ∧ M1 84 0 < (20 : Int)) <|
((if x3 = 1 then
(some 1)
else
some 0) : Option (Int)).bind fun x16 =>
gd (0 ≤ M1 86 (M1 84 0).toNat ∧ M1 86 (M1 84 0).toNat < (5 : Int)) <|
gd (x16 = 0 ∨ x16 = 1) <|
bM (upM M1 (a1 + 2) (M1 86 (M1 84 0).toNat).toNat x16) fun M19 =>
some M19
set_option maxRecDepth 4000 in
theorem c_X5_takeBack {E : EE} {sh : List (Nat × Nat)} {ex : Bool} {R : RM} {M : MM} {a1 : Nat} (hE : Ext sh) (hL : Links R) (hs1 : SH0[a1]? = some (0, 18)) : ∀ y, f_X5_takeBack M a1 = some y → MetC E m_X5_takeBack 0 0 [rV 84, rV a1] (sh, ex, R, M) (fun r w' => r = none ∧ w' = (sh, ex, R, y)) := by
  intro y hy
  refine MetC.seg (o := f_X5_takeBack M a1) (t := (fun K y => K (none) (sh, ex, R, y))) (L := [some (rV 84), some (rV a1), none]) (by decide) rfl (Nat.le_of_ble_eq_true rfl) ?_ hy ⟨rfl, rfl⟩
  unfold f_X5_takeBack
  refine Seg.step (pc' := 1) (I_aload_n (i := 0) dX5_takeBack_0 rfl rfl) ?_
  refine Seg.step (pc' := 2) (I_dup dX5_takeBack_1 (fun _ h => by cases h)) ?_
  refine Seg.step (pc' := 5) (I_getI cls5 (by decide) wf_5_21 (hE _ _ sk_5) rfl dX5_takeBack_2) ?_
  refine Seg.step (pc' := 6) (I_iconst dX5_takeBack_5 ⟨by decide, by decide⟩) ?_
  refine Seg.step (pc' := 7) (I_isub dX5_takeBack_6) ?_
  refine Seg.step (pc' := 10) (I_putI cls5 (by decide) wf_5_21 (hE _ _ sk_5) rfl rfl dX5_takeBack_7) ?_
  refine S_bM fun M1 => ?_
  refine Seg.step (pc' := 11) (I_aload_n (i := 0) dX5_takeBack_10 rfl rfl) ?_
  refine Seg.step (pc' := 14) (I_getR cls5 (by decide) wf_5_18 (hE _ _ sk_5) rfl (lk_5_3 hL) dX5_takeBack_11) ?_
  refine Seg.step (pc' := 15) (I_aload_n (i := 0) dX5_takeBack_14 rfl rfl) ?_
  refine Seg.step (pc' := 18) (I_getI cls5 (by decide) wf_5_21 (hE _ _ sk_5) rfl dX5_takeBack_15) ?_
  refine S_gd fun h2 => ?_
  refine Seg.step (pc' := 19) (I_iald (hE _ _ sk_5_3) h2 dX5_takeBack_18) ?_
  refine S_bI fun x3 => ?_
  refine Seg.step (pc' := 20) (I_istore_n (i := 2) dX5_takeBack_19 rfl (by decide) rfl) ?_
  refine Seg.step (pc' := 21) (I_aload_n (i := 0) dX5_takeBack_20 rfl rfl) ?_
  refine Seg.step (pc' := 24) (I_getR cls5 (by decide) wf_5_9 (hE _ _ sk_5) rfl (lk_5_1 hL) dX5_takeBack_21) ?_
  refine Seg.step (pc' := 25) (I_aload_n (i := 0) dX5_takeBack_24 rfl rfl) ?_
  refine Seg.step (pc' := 28) (I_getI cls5 (by decide) wf_5_21 (hE _ _ sk_5) rfl dX5_takeBack_25) ?_
  refine S_gd fun h4 => ?_
  refine Seg.step (pc' := 29) (I_iald (hE _ _ sk_5_1) h4 dX5_takeBack_28) ?_
  refine S_ite (fun h5 => ?_) (fun h5 => ?_)
  · refine Seg.step (I_tsw (v := 0) (off := 27) (tgt := 56) dX5_takeBack_29 h5 (by decide) rfl (by decide)) ?_
    refine Seg.step (pc' := 57) (I_aload_n (i := 1) dX5_takeBack_56 rfl rfl) ?_
    refine Seg.step (pc' := 58) (I_iload_n (i := 2) dX5_takeBack_57 rfl rfl) ?_
    refine Seg.step (pc' := 61) (I_putI cls0 (by decide) wf_5_31 (hE _ _ hs1) rfl rfl dX5_takeBack_58) ?_
    refine S_bM fun M6 => ?_
    refine Seg.step (pc' := 113) (I_goto (tgt := 113) dX5_takeBack_61 (by decide)) ?_
    exact S_vret dX5_takeBack_113 rfl (by decide) (by decide) (fun K hK => hK)
  refine S_ite (fun h7 => ?_) (fun h7 => ?_)
  · refine Seg.step (I_tsw (v := 1) (off := 35) (tgt := 64) dX5_takeBack_29 h7 (by decide) rfl (by decide)) ?_
    refine Seg.step (pc' := 65) (I_aload_n (i := 1) dX5_takeBack_64 rfl rfl) ?_
    refine Seg.step (pc' := 66) (I_iload_n (i := 2) dX5_takeBack_65 rfl rfl) ?_
    refine Seg.step (pc' := 69) (I_putI cls0 (by decide) wf_5_36 (hE _ _ hs1) rfl rfl dX5_takeBack_66) ?_
    refine S_bM fun M8 => ?_
    refine Seg.step (pc' := 113) (I_goto (tgt := 113) dX5_takeBack_69 (by decide)) ?_
    exact S_vret dX5_takeBack_113 rfl (by decide) (by decide) (fun K hK => hK)
  refine S_ite (fun h9 => ?_) (fun h9 => ?_)
  · refine Seg.step (I_tsw (v := 2) (off := 43) (tgt := 72) dX5_takeBack_29 h9 (by decide) rfl (by decide)) ?_
    refine Seg.step (pc' := 73) (I_aload_n (i := 1) dX5_takeBack_72 rfl rfl) ?_
    refine Seg.step (pc' := 74) (I_iload_n (i := 2) dX5_takeBack_73 rfl rfl) ?_
    refine Seg.step (pc' := 75) (I_iconst dX5_takeBack_74 ⟨by decide, by decide⟩) ?_
    refine S_bind (Y := Int) (k' := 0) (n' := 0) 83 (fun y => [none, none, none]) (fun y => [iV y, rV a1]) (fun y => (sh, ex, R, M1)) ?_ (fun x11 => ?_)
    · refine S_icmp_ne (tgt := 82) dX5_takeBack_75 (by decide) (fun h10 => ?_) (fun h10 => ?_)
      · refine Seg.step (pc' := 79) (I_iconst dX5_takeBack_78 ⟨by decide, by decide⟩) ?_
        refine Seg.step (pc' := 83) (I_goto (tgt := 83) dX5_takeBack_79 (by decide)) ?_
        exact S_arr (fun K hK => GG.forget (Lle.no (Lle.no (Lle.no (Lle.nil)))) hK)
      refine Seg.step (pc' := 83) (I_iconst dX5_takeBack_82 ⟨by decide, by decide⟩) ?_
      exact S_arr (fun K hK => GG.forget (Lle.no (Lle.no (Lle.no (Lle.nil)))) hK)
    refine S_gd fun h12 => ?_
    refine Seg.step (pc' := 86) (I_putZ cls0 (by decide) wf_5_39 (hE _ _ hs1) rfl rfl h12 dX5_takeBack_83) ?_
    refine S_bM fun M13 => ?_
    refine Seg.step (pc' := 113) (I_goto (tgt := 113) dX5_takeBack_86 (by decide)) ?_
    exact S_vret dX5_takeBack_113 rfl (by decide) (by decide) (fun K hK => hK)
  refine Seg.step (I_tswd (tgt := 89) dX5_takeBack_29 (by omega) (by decide)) ?_
  refine Seg.step (pc' := 90) (I_aload_n (i := 1) dX5_takeBack_89 rfl rfl) ?_
  refine Seg.step (pc' := 93) (I_getR cls0 (by decide) wf_5_43 (hE _ _ hs1) rfl (lk_0_7 hL hs1) dX5_takeBack_90) ?_
  refine Seg.step (pc' := 94) (I_aload_n (i := 0) dX5_takeBack_93 rfl rfl) ?_
  refine Seg.step (pc' := 97) (I_getR cls5 (by decide) wf_5_15 (hE _ _ sk_5) rfl (lk_5_2 hL) dX5_takeBack_94) ?_
  refine Seg.step (pc' := 98) (I_aload_n (i := 0) dX5_takeBack_97 rfl rfl) ?_
  refine Seg.step (pc' := 101) (I_getI cls5 (by decide) wf_5_21 (hE _ _ sk_5) rfl dX5_takeBack_98) ?_
  refine S_gd fun h14 => ?_
  refine Seg.step (pc' := 102) (I_iald (hE _ _ sk_5_2) h14 dX5_takeBack_101) ?_
  refine Seg.step (pc' := 103) (I_iload_n (i := 2) dX5_takeBack_102 rfl rfl) ?_
  refine Seg.step (pc' := 104) (I_iconst dX5_takeBack_103 ⟨by decide, by decide⟩) ?_
  refine S_bind (Y := Int) (k' := 0) (n' := 0) 112 (fun y => [none, none, none]) (fun y => [iV y, iV (M1 86 (M1 84 0).toNat), rV (a1 + 2)]) (fun y => (sh, ex, R, M1)) ?_ (fun x16 => ?_)
  · refine S_icmp_ne (tgt := 111) dX5_takeBack_104 (by decide) (fun h15 => ?_) (fun h15 => ?_)
    · refine Seg.step (pc' := 108) (I_iconst dX5_takeBack_107 ⟨by decide, by decide⟩) ?_
      refine Seg.step (pc' := 112) (I_goto (tgt := 112) dX5_takeBack_108 (by decide)) ?_
      exact S_arr (fun K hK => GG.forget (Lle.no (Lle.no (Lle.no (Lle.nil)))) hK)
    refine Seg.step (pc' := 112) (I_iconst dX5_takeBack_111 ⟨by decide, by decide⟩) ?_
    exact S_arr (fun K hK => GG.forget (Lle.no (Lle.no (Lle.no (Lle.nil)))) hK)
  refine S_gd fun h17 => ?_
  refine S_gd fun h18 => ?_
  refine Seg.step (pc' := 113) (I_zast (hE _ _ (sk_0_7 hs1)) h17 h18 dX5_takeBack_112) ?_
  refine S_bM fun M19 => ?_
  exact S_vret dX5_takeBack_113 rfl (by decide) (by decide) (fun K hK => hK)
theorem dX9_begin_0 : decode cX9_begin 0 = .ok (.aload_n 0, 1) := by decide +kernel
theorem dX9_begin_1 : decode cX9_begin 1 = .ok (.iload_n 1, 1) := by decide +kernel
theorem dX9_begin_2 : decode cX9_begin 2 = .ok (.aload_n 0, 1) := by decide +kernel
theorem dX9_begin_3 : decode cX9_begin 3 = .ok (.getfield 15, 3) := by decide +kernel
theorem dX9_begin_6 : decode cX9_begin 6 = .ok (.arraylength, 1) := by decide +kernel
theorem dX9_begin_7 : decode cX9_begin 7 = .ok (.invokestatic 35, 3) := by decide +kernel
theorem dX9_begin_10 : decode cX9_begin 10 = .ok (.putfield 40, 3) := by decide +kernel
theorem dX9_begin_13 : decode cX9_begin 13 = .ok (.aload_n 0, 1) := by decide +kernel
theorem dX9_begin_14 : decode cX9_begin 14 = .ok (.iconst 0, 1) := by decide +kernel
theorem dX9_begin_15 : decode cX9_begin 15 = .ok (.putfield 43, 3) := by decide +kernel
theorem dX9_begin_18 : decode cX9_begin 18 = .ok (.aload_n 0, 1) := by decide +kernel
theorem dX9_begin_19 : decode cX9_begin 19 = .ok (.invokevirtual 46, 3) := by decide +kernel
theorem dX9_begin_22 : decode cX9_begin 22 = .ok (.return_, 1) := by decide +kernel
def f_X9_begin (M : MM) (p1 : Int) : Option (MM) :=
bM (upM M 3 2 (if 700 < p1 then 700 else p1)) fun M1 =>
bM (upM M1 3 3 0) fun M2 =>
(f_X9_advance M2).bind fun x3 =>
some x3
set_option maxRecDepth 4000 in
theorem c_X9_begin {E : EE} {sh : List (Nat × Nat)} {ex : Bool} {R : RM} {M : MM} {p1 : Int} (hE : Ext sh) (hL : Links R) : ∀ y, f_X9_begin M p1 = some y → MetC E m_X9_begin 0 0 [rV 3, iV p1] (sh, ex, R, M) (fun r w' => r = none ∧ w' = (sh, ex, R, y)) := by
  intro y hy
  refine MetC.seg (o := f_X9_begin M p1) (t := (fun K y => K (none) (sh, ex, R, y))) (L := [some (rV 3), some (iV p1)]) (by decide) rfl (Nat.le_of_ble_eq_true rfl) ?_ hy ⟨rfl, rfl⟩
  unfold f_X9_begin
  refine Seg.step (pc' := 1) (I_aload_n (i := 0) dX9_begin_0 rfl rfl) ?_
  refine Seg.step (pc' := 2) (I_iload_n (i := 1) dX9_begin_1 rfl rfl) ?_
  refine Seg.step (pc' := 3) (I_aload_n (i := 0) dX9_begin_2 rfl rfl) ?_
  refine Seg.step (pc' := 6) (I_getR cls9 (by decide) wf_9_15 (hE _ _ sk_9) rfl (lk_9_1 hL) dX9_begin_3) ?_
  refine Seg.step (pc' := 7) (I_alen (hE _ _ sk_9_1) (by decide) ⟨by decide, by decide⟩ dX9_begin_6) ?_
  refine Seg.step (I_mmin wm_9_35 wj_min_s wj_Math_i wj_min_c (by decide) (Nat.le_of_ble_eq_true rfl) (by decide) (by decide) dX9_begin_7) ?_
  refine Seg.step (pc' := 13) (I_putI cls9 (by decide) wf_9_40 (hE _ _ sk_9) rfl rfl dX9_begin_10) ?_
  refine S_bM fun M1 => ?_
  refine Seg.step (pc' := 14) (I_aload_n (i := 0) dX9_begin_13 rfl rfl) ?_
  refine Seg.step (pc' := 15) (I_iconst dX9_begin_14 ⟨by decide, by decide⟩) ?_
  refine Seg.step (pc' := 18) (I_putI cls9 (by decide) wf_9_43 (hE _ _ sk_9) rfl rfl dX9_begin_15) ?_
  refine S_bM fun M2 => ?_
  refine Seg.step (pc' := 19) (I_aload_n (i := 0) dX9_begin_18 rfl rfl) ?_
  refine S_callV0 (md' := m_X9_advance) (fun y => none) (fun y => (sh, ex, R, y)) (hE _ _ sk_9) ⟨by decide, rfl⟩ mm_X9_advance wm_9_46 ⟨rfl, rfl, by decide, by decide, by decide, by decide⟩ (Nat.le_of_ble_eq_true rfl) dX9_begin_19 (fun y hy => c_X9_advance hE hL y hy) (fun x3 => ?_)
  exact S_vret dX9_begin_22 rfl (by decide) (by decide) (fun K hK => hK)
theorem dX7_begin_0 : decode cX7_begin 0 = .ok (.aload_n 0, 1) := by decide +kernel
theorem dX7_begin_1 : decode cX7_begin 1 = .ok (.aload_n 2, 1) := by decide +kernel
theorem dX7_begin_2 : decode cX7_begin 2 = .ok (.putfield 29, 3) := by decide +kernel
theorem dX7_begin_5 : decode cX7_begin 5 = .ok (.aload_n 0, 1) := by decide +kernel
theorem dX7_begin_6 : decode cX7_begin 6 = .ok (.getfield 29, 3) := by decide +kernel
theorem dX7_begin_9 : decode cX7_begin 9 = .ok (.invokevirtual 33, 3) := by decide +kernel
theorem dX7_begin_12 : decode cX7_begin 12 = .ok (.aload_n 0, 1) := by decide +kernel
theorem dX7_begin_13 : decode cX7_begin 13 = .ok (.iconst 0, 1) := by decide +kernel
theorem dX7_begin_14 : decode cX7_begin 14 = .ok (.putfield 38, 3) := by decide +kernel
theorem dX7_begin_17 : decode cX7_begin 17 = .ok (.aload_n 0, 1) := by decide +kernel
theorem dX7_begin_18 : decode cX7_begin 18 = .ok (.iconst (-1), 1) := by decide +kernel
theorem dX7_begin_19 : decode cX7_begin 19 = .ok (.putfield 42, 3) := by decide +kernel
theorem dX7_begin_22 : decode cX7_begin 22 = .ok (.aload_n 0, 1) := by decide +kernel
theorem dX7_begin_23 : decode cX7_begin 23 = .ok (.getfield 14, 3) := by decide +kernel
theorem dX7_begin_26 : decode cX7_begin 26 = .ok (.iload_n 1, 1) := by decide +kernel
theorem dX7_begin_27 : decode cX7_begin 27 = .ok (.invokevirtual 45, 3) := by decide +kernel
theorem dX7_begin_30 : decode cX7_begin 30 = .ok (.return_, 1) := by decide +kernel
def f_X7_begin (M : MM) (p1 : Int) (a2 : Nat) : Option (MM) :=
bM (upM M 2 2 (a2 : Int)) fun M1 =>
gH (M1 2 2) fun b2 =>
(f_X2_clear M1 b2).bind fun x3 =>
bM (upM x3 2 5 0) fun M4 =>
bM (upM M4 2 6 (-1)) fun M5 =>
(f_X9_begin M5 p1).bind fun x6 =>
some x6
set_option maxRecDepth 4000 in
theorem c_X7_begin {E : EE} {sh : List (Nat × Nat)} {ex : Bool} {R : RM} {M : MM} {p1 : Int} {a2 : Nat} (hE : Ext sh) (hL : Links R) (hs2 : SH0[a2]? = some (2, 15)) : ∀ y, f_X7_begin M p1 a2 = some y → MetC E m_X7_begin 0 0 [rV 2, iV p1, rV a2] (sh, ex, R, M) (fun r w' => r = none ∧ w' = (sh, ex, R, y)) := by
  intro y hy
  refine MetC.seg (o := f_X7_begin M p1 a2) (t := (fun K y => K (none) (sh, ex, R, y))) (L := [some (rV 2), some (iV p1), some (rV a2)]) (by decide) rfl (Nat.le_of_ble_eq_true rfl) ?_ hy ⟨rfl, rfl⟩
  unfold f_X7_begin
  refine Seg.step (pc' := 1) (I_aload_n (i := 0) dX7_begin_0 rfl rfl) ?_
  refine Seg.step (pc' := 2) (I_aload_n (i := 2) dX7_begin_1 rfl rfl) ?_
  refine Seg.step (pc' := 5) (I_putH cls7 (by decide) wf_7_29 (hE _ _ sk_7) rfl (hkq hs2) rfl dX7_begin_2) ?_
  refine S_bM fun M1 => ?_
  refine Seg.step (pc' := 6) (I_aload_n (i := 0) dX7_begin_5 rfl rfl) ?_
  refine S_gH fun b2 hb2 zb2 => ?_
  refine Seg.step (pc' := 9) (I_getH cls7 (by decide) wf_7_29 (hE _ _ sk_7) rfl zb2 (hkp hb2) dX7_begin_6) ?_
  refine S_callV0 (md' := m_X2_clear) (fun y => none) (fun y => (sh, ex, R, y)) (hE _ _ (hks hb2)) ⟨by decide, rfl⟩ mm_X2_clear wm_7_33 ⟨rfl, rfl, by decide, by decide, by decide, by decide⟩ (Nat.le_of_ble_eq_true rfl) dX7_begin_9 (fun y hy => c_X2_clear hE hL (hks hb2) y hy) (fun x3 => ?_)
  refine Seg.step (pc' := 13) (I_aload_n (i := 0) dX7_begin_12 rfl rfl) ?_
  refine Seg.step (pc' := 14) (I_iconst dX7_begin_13 ⟨by decide, by decide⟩) ?_
  refine Seg.step (pc' := 17) (I_putI cls7 (by decide) wf_7_38 (hE _ _ sk_7) rfl rfl dX7_begin_14) ?_
  refine S_bM fun M4 => ?_
  refine Seg.step (pc' := 18) (I_aload_n (i := 0) dX7_begin_17 rfl rfl) ?_
  refine Seg.step (pc' := 19) (I_iconst dX7_begin_18 ⟨by decide, by decide⟩) ?_
  refine Seg.step (pc' := 22) (I_putI cls7 (by decide) wf_7_42 (hE _ _ sk_7) rfl rfl dX7_begin_19) ?_
  refine S_bM fun M5 => ?_
  refine Seg.step (pc' := 23) (I_aload_n (i := 0) dX7_begin_22 rfl rfl) ?_
  refine Seg.step (pc' := 26) (I_getR cls7 (by decide) wf_7_14 (hE _ _ sk_7) rfl (lk_7_0 hL) dX7_begin_23) ?_
  refine Seg.step (pc' := 27) (I_iload_n (i := 1) dX7_begin_26 rfl rfl) ?_
  refine S_callV1 (md' := m_X9_begin) (fun y => none) (fun y => (sh, ex, R, y)) (hE _ _ sk_7_0) ⟨by decide, rfl⟩ mm_X9_begin wm_7_45 ⟨rfl, rfl, by decide, by decide, by decide, by decide⟩ (Nat.le_of_ble_eq_true rfl) dX7_begin_27 (fun y hy => c_X9_begin hE hL y hy) (fun x6 => ?_)
  exact S_vret dX7_begin_30 rfl (by decide) (by decide) (fun K hK => hK)
theorem dX7_isMore_0 : decode cX7_isMore 0 = .ok (.aload_n 0, 1) := by decide +kernel
theorem dX7_isMore_1 : decode cX7_isMore 1 = .ok (.getfield 14, 3) := by decide +kernel
theorem dX7_isMore_4 : decode cX7_isMore 4 = .ok (.getfield 49, 3) := by decide +kernel
theorem dX7_isMore_7 : decode cX7_isMore 7 = .ok (.iconst 1, 1) := by decide +kernel
theorem dX7_isMore_8 : decode cX7_isMore 8 = .ok (.if_icmp .eq 7, 3) := by decide +kernel
theorem dX7_isMore_11 : decode cX7_isMore 11 = .ok (.iconst 1, 1) := by decide +kernel
theorem dX7_isMore_12 : decode cX7_isMore 12 = .ok (.goto 4, 3) := by decide +kernel
theorem dX7_isMore_15 : decode cX7_isMore 15 = .ok (.iconst 0, 1) := by decide +kernel
theorem dX7_isMore_16 : decode cX7_isMore 16 = .ok (.ireturn, 1) := by decide +kernel
def f_X7_isMore (M : MM)  : Option (Int) :=
if (M 3 4) = 1 then
(some 0)
else
some 1
set_option maxRecDepth 4000 in
theorem c_X7_isMore {E : EE} {sh : List (Nat × Nat)} {ex : Bool} {R : RM} {M : MM}  (hE : Ext sh) (hL : Links R) : ∀ y, f_X7_isMore M = some y → MetC E m_X7_isMore 0 0 [rV 2] (sh, ex, R, M) (fun r w' => r = some (iV y) ∧ w' = (sh, ex, R, M)) := by
  intro y hy
  refine MetC.seg (o := f_X7_isMore M) (t := (fun K y => K (some (iV y)) (sh, ex, R, M))) (L := [some (rV 2)]) (by decide) rfl (Nat.le_of_ble_eq_true rfl) ?_ hy ⟨rfl, rfl⟩
  unfold f_X7_isMore
  refine Seg.step (pc' := 1) (I_aload_n (i := 0) dX7_isMore_0 rfl rfl) ?_
  refine Seg.step (pc' := 4) (I_getR cls7 (by decide) wf_7_14 (hE _ _ sk_7) rfl (lk_7_0 hL) dX7_isMore_1) ?_
  refine Seg.step (pc' := 7) (I_getI cls9 (by decide) wf_7_49 (hE _ _ sk_7_0) rfl dX7_isMore_4) ?_
  refine Seg.step (pc' := 8) (I_iconst dX7_isMore_7 ⟨by decide, by decide⟩) ?_
  refine S_icmp_eq (tgt := 15) dX7_isMore_8 (by decide) (fun h1 => ?_) (fun h1 => ?_)
  · refine Seg.step (pc' := 16) (I_iconst dX7_isMore_15 ⟨by decide, by decide⟩) ?_
    exact S_zret dX7_isMore_16 rfl (by decide) (by decide) (by decide) (fun K hK => hK)
  refine Seg.step (pc' := 12) (I_iconst dX7_isMore_11 ⟨by decide, by decide⟩) ?_
  refine Seg.step (pc' := 16) (I_goto (tgt := 16) dX7_isMore_12 (by decide)) ?_
  exact S_zret dX7_isMore_16 rfl (by decide) (by decide) (by decide) (fun K hK => hK)
theorem dX7_fails_0 : decode cX7_fails 0 = .ok (.aload_n 0, 1) := by decide +kernel
theorem dX7_fails_1 : decode cX7_fails 1 = .ok (.iload_n 1, 1) := by decide +kernel
theorem dX7_fails_2 : decode cX7_fails 2 = .ok (.putfield 38, 3) := by decide +kernel
theorem dX7_fails_5 : decode cX7_fails 5 = .ok (.aload_n 0, 1) := by decide +kernel
theorem dX7_fails_6 : decode cX7_fails 6 = .ok (.aload_n 0, 1) := by decide +kernel
theorem dX7_fails_7 : decode cX7_fails 7 = .ok (.getfield 14, 3) := by decide +kernel
theorem dX7_fails_10 : decode cX7_fails 10 = .ok (.getfield 52, 3) := by decide +kernel
theorem dX7_fails_13 : decode cX7_fails 13 = .ok (.putfield 42, 3) := by decide +kernel
theorem dX7_fails_16 : decode cX7_fails 16 = .ok (.iconst 0, 1) := by decide +kernel
theorem dX7_fails_17 : decode cX7_fails 17 = .ok (.ireturn, 1) := by decide +kernel
def f_X7_fails (M : MM) (p1 : Int) : Option (Int × MM) :=
bM (upM M 2 5 p1) fun M1 =>
bM (upM M1 2 6 (M1 3 6)) fun M2 =>
some (0, M2)
set_option maxRecDepth 4000 in
theorem c_X7_fails {E : EE} {sh : List (Nat × Nat)} {ex : Bool} {R : RM} {M : MM} {p1 : Int} (hE : Ext sh) (hL : Links R) : ∀ y, f_X7_fails M p1 = some y → MetC E m_X7_fails 0 0 [rV 2, iV p1] (sh, ex, R, M) (fun r w' => r = some (iV y.1) ∧ w' = (sh, ex, R, y.2)) := by
  intro y hy
  refine MetC.seg (o := f_X7_fails M p1) (t := (fun K y => K (some (iV y.1)) (sh, ex, R, y.2))) (L := [some (rV 2), some (iV p1)]) (by decide) rfl (Nat.le_of_ble_eq_true rfl) ?_ hy ⟨rfl, rfl⟩
  unfold f_X7_fails
  refine Seg.step (pc' := 1) (I_aload_n (i := 0) dX7_fails_0 rfl rfl) ?_
  refine Seg.step (pc' := 2) (I_iload_n (i := 1) dX7_fails_1 rfl rfl) ?_
  refine Seg.step (pc' := 5) (I_putI cls7 (by decide) wf_7_38 (hE _ _ sk_7) rfl rfl dX7_fails_2) ?_
  refine S_bM fun M1 => ?_
  refine Seg.step (pc' := 6) (I_aload_n (i := 0) dX7_fails_5 rfl rfl) ?_
  refine Seg.step (pc' := 7) (I_aload_n (i := 0) dX7_fails_6 rfl rfl) ?_
  refine Seg.step (pc' := 10) (I_getR cls7 (by decide) wf_7_14 (hE _ _ sk_7) rfl (lk_7_0 hL) dX7_fails_7) ?_
  refine Seg.step (pc' := 13) (I_getI cls9 (by decide) wf_7_52 (hE _ _ sk_7_0) rfl dX7_fails_10) ?_
  refine Seg.step (pc' := 16) (I_putI cls7 (by decide) wf_7_42 (hE _ _ sk_7) rfl rfl dX7_fails_13) ?_
  refine S_bM fun M2 => ?_
  refine Seg.step (pc' := 17) (I_iconst dX7_fails_16 ⟨by decide, by decide⟩) ?_
  exact S_zret dX7_fails_17 rfl (by decide) (by decide) (by decide) (fun K hK => hK)
theorem dX11_placeOf_0 : decode cX11_placeOf 0 = .ok (.iconst 0, 1) := by decide +kernel
theorem dX11_placeOf_1 : decode cX11_placeOf 1 = .ok (.istore_n 3, 1) := by decide +kernel
theorem dX11_placeOf_2 : decode cX11_placeOf 2 = .ok (.iload_n 3, 1) := by decide +kernel
theorem dX11_placeOf_3 : decode cX11_placeOf 3 = .ok (.iload_n 2, 1) := by decide +kernel
theorem dX11_placeOf_4 : decode cX11_placeOf 4 = .ok (.if_icmp .ge 18, 3) := by decide +kernel
theorem dX11_placeOf_7 : decode cX11_placeOf 7 = .ok (.aload_n 1, 1) := by decide +kernel
theorem dX11_placeOf_8 : decode cX11_placeOf 8 = .ok (.iload_n 3, 1) := by decide +kernel
theorem dX11_placeOf_9 : decode cX11_placeOf 9 = .ok (.iaload, 1) := by decide +kernel
theorem dX11_placeOf_10 : decode cX11_placeOf 10 = .ok (.iload_n 0, 1) := by decide +kernel
theorem dX11_placeOf_11 : decode cX11_placeOf 11 = .ok (.if_icmp .ne 5, 3) := by decide +kernel
theorem dX11_placeOf_14 : decode cX11_placeOf 14 = .ok (.iload_n 3, 1) := by decide +kernel
theorem dX11_placeOf_15 : decode cX11_placeOf 15 = .ok (.ireturn, 1) := by decide +kernel
theorem dX11_placeOf_16 : decode cX11_placeOf 16 = .ok (.iinc 3 1, 3) := by decide +kernel
theorem dX11_placeOf_19 : decode cX11_placeOf 19 = .ok (.goto (-17), 3) := by decide +kernel
theorem dX11_placeOf_22 : decode cX11_placeOf 22 = .ok (.iconst (-1), 1) := by decide +kernel
theorem dX11_placeOf_23 : decode cX11_placeOf 23 = .ok (.ireturn, 1) := by decide +kernel
def f_X11_placeOf (M : MM) (p1 : Int) (a2 n2 : Nat) (p3 : Int) : Option (Int) :=
lp (X := Int) (Y := Int) (fun x1 =>
if x1 < p3 then
(gd (0 ≤ x1 ∧ x1 < (n2 : Int)) <|
if (M a2 (x1).toNat) = p1 then
(some (Sum.inr x1))
else
some (Sum.inl (w32 (x1 + 1))))
else
some (Sum.inr (-1))) FU 0
set_option maxRecDepth 4000 in
theorem c_X11_placeOf {E : EE} {sh : List (Nat × Nat)} {ex : Bool} {R : RM} {M : MM} {p1 : Int} {a2 n2 : Nat} {p3 : Int} (hE : Ext sh) (hL : Links R) (hs2 : SH0[a2]? = some (50, n2)) : ∀ y, f_X11_placeOf M p1 a2 n2 p3 = some y → MetC E m_X11_placeOf 0 0 [iV p1, rV a2, iV p3] (sh, ex, R, M) (fun r w' => r = some (iV y) ∧ w' = (sh, ex, R, M)) := by
  intro y hy
  refine MetC.seg (o := f_X11_placeOf M p1 a2 n2 p3) (t := (fun K y => K (some (iV y)) (sh, ex, R, M))) (L := [some (iV p1), some (rV a2), some (iV p3), none]) (by decide) rfl (Nat.le_of_ble_eq_true rfl) ?_ hy ⟨rfl, rfl⟩
  unfold f_X11_placeOf
  refine Seg.step (pc' := 1) (I_iconst dX11_placeOf_0 ⟨by decide, by decide⟩) ?_
  refine Seg.step (pc' := 2) (I_istore_n (i := 3) dX11_placeOf_1 rfl (by decide) rfl) ?_
  refine Seg.forget (Lle.ye (Lle.ye (Lle.ye (Lle.ye (Lle.nil))))) ?_
  refine S_loop (Y := Int) (fun y => [some (iV p1), some (rV a2), some (iV p3), some (iV y)]) (fun y => []) (fun y => (sh, ex, R, M)) (fun x1 => ?_) FU 0
  refine Seg.step (pc' := 3) (I_iload_n (i := 3) dX11_placeOf_2 rfl rfl) ?_
  refine Seg.step (pc' := 4) (I_iload_n (i := 2) dX11_placeOf_3 rfl rfl) ?_
  refine S_icmp_ge (tgt := 22) dX11_placeOf_4 (by decide) (fun h2 => ?_) (fun h2 => ?_)
  · refine Seg.step (pc' := 8) (I_aload_n (i := 1) dX11_placeOf_7 rfl rfl) ?_
    refine Seg.step (pc' := 9) (I_iload_n (i := 3) dX11_placeOf_8 rfl rfl) ?_
    refine S_gd fun h3 => ?_
    refine Seg.step (pc' := 10) (I_iald (hE _ _ hs2) h3 dX11_placeOf_9) ?_
    refine Seg.step (pc' := 11) (I_iload_n (i := 0) dX11_placeOf_10 rfl rfl) ?_
    refine S_icmp_ne (tgt := 16) dX11_placeOf_11 (by decide) (fun h4 => ?_) (fun h4 => ?_)
    · refine Seg.step (pc' := 15) (I_iload_n (i := 3) dX11_placeOf_14 rfl rfl) ?_
      exact S_iret dX11_placeOf_15 rfl (by decide) (by decide) (fun K hK => hK)
    refine Seg.step (pc' := 19) (I_iinc dX11_placeOf_16 rfl (by decide) rfl) ?_
    refine Seg.step (pc' := 2) (I_goto (tgt := 2) dX11_placeOf_19 (by decide)) ?_
    exact S_arr (fun K hK => GG.forget (Lle.ye (Lle.ye (Lle.ye (Lle.ye (Lle.nil))))) hK)
  refine Seg.step (pc' := 23) (I_iconst dX11_placeOf_22 ⟨by decide, by decide⟩) ?_
  exact S_iret dX11_placeOf_23 rfl (by decide) (by decide) (fun K hK => hK)
theorem dX7_readName_0 : decode cX7_readName 0 = .ok (.aload_n 0, 1) := by decide +kernel
theorem dX7_readName_1 : decode cX7_readName 1 = .ok (.getfield 14, 3) := by decide +kernel
theorem dX7_readName_4 : decode cX7_readName 4 = .ok (.getfield 49, 3) := by decide +kernel
theorem dX7_readName_7 : decode cX7_readName 7 = .ok (.iconst 3, 1) := by decide +kernel
theorem dX7_readName_8 : decode cX7_readName 8 = .ok (.if_icmp .eq 9, 3) := by decide +kernel
theorem dX7_readName_11 : decode cX7_readName 11 = .ok (.aload_n 0, 1) := by decide +kernel
theorem dX7_readName_12 : decode cX7_readName 12 = .ok (.iconst 1, 1) := by decide +kernel
theorem dX7_readName_13 : decode cX7_readName 13 = .ok (.invokevirtual 75, 3) := by decide +kernel
theorem dX7_readName_16 : decode cX7_readName 16 = .ok (.ireturn, 1) := by decide +kernel
theorem dX7_readName_17 : decode cX7_readName 17 = .ok (.aload_n 0, 1) := by decide +kernel
theorem dX7_readName_18 : decode cX7_readName 18 = .ok (.getfield 14, 3) := by decide +kernel
theorem dX7_readName_21 : decode cX7_readName 21 = .ok (.getfield 88, 3) := by decide +kernel
theorem dX7_readName_24 : decode cX7_readName 24 = .ok (.aload_n 1, 1) := by decide +kernel
theorem dX7_readName_25 : decode cX7_readName 25 = .ok (.iload_n 2, 1) := by decide +kernel
theorem dX7_readName_26 : decode cX7_readName 26 = .ok (.invokestatic 102, 3) := by decide +kernel
theorem dX7_readName_29 : decode cX7_readName 29 = .ok (.iconst (-1), 1) := by decide +kernel
theorem dX7_readName_30 : decode cX7_readName 30 = .ok (.if_icmp .eq 9, 3) := by decide +kernel
theorem dX7_readName_33 : decode cX7_readName 33 = .ok (.aload_n 0, 1) := by decide +kernel
theorem dX7_readName_34 : decode cX7_readName 34 = .ok (.iconst 3, 1) := by decide +kernel
theorem dX7_readName_35 : decode cX7_readName 35 = .ok (.invokevirtual 75, 3) := by decide +kernel
theorem dX7_readName_38 : decode cX7_readName 38 = .ok (.ireturn, 1) := by decide +kernel
theorem dX7_readName_39 : decode cX7_readName 39 = .ok (.aload_n 1, 1) := by decide +kernel
theorem dX7_readName_40 : decode cX7_readName 40 = .ok (.iload_n 2, 1) := by decide +kernel
theorem dX7_readName_41 : decode cX7_readName 41 = .ok (.aload_n 0, 1) := by decide +kernel
theorem dX7_readName_42 : decode cX7_readName 42 = .ok (.getfield 14, 3) := by decide +kernel
theorem dX7_readName_45 : decode cX7_readName 45 = .ok (.getfield 88, 3) := by decide +kernel
theorem dX7_readName_48 : decode cX7_readName 48 = .ok (.iastore, 1) := by decide +kernel
theorem dX7_readName_49 : decode cX7_readName 49 = .ok (.aload_n 0, 1) := by decide +kernel
theorem dX7_readName_50 : decode cX7_readName 50 = .ok (.getfield 14, 3) := by decide +kernel
theorem dX7_readName_53 : decode cX7_readName 53 = .ok (.invokevirtual 85, 3) := by decide +kernel
theorem dX7_readName_56 : decode cX7_readName 56 = .ok (.iconst 1, 1) := by decide +kernel
theorem dX7_readName_57 : decode cX7_readName 57 = .ok (.ireturn, 1) := by decide +kernel
def f_X7_readName (M : MM) (a1 n1 : Nat) (p2 : Int) : Option (Int × MM) :=
if (M 3 4) = 3 then
((f_X11_placeOf M (M 3 5) a1 n1 p2).bind fun x2 =>
if x2 = (-1) then
(gd (0 ≤ p2 ∧ p2 < (n1 : Int)) <|
bM (upM M a1 (p2).toNat (M 3 5)) fun M5 =>
(f_X9_advance M5).bind fun x6 =>
some (1, x6))
else
(f_X7_fails M 3).bind fun x7 =>
gd (x7.1 = 0 ∨ x7.1 = 1) <|
some (x7.1, x7.2))
else
(f_X7_fails M 1).bind fun x9 =>
gd (x9.1 = 0 ∨ x9.1 = 1) <|
some (x9.1, x9.2)
set_option maxRecDepth 4000 in
theorem c_X7_readName {E : EE} {sh : List (Nat × Nat)} {ex : Bool} {R : RM} {M : MM} {a1 n1 : Nat} {p2 : Int} (hE : Ext sh) (hL : Links R) (hs1 : SH0[a1]? = some (50, n1)) : ∀ y, f_X7_readName M a1 n1 p2 = some y → MetC E m_X7_readName 0 0 [rV 2, rV a1, iV p2] (sh, ex, R, M) (fun r w' => r = some (iV y.1) ∧ w' = (sh, ex, R, y.2)) := by
  intro y hy
  refine MetC.seg (o := f_X7_readName M a1 n1 p2) (t := (fun K y => K (some (iV y.1)) (sh, ex, R, y.2))) (L := [some (rV 2), some (rV a1), some (iV p2)]) (by decide) rfl (Nat.le_of_ble_eq_true rfl) ?_ hy ⟨rfl, rfl⟩
  unfold f_X7_readName
  refine Seg.step (pc' := 1) (I_aload_n (i := 0) dX7_readName_0 rfl rfl) ?_
  refine Seg.step (pc' := 4) (I_getR cls7 (by decide) wf_7_14 (hE _ _ sk_7) rfl (lk_7_0 hL) dX7_readName_1) ?_
  refine Seg.step (pc' := 7) (I_getI cls9 (by decide) wf_7_49 (hE _ _ sk_7_0) rfl dX7_readName_4) ?_
  refine Seg.step (pc' := 8) (I_iconst dX7_readName_7 ⟨by decide, by decide⟩) ?_
  refine S_icmp_eq (tgt := 17) dX7_readName_8 (by decide) (fun h1 => ?_) (fun h1 => ?_)
  · refine Seg.step (pc' := 18) (I_aload_n (i := 0) dX7_readName_17 rfl rfl) ?_
    refine Seg.step (pc' := 21) (I_getR cls7 (by decide) wf_7_14 (hE _ _ sk_7) rfl (lk_7_0 hL) dX7_readName_18) ?_
    refine Seg.step (pc' := 24) (I_getI cls9 (by decide) wf_7_88 (hE _ _ sk_7_0) rfl dX7_readName_21) ?_
    refine Seg.step (pc' := 25) (I_aload_n (i := 1) dX7_readName_24 rfl rfl) ?_
    refine Seg.step (pc' := 26) (I_iload_n (i := 2) dX7_readName_25 rfl rfl) ?_
    refine S_callN3 (md' := m_X11_placeOf) (fun y => some (iV y)) (fun y => (sh, ex, R, M)) mm_X11_placeOf wn_7_102 ⟨rfl, rfl, by decide, by decide, by decide, by decide⟩ (Nat.le_of_ble_eq_true rfl) dX7_readName_26 (fun y hy => c_X11_placeOf hE hL hs1 y hy) (fun x2 => ?_)
    refine Seg.step (pc' := 30) (I_iconst dX7_readName_29 ⟨by decide, by decide⟩) ?_
    refine S_icmp_eq (tgt := 39) dX7_readName_30 (by decide) (fun h3 => ?_) (fun h3 => ?_)
    · refine Seg.step (pc' := 40) (I_aload_n (i := 1) dX7_readName_39 rfl rfl) ?_
      refine Seg.step (pc' := 41) (I_iload_n (i := 2) dX7_readName_40 rfl rfl) ?_
      refine Seg.step (pc' := 42) (I_aload_n (i := 0) dX7_readName_41 rfl rfl) ?_
      refine Seg.step (pc' := 45) (I_getR cls7 (by decide) wf_7_14 (hE _ _ sk_7) rfl (lk_7_0 hL) dX7_readName_42) ?_
      refine Seg.step (pc' := 48) (I_getI cls9 (by decide) wf_7_88 (hE _ _ sk_7_0) rfl dX7_readName_45) ?_
      refine S_gd fun h4 => ?_
      refine Seg.step (pc' := 49) (I_iast (hE _ _ hs1) h4 dX7_readName_48) ?_
      refine S_bM fun M5 => ?_
      refine Seg.step (pc' := 50) (I_aload_n (i := 0) dX7_readName_49 rfl rfl) ?_
      refine Seg.step (pc' := 53) (I_getR cls7 (by decide) wf_7_14 (hE _ _ sk_7) rfl (lk_7_0 hL) dX7_readName_50) ?_
      refine S_callV0 (md' := m_X9_advance) (fun y => none) (fun y => (sh, ex, R, y)) (hE _ _ sk_7_0) ⟨by decide, rfl⟩ mm_X9_advance wm_7_85 ⟨rfl, rfl, by decide, by decide, by decide, by decide⟩ (Nat.le_of_ble_eq_true rfl) dX7_readName_53 (fun y hy => c_X9_advance hE hL y hy) (fun x6 => ?_)
      refine Seg.step (pc' := 57) (I_iconst dX7_readName_56 ⟨by decide, by decide⟩) ?_
      exact S_zret dX7_readName_57 rfl (by decide) (by decide) (by decide) (fun K hK => hK)
    refine Seg.step (pc' := 34) (I_aload_n (i := 0) dX7_readName_33 rfl rfl) ?_
    refine Seg.step (pc' := 35) (I_iconst dX7_readName_34 ⟨by decide, by decide⟩) ?_
    refine S_callV1 (md' := m_X7_fails) (fun y => some (iV y.1)) (fun y => (sh, ex, R, y.2)) (hE _ _ sk_7) ⟨by decide, rfl⟩ mm_X7_fails wm_7_75 ⟨rfl, rfl, by decide, by decide, by decide, by decide⟩ (Nat.le_of_ble_eq_true rfl) dX7_readName_35 (fun y hy => c_X7_fails hE hL y hy) (fun x7 => ?_)
    refine S_gd fun h8 => ?_
    exact S_zret dX7_readName_38 rfl h8 (by decide) (by decide) (fun K hK => hK)
  refine Seg.step (pc' := 12) (I_aload_n (i := 0) dX7_readName_11 rfl rfl) ?_
  refine Seg.step (pc' := 13) (I_iconst dX7_readName_12 ⟨by decide, by decide⟩) ?_
  refine S_callV1 (md' := m_X7_fails) (fun y => some (iV y.1)) (fun y => (sh, ex, R, y.2)) (hE _ _ sk_7) ⟨by decide, rfl⟩ mm_X7_fails wm_7_75 ⟨rfl, rfl, by decide, by decide, by decide, by decide⟩ (Nat.le_of_ble_eq_true rfl) dX7_readName_13 (fun y hy => c_X7_fails hE hL y hy) (fun x9 => ?_)
  refine S_gd fun h10 => ?_
  exact S_zret dX7_readName_16 rfl h10 (by decide) (by decide) (fun K hK => hK)
theorem dX11_isWithin_0 : decode cX11_isWithin 0 = .ok (.iload_n 0, 1) := by decide +kernel
theorem dX11_isWithin_1 : decode cX11_isWithin 1 = .ok (.iload_n 1, 1) := by decide +kernel
theorem dX11_isWithin_2 : decode cX11_isWithin 2 = .ok (.if_icmp .lt 12, 3) := by decide +kernel
theorem dX11_isWithin_5 : decode cX11_isWithin 5 = .ok (.iload_n 0, 1) := by decide +kernel
theorem dX11_isWithin_6 : decode cX11_isWithin 6 = .ok (.iload_n 2, 1) := by decide +kernel
theorem dX11_isWithin_7 : decode cX11_isWithin 7 = .ok (.if_icmp .gt 7, 3) := by decide +kernel
theorem dX11_isWithin_10 : decode cX11_isWithin 10 = .ok (.iconst 1, 1) := by decide +kernel
theorem dX11_isWithin_11 : decode cX11_isWithin 11 = .ok (.goto 4, 3) := by decide +kernel
theorem dX11_isWithin_14 : decode cX11_isWithin 14 = .ok (.iconst 0, 1) := by decide +kernel
theorem dX11_isWithin_15 : decode cX11_isWithin 15 = .ok (.ireturn, 1) := by decide +kernel
def f_X11_isWithin (M : MM) (p1 : Int) (p2 : Int) (p3 : Int) : Option (Int) :=
if p1 < p2 then
(some 0)
else
if p3 < p1 then
(some 0)
else
some 1
set_option maxRecDepth 4000 in
theorem c_X11_isWithin {E : EE} {sh : List (Nat × Nat)} {ex : Bool} {R : RM} {M : MM} {p1 : Int} {p2 : Int} {p3 : Int} (hE : Ext sh) (hL : Links R) : ∀ y, f_X11_isWithin M p1 p2 p3 = some y → MetC E m_X11_isWithin 0 0 [iV p1, iV p2, iV p3] (sh, ex, R, M) (fun r w' => r = some (iV y) ∧ w' = (sh, ex, R, M)) := by
  intro y hy
  refine MetC.seg (o := f_X11_isWithin M p1 p2 p3) (t := (fun K y => K (some (iV y)) (sh, ex, R, M))) (L := [some (iV p1), some (iV p2), some (iV p3)]) (by decide) rfl (Nat.le_of_ble_eq_true rfl) ?_ hy ⟨rfl, rfl⟩
  unfold f_X11_isWithin
  refine Seg.step (pc' := 1) (I_iload_n (i := 0) dX11_isWithin_0 rfl rfl) ?_
  refine Seg.step (pc' := 2) (I_iload_n (i := 1) dX11_isWithin_1 rfl rfl) ?_
  refine S_icmp_lt (tgt := 14) dX11_isWithin_2 (by decide) (fun h1 => ?_) (fun h1 => ?_)
  · refine Seg.step (pc' := 15) (I_iconst dX11_isWithin_14 ⟨by decide, by decide⟩) ?_
    exact S_zret dX11_isWithin_15 rfl (by decide) (by decide) (by decide) (fun K hK => hK)
  refine Seg.step (pc' := 6) (I_iload_n (i := 0) dX11_isWithin_5 rfl rfl) ?_
  refine Seg.step (pc' := 7) (I_iload_n (i := 2) dX11_isWithin_6 rfl rfl) ?_
  refine S_icmp_gt (tgt := 14) dX11_isWithin_7 (by decide) (fun h2 => ?_) (fun h2 => ?_)
  · refine Seg.step (pc' := 15) (I_iconst dX11_isWithin_14 ⟨by decide, by decide⟩) ?_
    exact S_zret dX11_isWithin_15 rfl (by decide) (by decide) (by decide) (fun K hK => hK)
  refine Seg.step (pc' := 11) (I_iconst dX11_isWithin_10 ⟨by decide, by decide⟩) ?_
  refine Seg.step (pc' := 15) (I_goto (tgt := 15) dX11_isWithin_11 (by decide)) ?_
  exact S_zret dX11_isWithin_15 rfl (by decide) (by decide) (by decide) (fun K hK => hK)
theorem dX7_readNumber_0 : decode cX7_readNumber 0 = .ok (.aload_n 0, 1) := by decide +kernel
theorem dX7_readNumber_1 : decode cX7_readNumber 1 = .ok (.getfield 14, 3) := by decide +kernel
theorem dX7_readNumber_4 : decode cX7_readNumber 4 = .ok (.getfield 49, 3) := by decide +kernel
theorem dX7_readNumber_7 : decode cX7_readNumber 7 = .ok (.iconst 2, 1) := by decide +kernel
theorem dX7_readNumber_8 : decode cX7_readNumber 8 = .ok (.if_icmp .eq 9, 3) := by decide +kernel
theorem dX7_readNumber_11 : decode cX7_readNumber 11 = .ok (.aload_n 0, 1) := by decide +kernel
theorem dX7_readNumber_12 : decode cX7_readNumber 12 = .ok (.iconst 1, 1) := by decide +kernel
theorem dX7_readNumber_13 : decode cX7_readNumber 13 = .ok (.invokevirtual 75, 3) := by decide +kernel
theorem dX7_readNumber_16 : decode cX7_readNumber 16 = .ok (.ireturn, 1) := by decide +kernel
theorem dX7_readNumber_17 : decode cX7_readNumber 17 = .ok (.aload_n 0, 1) := by decide +kernel
theorem dX7_readNumber_18 : decode cX7_readNumber 18 = .ok (.getfield 14, 3) := by decide +kernel
theorem dX7_readNumber_21 : decode cX7_readNumber 21 = .ok (.getfield 88, 3) := by decide +kernel
theorem dX7_readNumber_24 : decode cX7_readNumber 24 = .ok (.iload_n 1, 1) := by decide +kernel
theorem dX7_readNumber_25 : decode cX7_readNumber 25 = .ok (.iload_n 2, 1) := by decide +kernel
theorem dX7_readNumber_26 : decode cX7_readNumber 26 = .ok (.invokestatic 91, 3) := by decide +kernel
theorem dX7_readNumber_29 : decode cX7_readNumber 29 = .ok (.ifCond .ne 9, 3) := by decide +kernel
theorem dX7_readNumber_32 : decode cX7_readNumber 32 = .ok (.aload_n 0, 1) := by decide +kernel
theorem dX7_readNumber_33 : decode cX7_readNumber 33 = .ok (.iconst 2, 1) := by decide +kernel
theorem dX7_readNumber_34 : decode cX7_readNumber 34 = .ok (.invokevirtual 75, 3) := by decide +kernel
theorem dX7_readNumber_37 : decode cX7_readNumber 37 = .ok (.ireturn, 1) := by decide +kernel
theorem dX7_readNumber_38 : decode cX7_readNumber 38 = .ok (.aload_n 0, 1) := by decide +kernel
theorem dX7_readNumber_39 : decode cX7_readNumber 39 = .ok (.aload_n 0, 1) := by decide +kernel
theorem dX7_readNumber_40 : decode cX7_readNumber 40 = .ok (.getfield 14, 3) := by decide +kernel
theorem dX7_readNumber_43 : decode cX7_readNumber 43 = .ok (.getfield 88, 3) := by decide +kernel
theorem dX7_readNumber_46 : decode cX7_readNumber 46 = .ok (.putfield 95, 3) := by decide +kernel
theorem dX7_readNumber_49 : decode cX7_readNumber 49 = .ok (.aload_n 0, 1) := by decide +kernel
theorem dX7_readNumber_50 : decode cX7_readNumber 50 = .ok (.getfield 14, 3) := by decide +kernel
theorem dX7_readNumber_53 : decode cX7_readNumber 53 = .ok (.invokevirtual 85, 3) := by decide +kernel
theorem dX7_readNumber_56 : decode cX7_readNumber 56 = .ok (.iconst 1, 1) := by decide +kernel
theorem dX7_readNumber_57 : decode cX7_readNumber 57 = .ok (.ireturn, 1) := by decide +kernel
def f_X7_readNumber (M : MM) (p1 : Int) (p2 : Int) : Option (Int × MM) :=
if (M 3 4) = 2 then
((f_X11_isWithin M (M 3 5) p1 p2).bind fun x2 =>
if x2 = 0 then
((f_X7_fails M 2).bind fun x4 =>
gd (x4.1 = 0 ∨ x4.1 = 1) <|
some (x4.1, x4.2))
else
bM (upM M 2 3 (M 3 5)) fun M6 =>
(f_X9_advance M6).bind fun x7 =>
some (1, x7))
else
(f_X7_fails M 1).bind fun x8 =>
gd (x8.1 = 0 ∨ x8.1 = 1) <|
some (x8.1, x8.2)
set_option maxRecDepth 4000 in
theorem c_X7_readNumber {E : EE} {sh : List (Nat × Nat)} {ex : Bool} {R : RM} {M : MM} {p1 : Int} {p2 : Int} (hE : Ext sh) (hL : Links R) : ∀ y, f_X7_readNumber M p1 p2 = some y → MetC E m_X7_readNumber 0 0 [rV 2, iV p1, iV p2] (sh, ex, R, M) (fun r w' => r = some (iV y.1) ∧ w' = (sh, ex, R, y.2)) := by
  intro y hy
  refine MetC.seg (o := f_X7_readNumber M p1 p2) (t := (fun K y => K (some (iV y.1)) (sh, ex, R, y.2))) (L := [some (rV 2), some (iV p1), some (iV p2)]) (by decide) rfl (Nat.le_of_ble_eq_true rfl) ?_ hy ⟨rfl, rfl⟩
  unfold f_X7_readNumber
  refine Seg.step (pc' := 1) (I_aload_n (i := 0) dX7_readNumber_0 rfl rfl) ?_
  refine Seg.step (pc' := 4) (I_getR cls7 (by decide) wf_7_14 (hE _ _ sk_7) rfl (lk_7_0 hL) dX7_readNumber_1) ?_
  refine Seg.step (pc' := 7) (I_getI cls9 (by decide) wf_7_49 (hE _ _ sk_7_0) rfl dX7_readNumber_4) ?_
  refine Seg.step (pc' := 8) (I_iconst dX7_readNumber_7 ⟨by decide, by decide⟩) ?_
  refine S_icmp_eq (tgt := 17) dX7_readNumber_8 (by decide) (fun h1 => ?_) (fun h1 => ?_)
  · refine Seg.step (pc' := 18) (I_aload_n (i := 0) dX7_readNumber_17 rfl rfl) ?_
    refine Seg.step (pc' := 21) (I_getR cls7 (by decide) wf_7_14 (hE _ _ sk_7) rfl (lk_7_0 hL) dX7_readNumber_18) ?_
    refine Seg.step (pc' := 24) (I_getI cls9 (by decide) wf_7_88 (hE _ _ sk_7_0) rfl dX7_readNumber_21) ?_
    refine Seg.step (pc' := 25) (I_iload_n (i := 1) dX7_readNumber_24 rfl rfl) ?_
    refine Seg.step (pc' := 26) (I_iload_n (i := 2) dX7_readNumber_25 rfl rfl) ?_
    refine S_callN3 (md' := m_X11_isWithin) (fun y => some (iV y)) (fun y => (sh, ex, R, M)) mm_X11_isWithin wn_7_91 ⟨rfl, rfl, by decide, by decide, by decide, by decide⟩ (Nat.le_of_ble_eq_true rfl) dX7_readNumber_26 (fun y hy => c_X11_isWithin hE hL y hy) (fun x2 => ?_)
    refine S_if_ne (tgt := 38) dX7_readNumber_29 (by decide) (fun h3 => ?_) (fun h3 => ?_)
    · refine Seg.step (pc' := 33) (I_aload_n (i := 0) dX7_readNumber_32 rfl rfl) ?_
      refine Seg.step (pc' := 34) (I_iconst dX7_readNumber_33 ⟨by decide, by decide⟩) ?_
      refine S_callV1 (md' := m_X7_fails) (fun y => some (iV y.1)) (fun y => (sh, ex, R, y.2)) (hE _ _ sk_7) ⟨by decide, rfl⟩ mm_X7_fails wm_7_75 ⟨rfl, rfl, by decide, by decide, by decide, by decide⟩ (Nat.le_of_ble_eq_true rfl) dX7_readNumber_34 (fun y hy => c_X7_fails hE hL y hy) (fun x4 => ?_)
      refine S_gd fun h5 => ?_
      exact S_zret dX7_readNumber_37 rfl h5 (by decide) (by decide) (fun K hK => hK)
    refine Seg.step (pc' := 39) (I_aload_n (i := 0) dX7_readNumber_38 rfl rfl) ?_
    refine Seg.step (pc' := 40) (I_aload_n (i := 0) dX7_readNumber_39 rfl rfl) ?_
    refine Seg.step (pc' := 43) (I_getR cls7 (by decide) wf_7_14 (hE _ _ sk_7) rfl (lk_7_0 hL) dX7_readNumber_40) ?_
    refine Seg.step (pc' := 46) (I_getI cls9 (by decide) wf_7_88 (hE _ _ sk_7_0) rfl dX7_readNumber_43) ?_
    refine Seg.step (pc' := 49) (I_putI cls7 (by decide) wf_7_95 (hE _ _ sk_7) rfl rfl dX7_readNumber_46) ?_
    refine S_bM fun M6 => ?_
    refine Seg.step (pc' := 50) (I_aload_n (i := 0) dX7_readNumber_49 rfl rfl) ?_
    refine Seg.step (pc' := 53) (I_getR cls7 (by decide) wf_7_14 (hE _ _ sk_7) rfl (lk_7_0 hL) dX7_readNumber_50) ?_
    refine S_callV0 (md' := m_X9_advance) (fun y => none) (fun y => (sh, ex, R, y)) (hE _ _ sk_7_0) ⟨by decide, rfl⟩ mm_X9_advance wm_7_85 ⟨rfl, rfl, by decide, by decide, by decide, by decide⟩ (Nat.le_of_ble_eq_true rfl) dX7_readNumber_53 (fun y hy => c_X9_advance hE hL y hy) (fun x7 => ?_)
    refine Seg.step (pc' := 57) (I_iconst dX7_readNumber_56 ⟨by decide, by decide⟩) ?_
    exact S_zret dX7_readNumber_57 rfl (by decide) (by decide) (by decide) (fun K hK => hK)
  refine Seg.step (pc' := 12) (I_aload_n (i := 0) dX7_readNumber_11 rfl rfl) ?_
  refine Seg.step (pc' := 13) (I_iconst dX7_readNumber_12 ⟨by decide, by decide⟩) ?_
  refine S_callV1 (md' := m_X7_fails) (fun y => some (iV y.1)) (fun y => (sh, ex, R, y.2)) (hE _ _ sk_7) ⟨by decide, rfl⟩ mm_X7_fails wm_7_75 ⟨rfl, rfl, by decide, by decide, by decide, by decide⟩ (Nat.le_of_ble_eq_true rfl) dX7_readNumber_13 (fun y hy => c_X7_fails hE hL y hy) (fun x8 => ?_)
  refine S_gd fun h9 => ?_
  exact S_zret dX7_readNumber_16 rfl h9 (by decide) (by decide) (fun K hK => hK)
