theorem dTk_0 : decode cX9_init 0 = .ok (.aload_n 0, 1) := by decide +kernel
theorem dTk_1 : decode cX9_init 1 = .ok (.invokespecial 3, 3) := by decide +kernel
theorem dTk_4 : decode cX9_init 4 = .ok (.aload_n 0, 1) := by decide +kernel
theorem dTk_5 : decode cX9_init 5 = .ok (.bipush 20, 2) := by decide +kernel
theorem dTk_7 : decode cX9_init 7 = .ok (.newarray .int, 2) := by decide +kernel
theorem dTk_9 : decode cX9_init 9 = .ok (.putfield 11, 3) := by decide +kernel
theorem dTk_12 : decode cX9_init 12 = .ok (.aload_n 0, 1) := by decide +kernel
theorem dTk_13 : decode cX9_init 13 = .ok (.aload_n 1, 1) := by decide +kernel
theorem dTk_14 : decode cX9_init 14 = .ok (.putfield 15, 3) := by decide +kernel
theorem dTk_17 : decode cX9_init 17 = .ok (.iconst 0, 1) := by decide +kernel
theorem dTk_18 : decode cX9_init 18 = .ok (.istore_n 2, 1) := by decide +kernel
theorem dTk_19 : decode cX9_init 19 = .ok (.iconst 0, 1) := by decide +kernel
theorem dTk_20 : decode cX9_init 20 = .ok (.istore_n 3, 1) := by decide +kernel
theorem dTk_21 : decode cX9_init 21 = .ok (.iconst 0, 1) := by decide +kernel
theorem dTk_22 : decode cX9_init 22 = .ok (.istore 4, 2) := by decide +kernel
theorem dTk_24 : decode cX9_init 24 = .ok (.iload 4, 2) := by decide +kernel
theorem dTk_26 : decode cX9_init 26 = .ok (.ldc 19, 2) := by decide +kernel
theorem dTk_28 : decode cX9_init 28 = .ok (.invokevirtual 21, 3) := by decide +kernel
theorem dTk_31 : decode cX9_init 31 = .ok (.if_icmp .ge 47, 3) := by decide +kernel
theorem dTk_34 : decode cX9_init 34 = .ok (.ldc 19, 2) := by decide +kernel
theorem dTk_36 : decode cX9_init 36 = .ok (.iload 4, 2) := by decide +kernel
theorem dTk_38 : decode cX9_init 38 = .ok (.invokevirtual 27, 3) := by decide +kernel
theorem dTk_41 : decode cX9_init 41 = .ok (.bipush 32, 2) := by decide +kernel
theorem dTk_43 : decode cX9_init 43 = .ok (.if_icmp .ne 29, 3) := by decide +kernel
theorem dTk_46 : decode cX9_init 46 = .ok (.iload_n 2, 1) := by decide +kernel
theorem dTk_47 : decode cX9_init 47 = .ok (.bipush 20, 2) := by decide +kernel
theorem dTk_49 : decode cX9_init 49 = .ok (.if_icmp .ge 23, 3) := by decide +kernel
theorem dTk_52 : decode cX9_init 52 = .ok (.aload_n 0, 1) := by decide +kernel
theorem dTk_53 : decode cX9_init 53 = .ok (.getfield 11, 3) := by decide +kernel
theorem dTk_56 : decode cX9_init 56 = .ok (.iload_n 2, 1) := by decide +kernel
theorem dTk_57 : decode cX9_init 57 = .ok (.iload_n 3, 1) := by decide +kernel
theorem dTk_58 : decode cX9_init 58 = .ok (.iload 4, 2) := by decide +kernel
theorem dTk_60 : decode cX9_init 60 = .ok (.invokestatic 31, 3) := by decide +kernel
theorem dTk_63 : decode cX9_init 63 = .ok (.iastore, 1) := by decide +kernel
theorem dTk_64 : decode cX9_init 64 = .ok (.iinc 2 1, 3) := by decide +kernel
theorem dTk_67 : decode cX9_init 67 = .ok (.iload 4, 2) := by decide +kernel
theorem dTk_69 : decode cX9_init 69 = .ok (.iconst 1, 1) := by decide +kernel
theorem dTk_70 : decode cX9_init 70 = .ok (.iadd, 1) := by decide +kernel
theorem dTk_71 : decode cX9_init 71 = .ok (.istore_n 3, 1) := by decide +kernel
theorem dTk_72 : decode cX9_init 72 = .ok (.iinc 4 1, 3) := by decide +kernel
theorem dTk_75 : decode cX9_init 75 = .ok (.goto (-51), 3) := by decide +kernel
theorem dTk_78 : decode cX9_init 78 = .ok (.return_, 1) := by decide +kernel
theorem dPk_0 : decode cX9_packed 0 = .ok (.iconst 0, 1) := by decide +kernel
theorem dPk_1 : decode cX9_packed 1 = .ok (.istore_n 2, 1) := by decide +kernel
theorem dPk_2 : decode cX9_packed 2 = .ok (.iconst 0, 1) := by decide +kernel
theorem dPk_3 : decode cX9_packed 3 = .ok (.istore_n 3, 1) := by decide +kernel
theorem dPk_4 : decode cX9_packed 4 = .ok (.iload_n 3, 1) := by decide +kernel
theorem dPk_5 : decode cX9_packed 5 = .ok (.bipush 6, 2) := by decide +kernel
theorem dPk_7 : decode cX9_packed 7 = .ok (.if_icmp .ge 42, 3) := by decide +kernel
theorem dPk_10 : decode cX9_packed 10 = .ok (.iload_n 0, 1) := by decide +kernel
theorem dPk_11 : decode cX9_packed 11 = .ok (.iload_n 3, 1) := by decide +kernel
theorem dPk_12 : decode cX9_packed 12 = .ok (.iadd, 1) := by decide +kernel
theorem dPk_13 : decode cX9_packed 13 = .ok (.istore 4, 2) := by decide +kernel
theorem dPk_15 : decode cX9_packed 15 = .ok (.iload_n 2, 1) := by decide +kernel
theorem dPk_16 : decode cX9_packed 16 = .ok (.bipush 32, 2) := by decide +kernel
theorem dPk_18 : decode cX9_packed 18 = .ok (.imul, 1) := by decide +kernel
theorem dPk_19 : decode cX9_packed 19 = .ok (.iload 4, 2) := by decide +kernel
theorem dPk_21 : decode cX9_packed 21 = .ok (.iload_n 1, 1) := by decide +kernel
theorem dPk_22 : decode cX9_packed 22 = .ok (.if_icmp .ge 18, 3) := by decide +kernel
theorem dPk_25 : decode cX9_packed 25 = .ok (.ldc 19, 2) := by decide +kernel
theorem dPk_27 : decode cX9_packed 27 = .ok (.iload 4, 2) := by decide +kernel
theorem dPk_29 : decode cX9_packed 29 = .ok (.invokevirtual 27, 3) := by decide +kernel
theorem dPk_32 : decode cX9_packed 32 = .ok (.bipush 97, 2) := by decide +kernel
theorem dPk_34 : decode cX9_packed 34 = .ok (.isub, 1) := by decide +kernel
theorem dPk_35 : decode cX9_packed 35 = .ok (.iconst 1, 1) := by decide +kernel
theorem dPk_36 : decode cX9_packed 36 = .ok (.iadd, 1) := by decide +kernel
theorem dPk_37 : decode cX9_packed 37 = .ok (.goto 4, 3) := by decide +kernel
theorem dPk_40 : decode cX9_packed 40 = .ok (.iconst 0, 1) := by decide +kernel
theorem dPk_41 : decode cX9_packed 41 = .ok (.iadd, 1) := by decide +kernel
theorem dPk_42 : decode cX9_packed 42 = .ok (.istore_n 2, 1) := by decide +kernel
theorem dPk_43 : decode cX9_packed 43 = .ok (.iinc 3 1, 3) := by decide +kernel
theorem dPk_46 : decode cX9_packed 46 = .ok (.goto (-42), 3) := by decide +kernel
theorem dPk_49 : decode cX9_packed 49 = .ok (.iload_n 2, 1) := by decide +kernel
theorem dPk_50 : decode cX9_packed 50 = .ok (.ireturn, 1) := by decide +kernel
section TOKI
variable {E : EE} {md : MD} {mc ms : Nat} {pc : Nat} {L : List (Option CV)} {S : List CV} {w : CW} {k n : Nat}
theorem I_icge_t {x y : Int} {off : Int} {tgt : Nat} (hd : decode md.2.1 pc = .ok (.if_icmp .ge off, 3)) (ht : (pc : Int) + off = (tgt : Int)) (h : y ≤ x) : Sp E md mc ms pc L (iV y :: iV x :: S) w k n tgt L S w k n := by
  intro K g p e s m args below meth c H locs ls cx rc hS hb hl ol os
  exact lv_icmp_ge cx.1 cx.2.1 hd ht (fun _ => g p e s m args below meth c H locs ls cx rc hS hb hl ol os.t.t) (fun q => absurd ((leI os.h os.t.h).mpr h) q)
theorem I_icge_n {x y : Int} {off : Int} {tgt : Nat} (hd : decode md.2.1 pc = .ok (.if_icmp .ge off, 3)) (ht : (pc : Int) + off = (tgt : Int)) (h : x < y) : Sp E md mc ms pc L (iV y :: iV x :: S) w k n (pc + 3) L S w k n := by
  intro K g p e s m args below meth c H locs ls cx rc hS hb hl ol os
  exact lv_icmp_ge cx.1 cx.2.1 hd ht (fun q => absurd ((leI os.h os.t.h).mp q) (by omega)) (fun _ => g p e s m args below meth c H locs ls cx rc hS hb hl ol os.t.t)
theorem I_icne_t {x y : Int} {off : Int} {tgt : Nat} (hd : decode md.2.1 pc = .ok (.if_icmp .ne off, 3)) (ht : (pc : Int) + off = (tgt : Int)) (h : x ≠ y) : Sp E md mc ms pc L (iV y :: iV x :: S) w k n tgt L S w k n := by
  intro K g p e s m args below meth c H locs ls cx rc hS hb hl ol os
  exact lv_icmp_ne cx.1 cx.2.1 hd ht (fun _ => g p e s m args below meth c H locs ls cx rc hS hb hl ol os.t.t) (fun q => absurd ((eqI os.t.h os.h).mp q) h)
theorem I_icne_n {x y : Int} {off : Int} {tgt : Nat} (hd : decode md.2.1 pc = .ok (.if_icmp .ne off, 3)) (ht : (pc : Int) + off = (tgt : Int)) (h : x = y) : Sp E md mc ms pc L (iV y :: iV x :: S) w k n (pc + 3) L S w k n := by
  intro K g p e s m args below meth c H locs ls cx rc hS hb hl ol os
  exact lv_icmp_ne cx.1 cx.2.1 hd ht (fun q => absurd ((eqI os.t.h os.h).mpr h) q) (fun _ => g p e s m args below meth c H locs ls cx rc hS hb hl ol os.t.t)
/-- the text's length -/
theorem I_txlen (hc : md.1.cls = RX9) (hroom : Rm md mJ_len mc ms 0 0 k n) (hcat : catS S ≤ 8) (hd1 : decode md.2.1 pc = .ok (.ldc 19, 2)) (hd2 : decode md.2.1 (pc + 2) = .ok (.invokevirtual 21, 3)) : Sp E md mc ms pc L S w k n (pc + 5) L (iV 97 :: S) w k n := by
  intro K g p e s m args below meth c H locs ls cx rc hS hb hl ol os
  obtain ⟨q, t, sf⟩ := nr_str rc hS hb
  have ho : s.vm.findClass "KnobHall$Tokens" = some m.cls := by
    have := cx.2.2.2.2.1
    rw [hc] at this
    exact this
  refine va_ldcS cx.1 cx.2.1 ho sf.1 hd1 ?_
  refine R_callV (md := md) (md' := mJ_len) (mc := mc) (ms := ms) (As := []) (rest := S.map (cv E)) (ro := some (iV 97)) rfl cx rc hS sf hl.1 cJ_len kJ_len (by rw [hc]; exact wJ_llen) hroom rfl (by rw [catS_eq]; exact hcat) hd2 ?_
  intro H1 locs1 rc1 hS1
  exact g p e s m args below meth c H1 locs1 ls cx rc1 hS1 hb hl ol (okS.c r97 os)
/-- a letter of the text -/
theorem I_txch {x : Nat} (hx : x < 97) (hc : md.1.cls = RX9) (hroom : Rm md mJ_cha mc ms 0 0 k n) (hcat : catS S ≤ 8) (hL : L[4]? = some (some (iV (x : Int)))) (hd1 : decode md.2.1 pc = .ok (.ldc 19, 2)) (hd2 : decode md.2.1 (pc + 2) = .ok (.iload 4, 2)) (hd3 : decode md.2.1 (pc + 2 + 2) = .ok (.invokevirtual 27, 3)) : Sp E md mc ms pc L S w k n (pc + 7) L (iV (lch x) :: S) w k n := by
  intro K g p e s m args below meth c H locs ls cx rc hS hb hl ol os
  obtain ⟨q, t, sf⟩ := nr_str rc hS hb
  have ho : s.vm.findClass "KnobHall$Tokens" = some m.cls := by
    have := cx.2.2.2.2.1
    rw [hc] at this
    exact this
  obtain ⟨l1, l2, l3, l4, l5⟩ := LB_n x hx
  refine va_ldcS cx.1 cx.2.1 ho sf.1 hd1 ?_
  refine lv_iload (i := 4) cx.1 cx.2.1 hd2 (hl.at hL) ?_
  refine R_callV (md := md) (md' := mJ_cha) (mc := mc) (ms := ms) (As := [.int (Int32.ofInt (x : Int))]) (rest := S.map (cv E)) (ro := some (iV (lch x))) rfl cx rc hS sf hl.1 (cJ_cha hx) kJ_cha (by rw [hc]; exact wJ_lcha) hroom rfl (by rw [catS_eq]; exact hcat) hd3 ?_
  intro H1 locs1 rc1 hS1
  exact g p e s m args below meth c H1 locs1 ls cx rc1 hS1 hb hl ol (okS.c ⟨by omega, by omega⟩ os)
end TOKI
/-- a word's letters, packed -/
def pkf (a b : Nat) : Nat → Int
  | 0 => 0
  | i + 1 => w32 (w32 (pkf a b i * 32) + (if a + i < b then w32 (w32 (lch (a + i) - 97) + 1) else 0))
def mi_pk : MD := (yX9_packed, cX9_packed, 5, some .int, { frames := 4, cells := 0, slots := 0, locals := 85 })
theorem kk_pk : MdS mi_pk 2 := ⟨⟨wJ_cpk, wz_9, ⟨by decide, by decide⟩, by decide +kernel⟩, wJ_tpk⟩
section PACK
variable {E : EE} {w : CW} {a b : Nat}
theorem tpk_loop (hb : b ≤ 97) (ha : a ≤ b) : ∀ (d i : Nat) (v4 : Option CV), i + d = 6 → Seg E mi_pk 0 0 (some ()) (fun K _ => K (some (iV (pkf a b 6))) w) 4 [some (iV (a : Int)), some (iV (b : Int)), some (iV (pkf a b i)), some (iV (i : Int)), v4] [] w 0 0
  | 0, i, v4, h => by
    obtain rfl : i = 6 := by omega
    refine Seg.step (pc' := 5) (I_iload_n (i := 3) dPk_4 rfl rfl) ?_
    refine Seg.step (pc' := 7) (I_bipush dPk_5 (by decide) ⟨by decide, by decide⟩) ?_
    refine Seg.step (pc' := 49) (I_icge_t (tgt := 49) dPk_7 (by decide) (by decide)) ?_
    refine Seg.step (pc' := 50) (I_iload_n (i := 2) dPk_49 rfl rfl) ?_
    exact S_iret dPk_50 rfl (by decide) (by decide) (fun K hK => hK)
  | d + 1, i, v4, h => by
    have wa : w32 ((a : Int) + (i : Int)) = ((a + i : Nat) : Int) := by rw [w32_i (by omega) (by omega)]; omega
    have wi : w32 ((i : Int) + 1) = ((i + 1 : Nat) : Int) := wi7 (by omega)
    refine Seg.step (pc' := 5) (I_iload_n (i := 3) dPk_4 rfl rfl) ?_
    refine Seg.step (pc' := 7) (I_bipush dPk_5 (by decide) ⟨by decide, by decide⟩) ?_
    refine Seg.step (pc' := 10) (I_icge_n (tgt := 49) dPk_7 (by decide) (by clear wa wi; omega)) ?_
    refine Seg.step (pc' := 11) (I_iload_n (i := 0) dPk_10 rfl rfl) ?_
    refine Seg.step (pc' := 12) (I_iload_n (i := 3) dPk_11 rfl rfl) ?_
    refine Seg.step (pc' := 13) (I_iadd dPk_12) ?_
    rw [wa]
    refine Seg.step (pc' := 15) (I_istore (i := 4) dPk_13 (by decide) rfl) ?_
    refine Seg.step (pc' := 16) (I_iload_n (i := 2) dPk_15 rfl rfl) ?_
    refine Seg.step (pc' := 18) (I_bipush dPk_16 (by decide) ⟨by decide, by decide⟩) ?_
    refine Seg.step (pc' := 19) (I_imul dPk_18) ?_
    refine Seg.step (pc' := 21) (I_iload (i := 4) dPk_19 rfl) ?_
    refine Seg.step (pc' := 22) (I_iload_n (i := 1) dPk_21 rfl rfl) ?_
    have fin : ∀ c : Int, c = (if a + i < b then w32 (w32 (lch (a + i) - 97) + 1) else 0) → Seg E mi_pk 0 0 (some ()) (fun K _ => K (some (iV (pkf a b 6))) w) 41 [some (iV (a : Int)), some (iV (b : Int)), some (iV (pkf a b i)), some (iV (i : Int)), some (iV ((a + i : Nat) : Int))] [iV c, iV (w32 (pkf a b i * 32))] w 0 0 := fun c hc => by
      refine Seg.step (pc' := 42) (I_iadd dPk_41) ?_
      refine Seg.step (pc' := 43) (I_istore_n (i := 2) dPk_42 rfl (by decide) rfl) ?_
      refine Seg.step (pc' := 46) (I_iinc (i := 3) (x := (i : Int)) dPk_43 rfl (by decide) rfl) ?_
      rw [wi]
      refine Seg.step (pc' := 4) (I_goto (tgt := 4) dPk_46 (by decide)) ?_
      rw [hc]
      exact tpk_loop hb ha d (i + 1) (some (iV ((a + i : Nat) : Int))) (by clear wa wi; omega)
    by_cases q : a + i < b
    · refine Seg.step (pc' := 25) (I_icge_n (tgt := 40) dPk_22 (by decide) (by clear wa wi; omega)) ?_
      refine Seg.step (pc' := 32) (I_txch (x := a + i) (by clear wa wi; omega) rfl ⟨rfl, rfl, by decide, by decide, by decide, by decide⟩ (Nat.le_of_ble_eq_true rfl) rfl dPk_25 dPk_27 dPk_29) ?_
      refine Seg.step (pc' := 34) (I_bipush dPk_32 (by decide) ⟨by decide, by decide⟩) ?_
      refine Seg.step (pc' := 35) (I_isub dPk_34) ?_
      refine Seg.step (pc' := 36) (I_iconst dPk_35 ⟨by decide, by decide⟩) ?_
      refine Seg.step (pc' := 37) (I_iadd dPk_36) ?_
      refine Seg.step (pc' := 41) (I_goto (tgt := 41) dPk_37 (by decide)) ?_
      exact fin _ (by rw [if_pos q])
    · refine Seg.step (pc' := 40) (I_icge_t (tgt := 40) dPk_22 (by decide) (by clear wa wi; omega)) ?_
      refine Seg.step (pc' := 41) (I_iconst dPk_40 ⟨by decide, by decide⟩) ?_
      exact fin 0 (by rw [if_neg q])
theorem ci_pk (hb : b ≤ 97) (ha : a ≤ b) : MetC E mi_pk 0 0 [iV (a : Int), iV (b : Int)] w (fun r w' => r = some (iV (pkf a b 6)) ∧ w' = w) := by
  refine MetC.seg (o := some ()) (x := ()) (t := fun K _ => K (some (iV (pkf a b 6))) w) (L := [some (iV (a : Int)), some (iV (b : Int)), none, none, none]) (by decide) rfl (Nat.le_of_ble_eq_true rfl) ?_ rfl ⟨rfl, rfl⟩
  refine Seg.step (pc' := 1) (I_iconst dPk_0 ⟨by decide, by decide⟩) ?_
  refine Seg.step (pc' := 2) (I_istore_n (i := 2) dPk_1 rfl (by decide) rfl) ?_
  refine Seg.step (pc' := 3) (I_iconst dPk_2 ⟨by decide, by decide⟩) ?_
  refine Seg.step (pc' := 4) (I_istore_n (i := 3) dPk_3 rfl (by decide) rfl) ?_
  exact tpk_loop hb ha 6 0 none rfl
end PACK
/-- words read so far, where the last began, the memory -/
def tkS (M : MM) : Nat → Nat × Nat × MM
  | 0 => (0, 0, M)
  | i + 1 => if lch i = 32 ∧ (tkS M i).1 < 20 then ((tkS M i).1 + 1, i + 1, upM (tkS M i).2.2 4 (tkS M i).1 (pkf (tkS M i).2.1 i 6)) else tkS M i
theorem tk_le (M : MM) : ∀ i : Nat, (tkS M i).1 ≤ 20 ∧ (tkS M i).2.1 ≤ i
  | 0 => ⟨Nat.zero_le _, Nat.zero_le _⟩
  | i + 1 => by
    have := tk_le M i
    show (if lch i = 32 ∧ (tkS M i).1 < 20 then ((tkS M i).1 + 1, i + 1, upM (tkS M i).2.2 4 (tkS M i).1 (pkf (tkS M i).2.1 i 6)) else tkS M i).1 ≤ 20 ∧ (if lch i = 32 ∧ (tkS M i).1 < 20 then ((tkS M i).1 + 1, i + 1, upM (tkS M i).2.2 4 (tkS M i).1 (pkf (tkS M i).2.1 i 6)) else tkS M i).2.1 ≤ i + 1
    by_cases q : lch i = 32 ∧ (tkS M i).1 < 20
    · rw [if_pos q]; exact ⟨by show (tkS M i).1 + 1 ≤ 20; omega, Nat.le_refl _⟩
    · rw [if_neg q]; exact ⟨this.1, by omega⟩
section TOKC
variable {E : EE} {M : MM}
theorem tk_loop : ∀ (d i : Nat), i + d = 97 → Seg E mi_X9_init_3 1 20 (some ()) (fun K _ => K none (TT 5, true, RT [(3, 1, 1), (3, 0, 4), (0, 0, 1)], (tkS M 97).2.2)) 24 [some (rV 3), some (rV 1), some (iV ((tkS M i).1 : Int)), some (iV ((tkS M i).2.1 : Int)), some (iV (i : Int))] [] (TT 5, true, RT [(3, 1, 1), (3, 0, 4), (0, 0, 1)], (tkS M i).2.2) 1 20
  | 0, i, h => by
    obtain rfl : i = 97 := by omega
    refine Seg.step (pc' := 26) (I_iload (i := 4) dTk_24 rfl) ?_
    refine Seg.step (pc' := 31) (I_txlen rfl ⟨rfl, rfl, by decide, by decide, by decide, by decide⟩ (Nat.le_of_ble_eq_true rfl) dTk_26 dTk_28) ?_
    refine Seg.step (pc' := 78) (I_icge_t (tgt := 78) dTk_31 (by decide) (by decide)) ?_
    exact S_vret dTk_78 rfl (by decide) (by decide) (fun K hK => hK)
  | d + 1, i, h => by
    have wi : w32 ((i : Int) + 1) = ((i + 1 : Nat) : Int) := wi7 (by omega)
    obtain ⟨t1, t2⟩ := tk_le M i
    refine Seg.step (pc' := 26) (I_iload (i := 4) dTk_24 rfl) ?_
    refine Seg.step (pc' := 31) (I_txlen rfl ⟨rfl, rfl, by decide, by decide, by decide, by decide⟩ (Nat.le_of_ble_eq_true rfl) dTk_26 dTk_28) ?_
    refine Seg.step (pc' := 34) (I_icge_n (tgt := 78) dTk_31 (by decide) (by clear wi; omega)) ?_
    refine Seg.step (pc' := 41) (I_txch (x := i) (by clear wi; omega) rfl ⟨rfl, rfl, by decide, by decide, by decide, by decide⟩ (Nat.le_of_ble_eq_true rfl) rfl dTk_34 dTk_36 dTk_38) ?_
    refine Seg.step (pc' := 43) (I_bipush dTk_41 (by decide) ⟨by decide, by decide⟩) ?_
    have skip : ¬ (lch i = 32 ∧ (tkS M i).1 < 20) → Seg E mi_X9_init_3 1 20 (some ()) (fun K _ => K none (TT 5, true, RT [(3, 1, 1), (3, 0, 4), (0, 0, 1)], (tkS M 97).2.2)) 72 [some (rV 3), some (rV 1), some (iV ((tkS M i).1 : Int)), some (iV ((tkS M i).2.1 : Int)), some (iV (i : Int))] [] (TT 5, true, RT [(3, 1, 1), (3, 0, 4), (0, 0, 1)], (tkS M i).2.2) 1 20 := fun q => by
      refine Seg.step (pc' := 75) (I_iinc (i := 4) (x := (i : Int)) dTk_72 rfl (by decide) rfl) ?_
      rw [wi]
      refine Seg.step (pc' := 24) (I_goto (tgt := 24) dTk_75 (by decide)) ?_
      have e : tkS M (i + 1) = tkS M i := if_neg q
      have := tk_loop d (i + 1) (by clear wi; omega)
      rw [e] at this
      exact this
    by_cases q : lch i = 32
    · refine Seg.step (pc' := 46) (I_icne_n (tgt := 72) dTk_43 (by decide) q) ?_
      refine Seg.step (pc' := 47) (I_iload_n (i := 2) dTk_46 rfl rfl) ?_
      refine Seg.step (pc' := 49) (I_bipush dTk_47 (by decide) ⟨by decide, by decide⟩) ?_
      by_cases r : (tkS M i).1 < 20
      · refine Seg.step (pc' := 52) (I_icge_n (tgt := 72) dTk_49 (by decide) (by clear wi; omega)) ?_
        refine Seg.step (pc' := 53) (I_aload_n (i := 0) dTk_52 rfl rfl) ?_
        refine Seg.step (pc' := 56) (I_getR (b := 4) cls9 (by decide) wf_9_11 rfl rfl rfl dTk_53) ?_
        refine Seg.step (pc' := 57) (I_iload_n (i := 2) dTk_56 rfl rfl) ?_
        refine Seg.step (pc' := 58) (I_iload_n (i := 3) dTk_57 rfl rfl) ?_
        refine Seg.step (pc' := 60) (I_iload (i := 4) dTk_58 rfl) ?_
        refine S_callS2 (md' := mi_pk) (o1 := some ()) (kk := fun _ => some ()) (fun _ => some (iV (pkf (tkS M i).2.1 i 6))) (fun _ => (TT 5, true, RT [(3, 1, 1), (3, 0, 4), (0, 0, 1)], (tkS M i).2.2)) kk_pk wJ_lpk ⟨rfl, rfl, by decide, by decide, by decide, by decide⟩ (Nat.le_of_ble_eq_true rfl) dTk_60 (fun _ _ => ci_pk (by clear wi; omega) t2) (fun _ => ?_)
        refine Seg.step (pc' := 64) (I_iast (a := 4) (N := 20) rfl ⟨by clear wi; omega, by clear wi; omega⟩ dTk_63) ?_
        rw [Int.toNat_natCast]
        refine Seg.step (pc' := 67) (I_iinc (i := 2) (x := ((tkS M i).1 : Int)) dTk_64 rfl (by decide) rfl) ?_
        have w2 : w32 (((tkS M i).1 : Int) + 1) = (((tkS M i).1 + 1 : Nat) : Int) := wi7 (by clear wi; omega)
        rw [w2]
        refine Seg.step (pc' := 69) (I_iload (i := 4) dTk_67 rfl) ?_
        refine Seg.step (pc' := 70) (I_iconst dTk_69 ⟨by decide, by decide⟩) ?_
        refine Seg.step (pc' := 71) (I_iadd dTk_70) ?_
        rw [wi]
        refine Seg.step (pc' := 72) (I_istore_n (i := 3) dTk_71 rfl (by decide) rfl) ?_
        refine Seg.step (pc' := 75) (I_iinc (i := 4) (x := (i : Int)) dTk_72 rfl (by decide) rfl) ?_
        rw [wi]
        refine Seg.step (pc' := 24) (I_goto (tgt := 24) dTk_75 (by decide)) ?_
        have e : tkS M (i + 1) = ((tkS M i).1 + 1, i + 1, upM (tkS M i).2.2 4 (tkS M i).1 (pkf (tkS M i).2.1 i 6)) := if_pos ⟨q, r⟩
        have := tk_loop d (i + 1) (by clear wi w2; omega)
        rw [e] at this
        exact this
      · refine Seg.step (pc' := 72) (I_icge_t (tgt := 72) dTk_49 (by decide) (by clear wi; omega)) ?_
        exact skip (fun z => r z.2)
    · refine Seg.step (pc' := 72) (I_icne_t (tgt := 72) dTk_43 (by decide) q) ?_
      exact skip (fun z => q z.1)
end TOKC
/-- the words, as they come out -/
theorem tk_num : ∀ i, i ≤ 97 → (tkS (fun _ _ => 0) i).1 ≤ 20 := fun i _ => (tk_le _ i).1
