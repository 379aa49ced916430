theorem inB1 {w : Cond} (j : Nat) (h : tables_1_1[j]? = some w) : w ∈ lw_tbl := List.mem_append_right _ (List.mem_append_left _ (List.mem_of_getElem? h))
/-- the language's own text -/
def LNG : String := "room person sun out knob price law lose turn cross or and not warm outer felt wish set leak hour "
def TL : List Int := [114, 111, 111, 109, 32, 112, 101, 114, 115, 111, 110, 32, 115, 117, 110, 32, 111, 117, 116, 32, 107, 110, 111, 98, 32, 112, 114, 105, 99, 101, 32, 108, 97, 119, 32, 108, 111, 115, 101, 32, 116, 117, 114, 110, 32, 99, 114, 111, 115, 115, 32, 111, 114, 32, 97, 110, 100, 32, 110, 111, 116, 32, 119, 97, 114, 109, 32, 111, 117, 116, 101, 114, 32, 102, 101, 108, 116, 32, 119, 105, 115, 104, 32, 115, 101, 116, 32, 108, 101, 97, 107, 32, 104, 111, 117, 114, 32]
def LB : List Int32 := TL.map Int32.ofInt
/-- a letter of it -/
def lch (j : Nat) : Int := TL.getD j 0
def tmS : Term := Term.string "KnobHall$Tokens" 19
/-- what is known of the text in a state -/
def SFs (E : EE) (s : State) (q t : Nat) : Prop := vk_R "KnobHall$Tokens" 19 LNG q s ∧ va_O "java/lang/String" q (fun x => E.2.1 ≤ x) s s.heap ∧ va_OF "java/lang/String" "coder" "B" (.int 0) q (fun x => E.2.1 ≤ x) s s.heap ∧ va_OF "java/lang/String" "value" "[B" (.ref t) q (fun x => E.2.1 ≤ x) s s.heap ∧ va_T .byte t 97 (fun j => .int (LB.getD j 0)) (fun x => E.2.1 ≤ x) s s.heap ∧ va_Z "java/lang/String" "COMPACT_STRINGS" "Z" (.int 1) (fun x => E.2.1 ≤ x) s s.heap ∧ va_Zq "jdk/internal/util/Preconditions" "SIOOBE_FORMATTER" "Ljava/util/function/BiFunction;" (fun x => E.2.1 ≤ x) s s.heap
theorem SFs.enter {E : EE} {s U : State} {q t : Nat} {H : Heap} {locs : List Loc} (h : SFs E s q t) (hS : va_S (fun x => E.2.1 ≤ x) s.heap H locs) (hU : U.heap = H) (hW : s.WarmedH U.vm) : SFs E U q t := by
  obtain ⟨h1, h2, h3, h4, h5, h6, h7⟩ := h
  have a := hW.alike
  have k := hS.2.1
  unfold SFs
  rw [hU]
  exact ⟨vk_R.warm hW h1, va_O.moved a (h2.kept k), va_OF.moved a (h3.kept k), va_OF.moved a (h4.kept k), va_T.moved a (h5.kept k), va_Z.moved a (h6.kept k), va_Zq.moved a (h7.kept k)⟩
def yJ_len : MethodName := ⟨"java/lang/String", "length", "()I"⟩
def yJ_cod : MethodName := ⟨"java/lang/String", "coder", "()B"⟩
def yJ_cha : MethodName := ⟨"java/lang/String", "charAt", "(I)C"⟩
def yJ_isl : MethodName := ⟨"java/lang/String", "isLatin1", "()Z"⟩
def yJ_lat : MethodName := ⟨"java/lang/StringLatin1", "charAt", "([BI)C"⟩
def yJ_chk : MethodName := ⟨"java/lang/String", "checkIndex", "(II)V"⟩
def yJ_pre : MethodName := ⟨"jdk/internal/util/Preconditions", "checkIndex", "(IILjava/util/function/BiFunction;)I"⟩
theorem wJ_str : Cond.stringRef "KnobHall$Tokens" 19 LNG ∈ lw_tbl := inB1 45 (by decide +kernel)
theorem wJ_llen : Cond.methodLink RX9 21 yJ_len ∈ TS := inT1 46 (by decide +kernel) (by decide +kernel)
theorem wJ_ilen : Cond.instanceMethod yJ_len ∈ TS := inT1 47 (by decide +kernel) (by decide +kernel)
theorem wJ_slen : Cond.selects "java/lang/String" yJ_len yJ_len ∈ TS := inT1 48 (by decide +kernel) (by decide +kernel)
theorem wJ_clen : Cond.code yJ_len prog_22_method_54_code 1 (some .int) ∈ TS := inT1 49 (by decide +kernel) (by decide +kernel)
theorem wJ_lcod : Cond.methodLink "java/lang/String" 335 yJ_cod ∈ TS := inT1 50 (by decide +kernel) (by decide +kernel)
theorem wJ_icod : Cond.instanceMethod yJ_cod ∈ TS := inT1 51 (by decide +kernel) (by decide +kernel)
theorem wJ_scod : Cond.selects "java/lang/String" yJ_cod yJ_cod ∈ TS := inT1 52 (by decide +kernel) (by decide +kernel)
theorem wJ_ccod : Cond.code yJ_cod prog_22_method_152_code 1 (some .byte) ∈ TS := inT1 53 (by decide +kernel) (by decide +kernel)
theorem wJ_f38 : Cond.fieldLink "java/lang/String" 38 "java/lang/String" "COMPACT_STRINGS" "Z" ∈ TS := inT1 54 (by decide +kernel) (by decide +kernel)
theorem wJ_s38 : Cond.laysStatic "java/lang/String" "COMPACT_STRINGS" "Z" ∈ lw_tbl := inB1 55 (by decide +kernel)
theorem wJ_lcha : Cond.methodLink RX9 27 yJ_cha ∈ TS := inT1 56 (by decide +kernel) (by decide +kernel)
theorem wJ_icha : Cond.instanceMethod yJ_cha ∈ TS := inT1 57 (by decide +kernel) (by decide +kernel)
theorem wJ_scha : Cond.selects "java/lang/String" yJ_cha yJ_cha ∈ TS := inT1 58 (by decide +kernel) (by decide +kernel)
theorem wJ_ccha : Cond.code yJ_cha prog_22_method_56_code 2 (some .char) ∈ TS := inT1 59 (by decide +kernel) (by decide +kernel)
theorem wJ_lisl : Cond.methodLink "java/lang/String" 492 yJ_isl ∈ TS := inT1 60 (by decide +kernel) (by decide +kernel)
theorem wJ_iisl : Cond.instanceMethod yJ_isl ∈ TS := inT1 61 (by decide +kernel) (by decide +kernel)
theorem wJ_sisl : Cond.selects "java/lang/String" yJ_isl yJ_isl ∈ TS := inT1 62 (by decide +kernel) (by decide +kernel)
theorem wJ_cisl : Cond.code yJ_isl prog_22_method_154_code 1 (some .boolean) ∈ TS := inT1 63 (by decide +kernel) (by decide +kernel)
theorem wJ_llat : Cond.methodLink "java/lang/String" 495 yJ_lat ∈ TS := inT1 64 (by decide +kernel) (by decide +kernel)
theorem wJ_tlat : Cond.static yJ_lat ∈ TS := inT1 65 (by decide +kernel) (by decide +kernel)
theorem wJ_clat : Cond.code yJ_lat prog_23_method_2_code 2 (some .char) ∈ TS := inT1 66 (by decide +kernel) (by decide +kernel)
theorem wJ_lchk : Cond.methodLink "java/lang/StringLatin1" 9 yJ_chk ∈ TS := inT1 67 (by decide +kernel) (by decide +kernel)
theorem wJ_tchk : Cond.static yJ_chk ∈ TS := inT1 68 (by decide +kernel) (by decide +kernel)
theorem wJ_cchk : Cond.code yJ_chk prog_22_method_155_code 2 none ∈ TS := inT1 69 (by decide +kernel) (by decide +kernel)
theorem wJ_f1053 : Cond.fieldLink "java/lang/String" 1053 "jdk/internal/util/Preconditions" "SIOOBE_FORMATTER" "Ljava/util/function/BiFunction;" ∈ TS := inT1 70 (by decide +kernel) (by decide +kernel)
theorem wJ_s1053 : Cond.laysStatic "jdk/internal/util/Preconditions" "SIOOBE_FORMATTER" "Ljava/util/function/BiFunction;" ∈ lw_tbl := inB1 71 (by decide +kernel)
theorem wJ_lpre : Cond.methodLink "java/lang/String" 1059 yJ_pre ∈ TS := inT1 72 (by decide +kernel) (by decide +kernel)
theorem wJ_tpre : Cond.static yJ_pre ∈ TS := inT1 73 (by decide +kernel) (by decide +kernel)
theorem wJ_cpre : Cond.code yJ_pre prog_30_method_11_code 3 (some .int) ∈ TS := inT1 74 (by decide +kernel) (by decide +kernel)
theorem wJ_zs : Cond.initialized "java/lang/String" ∈ TS := inT1 4 (by decide +kernel) (by decide +kernel)
theorem wJ_zl : Cond.initialized "java/lang/StringLatin1" ∈ TS := inT1 5 (by decide +kernel) (by decide +kernel)
theorem wJ_zp : Cond.initialized "jdk/internal/util/Preconditions" ∈ TS := inT1 6 (by decide +kernel) (by decide +kernel)
theorem wJ_f9 : Cond.fieldLink "java/lang/String" 9 "java/lang/String" "value" "[B" ∈ TS := inT9 143 (by decide +kernel) (by decide +kernel)
theorem wJ_f15 : Cond.fieldLink "java/lang/String" 15 "java/lang/String" "coder" "B" ∈ TS := inT9 144 (by decide +kernel) (by decide +kernel)
theorem wJ_lpk : Cond.methodLink RX9 31 yX9_packed ∈ TS := inT1 94 (by decide +kernel) (by decide +kernel)
theorem wJ_tpk : Cond.static yX9_packed ∈ TS := inT1 95 (by decide +kernel) (by decide +kernel)
theorem wJ_cpk : Cond.code yX9_packed cX9_packed 5 (some .int) ∈ TS := inT1 96 (by decide +kernel) (by decide +kernel)
def mJ_pre : MD := (yJ_pre, prog_30_method_11_code, 3, some .int, { frames := 0, cells := 0, slots := 0, locals := 0 })
def mJ_chk : MD := (yJ_chk, prog_22_method_155_code, 2, none, { frames := 1, cells := 0, slots := 0, locals := 22 })
def mJ_lat : MD := (yJ_lat, prog_23_method_2_code, 2, some .char, { frames := 2, cells := 0, slots := 0, locals := 43 })
def mJ_isl : MD := (yJ_isl, prog_22_method_154_code, 1, some .boolean, { frames := 0, cells := 0, slots := 0, locals := 0 })
def mJ_cha : MD := (yJ_cha, prog_22_method_56_code, 2, some .char, { frames := 3, cells := 0, slots := 0, locals := 64 })
def mJ_cod : MD := (yJ_cod, prog_22_method_152_code, 1, some .byte, { frames := 0, cells := 0, slots := 0, locals := 0 })
def mJ_len : MD := (yJ_len, prog_22_method_54_code, 1, some .int, { frames := 1, cells := 0, slots := 0, locals := 20 })
theorem kJ_pre : MdS mJ_pre 3 := ⟨⟨wJ_cpre, wJ_zp, ⟨by decide, by decide⟩, by decide +kernel⟩, wJ_tpre⟩
theorem kJ_chk : MdS mJ_chk 2 := ⟨⟨wJ_cchk, wJ_zs, ⟨by decide, by decide⟩, by decide +kernel⟩, wJ_tchk⟩
theorem kJ_lat : MdS mJ_lat 2 := ⟨⟨wJ_clat, wJ_zl, ⟨by decide, by decide⟩, by decide +kernel⟩, wJ_tlat⟩
theorem kJ_isl : MdV mJ_isl 0 := ⟨⟨wJ_cisl, wJ_zs, ⟨by decide, by decide⟩, by decide +kernel⟩, wJ_iisl, wJ_sisl⟩
theorem kJ_cha : MdV mJ_cha 1 := ⟨⟨wJ_ccha, wJ_zs, ⟨by decide, by decide⟩, by decide +kernel⟩, wJ_icha, wJ_scha⟩
theorem kJ_cod : MdV mJ_cod 0 := ⟨⟨wJ_ccod, wJ_zs, ⟨by decide, by decide⟩, by decide +kernel⟩, wJ_icod, wJ_scod⟩
theorem kJ_len : MdV mJ_len 0 := ⟨⟨wJ_clen, wJ_zs, ⟨by decide, by decide⟩, by decide +kernel⟩, wJ_ilen, wJ_slen⟩
theorem dJp_0 : decode prog_30_method_11_code 0 = .ok (.iload_n 0, 1) := by decide +kernel
theorem dJp_1 : decode prog_30_method_11_code 1 = .ok (.ifCond .lt 8, 3) := by decide +kernel
theorem dJp_4 : decode prog_30_method_11_code 4 = .ok (.iload_n 0, 1) := by decide +kernel
theorem dJp_5 : decode prog_30_method_11_code 5 = .ok (.iload_n 1, 1) := by decide +kernel
theorem dJp_6 : decode prog_30_method_11_code 6 = .ok (.if_icmp .lt 10, 3) := by decide +kernel
theorem dJp_16 : decode prog_30_method_11_code 16 = .ok (.iload_n 0, 1) := by decide +kernel
theorem dJp_17 : decode prog_30_method_11_code 17 = .ok (.ireturn, 1) := by decide +kernel
theorem dJk_0 : decode prog_22_method_155_code 0 = .ok (.iload_n 0, 1) := by decide +kernel
theorem dJk_1 : decode prog_22_method_155_code 1 = .ok (.iload_n 1, 1) := by decide +kernel
theorem dJk_2 : decode prog_22_method_155_code 2 = .ok (.getstatic 1053, 3) := by decide +kernel
theorem dJk_5 : decode prog_22_method_155_code 5 = .ok (.invokestatic 1059, 3) := by decide +kernel
theorem dJk_8 : decode prog_22_method_155_code 8 = .ok (.pop, 1) := by decide +kernel
theorem dJk_9 : decode prog_22_method_155_code 9 = .ok (.return_, 1) := by decide +kernel
theorem dJl_0 : decode prog_23_method_2_code 0 = .ok (.iload_n 1, 1) := by decide +kernel
theorem dJl_1 : decode prog_23_method_2_code 1 = .ok (.aload_n 0, 1) := by decide +kernel
theorem dJl_2 : decode prog_23_method_2_code 2 = .ok (.arraylength, 1) := by decide +kernel
theorem dJl_3 : decode prog_23_method_2_code 3 = .ok (.invokestatic 9, 3) := by decide +kernel
theorem dJl_6 : decode prog_23_method_2_code 6 = .ok (.aload_n 0, 1) := by decide +kernel
theorem dJl_7 : decode prog_23_method_2_code 7 = .ok (.iload_n 1, 1) := by decide +kernel
theorem dJl_8 : decode prog_23_method_2_code 8 = .ok (.baload, 1) := by decide +kernel
theorem dJl_9 : decode prog_23_method_2_code 9 = .ok (.sipush 255, 3) := by decide +kernel
theorem dJl_12 : decode prog_23_method_2_code 12 = .ok (.iand, 1) := by decide +kernel
theorem dJl_13 : decode prog_23_method_2_code 13 = .ok (.i2c, 1) := by decide +kernel
theorem dJl_14 : decode prog_23_method_2_code 14 = .ok (.ireturn, 1) := by decide +kernel
theorem dJi_0 : decode prog_22_method_154_code 0 = .ok (.getstatic 38, 3) := by decide +kernel
theorem dJi_3 : decode prog_22_method_154_code 3 = .ok (.ifCond .eq 14, 3) := by decide +kernel
theorem dJi_6 : decode prog_22_method_154_code 6 = .ok (.aload_n 0, 1) := by decide +kernel
theorem dJi_7 : decode prog_22_method_154_code 7 = .ok (.getfield 15, 3) := by decide +kernel
theorem dJi_10 : decode prog_22_method_154_code 10 = .ok (.ifCond .ne 7, 3) := by decide +kernel
theorem dJi_13 : decode prog_22_method_154_code 13 = .ok (.iconst 1, 1) := by decide +kernel
theorem dJi_14 : decode prog_22_method_154_code 14 = .ok (.goto 4, 3) := by decide +kernel
theorem dJi_18 : decode prog_22_method_154_code 18 = .ok (.ireturn, 1) := by decide +kernel
theorem dJa_0 : decode prog_22_method_56_code 0 = .ok (.aload_n 0, 1) := by decide +kernel
theorem dJa_1 : decode prog_22_method_56_code 1 = .ok (.invokevirtual 492, 3) := by decide +kernel
theorem dJa_4 : decode prog_22_method_56_code 4 = .ok (.ifCond .eq 12, 3) := by decide +kernel
theorem dJa_7 : decode prog_22_method_56_code 7 = .ok (.aload_n 0, 1) := by decide +kernel
theorem dJa_8 : decode prog_22_method_56_code 8 = .ok (.getfield 9, 3) := by decide +kernel
theorem dJa_11 : decode prog_22_method_56_code 11 = .ok (.iload_n 1, 1) := by decide +kernel
theorem dJa_12 : decode prog_22_method_56_code 12 = .ok (.invokestatic 495, 3) := by decide +kernel
theorem dJa_15 : decode prog_22_method_56_code 15 = .ok (.ireturn, 1) := by decide +kernel
theorem dJo_0 : decode prog_22_method_152_code 0 = .ok (.getstatic 38, 3) := by decide +kernel
theorem dJo_3 : decode prog_22_method_152_code 3 = .ok (.ifCond .eq 10, 3) := by decide +kernel
theorem dJo_6 : decode prog_22_method_152_code 6 = .ok (.aload_n 0, 1) := by decide +kernel
theorem dJo_7 : decode prog_22_method_152_code 7 = .ok (.getfield 15, 3) := by decide +kernel
theorem dJo_10 : decode prog_22_method_152_code 10 = .ok (.goto 4, 3) := by decide +kernel
theorem dJo_14 : decode prog_22_method_152_code 14 = .ok (.ireturn, 1) := by decide +kernel
theorem dJn_0 : decode prog_22_method_54_code 0 = .ok (.aload_n 0, 1) := by decide +kernel
theorem dJn_1 : decode prog_22_method_54_code 1 = .ok (.getfield 9, 3) := by decide +kernel
theorem dJn_4 : decode prog_22_method_54_code 4 = .ok (.arraylength, 1) := by decide +kernel
theorem dJn_5 : decode prog_22_method_54_code 5 = .ok (.aload_n 0, 1) := by decide +kernel
theorem dJn_6 : decode prog_22_method_54_code 6 = .ok (.invokevirtual 335, 3) := by decide +kernel
theorem dJn_9 : decode prog_22_method_54_code 9 = .ok (.ishr, 1) := by decide +kernel
theorem dJn_10 : decode prog_22_method_54_code 10 = .ok (.ireturn, 1) := by decide +kernel
theorem LB_n : ∀ j, j < 97 → LB.getD j 0 = Int32.ofInt (lch j) ∧ ((LB.getD j 0 &&& (Int16.ofInt 255).toInt32).toUInt32 % 65536).toInt32 = LB.getD j 0 ∧ narrow .char (.int (LB.getD j 0)) = .int (LB.getD j 0) ∧ 0 ≤ lch j ∧ lch j ≤ 127 := by decide +kernel
theorem nr_str {E : EE} {s : State} {w : CW} {H : Heap} {locs : List Loc} (rc : RepC E s w H) (hS : va_S (fun x => E.2.1 ≤ x) s.heap H locs) (hb : E.2.1 ≤ s.heap.size) : ∃ q t, SFs E s q t := by
  obtain ⟨s0, h1, h2, h3, h4, h5⟩ := rc.2.2.1.2
  have fl := flat_of_before _ h2
  have hA : ∀ a : Nat, a < s0.heap.size → ¬ (fun x => E.2.1 ≤ x) a := fun a ha => by show ¬ E.2.1 ≤ a; omega
  have mem : ∀ j, j < 97 → Cond.eq (Term.elem (Term.field tmS "java/lang/String" "value" "[B") (Term.int (Int32.ofNat j))) (Term.int (LB.getD j 0)) ∈ flatC (Jvm.Cond.and given_1 narrow_1) := by decide +kernel
  obtain ⟨adK, adV, vs, ev⟩ := vk_Sof (args := #[Value.ref E.2.2.2.2.1]) (s := s0) (N := 1) (tm := fun _ => tmS) (len := [97]) (byt := [LB]) (A := fun x => E.2.1 ≤ x)
    (fun i hi => by obtain rfl : i = 0 := by omega
                    decide)
    (fun i hi => fl _ (by decide +kernel)) (fun i hi => fl _ (by decide +kernel)) (fun i hi => fl _ (by decide +kernel))
    (fun i hi => by obtain rfl : i = 0 := by omega
                    exact fl _ (by decide +kernel))
    (fun i hi j hj => by obtain rfl : i = 0 := by omega
                         exact fl _ (mem j hj))
    (fun i j hi hj hn => absurd hn (by omega)) hA
  have hq : ∀ a : Nat, a < s0.heap.size → ¬ (fun x => E.2.1 ≤ x) a → s.heap[a]? = s0.heap[a]? := fun a ha _ => (hS.2.1 a (by omega) (by show ¬ E.2.1 ≤ a; omega)).symm.trans (h5 a (by omega))
  have al := h4.alike
  obtain ⟨v1, v2, v3, v4⟩ := vs.1 0 (by decide)
  have z1 : va_Z "java/lang/String" "COMPACT_STRINGS" "Z" (.int 1) (fun x => E.2.1 ≤ x) s0 s0.heap := va_Zof (h3 _ wJ_s38) (h3 _ (List.mem_filter.mp wJ_zs).1) (va_eqi (fl _ (by decide +kernel))) hA
  have z2 : va_Zq "jdk/internal/util/Preconditions" "SIOOBE_FORMATTER" "Ljava/util/function/BiFunction;" (fun x => E.2.1 ≤ x) s0 s0.heap := va_Zqof (h3 _ wJ_s1053) (h3 _ (List.mem_filter.mp wJ_zp).1) (fl _ (by decide +kernel)) hA
  exact ⟨adK 0, adV 0, vk_R.warm h4 (vk_R.of (h3 _ wJ_str) (ev 0 (by decide))), va_O.moved al (v1.kept hq), va_OF.moved al (v2.kept hq), va_OF.moved al (v3.kept hq), va_T.moved al (v4.kept hq), va_Z.moved al (z1.kept hq), va_Zq.moved al (z2.kept hq)⟩
/-- the machine in a method of the JDK's own -/
def GR (E : EE) (q t : Nat) (md : MD) (K : Option CV → CW → Prop) (pc : Nat) (L : List (Nat × Value)) (S : List Value) (w : CW) : Prop :=
  ∀ (p : Program) (e : Env) (s : State) (m : MethodId) (args : Array Value) (below : List Frame) (meth : Method) (c : Code) (H : Heap) (locs : List Loc) (ls : Array Slot),
    CX md p s m meth c → RepC E s w H → va_S (fun q => E.2.1 ≤ q) s.heap H locs → SFs E s q t → lv_has ls md.2.2.1 L →
    W p E.1 e md.2.2.2.2 s m args below meth c H locs 0 0 (MQ below (QQ E K) args s 0 0 (fun q => E.2.1 ≤ q)) (F0 m pc ls S)
def MetR (E : EE) (q t : Nat) (md : MD) (vs : List Value) (w : CW) (K : Option CV → CW → Prop) : Prop :=
  Met E.1 md.1 [.code md.1 md.2.1 md.2.2.1 md.2.2.2.1] md.2.2.2.2 (fun v U => v = vs.toArray ∧ SFs E U q t ∧ RepS E w U ∧ E.2.1 ≤ U.heap.size) (QQ E K) 0 0 (fun q => E.2.1 ≤ q)
section JDK
variable {E : EE} {q t : Nat} {md md' : MD} {K : Option CV → CW → Prop} {w : CW}
theorem MetR.of {vs : List Value} {L : List (Nat × Value)} (hy : plainName md.1.cls = true) (hL : lv_args 0 vs = L) (hn : (lg_sl vs).length ≤ md.2.2.1) (h : GR E q t md K 0 L [] w) : MetR E q t md vs w K := by
  refine Met.ofW (cc := md.2.1) (maxL := md.2.2.1) (ret := md.2.2.2.1) hy rfl ?_
  intro p e s m as below meth c s₁ B hml hv
  obtain ⟨rfl, hf, hR, hb⟩ := hv
  rw [lg_entry_eq]
  have hl := lv_entry vs (n := md.2.2.1) hn
  rw [hL] at hl
  exact h p e s m _ below meth c s.heap [] _ ⟨B.exec, B.bytes, B.returns, hml, findClass_of_methodNamed B.named, B.notSynchronized, (name_of_methodNamed B.named B.method).1⟩ hR va_S.rf hf hl
theorem PblindR {vs : List Value} : FrameBlind (fun v U => v = vs.toArray ∧ SFs E U q t ∧ RepS E w U ∧ E.2.1 ≤ U.heap.size) := by
  intro a U g mk h
  obtain ⟨h1, h2, h3, h4⟩ := h
  exact ⟨h1, SFs.enter (U := U.calling g mk a) h2 va_S.rf rfl (State.WarmedH.refl U), RepC.enter (U := U.calling g mk a) h3 rfl (State.WarmedH.refl U), h4⟩
theorem run_finR {pc k n : Nat} {p : Program} {e : Env} {Rm : Room} {s : State} {m : MethodId} {args : Array Value} {below : List Frame} {meth : Method} {c : Code} {H : Heap} {locs : List Loc} {ls : Array Slot} {st0 : List Value} {Q : State → Prop} {mc' ms' : Nat} {a' : Array Value} {rest : List Value} {Kc : Option CV → CW → Prop}
    (hr : va_Run p E.1 e Rm s m args below meth c H locs k n mc' ms' (F0 m pc ls st0) rest (QQ E Kc a') (fun q => E.2.1 ≤ q)) (rc : RepC E s w H) (hS : va_S (fun q => E.2.1 ≤ q) s.heap H locs)
    (kk : ∀ r w' H1 locs1, Kc r w' → (∀ v, r = some v → okv v) → RepC E s w' H1 → va_S (fun q => E.2.1 ≤ q) s.heap H1 locs1 → W p E.1 e Rm s m args below meth c H1 locs1 (k + mc') (n + ms') Q (F0 m (pc + 3) ls ((r.map (cv E)).toList ++ rest))) :
    W p E.1 e Rm s m args below meth c H locs k n Q (F0 m pc ls st0) := by
  intro T hT X9
  obtain ⟨v, st₀, t1, T', L', h0, X', hL', e1, e2, ⟨⟨r, w', hv, hK, hok, hrep⟩, hF⟩, st⟩ := hr T hT X9
  have hv2 : v = r.map (cv E) := by injection hv
  subst hv2
  have hsz : H.size ≤ t1.heap.size := by rw [← h0]; exact hF.1
  have hkeep : ∀ q : Nat, q < H.size → ¬ E.2.1 ≤ q → t1.heap[q]? = H[q]? := fun q h1 h2 => by rw [← h0]; exact hF.2 q (by rw [h0]; exact h1) h2
  have hbase : E.2.1 ≤ H.size := rc.2.2.2.2.2.2
  obtain ⟨r1, ⟨scr, x1, x2⟩, ⟨r3, nr⟩, -⟩ := rc
  obtain ⟨-, -, -, p4, p5, p6, p7⟩ := hrep
  have hRC : RepC E s w' t1.heap := ⟨r1, ⟨scr, by rw [hkeep _ (by omega) (by omega)]; exact x1, x2⟩, ⟨r3, nr.kept (fun a ha => hkeep a (by omega) (by omega))⟩, p4, p5, p6, p7⟩
  have hS' : va_S (fun q => E.2.1 ≤ q) s.heap t1.heap (locs ++ L') := by
    refine ⟨Nat.le_trans hS.1 hsz, fun q h1 h2 => ?_, fun q hq => ?_⟩
    · rw [hkeep q (Nat.lt_of_lt_of_le h1 hS.1) h2]
      exact hS.2.1 q h1 h2
    · rcases List.mem_append.mp hq with h | h
      · exact hS.2.2 q h
      · exact hL' q h
  have hw := kk r w' t1.heap (locs ++ L') hK hok hRC hS'
  obtain ⟨t2, a1, b1⟩ := hw T' e1 X'
  exact ⟨t2, st t2 a1, b1⟩
/-- a static call of the JDK's own -/
theorem R_callS {k n pc idx na mc ms : Nat} {p : Program} {e : Env} {s : State} {m : MethodId} {args : Array Value} {below : List Frame} {meth : Method} {c : Code} {H : Heap} {locs : List Loc} {ls : Array Slot} {Q : State → Prop} {As rest : List Value} {ro : Option CV}
    (cx : CX md p s m meth c) (rc : RepC E s w H) (hS : va_S (fun q => E.2.1 ≤ q) s.heap H locs) (sf : SFs E s q t) (hsz : ls.size = md.2.2.1) (hM : MetR E q t md' As w (fun r w' => r = ro ∧ w' = w)) (hmd : MdS md' na) (hlink : Cond.methodLink md.1.cls idx md'.1 ∈ TS) (hroom : Rm md md' mc ms 0 0 k n) (hna : As.length = na) (hcat : (rest.map fun v => v.category).sum ≤ 8) (hd : decode md.2.1 pc = .ok (.invokestatic idx, 3))
    (kk : ∀ H1 locs1, RepC E s w H1 → va_S (fun q => E.2.1 ≤ q) s.heap H1 locs1 → W p E.1 e md.2.2.2.2 s m args below meth c H1 locs1 k n Q (F0 m (pc + 3) ls ((ro.map (cv E)).toList ++ rest))) :
    W p E.1 e md.2.2.2.2 s m args below meth c H locs k n Q (F0 m pc ls (As.reverse ++ rest)) := by
  have hst : 2 * (F0 m pc ls (As.reverse ++ rest)).monitorRoom + (rest.map fun v => v.category).sum ≤ 8 := by
    show 2 * 0 + (rest.map fun v => v.category).sum ≤ 8
    omega
  have run := va_runS (As := As) (rest := rest) (n := na) (nL := md.2.2.1) (cc := md.2.1) (own := md.1.cls) (Ts := []) (g := F0 m pc ls (As.reverse ++ rest)) (H := H) (locs := locs) (e := e) (below := below) (meth := meth) (cells := k) (slots := n) ⟨cx.1, cx.2.1, cx.2.2.2.1, cx.2.2.2.2.1, fun _ h => by cases h⟩ hM ⟨callB (mc := mc) (ms := ms) (k := k) (n := n) (args := args) rc hmd.1 hlink hroom, rc.1.1.use hmd.2⟩ ⟨PblindR, fun U hU hW => ⟨rfl, sf.enter hS hU hW, rc.enter hU hW, by rw [hU]; exact rc.2.2.2.2.2.2⟩⟩ rfl hna hsz rfl hst hd ⟨hroom.2.2.2.2.1, hroom.2.2.2.2.2⟩
  refine run_finR run rc hS ?_
  rintro r w' H1 locs1 ⟨hr1, hr2⟩ hok rc' hS'
  subst hr1
  subst hr2
  exact kk H1 locs1 rc' hS'
/-- a call on the text -/
theorem R_callV {k n pc idx na mc ms : Nat} {p : Program} {e : Env} {s : State} {m : MethodId} {args : Array Value} {below : List Frame} {meth : Method} {c : Code} {H : Heap} {locs : List Loc} {ls : Array Slot} {Q : State → Prop} {As rest : List Value} {ro : Option CV}
    (hcls : md'.1.cls = "java/lang/String") (cx : CX md p s m meth c) (rc : RepC E s w H) (hS : va_S (fun q => E.2.1 ≤ q) s.heap H locs) (sf : SFs E s q t) (hsz : ls.size = md.2.2.1) (hM : MetR E q t md' (.ref q :: As) w (fun r w' => r = ro ∧ w' = w)) (hmd : MdV md' na) (hlink : Cond.methodLink md.1.cls idx md'.1 ∈ TS) (hroom : Rm md md' mc ms 0 0 k n) (hna : As.length = na) (hcat : (rest.map fun v => v.category).sum ≤ 8) (hd : decode md.2.1 pc = .ok (.invokevirtual idx, 3))
    (kk : ∀ H1 locs1, RepC E s w H1 → va_S (fun q => E.2.1 ≤ q) s.heap H1 locs1 → W p E.1 e md.2.2.2.2 s m args below meth c H1 locs1 k n Q (F0 m (pc + 3) ls ((ro.map (cv E)).toList ++ rest))) :
    W p E.1 e md.2.2.2.2 s m args below meth c H locs k n Q (F0 m pc ls (As.reverse ++ .ref q :: rest)) := by
  have hst : 2 * (F0 m pc ls (As.reverse ++ .ref q :: rest)).monitorRoom + (rest.map fun v => v.category).sum ≤ 8 := by
    show 2 * 0 + (rest.map fun v => v.category).sum ≤ 8
    omega
  have hrecv : ∃ cellB : Cell, H[q]? = some cellB ∧ cellB.vm.isStatics = false ∧ s.vm.findClass md'.1.cls = some cellB.cls := by
    obtain ⟨cell, h1, h2, h3, -⟩ := sf.2.1.kept hS.2.1
    rw [hcls]
    exact ⟨cell, h1, h2, h3⟩
  have run := va_runV (As := As) (rest := rest) (b := q) (n := na) (nL := md.2.2.1) (cc := md.2.1) (own := md.1.cls) (Ts := []) (g := F0 m pc ls (As.reverse ++ .ref q :: rest)) (H := H) (locs := locs) (e := e) (below := below) (meth := meth) (cells := k) (slots := n) (C := md'.1.cls) ⟨cx.1, cx.2.1, cx.2.2.2.1, cx.2.2.2.2.1, fun _ h => by cases h⟩ hM ⟨callB (mc := mc) (ms := ms) (k := k) (n := n) (args := args) rc hmd.1 hlink hroom, rc.1.1.use hmd.2.1, rc.1.1.use hmd.2.2⟩ ⟨PblindR, hrecv, fun U hU hW => ⟨rfl, sf.enter hS hU hW, rc.enter hU hW, by rw [hU]; exact rc.2.2.2.2.2.2⟩⟩ rfl hna hsz rfl hst hd ⟨hroom.2.2.2.2.1, hroom.2.2.2.2.2⟩
  refine run_finR run rc hS ?_
  rintro r w' H1 locs1 ⟨hr1, hr2⟩ hok rc' hS'
  subst hr1
  subst hr2
  exact kk H1 locs1 rc' hS'
theorem r97 : r32 97 := ⟨by decide, by decide⟩
theorem rN97 {x : Nat} (hx : x < 97) : r32 (x : Int) := ⟨by omega, by omega⟩
theorem cJ_pre {x : Nat} (hx : x < 97) {v2 : Value} (hv2 : v2 = .null ∨ ∃ f : Nat, v2 = .ref f) : MetR E q t mJ_pre [.int (Int32.ofInt x), .int (Int32.ofInt 97), v2] w (fun r w' => r = some (iV (x : Int)) ∧ w' = w) := by
  have hn : (lg_sl [.int (Int32.ofInt x), .int (Int32.ofInt 97), v2]).length ≤ 3 := by
    rcases hv2 with rfl | ⟨f, rfl⟩ <;> exact Nat.le_of_ble_eq_true rfl
  refine MetR.of (L := [(0, .int (Int32.ofInt x)), (1, .int (Int32.ofInt 97)), (2, v2)]) (by decide) rfl hn ?_
  intro p e s m args below meth c H locs ls cx rc hS sf hl
  refine lv_iload_n (i := 0) cx.1 cx.2.1 dJp_0 rfl (lv_at hl 0 rfl) ?_
  refine lv_if_lt (tgt := 9) cx.1 cx.2.1 dJp_1 (by decide) (fun h => absurd h (by rw [← z32, ltI (rN97 hx) r0]; omega)) (fun _ => ?_)
  refine lv_iload_n (i := 0) cx.1 cx.2.1 dJp_4 rfl (lv_at hl 0 rfl) ?_
  refine lv_iload_n (i := 1) cx.1 cx.2.1 dJp_5 rfl (lv_at hl 1 rfl) ?_
  refine lv_icmp_lt (tgt := 16) cx.1 cx.2.1 dJp_6 (by decide) (fun _ => ?_) (fun h => absurd ((ltI (rN97 hx) r97).mpr (by omega)) h)
  refine lv_iload_n (i := 0) cx.1 cx.2.1 dJp_16 rfl (lv_at hl 0 rfl) ?_
  exact W.iret cx.1 cx.2.1 (cx.2.2.1.trans rfl) (fun t1 e1 hW => ⟨⟨some (iV (x : Int)), w, rfl, ⟨rfl, rfl⟩, fun v hv => by cases hv; exact rN97 hx, rc.back e1 hW⟩, hS.F e1⟩) hS.2.2 dJp_17 cx.2.2.2.2.2.1
theorem cJ_chk {x : Nat} (hx : x < 97) : MetR E q t mJ_chk [.int (Int32.ofInt x), .int (Int32.ofInt 97)] w (fun r w' => r = none ∧ w' = w) := by
  refine MetR.of (L := [(0, .int (Int32.ofInt x)), (1, .int (Int32.ofInt 97))]) (by decide) rfl (Nat.le_of_ble_eq_true rfl) ?_
  intro p e s m args below meth c H locs ls cx rc hS sf hl
  refine lv_iload_n (i := 0) cx.1 cx.2.1 dJk_0 rfl (lv_at hl 0 rfl) ?_
  refine lv_iload_n (i := 1) cx.1 cx.2.1 dJk_1 rfl (lv_at hl 1 rfl) ?_
  have go : ∀ v2 : Value, (v2 = .null ∨ ∃ f : Nat, v2 = .ref f) → va_Z "jdk/internal/util/Preconditions" "SIOOBE_FORMATTER" "Ljava/util/function/BiFunction;" v2 (fun x => E.2.1 ≤ x) s s.heap → W p E.1 e mJ_chk.2.2.2.2 s m args below meth c H locs 0 0 (MQ below (QQ E (fun r w' => r = none ∧ w' = w)) args s 0 0 (fun q => E.2.1 ≤ q)) (F0 m 2 ls [.int (Int32.ofInt 97), .int (Int32.ofInt x)]) := fun v2 hv2 hz => by
    refine va_gets (own := "java/lang/String") (ref := "jdk/internal/util/Preconditions") cx.1 cx.2.1 hz hS cx.2.2.2.2.1 (rc.1.1.use wJ_f1053) (fun _ h => h) dJk_2 ?_
    refine R_callS (md := mJ_chk) (md' := mJ_pre) (mc := 0) (ms := 0) (As := [.int (Int32.ofInt x), .int (Int32.ofInt 97), v2]) (rest := []) (ro := some (iV (x : Int))) cx rc hS sf hl.1 (cJ_pre hx hv2) kJ_pre wJ_lpre ⟨rfl, rfl, by decide, by decide, by decide, by decide⟩ rfl (by decide) dJk_5 ?_
    intro H1 locs1 rc1 hS1
    refine lv_pop cx.1 cx.2.1 dJk_8 rfl ?_
    exact W.vret cx.1 cx.2.1 (cx.2.2.1.trans rfl) (fun t1 e1 hW => ⟨⟨none, w, rfl, ⟨rfl, rfl⟩, fun v hv => (by cases hv), rc1.back e1 hW⟩, hS1.F e1⟩) hS1.2.2 dJk_9 cx.2.2.2.2.2.1
  rcases sf.2.2.2.2.2.2 with h | ⟨f, h⟩
  · exact go .null (Or.inl rfl) h
  · exact go (.ref f) (Or.inr ⟨f, rfl⟩) h
theorem cJ_lat {x : Nat} (hx : x < 97) : MetR E q t mJ_lat [.ref t, .int (Int32.ofInt x)] w (fun r w' => r = some (iV (lch x)) ∧ w' = w) := by
  obtain ⟨l1, l2, l3, l4, l5⟩ := LB_n x hx
  refine MetR.of (L := [(0, .ref t), (1, .int (Int32.ofInt x))]) (by decide) rfl (Nat.le_of_ble_eq_true rfl) ?_
  intro p e s m args below meth c H locs ls cx rc hS sf hl
  have tt := sf.2.2.2.2.1
  refine lv_iload_n (i := 1) cx.1 cx.2.1 dJl_0 rfl (lv_at hl 1 rfl) ?_
  refine lv_aload_n (i := 0) cx.1 cx.2.1 dJl_1 rfl (lv_at hl 0 rfl) ?_
  refine va_tlen cx.1 cx.2.1 tt hS (v := Int32.ofInt 97) (by decide) dJl_2 ?_
  refine R_callS (md := mJ_lat) (md' := mJ_chk) (mc := 0) (ms := 0) (As := [.int (Int32.ofInt x), .int (Int32.ofInt 97)]) (rest := []) (ro := none) cx rc hS sf hl.1 (cJ_chk hx) kJ_chk wJ_lchk ⟨rfl, rfl, by decide, by decide, by decide, by decide⟩ rfl (by decide) dJl_3 ?_
  intro H1 locs1 rc1 hS1
  refine lv_aload_n (i := 0) cx.1 cx.2.1 dJl_6 rfl (lv_at hl 0 rfl) ?_
  refine lv_iload_n (i := 1) cx.1 cx.2.1 dJl_7 rfl (lv_at hl 1 rfl) ?_
  have cl : (Int32.ofInt (x : Int)).toNatClampNeg = x := by rw [clI (rN97 hx)]; omega
  refine va_tb cx.1 cx.2.1 tt hS1 (i := Int32.ofInt (x : Int)) (by
    unfold vp_in
    rw [cl]
    rintro (h | h)
    · rw [← z32, ltI (rN97 hx) r0] at h; omega
    · omega) (v := .int (LB.getD x 0)) (by rw [cl]) dJl_8 ?_
  refine lv_sipush cx.1 cx.2.1 dJl_9 rfl ?_
  refine lv_iand cx.1 cx.2.1 dJl_12 ?_
  refine lv_i2c cx.1 cx.2.1 dJl_13 l2 ?_
  refine W.zret (ty := .char) cx.1 cx.2.1 (cx.2.2.1.trans rfl) l3 (fun t1 e1 hW => ⟨⟨some (iV (lch x)), w, ?_, ⟨rfl, rfl⟩, fun v hv => by cases hv; exact ⟨by omega, by omega⟩, rc1.back e1 hW⟩, hS1.F e1⟩) hS1.2.2 dJl_14 cx.2.2.2.2.2.1
  rw [l1]
  rfl
theorem cJ_isl : MetR E q t mJ_isl [.ref q] w (fun r w' => r = some (iV 1) ∧ w' = w) := by
  refine MetR.of (L := [(0, .ref q)]) (by decide) rfl (Nat.le_of_ble_eq_true rfl) ?_
  intro p e s m args below meth c H locs ls cx rc hS sf hl
  refine va_gets (own := "java/lang/String") (ref := "java/lang/String") cx.1 cx.2.1 sf.2.2.2.2.2.1 hS cx.2.2.2.2.1 (rc.1.1.use wJ_f38) (fun _ h => h) dJi_0 ?_
  refine lv_if_eq (tgt := 17) cx.1 cx.2.1 dJi_3 (by decide) (fun h => absurd h (by decide)) (fun _ => ?_)
  refine lv_aload_n (i := 0) cx.1 cx.2.1 dJi_6 rfl (lv_at hl 0 rfl) ?_
  refine vk_getf (own := "java/lang/String") (ref := "java/lang/String") cx.1 cx.2.1 sf.2.2.1 hS cx.2.2.2.2.1 (rc.1.1.use wJ_f15) (fun _ h => h) dJi_7 ?_
  refine lv_if_ne (tgt := 17) cx.1 cx.2.1 dJi_10 (by decide) (fun h => absurd rfl h) (fun _ => ?_)
  refine lv_iconst cx.1 cx.2.1 dJi_13 rfl ?_
  refine lv_goto (tgt := 18) cx.1 cx.2.1 dJi_14 (by decide) ?_
  exact W.zret (ty := .boolean) cx.1 cx.2.1 (cx.2.2.1.trans rfl) (nar_Z (Or.inr rfl)).1 (fun t1 e1 hW => ⟨⟨some (iV 1), w, rfl, ⟨rfl, rfl⟩, fun v hv => by cases hv; exact ⟨by decide, by decide⟩, rc.back e1 hW⟩, hS.F e1⟩) hS.2.2 dJi_18 cx.2.2.2.2.2.1
theorem cJ_cha {x : Nat} (hx : x < 97) : MetR E q t mJ_cha [.ref q, .int (Int32.ofInt x)] w (fun r w' => r = some (iV (lch x)) ∧ w' = w) := by
  obtain ⟨l1, l2, l3, l4, l5⟩ := LB_n x hx
  refine MetR.of (L := [(0, .ref q), (1, .int (Int32.ofInt x))]) (by decide) rfl (Nat.le_of_ble_eq_true rfl) ?_
  intro p e s m args below meth c H locs ls cx rc hS sf hl
  refine lv_aload_n (i := 0) cx.1 cx.2.1 dJa_0 rfl (lv_at hl 0 rfl) ?_
  refine R_callV (md := mJ_cha) (md' := mJ_isl) (mc := 0) (ms := 0) (As := []) (rest := []) (ro := some (iV 1)) rfl cx rc hS sf hl.1 cJ_isl kJ_isl wJ_lisl ⟨rfl, rfl, by decide, by decide, by decide, by decide⟩ rfl (by decide) dJa_1 ?_
  intro H1 locs1 rc1 hS1
  refine lv_if_eq (tgt := 16) (x := Int32.ofInt 1) cx.1 cx.2.1 dJa_4 (by decide) (fun h => absurd h (by decide)) (fun _ => ?_)
  refine lv_aload_n (i := 0) cx.1 cx.2.1 dJa_7 rfl (lv_at hl 0 rfl) ?_
  refine vk_getf (own := "java/lang/String") (ref := "java/lang/String") cx.1 cx.2.1 sf.2.2.2.1 hS1 cx.2.2.2.2.1 (rc1.1.1.use wJ_f9) (fun _ h => h) dJa_8 ?_
  refine lv_iload_n (i := 1) cx.1 cx.2.1 dJa_11 rfl (lv_at hl 1 rfl) ?_
  refine R_callS (md := mJ_cha) (md' := mJ_lat) (mc := 0) (ms := 0) (As := [.ref t, .int (Int32.ofInt x)]) (rest := []) (ro := some (iV (lch x))) cx rc1 hS1 sf hl.1 (cJ_lat hx) kJ_lat wJ_llat ⟨rfl, rfl, by decide, by decide, by decide, by decide⟩ rfl (by decide) dJa_12 ?_
  intro H2 locs2 rc2 hS2
  refine W.zret (ty := .char) cx.1 cx.2.1 (cx.2.2.1.trans rfl) (by rw [← l1]; exact l3) (fun t1 e1 hW => ⟨⟨some (iV (lch x)), w, rfl, ⟨rfl, rfl⟩, fun v hv => by cases hv; exact ⟨by omega, by omega⟩, rc2.back e1 hW⟩, hS2.F e1⟩) hS2.2.2 dJa_15 cx.2.2.2.2.2.1
theorem cJ_cod : MetR E q t mJ_cod [.ref q] w (fun r w' => r = some (iV 0) ∧ w' = w) := by
  refine MetR.of (L := [(0, .ref q)]) (by decide) rfl (Nat.le_of_ble_eq_true rfl) ?_
  intro p e s m args below meth c H locs ls cx rc hS sf hl
  refine va_gets (own := "java/lang/String") (ref := "java/lang/String") cx.1 cx.2.1 sf.2.2.2.2.2.1 hS cx.2.2.2.2.1 (rc.1.1.use wJ_f38) (fun _ h => h) dJo_0 ?_
  refine lv_if_eq (tgt := 13) cx.1 cx.2.1 dJo_3 (by decide) (fun h => absurd h (by decide)) (fun _ => ?_)
  refine lv_aload_n (i := 0) cx.1 cx.2.1 dJo_6 rfl (lv_at hl 0 rfl) ?_
  refine vk_getf (own := "java/lang/String") (ref := "java/lang/String") cx.1 cx.2.1 sf.2.2.1 hS cx.2.2.2.2.1 (rc.1.1.use wJ_f15) (fun _ h => h) dJo_7 ?_
  refine lv_goto (tgt := 14) cx.1 cx.2.1 dJo_10 (by decide) ?_
  exact W.zret (ty := .byte) cx.1 cx.2.1 (cx.2.2.1.trans rfl) (by decide +kernel) (fun t1 e1 hW => ⟨⟨some (iV 0), w, rfl, ⟨rfl, rfl⟩, fun v hv => by cases hv; exact r0, rc.back e1 hW⟩, hS.F e1⟩) hS.2.2 dJo_14 cx.2.2.2.2.2.1
theorem cJ_len : MetR E q t mJ_len [.ref q] w (fun r w' => r = some (iV 97) ∧ w' = w) := by
  refine MetR.of (L := [(0, .ref q)]) (by decide) rfl (Nat.le_of_ble_eq_true rfl) ?_
  intro p e s m args below meth c H locs ls cx rc hS sf hl
  refine lv_aload_n (i := 0) cx.1 cx.2.1 dJn_0 rfl (lv_at hl 0 rfl) ?_
  refine vk_getf (own := "java/lang/String") (ref := "java/lang/String") cx.1 cx.2.1 sf.2.2.2.1 hS cx.2.2.2.2.1 (rc.1.1.use wJ_f9) (fun _ h => h) dJn_1 ?_
  refine va_tlen cx.1 cx.2.1 sf.2.2.2.2.1 hS (v := Int32.ofInt 97) (by decide) dJn_4 ?_
  refine lv_aload_n (i := 0) cx.1 cx.2.1 dJn_5 rfl (lv_at hl 0 rfl) ?_
  refine R_callV (md := mJ_len) (md' := mJ_cod) (mc := 0) (ms := 0) (As := []) (rest := [.int (Int32.ofInt 97)]) (ro := some (iV 0)) rfl cx rc hS sf hl.1 cJ_cod kJ_cod wJ_lcod ⟨rfl, rfl, by decide, by decide, by decide, by decide⟩ rfl (by decide) dJn_6 ?_
  intro H1 locs1 rc1 hS1
  refine lv_ishr (x := Int32.ofInt 97) (y := Int32.ofInt 0) cx.1 cx.2.1 dJn_9 ?_
  have e97 : Int32.ofInt 97 >>> (Int32.ofInt 0 &&& 31) = Int32.ofInt 97 := by decide
  rw [e97]
  exact W.iret cx.1 cx.2.1 (cx.2.2.1.trans rfl) (fun t1 e1 hW => ⟨⟨some (iV 97), w, rfl, ⟨rfl, rfl⟩, fun v hv => by cases hv; exact r97, rc1.back e1 hW⟩, hS1.F e1⟩) hS1.2.2 dJn_10 cx.2.2.2.2.2.1
end JDK
