def lw_okq (q : MethodName × Nat) : Prop := (q.1.cls ≠ "java/lang/invoke/MethodHandle" ∧ q.1.cls ≠ "java/lang/invoke/VarHandle") ∧ Cond.instantiable q.1.cls q.2 ∈ tables_1 ∧ Cond.privateMethod q.1 ∈ tables_1 ∧ Cond.instanceMethod q.1 ∈ tables_1
theorem lw_p0 : lw_okq (⟨"KnobHall", "tapeNumber", "(I)V"⟩, 13) := ⟨⟨by decide +kernel, by decide +kernel⟩, List.mem_of_getElem? (i := 26) (by decide +kernel), List.mem_of_getElem? (i := 600) (by decide +kernel), List.mem_of_getElem? (i := 601) (by decide +kernel)⟩
theorem lw_p1 : lw_okq (⟨"KnobHall$Tokens", "readWord", "()V"⟩, 7) := ⟨⟨by decide +kernel, by decide +kernel⟩, List.mem_of_getElem? (i := 40) (by decide +kernel), List.mem_of_getElem? (i := 631) (by decide +kernel), List.mem_of_getElem? (i := 632) (by decide +kernel)⟩
theorem lw_p2 : lw_okq (⟨"KnobHall$Tokens", "readNumber", "()V"⟩, 7) := ⟨⟨by decide +kernel, by decide +kernel⟩, List.mem_of_getElem? (i := 40) (by decide +kernel), List.mem_of_getElem? (i := 635) (by decide +kernel), List.mem_of_getElem? (i := 636) (by decide +kernel)⟩
theorem lw_p3 : lw_okq (⟨"KnobHall$Tokens", "readSign", "(I)V"⟩, 7) := ⟨⟨by decide +kernel, by decide +kernel⟩, List.mem_of_getElem? (i := 40) (by decide +kernel), List.mem_of_getElem? (i := 640) (by decide +kernel), List.mem_of_getElem? (i := 641) (by decide +kernel)⟩
theorem lw_p4 : lw_okq (⟨"KnobHall$Tokens", "byteAt", "(I)I"⟩, 7) := ⟨⟨by decide +kernel, by decide +kernel⟩, List.mem_of_getElem? (i := 40) (by decide +kernel), List.mem_of_getElem? (i := 644) (by decide +kernel), List.mem_of_getElem? (i := 645) (by decide +kernel)⟩
theorem lw_p5 : lw_okq (⟨"KnobHall$Reader", "readRoom", "()Z"⟩, 7) := ⟨⟨by decide +kernel, by decide +kernel⟩, List.mem_of_getElem? (i := 34) (by decide +kernel), List.mem_of_getElem? (i := 656) (by decide +kernel), List.mem_of_getElem? (i := 657) (by decide +kernel)⟩
theorem lw_p6 : lw_okq (⟨"KnobHall$Reader", "fails", "(I)Z"⟩, 7) := ⟨⟨by decide +kernel, by decide +kernel⟩, List.mem_of_getElem? (i := 34) (by decide +kernel), List.mem_of_getElem? (i := 660) (by decide +kernel), List.mem_of_getElem? (i := 661) (by decide +kernel)⟩
theorem lw_p7 : lw_okq (⟨"KnobHall$Reader", "readName", "([II)Z"⟩, 7) := ⟨⟨by decide +kernel, by decide +kernel⟩, List.mem_of_getElem? (i := 34) (by decide +kernel), List.mem_of_getElem? (i := 665) (by decide +kernel), List.mem_of_getElem? (i := 666) (by decide +kernel)⟩
theorem lw_p8 : lw_okq (⟨"KnobHall$Reader", "readInto", "([III)Z"⟩, 7) := ⟨⟨by decide +kernel, by decide +kernel⟩, List.mem_of_getElem? (i := 34) (by decide +kernel), List.mem_of_getElem? (i := 672) (by decide +kernel), List.mem_of_getElem? (i := 673) (by decide +kernel)⟩
theorem lw_p9 : lw_okq (⟨"KnobHall$Reader", "readNumber", "(II)Z"⟩, 7) := ⟨⟨by decide +kernel, by decide +kernel⟩, List.mem_of_getElem? (i := 34) (by decide +kernel), List.mem_of_getElem? (i := 676) (by decide +kernel), List.mem_of_getElem? (i := 677) (by decide +kernel)⟩
theorem lw_p10 : lw_okq (⟨"KnobHall$Reader", "readPerson", "()Z"⟩, 7) := ⟨⟨by decide +kernel, by decide +kernel⟩, List.mem_of_getElem? (i := 34) (by decide +kernel), List.mem_of_getElem? (i := 683) (by decide +kernel), List.mem_of_getElem? (i := 684) (by decide +kernel)⟩
theorem lw_p11 : lw_okq (⟨"KnobHall$Reader", "readToldRoom", "()Z"⟩, 7) := ⟨⟨by decide +kernel, by decide +kernel⟩, List.mem_of_getElem? (i := 34) (by decide +kernel), List.mem_of_getElem? (i := 687) (by decide +kernel), List.mem_of_getElem? (i := 688) (by decide +kernel)⟩
theorem lw_p12 : lw_okq (⟨"KnobHall$Reader", "readSun", "()Z"⟩, 7) := ⟨⟨by decide +kernel, by decide +kernel⟩, List.mem_of_getElem? (i := 34) (by decide +kernel), List.mem_of_getElem? (i := 691) (by decide +kernel), List.mem_of_getElem? (i := 692) (by decide +kernel)⟩
theorem lw_p13 : lw_okq (⟨"KnobHall$Reader", "readOut", "()Z"⟩, 7) := ⟨⟨by decide +kernel, by decide +kernel⟩, List.mem_of_getElem? (i := 34) (by decide +kernel), List.mem_of_getElem? (i := 695) (by decide +kernel), List.mem_of_getElem? (i := 696) (by decide +kernel)⟩
theorem lw_p14 : lw_okq (⟨"KnobHall$Reader", "readKnob", "()Z"⟩, 7) := ⟨⟨by decide +kernel, by decide +kernel⟩, List.mem_of_getElem? (i := 34) (by decide +kernel), List.mem_of_getElem? (i := 699) (by decide +kernel), List.mem_of_getElem? (i := 700) (by decide +kernel)⟩
theorem lw_p15 : lw_okq (⟨"KnobHall$Reader", "readPrice", "()Z"⟩, 7) := ⟨⟨by decide +kernel, by decide +kernel⟩, List.mem_of_getElem? (i := 34) (by decide +kernel), List.mem_of_getElem? (i := 703) (by decide +kernel), List.mem_of_getElem? (i := 704) (by decide +kernel)⟩
def lw_privs_1 : List (MethodName × Nat) := [(⟨"KnobHall", "tapeNumber", "(I)V"⟩, 13), (⟨"KnobHall$Tokens", "readWord", "()V"⟩, 7), (⟨"KnobHall$Tokens", "readNumber", "()V"⟩, 7), (⟨"KnobHall$Tokens", "readSign", "(I)V"⟩, 7), (⟨"KnobHall$Tokens", "byteAt", "(I)I"⟩, 7), (⟨"KnobHall$Reader", "readRoom", "()Z"⟩, 7), (⟨"KnobHall$Reader", "fails", "(I)Z"⟩, 7), (⟨"KnobHall$Reader", "readName", "([II)Z"⟩, 7), (⟨"KnobHall$Reader", "readInto", "([III)Z"⟩, 7), (⟨"KnobHall$Reader", "readNumber", "(II)Z"⟩, 7), (⟨"KnobHall$Reader", "readPerson", "()Z"⟩, 7), (⟨"KnobHall$Reader", "readToldRoom", "()Z"⟩, 7), (⟨"KnobHall$Reader", "readSun", "()Z"⟩, 7), (⟨"KnobHall$Reader", "readOut", "()Z"⟩, 7), (⟨"KnobHall$Reader", "readKnob", "()Z"⟩, 7), (⟨"KnobHall$Reader", "readPrice", "()Z"⟩, 7)]
theorem lw_r1 : ∀ q ∈ lw_privs_1, lw_okq q := List.forall_mem_cons.mpr ⟨lw_p0, List.forall_mem_cons.mpr ⟨lw_p1, List.forall_mem_cons.mpr ⟨lw_p2, List.forall_mem_cons.mpr ⟨lw_p3, List.forall_mem_cons.mpr ⟨lw_p4, List.forall_mem_cons.mpr ⟨lw_p5, List.forall_mem_cons.mpr ⟨lw_p6, List.forall_mem_cons.mpr ⟨lw_p7, List.forall_mem_cons.mpr ⟨lw_p8, List.forall_mem_cons.mpr ⟨lw_p9, List.forall_mem_cons.mpr ⟨lw_p10, List.forall_mem_cons.mpr ⟨lw_p11, List.forall_mem_cons.mpr ⟨lw_p12, List.forall_mem_cons.mpr ⟨lw_p13, List.forall_mem_cons.mpr ⟨lw_p14, List.forall_mem_cons.mpr ⟨lw_p15, fun _ h => absurd h List.not_mem_nil⟩⟩⟩⟩⟩⟩⟩⟩⟩⟩⟩⟩⟩⟩⟩⟩
theorem lw_p16 : lw_okq (⟨"KnobHall$Reader", "readLaw", "()Z"⟩, 7) := ⟨⟨by decide +kernel, by decide +kernel⟩, List.mem_of_getElem? (i := 34) (by decide +kernel), List.mem_of_getElem? (i := 707) (by decide +kernel), List.mem_of_getElem? (i := 708) (by decide +kernel)⟩
theorem lw_p17 : lw_okq (⟨"KnobHall$Formula", "release", "(LKnobHall$Laws;I)V"⟩, 7) := ⟨⟨by decide +kernel, by decide +kernel⟩, List.mem_of_getElem? (i := 127) (by decide +kernel), List.mem_of_getElem? (i := 726) (by decide +kernel), List.mem_of_getElem? (i := 727) (by decide +kernel)⟩
theorem lw_p18 : lw_okq (⟨"KnobHall$Formula", "readPart", "(LKnobHall$Laws;)I"⟩, 7) := ⟨⟨by decide +kernel, by decide +kernel⟩, List.mem_of_getElem? (i := 127) (by decide +kernel), List.mem_of_getElem? (i := 737) (by decide +kernel), List.mem_of_getElem? (i := 738) (by decide +kernel)⟩
theorem lw_p19 : lw_okq (⟨"KnobHall$Formula", "openBracket", "()I"⟩, 7) := ⟨⟨by decide +kernel, by decide +kernel⟩, List.mem_of_getElem? (i := 127) (by decide +kernel), List.mem_of_getElem? (i := 741) (by decide +kernel), List.mem_of_getElem? (i := 742) (by decide +kernel)⟩
theorem lw_p20 : lw_okq (⟨"KnobHall$Formula", "await", "(I)V"⟩, 7) := ⟨⟨by decide +kernel, by decide +kernel⟩, List.mem_of_getElem? (i := 127) (by decide +kernel), List.mem_of_getElem? (i := 745) (by decide +kernel), List.mem_of_getElem? (i := 746) (by decide +kernel)⟩
theorem lw_p21 : lw_okq (⟨"KnobHall$Formula", "readJoint", "(LKnobHall$Laws;)I"⟩, 7) := ⟨⟨by decide +kernel, by decide +kernel⟩, List.mem_of_getElem? (i := 127) (by decide +kernel), List.mem_of_getElem? (i := 752) (by decide +kernel), List.mem_of_getElem? (i := 753) (by decide +kernel)⟩
theorem lw_p22 : lw_okq (⟨"KnobHall$Reader", "readEnd", "()Z"⟩, 7) := ⟨⟨by decide +kernel, by decide +kernel⟩, List.mem_of_getElem? (i := 34) (by decide +kernel), List.mem_of_getElem? (i := 761) (by decide +kernel), List.mem_of_getElem? (i := 762) (by decide +kernel)⟩
theorem lw_p23 : lw_okq (⟨"KnobHall", "takeSpare", "()V"⟩, 13) := ⟨⟨by decide +kernel, by decide +kernel⟩, List.mem_of_getElem? (i := 26) (by decide +kernel), List.mem_of_getElem? (i := 765) (by decide +kernel), List.mem_of_getElem? (i := 766) (by decide +kernel)⟩
theorem lw_p24 : lw_okq (⟨"KnobHall", "isRoom", "(I)Z"⟩, 13) := ⟨⟨by decide +kernel, by decide +kernel⟩, List.mem_of_getElem? (i := 26) (by decide +kernel), List.mem_of_getElem? (i := 794) (by decide +kernel), List.mem_of_getElem? (i := 795) (by decide +kernel)⟩
theorem lw_p25 : lw_okq (⟨"KnobHall$Course", "nameRoom", "(II)V"⟩, 18) := ⟨⟨by decide +kernel, by decide +kernel⟩, List.mem_of_getElem? (i := 369) (by decide +kernel), List.mem_of_getElem? (i := 819) (by decide +kernel), List.mem_of_getElem? (i := 820) (by decide +kernel)⟩
theorem lw_p26 : lw_okq (⟨"KnobHall", "isPerson", "(I)Z"⟩, 13) := ⟨⟨by decide +kernel, by decide +kernel⟩, List.mem_of_getElem? (i := 26) (by decide +kernel), List.mem_of_getElem? (i := 834) (by decide +kernel), List.mem_of_getElem? (i := 835) (by decide +kernel)⟩
theorem lw_p27 : lw_okq (⟨"KnobHall", "countMore", "(I)I"⟩, 13) := ⟨⟨by decide +kernel, by decide +kernel⟩, List.mem_of_getElem? (i := 26) (by decide +kernel), List.mem_of_getElem? (i := 875) (by decide +kernel), List.mem_of_getElem? (i := 876) (by decide +kernel)⟩
theorem lw_p28 : lw_okq (⟨"KnobHall$Course", "changeRooms", "(Z)V"⟩, 18) := ⟨⟨by decide +kernel, by decide +kernel⟩, List.mem_of_getElem? (i := 369) (by decide +kernel), List.mem_of_getElem? (i := 936) (by decide +kernel), List.mem_of_getElem? (i := 937) (by decide +kernel)⟩
theorem lw_p29 : lw_okq (⟨"KnobHall$Course", "lossOf", "(I)I"⟩, 18) := ⟨⟨by decide +kernel, by decide +kernel⟩, List.mem_of_getElem? (i := 369) (by decide +kernel), List.mem_of_getElem? (i := 942) (by decide +kernel), List.mem_of_getElem? (i := 943) (by decide +kernel)⟩
theorem lw_p30 : lw_okq (⟨"KnobHall$Course", "turnKnob", "()V"⟩, 18) := ⟨⟨by decide +kernel, by decide +kernel⟩, List.mem_of_getElem? (i := 369) (by decide +kernel), List.mem_of_getElem? (i := 953) (by decide +kernel), List.mem_of_getElem? (i := 954) (by decide +kernel)⟩
theorem lw_p31 : lw_okq (⟨"KnobHall$Course", "turnTo", "(II)V"⟩, 18) := ⟨⟨by decide +kernel, by decide +kernel⟩, List.mem_of_getElem? (i := 369) (by decide +kernel), List.mem_of_getElem? (i := 960) (by decide +kernel), List.mem_of_getElem? (i := 961) (by decide +kernel)⟩
def lw_privs_2 : List (MethodName × Nat) := [(⟨"KnobHall$Reader", "readLaw", "()Z"⟩, 7), (⟨"KnobHall$Formula", "release", "(LKnobHall$Laws;I)V"⟩, 7), (⟨"KnobHall$Formula", "readPart", "(LKnobHall$Laws;)I"⟩, 7), (⟨"KnobHall$Formula", "openBracket", "()I"⟩, 7), (⟨"KnobHall$Formula", "await", "(I)V"⟩, 7), (⟨"KnobHall$Formula", "readJoint", "(LKnobHall$Laws;)I"⟩, 7), (⟨"KnobHall$Reader", "readEnd", "()Z"⟩, 7), (⟨"KnobHall", "takeSpare", "()V"⟩, 13), (⟨"KnobHall", "isRoom", "(I)Z"⟩, 13), (⟨"KnobHall$Course", "nameRoom", "(II)V"⟩, 18), (⟨"KnobHall", "isPerson", "(I)Z"⟩, 13), (⟨"KnobHall", "countMore", "(I)I"⟩, 13), (⟨"KnobHall$Course", "changeRooms", "(Z)V"⟩, 18), (⟨"KnobHall$Course", "lossOf", "(I)I"⟩, 18), (⟨"KnobHall$Course", "turnKnob", "()V"⟩, 18), (⟨"KnobHall$Course", "turnTo", "(II)V"⟩, 18)]
theorem lw_r2 : ∀ q ∈ lw_privs_2, lw_okq q := List.forall_mem_cons.mpr ⟨lw_p16, List.forall_mem_cons.mpr ⟨lw_p17, List.forall_mem_cons.mpr ⟨lw_p18, List.forall_mem_cons.mpr ⟨lw_p19, List.forall_mem_cons.mpr ⟨lw_p20, List.forall_mem_cons.mpr ⟨lw_p21, List.forall_mem_cons.mpr ⟨lw_p22, List.forall_mem_cons.mpr ⟨lw_p23, List.forall_mem_cons.mpr ⟨lw_p24, List.forall_mem_cons.mpr ⟨lw_p25, List.forall_mem_cons.mpr ⟨lw_p26, List.forall_mem_cons.mpr ⟨lw_p27, List.forall_mem_cons.mpr ⟨lw_p28, List.forall_mem_cons.mpr ⟨lw_p29, List.forall_mem_cons.mpr ⟨lw_p30, List.forall_mem_cons.mpr ⟨lw_p31, fun _ h => absurd h List.not_mem_nil⟩⟩⟩⟩⟩⟩⟩⟩⟩⟩⟩⟩⟩⟩⟩⟩
theorem lw_p32 : lw_okq (⟨"KnobHall$Course", "crossPeople", "()V"⟩, 18) := ⟨⟨by decide +kernel, by decide +kernel⟩, List.mem_of_getElem? (i := 369) (by decide +kernel), List.mem_of_getElem? (i := 964) (by decide +kernel), List.mem_of_getElem? (i := 965) (by decide +kernel)⟩
theorem lw_p33 : lw_okq (⟨"KnobHall", "tryAsItGoes", "()V"⟩, 13) := ⟨⟨by decide +kernel, by decide +kernel⟩, List.mem_of_getElem? (i := 26) (by decide +kernel), List.mem_of_getElem? (i := 995) (by decide +kernel), List.mem_of_getElem? (i := 996) (by decide +kernel)⟩
theorem lw_p34 : lw_okq (⟨"KnobHall", "canBeWarm", "(II)Z"⟩, 13) := ⟨⟨by decide +kernel, by decide +kernel⟩, List.mem_of_getElem? (i := 26) (by decide +kernel), List.mem_of_getElem? (i := 1036) (by decide +kernel), List.mem_of_getElem? (i := 1037) (by decide +kernel)⟩
theorem lw_p35 : lw_okq (⟨"KnobHall", "hoursTillWarm", "(III)I"⟩, 13) := ⟨⟨by decide +kernel, by decide +kernel⟩, List.mem_of_getElem? (i := 26) (by decide +kernel), List.mem_of_getElem? (i := 1040) (by decide +kernel), List.mem_of_getElem? (i := 1041) (by decide +kernel)⟩
theorem lw_p36 : lw_okq (⟨"KnobHall", "tryRoomsAlone", "(I)V"⟩, 13) := ⟨⟨by decide +kernel, by decide +kernel⟩, List.mem_of_getElem? (i := 26) (by decide +kernel), List.mem_of_getElem? (i := 1044) (by decide +kernel), List.mem_of_getElem? (i := 1045) (by decide +kernel)⟩
theorem lw_p37 : lw_okq (⟨"KnobHall", "tryTurnedBy", "(I)V"⟩, 13) := ⟨⟨by decide +kernel, by decide +kernel⟩, List.mem_of_getElem? (i := 26) (by decide +kernel), List.mem_of_getElem? (i := 1048) (by decide +kernel), List.mem_of_getElem? (i := 1049) (by decide +kernel)⟩
theorem lw_p38 : lw_okq (⟨"KnobHall", "paidBy", "(II)I"⟩, 13) := ⟨⟨by decide +kernel, by decide +kernel⟩, List.mem_of_getElem? (i := 26) (by decide +kernel), List.mem_of_getElem? (i := 1078) (by decide +kernel), List.mem_of_getElem? (i := 1079) (by decide +kernel)⟩
theorem lw_p39 : lw_okq (⟨"KnobHall", "areTwo", "(II)Z"⟩, 13) := ⟨⟨by decide +kernel, by decide +kernel⟩, List.mem_of_getElem? (i := 26) (by decide +kernel), List.mem_of_getElem? (i := 1095) (by decide +kernel), List.mem_of_getElem? (i := 1096) (by decide +kernel)⟩
theorem lw_p40 : lw_okq (⟨"KnobHall", "crossByWishOf", "(II)I"⟩, 13) := ⟨⟨by decide +kernel, by decide +kernel⟩, List.mem_of_getElem? (i := 26) (by decide +kernel), List.mem_of_getElem? (i := 1099) (by decide +kernel), List.mem_of_getElem? (i := 1100) (by decide +kernel)⟩
theorem lw_p41 : lw_okq (⟨"KnobHall", "restAt", "(III)I"⟩, 13) := ⟨⟨by decide +kernel, by decide +kernel⟩, List.mem_of_getElem? (i := 26) (by decide +kernel), List.mem_of_getElem? (i := 1109) (by decide +kernel), List.mem_of_getElem? (i := 1110) (by decide +kernel)⟩
theorem lw_p42 : lw_okq (⟨"KnobHall", "isRest", "(IIII)Z"⟩, 13) := ⟨⟨by decide +kernel, by decide +kernel⟩, List.mem_of_getElem? (i := 26) (by decide +kernel), List.mem_of_getElem? (i := 1113) (by decide +kernel), List.mem_of_getElem? (i := 1114) (by decide +kernel)⟩
theorem lw_p43 : lw_okq (⟨"KnobHall", "isWornBy", "(II)Z"⟩, 13) := ⟨⟨by decide +kernel, by decide +kernel⟩, List.mem_of_getElem? (i := 26) (by decide +kernel), List.mem_of_getElem? (i := 1160) (by decide +kernel), List.mem_of_getElem? (i := 1161) (by decide +kernel)⟩
theorem lw_p44 : lw_okq (⟨"KnobHall$Log", "isKnownWear", "(I)Z"⟩, 7) := ⟨⟨by decide +kernel, by decide +kernel⟩, List.mem_of_getElem? (i := 506) (by decide +kernel), List.mem_of_getElem? (i := 1168) (by decide +kernel), List.mem_of_getElem? (i := 1169) (by decide +kernel)⟩
theorem lw_p45 : lw_okq (⟨"java/lang/Throwable", "fillInStackTrace", "(I)Ljava/lang/Throwable;"⟩, 6) := ⟨⟨by decide +kernel, by decide +kernel⟩, List.mem_of_getElem? (i := 1223) (by decide +kernel), List.mem_of_getElem? (i := 1221) (by decide +kernel), List.mem_of_getElem? (i := 1222) (by decide +kernel)⟩
theorem lw_p46 : lw_okq (⟨"KnobHallModel", "plain", "()V"⟩, 93) := ⟨⟨by decide +kernel, by decide +kernel⟩, List.mem_of_getElem? (i := 1268) (by decide +kernel), List.mem_of_getElem? (i := 1274) (by decide +kernel), List.mem_of_getElem? (i := 1275) (by decide +kernel)⟩
theorem lw_p47 : lw_okq (⟨"KnobHallModel", "keepText", "()V"⟩, 93) := ⟨⟨by decide +kernel, by decide +kernel⟩, List.mem_of_getElem? (i := 1268) (by decide +kernel), List.mem_of_getElem? (i := 1278) (by decide +kernel), List.mem_of_getElem? (i := 1279) (by decide +kernel)⟩
def lw_privs_3 : List (MethodName × Nat) := [(⟨"KnobHall$Course", "crossPeople", "()V"⟩, 18), (⟨"KnobHall", "tryAsItGoes", "()V"⟩, 13), (⟨"KnobHall", "canBeWarm", "(II)Z"⟩, 13), (⟨"KnobHall", "hoursTillWarm", "(III)I"⟩, 13), (⟨"KnobHall", "tryRoomsAlone", "(I)V"⟩, 13), (⟨"KnobHall", "tryTurnedBy", "(I)V"⟩, 13), (⟨"KnobHall", "paidBy", "(II)I"⟩, 13), (⟨"KnobHall", "areTwo", "(II)Z"⟩, 13), (⟨"KnobHall", "crossByWishOf", "(II)I"⟩, 13), (⟨"KnobHall", "restAt", "(III)I"⟩, 13), (⟨"KnobHall", "isRest", "(IIII)Z"⟩, 13), (⟨"KnobHall", "isWornBy", "(II)Z"⟩, 13), (⟨"KnobHall$Log", "isKnownWear", "(I)Z"⟩, 7), (⟨"java/lang/Throwable", "fillInStackTrace", "(I)Ljava/lang/Throwable;"⟩, 6), (⟨"KnobHallModel", "plain", "()V"⟩, 93), (⟨"KnobHallModel", "keepText", "()V"⟩, 93)]
theorem lw_r3 : ∀ q ∈ lw_privs_3, lw_okq q := List.forall_mem_cons.mpr ⟨lw_p32, List.forall_mem_cons.mpr ⟨lw_p33, List.forall_mem_cons.mpr ⟨lw_p34, List.forall_mem_cons.mpr ⟨lw_p35, List.forall_mem_cons.mpr ⟨lw_p36, List.forall_mem_cons.mpr ⟨lw_p37, List.forall_mem_cons.mpr ⟨lw_p38, List.forall_mem_cons.mpr ⟨lw_p39, List.forall_mem_cons.mpr ⟨lw_p40, List.forall_mem_cons.mpr ⟨lw_p41, List.forall_mem_cons.mpr ⟨lw_p42, List.forall_mem_cons.mpr ⟨lw_p43, List.forall_mem_cons.mpr ⟨lw_p44, List.forall_mem_cons.mpr ⟨lw_p45, List.forall_mem_cons.mpr ⟨lw_p46, List.forall_mem_cons.mpr ⟨lw_p47, fun _ h => absurd h List.not_mem_nil⟩⟩⟩⟩⟩⟩⟩⟩⟩⟩⟩⟩⟩⟩⟩⟩
theorem lw_p48 : lw_okq (⟨"KnobHallModel", "begin", "()V"⟩, 93) := ⟨⟨by decide +kernel, by decide +kernel⟩, List.mem_of_getElem? (i := 1268) (by decide +kernel), List.mem_of_getElem? (i := 1285) (by decide +kernel), List.mem_of_getElem? (i := 1286) (by decide +kernel)⟩
theorem lw_p49 : lw_okq (⟨"KnobHallModel", "atFirst", "(I)V"⟩, 93) := ⟨⟨by decide +kernel, by decide +kernel⟩, List.mem_of_getElem? (i := 1268) (by decide +kernel), List.mem_of_getElem? (i := 1289) (by decide +kernel), List.mem_of_getElem? (i := 1290) (by decide +kernel)⟩
theorem lw_p50 : lw_okq (⟨"KnobHallModel", "plainTried", "()V"⟩, 93) := ⟨⟨by decide +kernel, by decide +kernel⟩, List.mem_of_getElem? (i := 1268) (by decide +kernel), List.mem_of_getElem? (i := 1293) (by decide +kernel), List.mem_of_getElem? (i := 1294) (by decide +kernel)⟩
theorem lw_p51 : lw_okq (⟨"KnobHallModel", "token", "()V"⟩, 93) := ⟨⟨by decide +kernel, by decide +kernel⟩, List.mem_of_getElem? (i := 1268) (by decide +kernel), List.mem_of_getElem? (i := 1589) (by decide +kernel), List.mem_of_getElem? (i := 1590) (by decide +kernel)⟩
theorem lw_p52 : lw_okq (⟨"KnobHallModel", "isSmall", "(I)Z"⟩, 93) := ⟨⟨by decide +kernel, by decide +kernel⟩, List.mem_of_getElem? (i := 1268) (by decide +kernel), List.mem_of_getElem? (i := 1593) (by decide +kernel), List.mem_of_getElem? (i := 1594) (by decide +kernel)⟩
theorem lw_p53 : lw_okq (⟨"KnobHallModel", "wordAt", "(II)I"⟩, 93) := ⟨⟨by decide +kernel, by decide +kernel⟩, List.mem_of_getElem? (i := 1268) (by decide +kernel), List.mem_of_getElem? (i := 1597) (by decide +kernel), List.mem_of_getElem? (i := 1598) (by decide +kernel)⟩
theorem lw_p54 : lw_okq (⟨"KnobHallModel", "packed", "(II)I"⟩, 93) := ⟨⟨by decide +kernel, by decide +kernel⟩, List.mem_of_getElem? (i := 1268) (by decide +kernel), List.mem_of_getElem? (i := 1601) (by decide +kernel), List.mem_of_getElem? (i := 1602) (by decide +kernel)⟩
theorem lw_p55 : lw_okq (⟨"KnobHallModel", "isDigit", "(I)Z"⟩, 93) := ⟨⟨by decide +kernel, by decide +kernel⟩, List.mem_of_getElem? (i := 1268) (by decide +kernel), List.mem_of_getElem? (i := 1605) (by decide +kernel), List.mem_of_getElem? (i := 1606) (by decide +kernel)⟩
theorem lw_p56 : lw_okq (⟨"KnobHallModel", "signToken", "()V"⟩, 93) := ⟨⟨by decide +kernel, by decide +kernel⟩, List.mem_of_getElem? (i := 1268) (by decide +kernel), List.mem_of_getElem? (i := 1610) (by decide +kernel), List.mem_of_getElem? (i := 1611) (by decide +kernel)⟩
theorem lw_p57 : lw_okq (⟨"KnobHallModel", "lineRead", "()Z"⟩, 93) := ⟨⟨by decide +kernel, by decide +kernel⟩, List.mem_of_getElem? (i := 1268) (by decide +kernel), List.mem_of_getElem? (i := 1614) (by decide +kernel), List.mem_of_getElem? (i := 1615) (by decide +kernel)⟩
theorem lw_p58 : lw_okq (⟨"KnobHallModel", "wrong", "(I)Z"⟩, 93) := ⟨⟨by decide +kernel, by decide +kernel⟩, List.mem_of_getElem? (i := 1268) (by decide +kernel), List.mem_of_getElem? (i := 1618) (by decide +kernel), List.mem_of_getElem? (i := 1619) (by decide +kernel)⟩
theorem lw_p59 : lw_okq (⟨"KnobHallModel", "roomLine", "()Z"⟩, 93) := ⟨⟨by decide +kernel, by decide +kernel⟩, List.mem_of_getElem? (i := 1268) (by decide +kernel), List.mem_of_getElem? (i := 1622) (by decide +kernel), List.mem_of_getElem? (i := 1623) (by decide +kernel)⟩
theorem lw_p60 : lw_okq (⟨"KnobHallModel", "newName", "([III)Z"⟩, 93) := ⟨⟨by decide +kernel, by decide +kernel⟩, List.mem_of_getElem? (i := 1268) (by decide +kernel), List.mem_of_getElem? (i := 1626) (by decide +kernel), List.mem_of_getElem? (i := 1627) (by decide +kernel)⟩
theorem lw_p61 : lw_okq (⟨"KnobHallModel", "number", "(II)Z"⟩, 93) := ⟨⟨by decide +kernel, by decide +kernel⟩, List.mem_of_getElem? (i := 1268) (by decide +kernel), List.mem_of_getElem? (i := 1633) (by decide +kernel), List.mem_of_getElem? (i := 1634) (by decide +kernel)⟩
theorem lw_p62 : lw_okq (⟨"KnobHallModel", "personLine", "()Z"⟩, 93) := ⟨⟨by decide +kernel, by decide +kernel⟩, List.mem_of_getElem? (i := 1268) (by decide +kernel), List.mem_of_getElem? (i := 1640) (by decide +kernel), List.mem_of_getElem? (i := 1641) (by decide +kernel)⟩
theorem lw_p63 : lw_okq (⟨"KnobHallModel", "roomThere", "()Z"⟩, 93) := ⟨⟨by decide +kernel, by decide +kernel⟩, List.mem_of_getElem? (i := 1268) (by decide +kernel), List.mem_of_getElem? (i := 1644) (by decide +kernel), List.mem_of_getElem? (i := 1645) (by decide +kernel)⟩
def lw_privs_4 : List (MethodName × Nat) := [(⟨"KnobHallModel", "begin", "()V"⟩, 93), (⟨"KnobHallModel", "atFirst", "(I)V"⟩, 93), (⟨"KnobHallModel", "plainTried", "()V"⟩, 93), (⟨"KnobHallModel", "token", "()V"⟩, 93), (⟨"KnobHallModel", "isSmall", "(I)Z"⟩, 93), (⟨"KnobHallModel", "wordAt", "(II)I"⟩, 93), (⟨"KnobHallModel", "packed", "(II)I"⟩, 93), (⟨"KnobHallModel", "isDigit", "(I)Z"⟩, 93), (⟨"KnobHallModel", "signToken", "()V"⟩, 93), (⟨"KnobHallModel", "lineRead", "()Z"⟩, 93), (⟨"KnobHallModel", "wrong", "(I)Z"⟩, 93), (⟨"KnobHallModel", "roomLine", "()Z"⟩, 93), (⟨"KnobHallModel", "newName", "([III)Z"⟩, 93), (⟨"KnobHallModel", "number", "(II)Z"⟩, 93), (⟨"KnobHallModel", "personLine", "()Z"⟩, 93), (⟨"KnobHallModel", "roomThere", "()Z"⟩, 93)]
theorem lw_r4 : ∀ q ∈ lw_privs_4, lw_okq q := List.forall_mem_cons.mpr ⟨lw_p48, List.forall_mem_cons.mpr ⟨lw_p49, List.forall_mem_cons.mpr ⟨lw_p50, List.forall_mem_cons.mpr ⟨lw_p51, List.forall_mem_cons.mpr ⟨lw_p52, List.forall_mem_cons.mpr ⟨lw_p53, List.forall_mem_cons.mpr ⟨lw_p54, List.forall_mem_cons.mpr ⟨lw_p55, List.forall_mem_cons.mpr ⟨lw_p56, List.forall_mem_cons.mpr ⟨lw_p57, List.forall_mem_cons.mpr ⟨lw_p58, List.forall_mem_cons.mpr ⟨lw_p59, List.forall_mem_cons.mpr ⟨lw_p60, List.forall_mem_cons.mpr ⟨lw_p61, List.forall_mem_cons.mpr ⟨lw_p62, List.forall_mem_cons.mpr ⟨lw_p63, fun _ h => absurd h List.not_mem_nil⟩⟩⟩⟩⟩⟩⟩⟩⟩⟩⟩⟩⟩⟩⟩⟩
theorem lw_p64 : lw_okq (⟨"KnobHallModel", "sunLine", "()Z"⟩, 93) := ⟨⟨by decide +kernel, by decide +kernel⟩, List.mem_of_getElem? (i := 1268) (by decide +kernel), List.mem_of_getElem? (i := 1648) (by decide +kernel), List.mem_of_getElem? (i := 1649) (by decide +kernel)⟩
theorem lw_p65 : lw_okq (⟨"KnobHallModel", "outLine", "()Z"⟩, 93) := ⟨⟨by decide +kernel, by decide +kernel⟩, List.mem_of_getElem? (i := 1268) (by decide +kernel), List.mem_of_getElem? (i := 1652) (by decide +kernel), List.mem_of_getElem? (i := 1653) (by decide +kernel)⟩
theorem lw_p66 : lw_okq (⟨"KnobHallModel", "knobLine", "()Z"⟩, 93) := ⟨⟨by decide +kernel, by decide +kernel⟩, List.mem_of_getElem? (i := 1268) (by decide +kernel), List.mem_of_getElem? (i := 1656) (by decide +kernel), List.mem_of_getElem? (i := 1657) (by decide +kernel)⟩
theorem lw_p67 : lw_okq (⟨"KnobHallModel", "priceLine", "()Z"⟩, 93) := ⟨⟨by decide +kernel, by decide +kernel⟩, List.mem_of_getElem? (i := 1268) (by decide +kernel), List.mem_of_getElem? (i := 1660) (by decide +kernel), List.mem_of_getElem? (i := 1661) (by decide +kernel)⟩
theorem lw_p68 : lw_okq (⟨"KnobHallModel", "sumRead", "()Z"⟩, 93) := ⟨⟨by decide +kernel, by decide +kernel⟩, List.mem_of_getElem? (i := 1268) (by decide +kernel), List.mem_of_getElem? (i := 1664) (by decide +kernel), List.mem_of_getElem? (i := 1665) (by decide +kernel)⟩
theorem lw_p69 : lw_okq (⟨"KnobHallModel", "isSign", "(I)Z"⟩, 93) := ⟨⟨by decide +kernel, by decide +kernel⟩, List.mem_of_getElem? (i := 1268) (by decide +kernel), List.mem_of_getElem? (i := 1668) (by decide +kernel), List.mem_of_getElem? (i := 1669) (by decide +kernel)⟩
theorem lw_p70 : lw_okq (⟨"KnobHallModel", "leafRead", "()Z"⟩, 93) := ⟨⟨by decide +kernel, by decide +kernel⟩, List.mem_of_getElem? (i := 1268) (by decide +kernel), List.mem_of_getElem? (i := 1672) (by decide +kernel), List.mem_of_getElem? (i := 1673) (by decide +kernel)⟩
theorem lw_p71 : lw_okq (⟨"KnobHallModel", "waitsFor", "(I)V"⟩, 93) := ⟨⟨by decide +kernel, by decide +kernel⟩, List.mem_of_getElem? (i := 1268) (by decide +kernel), List.mem_of_getElem? (i := 1676) (by decide +kernel), List.mem_of_getElem? (i := 1677) (by decide +kernel)⟩
theorem lw_p72 : lw_okq (⟨"KnobHallModel", "isKey", "(I)Z"⟩, 93) := ⟨⟨by decide +kernel, by decide +kernel⟩, List.mem_of_getElem? (i := 1268) (by decide +kernel), List.mem_of_getElem? (i := 1680) (by decide +kernel), List.mem_of_getElem? (i := 1681) (by decide +kernel)⟩
theorem lw_p73 : lw_okq (⟨"KnobHallModel", "isCounted", "()Z"⟩, 93) := ⟨⟨by decide +kernel, by decide +kernel⟩, List.mem_of_getElem? (i := 1268) (by decide +kernel), List.mem_of_getElem? (i := 1684) (by decide +kernel), List.mem_of_getElem? (i := 1685) (by decide +kernel)⟩
theorem lw_p74 : lw_okq (⟨"KnobHallModel", "nameMet", "()I"⟩, 93) := ⟨⟨by decide +kernel, by decide +kernel⟩, List.mem_of_getElem? (i := 1268) (by decide +kernel), List.mem_of_getElem? (i := 1688) (by decide +kernel), List.mem_of_getElem? (i := 1689) (by decide +kernel)⟩
theorem lw_p75 : lw_okq (⟨"KnobHallModel", "grown", "(III)V"⟩, 93) := ⟨⟨by decide +kernel, by decide +kernel⟩, List.mem_of_getElem? (i := 1268) (by decide +kernel), List.mem_of_getElem? (i := 1692) (by decide +kernel), List.mem_of_getElem? (i := 1693) (by decide +kernel)⟩
theorem lw_p76 : lw_okq (⟨"KnobHallModel", "signs", "()Z"⟩, 93) := ⟨⟨by decide +kernel, by decide +kernel⟩, List.mem_of_getElem? (i := 1268) (by decide +kernel), List.mem_of_getElem? (i := 1696) (by decide +kernel), List.mem_of_getElem? (i := 1697) (by decide +kernel)⟩
theorem lw_p77 : lw_okq (⟨"KnobHallModel", "bind", "(I)V"⟩, 93) := ⟨⟨by decide +kernel, by decide +kernel⟩, List.mem_of_getElem? (i := 1268) (by decide +kernel), List.mem_of_getElem? (i := 1700) (by decide +kernel), List.mem_of_getElem? (i := 1701) (by decide +kernel)⟩
theorem lw_p78 : lw_okq (⟨"KnobHallModel", "dropHeld", "()I"⟩, 93) := ⟨⟨by decide +kernel, by decide +kernel⟩, List.mem_of_getElem? (i := 1268) (by decide +kernel), List.mem_of_getElem? (i := 1707) (by decide +kernel), List.mem_of_getElem? (i := 1708) (by decide +kernel)⟩
theorem lw_p79 : lw_okq (⟨"KnobHallModel", "isPerson", "(I)Z"⟩, 93) := ⟨⟨by decide +kernel, by decide +kernel⟩, List.mem_of_getElem? (i := 1268) (by decide +kernel), List.mem_of_getElem? (i := 1723) (by decide +kernel), List.mem_of_getElem? (i := 1724) (by decide +kernel)⟩
def lw_privs_5 : List (MethodName × Nat) := [(⟨"KnobHallModel", "sunLine", "()Z"⟩, 93), (⟨"KnobHallModel", "outLine", "()Z"⟩, 93), (⟨"KnobHallModel", "knobLine", "()Z"⟩, 93), (⟨"KnobHallModel", "priceLine", "()Z"⟩, 93), (⟨"KnobHallModel", "sumRead", "()Z"⟩, 93), (⟨"KnobHallModel", "isSign", "(I)Z"⟩, 93), (⟨"KnobHallModel", "leafRead", "()Z"⟩, 93), (⟨"KnobHallModel", "waitsFor", "(I)V"⟩, 93), (⟨"KnobHallModel", "isKey", "(I)Z"⟩, 93), (⟨"KnobHallModel", "isCounted", "()Z"⟩, 93), (⟨"KnobHallModel", "nameMet", "()I"⟩, 93), (⟨"KnobHallModel", "grown", "(III)V"⟩, 93), (⟨"KnobHallModel", "signs", "()Z"⟩, 93), (⟨"KnobHallModel", "bind", "(I)V"⟩, 93), (⟨"KnobHallModel", "dropHeld", "()I"⟩, 93), (⟨"KnobHallModel", "isPerson", "(I)Z"⟩, 93)]
theorem lw_r5 : ∀ q ∈ lw_privs_5, lw_okq q := List.forall_mem_cons.mpr ⟨lw_p64, List.forall_mem_cons.mpr ⟨lw_p65, List.forall_mem_cons.mpr ⟨lw_p66, List.forall_mem_cons.mpr ⟨lw_p67, List.forall_mem_cons.mpr ⟨lw_p68, List.forall_mem_cons.mpr ⟨lw_p69, List.forall_mem_cons.mpr ⟨lw_p70, List.forall_mem_cons.mpr ⟨lw_p71, List.forall_mem_cons.mpr ⟨lw_p72, List.forall_mem_cons.mpr ⟨lw_p73, List.forall_mem_cons.mpr ⟨lw_p74, List.forall_mem_cons.mpr ⟨lw_p75, List.forall_mem_cons.mpr ⟨lw_p76, List.forall_mem_cons.mpr ⟨lw_p77, List.forall_mem_cons.mpr ⟨lw_p78, List.forall_mem_cons.mpr ⟨lw_p79, fun _ h => absurd h List.not_mem_nil⟩⟩⟩⟩⟩⟩⟩⟩⟩⟩⟩⟩⟩⟩⟩⟩
theorem lw_p80 : lw_okq (⟨"KnobHallModel", "fails", "(I)I"⟩, 93) := ⟨⟨by decide +kernel, by decide +kernel⟩, List.mem_of_getElem? (i := 1268) (by decide +kernel), List.mem_of_getElem? (i := 1727) (by decide +kernel), List.mem_of_getElem? (i := 1728) (by decide +kernel)⟩
theorem lw_p81 : lw_okq (⟨"KnobHallModel", "feltBy", "(II)I"⟩, 93) := ⟨⟨by decide +kernel, by decide +kernel⟩, List.mem_of_getElem? (i := 1268) (by decide +kernel), List.mem_of_getElem? (i := 1731) (by decide +kernel), List.mem_of_getElem? (i := 1732) (by decide +kernel)⟩
theorem lw_p82 : lw_okq (⟨"KnobHallModel", "isRoom", "(I)Z"⟩, 93) := ⟨⟨by decide +kernel, by decide +kernel⟩, List.mem_of_getElem? (i := 1268) (by decide +kernel), List.mem_of_getElem? (i := 1739) (by decide +kernel), List.mem_of_getElem? (i := 1740) (by decide +kernel)⟩
theorem lw_p83 : lw_okq (⟨"KnobHallModel", "sunIn", "(II)I"⟩, 93) := ⟨⟨by decide +kernel, by decide +kernel⟩, List.mem_of_getElem? (i := 1268) (by decide +kernel), List.mem_of_getElem? (i := 1743) (by decide +kernel), List.mem_of_getElem? (i := 1744) (by decide +kernel)⟩
theorem lw_p84 : lw_okq (⟨"KnobHallModel", "outOf", "(I)I"⟩, 93) := ⟨⟨by decide +kernel, by decide +kernel⟩, List.mem_of_getElem? (i := 1268) (by decide +kernel), List.mem_of_getElem? (i := 1751) (by decide +kernel), List.mem_of_getElem? (i := 1752) (by decide +kernel)⟩
theorem lw_p85 : lw_okq (⟨"KnobHallModel", "layNames", "(IIII)V"⟩, 93) := ⟨⟨by decide +kernel, by decide +kernel⟩, List.mem_of_getElem? (i := 1268) (by decide +kernel), List.mem_of_getElem? (i := 1763) (by decide +kernel), List.mem_of_getElem? (i := 1764) (by decide +kernel)⟩
theorem lw_p86 : lw_okq (⟨"KnobHallModel", "leakOf", "(I)I"⟩, 93) := ⟨⟨by decide +kernel, by decide +kernel⟩, List.mem_of_getElem? (i := 1268) (by decide +kernel), List.mem_of_getElem? (i := 1767) (by decide +kernel), List.mem_of_getElem? (i := 1768) (by decide +kernel)⟩
theorem lw_p87 : lw_okq (⟨"KnobHallModel", "lawOf", "(I)J"⟩, 93) := ⟨⟨by decide +kernel, by decide +kernel⟩, List.mem_of_getElem? (i := 1268) (by decide +kernel), List.mem_of_getElem? (i := 1771) (by decide +kernel), List.mem_of_getElem? (i := 1772) (by decide +kernel)⟩
theorem lw_p88 : lw_okq (⟨"KnobHallModel", "valueOf", "(I)J"⟩, 93) := ⟨⟨by decide +kernel, by decide +kernel⟩, List.mem_of_getElem? (i := 1268) (by decide +kernel), List.mem_of_getElem? (i := 1775) (by decide +kernel), List.mem_of_getElem? (i := 1776) (by decide +kernel)⟩
theorem lw_p89 : lw_okq (⟨"KnobHallModel", "bounded", "(J)J"⟩, 93) := ⟨⟨by decide +kernel, by decide +kernel⟩, List.mem_of_getElem? (i := 1268) (by decide +kernel), List.mem_of_getElem? (i := 1779) (by decide +kernel), List.mem_of_getElem? (i := 1780) (by decide +kernel)⟩
theorem lw_p90 : lw_okq (⟨"KnobHallModel", "times", "(JJ)J"⟩, 93) := ⟨⟨by decide +kernel, by decide +kernel⟩, List.mem_of_getElem? (i := 1268) (by decide +kernel), List.mem_of_getElem? (i := 1785) (by decide +kernel), List.mem_of_getElem? (i := 1786) (by decide +kernel)⟩
theorem lw_p91 : lw_okq (⟨"KnobHallModel", "remember", "()V"⟩, 93) := ⟨⟨by decide +kernel, by decide +kernel⟩, List.mem_of_getElem? (i := 1268) (by decide +kernel), List.mem_of_getElem? (i := 1799) (by decide +kernel), List.mem_of_getElem? (i := 1800) (by decide +kernel)⟩
theorem lw_p92 : lw_okq (⟨"KnobHallModel", "put", "([II)V"⟩, 93) := ⟨⟨by decide +kernel, by decide +kernel⟩, List.mem_of_getElem? (i := 1268) (by decide +kernel), List.mem_of_getElem? (i := 1803) (by decide +kernel), List.mem_of_getElem? (i := 1804) (by decide +kernel)⟩
theorem lw_p93 : lw_okq (⟨"KnobHallModel", "goOn", "(I)V"⟩, 93) := ⟨⟨by decide +kernel, by decide +kernel⟩, List.mem_of_getElem? (i := 1268) (by decide +kernel), List.mem_of_getElem? (i := 1823) (by decide +kernel), List.mem_of_getElem? (i := 1824) (by decide +kernel)⟩
theorem lw_p94 : lw_okq (⟨"KnobHallModel", "isOn", "(I)Z"⟩, 93) := ⟨⟨by decide +kernel, by decide +kernel⟩, List.mem_of_getElem? (i := 1268) (by decide +kernel), List.mem_of_getElem? (i := 1827) (by decide +kernel), List.mem_of_getElem? (i := 1828) (by decide +kernel)⟩
theorem lw_p95 : lw_okq (⟨"KnobHallModel", "loses", "(II)I"⟩, 93) := ⟨⟨by decide +kernel, by decide +kernel⟩, List.mem_of_getElem? (i := 1268) (by decide +kernel), List.mem_of_getElem? (i := 1831) (by decide +kernel), List.mem_of_getElem? (i := 1832) (by decide +kernel)⟩
def lw_privs_6 : List (MethodName × Nat) := [(⟨"KnobHallModel", "fails", "(I)I"⟩, 93), (⟨"KnobHallModel", "feltBy", "(II)I"⟩, 93), (⟨"KnobHallModel", "isRoom", "(I)Z"⟩, 93), (⟨"KnobHallModel", "sunIn", "(II)I"⟩, 93), (⟨"KnobHallModel", "outOf", "(I)I"⟩, 93), (⟨"KnobHallModel", "layNames", "(IIII)V"⟩, 93), (⟨"KnobHallModel", "leakOf", "(I)I"⟩, 93), (⟨"KnobHallModel", "lawOf", "(I)J"⟩, 93), (⟨"KnobHallModel", "valueOf", "(I)J"⟩, 93), (⟨"KnobHallModel", "bounded", "(J)J"⟩, 93), (⟨"KnobHallModel", "times", "(JJ)J"⟩, 93), (⟨"KnobHallModel", "remember", "()V"⟩, 93), (⟨"KnobHallModel", "put", "([II)V"⟩, 93), (⟨"KnobHallModel", "goOn", "(I)V"⟩, 93), (⟨"KnobHallModel", "isOn", "(I)Z"⟩, 93), (⟨"KnobHallModel", "loses", "(II)I"⟩, 93)]
theorem lw_r6 : ∀ q ∈ lw_privs_6, lw_okq q := List.forall_mem_cons.mpr ⟨lw_p80, List.forall_mem_cons.mpr ⟨lw_p81, List.forall_mem_cons.mpr ⟨lw_p82, List.forall_mem_cons.mpr ⟨lw_p83, List.forall_mem_cons.mpr ⟨lw_p84, List.forall_mem_cons.mpr ⟨lw_p85, List.forall_mem_cons.mpr ⟨lw_p86, List.forall_mem_cons.mpr ⟨lw_p87, List.forall_mem_cons.mpr ⟨lw_p88, List.forall_mem_cons.mpr ⟨lw_p89, List.forall_mem_cons.mpr ⟨lw_p90, List.forall_mem_cons.mpr ⟨lw_p91, List.forall_mem_cons.mpr ⟨lw_p92, List.forall_mem_cons.mpr ⟨lw_p93, List.forall_mem_cons.mpr ⟨lw_p94, List.forall_mem_cons.mpr ⟨lw_p95, fun _ h => absurd h List.not_mem_nil⟩⟩⟩⟩⟩⟩⟩⟩⟩⟩⟩⟩⟩⟩⟩⟩
theorem lw_p96 : lw_okq (⟨"KnobHallModel", "boundLaw", "(IIII)I"⟩, 93) := ⟨⟨by decide +kernel, by decide +kernel⟩, List.mem_of_getElem? (i := 1268) (by decide +kernel), List.mem_of_getElem? (i := 1835) (by decide +kernel), List.mem_of_getElem? (i := 1836) (by decide +kernel)⟩
theorem lw_p97 : lw_okq (⟨"KnobHallModel", "turnOf", "(II)I"⟩, 93) := ⟨⟨by decide +kernel, by decide +kernel⟩, List.mem_of_getElem? (i := 1268) (by decide +kernel), List.mem_of_getElem? (i := 1839) (by decide +kernel), List.mem_of_getElem? (i := 1840) (by decide +kernel)⟩
theorem lw_p98 : lw_okq (⟨"KnobHallModel", "turned", "(III)V"⟩, 93) := ⟨⟨by decide +kernel, by decide +kernel⟩, List.mem_of_getElem? (i := 1268) (by decide +kernel), List.mem_of_getElem? (i := 1843) (by decide +kernel), List.mem_of_getElem? (i := 1844) (by decide +kernel)⟩
theorem lw_p99 : lw_okq (⟨"KnobHallModel", "crossOf", "(II)I"⟩, 93) := ⟨⟨by decide +kernel, by decide +kernel⟩, List.mem_of_getElem? (i := 1268) (by decide +kernel), List.mem_of_getElem? (i := 1847) (by decide +kernel), List.mem_of_getElem? (i := 1848) (by decide +kernel)⟩
theorem lw_p100 : lw_okq (⟨"KnobHallModel", "layTried", "()V"⟩, 93) := ⟨⟨by decide +kernel, by decide +kernel⟩, List.mem_of_getElem? (i := 1268) (by decide +kernel), List.mem_of_getElem? (i := 1855) (by decide +kernel), List.mem_of_getElem? (i := 1856) (by decide +kernel)⟩
theorem lw_p101 : lw_okq (⟨"KnobHallModel", "goMany", "(I)V"⟩, 93) := ⟨⟨by decide +kernel, by decide +kernel⟩, List.mem_of_getElem? (i := 1268) (by decide +kernel), List.mem_of_getElem? (i := 1859) (by decide +kernel), List.mem_of_getElem? (i := 1860) (by decide +kernel)⟩
theorem lw_p102 : lw_okq (⟨"KnobHallModel", "crossMore", "()I"⟩, 93) := ⟨⟨by decide +kernel, by decide +kernel⟩, List.mem_of_getElem? (i := 1268) (by decide +kernel), List.mem_of_getElem? (i := 1863) (by decide +kernel), List.mem_of_getElem? (i := 1864) (by decide +kernel)⟩
theorem lw_p103 : lw_okq (⟨"KnobHallModel", "soonBy", "(III)I"⟩, 93) := ⟨⟨by decide +kernel, by decide +kernel⟩, List.mem_of_getElem? (i := 1268) (by decide +kernel), List.mem_of_getElem? (i := 1871) (by decide +kernel), List.mem_of_getElem? (i := 1872) (by decide +kernel)⟩
theorem lw_p104 : lw_okq (⟨"KnobHallModel", "layStill", "(I)V"⟩, 93) := ⟨⟨by decide +kernel, by decide +kernel⟩, List.mem_of_getElem? (i := 1268) (by decide +kernel), List.mem_of_getElem? (i := 1875) (by decide +kernel), List.mem_of_getElem? (i := 1876) (by decide +kernel)⟩
theorem lw_p105 : lw_okq (⟨"KnobHallModel", "spreadIn", "(I)I"⟩, 93) := ⟨⟨by decide +kernel, by decide +kernel⟩, List.mem_of_getElem? (i := 1268) (by decide +kernel), List.mem_of_getElem? (i := 1928) (by decide +kernel), List.mem_of_getElem? (i := 1929) (by decide +kernel)⟩
theorem lw_p106 : lw_okq (⟨"KnobHallModel", "areTwo", "(II)Z"⟩, 93) := ⟨⟨by decide +kernel, by decide +kernel⟩, List.mem_of_getElem? (i := 1268) (by decide +kernel), List.mem_of_getElem? (i := 1944) (by decide +kernel), List.mem_of_getElem? (i := 1945) (by decide +kernel)⟩
theorem lw_p107 : lw_okq (⟨"KnobHallModel", "restAt", "(III)I"⟩, 93) := ⟨⟨by decide +kernel, by decide +kernel⟩, List.mem_of_getElem? (i := 1268) (by decide +kernel), List.mem_of_getElem? (i := 1948) (by decide +kernel), List.mem_of_getElem? (i := 1949) (by decide +kernel)⟩
theorem lw_p108 : lw_okq (⟨"KnobHallModel", "lossBy", "(IIII)I"⟩, 93) := ⟨⟨by decide +kernel, by decide +kernel⟩, List.mem_of_getElem? (i := 1268) (by decide +kernel), List.mem_of_getElem? (i := 1952) (by decide +kernel), List.mem_of_getElem? (i := 1953) (by decide +kernel)⟩
theorem lw_p109 : lw_okq (⟨"KnobHallModel", "crossWith", "(II)I"⟩, 93) := ⟨⟨by decide +kernel, by decide +kernel⟩, List.mem_of_getElem? (i := 1268) (by decide +kernel), List.mem_of_getElem? (i := 1970) (by decide +kernel), List.mem_of_getElem? (i := 1971) (by decide +kernel)⟩
theorem lw_p110 : lw_okq (⟨"KnobHallModel", "noted", "(III)I"⟩, 93) := ⟨⟨by decide +kernel, by decide +kernel⟩, List.mem_of_getElem? (i := 1268) (by decide +kernel), List.mem_of_getElem? (i := 1982) (by decide +kernel), List.mem_of_getElem? (i := 1983) (by decide +kernel)⟩
theorem lw_p111 : lw_okq (⟨"KnobHallModel", "knownBy", "()I"⟩, 93) := ⟨⟨by decide +kernel, by decide +kernel⟩, List.mem_of_getElem? (i := 1268) (by decide +kernel), List.mem_of_getElem? (i := 1998) (by decide +kernel), List.mem_of_getElem? (i := 1999) (by decide +kernel)⟩
def lw_privs_7 : List (MethodName × Nat) := [(⟨"KnobHallModel", "boundLaw", "(IIII)I"⟩, 93), (⟨"KnobHallModel", "turnOf", "(II)I"⟩, 93), (⟨"KnobHallModel", "turned", "(III)V"⟩, 93), (⟨"KnobHallModel", "crossOf", "(II)I"⟩, 93), (⟨"KnobHallModel", "layTried", "()V"⟩, 93), (⟨"KnobHallModel", "goMany", "(I)V"⟩, 93), (⟨"KnobHallModel", "crossMore", "()I"⟩, 93), (⟨"KnobHallModel", "soonBy", "(III)I"⟩, 93), (⟨"KnobHallModel", "layStill", "(I)V"⟩, 93), (⟨"KnobHallModel", "spreadIn", "(I)I"⟩, 93), (⟨"KnobHallModel", "areTwo", "(II)Z"⟩, 93), (⟨"KnobHallModel", "restAt", "(III)I"⟩, 93), (⟨"KnobHallModel", "lossBy", "(IIII)I"⟩, 93), (⟨"KnobHallModel", "crossWith", "(II)I"⟩, 93), (⟨"KnobHallModel", "noted", "(III)I"⟩, 93), (⟨"KnobHallModel", "knownBy", "()I"⟩, 93)]
theorem lw_r7 : ∀ q ∈ lw_privs_7, lw_okq q := List.forall_mem_cons.mpr ⟨lw_p96, List.forall_mem_cons.mpr ⟨lw_p97, List.forall_mem_cons.mpr ⟨lw_p98, List.forall_mem_cons.mpr ⟨lw_p99, List.forall_mem_cons.mpr ⟨lw_p100, List.forall_mem_cons.mpr ⟨lw_p101, List.forall_mem_cons.mpr ⟨lw_p102, List.forall_mem_cons.mpr ⟨lw_p103, List.forall_mem_cons.mpr ⟨lw_p104, List.forall_mem_cons.mpr ⟨lw_p105, List.forall_mem_cons.mpr ⟨lw_p106, List.forall_mem_cons.mpr ⟨lw_p107, List.forall_mem_cons.mpr ⟨lw_p108, List.forall_mem_cons.mpr ⟨lw_p109, List.forall_mem_cons.mpr ⟨lw_p110, List.forall_mem_cons.mpr ⟨lw_p111, fun _ h => absurd h List.not_mem_nil⟩⟩⟩⟩⟩⟩⟩⟩⟩⟩⟩⟩⟩⟩⟩⟩
theorem lw_p112 : lw_okq (⟨"KnobHallModel", "fits", "(II)Z"⟩, 93) := ⟨⟨by decide +kernel, by decide +kernel⟩, List.mem_of_getElem? (i := 1268) (by decide +kernel), List.mem_of_getElem? (i := 2002) (by decide +kernel), List.mem_of_getElem? (i := 2003) (by decide +kernel)⟩
theorem lw_p113 : lw_okq (⟨"KnobHallModel", "isSo", "(I)Z"⟩, 93) := ⟨⟨by decide +kernel, by decide +kernel⟩, List.mem_of_getElem? (i := 1268) (by decide +kernel), List.mem_of_getElem? (i := 2006) (by decide +kernel), List.mem_of_getElem? (i := 2007) (by decide +kernel)⟩
theorem lw_p114 : lw_okq (⟨"KnobHallModel", "number1", "(I)I"⟩, 93) := ⟨⟨by decide +kernel, by decide +kernel⟩, List.mem_of_getElem? (i := 1268) (by decide +kernel), List.mem_of_getElem? (i := 2014) (by decide +kernel), List.mem_of_getElem? (i := 2015) (by decide +kernel)⟩
theorem lw_p115 : lw_okq (⟨"KnobHallModel", "take", "([II)V"⟩, 93) := ⟨⟨by decide +kernel, by decide +kernel⟩, List.mem_of_getElem? (i := 1268) (by decide +kernel), List.mem_of_getElem? (i := 2030) (by decide +kernel), List.mem_of_getElem? (i := 2031) (by decide +kernel)⟩
def lw_privs_8 : List (MethodName × Nat) := [(⟨"KnobHallModel", "fits", "(II)Z"⟩, 93), (⟨"KnobHallModel", "isSo", "(I)Z"⟩, 93), (⟨"KnobHallModel", "number1", "(I)I"⟩, 93), (⟨"KnobHallModel", "take", "([II)V"⟩, 93)]
theorem lw_r8 : ∀ q ∈ lw_privs_8, lw_okq q := List.forall_mem_cons.mpr ⟨lw_p112, List.forall_mem_cons.mpr ⟨lw_p113, List.forall_mem_cons.mpr ⟨lw_p114, List.forall_mem_cons.mpr ⟨lw_p115, fun _ h => absurd h List.not_mem_nil⟩⟩⟩⟩
def lw_privs : List (MethodName × Nat) := lw_privs_1 ++ (lw_privs_2 ++ (lw_privs_3 ++ (lw_privs_4 ++ (lw_privs_5 ++ (lw_privs_6 ++ (lw_privs_7 ++ (lw_privs_8)))))))
def lw_tbl : List Cond := k2_sels lw_privs ++ tables_1
theorem lw_privs_ok : ∀ q ∈ lw_privs, lw_okq q := by
  show ∀ q ∈ lw_privs_1 ++ (lw_privs_2 ++ (lw_privs_3 ++ (lw_privs_4 ++ (lw_privs_5 ++ (lw_privs_6 ++ (lw_privs_7 ++ (lw_privs_8))))))), lw_okq q
  exact List.forall_mem_append.mpr ⟨lw_r1, List.forall_mem_append.mpr ⟨lw_r2, List.forall_mem_append.mpr ⟨lw_r3, List.forall_mem_append.mpr ⟨lw_r4, List.forall_mem_append.mpr ⟨lw_r5, List.forall_mem_append.mpr ⟨lw_r6, List.forall_mem_append.mpr ⟨lw_r7, lw_r8⟩⟩⟩⟩⟩⟩⟩
def RX0 : String := "KnobHall$Course"
def TX0 : u_T := fun k => match k with
  | 0 => ("KnobHall$Course", "twist", "LKnobHall$Twist;", true)
  | 1 => ("KnobHall$Course", "house", "LKnobHall$House;", false)
  | 2 => ("KnobHall$Course", "hour", "I", false)
  | 3 => ("KnobHall$Course", "set", "I", false)
  | 4 => ("KnobHall$Course", "hears", "I", false)
  | 5 => ("KnobHall$Course", "candle", "Z", false)
  | 6 => ("KnobHall$Course", "outside", "I", false)
  | 7 => ("KnobHall$Course", "jumpers", "[Z", true)
  | 8 => ("KnobHall$Course", "warm", "[I", true)
  | 9 => ("KnobHall$Course", "cross", "[I", true)
  | 10 => ("KnobHall$Course", "turned", "[I", true)
  | 11 => ("KnobHall$Course", "learnSum", "[I", true)
  | 12 => ("KnobHall$Course", "learnTimes", "[I", true)
  | 13 => ("KnobHall$Course", "paid", "I", false)
  | 14 => ("KnobHall$Course", "fire", "I", false)
  | 15 => ("KnobHall$Course", "turns", "I", false)
  | 16 => ("KnobHall$Course", "swung", "I", false)
  | _ => ("KnobHall$Course", "lastWay", "I", false)
def tyX0 : Nat → FieldType := fun k => match k with
  | 0 => .object "KnobHall$Twist"
  | 1 => .object "KnobHall$House"
  | 2 => .int
  | 3 => .int
  | 4 => .int
  | 5 => .boolean
  | 6 => .int
  | 7 => .array .boolean
  | 8 => .array .int
  | 9 => .array .int
  | 10 => .array .int
  | 11 => .array .int
  | 12 => .array .int
  | 13 => .int
  | 14 => .int
  | 15 => .int
  | 16 => .int
  | _ => .int
theorem nmX0 : ∀ a, a < 18 → ∀ b, b < 18 → a ≠ b → (TX0 a).2.1 ≠ (TX0 b).2.1 := by decide +kernel
theorem tyX0_ok : ∀ k, k < 18 → parseFieldDescriptor (TX0 k).2.2.1 = some (tyX0 k) := by decide +kernel
abbrev cX0_init : ByteArray := prog_2_method_1_code
def yX0_init : MethodName := ⟨RX0, "<init>", "(LKnobHall$House;)V"⟩
abbrev cX0_begin : ByteArray := prog_2_method_2_code
def yX0_begin : MethodName := ⟨RX0, "begin", "(LKnobHall$House;)V"⟩
abbrev cX0_forget : ByteArray := prog_2_method_3_code
def yX0_forget : MethodName := ⟨RX0, "forget", "()V"⟩
abbrev cX0_copy : ByteArray := prog_2_method_4_code
def yX0_copy : MethodName := ⟨RX0, "copy", "(LKnobHall$Course;)V"⟩
abbrev cX0_isOn : ByteArray := prog_2_method_5_code
def yX0_isOn : MethodName := ⟨RX0, "isOn", "()Z"⟩
abbrev cX0_feltBy : ByteArray := prog_2_method_6_code
def yX0_feltBy : MethodName := ⟨RX0, "feltBy", "(I)I"⟩
abbrev cX0_crossOfAll : ByteArray := prog_2_method_7_code
def yX0_crossOfAll : MethodName := ⟨RX0, "crossOfAll", "()I"⟩
abbrev cX0_spreadNow : ByteArray := prog_2_method_8_code
def yX0_spreadNow : MethodName := ⟨RX0, "spreadNow", "()I"⟩
abbrev cX0_run : ByteArray := prog_2_method_9_code
def yX0_run : MethodName := ⟨RX0, "run", "(I)V"⟩
abbrev cX0_changeRooms : ByteArray := prog_2_method_10_code
def yX0_changeRooms : MethodName := ⟨RX0, "changeRooms", "(Z)V"⟩
abbrev cX0_lossOf : ByteArray := prog_2_method_11_code
def yX0_lossOf : MethodName := ⟨RX0, "lossOf", "(I)I"⟩
abbrev cX0_nameRoom : ByteArray := prog_2_method_12_code
def yX0_nameRoom : MethodName := ⟨RX0, "nameRoom", "(II)V"⟩
abbrev cX0_roomLaw : ByteArray := prog_2_method_13_code
def yX0_roomLaw : MethodName := ⟨RX0, "roomLaw", "(II)J"⟩
abbrev cX0_personLaw : ByteArray := prog_2_method_14_code
def yX0_personLaw : MethodName := ⟨RX0, "personLaw", "(III)J"⟩
abbrev cX0_turnKnob : ByteArray := prog_2_method_15_code
def yX0_turnKnob : MethodName := ⟨RX0, "turnKnob", "()V"⟩
abbrev cX0_turnTo : ByteArray := prog_2_method_16_code
def yX0_turnTo : MethodName := ⟨RX0, "turnTo", "(II)V"⟩
abbrev cX0_crossPeople : ByteArray := prog_2_method_17_code
def yX0_crossPeople : MethodName := ⟨RX0, "crossPeople", "()V"⟩
def RX1 : String := "KnobHall$Formula"
def TX1 : u_T := fun k => match k with
  | 0 => ("KnobHall$Formula", "tokens", "LKnobHall$Tokens;", true)
  | 1 => ("KnobHall$Formula", "waiting", "[I", true)
  | 2 => ("KnobHall$Formula", "compared", "[Z", true)
  | 3 => ("KnobHall$Formula", "waits", "I", false)
  | 4 => ("KnobHall$Formula", "brackets", "I", false)
  | 5 => ("KnobHall$Formula", "partDue", "Z", false)
  | _ => ("KnobHall$Formula", "notFits", "Z", false)
def tyX1 : Nat → FieldType := fun k => match k with
  | 0 => .object "KnobHall$Tokens"
  | 1 => .array .int
  | 2 => .array .boolean
  | 3 => .int
  | 4 => .int
  | 5 => .boolean
  | _ => .boolean
theorem nmX1 : ∀ a, a < 7 → ∀ b, b < 7 → a ≠ b → (TX1 a).2.1 ≠ (TX1 b).2.1 := by decide +kernel
theorem tyX1_ok : ∀ k, k < 7 → parseFieldDescriptor (TX1 k).2.2.1 = some (tyX1 k) := by decide +kernel
abbrev cX1_init : ByteArray := prog_3_method_1_code
def yX1_init : MethodName := ⟨RX1, "<init>", "(LKnobHall$Tokens;)V"⟩
abbrev cX1_readInto : ByteArray := prog_3_method_2_code
def yX1_readInto : MethodName := ⟨RX1, "readInto", "(LKnobHall$Laws;)I"⟩
abbrev cX1_readPart : ByteArray := prog_3_method_3_code
def yX1_readPart : MethodName := ⟨RX1, "readPart", "(LKnobHall$Laws;)I"⟩
abbrev cX1_openBracket : ByteArray := prog_3_method_4_code
def yX1_openBracket : MethodName := ⟨RX1, "openBracket", "()I"⟩
abbrev cX1_readJoint : ByteArray := prog_3_method_5_code
def yX1_readJoint : MethodName := ⟨RX1, "readJoint", "(LKnobHall$Laws;)I"⟩
abbrev cX1_await : ByteArray := prog_3_method_6_code
def yX1_await : MethodName := ⟨RX1, "await", "(I)V"⟩
abbrev cX1_release : ByteArray := prog_3_method_7_code
def yX1_release : MethodName := ⟨RX1, "release", "(LKnobHall$Laws;I)V"⟩
abbrev cX1_rankOf : ByteArray := prog_3_method_8_code
def yX1_rankOf : MethodName := ⟨RX1, "rankOf", "(I)I"⟩
def RX2 : String := "KnobHall$House"
def TX2 : u_T := fun k => match k with
  | 0 => ("KnobHall$House", "rooms", "LKnobHall$Rooms;", true)
  | 1 => ("KnobHall$House", "people", "LKnobHall$People;", true)
  | 2 => ("KnobHall$House", "laws", "LKnobHall$Laws;", true)
  | 3 => ("KnobHall$House", "suns", "I", false)
  | 4 => ("KnobHall$House", "sunRooms", "[I", true)
  | 5 => ("KnobHall$House", "sunHours", "[I", true)
  | 6 => ("KnobHall$House", "sunTenths", "[I", true)
  | 7 => ("KnobHall$House", "outs", "I", false)
  | 8 => ("KnobHall$House", "outTenths", "[I", true)
  | 9 => ("KnobHall$House", "set", "I", false)
  | 10 => ("KnobHall$House", "hears", "I", false)
  | 11 => ("KnobHall$House", "price", "I", false)
  | 12 => ("KnobHall$House", "knobTold", "Z", false)
  | 13 => ("KnobHall$House", "priceTold", "Z", false)
  | _ => ("KnobHall$House", "lines", "I", false)
def tyX2 : Nat → FieldType := fun k => match k with
  | 0 => .object "KnobHall$Rooms"
  | 1 => .object "KnobHall$People"
  | 2 => .object "KnobHall$Laws"
  | 3 => .int
  | 4 => .array .int
  | 5 => .array .int
  | 6 => .array .int
  | 7 => .int
  | 8 => .array .int
  | 9 => .int
  | 10 => .int
  | 11 => .int
  | 12 => .boolean
  | 13 => .boolean
  | _ => .int
theorem nmX2 : ∀ a, a < 15 → ∀ b, b < 15 → a ≠ b → (TX2 a).2.1 ≠ (TX2 b).2.1 := by decide +kernel
theorem tyX2_ok : ∀ k, k < 15 → parseFieldDescriptor (TX2 k).2.2.1 = some (tyX2 k) := by decide +kernel
abbrev cX2_init : ByteArray := prog_4_method_1_code
def yX2_init : MethodName := ⟨RX2, "<init>", "()V"⟩
abbrev cX2_clear : ByteArray := prog_4_method_2_code
def yX2_clear : MethodName := ⟨RX2, "clear", "()V"⟩
abbrev cX2_sunOn : ByteArray := prog_4_method_3_code
def yX2_sunOn : MethodName := ⟨RX2, "sunOn", "(II)I"⟩
abbrev cX2_outAt : ByteArray := prog_4_method_4_code
def yX2_outAt : MethodName := ⟨RX2, "outAt", "(I)I"⟩
def RX3 : String := "KnobHall$Laws"
def TX3 : u_T := fun k => match k with
  | 0 => ("KnobHall$Laws", "kinds", "[I", true)
  | 1 => ("KnobHall$Laws", "numbers", "[I", true)
  | 2 => ("KnobHall$Laws", "starts", "[I", true)
  | 3 => ("KnobHall$Laws", "ends", "[I", true)
  | 4 => ("KnobHall$Laws", "stack", "[J", true)
  | 5 => ("KnobHall$Laws", "names", "[I", true)
  | 6 => ("KnobHall$Laws", "written", "I", false)
  | _ => ("KnobHall$Laws", "knots", "I", false)
def tyX3 : Nat → FieldType := fun k => match k with
  | 0 => .array .int
  | 1 => .array .int
  | 2 => .array .int
  | 3 => .array .int
  | 4 => .array .long
  | 5 => .array .int
  | 6 => .int
  | _ => .int
theorem nmX3 : ∀ a, a < 8 → ∀ b, b < 8 → a ≠ b → (TX3 a).2.1 ≠ (TX3 b).2.1 := by decide +kernel
theorem tyX3_ok : ∀ k, k < 8 → parseFieldDescriptor (TX3 k).2.2.1 = some (tyX3 k) := by decide +kernel
abbrev cX3_init : ByteArray := prog_5_method_1_code
def yX3_init : MethodName := ⟨RX3, "<init>", "()V"⟩
abbrev cX3_clear : ByteArray := prog_5_method_2_code
def yX3_clear : MethodName := ⟨RX3, "clear", "()V"⟩
abbrev cX3_isTold : ByteArray := prog_5_method_3_code
def yX3_isTold : MethodName := ⟨RX3, "isTold", "(I)Z"⟩
abbrev cX3_begin : ByteArray := prog_5_method_4_code
def yX3_begin : MethodName := ⟨RX3, "begin", "(I)V"⟩
abbrev cX3_end : ByteArray := prog_5_method_5_code
def yX3_end : MethodName := ⟨RX3, "end", "(I)V"⟩
abbrev cX3_write : ByteArray := prog_5_method_6_code
def yX3_write : MethodName := ⟨RX3, "write", "(II)V"⟩
abbrev cX3_value : ByteArray := prog_5_method_7_code
def yX3_value : MethodName := ⟨RX3, "value", "(I)J"⟩
abbrev cX3_joined : ByteArray := prog_5_method_8_code
def yX3_joined : MethodName := ⟨RX3, "joined", "(IJJ)J"⟩
def RX4 : String := "KnobHall$Log"
def TX4 : u_T := fun k => match k with
  | 0 => ("KnobHall$Log", "size", "I", false)
  | 1 => ("KnobHall$Log", "known", "I", false)
  | 2 => ("KnobHall$Log", "hours", "[I", true)
  | 3 => ("KnobHall$Log", "degrees", "[I", true)
  | 4 => ("KnobHall$Log", "atLeast", "[Z", true)
  | 5 => ("KnobHall$Log", "strikes", "[I", true)
  | _ => ("KnobHall$Log", "struck", "[Z", true)
def tyX4 : Nat → FieldType := fun k => match k with
  | 0 => .int
  | 1 => .int
  | 2 => .array .int
  | 3 => .array .int
  | 4 => .array .boolean
  | 5 => .array .int
  | _ => .array .boolean
theorem nmX4 : ∀ a, a < 7 → ∀ b, b < 7 → a ≠ b → (TX4 a).2.1 ≠ (TX4 b).2.1 := by decide +kernel
theorem tyX4_ok : ∀ k, k < 7 → parseFieldDescriptor (TX4 k).2.2.1 = some (tyX4 k) := by decide +kernel
abbrev cX4_init : ByteArray := prog_6_method_1_code
def yX4_init : MethodName := ⟨RX4, "<init>", "()V"⟩
abbrev cX4_clear : ByteArray := prog_6_method_2_code
def yX4_clear : MethodName := ⟨RX4, "clear", "()V"⟩
abbrev cX4_knownBy : ByteArray := prog_6_method_3_code
def yX4_knownBy : MethodName := ⟨RX4, "knownBy", "()I"⟩
abbrev cX4_addWear : ByteArray := prog_6_method_4_code
def yX4_addWear : MethodName := ⟨RX4, "addWear", "(IIZ)I"⟩
abbrev cX4_addStrike : ByteArray := prog_6_method_5_code
def yX4_addStrike : MethodName := ⟨RX4, "addStrike", "(I)I"⟩
abbrev cX4_ponder : ByteArray := prog_6_method_6_code
def yX4_ponder : MethodName := ⟨RX4, "ponder", "()V"⟩
abbrev cX4_isKnownWear : ByteArray := prog_6_method_7_code
def yX4_isKnownWear : MethodName := ⟨RX4, "isKnownWear", "(I)Z"⟩
abbrev cX4_longestKnown : ByteArray := prog_6_method_8_code
def yX4_longestKnown : MethodName := ⟨RX4, "longestKnown", "()I"⟩
abbrev cX4_agrees : ByteArray := prog_6_method_9_code
def yX4_agrees : MethodName := ⟨RX4, "agrees", "(II)Z"⟩
def RX5 : String := "KnobHall$Past"
def TX5 : u_T := fun k => match k with
  | 0 => ("KnobHall$Past", "size", "I", false)
  | 1 => ("KnobHall$Past", "kinds", "[I", true)
  | 2 => ("KnobHall$Past", "people", "[I", true)
  | _ => ("KnobHall$Past", "before", "[I", true)
def tyX5 : Nat → FieldType := fun k => match k with
  | 0 => .int
  | 1 => .array .int
  | 2 => .array .int
  | _ => .array .int
theorem nmX5 : ∀ a, a < 4 → ∀ b, b < 4 → a ≠ b → (TX5 a).2.1 ≠ (TX5 b).2.1 := by decide +kernel
theorem tyX5_ok : ∀ k, k < 4 → parseFieldDescriptor (TX5 k).2.2.1 = some (tyX5 k) := by decide +kernel
abbrev cX5_init : ByteArray := prog_7_method_1_code
def yX5_init : MethodName := ⟨RX5, "<init>", "()V"⟩
abbrev cX5_note : ByteArray := prog_7_method_2_code
def yX5_note : MethodName := ⟨RX5, "note", "(III)V"⟩
abbrev cX5_takeBack : ByteArray := prog_7_method_3_code
def yX5_takeBack : MethodName := ⟨RX5, "takeBack", "(LKnobHall$Course;)V"⟩
def RX6 : String := "KnobHall$People"
def TX6 : u_T := fun k => match k with
  | 0 => ("KnobHall$People", "size", "I", false)
  | 1 => ("KnobHall$People", "names", "[I", true)
  | 2 => ("KnobHall$People", "sits", "[I", true)
  | 3 => ("KnobHall$People", "wants", "[I", true)
  | 4 => ("KnobHall$People", "late", "[I", true)
  | _ => ("KnobHall$People", "passes", "[I", true)
def tyX6 : Nat → FieldType := fun k => match k with
  | 0 => .int
  | 1 => .array .int
  | 2 => .array .int
  | 3 => .array .int
  | 4 => .array .int
  | _ => .array .int
theorem nmX6 : ∀ a, a < 6 → ∀ b, b < 6 → a ≠ b → (TX6 a).2.1 ≠ (TX6 b).2.1 := by decide +kernel
theorem tyX6_ok : ∀ k, k < 6 → parseFieldDescriptor (TX6 k).2.2.1 = some (tyX6 k) := by decide +kernel
abbrev cX6_init : ByteArray := prog_8_method_1_code
def yX6_init : MethodName := ⟨RX6, "<init>", "()V"⟩
def RX7 : String := "KnobHall$Reader"
def TX7 : u_T := fun k => match k with
  | 0 => ("KnobHall$Reader", "tokens", "LKnobHall$Tokens;", true)
  | 1 => ("KnobHall$Reader", "formula", "LKnobHall$Formula;", true)
  | 2 => ("KnobHall$Reader", "house", "LKnobHall$House;", false)
  | 3 => ("KnobHall$Reader", "number", "I", false)
  | 4 => ("KnobHall$Reader", "toldRoom", "I", false)
  | 5 => ("KnobHall$Reader", "fault", "I", false)
  | _ => ("KnobHall$Reader", "place", "I", false)
def tyX7 : Nat → FieldType := fun k => match k with
  | 0 => .object "KnobHall$Tokens"
  | 1 => .object "KnobHall$Formula"
  | 2 => .object "KnobHall$House"
  | 3 => .int
  | 4 => .int
  | 5 => .int
  | _ => .int
theorem nmX7 : ∀ a, a < 7 → ∀ b, b < 7 → a ≠ b → (TX7 a).2.1 ≠ (TX7 b).2.1 := by decide +kernel
theorem tyX7_ok : ∀ k, k < 7 → parseFieldDescriptor (TX7 k).2.2.1 = some (tyX7 k) := by decide +kernel
abbrev cX7_init : ByteArray := prog_9_method_1_code
def yX7_init : MethodName := ⟨RX7, "<init>", "([B)V"⟩
abbrev cX7_begin : ByteArray := prog_9_method_2_code
def yX7_begin : MethodName := ⟨RX7, "begin", "(ILKnobHall$House;)V"⟩
abbrev cX7_isMore : ByteArray := prog_9_method_3_code
def yX7_isMore : MethodName := ⟨RX7, "isMore", "()Z"⟩
abbrev cX7_fails : ByteArray := prog_9_method_4_code
def yX7_fails : MethodName := ⟨RX7, "fails", "(I)Z"⟩
abbrev cX7_readLine : ByteArray := prog_9_method_5_code
def yX7_readLine : MethodName := ⟨RX7, "readLine", "()Z"⟩
abbrev cX7_readEnd : ByteArray := prog_9_method_6_code
def yX7_readEnd : MethodName := ⟨RX7, "readEnd", "()Z"⟩
abbrev cX7_readNumber : ByteArray := prog_9_method_7_code
def yX7_readNumber : MethodName := ⟨RX7, "readNumber", "(II)Z"⟩
abbrev cX7_readInto : ByteArray := prog_9_method_8_code
def yX7_readInto : MethodName := ⟨RX7, "readInto", "([III)Z"⟩
abbrev cX7_readName : ByteArray := prog_9_method_9_code
def yX7_readName : MethodName := ⟨RX7, "readName", "([II)Z"⟩
abbrev cX7_readToldRoom : ByteArray := prog_9_method_10_code
def yX7_readToldRoom : MethodName := ⟨RX7, "readToldRoom", "()Z"⟩
abbrev cX7_readRoom : ByteArray := prog_9_method_11_code
def yX7_readRoom : MethodName := ⟨RX7, "readRoom", "()Z"⟩
abbrev cX7_readPerson : ByteArray := prog_9_method_12_code
def yX7_readPerson : MethodName := ⟨RX7, "readPerson", "()Z"⟩
abbrev cX7_readSun : ByteArray := prog_9_method_13_code
def yX7_readSun : MethodName := ⟨RX7, "readSun", "()Z"⟩
abbrev cX7_readOut : ByteArray := prog_9_method_14_code
def yX7_readOut : MethodName := ⟨RX7, "readOut", "()Z"⟩
abbrev cX7_readKnob : ByteArray := prog_9_method_15_code
def yX7_readKnob : MethodName := ⟨RX7, "readKnob", "()Z"⟩
abbrev cX7_readPrice : ByteArray := prog_9_method_16_code
def yX7_readPrice : MethodName := ⟨RX7, "readPrice", "()Z"⟩
abbrev cX7_readLaw : ByteArray := prog_9_method_17_code
def yX7_readLaw : MethodName := ⟨RX7, "readLaw", "()Z"⟩
def RX8 : String := "KnobHall$Rooms"
def TX8 : u_T := fun k => match k with
  | 0 => ("KnobHall$Rooms", "size", "I", false)
  | 1 => ("KnobHall$Rooms", "names", "[I", true)
  | 2 => ("KnobHall$Rooms", "warm", "[I", true)
  | 3 => ("KnobHall$Rooms", "leak", "[I", true)
  | _ => ("KnobHall$Rooms", "heat", "[I", true)
def tyX8 : Nat → FieldType := fun k => match k with
  | 0 => .int
  | 1 => .array .int
  | 2 => .array .int
  | 3 => .array .int
  | _ => .array .int
theorem nmX8 : ∀ a, a < 5 → ∀ b, b < 5 → a ≠ b → (TX8 a).2.1 ≠ (TX8 b).2.1 := by decide +kernel
theorem tyX8_ok : ∀ k, k < 5 → parseFieldDescriptor (TX8 k).2.2.1 = some (tyX8 k) := by decide +kernel
abbrev cX8_init : ByteArray := prog_10_method_1_code
def yX8_init : MethodName := ⟨RX8, "<init>", "()V"⟩
def RX9 : String := "KnobHall$Tokens"
def TX9 : u_T := fun k => match k with
  | 0 => ("KnobHall$Tokens", "words", "[I", true)
  | 1 => ("KnobHall$Tokens", "bytes", "[B", true)
  | 2 => ("KnobHall$Tokens", "length", "I", false)
  | 3 => ("KnobHall$Tokens", "next", "I", false)
  | 4 => ("KnobHall$Tokens", "kind", "I", false)
  | 5 => ("KnobHall$Tokens", "value", "I", false)
  | _ => ("KnobHall$Tokens", "place", "I", false)
def tyX9 : Nat → FieldType := fun k => match k with
  | 0 => .array .int
  | 1 => .array .byte
  | 2 => .int
  | 3 => .int
  | 4 => .int
  | 5 => .int
  | _ => .int
theorem nmX9 : ∀ a, a < 7 → ∀ b, b < 7 → a ≠ b → (TX9 a).2.1 ≠ (TX9 b).2.1 := by decide +kernel
theorem tyX9_ok : ∀ k, k < 7 → parseFieldDescriptor (TX9 k).2.2.1 = some (tyX9 k) := by decide +kernel
abbrev cX9_init : ByteArray := prog_11_method_1_code
def yX9_init : MethodName := ⟨RX9, "<init>", "([B)V"⟩
abbrev cX9_packed : ByteArray := prog_11_method_2_code
def yX9_packed : MethodName := ⟨RX9, "packed", "(II)I"⟩
abbrev cX9_isName : ByteArray := prog_11_method_3_code
def yX9_isName : MethodName := ⟨RX9, "isName", "(I)Z"⟩
abbrev cX9_isLaw : ByteArray := prog_11_method_4_code
def yX9_isLaw : MethodName := ⟨RX9, "isLaw", "(I)Z"⟩
abbrev cX9_begin : ByteArray := prog_11_method_5_code
def yX9_begin : MethodName := ⟨RX9, "begin", "(I)V"⟩
abbrev cX9_byteAt : ByteArray := prog_11_method_6_code
def yX9_byteAt : MethodName := ⟨RX9, "byteAt", "(I)I"⟩
abbrev cX9_advance : ByteArray := prog_11_method_7_code
def yX9_advance : MethodName := ⟨RX9, "advance", "()V"⟩
abbrev cX9_readWord : ByteArray := prog_11_method_8_code
def yX9_readWord : MethodName := ⟨RX9, "readWord", "()V"⟩
abbrev cX9_readNumber : ByteArray := prog_11_method_9_code
def yX9_readNumber : MethodName := ⟨RX9, "readNumber", "()V"⟩
abbrev cX9_readSign : ByteArray := prog_11_method_10_code
def yX9_readSign : MethodName := ⟨RX9, "readSign", "(I)V"⟩
def RX10 : String := "KnobHall$Twist"
def TX10 : u_T := fun k => match k with
  | 0 => ("KnobHall$Twist", "nobodyTurns", "Z", false)
  | 1 => ("KnobHall$Twist", "roomsAlone", "Z", false)
  | 2 => ("KnobHall$Twist", "noSun", "Z", false)
  | 3 => ("KnobHall$Twist", "nobodyLate", "Z", false)
  | 4 => ("KnobHall$Twist", "nothingLost", "Z", false)
  | 5 => ("KnobHall$Twist", "absent", "I", false)
  | 6 => ("KnobHall$Twist", "halved", "I", false)
  | 7 => ("KnobHall$Twist", "feeler", "I", false)
  | 8 => ("KnobHall$Twist", "feelerLate", "I", false)
  | 9 => ("KnobHall$Twist", "byChance", "Z", false)
  | _ => ("KnobHall$Twist", "seed", "J", false)
def tyX10 : Nat → FieldType := fun k => match k with
  | 0 => .boolean
  | 1 => .boolean
  | 2 => .boolean
  | 3 => .boolean
  | 4 => .boolean
  | 5 => .int
  | 6 => .int
  | 7 => .int
  | 8 => .int
  | 9 => .boolean
  | _ => .long
theorem nmX10 : ∀ a, a < 11 → ∀ b, b < 11 → a ≠ b → (TX10 a).2.1 ≠ (TX10 b).2.1 := by decide +kernel
theorem tyX10_ok : ∀ k, k < 11 → parseFieldDescriptor (TX10 k).2.2.1 = some (tyX10 k) := by decide +kernel
abbrev cX10_init : ByteArray := prog_12_method_1_code
def yX10_init : MethodName := ⟨RX10, "<init>", "()V"⟩
abbrev cX10_clear : ByteArray := prog_12_method_2_code
def yX10_clear : MethodName := ⟨RX10, "clear", "()V"⟩
abbrev cX10_lateOf : ByteArray := prog_12_method_3_code
def yX10_lateOf : MethodName := ⟨RX10, "lateOf", "(II)I"⟩
abbrev cX10_leakOf : ByteArray := prog_12_method_4_code
def yX10_leakOf : MethodName := ⟨RX10, "leakOf", "(II)I"⟩
abbrev cX10_outOf : ByteArray := prog_12_method_5_code
def yX10_outOf : MethodName := ⟨RX10, "outOf", "(I)I"⟩
def RX11 : String := "KnobHall"
def TX11 : u_T := fun k => match k with
  | 0 => ("KnobHall", "tape", "[B", true)
  | 1 => ("KnobHall", "taped", "I", false)
  | 2 => ("KnobHall", "reader", "LKnobHall$Reader;", true)
  | 3 => ("KnobHall", "told", "LKnobHall$House;", false)
  | 4 => ("KnobHall", "spare", "LKnobHall$House;", false)
  | 5 => ("KnobHall", "now", "LKnobHall$Course;", true)
  | 6 => ("KnobHall", "image", "LKnobHall$Course;", true)
  | 7 => ("KnobHall", "kept", "Z", false)
  | 8 => ("KnobHall", "trial", "LKnobHall$Course;", true)
  | 9 => ("KnobHall", "log", "LKnobHall$Log;", true)
  | 10 => ("KnobHall", "past", "LKnobHall$Past;", true)
  | 11 => ("KnobHall", "latestFault", "I", false)
  | _ => ("KnobHall", "latestPlace", "I", false)
def tyX11 : Nat → FieldType := fun k => match k with
  | 0 => .array .byte
  | 1 => .int
  | 2 => .object "KnobHall$Reader"
  | 3 => .object "KnobHall$House"
  | 4 => .object "KnobHall$House"
  | 5 => .object "KnobHall$Course"
  | 6 => .object "KnobHall$Course"
  | 7 => .boolean
  | 8 => .object "KnobHall$Course"
  | 9 => .object "KnobHall$Log"
  | 10 => .object "KnobHall$Past"
  | 11 => .int
  | _ => .int
theorem nmX11 : ∀ a, a < 13 → ∀ b, b < 13 → a ≠ b → (TX11 a).2.1 ≠ (TX11 b).2.1 := by decide +kernel
theorem tyX11_ok : ∀ k, k < 13 → parseFieldDescriptor (TX11 k).2.2.1 = some (tyX11 k) := by decide +kernel
abbrev cX11_init : ByteArray := prog_1_method_1_code
def yX11_init : MethodName := ⟨RX11, "<init>", "()V"⟩
abbrev cX11_feed : ByteArray := prog_1_method_2_code
def yX11_feed : MethodName := ⟨RX11, "feed", "(IIIII)I"⟩
abbrev cX11_tapeNumber : ByteArray := prog_1_method_3_code
def yX11_tapeNumber : MethodName := ⟨RX11, "tapeNumber", "(I)V"⟩
abbrev cX11_text : ByteArray := prog_1_method_4_code
def yX11_text : MethodName := ⟨RX11, "text", "(I)I"⟩
abbrev cX11_takeSpare : ByteArray := prog_1_method_5_code
def yX11_takeSpare : MethodName := ⟨RX11, "takeSpare", "()V"⟩
abbrev cX11_fault : ByteArray := prog_1_method_6_code
def yX11_fault : MethodName := ⟨RX11, "fault", "(I)I"⟩
abbrev cX11_named : ByteArray := prog_1_method_7_code
def yX11_named : MethodName := ⟨RX11, "named", "(II)I"⟩
abbrev cX11_placeOf : ByteArray := prog_1_method_8_code
def yX11_placeOf : MethodName := ⟨RX11, "placeOf", "(I[II)I"⟩
abbrev cX11_isRoom : ByteArray := prog_1_method_9_code
def yX11_isRoom : MethodName := ⟨RX11, "isRoom", "(I)Z"⟩
abbrev cX11_isPerson : ByteArray := prog_1_method_10_code
def yX11_isPerson : MethodName := ⟨RX11, "isPerson", "(I)Z"⟩
abbrev cX11_areTwo : ByteArray := prog_1_method_11_code
def yX11_areTwo : MethodName := ⟨RX11, "areTwo", "(II)Z"⟩
abbrev cX11_isWithin : ByteArray := prog_1_method_12_code
def yX11_isWithin : MethodName := ⟨RX11, "isWithin", "(III)Z"⟩
abbrev cX11_limited : ByteArray := prog_1_method_13_code
def yX11_limited : MethodName := ⟨RX11, "limited", "(JII)I"⟩
abbrev cX11_distance : ByteArray := prog_1_method_14_code
def yX11_distance : MethodName := ⟨RX11, "distance", "(II)I"⟩
abbrev cX11_isSet : ByteArray := prog_1_method_15_code
def yX11_isSet : MethodName := ⟨RX11, "isSet", "(I)Z"⟩
abbrev cX11_person : ByteArray := prog_1_method_16_code
def yX11_person : MethodName := ⟨RX11, "person", "(II)I"⟩
abbrev cX11_room : ByteArray := prog_1_method_17_code
def yX11_room : MethodName := ⟨RX11, "room", "(II)I"⟩
abbrev cX11_out : ByteArray := prog_1_method_18_code
def yX11_out : MethodName := ⟨RX11, "out", "(I)I"⟩
abbrev cX11_law : ByteArray := prog_1_method_19_code
def yX11_law : MethodName := ⟨RX11, "law", "(II)J"⟩
abbrev cX11_crossest : ByteArray := prog_1_method_20_code
def yX11_crossest : MethodName := ⟨RX11, "crossest", "()I"⟩
abbrev cX11_spread : ByteArray := prog_1_method_21_code
def yX11_spread : MethodName := ⟨RX11, "spread", "()I"⟩
abbrev cX11_count : ByteArray := prog_1_method_22_code
def yX11_count : MethodName := ⟨RX11, "count", "(I)I"⟩
abbrev cX11_countMore : ByteArray := prog_1_method_23_code
def yX11_countMore : MethodName := ⟨RX11, "countMore", "(I)I"⟩
abbrev cX11_set : ByteArray := prog_1_method_24_code
def yX11_set : MethodName := ⟨RX11, "set", "(I)Z"⟩
abbrev cX11_hang : ByteArray := prog_1_method_25_code
def yX11_hang : MethodName := ⟨RX11, "hang", "(I)Z"⟩
abbrev cX11_candle : ByteArray := prog_1_method_26_code
def yX11_candle : MethodName := ⟨RX11, "candle", "(Z)Z"⟩
abbrev cX11_jumper : ByteArray := prog_1_method_27_code
def yX11_jumper : MethodName := ⟨RX11, "jumper", "(IZ)Z"⟩
abbrev cX11_go : ByteArray := prog_1_method_28_code
def yX11_go : MethodName := ⟨RX11, "go", "(I)I"⟩
abbrev cX11_undo : ByteArray := prog_1_method_29_code
def yX11_undo : MethodName := ⟨RX11, "undo", "()I"⟩
abbrev cX11_keep : ByteArray := prog_1_method_30_code
def yX11_keep : MethodName := ⟨RX11, "keep", "()I"⟩
abbrev cX11_back : ByteArray := prog_1_method_31_code
def yX11_back : MethodName := ⟨RX11, "back", "()I"⟩
abbrev cX11_tryAsItGoes : ByteArray := prog_1_method_32_code
def yX11_tryAsItGoes : MethodName := ⟨RX11, "tryAsItGoes", "()V"⟩
abbrev cX11_ahead : ByteArray := prog_1_method_33_code
def yX11_ahead : MethodName := ⟨RX11, "ahead", "(III)I"⟩
abbrev cX11_swings : ByteArray := prog_1_method_34_code
def yX11_swings : MethodName := ⟨RX11, "swings", "(I)I"⟩
abbrev cX11_learn : ByteArray := prog_1_method_35_code
def yX11_learn : MethodName := ⟨RX11, "learn", "(I)I"⟩
abbrev cX11_turnsOf : ByteArray := prog_1_method_36_code
def yX11_turnsOf : MethodName := ⟨RX11, "turnsOf", "(II)I"⟩
abbrev cX11_apart : ByteArray := prog_1_method_37_code
def yX11_apart : MethodName := ⟨RX11, "apart", "(II)I"⟩
abbrev cX11_feels : ByteArray := prog_1_method_38_code
def yX11_feels : MethodName := ⟨RX11, "feels", "(II)I"⟩
abbrev cX11_chance : ByteArray := prog_1_method_39_code
def yX11_chance : MethodName := ⟨RX11, "chance", "(IIII)I"⟩
abbrev cX11_tried : ByteArray := prog_1_method_40_code
def yX11_tried : MethodName := ⟨RX11, "tried", "(III)I"⟩
abbrev cX11_tryTurnedBy : ByteArray := prog_1_method_41_code
def yX11_tryTurnedBy : MethodName := ⟨RX11, "tryTurnedBy", "(I)V"⟩
abbrev cX11_tryRoomsAlone : ByteArray := prog_1_method_42_code
def yX11_tryRoomsAlone : MethodName := ⟨RX11, "tryRoomsAlone", "(I)V"⟩
abbrev cX11_hoursTillWarm : ByteArray := prog_1_method_43_code
def yX11_hoursTillWarm : MethodName := ⟨RX11, "hoursTillWarm", "(III)I"⟩
abbrev cX11_canBeWarm : ByteArray := prog_1_method_44_code
def yX11_canBeWarm : MethodName := ⟨RX11, "canBeWarm", "(II)Z"⟩
abbrev cX11_soon : ByteArray := prog_1_method_45_code
def yX11_soon : MethodName := ⟨RX11, "soon", "(III)I"⟩
abbrev cX11_quicker : ByteArray := prog_1_method_46_code
def yX11_quicker : MethodName := ⟨RX11, "quicker", "(IIII)I"⟩
abbrev cX11_best : ByteArray := prog_1_method_47_code
def yX11_best : MethodName := ⟨RX11, "best", "(II)I"⟩
abbrev cX11_cheap : ByteArray := prog_1_method_48_code
def yX11_cheap : MethodName := ⟨RX11, "cheap", "(II)I"⟩
abbrev cX11_hears : ByteArray := prog_1_method_49_code
def yX11_hears : MethodName := ⟨RX11, "hears", "(I)I"⟩
abbrev cX11_onAgain : ByteArray := prog_1_method_50_code
def yX11_onAgain : MethodName := ⟨RX11, "onAgain", "(III)I"⟩
abbrev cX11_paidBy : ByteArray := prog_1_method_51_code
def yX11_paidBy : MethodName := ⟨RX11, "paidBy", "(II)I"⟩
abbrev cX11_night : ByteArray := prog_1_method_52_code
def yX11_night : MethodName := ⟨RX11, "night", "(I)I"⟩
abbrev cX11_degree : ByteArray := prog_1_method_53_code
def yX11_degree : MethodName := ⟨RX11, "degree", "(I)I"⟩
abbrev cX11_strip : ByteArray := prog_1_method_54_code
def yX11_strip : MethodName := ⟨RX11, "strip", "(II)I"⟩
abbrev cX11_crossByWishOf : ByteArray := prog_1_method_55_code
def yX11_crossByWishOf : MethodName := ⟨RX11, "crossByWishOf", "(II)I"⟩
abbrev cX11_givesIn : ByteArray := prog_1_method_56_code
def yX11_givesIn : MethodName := ⟨RX11, "givesIn", "(II)I"⟩
abbrev cX11_said : ByteArray := prog_1_method_57_code
def yX11_said : MethodName := ⟨RX11, "said", "(II)I"⟩
abbrev cX11_lossBySaying : ByteArray := prog_1_method_58_code
def yX11_lossBySaying : MethodName := ⟨RX11, "lossBySaying", "(IIII)I"⟩
abbrev cX11_isBestSaying : ByteArray := prog_1_method_59_code
def yX11_isBestSaying : MethodName := ⟨RX11, "isBestSaying", "(IIII)Z"⟩
abbrev cX11_isRest : ByteArray := prog_1_method_60_code
def yX11_isRest : MethodName := ⟨RX11, "isRest", "(IIII)Z"⟩
abbrev cX11_restAt : ByteArray := prog_1_method_61_code
def yX11_restAt : MethodName := ⟨RX11, "restAt", "(III)I"⟩
abbrev cX11_rests : ByteArray := prog_1_method_62_code
def yX11_rests : MethodName := ⟨RX11, "rests", "(II)I"⟩
abbrev cX11_rest : ByteArray := prog_1_method_63_code
def yX11_rest : MethodName := ⟨RX11, "rest", "(III)I"⟩
abbrev cX11_wear : ByteArray := prog_1_method_64_code
def yX11_wear : MethodName := ⟨RX11, "wear", "(IIZ)I"⟩
abbrev cX11_strike : ByteArray := prog_1_method_65_code
def yX11_strike : MethodName := ⟨RX11, "strike", "(I)I"⟩
abbrev cX11_known : ByteArray := prog_1_method_66_code
def yX11_known : MethodName := ⟨RX11, "known", "(I)Z"⟩
abbrev cX11_lately : ByteArray := prog_1_method_67_code
def yX11_lately : MethodName := ⟨RX11, "lately", "(I)I"⟩
abbrev cX11_isWornBy : ByteArray := prog_1_method_68_code
def yX11_isWornBy : MethodName := ⟨RX11, "isWornBy", "(II)Z"⟩
def RX12 : String := "KnobHallModel"
def TX12 : u_T := fun k => match k with
  | 0 => ("KnobHallModel", "tape", "[I", true)
  | 1 => ("KnobHallModel", "tapeSize", "I", false)
  | 2 => ("KnobHallModel", "thrown", "I", false)
  | 3 => ("KnobHallModel", "words", "[I", true)
  | 4 => ("KnobHallModel", "fault", "I", false)
  | 5 => ("KnobHallModel", "faultPlace", "I", false)
  | 6 => ("KnobHallModel", "stop", "I", false)
  | 7 => ("KnobHallModel", "next", "I", false)
  | 8 => ("KnobHallModel", "kind", "I", false)
  | 9 => ("KnobHallModel", "which", "I", false)
  | 10 => ("KnobHallModel", "at", "I", false)
  | 11 => ("KnobHallModel", "got", "I", false)
  | 12 => ("KnobHallModel", "rooms", "I", false)
  | 13 => ("KnobHallModel", "people", "I", false)
  | 14 => ("KnobHallModel", "suns", "I", false)
  | 15 => ("KnobHallModel", "outs", "I", false)
  | 16 => ("KnobHallModel", "knots", "I", false)
  | 17 => ("KnobHallModel", "roomsRead", "I", false)
  | 18 => ("KnobHallModel", "peopleRead", "I", false)
  | 19 => ("KnobHallModel", "sunsRead", "I", false)
  | 20 => ("KnobHallModel", "outsRead", "I", false)
  | 21 => ("KnobHallModel", "knotsRead", "I", false)
  | 22 => ("KnobHallModel", "onceTold", "[Z", true)
  | 23 => ("KnobHallModel", "once", "[I", true)
  | 24 => ("KnobHallModel", "roomName", "[I", true)
  | 25 => ("KnobHallModel", "roomWarm", "[I", true)
  | 26 => ("KnobHallModel", "roomLeak", "[I", true)
  | 27 => ("KnobHallModel", "roomHeat", "[I", true)
  | 28 => ("KnobHallModel", "personName", "[I", true)
  | 29 => ("KnobHallModel", "personRoom", "[I", true)
  | 30 => ("KnobHallModel", "personWants", "[I", true)
  | 31 => ("KnobHallModel", "personLate", "[I", true)
  | 32 => ("KnobHallModel", "personHour", "[I", true)
  | 33 => ("KnobHallModel", "sunRoom", "[I", true)
  | 34 => ("KnobHallModel", "sunHour", "[I", true)
  | 35 => ("KnobHallModel", "sunWarm", "[I", true)
  | 36 => ("KnobHallModel", "outAt", "[I", true)
  | 37 => ("KnobHallModel", "lawTold", "[Z", true)
  | 38 => ("KnobHallModel", "first", "[I", true)
  | 39 => ("KnobHallModel", "last", "[I", true)
  | 40 => ("KnobHallModel", "knot", "[I", true)
  | 41 => ("KnobHallModel", "part", "[I", true)
  | 42 => ("KnobHallModel", "other", "[I", true)
  | 43 => ("KnobHallModel", "wait", "[I", true)
  | 44 => ("KnobHallModel", "held", "[I", true)
  | 45 => ("KnobHallModel", "waits", "I", false)
  | 46 => ("KnobHallModel", "helds", "I", false)
  | 47 => ("KnobHallModel", "brackets", "I", false)
  | 48 => ("KnobHallModel", "counted", "I", false)
  | 49 => ("KnobHallModel", "wants", "Z", false)
  | 50 => ("KnobHallModel", "mayNot", "Z", false)
  | 51 => ("KnobHallModel", "names", "[J", true)
  | 52 => ("KnobHallModel", "value", "[J", true)
  | 53 => ("KnobHallModel", "isError", "Z", false)
  | 54 => ("KnobHallModel", "warm", "[I", true)
  | 55 => ("KnobHallModel", "past", "[I", true)
  | 56 => ("KnobHallModel", "cross", "[I", true)
  | 57 => ("KnobHallModel", "turnedBy", "[I", true)
  | 58 => ("KnobHallModel", "jumpers", "[Z", true)
  | 59 => ("KnobHallModel", "set", "[I", true)
  | 60 => ("KnobHallModel", "heard", "[I", true)
  | 61 => ("KnobHallModel", "candles", "[Z", true)
  | 62 => ("KnobHallModel", "paid", "[I", true)
  | 63 => ("KnobHallModel", "fire", "[I", true)
  | 64 => ("KnobHallModel", "turns", "[I", true)
  | 65 => ("KnobHallModel", "hour", "[I", true)
  | 66 => ("KnobHallModel", "learnSum", "[I", true)
  | 67 => ("KnobHallModel", "learnMany", "[I", true)
  | 68 => ("KnobHallModel", "losses", "[I", true)
  | 69 => ("KnobHallModel", "noTurns", "Z", false)
  | 70 => ("KnobHallModel", "noSun", "Z", false)
  | 71 => ("KnobHallModel", "noLate", "Z", false)
  | 72 => ("KnobHallModel", "noLose", "Z", false)
  | 73 => ("KnobHallModel", "gone", "I", false)
  | 74 => ("KnobHallModel", "halved", "I", false)
  | 75 => ("KnobHallModel", "otherOf", "I", false)
  | 76 => ("KnobHallModel", "otherLate", "I", false)
  | 77 => ("KnobHallModel", "shift", "I", false)
  | 78 => ("KnobHallModel", "wayLast", "I", false)
  | 79 => ("KnobHallModel", "swings1", "I", false)
  | 80 => ("KnobHallModel", "wearMany", "I", false)
  | 81 => ("KnobHallModel", "knownTold", "I", false)
  | 82 => ("KnobHallModel", "worn", "[I", true)
  | 83 => ("KnobHallModel", "counts", "[Z", true)
  | 84 => ("KnobHallModel", "drawn", "J", false)
  | 85 => ("KnobHallModel", "undos", "I", false)
  | 86 => ("KnobHallModel", "undo", "[I", true)
  | 87 => ("KnobHallModel", "hasImage", "Z", false)
  | 88 => ("KnobHallModel", "image", "[I", true)
  | 89 => ("KnobHallModel", "imageRooms", "[I", true)
  | 90 => ("KnobHallModel", "imagePeople", "[I", true)
  | 91 => ("KnobHallModel", "imageLearn", "[I", true)
  | _ => ("KnobHallModel", "imageRest", "[I", true)
def tyX12 : Nat → FieldType := fun k => match k with
  | 0 => .array .int
  | 1 => .int
  | 2 => .int
  | 3 => .array .int
  | 4 => .int
  | 5 => .int
  | 6 => .int
  | 7 => .int
  | 8 => .int
  | 9 => .int
  | 10 => .int
  | 11 => .int
  | 12 => .int
  | 13 => .int
  | 14 => .int
  | 15 => .int
  | 16 => .int
  | 17 => .int
  | 18 => .int
  | 19 => .int
  | 20 => .int
  | 21 => .int
  | 22 => .array .boolean
  | 23 => .array .int
  | 24 => .array .int
  | 25 => .array .int
  | 26 => .array .int
  | 27 => .array .int
  | 28 => .array .int
  | 29 => .array .int
  | 30 => .array .int
  | 31 => .array .int
  | 32 => .array .int
  | 33 => .array .int
  | 34 => .array .int
  | 35 => .array .int
  | 36 => .array .int
  | 37 => .array .boolean
  | 38 => .array .int
  | 39 => .array .int
  | 40 => .array .int
  | 41 => .array .int
  | 42 => .array .int
  | 43 => .array .int
  | 44 => .array .int
  | 45 => .int
  | 46 => .int
  | 47 => .int
  | 48 => .int
  | 49 => .boolean
  | 50 => .boolean
  | 51 => .array .long
  | 52 => .array .long
  | 53 => .boolean
  | 54 => .array .int
  | 55 => .array .int
  | 56 => .array .int
  | 57 => .array .int
  | 58 => .array .boolean
  | 59 => .array .int
  | 60 => .array .int
  | 61 => .array .boolean
  | 62 => .array .int
  | 63 => .array .int
  | 64 => .array .int
  | 65 => .array .int
  | 66 => .array .int
  | 67 => .array .int
  | 68 => .array .int
  | 69 => .boolean
  | 70 => .boolean
  | 71 => .boolean
  | 72 => .boolean
  | 73 => .int
  | 74 => .int
  | 75 => .int
  | 76 => .int
  | 77 => .int
  | 78 => .int
  | 79 => .int
  | 80 => .int
  | 81 => .int
  | 82 => .array .int
  | 83 => .array .boolean
  | 84 => .long
  | 85 => .int
  | 86 => .array .int
  | 87 => .boolean
  | 88 => .array .int
  | 89 => .array .int
  | 90 => .array .int
  | 91 => .array .int
  | _ => .array .int
theorem nmX12 : ∀ a, a < 93 → ∀ b, b < 93 → a ≠ b → (TX12 a).2.1 ≠ (TX12 b).2.1 := by decide +kernel
theorem tyX12_ok : ∀ k, k < 93 → parseFieldDescriptor (TX12 k).2.2.1 = some (tyX12 k) := by decide +kernel
abbrev cX12_init : ByteArray := prog_14_method_1_code
def yX12_init : MethodName := ⟨RX12, "<init>", "()V"⟩
abbrev cX12_thrown : ByteArray := prog_14_method_2_code
def yX12_thrown : MethodName := ⟨RX12, "thrown", "()I"⟩
abbrev cX12_feed : ByteArray := prog_14_method_3_code
def yX12_feed : MethodName := ⟨RX12, "feed", "(IIIII)I"⟩
abbrev cX12_isIn : ByteArray := prog_14_method_4_code
def yX12_isIn : MethodName := ⟨RX12, "isIn", "(III)Z"⟩
abbrev cX12_wrong : ByteArray := prog_14_method_5_code
def yX12_wrong : MethodName := ⟨RX12, "wrong", "(I)Z"⟩
abbrev cX12_wordAt : ByteArray := prog_14_method_6_code
def yX12_wordAt : MethodName := ⟨RX12, "wordAt", "(II)I"⟩
abbrev cX12_isSmall : ByteArray := prog_14_method_7_code
def yX12_isSmall : MethodName := ⟨RX12, "isSmall", "(I)Z"⟩
abbrev cX12_isDigit : ByteArray := prog_14_method_8_code
def yX12_isDigit : MethodName := ⟨RX12, "isDigit", "(I)Z"⟩
abbrev cX12_token : ByteArray := prog_14_method_9_code
def yX12_token : MethodName := ⟨RX12, "token", "()V"⟩
abbrev cX12_signToken : ByteArray := prog_14_method_10_code
def yX12_signToken : MethodName := ⟨RX12, "signToken", "()V"⟩
abbrev cX12_packed : ByteArray := prog_14_method_11_code
def yX12_packed : MethodName := ⟨RX12, "packed", "(II)I"⟩
abbrev cX12_isKey : ByteArray := prog_14_method_12_code
def yX12_isKey : MethodName := ⟨RX12, "isKey", "(I)Z"⟩
abbrev cX12_isSign : ByteArray := prog_14_method_13_code
def yX12_isSign : MethodName := ⟨RX12, "isSign", "(I)Z"⟩
abbrev cX12_number : ByteArray := prog_14_method_14_code
def yX12_number : MethodName := ⟨RX12, "number", "(II)Z"⟩
abbrev cX12_plain : ByteArray := prog_14_method_16_code
def yX12_plain : MethodName := ⟨RX12, "plain", "()V"⟩
abbrev cX12_copies : ByteArray := prog_14_method_17_code
def yX12_copies : MethodName := ⟨RX12, "copies", "([II)V"⟩
abbrev cX12_keepText : ByteArray := prog_14_method_18_code
def yX12_keepText : MethodName := ⟨RX12, "keepText", "()V"⟩
abbrev cX12_find : ByteArray := prog_14_method_19_code
def yX12_find : MethodName := ⟨RX12, "find", "([IIII)I"⟩
abbrev cX12_newName : ByteArray := prog_14_method_20_code
def yX12_newName : MethodName := ⟨RX12, "newName", "([III)Z"⟩
abbrev cX12_roomThere : ByteArray := prog_14_method_21_code
def yX12_roomThere : MethodName := ⟨RX12, "roomThere", "()Z"⟩
abbrev cX12_roomLine : ByteArray := prog_14_method_22_code
def yX12_roomLine : MethodName := ⟨RX12, "roomLine", "()Z"⟩
abbrev cX12_personLine : ByteArray := prog_14_method_23_code
def yX12_personLine : MethodName := ⟨RX12, "personLine", "()Z"⟩
abbrev cX12_sunLine : ByteArray := prog_14_method_24_code
def yX12_sunLine : MethodName := ⟨RX12, "sunLine", "()Z"⟩
abbrev cX12_outLine : ByteArray := prog_14_method_25_code
def yX12_outLine : MethodName := ⟨RX12, "outLine", "()Z"⟩
abbrev cX12_knobLine : ByteArray := prog_14_method_26_code
def yX12_knobLine : MethodName := ⟨RX12, "knobLine", "()Z"⟩
abbrev cX12_priceLine : ByteArray := prog_14_method_27_code
def yX12_priceLine : MethodName := ⟨RX12, "priceLine", "()Z"⟩
abbrev cX12_lineRead : ByteArray := prog_14_method_28_code
def yX12_lineRead : MethodName := ⟨RX12, "lineRead", "()Z"⟩
abbrev cX12_text : ByteArray := prog_14_method_29_code
def yX12_text : MethodName := ⟨RX12, "text", "(I)I"⟩
abbrev cX12_fault : ByteArray := prog_14_method_30_code
def yX12_fault : MethodName := ⟨RX12, "fault", "(I)I"⟩
abbrev cX12_named : ByteArray := prog_14_method_31_code
def yX12_named : MethodName := ⟨RX12, "named", "(II)I"⟩
abbrev cX12_rank : ByteArray := prog_14_method_32_code
def yX12_rank : MethodName := ⟨RX12, "rank", "(I)I"⟩
abbrev cX12_grown : ByteArray := prog_14_method_33_code
def yX12_grown : MethodName := ⟨RX12, "grown", "(III)V"⟩
abbrev cX12_dropHeld : ByteArray := prog_14_method_34_code
def yX12_dropHeld : MethodName := ⟨RX12, "dropHeld", "()I"⟩
abbrev cX12_bind : ByteArray := prog_14_method_35_code
def yX12_bind : MethodName := ⟨RX12, "bind", "(I)V"⟩
abbrev cX12_isCounted : ByteArray := prog_14_method_36_code
def yX12_isCounted : MethodName := ⟨RX12, "isCounted", "()Z"⟩
abbrev cX12_waitsFor : ByteArray := prog_14_method_37_code
def yX12_waitsFor : MethodName := ⟨RX12, "waitsFor", "(I)V"⟩
abbrev cX12_nameMet : ByteArray := prog_14_method_38_code
def yX12_nameMet : MethodName := ⟨RX12, "nameMet", "()I"⟩
abbrev cX12_leafRead : ByteArray := prog_14_method_39_code
def yX12_leafRead : MethodName := ⟨RX12, "leafRead", "()Z"⟩
abbrev cX12_signs : ByteArray := prog_14_method_40_code
def yX12_signs : MethodName := ⟨RX12, "signs", "()Z"⟩
abbrev cX12_sumRead : ByteArray := prog_14_method_41_code
def yX12_sumRead : MethodName := ⟨RX12, "sumRead", "()Z"⟩
abbrev cX12_bounded : ByteArray := prog_14_method_42_code
def yX12_bounded : MethodName := ⟨RX12, "bounded", "(J)J"⟩
abbrev cX12_compares : ByteArray := prog_14_method_43_code
def yX12_compares : MethodName := ⟨RX12, "compares", "(IJJ)Z"⟩
abbrev cX12_times : ByteArray := prog_14_method_44_code
def yX12_times : MethodName := ⟨RX12, "times", "(JJ)J"⟩
abbrev cX12_valueOf : ByteArray := prog_14_method_45_code
def yX12_valueOf : MethodName := ⟨RX12, "valueOf", "(I)J"⟩
abbrev cX12_begin : ByteArray := prog_14_method_46_code
def yX12_begin : MethodName := ⟨RX12, "begin", "()V"⟩
abbrev cX12_atFirst : ByteArray := prog_14_method_47_code
def yX12_atFirst : MethodName := ⟨RX12, "atFirst", "(I)V"⟩
abbrev cX12_plainTried : ByteArray := prog_14_method_48_code
def yX12_plainTried : MethodName := ⟨RX12, "plainTried", "()V"⟩
abbrev cX12_layTried : ByteArray := prog_14_method_49_code
def yX12_layTried : MethodName := ⟨RX12, "layTried", "()V"⟩
abbrev cX12_layStill : ByteArray := prog_14_method_50_code
def yX12_layStill : MethodName := ⟨RX12, "layStill", "(I)V"⟩
abbrev cX12_isRoom : ByteArray := prog_14_method_51_code
def yX12_isRoom : MethodName := ⟨RX12, "isRoom", "(I)Z"⟩
abbrev cX12_isPerson : ByteArray := prog_14_method_52_code
def yX12_isPerson : MethodName := ⟨RX12, "isPerson", "(I)Z"⟩
abbrev cX12_isSet : ByteArray := prog_14_method_53_code
def yX12_isSet : MethodName := ⟨RX12, "isSet", "(I)Z"⟩
abbrev cX12_within : ByteArray := prog_14_method_54_code
def yX12_within : MethodName := ⟨RX12, "within", "(III)I"⟩
abbrev cX12_outOf : ByteArray := prog_14_method_55_code
def yX12_outOf : MethodName := ⟨RX12, "outOf", "(I)I"⟩
abbrev cX12_leakOf : ByteArray := prog_14_method_56_code
def yX12_leakOf : MethodName := ⟨RX12, "leakOf", "(I)I"⟩
abbrev cX12_feltBy : ByteArray := prog_14_method_57_code
def yX12_feltBy : MethodName := ⟨RX12, "feltBy", "(II)I"⟩
abbrev cX12_isOn : ByteArray := prog_14_method_58_code
def yX12_isOn : MethodName := ⟨RX12, "isOn", "(I)Z"⟩
abbrev cX12_sunIn : ByteArray := prog_14_method_59_code
def yX12_sunIn : MethodName := ⟨RX12, "sunIn", "(II)I"⟩
abbrev cX12_layNames : ByteArray := prog_14_method_60_code
def yX12_layNames : MethodName := ⟨RX12, "layNames", "(IIII)V"⟩
abbrev cX12_lawOf : ByteArray := prog_14_method_61_code
def yX12_lawOf : MethodName := ⟨RX12, "lawOf", "(I)J"⟩
abbrev cX12_boundLaw : ByteArray := prog_14_method_62_code
def yX12_boundLaw : MethodName := ⟨RX12, "boundLaw", "(IIII)I"⟩
abbrev cX12_loses : ByteArray := prog_14_method_63_code
def yX12_loses : MethodName := ⟨RX12, "loses", "(II)I"⟩
abbrev cX12_turnOf : ByteArray := prog_14_method_64_code
def yX12_turnOf : MethodName := ⟨RX12, "turnOf", "(II)I"⟩
abbrev cX12_crossOf : ByteArray := prog_14_method_65_code
def yX12_crossOf : MethodName := ⟨RX12, "crossOf", "(II)I"⟩
abbrev cX12_turned : ByteArray := prog_14_method_66_code
def yX12_turned : MethodName := ⟨RX12, "turned", "(III)V"⟩
abbrev cX12_goOn : ByteArray := prog_14_method_67_code
def yX12_goOn : MethodName := ⟨RX12, "goOn", "(I)V"⟩
abbrev cX12_goMany : ByteArray := prog_14_method_68_code
def yX12_goMany : MethodName := ⟨RX12, "goMany", "(I)V"⟩
abbrev cX12_crossMore : ByteArray := prog_14_method_69_code
def yX12_crossMore : MethodName := ⟨RX12, "crossMore", "()I"⟩
abbrev cX12_fails : ByteArray := prog_14_method_70_code
def yX12_fails : MethodName := ⟨RX12, "fails", "(I)I"⟩
abbrev cX12_person : ByteArray := prog_14_method_71_code
def yX12_person : MethodName := ⟨RX12, "person", "(II)I"⟩
abbrev cX12_room : ByteArray := prog_14_method_72_code
def yX12_room : MethodName := ⟨RX12, "room", "(II)I"⟩
abbrev cX12_out : ByteArray := prog_14_method_73_code
def yX12_out : MethodName := ⟨RX12, "out", "(I)I"⟩
abbrev cX12_law : ByteArray := prog_14_method_74_code
def yX12_law : MethodName := ⟨RX12, "law", "(II)J"⟩
abbrev cX12_set : ByteArray := prog_14_method_75_code
def yX12_set : MethodName := ⟨RX12, "set", "(I)Z"⟩
abbrev cX12_hang : ByteArray := prog_14_method_76_code
def yX12_hang : MethodName := ⟨RX12, "hang", "(I)Z"⟩
abbrev cX12_candle : ByteArray := prog_14_method_77_code
def yX12_candle : MethodName := ⟨RX12, "candle", "(Z)Z"⟩
abbrev cX12_jumper : ByteArray := prog_14_method_78_code
def yX12_jumper : MethodName := ⟨RX12, "jumper", "(IZ)Z"⟩
abbrev cX12_go : ByteArray := prog_14_method_79_code
def yX12_go : MethodName := ⟨RX12, "go", "(I)I"⟩
abbrev cX12_ahead : ByteArray := prog_14_method_80_code
def yX12_ahead : MethodName := ⟨RX12, "ahead", "(III)I"⟩
abbrev cX12_soonBy : ByteArray := prog_14_method_81_code
def yX12_soonBy : MethodName := ⟨RX12, "soonBy", "(III)I"⟩
abbrev cX12_soon : ByteArray := prog_14_method_82_code
def yX12_soon : MethodName := ⟨RX12, "soon", "(III)I"⟩
abbrev cX12_quicker : ByteArray := prog_14_method_83_code
def yX12_quicker : MethodName := ⟨RX12, "quicker", "(IIII)I"⟩
abbrev cX12_best : ByteArray := prog_14_method_84_code
def yX12_best : MethodName := ⟨RX12, "best", "(II)I"⟩
abbrev cX12_cheap : ByteArray := prog_14_method_85_code
def yX12_cheap : MethodName := ⟨RX12, "cheap", "(II)I"⟩
abbrev cX12_hears : ByteArray := prog_14_method_86_code
def yX12_hears : MethodName := ⟨RX12, "hears", "(I)I"⟩
abbrev cX12_onAgain : ByteArray := prog_14_method_87_code
def yX12_onAgain : MethodName := ⟨RX12, "onAgain", "(III)I"⟩
abbrev cX12_night : ByteArray := prog_14_method_88_code
def yX12_night : MethodName := ⟨RX12, "night", "(I)I"⟩
abbrev cX12_swings : ByteArray := prog_14_method_89_code
def yX12_swings : MethodName := ⟨RX12, "swings", "(I)I"⟩
abbrev cX12_degree : ByteArray := prog_14_method_90_code
def yX12_degree : MethodName := ⟨RX12, "degree", "(I)I"⟩
abbrev cX12_strip : ByteArray := prog_14_method_91_code
def yX12_strip : MethodName := ⟨RX12, "strip", "(II)I"⟩
abbrev cX12_learn : ByteArray := prog_14_method_92_code
def yX12_learn : MethodName := ⟨RX12, "learn", "(I)I"⟩
abbrev cX12_turnsOf : ByteArray := prog_14_method_93_code
def yX12_turnsOf : MethodName := ⟨RX12, "turnsOf", "(II)I"⟩
abbrev cX12_spreadIn : ByteArray := prog_14_method_94_code
def yX12_spreadIn : MethodName := ⟨RX12, "spreadIn", "(I)I"⟩
abbrev cX12_spread : ByteArray := prog_14_method_95_code
def yX12_spread : MethodName := ⟨RX12, "spread", "()I"⟩
abbrev cX12_feels : ByteArray := prog_14_method_96_code
def yX12_feels : MethodName := ⟨RX12, "feels", "(II)I"⟩
abbrev cX12_apart : ByteArray := prog_14_method_97_code
def yX12_apart : MethodName := ⟨RX12, "apart", "(II)I"⟩
abbrev cX12_said : ByteArray := prog_14_method_98_code
def yX12_said : MethodName := ⟨RX12, "said", "(II)I"⟩
abbrev cX12_loss : ByteArray := prog_14_method_99_code
def yX12_loss : MethodName := ⟨RX12, "loss", "(III)I"⟩
abbrev cX12_lossBy : ByteArray := prog_14_method_100_code
def yX12_lossBy : MethodName := ⟨RX12, "lossBy", "(IIII)I"⟩
abbrev cX12_restAt : ByteArray := prog_14_method_101_code
def yX12_restAt : MethodName := ⟨RX12, "restAt", "(III)I"⟩
abbrev cX12_areTwo : ByteArray := prog_14_method_102_code
def yX12_areTwo : MethodName := ⟨RX12, "areTwo", "(II)Z"⟩
abbrev cX12_rests : ByteArray := prog_14_method_103_code
def yX12_rests : MethodName := ⟨RX12, "rests", "(II)I"⟩
abbrev cX12_rest : ByteArray := prog_14_method_104_code
def yX12_rest : MethodName := ⟨RX12, "rest", "(III)I"⟩
abbrev cX12_crossWith : ByteArray := prog_14_method_105_code
def yX12_crossWith : MethodName := ⟨RX12, "crossWith", "(II)I"⟩
abbrev cX12_givesIn : ByteArray := prog_14_method_106_code
def yX12_givesIn : MethodName := ⟨RX12, "givesIn", "(II)I"⟩
abbrev cX12_crossest : ByteArray := prog_14_method_107_code
def yX12_crossest : MethodName := ⟨RX12, "crossest", "()I"⟩
abbrev cX12_noted : ByteArray := prog_14_method_108_code
def yX12_noted : MethodName := ⟨RX12, "noted", "(III)I"⟩
abbrev cX12_wear : ByteArray := prog_14_method_109_code
def yX12_wear : MethodName := ⟨RX12, "wear", "(IIZ)I"⟩
abbrev cX12_strike : ByteArray := prog_14_method_110_code
def yX12_strike : MethodName := ⟨RX12, "strike", "(I)I"⟩
abbrev cX12_known : ByteArray := prog_14_method_111_code
def yX12_known : MethodName := ⟨RX12, "known", "(I)Z"⟩
abbrev cX12_knownBy : ByteArray := prog_14_method_112_code
def yX12_knownBy : MethodName := ⟨RX12, "knownBy", "()I"⟩
abbrev cX12_isSo : ByteArray := prog_14_method_113_code
def yX12_isSo : MethodName := ⟨RX12, "isSo", "(I)Z"⟩
abbrev cX12_fits : ByteArray := prog_14_method_114_code
def yX12_fits : MethodName := ⟨RX12, "fits", "(II)Z"⟩
abbrev cX12_lately : ByteArray := prog_14_method_115_code
def yX12_lately : MethodName := ⟨RX12, "lately", "(I)I"⟩
abbrev cX12_number1 : ByteArray := prog_14_method_116_code
def yX12_number1 : MethodName := ⟨RX12, "number1", "(I)I"⟩
abbrev cX12_chance : ByteArray := prog_14_method_117_code
def yX12_chance : MethodName := ⟨RX12, "chance", "(IIII)I"⟩
abbrev cX12_tried : ByteArray := prog_14_method_118_code
def yX12_tried : MethodName := ⟨RX12, "tried", "(III)I"⟩
abbrev cX12_put : ByteArray := prog_14_method_119_code
def yX12_put : MethodName := ⟨RX12, "put", "([II)V"⟩
abbrev cX12_take : ByteArray := prog_14_method_120_code
def yX12_take : MethodName := ⟨RX12, "take", "([II)V"⟩
abbrev cX12_remember : ByteArray := prog_14_method_121_code
def yX12_remember : MethodName := ⟨RX12, "remember", "()V"⟩
abbrev cX12_undo : ByteArray := prog_14_method_122_code
def yX12_undo : MethodName := ⟨RX12, "undo", "()I"⟩
abbrev cX12_keep : ByteArray := prog_14_method_123_code
def yX12_keep : MethodName := ⟨RX12, "keep", "()I"⟩
abbrev cX12_back : ByteArray := prog_14_method_124_code
def yX12_back : MethodName := ⟨RX12, "back", "()I"⟩
abbrev cX12_count : ByteArray := prog_14_method_125_code
def yX12_count : MethodName := ⟨RX12, "count", "(I)I"⟩
def RL : String := "KnobHallLaw"
abbrev cL_person : ByteArray := method_3_code
def yL_person : MethodName := ⟨RL, "person", "(LKnobHall;II[J)I"⟩
abbrev cL_law : ByteArray := code
def yL_law : MethodName := ⟨RL, "law", "([I)Z"⟩
abbrev vwCl : List vw_C := [(RX0, TX0, 18), (RX1, TX1, 7), (RX2, TX2, 15), (RX3, TX3, 8), (RX4, TX4, 7), (RX5, TX5, 4), (RX6, TX6, 6), (RX7, TX7, 7), (RX8, TX8, 5), (RX9, TX9, 7), (RX10, TX10, 11), (RX11, TX11, 13), (RX12, TX12, 93)]
