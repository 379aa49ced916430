def CX (md : MD) (p : Program) (s : State) (m : MethodId) (meth : Method) (c : Code) : Prop :=
  p.tables.exec = Jvm.exec ∧ c.code = md.2.1 ∧ meth.sig.returnType = md.2.2.2.1 ∧ c.maxLocals = md.2.2.1 ∧ s.vm.findClass md.1.cls = some m.cls ∧ meth.locks = false ∧ meth.name = md.1.name
def okL (L : List (Option CV)) : Prop := ∀ v, some v ∈ L → okv v
def okS (S : List CV) : Prop := ∀ v ∈ S, okv v
/-- the machine in the method md, its world w told by E: from here on it ends as K says -/
def GG (E : EE) (md : MD) (mc ms : Nat) (K : Option CV → CW → Prop) (pc : Nat) (L : List (Option CV)) (S : List CV) (w : CW) (k n : Nat) : Prop :=
  ∀ (p : Program) (e : Env) (s : State) (m : MethodId) (args : Array Value) (below : List Frame) (meth : Method) (c : Code) (H : Heap) (locs : List Loc) (ls : Array Slot),
    CX md p s m meth c → RepC E s w H → va_S (fun q => E.2.1 ≤ q) s.heap H locs → E.2.1 ≤ s.heap.size → LH E ls md.2.2.1 L → okL L → okS S →
    W p E.1 e md.2.2.2.2 s m args below meth c H locs k n (MQ below (QQ E K) args s mc ms (fun q => E.2.1 ≤ q)) (F0 m pc ls (S.map (cv E)))
def MetC (E : EE) (md : MD) (mc ms : Nat) (args : List CV) (w : CW) (K : Option CV → CW → Prop) : Prop :=
  Met E.1 md.1 [.code md.1 md.2.1 md.2.2.1 md.2.2.2.1] md.2.2.2.2 (fun v U => v = (args.map (cv E)).toArray ∧ okS args ∧ RepS E w U ∧ E.2.1 ≤ U.heap.size) (QQ E K) mc ms (fun q => E.2.1 ≤ q)
theorem slen (E : EE) : ∀ args : List CV, (lg_sl (args.map (cv E))).length = (enL args).length
  | [] => rfl
  | .inl x :: t => by
    have ih := slen E t
    show ([Slot.val (cv E (.inl x))] ++ lg_sl (t.map (cv E))).length = _
    simp [enL, ih]
  | .inr (.inl x) :: t => by
    have ih := slen E t
    show ([Slot.val (cv E (.inr (.inl x))), Slot.second] ++ lg_sl (t.map (cv E))).length = _
    simp [enL, ih]
  | .inr (.inr (.inl x)) :: t => by
    have ih := slen E t
    show ([Slot.val (cv E (.inr (.inr (.inl x))))] ++ lg_sl (t.map (cv E))).length = _
    simp [enL, ih]
  | .inr (.inr (.inr x)) :: t => by
    have ih := slen E t
    show ([Slot.val (cv E (.inr (.inr (.inr x))))] ++ lg_sl (t.map (cv E))).length = _
    simp [enL, ih]
theorem MetC.of {E : EE} {md : MD} {mc ms : Nat} {args : List CV} {w : CW} {K : Option CV → CW → Prop} (hy : plainName md.1.cls = true) (L : List (Option CV)) (hL : L = enL args ++ List.replicate (md.2.2.1 - (enL args).length) none) (hn : (enL args).length ≤ md.2.2.1)
    (h : GG E md mc ms K 0 L [] w 0 0) : MetC E md mc ms args w K := by
  refine Met.ofW (cc := md.2.1) (maxL := md.2.2.1) (ret := md.2.2.2.1) hy rfl ?_
  intro p e s m as below meth c s₁ B hml hv
  obtain ⟨rfl, ho, hR, hb⟩ := hv
  rw [lg_entry_eq]
  have hlen := slen E args
  have hl := lv_entry (args.map (cv E)) (n := md.2.2.1) (by rw [hlen]; exact hn)
  refine h p e s m _ below meth c s.heap [] _ ⟨B.exec, B.bytes, B.returns, hml, findClass_of_methodNamed B.named, B.notSynchronized, (name_of_methodNamed B.named B.method).1⟩ hR va_S.rf hb ?_ ?_ (fun v hv => by cases hv)
  · refine LH.mk hl.1 hl.2.1 fun i v hi => ?_
    have hi2 : (enL args)[i]? = some (some v) := by
      rw [hL] at hi
      by_cases c1 : i < (enL args).length
      · rwa [List.getElem?_append_left c1] at hi
      · rw [List.getElem?_append_right (by omega), List.getElem?_replicate] at hi
        split at hi <;> simp at hi
    have h1 := lsF_in E (enL args) 0 i v hi2
    have h2 := hl.2.2 _ (enL_in E args 0 _ h1)
    rw [Nat.zero_add] at h2
    exact h2
  · intro v hv
    rw [hL] at hv
    rcases List.mem_append.mp hv with h1 | h1
    · clear hL hn h hy B hml hR hb hl hlen hv
      induction args with
      | nil => cases h1
      | cons u t ih =>
        rcases u with x | x | x | x
        all_goals
          simp only [enL, List.mem_cons] at h1
          rcases h1 with e | h1
          · rw [Option.some.inj e]; exact ho _ List.mem_cons_self
          · first
            | exact ih (fun v hv => ho v (List.mem_cons_of_mem _ hv)) h1
            | (rcases h1 with e | h1
               · cases e
               · exact ih (fun v hv => ho v (List.mem_cons_of_mem _ hv)) h1)
    · have := (List.mem_replicate.mp h1).2
      cases this
section INS
variable {E : EE} {md : MD} {mc ms : Nat} {pc : Nat} {L : List (Option CV)} {S : List CV} {w : CW} {k n : Nat}
/-- an instruction: from b on it ends, so from a on -/
def Sp (E : EE) (md : MD) (mc ms : Nat) (pc : Nat) (L : List (Option CV)) (S : List CV) (w : CW) (k n : Nat) (pc' : Nat) (L' : List (Option CV)) (S' : List CV) (w' : CW) (k' n' : Nat) : Prop :=
  ∀ K, GG E md mc ms K pc' L' S' w' k' n' → GG E md mc ms K pc L S w k n
theorem okS.c {v : CV} {S : List CV} (hv : okv v) (h : okS S) : okS (v :: S) := fun u hu => (List.mem_cons.mp hu).elim (fun e => e ▸ hv) (h u)
theorem okS.t {v : CV} {S : List CV} (h : okS (v :: S)) : okS S := fun u hu => h u (List.mem_cons_of_mem _ hu)
theorem okS.h {v : CV} {S : List CV} (h : okS (v :: S)) : okv v := h v List.mem_cons_self
theorem okL.set {L : List (Option CV)} {i : Nat} {v : CV} (h : okL L) (hv : okv v) : okL (L.set i (some v)) := by
  intro u hu
  rcases List.mem_or_eq_of_mem_set hu with h1 | h1
  · exact h u h1
  · rw [Option.some.inj h1]; exact hv
theorem okL.set0 {L : List (Option CV)} {i : Nat} (h : okL L) : okL (L.set i none) := by
  intro u hu
  rcases List.mem_or_eq_of_mem_set hu with h1 | h1
  · exact h u h1
  · cases h1
theorem okL.at {L : List (Option CV)} {i : Nat} {v : CV} (h : okL L) (hi : L[i]? = some (some v)) : okv v := h v (List.mem_of_getElem? hi)
theorem I_iconst {z : Int} (hd : decode md.2.1 pc = .ok (.iconst z, 1)) (hz : r32 z) : Sp E md mc ms pc L S w k n (pc + 1) L (iV z :: S) w k n := by
  intro K g p e s m args below meth c H locs ls cx rc hS hb hl ol os
  exact lv_iconst cx.1 cx.2.1 hd rfl (g p e s m args below meth c H locs ls cx rc hS hb hl ol (os.c hz))
theorem I_bipush {z : Int} (hd : decode md.2.1 pc = .ok (.bipush z, 2)) (hv : (Int8.ofInt z).toInt32 = Int32.ofInt z) (hz : r32 z) : Sp E md mc ms pc L S w k n (pc + 2) L (iV z :: S) w k n := by
  intro K g p e s m args below meth c H locs ls cx rc hS hb hl ol os
  exact lv_bipush cx.1 cx.2.1 hd hv (g p e s m args below meth c H locs ls cx rc hS hb hl ol (os.c hz))
theorem I_sipush {z : Int} (hd : decode md.2.1 pc = .ok (.sipush z, 3)) (hv : (Int16.ofInt z).toInt32 = Int32.ofInt z) (hz : r32 z) : Sp E md mc ms pc L S w k n (pc + 3) L (iV z :: S) w k n := by
  intro K g p e s m args below meth c H locs ls cx rc hS hb hl ol os
  exact lv_sipush cx.1 cx.2.1 hd hv (g p e s m args below meth c H locs ls cx rc hS hb hl ol (os.c hz))
theorem I_lconst {q : Fin 2} {z : Int} (hd : decode md.2.1 pc = .ok (.lconst q, 1)) (hv : Int64.ofNat (q : Nat) = Int64.ofInt z) (hz : r64 z) : Sp E md mc ms pc L S w k n (pc + 1) L (jV z :: S) w k n := by
  intro K g p e s m args below meth c H locs ls cx rc hS hb hl ol os
  exact lv_lconst cx.1 cx.2.1 hd hv (g p e s m args below meth c H locs ls cx rc hS hb hl ol (os.c hz))
theorem I_ldc {idx : Nat} {z : Int} (hd : decode md.2.1 pc = .ok (.ldc idx, 2)) (hw : Cond.constant md.1.cls idx (Int32.ofInt z) ∈ TS) (hz : r32 z) : Sp E md mc ms pc L S w k n (pc + 2) L (iV z :: S) w k n := by
  intro K g p e s m args below meth c H locs ls cx rc hS hb hl ol os
  exact lv_ldc cx.1 cx.2.1 cx.2.2.2.2.1 (rc.1.1.use hw) hd (g p e s m args below meth c H locs ls cx rc hS hb hl ol (os.c hz))
theorem I_ldcw {idx : Nat} {z : Int} (hd : decode md.2.1 pc = .ok (.ldc_w idx, 3)) (hw : Cond.constant md.1.cls idx (Int32.ofInt z) ∈ TS) (hz : r32 z) : Sp E md mc ms pc L S w k n (pc + 3) L (iV z :: S) w k n := by
  intro K g p e s m args below meth c H locs ls cx rc hS hb hl ol os
  exact lv_ldcw cx.1 cx.2.1 cx.2.2.2.2.1 (rc.1.1.use hw) hd (g p e s m args below meth c H locs ls cx rc hS hb hl ol (os.c hz))
theorem I_ldc2 {idx : Nat} {z : Int} (hd : decode md.2.1 pc = .ok (.ldc2_w idx, 3)) (hw : Cond.constantLong md.1.cls idx (Int64.ofInt z) ∈ TS) (hz : r64 z) : Sp E md mc ms pc L S w k n (pc + 3) L (jV z :: S) w k n := by
  intro K g p e s m args below meth c H locs ls cx rc hS hb hl ol os
  exact lv_ldc2 cx.1 cx.2.1 cx.2.2.2.2.1 (rc.1.1.use hw) hd (g p e s m args below meth c H locs ls cx rc hS hb hl ol (os.c hz))
theorem I_iload_n {q : Fin 4} {i : Nat} {x : Int} (hd : decode md.2.1 pc = .ok (.iload_n q, 1)) (hi : (q : Nat) = i) (hx : L[i]? = some (some (iV x))) : Sp E md mc ms pc L S w k n (pc + 1) L (iV x :: S) w k n := by
  intro K g p e s m args below meth c H locs ls cx rc hS hb hl ol os
  exact lv_iload_n cx.1 cx.2.1 hd hi (hl.at hx) (g p e s m args below meth c H locs ls cx rc hS hb hl ol (os.c (ol.at hx)))
theorem I_iload {i : Nat} {x : Int} (hd : decode md.2.1 pc = .ok (.iload i, 2)) (hx : L[i]? = some (some (iV x))) : Sp E md mc ms pc L S w k n (pc + 2) L (iV x :: S) w k n := by
  intro K g p e s m args below meth c H locs ls cx rc hS hb hl ol os
  exact lv_iload cx.1 cx.2.1 hd (hl.at hx) (g p e s m args below meth c H locs ls cx rc hS hb hl ol (os.c (ol.at hx)))
theorem I_lload_n {q : Fin 4} {i : Nat} {x : Int} (hd : decode md.2.1 pc = .ok (.lload_n q, 1)) (hi : (q : Nat) = i) (hx : L[i]? = some (some (jV x))) : Sp E md mc ms pc L S w k n (pc + 1) L (jV x :: S) w k n := by
  intro K g p e s m args below meth c H locs ls cx rc hS hb hl ol os
  exact lv_lload_n cx.1 cx.2.1 hd hi (hl.at hx) (g p e s m args below meth c H locs ls cx rc hS hb hl ol (os.c (ol.at hx)))
theorem I_lload {i : Nat} {x : Int} (hd : decode md.2.1 pc = .ok (.lload i, 2)) (hx : L[i]? = some (some (jV x))) : Sp E md mc ms pc L S w k n (pc + 2) L (jV x :: S) w k n := by
  intro K g p e s m args below meth c H locs ls cx rc hS hb hl ol os
  exact lv_lload cx.1 cx.2.1 hd (hl.at hx) (g p e s m args below meth c H locs ls cx rc hS hb hl ol (os.c (ol.at hx)))
theorem I_aload_n {q : Fin 4} {i : Nat} {x : Nat} (hd : decode md.2.1 pc = .ok (.aload_n q, 1)) (hi : (q : Nat) = i) (hx : L[i]? = some (some (rV x))) : Sp E md mc ms pc L S w k n (pc + 1) L (rV x :: S) w k n := by
  intro K g p e s m args below meth c H locs ls cx rc hS hb hl ol os
  exact lv_aload_n cx.1 cx.2.1 hd hi (hl.at hx) (g p e s m args below meth c H locs ls cx rc hS hb hl ol (os.c trivial))
theorem I_aload {i : Nat} {x : Nat} (hd : decode md.2.1 pc = .ok (.aload i, 2)) (hx : L[i]? = some (some (rV x))) : Sp E md mc ms pc L S w k n (pc + 2) L (rV x :: S) w k n := by
  intro K g p e s m args below meth c H locs ls cx rc hS hb hl ol os
  exact lv_aload cx.1 cx.2.1 hd (hl.at hx) (g p e s m args below meth c H locs ls cx rc hS hb hl ol (os.c trivial))
theorem I_aload_s {q : Fin 4} {i : Nat} (hd : decode md.2.1 pc = .ok (.aload_n q, 1)) (hi : (q : Nat) = i) (hx : L[i]? = some (some sV)) : Sp E md mc ms pc L S w k n (pc + 1) L (sV :: S) w k n := by
  intro K g p e s m args below meth c H locs ls cx rc hS hb hl ol os
  exact lv_aload_n cx.1 cx.2.1 hd hi (hl.at hx) (g p e s m args below meth c H locs ls cx rc hS hb hl ol (os.c trivial))
theorem I_istore_n {q : Fin 4} {i : Nat} {x : Int} (hd : decode md.2.1 pc = .ok (.istore_n q, 1)) (hi : (q : Nat) = i) (hm : i < md.2.2.1) (hn : nlong L i = true) : Sp E md mc ms pc L (iV x :: S) w k n (pc + 1) (L.set i (some (iV x))) S w k n := by
  intro K g p e s m args below meth c H locs ls cx rc hS hb hl ol os
  exact lv_istore_n cx.1 cx.2.1 hd hi hl hm rfl (fun ls' hl' => g p e s m args below meth c H locs ls' cx rc hS hb (LH.set1 hn hl') (ol.set os.h) os.t)
theorem I_istore {i : Nat} {x : Int} (hd : decode md.2.1 pc = .ok (.istore i, 2)) (hm : i < md.2.2.1) (hn : nlong L i = true) : Sp E md mc ms pc L (iV x :: S) w k n (pc + 2) (L.set i (some (iV x))) S w k n := by
  intro K g p e s m args below meth c H locs ls cx rc hS hb hl ol os
  exact lv_istore cx.1 cx.2.1 hd hl hm rfl (fun ls' hl' => g p e s m args below meth c H locs ls' cx rc hS hb (LH.set1 hn hl') (ol.set os.h) os.t)
theorem I_astore_n {q : Fin 4} {i : Nat} {x : Nat} (hd : decode md.2.1 pc = .ok (.astore_n q, 1)) (hi : (q : Nat) = i) (hm : i < md.2.2.1) (hn : nlong L i = true) : Sp E md mc ms pc L (rV x :: S) w k n (pc + 1) (L.set i (some (rV x))) S w k n := by
  intro K g p e s m args below meth c H locs ls cx rc hS hb hl ol os
  exact lv_astore_n cx.1 cx.2.1 hd hi hl hm rfl (fun ls' hl' => g p e s m args below meth c H locs ls' cx rc hS hb (LH.set1 (v := rV x) hn hl') (ol.set os.h) os.t)
theorem I_astore {i : Nat} {x : Nat} (hd : decode md.2.1 pc = .ok (.astore i, 2)) (hm : i < md.2.2.1) (hn : nlong L i = true) : Sp E md mc ms pc L (rV x :: S) w k n (pc + 2) (L.set i (some (rV x))) S w k n := by
  intro K g p e s m args below meth c H locs ls cx rc hS hb hl ol os
  exact lv_astore cx.1 cx.2.1 hd hl hm rfl (fun ls' hl' => g p e s m args below meth c H locs ls' cx rc hS hb (LH.set1 (v := rV x) hn hl') (ol.set os.h) os.t)
theorem I_lstore_n {q : Fin 4} {i : Nat} {x : Int} (hd : decode md.2.1 pc = .ok (.lstore_n q, 1)) (hi : (q : Nat) = i) (hm : i + 1 < md.2.2.1) (hn : nlong L i = true) : Sp E md mc ms pc L (jV x :: S) w k n (pc + 1) ((L.set i (some (jV x))).set (i + 1) none) S w k n := by
  intro K g p e s m args below meth c H locs ls cx rc hS hb hl ol os
  exact lv_lstore_n cx.1 cx.2.1 hd hi hl hm rfl (fun ls' hl' => g p e s m args below meth c H locs ls' cx rc hS hb (LH.set2 (v := jV x) hn hl') (ol.set os.h).set0 os.t)
theorem I_lstore {i : Nat} {x : Int} (hd : decode md.2.1 pc = .ok (.lstore i, 2)) (hm : i + 1 < md.2.2.1) (hn : nlong L i = true) : Sp E md mc ms pc L (jV x :: S) w k n (pc + 2) ((L.set i (some (jV x))).set (i + 1) none) S w k n := by
  intro K g p e s m args below meth c H locs ls cx rc hS hb hl ol os
  exact lv_lstore cx.1 cx.2.1 hd hl hm rfl (fun ls' hl' => g p e s m args below meth c H locs ls' cx rc hS hb (LH.set2 (v := jV x) hn hl') (ol.set os.h).set0 os.t)
theorem I_iadd {x y : Int} (hd : decode md.2.1 pc = .ok (.iadd, 1)) : Sp E md mc ms pc L (iV y :: iV x :: S) w k n (pc + 1) L (iV (w32 (x + y)) :: S) w k n := by
  intro K g p e s m args below meth c H locs ls cx rc hS hb hl ol os
  refine lv_iadd cx.1 cx.2.1 hd ?_
  rw [aI]
  exact g p e s m args below meth c H locs ls cx rc hS hb hl ol (okS.c (w32_r _) os.t.t)
theorem I_isub {x y : Int} (hd : decode md.2.1 pc = .ok (.isub, 1)) : Sp E md mc ms pc L (iV y :: iV x :: S) w k n (pc + 1) L (iV (w32 (x - y)) :: S) w k n := by
  intro K g p e s m args below meth c H locs ls cx rc hS hb hl ol os
  refine lv_isub cx.1 cx.2.1 hd ?_
  rw [sI]
  exact g p e s m args below meth c H locs ls cx rc hS hb hl ol (okS.c (w32_r _) os.t.t)
theorem I_imul {x y : Int} (hd : decode md.2.1 pc = .ok (.imul, 1)) : Sp E md mc ms pc L (iV y :: iV x :: S) w k n (pc + 1) L (iV (w32 (x * y)) :: S) w k n := by
  intro K g p e s m args below meth c H locs ls cx rc hS hb hl ol os
  refine lv_imul cx.1 cx.2.1 hd ?_
  rw [mI]
  exact g p e s m args below meth c H locs ls cx rc hS hb hl ol (okS.c (w32_r _) os.t.t)
theorem I_ineg {x : Int} (hd : decode md.2.1 pc = .ok (.ineg, 1)) : Sp E md mc ms pc L (iV x :: S) w k n (pc + 1) L (iV (w32 (-x)) :: S) w k n := by
  intro K g p e s m args below meth c H locs ls cx rc hS hb hl ol os
  refine lv_ineg cx.1 cx.2.1 hd ?_
  have e1 : (0 : Int32) - Int32.ofInt x = Int32.ofInt (w32 (-x)) := by rw [← nI']; simp
  first | rw [nI'] | rw [e1]
  exact g p e s m args below meth c H locs ls cx rc hS hb hl ol (okS.c (w32_r _) os.t)
theorem I_ladd {x y : Int} (hd : decode md.2.1 pc = .ok (.ladd, 1)) : Sp E md mc ms pc L (jV y :: jV x :: S) w k n (pc + 1) L (jV (w64 (x + y)) :: S) w k n := by
  intro K g p e s m args below meth c H locs ls cx rc hS hb hl ol os
  refine lv_ladd cx.1 cx.2.1 hd ?_
  rw [aL]
  exact g p e s m args below meth c H locs ls cx rc hS hb hl ol (okS.c (w64_r _) os.t.t)
theorem I_lsub {x y : Int} (hd : decode md.2.1 pc = .ok (.lsub, 1)) : Sp E md mc ms pc L (jV y :: jV x :: S) w k n (pc + 1) L (jV (w64 (x - y)) :: S) w k n := by
  intro K g p e s m args below meth c H locs ls cx rc hS hb hl ol os
  refine lv_lsub cx.1 cx.2.1 hd ?_
  rw [sL]
  exact g p e s m args below meth c H locs ls cx rc hS hb hl ol (okS.c (w64_r _) os.t.t)
theorem I_lmul {x y : Int} (hd : decode md.2.1 pc = .ok (.lmul, 1)) : Sp E md mc ms pc L (jV y :: jV x :: S) w k n (pc + 1) L (jV (w64 (x * y)) :: S) w k n := by
  intro K g p e s m args below meth c H locs ls cx rc hS hb hl ol os
  refine lv_lmul cx.1 cx.2.1 hd ?_
  rw [mL]
  exact g p e s m args below meth c H locs ls cx rc hS hb hl ol (okS.c (w64_r _) os.t.t)
theorem I_lneg {x : Int} (hd : decode md.2.1 pc = .ok (.lneg, 1)) : Sp E md mc ms pc L (jV x :: S) w k n (pc + 1) L (jV (w64 (-x)) :: S) w k n := by
  intro K g p e s m args below meth c H locs ls cx rc hS hb hl ol os
  refine lv_lneg cx.1 cx.2.1 hd ?_
  have e1 : (0 : Int64) - Int64.ofInt x = Int64.ofInt (w64 (-x)) := by rw [← nL']; simp
  first | rw [nL'] | rw [e1]
  exact g p e s m args below meth c H locs ls cx rc hS hb hl ol (okS.c (w64_r _) os.t)
theorem I_idiv {x y : Int} (hd : decode md.2.1 pc = .ok (.idiv, 1)) (hy : y ≠ 0) : Sp E md mc ms pc L (iV y :: iV x :: S) w k n (pc + 1) L (iV (w32 (x.tdiv y)) :: S) w k n := by
  intro K g p e s m args below meth c H locs ls cx rc hS hb hl ol os
  have oy : r32 y := os.h
  have ox : r32 x := os.t.h
  refine lv_idiv cx.1 cx.2.1 hd (fun q => hy ((eqI oy r0).mp (q.trans z32.symm))) ?_
  rw [dI ox oy]
  exact g p e s m args below meth c H locs ls cx rc hS hb hl ol (okS.c (w32_r _) os.t.t)
theorem I_irem {x y : Int} (hd : decode md.2.1 pc = .ok (.irem, 1)) (hy : y ≠ 0) : Sp E md mc ms pc L (iV y :: iV x :: S) w k n (pc + 1) L (iV (w32 (x.tmod y)) :: S) w k n := by
  intro K g p e s m args below meth c H locs ls cx rc hS hb hl ol os
  have oy : r32 y := os.h
  have ox : r32 x := os.t.h
  refine lv_irem cx.1 cx.2.1 hd (fun q => hy ((eqI oy r0).mp (q.trans z32.symm))) ?_
  rw [mdI ox oy]
  exact g p e s m args below meth c H locs ls cx rc hS hb hl ol (okS.c (w32_r _) os.t.t)
theorem r0L : r64 0 := by unfold r64; omega
theorem z64 : Int64.ofInt 0 = 0 := by decide
theorem I_ldiv {x y : Int} (hd : decode md.2.1 pc = .ok (.ldiv, 1)) (hy : y ≠ 0) : Sp E md mc ms pc L (jV y :: jV x :: S) w k n (pc + 1) L (jV (w64 (x.tdiv y)) :: S) w k n := by
  intro K g p e s m args below meth c H locs ls cx rc hS hb hl ol os
  have oy : r64 y := os.h
  have ox : r64 x := os.t.h
  refine lv_ldiv cx.1 cx.2.1 hd (fun q => hy ((eqL oy r0L).mp (q.trans z64.symm))) ?_
  rw [dL ox oy]
  exact g p e s m args below meth c H locs ls cx rc hS hb hl ol (okS.c (w64_r _) os.t.t)
theorem I_lrem {x y : Int} (hd : decode md.2.1 pc = .ok (.lrem, 1)) (hy : y ≠ 0) : Sp E md mc ms pc L (jV y :: jV x :: S) w k n (pc + 1) L (jV (w64 (x.tmod y)) :: S) w k n := by
  intro K g p e s m args below meth c H locs ls cx rc hS hb hl ol os
  have oy : r64 y := os.h
  have ox : r64 x := os.t.h
  refine lv_lrem cx.1 cx.2.1 hd (fun q => hy ((eqL oy r0L).mp (q.trans z64.symm))) ?_
  rw [mdL ox oy]
  exact g p e s m args below meth c H locs ls cx rc hS hb hl ol (okS.c (w64_r _) os.t.t)
theorem I_iand {x y : Int} (hd : decode md.2.1 pc = .ok (.iand, 1)) : Sp E md mc ms pc L (iV y :: iV x :: S) w k n (pc + 1) L (iV (and32 x y) :: S) w k n := by
  intro K g p e s m args below meth c H locs ls cx rc hS hb hl ol os
  refine lv_iand cx.1 cx.2.1 hd ?_
  rw [← Int32.ofInt_toInt (Int32.ofInt x &&& Int32.ofInt y)]
  exact g p e s m args below meth c H locs ls cx rc hS hb hl ol (okS.c (rI _) os.t.t)
theorem I_ior {x y : Int} (hd : decode md.2.1 pc = .ok (.ior, 1)) : Sp E md mc ms pc L (iV y :: iV x :: S) w k n (pc + 1) L (iV (or32 x y) :: S) w k n := by
  intro K g p e s m args below meth c H locs ls cx rc hS hb hl ol os
  refine lv_ior cx.1 cx.2.1 hd ?_
  rw [← Int32.ofInt_toInt (Int32.ofInt x ||| Int32.ofInt y)]
  exact g p e s m args below meth c H locs ls cx rc hS hb hl ol (okS.c (rI _) os.t.t)
theorem I_ishl {x y : Int} (hd : decode md.2.1 pc = .ok (.ishl, 1)) : Sp E md mc ms pc L (iV y :: iV x :: S) w k n (pc + 1) L (iV (shl32 x y) :: S) w k n := by
  intro K g p e s m args below meth c H locs ls cx rc hS hb hl ol os
  refine lv_ishl cx.1 cx.2.1 hd ?_
  rw [← Int32.ofInt_toInt (Int32.ofInt x <<< (Int32.ofInt y &&& 31))]
  exact g p e s m args below meth c H locs ls cx rc hS hb hl ol (okS.c (rI _) os.t.t)
theorem I_ishr {x y : Int} (hd : decode md.2.1 pc = .ok (.ishr, 1)) : Sp E md mc ms pc L (iV y :: iV x :: S) w k n (pc + 1) L (iV (shr32 x y) :: S) w k n := by
  intro K g p e s m args below meth c H locs ls cx rc hS hb hl ol os
  refine lv_ishr cx.1 cx.2.1 hd ?_
  rw [← Int32.ofInt_toInt (Int32.ofInt x >>> (Int32.ofInt y &&& 31))]
  exact g p e s m args below meth c H locs ls cx rc hS hb hl ol (okS.c (rI _) os.t.t)
theorem I_land {x y : Int} (hd : decode md.2.1 pc = .ok (.land, 1)) : Sp E md mc ms pc L (jV y :: jV x :: S) w k n (pc + 1) L (jV (and64 x y) :: S) w k n := by
  intro K g p e s m args below meth c H locs ls cx rc hS hb hl ol os
  refine lv_land cx.1 cx.2.1 hd ?_
  rw [← Int64.ofInt_toInt (Int64.ofInt x &&& Int64.ofInt y)]
  exact g p e s m args below meth c H locs ls cx rc hS hb hl ol (okS.c (rL _) os.t.t)
theorem r3264 {x : Int} (h : r32 x) : r64 x := by unfold r32 at h; unfold r64; omega
theorem I_i2l {x : Int} (hd : decode md.2.1 pc = .ok (.i2l, 1)) : Sp E md mc ms pc L (iV x :: S) w k n (pc + 1) L (jV x :: S) w k n := by
  intro K g p e s m args below meth c H locs ls cx rc hS hb hl ol os
  exact lv_i2l cx.1 cx.2.1 hd (i2lI os.h) (g p e s m args below meth c H locs ls cx rc hS hb hl ol (okS.c (r3264 os.h) os.t))
theorem I_l2i {x : Int} (hd : decode md.2.1 pc = .ok (.l2i, 1)) : Sp E md mc ms pc L (jV x :: S) w k n (pc + 1) L (iV (w32 x) :: S) w k n := by
  intro K g p e s m args below meth c H locs ls cx rc hS hb hl ol os
  exact lv_l2i cx.1 cx.2.1 hd (l2iI os.h) (g p e s m args below meth c H locs ls cx rc hS hb hl ol (okS.c (w32_r _) os.t))
theorem I_i2b {x : Int} (hd : decode md.2.1 pc = .ok (.i2b, 1)) : Sp E md mc ms pc L (iV x :: S) w k n (pc + 1) L (iV (w8 x) :: S) w k n := by
  intro K g p e s m args below meth c H locs ls cx rc hS hb hl ol os
  exact lv_i2b cx.1 cx.2.1 hd (i2bI os.h) (g p e s m args below meth c H locs ls cx rc hS hb hl ol (okS.c (by have := w8_r x; show r32 _; unfold r32; omega) os.t))
theorem I_lcmp {x y : Int} (hd : decode md.2.1 pc = .ok (.lcmp, 1)) : Sp E md mc ms pc L (jV y :: jV x :: S) w k n (pc + 1) L (iV (cmpI x y) :: S) w k n := by
  intro K g p e s m args below meth c H locs ls cx rc hS hb hl ol os
  refine W.lcmp cx.1 cx.2.1 hd ?_
  rw [cmpI_o os.t.h os.h]
  exact g p e s m args below meth c H locs ls cx rc hS hb hl ol (okS.c (cmpI_r _ _) os.t.t)
theorem I_iinc {i : Nat} {z x : Int} (hd : decode md.2.1 pc = .ok (.iinc i z, 3)) (hx : L[i]? = some (some (iV x))) (hm : i < md.2.2.1) (hn : nlong L i = true) : Sp E md mc ms pc L S w k n (pc + 3) (L.set i (some (iV (w32 (x + z))))) S w k n := by
  intro K g p e s m args below meth c H locs ls cx rc hS hb hl ol os
  have hmem := lsF_in E L 0 i (iV x) hx
  rw [Nat.zero_add] at hmem
  obtain ⟨k9, hk9⟩ := List.getElem?_of_mem hmem
  exact lv_iinc cx.1 cx.2.1 hd hl hk9 (aI x z) hm rfl (fun ls' hl' => g p e s m args below meth c H locs ls' cx rc hS hb (LH.set1 (v := iV (w32 (x + z))) hn hl') (ol.set (w32_r _)) os)
theorem I_dup {v : CV} (hd : decode md.2.1 pc = .ok (.dup, 1)) (hv : ∀ x, v ≠ jV x) : Sp E md mc ms pc L (v :: S) w k n (pc + 1) L (v :: v :: S) w k n := by
  intro K g p e s m args below meth c H locs ls cx rc hS hb hl ol os
  exact lv_dup cx.1 cx.2.1 hd (by rcases lv_cat (cv E v) with h | h; exact h; obtain ⟨x, hx⟩ := cat_long h; exact absurd hx (hv x)) (g p e s m args below meth c H locs ls cx rc hS hb hl ol (okS.c os.h os))
theorem I_dup2 {v u : CV} (hd : decode md.2.1 pc = .ok (.dup2, 1)) (hv : ∀ x, v ≠ jV x) (hu : ∀ x, u ≠ jV x) : Sp E md mc ms pc L (v :: u :: S) w k n (pc + 1) L (v :: u :: v :: u :: S) w k n := by
  intro K g p e s m args below meth c H locs ls cx rc hS hb hl ol os
  exact lv_dup2_11 cx.1 cx.2.1 hd (by rcases lv_cat (cv E v) with h | h; exact h; obtain ⟨x, hx⟩ := cat_long h; exact absurd hx (hv x)) (by rcases lv_cat (cv E u) with h | h; exact h; obtain ⟨x, hx⟩ := cat_long h; exact absurd hx (hu x)) (g p e s m args below meth c H locs ls cx rc hS hb hl ol (okS.c os.h (okS.c os.t.h os)))
theorem I_goto {off : Int} {tgt : Nat} (hd : decode md.2.1 pc = .ok (.goto off, 3)) (ht : (pc : Int) + off = (tgt : Int)) : Sp E md mc ms pc L S w k n tgt L S w k n := by
  intro K g p e s m args below meth c H locs ls cx rc hS hb hl ol os
  exact lv_goto cx.1 cx.2.1 hd ht (g p e s m args below meth c H locs ls cx rc hS hb hl ol os)
end INS
