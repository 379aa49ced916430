/-- the words of a throw whose class hands its text on by another row of its pool -/
def xsTail (own : String) (ic : Nat) (X : String) : List Cond :=
  [.methodLink own ic (Bundle.initS X), .instantiable X 6, .castable X X, .selects X Bundle.tFill0 Bundle.tFill0, .selects X Bundle.tFill Bundle.tFill, .lays X Bundle.tN "cause" "Ljava/lang/Throwable;", .lays X Bundle.tN "stackTrace" Bundle.steD, .lays X Bundle.tN "suppressedExceptions" Bundle.listD, .lays X Bundle.tN "detailMessage" "Ljava/lang/String;", .lays X Bundle.tN "backtrace" "Ljava/lang/Object;", .fieldLink Bundle.tN 198 Bundle.tN "backtrace" "Ljava/lang/Object;", .lays Bundle.tN Bundle.tN "backtrace" "Ljava/lang/Object;", .isRef (.static Bundle.tN "UNASSIGNED_STACK" Bundle.steD), .isRef (.static Bundle.tN "SUPPRESSED_SENTINEL" Bundle.listD)]
def xsAtoms (own : String) (ic : Nat) (X : String) (ix : Nat) (rx : ByteArray) (Y : String) (r : List String) : List Cond :=
  Bundle.throwableAtoms ++ (Bundle.throwableSAtoms ++ (Bundle.passSAtoms X Y ix rx ++ (Bundle.chainSAtoms Y r ++ xsTail own ic X)))
section XS
variable {p : Program} {l : Launch} {e : Env} {R : Room} {s : State} {m : MethodId} {args : Array Value} {below : List Frame} {meth : Method} {c : Code} {V : State} {locs : List Loc} {cells slots : Nat}
/-- a method of Throwable's, chosen on an object of the class cls -/
theorem xs_sel (X : Stand p l e R s m args below meth c V locs cells slots) {cls : String} {k : ClassId} (hk : s.vm.findClass cls = some k) {y : MethodName} {f : MethodId} (hf : s.methodNamed? y = some f) (hy : y.cls ≠ "java/lang/invoke/MethodHandle" ∧ y.cls ≠ "java/lang/invoke/VarHandle") (h : (Cond.selects cls y y).before args s = true) : selectMethod e.platform s.vm k f = .method f := by
  obtain ⟨k1, f1, f2, h1, h2, h3, h4, -⟩ := Cond.selects_spec h
  have e1 : k1 = k := Option.some.inj (h1.symm.trans hk)
  have e2 : f1 = f := Option.some.inj (h2.symm.trans (State.methodFound?_of_named hf hy))
  have e3 : f2 = f := Option.some.inj (h3.symm.trans hf)
  rw [e1, e2, e3] at h4
  rw [Launch.admits_selectMethod X.admits]
  exact h4
/-- a cell of statics stands as it stood -/
theorem xs_low (X : Stand p l e R s m args below meth c V locs cells slots) (hlocs : ∀ x ∈ locs, ∀ cell, s.heap[x.base]? = some cell → cell.vm.isStatics = false) {b : Nat} {old : Cell} (h0 : s.heap[b]? = some old) (hi : old.vm.isStatics = true) : ∃ now : Cell, V.heap[b]? = some now ∧ now.vm ≠ .unknown ∧ ∀ i : Nat, now.slots[i]? = old.slots[i]? := by
  obtain ⟨now, h1, h2, -, h4⟩ := X.same.2.2.2.2.2 b old h0
  refine ⟨now, h1, fun hu => ?_, fun i => h4 i (fun hm => ?_)⟩
  · have hv : now.vm = old.vm := by rw [h2]
    rw [← hv, hu] at hi
    cases hi
  · have no := hlocs _ hm old h0
    rw [hi] at no
    cases no
/-- the trace is not filled: nothing is written there -/
theorem xs_skip {T : ThrowableC} {pl : Platform} {k : ClassId} {kX : Class} {a : Addr} {u0 sen : RefV} {cur : Nat} (B : BackC) (hB : B.Links T pl s) (ty : kX.instanceTypes[B.fBack.slot]? = some B.fBack.type) (ht : B.fBack.type = .object "java/lang/Object") (n1 : B.fBack.slot ≠ T.fCause.slot) (n2 : B.fBack.slot ≠ T.fStack.slot) (n3 : B.fBack.slot ≠ T.fSupp.slot) : SkipFacts T pl s (fun u => u) u0 ((preparedCellV T.toThrowableT (freshCell k kX) a u0 sen).withEntry cur) := by
  refine ⟨B, hB, ?_, fun _ _ => rfl⟩
  have d := fresh_default (c := k) ty
  rw [ht] at d
  simpa [preparedCellV, Cell.setSlot, Cell.withEntry, Array.getElem?_setIfInBounds, n1, n2, n3, n1.symm, n2.symm, n3.symm, defaultValue] using d
set_option maxHeartbeats 1000000 in
theorem xs_ctor (X : Stand p l e R s m args below meth c V locs cells slots) (hexec : p.tables.exec = Jvm.exec) (htr : e.platform.stackTraces = false) {own cls Y : String} {r : List String} {ic ix : Nat} {rx : ByteArray}
    (hown : s.vm.findClass own = some m.cls) (hcls : Bundle.fit cls = true) (hY : Bundle.fit Y = true) (hr : ∀ n ∈ r, Bundle.fit n = true)
    (x0 : decode rx 0 = .ok (.aload_n 0, 1)) (x1 : decode rx 1 = .ok (.aload_n 1, 1)) (x2 : decode rx 2 = .ok (.invokespecial ix, 3)) (x5 : decode rx 5 = .ok (.return_, 1))
    (h : ∀ w ∈ xsAtoms own ic cls ix rx Y r, w.before args s = true)
    (hlocs : ∀ x ∈ locs, ∀ cell, s.heap[x.base]? = some cell → cell.vm.isStatics = false)
    {a : Addr} {cX : ClassId} {kX : Class} (hfX : s.vm.findClass cls = some cX) (hkX : s.vm.classes[cX]? = some kX) (hcell : V.heap[a]? = some (freshCell cX kX)) (hnew : s.heap.size ≤ a) {msg : Value} (hmsg : msg.isRef = true)
    {g : JFrame} (hg : g.method = m) (hsize : g.locals.size = c.maxLocals) (hlocked : g.locked = none) (hentered : g.entered = []) {rest : List Value} (hstack : g.stack = msg :: .ref a :: .ref a :: rest)
    (hd6 : decode c.code g.pc = .ok (.invokespecial ic, 3)) (hd9 : decode c.code (g.pc + 3) = .ok (.athrow, 1)) (hout : ∀ x ∈ c.exceptionTable.toList, covers x (g.pc + 3) = false)
    (hRf : r.length + 4 < R.frames) (hRl : 2 * g.monitorRoom + ((Value.ref a :: rest).map fun v => v.category).sum + (13 * (r.length + 2) + 42) ≤ R.locals) (hlocks : meth.locks = false) :
    ∃ U : State, Steps p.tables e below (V.setTop g) U ∧ U.status = .running ∧ Ended U below (.threw a) ∧ s.WarmedH U.vm ∧ s.sameButNew ({ U with vm := s.vm } : State) locs cells slots ∧
      ∃ ce, U.heap[a]? = some ce ∧ ce.vm = .none ∧ s.vm.findClass cls = some ce.cls := by
  have hpf := X.admits.platform
  have hpl : e.platform.magicAccessors = ({} : Platform).magicAccessors := by rw [hpf]
  have tl : ∀ w ∈ xsTail own ic cls, w.before args s = true := fun w hw => h w (List.mem_append_right _ (List.mem_append_right _ (List.mem_append_right _ (List.mem_append_right _ hw))))
  have hC : ∀ w ∈ Bundle.passSAtoms cls Y ix rx, w.before args s = true := fun w hw => h w (List.mem_append_right _ (List.mem_append_right _ (List.mem_append_left _ hw)))
  obtain ⟨T, Z0, L, -, ti⟩ := ThrowableC.of_atoms (args := args) (pl := e.platform) (s := s) (by rw [hpf]) (by rw [hpf]) hpl (fun w hw => h w (List.mem_append_left _ hw))
  obtain ⟨Z, Mg, LZ, LM, nZ⟩ := Init0T.ofS_atoms (args := args) hpl L ti (fun w hw => h w (List.mem_append_right _ (List.mem_append_left _ hw)))
  obtain ⟨P2, Ps, len, L2, hL, n2, k2, kr⟩ := Bundle.chainS (args := args) hpl nZ r Y hY hr (fun w hw => h w (List.mem_append_right _ (List.mem_append_right _ (List.mem_append_right _ (List.mem_append_left _ hw)))))
  obtain ⟨P1, L1, n1, k1⟩ := PassC.ofS_atoms (args := args) (s := s) hpl (Bundle.fit_spec hcls).1 (Bundle.fit_spec hY).2 x0 x1 x2 x5 hC
  have hP : P1.sup = P2.m := Option.some.inj (k1.symm.trans n2)
  have fX : s.vm.findClass cls = some P1.m.cls := findClass_of_methodNamed n1
  have eX : cX = P1.m.cls := Option.some.inj (hfX.symm.trans fX)
  subst eX
  have ord : kX.kind = .ordinary := by
    obtain ⟨c1, k9, q1, q2, q3, -⟩ := Cond.instantiable_spec (tl (.instantiable cls 6) (by simp [xsTail]))
    have e1 : c1 = P1.m.cls := Option.some.inj (q1.symm.trans fX)
    rw [e1, hkX] at q2
    rw [Option.some.inj q2]
    exact q3
  obtain ⟨old, ho, hi⟩ := ti.statics
  obtain ⟨u0, hu0⟩ := Cond.staticRefV ti.unassigned L.unassignedStatic L.statics ho hi (tl (.isRef (.static Bundle.tN "UNASSIGNED_STACK" Bundle.steD)) (by simp [xsTail]))
  obtain ⟨sen, hsen⟩ := Cond.staticRefV ti.sentinel L.sentinelStatic L.statics ho hi (tl (.isRef (.static Bundle.tN "SUPPRESSED_SENTINEL" Bundle.listD)) (by simp [xsTail]))
  obtain ⟨now, hn1, hn2, hn3⟩ := xs_low X hlocs ho hi
  obtain ⟨b1, b2, fB, b3, b4, b5, b6, -, nmB, tB, ffB⟩ := Cond.ownField (t := .object "java/lang/Object") ti.found L.cls (by decide +kernel) (tl (.fieldLink Bundle.tN 198 Bundle.tN "backtrace" "Ljava/lang/Object;") (by simp [xsTail])) (tl (.lays Bundle.tN Bundle.tN "backtrace" "Ljava/lang/Object;") (by simp [xsTail])) e.platform hpl
  obtain ⟨iM, ffM⟩ := ti.msg
  obtain ⟨tyC, dC, lC, mC⟩ := Cond.laysAt fX hkX ti.cause (tl (.lays cls Bundle.tN "cause" "Ljava/lang/Throwable;") (by simp [xsTail]))
  obtain ⟨tyS, dS, lS, mS⟩ := Cond.laysAt fX hkX ti.stack (tl (.lays cls Bundle.tN "stackTrace" Bundle.steD) (by simp [xsTail]))
  obtain ⟨tyP, dP, lP, mP⟩ := Cond.laysAt fX hkX ti.supp (tl (.lays cls Bundle.tN "suppressedExceptions" Bundle.listD) (by simp [xsTail]))
  obtain ⟨tyM, -⟩ := Cond.laysAt fX hkX ffM (tl (.lays cls Bundle.tN "detailMessage" "Ljava/lang/String;") (by simp [xsTail]))
  obtain ⟨tyB, dB, lB, mB⟩ := Cond.laysAt fX hkX ffB (tl (.lays cls Bundle.tN "backtrace" "Ljava/lang/Object;") (by simp [xsTail]))
  have skip : SkipFacts T e.platform s (fun u => u) u0 ((preparedCellV T.toThrowableT (freshCell P1.m.cls kX) a u0 sen).withEntry V.cur) :=
    xs_skip { ci198 := b1, i198 := b2, fBack := fB } ⟨b3, b4, b5, b6⟩ tyB tB (Cond.laysApart lB lC mB mC (by rw [nmB, ti.causeName]; decide)) (Cond.laysApart lB lS mB mS (by rw [nmB, ti.stackName]; decide)) (Cond.laysApart lB lP mB mP (by rw [nmB, ti.suppName]; decide))
  obtain ⟨tm, meC, cdC, kC, v1, q1, -, -, -, -, -, -, -, w1, s1⟩ := Steps.initColdS (tb := p.tables) (e := e) (below := below) (s := s) (U := V) X.here hexec X.warmed hpl hown (t := Bundle.initS cls) rfl rfl (Bundle.fit_spec hcls).2
    (tl (.methodLink own ic (Bundle.initS cls)) (by simp [xsTail])) (hC (.instanceMethod (Bundle.initS cls)) (by simp [Bundle.passSAtoms])) (bytes := rx) (maxL := 2) (hC (.code (Bundle.initS cls) rx 2 none) (by simp [Bundle.passSAtoms])) (f := g) hg (a := a) (msg := msg) (rest := .ref a :: rest) hstack hd6
  have em : tm = P1.m := Option.some.inj (q1.symm.trans n1)
  subst em
  have all : ∀ P, P ∈ P1 :: P2 :: Ps → P.LinksS e.platform s := fun P hp => by
    rcases List.mem_cons.mp hp with rfl | hp
    · exact L1
    · rcases List.mem_cons.mp hp with rfl | hp
      · exact L2
      · exact hL P hp
  obtain ⟨v2, X2, s2⟩ := (X.noted w1).ctorMessageOffV hexec (g := { g with stack := .ref a :: rest }) hg hsize T L Z LZ Mg LM (P1 :: P2 :: Ps) all ⟨hP, k2, kr⟩ (u0 := u0) (sen := sen) (self := a) hmsg (cell := freshCell P1.m.cls kX) (cellS := now)
    hcell (fun _ => by simp) (by simp) rfl rfl (xs_sel X fX ti.fill0 (by decide) (tl _ (by simp [xsTail]))) (xs_sel X fX ti.fill (by decide) (tl _ (by simp [xsTail]))) hn1 (fun q => absurd (Array.getElem?_eq_some_iff.mp ho).1 (by rw [q]; exact Nat.not_lt.mpr hnew)) hn2 (by rw [hn3]; exact hu0) (by rw [hn3]; exact hsen)
    (Takes.of_laid hkX ord tyC (by rw [ti.causeType]; rfl)) (Takes.of_laid hkX ord tyS (by rw [ti.stackType]; exact fits_refV_array _ u0)) (Takes.of_laid hkX ord tyP (by rw [ti.suppType]; exact fits_refV_object _ sen)) (Takes.of_laid hkX ord tyM (by rw [ti.msgType]; exact fits_refV_object _ ⟨msg, hmsg⟩)) ti.objLocals skip htr [] hd6
    (by simp only [List.length_cons, len]; omega) (by simp only [List.length_cons, len]; exact hRl)
  obtain ⟨o1, o2, o3, o4, o5⟩ := X2.athrowLeaves hexec (g := { g with stack := .ref a :: rest, pc := g.pc + 3 }) hg hlocked hentered hout (a := a) (rest := rest) rfl hd9
  have hlt : a < ((V.setVm v1).setVm v2).heap.size := (Array.getElem?_eq_some_iff.mp hcell).1
  have hU := heapAt_setCell_self (s := (V.setVm v1).setVm v2) (plainBareV T.toThrowableT (freshCell P1.m.cls kX) a u0 sen msg) hlt
  refine ⟨_, s1 _ (fun acts => ?_), o2, o3, o4, o5.weaken (fun z hz lt => ?_) (Nat.le_refl _) (Nat.le_refl _), _, hU, rfl, fX⟩
  · rw [doInvoke_state]
    exact s2 _ o1
  rcases List.mem_append.mp hz with q | q
  · exact q
  · have zb : z.base = a := by
      simp only [List.mem_cons, List.not_mem_nil, or_false] at q
      rcases q with rfl | rfl | rfl | rfl | rfl <;> rfl
    rw [zb] at lt
    exact absurd lt (Nat.not_lt.mpr hnew)
end XS
