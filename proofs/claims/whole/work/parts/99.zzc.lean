section XC
theorem xc_row {Q : Handler → Pre} {E : CtlPost} {e : Env} {d : Bool} {acts : List Action} {s : State} {f : JFrame} {a : Addr} {x : ExceptionTableEntry} {t : List ExceptionTableEntry} {k : ClassId} {cell : Cell} (hx : covers x f.pc = true) (h0 : x.catchType ≠ 0)
    (hl : s.vm.ClassLinks e.platform f.method.cls x.catchType k) (hcell : s.heap[a]? = some cell) (hobj : cell.vm.isStatics = false) (hk : ∃ z, s.vm.classes[cell.cls]? = some z) (hc : ∃ z, s.vm.classes[k]? = some z) :
    wp (findHandler.go f a (x :: t)) Q E e d acts s ↔ (if s.vm.assignable cell.cls k = true then Q (.found x.handlerPc) d acts (s.setVm (s.vm.noted f.method.cls x.catchType (.cls k))) else wp (findHandler.go f a t) Q E e d acts (s.setVm (s.vm.noted f.method.cls x.catchType (.cls k)))) := by
  have nst := VmData.ne_statics_of hobj
  have al : s.vm.Alike (s.vm.noted f.method.cls x.catchType (.cls k)) := (Vm.Alike.refl s.vm).noted _ _ _
  obtain ⟨z1, hz1⟩ := hk
  obtain ⟨z2, hz2⟩ := hc
  obtain ⟨y1, hy1, -⟩ := al.2.2 _ _ hz1
  obtain ⟨y2, hy2, -⟩ := al.2.2 _ _ hz2
  obtain ⟨g1, g2⟩ := (resolveClass_links e.toSetting hl).op (op := VmOp.resolveClass f.method.cls x.catchType) rfl
  have ea : (s.vm.noted f.method.cls x.catchType (.cls k)).assignable cell.cls k = s.vm.assignable cell.cls k := by rw [al.assignable]
  simp only [covers] at hx
  cases hq : s.vm.assignable cell.cls k <;> rw [hq] at ea <;> simp [findHandler.go, hx, h0, g1, g2, hcell, nst, hy1, hy2, ea, VmOp.dirties, VmOp.acts]
/-- what a row of the table does with the object -/
def xcNo (e : Env) (s0 : State) (d : ClassId) (pc : Nat) (cl : ClassId) (z : ExceptionTableEntry) : Prop := covers z pc = false ∨ (z.catchType ≠ 0 ∧ ∃ k, s0.vm.ClassLinks e.platform d z.catchType k ∧ s0.vm.assignable cl k = false)
def xcGoes (e : Env) (s0 S : State) (f : JFrame) (a : Addr) (rows : List ExceptionTableEntry) (hp : Nat) : Prop := ∃ vm', s0.WarmedH vm' ∧ ∀ (Q : Handler → Pre) (E : CtlPost) (d : Bool) (acts : List Action), wp (findHandler.go f a rows) Q E e d acts S ↔ Q (.found hp) d acts (S.setVm vm')
theorem xc_warm {e : Env} {s0 S : State} {d : ClassId} {idx : Nat} {k : ClassId} (hW : s0.WarmedH S.vm) (hl : s0.vm.ClassLinks e.platform d idx k) : s0.WarmedH (S.vm.noted d idx (.cls k)) ∧ S.vm.ClassLinks e.platform d idx k ∧ ∃ z, S.vm.classes[k]? = some z := by
  obtain ⟨dk, _, _, kt, hd, _, _, _, _, hkt, _, hopen⟩ := hl.here
  obtain ⟨kt', hkt', -⟩ := hW.alike.2.2 _ _ hkt
  exact ⟨hW.noted hd hopen (State.rightAt_cls hl), hW.classLinks hl, kt', hkt'⟩
theorem xc_rows {e : Env} {s0 : State} {f : JFrame} {a : Addr} {cell : Cell} (hobj : cell.vm.isStatics = false) {k0 : Class} (hk0 : s0.vm.classes[cell.cls]? = some k0) {x : ExceptionTableEntry} {suf : List ExceptionTableEntry} (hx : covers x f.pc = true) (h0 : x.catchType ≠ 0) {k : ClassId} (hl : s0.vm.ClassLinks e.platform f.method.cls x.catchType k) (hf : s0.vm.assignable cell.cls k = true) :
    ∀ (pre : List ExceptionTableEntry) (S : State), (∀ z ∈ pre, xcNo e s0 f.method.cls f.pc cell.cls z) → s0.WarmedH S.vm → S.heap[a]? = some cell → xcGoes e s0 S f a (pre ++ x :: suf) x.handlerPc
  | [], S, _, hW, hc => by
    obtain ⟨w1, w2, w3⟩ := xc_warm hW hl
    obtain ⟨y1, hy1, -⟩ := hW.alike.2.2 _ _ hk0
    refine ⟨_, w1, fun Q E d acts => (xc_row hx h0 w2 hc hobj ⟨y1, hy1⟩ w3).trans ?_⟩
    rw [if_pos (by rw [hW.alike.assignable]; exact hf)]
  | z :: pre, S, hp, hW, hc => by
    have hp' : ∀ z ∈ pre, xcNo e s0 f.method.cls f.pc cell.cls z := fun y hy => hp y (List.mem_cons_of_mem _ hy)
    cases hcov : covers z f.pc with
    | false =>
      obtain ⟨vm', a1, a2⟩ := xc_rows hobj hk0 hx h0 hl hf pre S hp' hW hc
      exact ⟨vm', a1, fun Q E d acts => (W.findHandler_go_skip hcov).trans (a2 Q E d acts)⟩
    | true =>
      rcases hp z List.mem_cons_self with h | ⟨z0, kz, zl, zn⟩
      · rw [hcov] at h; cases h
      · obtain ⟨w1, w2, w3⟩ := xc_warm hW zl
        obtain ⟨y1, hy1, -⟩ := hW.alike.2.2 _ _ hk0
        obtain ⟨vm', a1, a2⟩ := xc_rows hobj hk0 hx h0 hl hf pre (S.setVm (S.vm.noted f.method.cls z.catchType (.cls kz))) hp' w1 hc
        refine ⟨vm', a1, fun Q E d acts => ((xc_row hcov z0 w2 hc hobj ⟨y1, hy1⟩ w3).trans ?_).trans (a2 Q E d acts)⟩
        rw [if_neg (by rw [hW.alike.assignable, zn]; exact Bool.false_ne_true)]
        exact Iff.rfl
variable {p : Program} {l : Launch} {e : Env} {R : Room} {s : State} {m : MethodId} {args : Array Value} {below : List Frame} {meth : Method} {c : Code} {T : State} {locs : List Loc} {cells slots : Nat}
/-- thrown over g, caught in g's own method -/
theorem xc_caught (X : Stand p l e R s m args below meth c T locs cells slots) (a : Addr) {g : JFrame} (hg : g.method = m) {cell : Cell} (hcell : T.heap[a]? = some cell) (hobj : cell.vm.isStatics = false) {k0 : Class} (hk0 : s.vm.classes[cell.cls]? = some k0) (pre : List ExceptionTableEntry) (x : ExceptionTableEntry) (suf : List ExceptionTableEntry) (hsplit : c.exceptionTable.toList = pre ++ x :: suf) (hpass : ∀ z ∈ pre, xcNo e s m.cls g.pc cell.cls z) (hx : covers x g.pc = true) (h0 : x.catchType ≠ 0) {k : ClassId} (hl : s.vm.ClassLinks e.platform m.cls x.catchType k) (hf : s.vm.assignable cell.cls k = true) :
    ∃ vm', Stand p l e R s m args below meth c (T.setVm vm') locs cells slots ∧ ∀ t, Steps p.tables e below ((T.setVm vm').setTop { g with pc := x.handlerPc, stack := [.ref a] }) t → Steps p.tables e below ((T.setTop g).pushFrame (.throwing a)) t := by
  subst hg
  obtain ⟨vm', w1, w2⟩ := xc_rows (e := e) (f := g) (a := a) hobj hk0 (suf := suf) hx h0 hl hf pre ((T.setTop g).pushFrame (.throwing a)) hpass X.warmed hcell
  refine ⟨vm', X.noted w1, fun t ht => ?_⟩
  have fi : ∀ (Q : Handler → Pre) (E : CtlPost) (d : Bool) (acts : List Action), wp (findHandler g a) Q E e d acts ((T.setTop g).pushFrame (.throwing a)) ↔ Q (.found x.handlerPc) d acts (((T.setTop g).pushFrame (.throwing a)).setVm vm') := fun Q E d acts => by
    refine (W.findHandler_eq (s := (T.setTop g).pushFrame (.throwing a)) (meth := meth) (code := c) X.method' X.code).trans ?_
    rw [hsplit]
    exact w2 Q E d acts
  have st : (stepThrowing e ((T.setTop g).pushFrame (.throwing a)) a (.java g :: T.frames.tail)).Is ((((T.setTop g).pushFrame (.throwing a)).setVm vm').setFrames (.java { g with pc := x.handlerPc, stack := [.ref a] } :: T.frames.tail)) [] := by
    simp only [stepThrowing, searchFrame, vmDo]
    generalize hr : Sem.go _ e false [] ((T.setTop g).pushFrame (.throwing a)) = res
    obtain ⟨as, rfl, ha⟩ := Sem.eq_ok_of hr (a := Handler.found x.handlerPc) (s' := ((T.setTop g).pushFrame (.throwing a)).setVm vm') (acts' := []) (by simp [fi _ _ _ _])
    exact ⟨rfl, ha⟩
  obtain ⟨go1, go2⟩ := X.here.throwing a
  refine Steps.head go1 go2 ?_
  rw [stepThread_throwing (frames_entered X.here.top _), st.1]
  obtain ⟨g0, hg0⟩ := Option.isSome_iff_exists.mp X.here.top
  obtain ⟨r, hr⟩ := State.topJava?_eq_some.mp hg0
  have hr2 : (T.setVm vm').frames = .java g0 :: r := hr
  have e1 : (((T.setTop g).pushFrame (.throwing a)).setVm vm').setFrames (.java { g with pc := x.handlerPc, stack := [.ref a] } :: T.frames.tail) = (T.setVm vm').setTop { g with pc := x.handlerPc, stack := [.ref a] } := by
    rw [State.setTop_of_frames _ hr2, State.setTop_of_frames _ hr, hr]
    show (((T.setVm vm').setFrames _).setFrames _).setFrames _ = _
    rw [State.setFrames_setFrames, State.setFrames_setFrames]
    rfl
  rw [e1]
  exact ht
end XC
