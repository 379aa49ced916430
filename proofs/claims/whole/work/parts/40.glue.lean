def R_law : String := "KnobHallLaw"
def lw_P (b : Addr) (xs : List Int32) (args : Array Value) (s : State) : Prop := args = #[.ref b] ∧ s.IntsAt b xs ∧ xs.length ≤ 3072 ∧ (Jvm.Cond.and given_1 narrow_1).before args s = true
def lw_Q (_ : Array Value) (s : State) (o : Outcome) (t : State) : Prop := o = .returned (some (.int 1)) ∧ Framed s o t [] 1166 12426
def lw_Z (below : List Frame) (a : Array Value) (s : State) : State → Prop := fun t => ∃ o, t.status = .running ∧ Ended t below o ∧ lw_Q a s o t
theorem lw_ret {p : Program} {l : Launch} {e : Env} {s : State} {m : MethodId} {below : List Frame} {meth : Method} {c : Code} {b : Nat} (hx : p.tables.exec = Jvm.exec) (hb : c.code = code) (hr : meth.sig.returnType = ret) (hlocks : meth.locks = false) {pc : Nat} {H : Heap} {ls : Array Slot} (hdg : decode code pc = .ok (.ireturn, 1)) : W p l e room_1 s m #[Value.ref b] below meth c H [] 1166 12426 (lw_Z below #[Value.ref b] s) (F0 m pc ls [.int 1]) := by
  intro T hT X
  obtain ⟨fs, hret, hrun, hended, hW, hframe⟩ := X.leave (v := some (.int 1)) (hlocks := hlocks) (fun h => by rw [hr] at h; cases h)
  have hmeth' : T.vm.method? m = some meth := X.method'
  refine ⟨T.setFrames fs, ?_, .returned (some (.int 1)), hrun, hended, rfl, ⟨_, rfl⟩, hW, hframe⟩
  jvm_step X.here [X.here.top, hx, hb, hdg, hmeth', hr, ret, narrow_b1]
  (try refine ⟨rfl, ?_⟩); (try refine ⟨rfl, ?_⟩)
  first | (intro acts; rw [hret _ acts rfl rfl rfl]) | rw [hret _ _ rfl rfl rfl]
  exact Steps.refl _
def lw_At (p : Program) (s : State) (m : MethodId) (meth : Method) (c : Code) (b L : Nat) (xs : Nat → Int32) : Prop :=
  p.tables.exec = Jvm.exec ∧ c.code = code ∧ meth.sig.returnType = ret ∧ c.maxLocals = 7 ∧ s.vm.findClass R_law = some m.cls ∧ (∀ w ∈ lw_tbl, w.before #[Value.ref b] s = true) ∧ va_X b L xs s s.heap ∧ b < s.heap.size ∧ meth.locks = false ∧ (Jvm.Cond.and given_1 narrow_1).before #[Value.ref b] s = true ∧ meth.name = "law"
def m_law : MD := (yL_law, code, 7, some .boolean, room_1)
theorem wi_0 : Cond.instantiable RX0 18 ∈ TS := inT2 129 (by decide +kernel) (by decide +kernel)
theorem wi_1 : Cond.instantiable RX1 7 ∈ TS := inT1 127 (by decide +kernel) (by decide +kernel)
theorem wi_2 : Cond.instantiable RX2 15 ∈ TS := inT1 180 (by decide +kernel) (by decide +kernel)
theorem wi_3 : Cond.instantiable RX3 8 ∈ TS := inT2 23 (by decide +kernel) (by decide +kernel)
theorem wi_4 : Cond.instantiable RX4 7 ∈ TS := inT3 26 (by decide +kernel) (by decide +kernel)
theorem wi_5 : Cond.instantiable RX5 4 ∈ TS := inT3 56 (by decide +kernel) (by decide +kernel)
theorem wi_6 : Cond.instantiable RX6 6 ∈ TS := inT1 221 (by decide +kernel) (by decide +kernel)
theorem wi_7 : Cond.instantiable RX7 7 ∈ TS := inT1 34 (by decide +kernel) (by decide +kernel)
theorem wi_8 : Cond.instantiable RX8 5 ∈ TS := inT1 186 (by decide +kernel) (by decide +kernel)
theorem wi_9 : Cond.instantiable RX9 7 ∈ TS := inT1 40 (by decide +kernel) (by decide +kernel)
theorem wi_10 : Cond.instantiable RX10 11 ∈ TS := inT2 135 (by decide +kernel) (by decide +kernel)
theorem wi_11 : Cond.instantiable RX11 13 ∈ TS := inT1 26 (by decide +kernel) (by decide +kernel)
theorem wi_12 : Cond.instantiable RX12 93 ∈ TS := inT6 68 (by decide +kernel) (by decide +kernel)
theorem wa_50 : Cond.arrayClass .int ∈ TS := inT1 125 (by decide +kernel) (by decide +kernel)
theorem wa_51 : Cond.arrayClass .boolean ∈ TS := inT1 154 (by decide +kernel) (by decide +kernel)
theorem wa_52 : Cond.arrayClass .byte ∈ TS := inT1 124 (by decide +kernel) (by decide +kernel)
theorem wa_53 : Cond.arrayClass .long ∈ TS := inT2 56 (by decide +kernel) (by decide +kernel)
theorem arr_known {s : State} {ty : FieldType} (hp : ∀ C, ty ≠ .object C) (hg : GW s) (hw : Cond.arrayClass ty ∈ TS) : ∃ cA : ClassId, ArrOfT s cA ty ∧ va_RA s cA ty := by
  obtain ⟨cA, kA, comp, h1, h2, h3⟩ := Cond.arrayClass_spec (hg.use (args := #[]) hw)
  refine ⟨cA, fun n z => ⟨fun k h => (by cases h), kA, h2, comp, h3⟩, ?_⟩
  cases ty <;> first | exact h1 | exact absurd rfl (hp _)
theorem cls_known {s : State} {ci : Nat} {C : String} {T : u_T} {N : Nat} (hg : GW s) (hc : Cls ci C T N) (hw : Cond.instantiable C N ∈ TS) : ∃ (cC : ClassId) (iS : Nat → Nat), u_Kn s C T N cC iS :=
  u_known (ws := TS) (args := #[]) (fun w hw => hg.use hw) hc.2.2.1 (hg.use hw)
theorem env_known {s : State} (hg : GW s) : ∃ (D : va_G) (ca : Nat → ClassId), va_K D vwCl [(ca 50, .int), (ca 51, .boolean), (ca 52, .byte), (ca 53, .long)] s := by
  obtain ⟨c0, i0, k0⟩ := cls_known hg cls0 wi_0
  obtain ⟨c1, i1, k1⟩ := cls_known hg cls1 wi_1
  obtain ⟨c2, i2, k2⟩ := cls_known hg cls2 wi_2
  obtain ⟨c3, i3, k3⟩ := cls_known hg cls3 wi_3
  obtain ⟨c4, i4, k4⟩ := cls_known hg cls4 wi_4
  obtain ⟨c5, i5, k5⟩ := cls_known hg cls5 wi_5
  obtain ⟨c6, i6, k6⟩ := cls_known hg cls6 wi_6
  obtain ⟨c7, i7, k7⟩ := cls_known hg cls7 wi_7
  obtain ⟨c8, i8, k8⟩ := cls_known hg cls8 wi_8
  obtain ⟨c9, i9, k9⟩ := cls_known hg cls9 wi_9
  obtain ⟨c10, i10, k10⟩ := cls_known hg cls10 wi_10
  obtain ⟨c11, i11, k11⟩ := cls_known hg cls11 wi_11
  obtain ⟨c12, i12, k12⟩ := cls_known hg cls12 wi_12
  obtain ⟨a50, A50⟩ := arr_known (ty := .int) (fun _ h => by cases h) hg wa_50
  obtain ⟨a51, A51⟩ := arr_known (ty := .boolean) (fun _ h => by cases h) hg wa_51
  obtain ⟨a52, A52⟩ := arr_known (ty := .byte) (fun _ h => by cases h) hg wa_52
  obtain ⟨a53, A53⟩ := arr_known (ty := .long) (fun _ h => by cases h) hg wa_53
  refine ⟨(fun k => match k with
    | 0 => c0
    | 1 => c1
    | 2 => c2
    | 3 => c3
    | 4 => c4
    | 5 => c5
    | 6 => c6
    | 7 => c7
    | 8 => c8
    | 9 => c9
    | 10 => c10
    | 11 => c11
    | _ => c12, fun k => match k with
    | 0 => i0
    | 1 => i1
    | 2 => i2
    | 3 => i3
    | 4 => i4
    | 5 => i5
    | 6 => i6
    | 7 => i7
    | 8 => i8
    | 9 => i9
    | 10 => i10
    | 11 => i11
    | _ => i12), fun k => match k with
    | 50 => a50
    | 51 => a51
    | 52 => a52
    | _ => a53, ?_, ?_⟩
  · intro c q hq
    match c, hq with
    | 0, hq => cases hq; exact k0
    | 1, hq => cases hq; exact k1
    | 2, hq => cases hq; exact k2
    | 3, hq => cases hq; exact k3
    | 4, hq => cases hq; exact k4
    | 5, hq => cases hq; exact k5
    | 6, hq => cases hq; exact k6
    | 7, hq => cases hq; exact k7
    | 8, hq => cases hq; exact k8
    | 9, hq => cases hq; exact k9
    | 10, hq => cases hq; exact k10
    | 11, hq => cases hq; exact k11
    | 12, hq => cases hq; exact k12
    | c + 13, hq => simp [vwCl] at hq
  · intro c q hq
    match c, hq with
    | 0, hq => cases hq; exact A50
    | 1, hq => cases hq; exact A51
    | 2, hq => cases hq; exact A52
    | 3, hq => cases hq; exact A53
    | c + 4, hq => simp at hq
theorem law_end {E : EE} {K : Option CV → CW → Prop} {below : List Frame} {args : Array Value} {s t : State} (hb : E.2.1 = s.heap.size) (hK : ∀ r w, K r w → r = some (iV 1)) (h : MQ below (QQ E K) args s 1166 12426 (fun q => E.2.1 ≤ q) t) : lw_Z below args s t := by
  obtain ⟨o, h1, h2, ⟨⟨r, w', e1, e2, -, -⟩, -⟩, L, ⟨f1, f2, f3⟩, hL⟩ := h
  have hr := hK r w' e2
  subst hr
  refine ⟨o, h1, h2, e1.trans (by show Outcome.returned (some (Value.int (Int32.ofInt 1))) = _; rfl), f1, f2, f3.weaken (fun x hx hlt => ?_) (Nat.le_refl _) (Nat.le_refl _)⟩
  have := hL x hx
  rw [hb] at this
  exact absurd hlt (Nat.not_lt.mpr this)
/-- what is owed of the law's own walk, and of the two systems -/
def LawGG : Prop := ∀ E : EE, E.1.stackTraces = false → E.2.2.2.2.2.1 ≤ 3072 → GG E m_law 1166 12426 (fun r _ => r = some (iV 1)) 0 [some sV, none, none, none, none, none, none] [] ([], true, fun _ _ => none, fun _ _ => 0) 0 0
theorem start_open (hgg : LawGG) {p : Program} {e : Env} {s : State} {m : MethodId} {below : List Frame} {meth : Method} {c : Code} (l : Launch) (hst : l.stackTraces = false) {b L : Nat} {xs : Nat → Int32} (hL : L ≤ 3072) (C0 : lw_At p s m meth c b L xs) : W p l e room_1 s m #[Value.ref b] below meth c s.heap [] 0 0 (lw_Z below #[Value.ref b] s) (entryFrame m ([Value.ref b] : List Value).toArray 7) := by
  obtain ⟨hx, hcb, hr, hml, hown, hts, hX, hbl, hlocks, hgv, hnm⟩ := C0
  have hg : GW s := fun w hw => okW_warm (List.mem_filter.mp hw).2 (State.WarmedH.refl s) (hts w (List.mem_filter.mp hw).1)
  obtain ⟨D, ca, hK⟩ := env_known hg
  have gg := hgg (l, s.heap.size, D, ca, b, L, xs) hst hL
  rw [lg_entry_eq]
  have hl := lv_entry ([Value.ref b]) (n := 7) (Nat.le_of_ble_eq_true rfl)
  have hw := gg p e s m #[Value.ref b] below meth c s.heap [] _ ⟨hx, hcb, hr, hml, hown, hlocks, hnm⟩ ⟨⟨hg, hK⟩, hX, ⟨hbl, s, rfl, hgv, hts, State.WarmedH.refl s, fun _ _ => rfl⟩, fun k q h => by simp [wl] at h, fun a q h => by simp at h, fun _ => rfl, Nat.le_refl _⟩ va_S.rf (Nat.le_refl _) (LH.mk hl.1 hl.2.1 fun i v hi => ?_) (fun v hv => ?_) (fun v hv => by cases hv)
  · exact fun T hT X => by
      obtain ⟨t, a1, b1⟩ := hw T hT X
      exact ⟨t, a1, law_end rfl (fun _ _ h => h) b1⟩
  · match i, hi with
    | 0, hi => cases hi; exact hl.2.2 (0, Value.ref b) List.mem_cons_self
    | 1, hi => cases hi
    | 2, hi => cases hi
    | 3, hi => cases hi
    | 4, hi => cases hi
    | 5, hi => cases hi
    | 6, hi => cases hi
    | j + 7, hi => simp at hi
  · simp at hv
    subst hv
    trivial
