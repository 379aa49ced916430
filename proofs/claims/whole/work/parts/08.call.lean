section CALL
variable {E : EE} {md md' : MD} {mc ms : Nat} {pc : Nat} {L : List (Option CV)} {S : List CV} {w : CW} {k n : Nat} {X Y : Type} {t : (Option CV → CW → Prop) → X → Prop} {sh : List (Nat × Nat)} {ex : Bool} {R : RM} {M : MM}
def catS (S : List CV) : Nat := match S with
  | [] => 0
  | .inr (.inl _) :: r => 2 + catS r
  | _ :: r => 1 + catS r
theorem catS_eq (E : EE) : ∀ S : List CV, (((S.map (cv E)).map fun v => v.category)).sum = catS S
  | [] => rfl
  | .inl x :: r => by rw [List.map_cons, List.map_cons, List.sum_cons, catS_eq E r]; rfl
  | .inr (.inl x) :: r => by rw [List.map_cons, List.map_cons, List.sum_cons, catS_eq E r]; rfl
  | .inr (.inr (.inl x)) :: r => by rw [List.map_cons, List.map_cons, List.sum_cons, catS_eq E r]; rfl
  | .inr (.inr (.inr x)) :: r => by rw [List.map_cons, List.map_cons, List.sum_cons, catS_eq E r]; rfl
theorem run_fin {p : Program} {e : Env} {Rm : Room} {s : State} {m : MethodId} {args : Array Value} {below : List Frame} {meth : Method} {c : Code} {H : Heap} {locs : List Loc} {ls : Array Slot} {st0 : List Value} {Q : State → Prop} {mc' ms' : Nat} {a' : Array Value} {rest : List CV} {Kc : Option CV → CW → Prop}
    (hr : va_Run p E.1 e Rm s m args below meth c H locs k n mc' ms' (F0 m pc ls st0) (rest.map (cv E)) (QQ E Kc a') (fun q => E.2.1 ≤ q)) (rc : RepC E s w H) (hS : va_S (fun q => E.2.1 ≤ q) s.heap H locs) 
    (kk : ∀ r w' H1 locs1, Kc r w' → (∀ v, r = some v → okv v) → RepC E s w' H1 → va_S (fun q => E.2.1 ≤ q) s.heap H1 locs1 → W p E.1 e Rm s m args below meth c H1 locs1 (k + mc') (n + ms') Q (F0 m (pc + 3) ls ((r.toList ++ rest).map (cv E)))) :
    W p E.1 e Rm s m args below meth c H locs k n Q (F0 m pc ls st0) := by
  intro T hT X9
  obtain ⟨v, st₀, t1, T', L', h0, X', hL', e1, e2, ⟨⟨r, w', hv, hK, hok, hrep⟩, hF⟩, st⟩ := hr T hT X9
  have hv2 : v = r.map (cv E) := by injection hv
  subst hv2
  have hsz : H.size ≤ t1.heap.size := by rw [← h0]; exact hF.1
  have hkeep : ∀ q : Nat, q < H.size → ¬ E.2.1 ≤ q → t1.heap[q]? = H[q]? := fun q h1 h2 => by rw [← h0]; exact hF.2 q (by rw [h0]; exact h1) h2
  have hbase : E.2.1 ≤ H.size := rc.2.2.2.2.2.2
  obtain ⟨r1, ⟨scr, x1, x2⟩, ⟨r3, nr⟩, -⟩ := rc
  obtain ⟨-, -, -, p4, p5, p6, p7⟩ := hrep
  have hRC : RepC E s w' t1.heap := ⟨r1, ⟨scr, by rw [hkeep _ (by omega) (by omega)]; exact x1, x2⟩, ⟨r3, nr.kept (fun a ha => hkeep a (by omega) (by omega))⟩, p4, p5, p6, p7⟩
  have hS' : va_S (fun q => E.2.1 ≤ q) s.heap t1.heap (locs ++ L') := by
    refine ⟨Nat.le_trans hS.1 hsz, fun q h1 h2 => ?_, fun q hq => ?_⟩
    · rw [hkeep q (Nat.lt_of_lt_of_le h1 hS.1) h2]
      exact hS.2.1 q h1 h2
    · rcases List.mem_append.mp hq with h | h
      · exact hS.2.2 q h
      · exact hL' q h
  have hw := kk r w' t1.heap (locs ++ L') hK hok hRC hS'
  obtain ⟨t2, a1, b1⟩ := hw T' e1 X'
  refine ⟨t2, st t2 ?_, b1⟩
  have es : (r.toList ++ rest).map (cv E) = (r.map (cv E)).toList ++ rest.map (cv E) := by cases r <;> rfl
  rw [es] at a1
  exact a1
/-- what is known of a method that is called -/
def MdC (md : MD) (na : Nat) : Prop := Cond.code md.1 md.2.1 md.2.2.1 md.2.2.2.1 ∈ TS ∧ Cond.initialized md.1.cls ∈ TS ∧ (md.1.cls ≠ "java/lang/invoke/MethodHandle" ∧ md.1.cls ≠ "java/lang/invoke/VarHandle") ∧ (parseMethodDescriptor md.1.desc).map (fun d => d.parameters.length) = some na
def MdV (md : MD) (na : Nat) : Prop := MdC md na ∧ Cond.instanceMethod md.1 ∈ TS ∧ Cond.selects md.1.cls md.1 md.1 ∈ TS
def MdS (md : MD) (na : Nat) : Prop := MdC md na ∧ Cond.static md.1 ∈ TS
def MdI (md : MD) (na : Nat) : Prop := MdC md na ∧ md.1.name = "<init>" ∧ Cond.instanceMethod md.1 ∈ TS
/-- the room of a call -/
def Rm (md md' : MD) (mc ms mc' ms' k n : Nat) : Prop := md'.2.2.2.2.cells = mc' ∧ md'.2.2.2.2.slots = ms' ∧ md'.2.2.2.2.frames + 1 ≤ md.2.2.2.2.frames ∧ 8 + (md'.2.2.1 + 11) + md'.2.2.2.2.locals ≤ md.2.2.2.2.locals ∧ k + mc' ≤ md.2.2.2.2.cells ∧ n + ms' ≤ md.2.2.2.2.slots
theorem callB {s : State} {args : Array Value} {w : CW} {H : Heap} {idx na mc' ms' : Nat} (rc : RepC E s w H) (hm : MdC md' na) (hl : Cond.methodLink md.1.cls idx md'.1 ∈ TS) (hr : Rm md md' mc ms mc' ms' k n) : CallB md.2.2.2.2 s args md.1.cls idx md'.1 md'.2.1 md'.2.2.1 md'.2.2.2.1 [.code md'.1 md'.2.1 md'.2.2.1 md'.2.2.2.1] md'.2.2.2.2 mc' ms' na := by
  obtain ⟨m1, m2, m3, m4⟩ := hm
  refine ⟨hr.1, hr.2.1, hr.2.2.1, hr.2.2.2.1, fun x hx a' U hW => ?_, List.mem_cons_self, rc.1.1.use m1, rc.1.1.use m2, m3, fun sig h => ?_, rc.1.1.use hl⟩
  · rw [List.mem_singleton.mp hx]
    exact (rc.1.1.warm hW).use m1
  · rw [h] at m4
    exact (Option.some.inj m4).symm
theorem callN {s : State} {args : Array Value} {w : CW} {H : Heap} {idx na mc' ms' : Nat} {host : String} (rc : RepC E s w H) (hm : MdC md' na) (hl : Cond.methodLinkNest md.1.cls idx md'.1 host ∈ TS) (hr : Rm md md' mc ms mc' ms' k n) : va_CN md.2.2.2.2 s args md.1.cls idx md'.1 host md'.2.1 md'.2.2.1 md'.2.2.2.1 [.code md'.1 md'.2.1 md'.2.2.1 md'.2.2.2.1] md'.2.2.2.2 mc' ms' na := by
  obtain ⟨m1, m2, m3, m4⟩ := hm
  refine ⟨⟨hr.1, hr.2.1, hr.2.2.1, hr.2.2.2.1, fun x hx a' U hW => ?_, List.mem_cons_self⟩, rc.1.1.use m1, rc.1.1.use m2, m3, fun sig h => ?_, rc.1.1.use hl⟩
  · rw [List.mem_singleton.mp hx]
    exact (rc.1.1.warm hW).use m1
  · rw [h] at m4
    exact (Option.some.inj m4).symm
theorem Pblind {args : List CV} : FrameBlind (fun v U => v = (args.map (cv E)).toArray ∧ okS args ∧ RepS E w U ∧ E.2.1 ≤ U.heap.size) := by
  intro a U g mk h
  obtain ⟨h1, h2, h3, h4⟩ := h
  exact ⟨h1, h2, RepC.enter (U := U.calling g mk a) h3 rfl (State.WarmedH.refl U), h4⟩
theorem S_callV0 {b : Nat} {idx mc' ms' : Nat} {o1 : Option Y} {kk : Y → Option X} (fr : Y → Option CV) (fw : Y → CW) {ci N : Nat} {T : u_T} (hsh : w.1[b]? = some (ci, N)) (hcl : ci < 50 ∧ vwCl[ci]? = some (md'.1.cls, T, N)) (hmd : MdV md' 0) (hlink : Cond.methodLink md.1.cls idx md'.1 ∈ TS) (hroom : Rm md md' mc ms mc' ms' k n) (hcat : catS S ≤ 8) (hd : decode md.2.1 pc = .ok (.invokevirtual idx, 3))
    (hM : ∀ x, o1 = some x → MetC E md' mc' ms' [rV b] w (fun r w' => r = fr x ∧ w' = fw x))
    (hk : ∀ x, Seg E md mc ms (kk x) t (pc + 3) L ((fr x).toList ++ S) (fw x) (k + mc') (n + ms')) : Seg E md mc ms (o1.bind kk) t pc L (rV b :: S) w k n := by
  intro K y hy ht p e s m args below meth c H locs ls cx rc hS hb hl ol os
  obtain ⟨x, hx, hz⟩ := Option.bind_eq_some_iff.mp hy
  have hoA : okS [rV b] := fun u hu => os u (by simp only [List.mem_cons, List.mem_append, List.not_mem_nil, or_false] at hu ⊢; rcases hu with rfl <;> simp)
  have oR : okS S := os.t
  have hst : 2 * (F0 m pc ls ((rV b :: S).map (cv E))).monitorRoom + ((S.map (cv E)).map fun v => v.category).sum ≤ 8 := by
    rw [catS_eq]
    show 2 * 0 + catS S ≤ 8
    omega
  have hrecv : ∃ cellB : Cell, H[E.2.1 + b]? = some cellB ∧ cellB.vm.isStatics = false ∧ s.vm.findClass md'.1.cls = some cellB.cls := by
    refine va_recv (q0 := b) rc.1.2 rc.2.2.2.1 hcl.2 (fs := (List.range N).map (fun j => fv E (tyF ci j) (w.2.2.1 b j) (w.2.2.2 b j))) ?_
    rw [wl_at E w hsh, cellO hcl.1]
  have run := va_runV (As := []) (rest := S.map (cv E)) (b := E.2.1 + b) (n := 0) (nL := md.2.2.1) (cc := md.2.1) (own := md.1.cls) (Ts := []) (g := F0 m pc ls ((rV b :: S).map (cv E))) (H := H) (locs := locs) (e := e) (below := below) (meth := meth) (cells := k) (slots := n) (C := md'.1.cls) ⟨cx.1, cx.2.1, cx.2.2.2.1, cx.2.2.2.2.1, fun _ h => by cases h⟩ (hM x hx) ⟨callB (mc := mc) (ms := ms) (k := k) (n := n) (args := args) rc hmd.1 hlink hroom, rc.1.1.use hmd.2.1, rc.1.1.use hmd.2.2⟩ ⟨Pblind, hrecv, fun U hU hW => ⟨rfl, hoA, rc.enter hU hW, by rw [hU]; exact rc.2.2.2.2.2.2⟩⟩ rfl rfl hl.1 rfl hst hd ⟨hroom.2.2.2.2.1, hroom.2.2.2.2.2⟩
  refine run_fin run rc hS ?_
  rintro r w' H1 locs1 ⟨hr1, hr2⟩ hok rc' hS'
  rw [hr1, hr2] at *
  exact hk x K y hz ht p e s m args below meth c H1 locs1 ls cx (hr2 ▸ rc') hS' hb hl ol (fun u hu => (List.mem_append.mp hu).elim (fun h => hok u (by rw [hr1] at *; simpa [Option.mem_toList] using h)) (oR u))
theorem S_callV1 {b : Nat} {a0 : CV} {idx mc' ms' : Nat} {o1 : Option Y} {kk : Y → Option X} (fr : Y → Option CV) (fw : Y → CW) {ci N : Nat} {T : u_T} (hsh : w.1[b]? = some (ci, N)) (hcl : ci < 50 ∧ vwCl[ci]? = some (md'.1.cls, T, N)) (hmd : MdV md' 1) (hlink : Cond.methodLink md.1.cls idx md'.1 ∈ TS) (hroom : Rm md md' mc ms mc' ms' k n) (hcat : catS S ≤ 8) (hd : decode md.2.1 pc = .ok (.invokevirtual idx, 3))
    (hM : ∀ x, o1 = some x → MetC E md' mc' ms' [rV b, a0] w (fun r w' => r = fr x ∧ w' = fw x))
    (hk : ∀ x, Seg E md mc ms (kk x) t (pc + 3) L ((fr x).toList ++ S) (fw x) (k + mc') (n + ms')) : Seg E md mc ms (o1.bind kk) t pc L (a0 :: rV b :: S) w k n := by
  intro K y hy ht p e s m args below meth c H locs ls cx rc hS hb hl ol os
  obtain ⟨x, hx, hz⟩ := Option.bind_eq_some_iff.mp hy
  have hoA : okS [rV b, a0] := fun u hu => os u (by simp only [List.mem_cons, List.mem_append, List.not_mem_nil, or_false] at hu ⊢; rcases hu with rfl | rfl <;> simp)
  have oR : okS S := os.t.t
  have hst : 2 * (F0 m pc ls ((a0 :: rV b :: S).map (cv E))).monitorRoom + ((S.map (cv E)).map fun v => v.category).sum ≤ 8 := by
    rw [catS_eq]
    show 2 * 0 + catS S ≤ 8
    omega
  have hrecv : ∃ cellB : Cell, H[E.2.1 + b]? = some cellB ∧ cellB.vm.isStatics = false ∧ s.vm.findClass md'.1.cls = some cellB.cls := by
    refine va_recv (q0 := b) rc.1.2 rc.2.2.2.1 hcl.2 (fs := (List.range N).map (fun j => fv E (tyF ci j) (w.2.2.1 b j) (w.2.2.2 b j))) ?_
    rw [wl_at E w hsh, cellO hcl.1]
  have run := va_runV (As := [cv E a0]) (rest := S.map (cv E)) (b := E.2.1 + b) (n := 1) (nL := md.2.2.1) (cc := md.2.1) (own := md.1.cls) (Ts := []) (g := F0 m pc ls ((a0 :: rV b :: S).map (cv E))) (H := H) (locs := locs) (e := e) (below := below) (meth := meth) (cells := k) (slots := n) (C := md'.1.cls) ⟨cx.1, cx.2.1, cx.2.2.2.1, cx.2.2.2.2.1, fun _ h => by cases h⟩ (hM x hx) ⟨callB (mc := mc) (ms := ms) (k := k) (n := n) (args := args) rc hmd.1 hlink hroom, rc.1.1.use hmd.2.1, rc.1.1.use hmd.2.2⟩ ⟨Pblind, hrecv, fun U hU hW => ⟨rfl, hoA, rc.enter hU hW, by rw [hU]; exact rc.2.2.2.2.2.2⟩⟩ rfl rfl hl.1 rfl hst hd ⟨hroom.2.2.2.2.1, hroom.2.2.2.2.2⟩
  refine run_fin run rc hS ?_
  rintro r w' H1 locs1 ⟨hr1, hr2⟩ hok rc' hS'
  rw [hr1, hr2] at *
  exact hk x K y hz ht p e s m args below meth c H1 locs1 ls cx (hr2 ▸ rc') hS' hb hl ol (fun u hu => (List.mem_append.mp hu).elim (fun h => hok u (by rw [hr1] at *; simpa [Option.mem_toList] using h)) (oR u))
theorem S_callV2 {b : Nat} {a0 a1 : CV} {idx mc' ms' : Nat} {o1 : Option Y} {kk : Y → Option X} (fr : Y → Option CV) (fw : Y → CW) {ci N : Nat} {T : u_T} (hsh : w.1[b]? = some (ci, N)) (hcl : ci < 50 ∧ vwCl[ci]? = some (md'.1.cls, T, N)) (hmd : MdV md' 2) (hlink : Cond.methodLink md.1.cls idx md'.1 ∈ TS) (hroom : Rm md md' mc ms mc' ms' k n) (hcat : catS S ≤ 8) (hd : decode md.2.1 pc = .ok (.invokevirtual idx, 3))
    (hM : ∀ x, o1 = some x → MetC E md' mc' ms' [rV b, a0, a1] w (fun r w' => r = fr x ∧ w' = fw x))
    (hk : ∀ x, Seg E md mc ms (kk x) t (pc + 3) L ((fr x).toList ++ S) (fw x) (k + mc') (n + ms')) : Seg E md mc ms (o1.bind kk) t pc L (a1 :: a0 :: rV b :: S) w k n := by
  intro K y hy ht p e s m args below meth c H locs ls cx rc hS hb hl ol os
  obtain ⟨x, hx, hz⟩ := Option.bind_eq_some_iff.mp hy
  have hoA : okS [rV b, a0, a1] := fun u hu => os u (by simp only [List.mem_cons, List.mem_append, List.not_mem_nil, or_false] at hu ⊢; rcases hu with rfl | rfl | rfl <;> simp)
  have oR : okS S := os.t.t.t
  have hst : 2 * (F0 m pc ls ((a1 :: a0 :: rV b :: S).map (cv E))).monitorRoom + ((S.map (cv E)).map fun v => v.category).sum ≤ 8 := by
    rw [catS_eq]
    show 2 * 0 + catS S ≤ 8
    omega
  have hrecv : ∃ cellB : Cell, H[E.2.1 + b]? = some cellB ∧ cellB.vm.isStatics = false ∧ s.vm.findClass md'.1.cls = some cellB.cls := by
    refine va_recv (q0 := b) rc.1.2 rc.2.2.2.1 hcl.2 (fs := (List.range N).map (fun j => fv E (tyF ci j) (w.2.2.1 b j) (w.2.2.2 b j))) ?_
    rw [wl_at E w hsh, cellO hcl.1]
  have run := va_runV (As := [cv E a0, cv E a1]) (rest := S.map (cv E)) (b := E.2.1 + b) (n := 2) (nL := md.2.2.1) (cc := md.2.1) (own := md.1.cls) (Ts := []) (g := F0 m pc ls ((a1 :: a0 :: rV b :: S).map (cv E))) (H := H) (locs := locs) (e := e) (below := below) (meth := meth) (cells := k) (slots := n) (C := md'.1.cls) ⟨cx.1, cx.2.1, cx.2.2.2.1, cx.2.2.2.2.1, fun _ h => by cases h⟩ (hM x hx) ⟨callB (mc := mc) (ms := ms) (k := k) (n := n) (args := args) rc hmd.1 hlink hroom, rc.1.1.use hmd.2.1, rc.1.1.use hmd.2.2⟩ ⟨Pblind, hrecv, fun U hU hW => ⟨rfl, hoA, rc.enter hU hW, by rw [hU]; exact rc.2.2.2.2.2.2⟩⟩ rfl rfl hl.1 rfl hst hd ⟨hroom.2.2.2.2.1, hroom.2.2.2.2.2⟩
  refine run_fin run rc hS ?_
  rintro r w' H1 locs1 ⟨hr1, hr2⟩ hok rc' hS'
  rw [hr1, hr2] at *
  exact hk x K y hz ht p e s m args below meth c H1 locs1 ls cx (hr2 ▸ rc') hS' hb hl ol (fun u hu => (List.mem_append.mp hu).elim (fun h => hok u (by rw [hr1] at *; simpa [Option.mem_toList] using h)) (oR u))
theorem S_callV3 {b : Nat} {a0 a1 a2 : CV} {idx mc' ms' : Nat} {o1 : Option Y} {kk : Y → Option X} (fr : Y → Option CV) (fw : Y → CW) {ci N : Nat} {T : u_T} (hsh : w.1[b]? = some (ci, N)) (hcl : ci < 50 ∧ vwCl[ci]? = some (md'.1.cls, T, N)) (hmd : MdV md' 3) (hlink : Cond.methodLink md.1.cls idx md'.1 ∈ TS) (hroom : Rm md md' mc ms mc' ms' k n) (hcat : catS S ≤ 8) (hd : decode md.2.1 pc = .ok (.invokevirtual idx, 3))
    (hM : ∀ x, o1 = some x → MetC E md' mc' ms' [rV b, a0, a1, a2] w (fun r w' => r = fr x ∧ w' = fw x))
    (hk : ∀ x, Seg E md mc ms (kk x) t (pc + 3) L ((fr x).toList ++ S) (fw x) (k + mc') (n + ms')) : Seg E md mc ms (o1.bind kk) t pc L (a2 :: a1 :: a0 :: rV b :: S) w k n := by
  intro K y hy ht p e s m args below meth c H locs ls cx rc hS hb hl ol os
  obtain ⟨x, hx, hz⟩ := Option.bind_eq_some_iff.mp hy
  have hoA : okS [rV b, a0, a1, a2] := fun u hu => os u (by simp only [List.mem_cons, List.mem_append, List.not_mem_nil, or_false] at hu ⊢; rcases hu with rfl | rfl | rfl | rfl <;> simp)
  have oR : okS S := os.t.t.t.t
  have hst : 2 * (F0 m pc ls ((a2 :: a1 :: a0 :: rV b :: S).map (cv E))).monitorRoom + ((S.map (cv E)).map fun v => v.category).sum ≤ 8 := by
    rw [catS_eq]
    show 2 * 0 + catS S ≤ 8
    omega
  have hrecv : ∃ cellB : Cell, H[E.2.1 + b]? = some cellB ∧ cellB.vm.isStatics = false ∧ s.vm.findClass md'.1.cls = some cellB.cls := by
    refine va_recv (q0 := b) rc.1.2 rc.2.2.2.1 hcl.2 (fs := (List.range N).map (fun j => fv E (tyF ci j) (w.2.2.1 b j) (w.2.2.2 b j))) ?_
    rw [wl_at E w hsh, cellO hcl.1]
  have run := va_runV (As := [cv E a0, cv E a1, cv E a2]) (rest := S.map (cv E)) (b := E.2.1 + b) (n := 3) (nL := md.2.2.1) (cc := md.2.1) (own := md.1.cls) (Ts := []) (g := F0 m pc ls ((a2 :: a1 :: a0 :: rV b :: S).map (cv E))) (H := H) (locs := locs) (e := e) (below := below) (meth := meth) (cells := k) (slots := n) (C := md'.1.cls) ⟨cx.1, cx.2.1, cx.2.2.2.1, cx.2.2.2.2.1, fun _ h => by cases h⟩ (hM x hx) ⟨callB (mc := mc) (ms := ms) (k := k) (n := n) (args := args) rc hmd.1 hlink hroom, rc.1.1.use hmd.2.1, rc.1.1.use hmd.2.2⟩ ⟨Pblind, hrecv, fun U hU hW => ⟨rfl, hoA, rc.enter hU hW, by rw [hU]; exact rc.2.2.2.2.2.2⟩⟩ rfl rfl hl.1 rfl hst hd ⟨hroom.2.2.2.2.1, hroom.2.2.2.2.2⟩
  refine run_fin run rc hS ?_
  rintro r w' H1 locs1 ⟨hr1, hr2⟩ hok rc' hS'
  rw [hr1, hr2] at *
  exact hk x K y hz ht p e s m args below meth c H1 locs1 ls cx (hr2 ▸ rc') hS' hb hl ol (fun u hu => (List.mem_append.mp hu).elim (fun h => hok u (by rw [hr1] at *; simpa [Option.mem_toList] using h)) (oR u))
theorem S_callV4 {b : Nat} {a0 a1 a2 a3 : CV} {idx mc' ms' : Nat} {o1 : Option Y} {kk : Y → Option X} (fr : Y → Option CV) (fw : Y → CW) {ci N : Nat} {T : u_T} (hsh : w.1[b]? = some (ci, N)) (hcl : ci < 50 ∧ vwCl[ci]? = some (md'.1.cls, T, N)) (hmd : MdV md' 4) (hlink : Cond.methodLink md.1.cls idx md'.1 ∈ TS) (hroom : Rm md md' mc ms mc' ms' k n) (hcat : catS S ≤ 8) (hd : decode md.2.1 pc = .ok (.invokevirtual idx, 3))
    (hM : ∀ x, o1 = some x → MetC E md' mc' ms' [rV b, a0, a1, a2, a3] w (fun r w' => r = fr x ∧ w' = fw x))
    (hk : ∀ x, Seg E md mc ms (kk x) t (pc + 3) L ((fr x).toList ++ S) (fw x) (k + mc') (n + ms')) : Seg E md mc ms (o1.bind kk) t pc L (a3 :: a2 :: a1 :: a0 :: rV b :: S) w k n := by
  intro K y hy ht p e s m args below meth c H locs ls cx rc hS hb hl ol os
  obtain ⟨x, hx, hz⟩ := Option.bind_eq_some_iff.mp hy
  have hoA : okS [rV b, a0, a1, a2, a3] := fun u hu => os u (by simp only [List.mem_cons, List.mem_append, List.not_mem_nil, or_false] at hu ⊢; rcases hu with rfl | rfl | rfl | rfl | rfl <;> simp)
  have oR : okS S := os.t.t.t.t.t
  have hst : 2 * (F0 m pc ls ((a3 :: a2 :: a1 :: a0 :: rV b :: S).map (cv E))).monitorRoom + ((S.map (cv E)).map fun v => v.category).sum ≤ 8 := by
    rw [catS_eq]
    show 2 * 0 + catS S ≤ 8
    omega
  have hrecv : ∃ cellB : Cell, H[E.2.1 + b]? = some cellB ∧ cellB.vm.isStatics = false ∧ s.vm.findClass md'.1.cls = some cellB.cls := by
    refine va_recv (q0 := b) rc.1.2 rc.2.2.2.1 hcl.2 (fs := (List.range N).map (fun j => fv E (tyF ci j) (w.2.2.1 b j) (w.2.2.2 b j))) ?_
    rw [wl_at E w hsh, cellO hcl.1]
  have run := va_runV (As := [cv E a0, cv E a1, cv E a2, cv E a3]) (rest := S.map (cv E)) (b := E.2.1 + b) (n := 4) (nL := md.2.2.1) (cc := md.2.1) (own := md.1.cls) (Ts := []) (g := F0 m pc ls ((a3 :: a2 :: a1 :: a0 :: rV b :: S).map (cv E))) (H := H) (locs := locs) (e := e) (below := below) (meth := meth) (cells := k) (slots := n) (C := md'.1.cls) ⟨cx.1, cx.2.1, cx.2.2.2.1, cx.2.2.2.2.1, fun _ h => by cases h⟩ (hM x hx) ⟨callB (mc := mc) (ms := ms) (k := k) (n := n) (args := args) rc hmd.1 hlink hroom, rc.1.1.use hmd.2.1, rc.1.1.use hmd.2.2⟩ ⟨Pblind, hrecv, fun U hU hW => ⟨rfl, hoA, rc.enter hU hW, by rw [hU]; exact rc.2.2.2.2.2.2⟩⟩ rfl rfl hl.1 rfl hst hd ⟨hroom.2.2.2.2.1, hroom.2.2.2.2.2⟩
  refine run_fin run rc hS ?_
  rintro r w' H1 locs1 ⟨hr1, hr2⟩ hok rc' hS'
  rw [hr1, hr2] at *
  exact hk x K y hz ht p e s m args below meth c H1 locs1 ls cx (hr2 ▸ rc') hS' hb hl ol (fun u hu => (List.mem_append.mp hu).elim (fun h => hok u (by rw [hr1] at *; simpa [Option.mem_toList] using h)) (oR u))
theorem S_callV5 {b : Nat} {a0 a1 a2 a3 a4 : CV} {idx mc' ms' : Nat} {o1 : Option Y} {kk : Y → Option X} (fr : Y → Option CV) (fw : Y → CW) {ci N : Nat} {T : u_T} (hsh : w.1[b]? = some (ci, N)) (hcl : ci < 50 ∧ vwCl[ci]? = some (md'.1.cls, T, N)) (hmd : MdV md' 5) (hlink : Cond.methodLink md.1.cls idx md'.1 ∈ TS) (hroom : Rm md md' mc ms mc' ms' k n) (hcat : catS S ≤ 8) (hd : decode md.2.1 pc = .ok (.invokevirtual idx, 3))
    (hM : ∀ x, o1 = some x → MetC E md' mc' ms' [rV b, a0, a1, a2, a3, a4] w (fun r w' => r = fr x ∧ w' = fw x))
    (hk : ∀ x, Seg E md mc ms (kk x) t (pc + 3) L ((fr x).toList ++ S) (fw x) (k + mc') (n + ms')) : Seg E md mc ms (o1.bind kk) t pc L (a4 :: a3 :: a2 :: a1 :: a0 :: rV b :: S) w k n := by
  intro K y hy ht p e s m args below meth c H locs ls cx rc hS hb hl ol os
  obtain ⟨x, hx, hz⟩ := Option.bind_eq_some_iff.mp hy
  have hoA : okS [rV b, a0, a1, a2, a3, a4] := fun u hu => os u (by simp only [List.mem_cons, List.mem_append, List.not_mem_nil, or_false] at hu ⊢; rcases hu with rfl | rfl | rfl | rfl | rfl | rfl <;> simp)
  have oR : okS S := os.t.t.t.t.t.t
  have hst : 2 * (F0 m pc ls ((a4 :: a3 :: a2 :: a1 :: a0 :: rV b :: S).map (cv E))).monitorRoom + ((S.map (cv E)).map fun v => v.category).sum ≤ 8 := by
    rw [catS_eq]
    show 2 * 0 + catS S ≤ 8
    omega
  have hrecv : ∃ cellB : Cell, H[E.2.1 + b]? = some cellB ∧ cellB.vm.isStatics = false ∧ s.vm.findClass md'.1.cls = some cellB.cls := by
    refine va_recv (q0 := b) rc.1.2 rc.2.2.2.1 hcl.2 (fs := (List.range N).map (fun j => fv E (tyF ci j) (w.2.2.1 b j) (w.2.2.2 b j))) ?_
    rw [wl_at E w hsh, cellO hcl.1]
  have run := va_runV (As := [cv E a0, cv E a1, cv E a2, cv E a3, cv E a4]) (rest := S.map (cv E)) (b := E.2.1 + b) (n := 5) (nL := md.2.2.1) (cc := md.2.1) (own := md.1.cls) (Ts := []) (g := F0 m pc ls ((a4 :: a3 :: a2 :: a1 :: a0 :: rV b :: S).map (cv E))) (H := H) (locs := locs) (e := e) (below := below) (meth := meth) (cells := k) (slots := n) (C := md'.1.cls) ⟨cx.1, cx.2.1, cx.2.2.2.1, cx.2.2.2.2.1, fun _ h => by cases h⟩ (hM x hx) ⟨callB (mc := mc) (ms := ms) (k := k) (n := n) (args := args) rc hmd.1 hlink hroom, rc.1.1.use hmd.2.1, rc.1.1.use hmd.2.2⟩ ⟨Pblind, hrecv, fun U hU hW => ⟨rfl, hoA, rc.enter hU hW, by rw [hU]; exact rc.2.2.2.2.2.2⟩⟩ rfl rfl hl.1 rfl hst hd ⟨hroom.2.2.2.2.1, hroom.2.2.2.2.2⟩
  refine run_fin run rc hS ?_
  rintro r w' H1 locs1 ⟨hr1, hr2⟩ hok rc' hS'
  rw [hr1, hr2] at *
  exact hk x K y hz ht p e s m args below meth c H1 locs1 ls cx (hr2 ▸ rc') hS' hb hl ol (fun u hu => (List.mem_append.mp hu).elim (fun h => hok u (by rw [hr1] at *; simpa [Option.mem_toList] using h)) (oR u))
theorem S_callS0 {idx mc' ms' : Nat} {o1 : Option Y} {kk : Y → Option X} (fr : Y → Option CV) (fw : Y → CW) (hmd : MdS md' 0) (hlink : Cond.methodLink md.1.cls idx md'.1 ∈ TS) (hroom : Rm md md' mc ms mc' ms' k n) (hcat : catS S ≤ 8) (hd : decode md.2.1 pc = .ok (.invokestatic idx, 3))
    (hM : ∀ x, o1 = some x → MetC E md' mc' ms' [] w (fun r w' => r = fr x ∧ w' = fw x))
    (hk : ∀ x, Seg E md mc ms (kk x) t (pc + 3) L ((fr x).toList ++ S) (fw x) (k + mc') (n + ms')) : Seg E md mc ms (o1.bind kk) t pc L (S) w k n := by
  intro K y hy ht p e s m args below meth c H locs ls cx rc hS hb hl ol os
  obtain ⟨x, hx, hz⟩ := Option.bind_eq_some_iff.mp hy
  have hoA : okS [] := fun u hu => (by cases hu)
  have oR : okS S := os
  have hst : 2 * (F0 m pc ls ((S).map (cv E))).monitorRoom + ((S.map (cv E)).map fun v => v.category).sum ≤ 8 := by
    rw [catS_eq]
    show 2 * 0 + catS S ≤ 8
    omega
  have run := va_runS (As := []) (rest := S.map (cv E)) (n := 0) (nL := md.2.2.1) (cc := md.2.1) (own := md.1.cls) (Ts := []) (g := F0 m pc ls ((S).map (cv E))) (H := H) (locs := locs) (e := e) (below := below) (meth := meth) (cells := k) (slots := n) ⟨cx.1, cx.2.1, cx.2.2.2.1, cx.2.2.2.2.1, fun _ h => by cases h⟩ (hM x hx) ⟨callB (mc := mc) (ms := ms) (k := k) (n := n) (args := args) rc hmd.1 hlink hroom, rc.1.1.use hmd.2⟩ ⟨Pblind, fun U hU hW => ⟨rfl, hoA, rc.enter hU hW, by rw [hU]; exact rc.2.2.2.2.2.2⟩⟩ rfl rfl hl.1 rfl hst hd ⟨hroom.2.2.2.2.1, hroom.2.2.2.2.2⟩
  refine run_fin run rc hS ?_
  rintro r w' H1 locs1 ⟨hr1, hr2⟩ hok rc' hS'
  rw [hr1, hr2] at *
  exact hk x K y hz ht p e s m args below meth c H1 locs1 ls cx (hr2 ▸ rc') hS' hb hl ol (fun u hu => (List.mem_append.mp hu).elim (fun h => hok u (by rw [hr1] at *; simpa [Option.mem_toList] using h)) (oR u))
theorem S_callS1 {a0 : CV} {idx mc' ms' : Nat} {o1 : Option Y} {kk : Y → Option X} (fr : Y → Option CV) (fw : Y → CW) (hmd : MdS md' 1) (hlink : Cond.methodLink md.1.cls idx md'.1 ∈ TS) (hroom : Rm md md' mc ms mc' ms' k n) (hcat : catS S ≤ 8) (hd : decode md.2.1 pc = .ok (.invokestatic idx, 3))
    (hM : ∀ x, o1 = some x → MetC E md' mc' ms' [a0] w (fun r w' => r = fr x ∧ w' = fw x))
    (hk : ∀ x, Seg E md mc ms (kk x) t (pc + 3) L ((fr x).toList ++ S) (fw x) (k + mc') (n + ms')) : Seg E md mc ms (o1.bind kk) t pc L (a0 :: S) w k n := by
  intro K y hy ht p e s m args below meth c H locs ls cx rc hS hb hl ol os
  obtain ⟨x, hx, hz⟩ := Option.bind_eq_some_iff.mp hy
  have hoA : okS [a0] := fun u hu => os u (by simp only [List.mem_cons, List.mem_append, List.not_mem_nil, or_false] at hu ⊢; rcases hu with rfl <;> simp)
  have oR : okS S := os.t
  have hst : 2 * (F0 m pc ls ((a0 :: S).map (cv E))).monitorRoom + ((S.map (cv E)).map fun v => v.category).sum ≤ 8 := by
    rw [catS_eq]
    show 2 * 0 + catS S ≤ 8
    omega
  have run := va_runS (As := [cv E a0]) (rest := S.map (cv E)) (n := 1) (nL := md.2.2.1) (cc := md.2.1) (own := md.1.cls) (Ts := []) (g := F0 m pc ls ((a0 :: S).map (cv E))) (H := H) (locs := locs) (e := e) (below := below) (meth := meth) (cells := k) (slots := n) ⟨cx.1, cx.2.1, cx.2.2.2.1, cx.2.2.2.2.1, fun _ h => by cases h⟩ (hM x hx) ⟨callB (mc := mc) (ms := ms) (k := k) (n := n) (args := args) rc hmd.1 hlink hroom, rc.1.1.use hmd.2⟩ ⟨Pblind, fun U hU hW => ⟨rfl, hoA, rc.enter hU hW, by rw [hU]; exact rc.2.2.2.2.2.2⟩⟩ rfl rfl hl.1 rfl hst hd ⟨hroom.2.2.2.2.1, hroom.2.2.2.2.2⟩
  refine run_fin run rc hS ?_
  rintro r w' H1 locs1 ⟨hr1, hr2⟩ hok rc' hS'
  rw [hr1, hr2] at *
  exact hk x K y hz ht p e s m args below meth c H1 locs1 ls cx (hr2 ▸ rc') hS' hb hl ol (fun u hu => (List.mem_append.mp hu).elim (fun h => hok u (by rw [hr1] at *; simpa [Option.mem_toList] using h)) (oR u))
theorem S_callS2 {a0 a1 : CV} {idx mc' ms' : Nat} {o1 : Option Y} {kk : Y → Option X} (fr : Y → Option CV) (fw : Y → CW) (hmd : MdS md' 2) (hlink : Cond.methodLink md.1.cls idx md'.1 ∈ TS) (hroom : Rm md md' mc ms mc' ms' k n) (hcat : catS S ≤ 8) (hd : decode md.2.1 pc = .ok (.invokestatic idx, 3))
    (hM : ∀ x, o1 = some x → MetC E md' mc' ms' [a0, a1] w (fun r w' => r = fr x ∧ w' = fw x))
    (hk : ∀ x, Seg E md mc ms (kk x) t (pc + 3) L ((fr x).toList ++ S) (fw x) (k + mc') (n + ms')) : Seg E md mc ms (o1.bind kk) t pc L (a1 :: a0 :: S) w k n := by
  intro K y hy ht p e s m args below meth c H locs ls cx rc hS hb hl ol os
  obtain ⟨x, hx, hz⟩ := Option.bind_eq_some_iff.mp hy
  have hoA : okS [a0, a1] := fun u hu => os u (by simp only [List.mem_cons, List.mem_append, List.not_mem_nil, or_false] at hu ⊢; rcases hu with rfl | rfl <;> simp)
  have oR : okS S := os.t.t
  have hst : 2 * (F0 m pc ls ((a1 :: a0 :: S).map (cv E))).monitorRoom + ((S.map (cv E)).map fun v => v.category).sum ≤ 8 := by
    rw [catS_eq]
    show 2 * 0 + catS S ≤ 8
    omega
  have run := va_runS (As := [cv E a0, cv E a1]) (rest := S.map (cv E)) (n := 2) (nL := md.2.2.1) (cc := md.2.1) (own := md.1.cls) (Ts := []) (g := F0 m pc ls ((a1 :: a0 :: S).map (cv E))) (H := H) (locs := locs) (e := e) (below := below) (meth := meth) (cells := k) (slots := n) ⟨cx.1, cx.2.1, cx.2.2.2.1, cx.2.2.2.2.1, fun _ h => by cases h⟩ (hM x hx) ⟨callB (mc := mc) (ms := ms) (k := k) (n := n) (args := args) rc hmd.1 hlink hroom, rc.1.1.use hmd.2⟩ ⟨Pblind, fun U hU hW => ⟨rfl, hoA, rc.enter hU hW, by rw [hU]; exact rc.2.2.2.2.2.2⟩⟩ rfl rfl hl.1 rfl hst hd ⟨hroom.2.2.2.2.1, hroom.2.2.2.2.2⟩
  refine run_fin run rc hS ?_
  rintro r w' H1 locs1 ⟨hr1, hr2⟩ hok rc' hS'
  rw [hr1, hr2] at *
  exact hk x K y hz ht p e s m args below meth c H1 locs1 ls cx (hr2 ▸ rc') hS' hb hl ol (fun u hu => (List.mem_append.mp hu).elim (fun h => hok u (by rw [hr1] at *; simpa [Option.mem_toList] using h)) (oR u))
theorem S_callS3 {a0 a1 a2 : CV} {idx mc' ms' : Nat} {o1 : Option Y} {kk : Y → Option X} (fr : Y → Option CV) (fw : Y → CW) (hmd : MdS md' 3) (hlink : Cond.methodLink md.1.cls idx md'.1 ∈ TS) (hroom : Rm md md' mc ms mc' ms' k n) (hcat : catS S ≤ 8) (hd : decode md.2.1 pc = .ok (.invokestatic idx, 3))
    (hM : ∀ x, o1 = some x → MetC E md' mc' ms' [a0, a1, a2] w (fun r w' => r = fr x ∧ w' = fw x))
    (hk : ∀ x, Seg E md mc ms (kk x) t (pc + 3) L ((fr x).toList ++ S) (fw x) (k + mc') (n + ms')) : Seg E md mc ms (o1.bind kk) t pc L (a2 :: a1 :: a0 :: S) w k n := by
  intro K y hy ht p e s m args below meth c H locs ls cx rc hS hb hl ol os
  obtain ⟨x, hx, hz⟩ := Option.bind_eq_some_iff.mp hy
  have hoA : okS [a0, a1, a2] := fun u hu => os u (by simp only [List.mem_cons, List.mem_append, List.not_mem_nil, or_false] at hu ⊢; rcases hu with rfl | rfl | rfl <;> simp)
  have oR : okS S := os.t.t.t
  have hst : 2 * (F0 m pc ls ((a2 :: a1 :: a0 :: S).map (cv E))).monitorRoom + ((S.map (cv E)).map fun v => v.category).sum ≤ 8 := by
    rw [catS_eq]
    show 2 * 0 + catS S ≤ 8
    omega
  have run := va_runS (As := [cv E a0, cv E a1, cv E a2]) (rest := S.map (cv E)) (n := 3) (nL := md.2.2.1) (cc := md.2.1) (own := md.1.cls) (Ts := []) (g := F0 m pc ls ((a2 :: a1 :: a0 :: S).map (cv E))) (H := H) (locs := locs) (e := e) (below := below) (meth := meth) (cells := k) (slots := n) ⟨cx.1, cx.2.1, cx.2.2.2.1, cx.2.2.2.2.1, fun _ h => by cases h⟩ (hM x hx) ⟨callB (mc := mc) (ms := ms) (k := k) (n := n) (args := args) rc hmd.1 hlink hroom, rc.1.1.use hmd.2⟩ ⟨Pblind, fun U hU hW => ⟨rfl, hoA, rc.enter hU hW, by rw [hU]; exact rc.2.2.2.2.2.2⟩⟩ rfl rfl hl.1 rfl hst hd ⟨hroom.2.2.2.2.1, hroom.2.2.2.2.2⟩
  refine run_fin run rc hS ?_
  rintro r w' H1 locs1 ⟨hr1, hr2⟩ hok rc' hS'
  rw [hr1, hr2] at *
  exact hk x K y hz ht p e s m args below meth c H1 locs1 ls cx (hr2 ▸ rc') hS' hb hl ol (fun u hu => (List.mem_append.mp hu).elim (fun h => hok u (by rw [hr1] at *; simpa [Option.mem_toList] using h)) (oR u))
theorem S_callS4 {a0 a1 a2 a3 : CV} {idx mc' ms' : Nat} {o1 : Option Y} {kk : Y → Option X} (fr : Y → Option CV) (fw : Y → CW) (hmd : MdS md' 4) (hlink : Cond.methodLink md.1.cls idx md'.1 ∈ TS) (hroom : Rm md md' mc ms mc' ms' k n) (hcat : catS S ≤ 8) (hd : decode md.2.1 pc = .ok (.invokestatic idx, 3))
    (hM : ∀ x, o1 = some x → MetC E md' mc' ms' [a0, a1, a2, a3] w (fun r w' => r = fr x ∧ w' = fw x))
    (hk : ∀ x, Seg E md mc ms (kk x) t (pc + 3) L ((fr x).toList ++ S) (fw x) (k + mc') (n + ms')) : Seg E md mc ms (o1.bind kk) t pc L (a3 :: a2 :: a1 :: a0 :: S) w k n := by
  intro K y hy ht p e s m args below meth c H locs ls cx rc hS hb hl ol os
  obtain ⟨x, hx, hz⟩ := Option.bind_eq_some_iff.mp hy
  have hoA : okS [a0, a1, a2, a3] := fun u hu => os u (by simp only [List.mem_cons, List.mem_append, List.not_mem_nil, or_false] at hu ⊢; rcases hu with rfl | rfl | rfl | rfl <;> simp)
  have oR : okS S := os.t.t.t.t
  have hst : 2 * (F0 m pc ls ((a3 :: a2 :: a1 :: a0 :: S).map (cv E))).monitorRoom + ((S.map (cv E)).map fun v => v.category).sum ≤ 8 := by
    rw [catS_eq]
    show 2 * 0 + catS S ≤ 8
    omega
  have run := va_runS (As := [cv E a0, cv E a1, cv E a2, cv E a3]) (rest := S.map (cv E)) (n := 4) (nL := md.2.2.1) (cc := md.2.1) (own := md.1.cls) (Ts := []) (g := F0 m pc ls ((a3 :: a2 :: a1 :: a0 :: S).map (cv E))) (H := H) (locs := locs) (e := e) (below := below) (meth := meth) (cells := k) (slots := n) ⟨cx.1, cx.2.1, cx.2.2.2.1, cx.2.2.2.2.1, fun _ h => by cases h⟩ (hM x hx) ⟨callB (mc := mc) (ms := ms) (k := k) (n := n) (args := args) rc hmd.1 hlink hroom, rc.1.1.use hmd.2⟩ ⟨Pblind, fun U hU hW => ⟨rfl, hoA, rc.enter hU hW, by rw [hU]; exact rc.2.2.2.2.2.2⟩⟩ rfl rfl hl.1 rfl hst hd ⟨hroom.2.2.2.2.1, hroom.2.2.2.2.2⟩
  refine run_fin run rc hS ?_
  rintro r w' H1 locs1 ⟨hr1, hr2⟩ hok rc' hS'
  rw [hr1, hr2] at *
  exact hk x K y hz ht p e s m args below meth c H1 locs1 ls cx (hr2 ▸ rc') hS' hb hl ol (fun u hu => (List.mem_append.mp hu).elim (fun h => hok u (by rw [hr1] at *; simpa [Option.mem_toList] using h)) (oR u))
theorem S_callN2 {a0 a1 : CV} {host : String} {idx mc' ms' : Nat} {o1 : Option Y} {kk : Y → Option X} (fr : Y → Option CV) (fw : Y → CW) (hmd : MdS md' 2) (hlink : Cond.methodLinkNest md.1.cls idx md'.1 host ∈ TS) (hroom : Rm md md' mc ms mc' ms' k n) (hcat : catS S ≤ 8) (hd : decode md.2.1 pc = .ok (.invokestatic idx, 3))
    (hM : ∀ x, o1 = some x → MetC E md' mc' ms' [a0, a1] w (fun r w' => r = fr x ∧ w' = fw x))
    (hk : ∀ x, Seg E md mc ms (kk x) t (pc + 3) L ((fr x).toList ++ S) (fw x) (k + mc') (n + ms')) : Seg E md mc ms (o1.bind kk) t pc L (a1 :: a0 :: S) w k n := by
  intro K y hy ht p e s m args below meth c H locs ls cx rc hS hb hl ol os
  obtain ⟨x, hx, hz⟩ := Option.bind_eq_some_iff.mp hy
  have hoA : okS [a0, a1] := fun u hu => os u (by simp only [List.mem_cons, List.mem_append, List.not_mem_nil, or_false] at hu ⊢; rcases hu with rfl | rfl <;> simp)
  have oR : okS S := os.t.t
  have hst : 2 * (F0 m pc ls ((a1 :: a0 :: S).map (cv E))).monitorRoom + ((S.map (cv E)).map fun v => v.category).sum ≤ 8 := by
    rw [catS_eq]
    show 2 * 0 + catS S ≤ 8
    omega
  have run := va_runSN (As := [cv E a0, cv E a1]) (rest := S.map (cv E)) (n := 2) (nL := md.2.2.1) (cc := md.2.1) (own := md.1.cls) (Ts := []) (g := F0 m pc ls ((a1 :: a0 :: S).map (cv E))) (H := H) (locs := locs) (e := e) (below := below) (meth := meth) (cells := k) (slots := n) ⟨cx.1, cx.2.1, cx.2.2.2.1, cx.2.2.2.2.1, fun _ h => by cases h⟩ (hM x hx) ⟨callN (mc := mc) (ms := ms) (k := k) (n := n) (args := args) rc hmd.1 hlink hroom, rc.1.1.use hmd.2, trivial⟩ ⟨Pblind, fun U hU hW => ⟨rfl, hoA, rc.enter hU hW, by rw [hU]; exact rc.2.2.2.2.2.2⟩⟩ rfl rfl hl.1 rfl hst hd ⟨hroom.2.2.2.2.1, hroom.2.2.2.2.2⟩
  refine run_fin run rc hS ?_
  rintro r w' H1 locs1 ⟨hr1, hr2⟩ hok rc' hS'
  rw [hr1, hr2] at *
  exact hk x K y hz ht p e s m args below meth c H1 locs1 ls cx (hr2 ▸ rc') hS' hb hl ol (fun u hu => (List.mem_append.mp hu).elim (fun h => hok u (by rw [hr1] at *; simpa [Option.mem_toList] using h)) (oR u))
theorem S_callN3 {a0 a1 a2 : CV} {host : String} {idx mc' ms' : Nat} {o1 : Option Y} {kk : Y → Option X} (fr : Y → Option CV) (fw : Y → CW) (hmd : MdS md' 3) (hlink : Cond.methodLinkNest md.1.cls idx md'.1 host ∈ TS) (hroom : Rm md md' mc ms mc' ms' k n) (hcat : catS S ≤ 8) (hd : decode md.2.1 pc = .ok (.invokestatic idx, 3))
    (hM : ∀ x, o1 = some x → MetC E md' mc' ms' [a0, a1, a2] w (fun r w' => r = fr x ∧ w' = fw x))
    (hk : ∀ x, Seg E md mc ms (kk x) t (pc + 3) L ((fr x).toList ++ S) (fw x) (k + mc') (n + ms')) : Seg E md mc ms (o1.bind kk) t pc L (a2 :: a1 :: a0 :: S) w k n := by
  intro K y hy ht p e s m args below meth c H locs ls cx rc hS hb hl ol os
  obtain ⟨x, hx, hz⟩ := Option.bind_eq_some_iff.mp hy
  have hoA : okS [a0, a1, a2] := fun u hu => os u (by simp only [List.mem_cons, List.mem_append, List.not_mem_nil, or_false] at hu ⊢; rcases hu with rfl | rfl | rfl <;> simp)
  have oR : okS S := os.t.t.t
  have hst : 2 * (F0 m pc ls ((a2 :: a1 :: a0 :: S).map (cv E))).monitorRoom + ((S.map (cv E)).map fun v => v.category).sum ≤ 8 := by
    rw [catS_eq]
    show 2 * 0 + catS S ≤ 8
    omega
  have run := va_runSN (As := [cv E a0, cv E a1, cv E a2]) (rest := S.map (cv E)) (n := 3) (nL := md.2.2.1) (cc := md.2.1) (own := md.1.cls) (Ts := []) (g := F0 m pc ls ((a2 :: a1 :: a0 :: S).map (cv E))) (H := H) (locs := locs) (e := e) (below := below) (meth := meth) (cells := k) (slots := n) ⟨cx.1, cx.2.1, cx.2.2.2.1, cx.2.2.2.2.1, fun _ h => by cases h⟩ (hM x hx) ⟨callN (mc := mc) (ms := ms) (k := k) (n := n) (args := args) rc hmd.1 hlink hroom, rc.1.1.use hmd.2, trivial⟩ ⟨Pblind, fun U hU hW => ⟨rfl, hoA, rc.enter hU hW, by rw [hU]; exact rc.2.2.2.2.2.2⟩⟩ rfl rfl hl.1 rfl hst hd ⟨hroom.2.2.2.2.1, hroom.2.2.2.2.2⟩
  refine run_fin run rc hS ?_
  rintro r w' H1 locs1 ⟨hr1, hr2⟩ hok rc' hS'
  rw [hr1, hr2] at *
  exact hk x K y hz ht p e s m args below meth c H1 locs1 ls cx (hr2 ▸ rc') hS' hb hl ol (fun u hu => (List.mem_append.mp hu).elim (fun h => hok u (by rw [hr1] at *; simpa [Option.mem_toList] using h)) (oR u))
theorem S_callI0 {b : Nat} {idx mc' ms' : Nat} {o1 : Option Y} {kk : Y → Option X} (fr : Y → Option CV) (fw : Y → CW) (hmd : MdI md' 0) (hret : md'.2.2.2.1 = none) (hlink : Cond.methodLink md.1.cls idx md'.1 ∈ TS) (hroom : Rm md md' mc ms mc' ms' k n) (hcat : catS S ≤ 8) (hd : decode md.2.1 pc = .ok (.invokespecial idx, 3))
    (hM : ∀ x, o1 = some x → MetC E md' mc' ms' [rV b] w (fun r w' => r = fr x ∧ w' = fw x))
    (hk : ∀ x, Seg E md mc ms (kk x) t (pc + 3) L ((fr x).toList ++ S) (fw x) (k + mc') (n + ms')) : Seg E md mc ms (o1.bind kk) t pc L (rV b :: S) w k n := by
  obtain ⟨y9, b9, m9, r9, q9⟩ := md'
  change r9 = none at hret
  subst hret
  intro K y hy ht p e s m args below meth c H locs ls cx rc hS hb hl ol os
  obtain ⟨x, hx, hz⟩ := Option.bind_eq_some_iff.mp hy
  have hoA : okS [rV b] := fun u hu => os u (by simp only [List.mem_cons, List.mem_append, List.not_mem_nil, or_false] at hu ⊢; rcases hu with rfl <;> simp)
  have oR : okS S := os.t
  have hst : 2 * (F0 m pc ls ((rV b :: S).map (cv E))).monitorRoom + ((S.map (cv E)).map fun v => v.category).sum ≤ 8 := by
    rw [catS_eq]
    show 2 * 0 + catS S ≤ 8
    omega
  have run := va_runI (As := []) (rest := S.map (cv E)) (b := E.2.1 + b) (n := 0) (nL := md.2.2.1) (cc := md.2.1) (own := md.1.cls) (Ts := []) (g := F0 m pc ls ((rV b :: S).map (cv E))) (H := H) (locs := locs) (e := e) (below := below) (meth := meth) (cells := k) (slots := n) ⟨cx.1, cx.2.1, cx.2.2.2.1, cx.2.2.2.2.1, fun _ h => by cases h⟩ (hM x hx) ⟨callB (mc := mc) (ms := ms) (k := k) (n := n) (args := args) rc hmd.1 hlink hroom, hmd.2.1, rc.1.1.use hmd.2.2⟩ ⟨Pblind, fun U hU hW => ⟨rfl, hoA, rc.enter hU hW, by rw [hU]; exact rc.2.2.2.2.2.2⟩⟩ rfl rfl hl.1 rfl hst hd ⟨hroom.2.2.2.2.1, hroom.2.2.2.2.2⟩
  refine run_fin run rc hS ?_
  rintro r w' H1 locs1 ⟨hr1, hr2⟩ hok rc' hS'
  rw [hr1, hr2] at *
  exact hk x K y hz ht p e s m args below meth c H1 locs1 ls cx (hr2 ▸ rc') hS' hb hl ol (fun u hu => (List.mem_append.mp hu).elim (fun h => hok u (by rw [hr1] at *; simpa [Option.mem_toList] using h)) (oR u))
theorem S_callI1 {b : Nat} {a0 : CV} {idx mc' ms' : Nat} {o1 : Option Y} {kk : Y → Option X} (fr : Y → Option CV) (fw : Y → CW) (hmd : MdI md' 1) (hret : md'.2.2.2.1 = none) (hlink : Cond.methodLink md.1.cls idx md'.1 ∈ TS) (hroom : Rm md md' mc ms mc' ms' k n) (hcat : catS S ≤ 8) (hd : decode md.2.1 pc = .ok (.invokespecial idx, 3))
    (hM : ∀ x, o1 = some x → MetC E md' mc' ms' [rV b, a0] w (fun r w' => r = fr x ∧ w' = fw x))
    (hk : ∀ x, Seg E md mc ms (kk x) t (pc + 3) L ((fr x).toList ++ S) (fw x) (k + mc') (n + ms')) : Seg E md mc ms (o1.bind kk) t pc L (a0 :: rV b :: S) w k n := by
  obtain ⟨y9, b9, m9, r9, q9⟩ := md'
  change r9 = none at hret
  subst hret
  intro K y hy ht p e s m args below meth c H locs ls cx rc hS hb hl ol os
  obtain ⟨x, hx, hz⟩ := Option.bind_eq_some_iff.mp hy
  have hoA : okS [rV b, a0] := fun u hu => os u (by simp only [List.mem_cons, List.mem_append, List.not_mem_nil, or_false] at hu ⊢; rcases hu with rfl | rfl <;> simp)
  have oR : okS S := os.t.t
  have hst : 2 * (F0 m pc ls ((a0 :: rV b :: S).map (cv E))).monitorRoom + ((S.map (cv E)).map fun v => v.category).sum ≤ 8 := by
    rw [catS_eq]
    show 2 * 0 + catS S ≤ 8
    omega
  have run := va_runI (As := [cv E a0]) (rest := S.map (cv E)) (b := E.2.1 + b) (n := 1) (nL := md.2.2.1) (cc := md.2.1) (own := md.1.cls) (Ts := []) (g := F0 m pc ls ((a0 :: rV b :: S).map (cv E))) (H := H) (locs := locs) (e := e) (below := below) (meth := meth) (cells := k) (slots := n) ⟨cx.1, cx.2.1, cx.2.2.2.1, cx.2.2.2.2.1, fun _ h => by cases h⟩ (hM x hx) ⟨callB (mc := mc) (ms := ms) (k := k) (n := n) (args := args) rc hmd.1 hlink hroom, hmd.2.1, rc.1.1.use hmd.2.2⟩ ⟨Pblind, fun U hU hW => ⟨rfl, hoA, rc.enter hU hW, by rw [hU]; exact rc.2.2.2.2.2.2⟩⟩ rfl rfl hl.1 rfl hst hd ⟨hroom.2.2.2.2.1, hroom.2.2.2.2.2⟩
  refine run_fin run rc hS ?_
  rintro r w' H1 locs1 ⟨hr1, hr2⟩ hok rc' hS'
  rw [hr1, hr2] at *
  exact hk x K y hz ht p e s m args below meth c H1 locs1 ls cx (hr2 ▸ rc') hS' hb hl ol (fun u hu => (List.mem_append.mp hu).elim (fun h => hok u (by rw [hr1] at *; simpa [Option.mem_toList] using h)) (oR u))
theorem S_callJ0 {b : Nat} {host : String} {idx mc' ms' : Nat} {o1 : Option Y} {kk : Y → Option X} (fr : Y → Option CV) (fw : Y → CW) (hmd : MdI md' 0) (hret : md'.2.2.2.1 = none) (hlink : Cond.methodLinkNest md.1.cls idx md'.1 host ∈ TS) (hroom : Rm md md' mc ms mc' ms' k n) (hcat : catS S ≤ 8) (hd : decode md.2.1 pc = .ok (.invokespecial idx, 3))
    (hM : ∀ x, o1 = some x → MetC E md' mc' ms' [rV b] w (fun r w' => r = fr x ∧ w' = fw x))
    (hk : ∀ x, Seg E md mc ms (kk x) t (pc + 3) L ((fr x).toList ++ S) (fw x) (k + mc') (n + ms')) : Seg E md mc ms (o1.bind kk) t pc L (rV b :: S) w k n := by
  obtain ⟨y9, b9, m9, r9, q9⟩ := md'
  change r9 = none at hret
  subst hret
  intro K y hy ht p e s m args below meth c H locs ls cx rc hS hb hl ol os
  obtain ⟨x, hx, hz⟩ := Option.bind_eq_some_iff.mp hy
  have hoA : okS [rV b] := fun u hu => os u (by simp only [List.mem_cons, List.mem_append, List.not_mem_nil, or_false] at hu ⊢; rcases hu with rfl <;> simp)
  have oR : okS S := os.t
  have hst : 2 * (F0 m pc ls ((rV b :: S).map (cv E))).monitorRoom + ((S.map (cv E)).map fun v => v.category).sum ≤ 8 := by
    rw [catS_eq]
    show 2 * 0 + catS S ≤ 8
    omega
  have run := va_runIN (As := []) (rest := S.map (cv E)) (b := E.2.1 + b) (n := 0) (nL := md.2.2.1) (cc := md.2.1) (own := md.1.cls) (Ts := []) (g := F0 m pc ls ((rV b :: S).map (cv E))) (H := H) (locs := locs) (e := e) (below := below) (meth := meth) (cells := k) (slots := n) ⟨cx.1, cx.2.1, cx.2.2.2.1, cx.2.2.2.2.1, fun _ h => by cases h⟩ (hM x hx) ⟨callN (mc := mc) (ms := ms) (k := k) (n := n) (args := args) rc hmd.1 hlink hroom, hmd.2.1, rc.1.1.use hmd.2.2⟩ ⟨Pblind, fun U hU hW => ⟨rfl, hoA, rc.enter hU hW, by rw [hU]; exact rc.2.2.2.2.2.2⟩⟩ rfl rfl hl.1 rfl hst hd ⟨hroom.2.2.2.2.1, hroom.2.2.2.2.2⟩
  refine run_fin run rc hS ?_
  rintro r w' H1 locs1 ⟨hr1, hr2⟩ hok rc' hS'
  rw [hr1, hr2] at *
  exact hk x K y hz ht p e s m args below meth c H1 locs1 ls cx (hr2 ▸ rc') hS' hb hl ol (fun u hu => (List.mem_append.mp hu).elim (fun h => hok u (by rw [hr1] at *; simpa [Option.mem_toList] using h)) (oR u))
end CALL
