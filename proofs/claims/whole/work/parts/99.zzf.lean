abbrev cIO : String := "java/lang/IndexOutOfBoundsException"
abbrev cNS : String := "java/util/NoSuchElementException"
def exN : List String := ["java/lang/RuntimeException", "java/lang/Exception"]
theorem inB6 {w : Cond} (j : Nat) (h : tables_1_6[j]? = some w) : w ∈ lw_tbl := List.mem_append_right _ (List.mem_append_right _ (List.mem_append_right _ (List.mem_append_right _ (List.mem_append_right _ (List.mem_append_right _ (List.mem_append_left _ (List.mem_of_getElem? h)))))))
theorem wp_k1 : Cond.classLink RX11 143 cIO ∈ TS := inT5 225 (by decide +kernel) (by decide +kernel)
theorem wp_k2 : Cond.classLink RX11 173 cNS ∈ TS := inT6 51 (by decide +kernel) (by decide +kernel)
theorem wp_i1 : Cond.initialized cIO ∈ TS := inT1 22 (by decide +kernel) (by decide +kernel)
theorem wp_i2 : Cond.initialized cNS ∈ TS := inT1 23 (by decide +kernel) (by decide +kernel)
theorem wp_l1 : Cond.classLink RL 13 cIO ∈ TS := inT5 219 (by decide +kernel) (by decide +kernel)
theorem wp_l2 : Cond.classLink RL 15 cNS ∈ TS := inT5 220 (by decide +kernel) (by decide +kernel)
theorem al_cast {X Y : String} {A B : Array Value} {u U : State} (al : u.vm.Alike U.vm) (h : (Cond.castable X Y).before A u = true) : (Cond.castable X Y).before B U = true := by
  obtain ⟨c, t, h1, h2, h3⟩ := Cond.castable_spec h
  have k1 : U.vm.findClass X = some c := by rw [al.findClass]; exact h1
  have k2 : U.vm.findClass Y = some t := by rw [al.findClass]; exact h2
  have k3 : U.vm.assignable c t = true := by rw [al.assignable]; exact h3
  simp [Cond.before, Cond.holds, Cond.value, k1, k2, k3]
theorem al_decl {x : MethodName} {A B : Array Value} {u U : State} (al : u.vm.Alike U.vm) (h : (Cond.declares x).before A u = true) : (Cond.declares x).before B U = true := by
  have e := Cond.onTables_vm (A := A) (A' := B) (U := u) (U' := U) U.vm (Cond.declares x) rfl
  have hU : U.setVm U.vm = U := rfl
  rw [hU] at e
  rw [← e, Cond.declares_setVm al]
  exact h
def exB (X : String) : List Cond := [.castable X X, .declares (Bundle.initS "java/lang/RuntimeException"), .declares (Bundle.initS "java/lang/Exception"), .declares (Bundle.initS "java/lang/Throwable")]
theorem wp_b1 : ∀ w ∈ exB cIO, w ∈ lw_tbl := by decide +kernel
theorem wp_b2 : ∀ w ∈ exB cNS, w ∈ lw_tbl := by decide +kernel
theorem wp_a1 : ∀ w ∈ (vx_atS RX11 147 cIO exN).filter goodWord, w ∈ TS := by decide +kernel
theorem wp_a2 : ∀ w ∈ (xs_at RX11 177 cNS 13 prog_29_method_4_code "java/lang/RuntimeException" ["java/lang/Exception"]).filter goodWord, w ∈ TS := by decide +kernel
theorem wp_n1 : ∀ w ∈ (vx_atS RX11 147 cIO exN).filter (fun w => !goodWord w), w ∈ exB cIO := by decide +kernel
theorem wp_n2 : ∀ w ∈ (xs_at RX11 177 cNS 13 prog_29_method_4_code "java/lang/RuntimeException" ["java/lang/Exception"]).filter (fun w => !goodWord w), w ∈ exB cNS := by decide +kernel
theorem nr_B {E : EE} {s : State} {w : CW} {H : Heap} {X : String} {args : Array Value} (rc : RepC E s w H) (hB : ∀ w ∈ exB X, w ∈ lw_tbl) : ∀ w ∈ exB X, w.before args s = true := by
  obtain ⟨s0, h1, h2, h3, h4, h5⟩ := rc.2.2.1.2
  have al := h4.alike
  exact vx_c (al_cast al (h3 _ (hB _ (by simp [exB])))) (vx_c (al_decl al (h3 _ (hB _ (by simp [exB])))) (vx_c (al_decl al (h3 _ (hB _ (by simp [exB])))) (vx_c (al_decl al (h3 _ (hB _ (by simp [exB])))) vx_n)))
theorem wp_g1 : ∀ w ∈ Cond.classLink RX11 143 cIO :: Cond.initialized cIO :: vx_atS RX11 147 cIO exN, vx_ot w = true := by decide +kernel
theorem wp_g2 : ∀ w ∈ Cond.classLink RX11 173 cNS :: Cond.initialized cNS :: xs_at RX11 177 cNS 13 prog_29_method_4_code "java/lang/RuntimeException" ["java/lang/Exception"], vx_ot w = true := by decide +kernel
def hhL : List (Nat × Nat × Nat × Nat) := [(0, 10, 13, 13), (0, 10, 17, 15)]
theorem wp_cw : Cond.codeWith yL_person cL_person 5 (some .int) hhL ∈ TS := inT5 218 (by decide +kernel) (by decide +kernel)
theorem wp_st : Cond.static yL_person ∈ TS := inT5 217 (by decide +kernel) (by decide +kernel)
theorem wp_39 : Cond.methodLink RL 39 yL_person ∈ TS := inT5 216 (by decide +kernel) (by decide +kernel)
section PERS
variable {E : EE} {sh : List (Nat × Nat)} {R : RM} {M : MM} {p1 p2 : Int}
theorem nr_sent {s : State} {w : CW} {H : Heap} {locs : List Loc} (rc : RepC E s w H) (hS : va_S (fun x => E.2.1 ≤ x) s.heap H locs) (hb : E.2.1 ≤ s.heap.size) : vx_Zq Bundle.tN "UNASSIGNED_STACK" Bundle.steD (fun x => E.2.1 ≤ x) s s.heap ∧ vx_Zq Bundle.tN "SUPPRESSED_SENTINEL" Bundle.listD (fun x => E.2.1 ≤ x) s s.heap := by
  obtain ⟨s0, h1, h2, h3, h4, h5⟩ := rc.2.2.1.2
  have fl := flat_of_before _ h2
  have hA : ∀ a : Nat, a < s0.heap.size → ¬ (fun x => E.2.1 ≤ x) a := fun a ha => by show ¬ E.2.1 ≤ a; omega
  have hq : ∀ a : Nat, a < s0.heap.size → ¬ (fun x => E.2.1 ≤ x) a → s.heap[a]? = s0.heap[a]? := fun a ha _ => (hS.2.1 a (by omega) (by show ¬ E.2.1 ≤ a; omega)).symm.trans (h5 a (by omega))
  have z1 : vx_Zq Bundle.tN "UNASSIGNED_STACK" Bundle.steD (fun x => E.2.1 ≤ x) s0 s0.heap := vx_Zqof (h3 _ (inB6 12 (by decide +kernel))) (h3 _ (inB1 19 (by decide +kernel))) (fl _ (by decide +kernel)) hA
  have z2 : vx_Zq Bundle.tN "SUPPRESSED_SENTINEL" Bundle.listD (fun x => E.2.1 ≤ x) s0 s0.heap := vx_Zqof (h3 _ (inB6 14 (by decide +kernel))) (h3 _ (inB1 19 (by decide +kernel))) (fl _ (by decide +kernel)) hA
  exact ⟨vx_Zq.moved h4.alike (z1.kept hq), vx_Zq.moved h4.alike (z2.kept hq)⟩
theorem nr_ref1 {s : State} {w : CW} {H : Heap} (rc : RepC E s w H) : ∃ a, vk_R RX11 145 "no such person" a s := by
  obtain ⟨s0, h1, h2, h3, h4, h5⟩ := rc.2.2.1.2
  have fl := flat_of_before _ h2
  obtain ⟨a, -, -, -, ev, -⟩ := Cond.exactly_spec (fl (Cond.exactly (Term.string "KnobHall" 145) "java/lang/String") (by decide +kernel))
  exact ⟨a, vk_R.warm h4 (vk_R.of (h3 _ (inB6 25 (by decide +kernel))) ev)⟩
theorem nr_ref2 {s : State} {w : CW} {H : Heap} (rc : RepC E s w H) : ∃ a, vk_R RX11 175 "no such what" a s := by
  obtain ⟨s0, h1, h2, h3, h4, h5⟩ := rc.2.2.1.2
  have fl := flat_of_before _ h2
  obtain ⟨a, -, -, -, ev, -⟩ := Cond.exactly_spec (fl (Cond.exactly (Term.string "KnobHall" 175) "java/lang/String") (by decide +kernel))
  exact ⟨a, vk_R.warm h4 (vk_R.of (h3 _ (inB6 60 (by decide +kernel))) ev)⟩
theorem nr_nc {s : State} {w : CW} {H : Heap} (rc : RepC E s w H) : va_Nc cNS cIO s := by
  obtain ⟨s0, h1, h2, h3, h4, h5⟩ := rc.2.2.1.2
  have fl := flat_of_before _ h2
  exact va_Nc.moved h4.alike (va_Nc.of (fl _ (by decide +kernel)))
/-- thrown by person: of the class cls, the world as it was -/
def pXC (E : EE) (cls : String) (w : CW) : String → State → State → Prop := fun C st t => C = cls ∧ va_P E.2.2.1 vwCl (wl E w) t.heap ∧ va_F (fun q => E.2.1 ≤ q) st t
abbrev PcP (E : EE) (args : List CV) (w : CW) : Array Value → State → Prop := fun v U => v = (args.map (cv E)).toArray ∧ okS args ∧ RepS E w U ∧ E.2.1 ≤ U.heap.size
section QW
variable {p : Program} {e : Env} {s : State} {m : MethodId} {args : Array Value} {below : List Frame} {meth : Method} {c : Code} {H : Heap} {locs : List Loc} {ls : Array Slot} {Q : State → Prop}
theorem rc_recv {w : CW} (rc : RepC E s w H) (hs : w.1[0]? = some (11, 13)) : ∃ cellB : Cell, H[E.2.1 + 0]? = some cellB ∧ cellB.vm.isStatics = false ∧ s.vm.findClass RX11 = some cellB.cls := by
  refine va_recv (q0 := 0) rc.1.2 rc.2.2.2.1 cls11.2.1 (fs := (List.range 13).map (fun j => fv E (tyF 11 j) (w.2.2.1 0 j) (w.2.2.2 0 j))) ?_
  rw [wl_at E w hs, cellO (by decide)]
theorem Q_isP {a : Int} (hE : Ext sh) (hL : Links R) (h : f_X11_isPerson M p1 = some a) (cx : CX m_pers p s m meth c) (rc : RepC E s (sh, false, R, M) H) (hS : va_S (fun q => E.2.1 ≤ q) s.heap H locs) (hl : lv_has ls 4 [(0, .ref (E.2.1 + 0)), (1, .int (Int32.ofInt p1)), (2, .int (Int32.ofInt p2))]) (o1 : r32 p1)
    (kk : ∀ H1 locs1, r32 a → RepC E s (sh, false, R, M) H1 → va_S (fun q => E.2.1 ≤ q) s.heap H1 locs1 → W p E.1 e m_pers.2.2.2.2 s m args below meth c H1 locs1 0 0 Q (F0 m 5 ls [.int (Int32.ofInt a)])) :
    W p E.1 e m_pers.2.2.2.2 s m args below meth c H locs 0 0 Q (F0 m 0 ls []) := by
  refine lv_aload_n (i := 0) cx.1 cx.2.1 dXp_0 rfl (lv_at hl 0 rfl) ?_
  refine lv_iload_n (i := 1) cx.1 cx.2.1 dXp_1 rfl (lv_at hl 1 rfl) ?_
  have hoA : okS [rV 0, iV p1] := fun u hu => by
    rcases List.mem_cons.mp hu with rfl | hu
    · exact trivial
    · rw [List.mem_singleton.mp hu]; exact o1
  have run := va_runV (As := [cv E (iV p1)]) (rest := ([] : List CV).map (cv E)) (b := E.2.1 + 0) (n := 1) (nL := 4) (cc := cX11_person) (own := RX11) (Ts := []) (g := F0 m 2 ls (([iV p1, rV 0] : List CV).map (cv E))) (H := H) (locs := locs) (e := e) (below := below) (meth := meth) (cells := 0) (slots := 0) (C := RX11) ⟨cx.1, cx.2.1, cx.2.2.2.1, cx.2.2.2.2.1, fun _ h => by cases h⟩ (c_X11_isPerson (E := E) (sh := sh) (ex := false) (R := R) hE hL a h) ⟨callB (md := m_pers) (md' := m_X11_isPerson) (mc := 0) (ms := 0) (k := 0) (n := 0) (args := args) rc mm_X11_isPerson.1 wm_11_135 ⟨rfl, rfl, by decide, by decide, by decide, by decide⟩, rc.1.1.use mm_X11_isPerson.2.1, rc.1.1.use mm_X11_isPerson.2.2⟩ ⟨Pblind, rc_recv rc (hE _ _ sk_11), fun U hU hW => ⟨rfl, hoA, rc.enter hU hW, by rw [hU]; exact rc.2.2.2.2.2.2⟩⟩ rfl rfl hl.1 rfl (Nat.le_of_ble_eq_true rfl) dXp_2 ⟨by decide, by decide⟩
  refine run_fin (rest := []) run rc hS ?_
  rintro r w' H1 locs1 ⟨hr1, hr2⟩ hok rc' hS'
  subst hr1
  subst hr2
  exact kk H1 locs1 (hok _ rfl) rc' hS'
theorem Q_get {md : MD} {ci kf N idx a k n pc : Nat} {C : String} {T : u_T} {v : CV} {S : List Value} (cx : CX md p s m meth c) (rc : RepC E s (sh, false, R, M) H) (hc : Cls ci C T N) (hk : kf < N) (hf : Cond.fieldLink md.1.cls idx (T kf).1 (T kf).2.1 (T kf).2.2.1 ∈ TS) (hsh : sh[a]? = some (ci, N)) (hv : fv E (tyF ci kf) (R a kf) (M a kf) = cv E v)
    (hd : decode md.2.1 pc = .ok (.getfield idx, 3)) (kk : W p E.1 e md.2.2.2.2 s m args below meth c H locs k n Q (F0 m (pc + 3) ls (cv E v :: S))) : W p E.1 e md.2.2.2.2 s m args below meth c H locs k n Q (F0 m pc ls (.ref (E.2.1 + a) :: S)) := by
  obtain ⟨c1, c2, c3, c4, c5⟩ := hc
  have he : (wl E (sh, false, R, M))[a]? = some (E.2.1 + a, .inr (ci, (List.range N).map (fun j => fv E (tyF ci j) (R a j) (M a j)))) := by
    rw [wl_at E (sh, false, R, M) hsh, cellO c1]
  have hval : ((List.range N).map (fun j => fv E (tyF ci j) (R a j) (M a j)))[kf]? = some (cv E v) := by
    rw [List.getElem?_map, List.getElem?_range hk, ← hv]; rfl
  exact va_get cx.1 cx.2.1 (rc.hts args) c3 cx.2.2.2.2.1 rc.1.2 rc.2.2.2.1 a he c2 kf hk (rc.1.1.use hf) (fun _ h => h) hval hd kk
end QW
theorem xF {w : CW} {s t : State} {H : Heap} {locs : List Loc} {cls : String} (rc : RepC E s w H) (hS : va_S (fun q => E.2.1 ≤ q) s.heap H locs) (hsz : H.size ≤ t.heap.size) (hk : ∀ q : Nat, q < H.size → t.heap[q]? = H[q]?) : pXC E cls w cls s t :=
  ⟨rfl, rc.2.2.2.1.kept (fun j q hj => hk q.1 (vx_lt rc.2.2.2.1 hj)), Nat.le_trans hS.1 hsz, fun q h1 h2 => (hk q (Nat.lt_of_lt_of_le h1 hS.1)).trans (hS.2.1 q h1 h2)⟩
/-- nobody: it throws -/
theorem c_noP (hst : E.1.stackTraces = false) (hE : Ext sh) (hL : Links R) (h : f_X11_isPerson M p1 = some 0) : vx_Met E.1 yX11_person [.code yX11_person cX11_person 4 (some .int)] m_pers.2.2.2.2 (PcP E [rV 0, iV p1, iV p2] (sh, false, R, M)) (fun _ _ _ _ => False) (pXC E cIO (sh, false, R, M)) 1 6 (fun q => E.2.1 ≤ q) := by
  refine vx_ofW (cc := cX11_person) (maxL := 4) (ret := some .int) (by decide) rfl ?_
  intro p e s m as below meth c s₁ B hml ht hv
  obtain ⟨rfl, ho, hR, hb⟩ := hv
  rw [lg_entry_eq]
  have hl := lv_entry (([rV 0, iV p1, iV p2] : List CV).map (cv E)) (n := 4) (Nat.le_of_ble_eq_true rfl)
  have cx : CX m_pers p s m meth c := ⟨B.exec, B.bytes, B.returns, hml, findClass_of_methodNamed B.named, B.notSynchronized, (name_of_methodNamed B.named B.method).1⟩
  refine Q_isP (p2 := p2) hE hL h cx hR va_S.rf hl (ho (iV p1) (by simp)) ?_
  intro H1 locs1 _ rc1 hS1
  refine lv_if_ne (x := Int32.ofInt 0) (tgt := 18) cx.1 cx.2.1 dXp_5 (by decide) (fun q => absurd rfl q) (fun _ => ?_)
  obtain ⟨sa, hstr⟩ := nr_ref1 rc1
  obtain ⟨zU, zN⟩ := nr_sent rc1 hS1 hb
  exact vx_throwS (cc := cX11_person) (own := RX11) (cls := cIO) (text := "no such person") (names := exN) (ik := 143) (is := 145) (ic := 147) (sa := sa) (A := fun q => E.2.1 ≤ q) cx.1 cx.2.1 hst cx.2.2.2.2.1 (by decide) (by decide) (rc1.1.1.use wp_k1) (rc1.1.1.use wp_i1) hstr (vx_hat (fun w hw => rc1.1.1.use (wp_a1 w hw)) wp_n1 (nr_B rc1 wp_b1)) wp_g1 zU zN hS1 (hl.1.trans cx.2.2.2.1.symm) dXp_8 dXp_11 dXp_12 dXp_14 dXp_17 (fun x hx => (ht x hx).elim) (by decide) (by decide) (by decide) (by decide) cx.2.2.2.2.2.1 (fun t al hsz hk => xF rc1 hS1 hsz hk) hS1.2.2 (by decide) (by decide)
/-- no such thing is asked: it throws -/
theorem c_noW {a : Int} {b : Nat} (hst : E.1.stackTraces = false) (hE : Ext sh) (hL : Links R) (h : f_X11_isPerson M p1 = some a) (ha : a ≠ 0) (hb8 : b = 8 ∨ b = 31) (hz : M 0 3 = (b : Int)) (hp : p2 < 0 ∨ 6 < p2) : vx_Met E.1 yX11_person [.code yX11_person cX11_person 4 (some .int)] m_pers.2.2.2.2 (PcP E [rV 0, iV p1, iV p2] (sh, false, R, M)) (fun _ _ _ _ => False) (pXC E cNS (sh, false, R, M)) 1 6 (fun q => E.2.1 ≤ q) := by
  refine vx_ofW (cc := cX11_person) (maxL := 4) (ret := some .int) (by decide) rfl ?_
  intro p e s m as below meth c s₁ B hml ht hv
  obtain ⟨rfl, ho, hR, hb⟩ := hv
  rw [lg_entry_eq]
  have hl := lv_entry (([rV 0, iV p1, iV p2] : List CV).map (cv E)) (n := 4) (Nat.le_of_ble_eq_true rfl)
  have cx : CX m_pers p s m meth c := ⟨B.exec, B.bytes, B.returns, hml, findClass_of_methodNamed B.named, B.notSynchronized, (name_of_methodNamed B.named B.method).1⟩
  have o2 : r32 p2 := ho (iV p2) (by simp)
  refine Q_isP (p2 := p2) hE hL h cx hR va_S.rf hl (ho (iV p1) (by simp)) ?_
  intro H1 locs1 oa rc1 hS1
  refine lv_if_ne (x := Int32.ofInt a) (tgt := 18) cx.1 cx.2.1 dXp_5 (by decide) (fun _ => ?_) (fun q => absurd ((eqI oa r0).mp (q.trans z32.symm)) ha)
  refine lv_aload_n (i := 0) cx.1 cx.2.1 dXp_18 rfl (lv_at hl 0 rfl) ?_
  refine Q_get (v := rV b) cx rc1 cls11 (by decide) wf_11_27 (hE _ _ sk_11) (by rw [hz]; exact fv_H (hkp hb8)) dXp_19 ?_
  refine Q_get (v := rV (b + 6)) cx rc1 cls2 (by decide) wf_11_127 (hE _ _ (hks hb8)) (by rw [fv_rf rfl, lk_2_1 hL (hks hb8)]; rfl) dXp_22 ?_
  refine lv_astore_n (i := 3) cx.1 cx.2.1 dXp_25 rfl hl (by decide) rfl (fun ls' hl' => ?_)
  refine lv_iload_n (i := 2) cx.1 cx.2.1 dXp_26 rfl (lv_at hl' 3 rfl) ?_
  refine lv_tableOut (tgt := 133) cx.1 cx.2.1 dXp_27 (by rw [tIr o2]; exact hp) (by decide) ?_
  obtain ⟨sa, hstr⟩ := nr_ref2 rc1
  obtain ⟨zU, zN⟩ := nr_sent rc1 hS1 hb
  exact xs_throwS (cc := cX11_person) (own := RX11) (cls := cNS) (text := "no such what") (Y := "java/lang/RuntimeException") (r := ["java/lang/Exception"]) (ix := 13) (rx := prog_29_method_4_code) (ik := 173) (is := 175) (ic := 177) (sa := sa) (A := fun q => E.2.1 ≤ q) cx.1 cx.2.1 hst cx.2.2.2.2.1 (by decide) (by decide) (by decide) (by decide +kernel) (by decide +kernel) (by decide +kernel) (by decide +kernel) (rc1.1.1.use wp_k2) (rc1.1.1.use wp_i2) hstr (vx_hat (fun w hw => rc1.1.1.use (wp_a2 w hw)) wp_n2 (nr_B rc1 wp_b2)) wp_g2 zU zN hS1 (hl'.1.trans cx.2.2.2.1.symm) dXp_133 dXp_136 dXp_137 dXp_139 dXp_142 (fun x hx => (ht x hx).elim) (by decide) (by decide) (by decide) (by decide) cx.2.2.2.2.2.1 (fun t al hsz hk => xF rc1 hS1 hsz hk) hS1.2.2 (by decide) (by decide)
end PERS
