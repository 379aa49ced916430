def m_Lp : MD := (yL_person, cL_person, 5, some .int, { frames := 8, cells := 2, slots := 16, locals := 150 })
section LPERS
variable {E : EE} {sh : List (Nat × Nat)} {R : RM} {M : MM} {p1 p2 : Int}
theorem c_Lret (hE : Ext sh) (hL : Links R) (hO : sh[139]? = some (53, 1)) {v : Int} (hv : f_pv M p1 p2 = some v) : Seg E m_Lp 2 16 (some ()) (fun K _ => K (some (iV 0)) (sh, false, R, upM M 139 0 v)) 0 [some (rV 0), some (iV p1), some (iV p2), some (rV 139), none] [] (sh, false, R, M) 0 0 := by
  refine Seg.step (pc' := 1) (I_aload_n (i := 3) dLp_0 rfl rfl) ?_
  refine Seg.step (pc' := 2) (I_iconst dLp_1 ⟨by decide, by decide⟩) ?_
  refine Seg.step (pc' := 3) (I_aload_n (i := 0) dLp_2 rfl rfl) ?_
  refine Seg.step (pc' := 4) (I_iload_n (i := 1) dLp_3 rfl rfl) ?_
  refine Seg.step (pc' := 5) (I_iload_n (i := 2) dLp_4 rfl rfl) ?_
  refine S_callV2 (md' := m_pers) (mc' := 1) (ms' := 6) (o1 := some ()) (kk := fun _ => some ()) (fun _ => some (iV v)) (fun _ => (sh, false, R, M)) (hE _ _ sk_11) ⟨by decide, rfl⟩ mm_pers wp_7 ⟨rfl, rfl, by decide, by decide, by decide, by decide⟩ (Nat.le_of_ble_eq_true rfl) dLp_5 (fun _ _ => c_pers hE hL v hv) (fun _ => ?_)
  refine Seg.step (pc' := 9) (I_i2l dLp_8) ?_
  refine Seg.step (pc' := 10) (I_last (N := 1) hO ⟨by decide, by decide⟩ dLp_9) ?_
  refine Seg.step (pc' := 21) (I_goto (tgt := 21) dLp_10 (by decide)) ?_
  refine Seg.step (pc' := 22) (I_iconst dLp_21 ⟨by decide, by decide⟩) ?_
  exact S_iret dLp_22 rfl (by decide) (by decide) (fun K hK => hK)
section LQ
variable {p : Program} {e : Env} {s : State} {m : MethodId} {args : Array Value} {below : List Frame} {meth : Method} {c : Code} {H : Heap} {locs : List Loc} {ls : Array Slot} {Q : State → Prop}
/-- person throws; what comes over this frame -/
theorem Q_thrown {cls : String} (hE : Ext sh) (cx : CX m_Lp p s m meth c) (rc : RepC E s (sh, false, R, M) H) (hS : va_S (fun q => E.2.1 ≤ q) s.heap H locs) (hl : lv_has ls 5 [(0, .ref (E.2.1 + 0)), (1, .int (Int32.ofInt p1)), (2, .int (Int32.ofInt p2)), (3, .ref (E.2.1 + 139))]) (o1 : r32 p1) (o2 : r32 p2)
    (hM : vx_Met E.1 yX11_person [.code yX11_person cX11_person 4 (some .int)] m_pers.2.2.2.2 (PcP E [rV 0, iV p1, iV p2] (sh, false, R, M)) (fun _ _ _ _ => False) (pXC E cls (sh, false, R, M)) 1 6 (fun q => E.2.1 ≤ q))
    (kk : ∀ H1 locs1 q ce, RepC E s (sh, false, R, M) H1 → va_S (fun q => E.2.1 ≤ q) s.heap H1 locs1 → H1[q]? = some ce → ce.vm = .none → s.vm.findClass cls = some ce.cls → vx_W p E.1 e m_Lp.2.2.2.2 s m args below meth c H1 locs1 1 6 Q (F0 m 5 ls [.int (Int32.ofInt 0), .ref (E.2.1 + 139)]) q) :
    W p E.1 e m_Lp.2.2.2.2 s m args below meth c H locs 0 0 Q (F0 m 0 ls []) := by
  refine lv_aload_n (i := 3) cx.1 cx.2.1 dLp_0 rfl (lv_at hl 3 rfl) ?_
  refine lv_iconst (v := Int32.ofInt 0) cx.1 cx.2.1 dLp_1 rfl ?_
  refine lv_aload_n (i := 0) cx.1 cx.2.1 dLp_2 rfl (lv_at hl 0 rfl) ?_
  refine lv_iload_n (i := 1) cx.1 cx.2.1 dLp_3 rfl (lv_at hl 1 rfl) ?_
  refine lv_iload_n (i := 2) cx.1 cx.2.1 dLp_4 rfl (lv_at hl 2 rfl) ?_
  have hoA : okS [rV 0, iV p1, iV p2] := fun u hu => by
    rcases List.mem_cons.mp hu with rfl | hu
    · exact trivial
    · rcases List.mem_cons.mp hu with rfl | hu
      · exact o1
      · rw [List.mem_singleton.mp hu]; exact o2
  have run := vx_runV (As := [cv E (iV p1), cv E (iV p2)]) (rest := [.int (Int32.ofInt 0), .ref (E.2.1 + 139)]) (b := E.2.1 + 0) (n := 2) (nL := 5) (cc := cL_person) (own := RL) (Ts := []) (g := F0 m 5 ls [.int (Int32.ofInt p2), .int (Int32.ofInt p1), .ref (E.2.1 + 0), .int (Int32.ofInt 0), .ref (E.2.1 + 139)]) (H := H) (locs := locs) (e := e) (below := below) (meth := meth) (cells := 0) (slots := 0) (C := RX11) ⟨cx.1, cx.2.1, cx.2.2.2.1, cx.2.2.2.2.1, fun _ h => by cases h⟩ hM ⟨callB (md := m_Lp) (md' := m_pers) (mc := 2) (ms := 16) (k := 0) (n := 0) (args := args) rc mm_pers.1 wp_7 ⟨rfl, rfl, by decide, by decide, by decide, by decide⟩, rc.1.1.use mm_pers.2.1, rc.1.1.use mm_pers.2.2⟩ ⟨Pblind, rc_recv rc (hE _ _ sk_11), fun U hU hW => ⟨rfl, hoA, rc.enter hU hW, by rw [hU]; exact rc.2.2.2.2.2.2⟩⟩ rfl rfl hl.1 rfl (Nat.le_of_ble_eq_true rfl) dLp_5 ⟨by decide, by decide⟩
  intro T hT X9
  rcases run T hT X9 with ⟨v, st₀, t1, T', L', h0, X', hL', e1, e2, hf, st⟩ | ⟨q, st₀, t1, T', L', C, ce, h0, X', hL', e1, e2, ⟨hC, hP, hF⟩, hce, hcv, hcl, st⟩
  · exact hf.elim
  subst hC
  have hsz : H.size ≤ t1.heap.size := by rw [← h0]; exact hF.1
  have hkeep : ∀ q : Nat, q < H.size → ¬ E.2.1 ≤ q → t1.heap[q]? = H[q]? := fun q h1 h2 => by rw [← h0]; exact hF.2 q (by rw [h0]; exact h1) h2
  have hbase : E.2.1 ≤ H.size := rc.2.2.2.2.2.2
  obtain ⟨r1, ⟨scr, x1, x2⟩, ⟨r3, nr⟩, -, r5, -⟩ := rc
  have hRC : RepC E s (sh, false, R, M) t1.heap := ⟨r1, ⟨scr, by rw [hkeep _ (by omega) (by omega)]; exact x1, x2⟩, ⟨r3, nr.kept (fun a ha => hkeep a (by omega) (by omega))⟩, hP, r5, (fun z => Bool.noConfusion z), by omega⟩
  have hS' : va_S (fun q => E.2.1 ≤ q) s.heap t1.heap (locs ++ L') := by
    refine ⟨Nat.le_trans hS.1 hsz, fun q h1 h2 => ?_, fun q hq => ?_⟩
    · rw [hkeep q (Nat.lt_of_lt_of_le h1 hS.1) h2]
      exact hS.2.1 q h1 h2
    · rcases List.mem_append.mp hq with h | h
      · exact hS.2.2 q h
      · exact hL' q h
  obtain ⟨t2, a1, b1⟩ := kk t1.heap (locs ++ L') q ce hRC hS' hce hcv hcl T' e1 X'
  exact ⟨t2, st.trans a1, b1⟩
end LQ
theorem c_Lp (hst : E.1.stackTraces = false) (hE : Ext sh) (hL : Links R) (hO : sh[139]? = some (53, 1)) : ∀ y, f_Lperson M p1 p2 = some y → Met E.1 yL_person [.codeWith yL_person cL_person 5 (some .int) hhL] m_Lp.2.2.2.2 (PcP E [rV 0, iV p1, iV p2, rV 139] (sh, false, R, M)) (QQ E (fun r w' => r = some (iV y.1) ∧ w' = (sh, false, R, y.2))) 2 16 (fun q => E.2.1 ≤ q) := by
  intro y hy
  refine va_MetW (cc := cL_person) (maxL := 5) (ret := some .int) (hh := hhL) (by decide) rfl ?_
  intro p e s m as below meth c s₁ B hml hv
  obtain ⟨rfl, ho, hR, hb⟩ := hv
  have htab : c.exceptionTable.toList = tableOf hhL := vx_table (x := yL_person) B (hR.1.1.use wp_cw)
  rw [lg_entry_eq]
  have hl := lv_entry (([rV 0, iV p1, iV p2, rV 139] : List CV).map (cv E)) (n := 5) (Nat.le_of_ble_eq_true rfl)
  have cx : CX m_Lp p s m meth c := ⟨B.exec, B.bytes, B.returns, hml, findClass_of_methodNamed B.named, B.notSynchronized, (name_of_methodNamed B.named B.method).1⟩
  have o1 : r32 p1 := ho (iV p1) (by simp)
  have o2 : r32 p2 := ho (iV p2) (by simp)
  rcases pers_cases hy with ⟨h0, rfl⟩ | ⟨v, hv, rfl⟩ | ⟨a, b, ha, ha0, hb8, hz, hp2, rfl⟩
  · refine Q_thrown (cls := cIO) hE cx hR va_S.rf hl o1 o2 (c_noP hst hE hL h0) ?_
    intro H1 locs1 q ce rc1 hS1 hce hcv hcl
    refine vx_catch (own := RL) (name := cIO) (E := cIO) (ce := ce) cx.2.2.2.2.1 [] ⟨0, 10, 13, 13⟩ [⟨0, 10, 17, 15⟩] htab (fun z hz => nomatch hz) (by decide) (by decide) (rc1.1.1.use wp_l1) (nr_B (X := cIO) rc1 wp_b1 _ (by simp [exB])) hce hcv hcl ?_
    refine lv_astore (i := 4) cx.1 cx.2.1 dLp_13 hl (by decide) rfl (fun ls' hl' => ?_)
    refine lv_iconst (v := Int32.ofInt 1) cx.1 cx.2.1 dLp_15 rfl ?_
    exact W.widen (k := 2) (n := 16) (by decide) (by decide) (W.iret cx.1 cx.2.1 (cx.2.2.1.trans rfl) (fun t1 e1 hW => ⟨⟨some (iV 1), (sh, false, R, M), rfl, ⟨rfl, rfl⟩, fun v hv => by cases hv; exact ⟨by decide, by decide⟩, rc1.back e1 hW⟩, hS1.F e1⟩) hS1.2.2 dLp_16 cx.2.2.2.2.2.1)
  · exact c_Lret hE hL hO hv _ () rfl ⟨rfl, rfl⟩ p e s m _ below meth c s.heap [] _ cx hR va_S.rf hb hl (fun u hu => ho u (by simpa [eq_comm] using hu)) (fun u hu => by cases hu)
  · refine Q_thrown (cls := cNS) hE cx hR va_S.rf hl o1 o2 (c_noW hst hE hL ha ha0 hb8 hz hp2) ?_
    intro H1 locs1 q ce rc1 hS1 hce hcv hcl
    refine vx_catch (own := RL) (name := cNS) (E := cNS) (ce := ce) cx.2.2.2.2.1 [⟨0, 10, 13, 13⟩] ⟨0, 10, 17, 15⟩ [] htab (fun z hz => by rw [List.mem_singleton.mp hz]; exact Or.inr ⟨by decide, cIO, rc1.1.1.use wp_l1, nr_nc rc1⟩) (by decide) (by decide) (rc1.1.1.use wp_l2) (nr_B (X := cNS) rc1 wp_b2 _ (by simp [exB])) hce hcv hcl ?_
    refine lv_astore (i := 4) cx.1 cx.2.1 dLp_17 hl (by decide) rfl (fun ls' hl' => ?_)
    refine lv_iconst (v := Int32.ofInt 2) cx.1 cx.2.1 dLp_19 rfl ?_
    exact W.widen (k := 2) (n := 16) (by decide) (by decide) (W.iret cx.1 cx.2.1 (cx.2.2.1.trans rfl) (fun t1 e1 hW => ⟨⟨some (iV 2), (sh, false, R, M), rfl, ⟨rfl, rfl⟩, fun v hv => by cases hv; exact ⟨by decide, by decide⟩, rc1.back e1 hW⟩, hS1.F e1⟩) hS1.2.2 dLp_20 cx.2.2.2.2.2.1)
end LPERS
theorem wp_iL : Cond.initialized RL ∈ TS := by decide +kernel
theorem pers_ok : PersOK := fun E sh R M p1 p2 L k n hst hE hL hO hk hn y hy => by
  intro K g p e s m args below meth c H locs ls cx rc hS hb hl ol os
  have hoA : okS [rV 0, iV p1, iV p2, rV 139] := fun u hu => os u (by simp only [List.mem_cons, List.not_mem_nil, or_false] at hu ⊢; rcases hu with rfl | rfl | rfl | rfl <;> simp)
  have run := vx_runSW (As := ([rV 0, iV p1, iV p2, rV 139] : List CV).map (cv E)) (rest := ([] : List CV).map (cv E)) (n := 4) (nL := 7) (cc := code) (own := RL) (index := 39) (hh := hhL) (bytes := cL_person) (maxL := 5) (ret := some .int) (Ts := []) (g := F0 m 402 ls (([rV 139, iV p2, iV p1, rV 0] : List CV).map (cv E))) (H := H) (locs := locs) (e := e) (below := below) (meth := meth) (args := args) (R := room_1) (cells := k) (slots := n) ⟨cx.1, cx.2.1, cx.2.2.2.1, cx.2.2.2.2.1, fun _ h => by cases h⟩ (c_Lp hst hE hL hO y hy)
    ⟨⟨rfl, rfl, by decide, by decide, fun w hw a' U hW => by rw [List.mem_singleton.mp hw]; exact (rc.1.1.warm hW).use wp_cw, List.mem_cons_self⟩, rc.1.1.use wp_cw, rc.1.1.use wp_iL, ⟨by decide, by decide⟩, fun sig h => by
      have q : (parseMethodDescriptor yL_person.desc).map (fun d => d.parameters.length) = some 4 := by decide +kernel
      rw [h] at q
      exact (Option.some.inj q).symm, rc.1.1.use wp_39, rc.1.1.use wp_st⟩
    ⟨Pblind, fun U hU hW => ⟨rfl, hoA, rc.enter hU hW, by rw [hU]; exact rc.2.2.2.2.2.2⟩⟩ rfl rfl hl.1 rfl (Nat.le_of_ble_eq_true rfl) dL_law_402 ⟨hk, hn⟩
  refine run_fin (rest := []) run rc hS ?_
  rintro r w' H1 locs1 ⟨hr1, hr2⟩ hok rc' hS'
  subst hr1
  subst hr2
  exact g p e s m args below meth c H1 locs1 ls cx rc' hS' hb hl ol (fun u hu => hok u (by rw [List.mem_singleton.mp hu]))
