section PUT
variable {E : EE} {md : MD} {mc ms : Nat} {pc : Nat} {L : List (Option CV)} {S : List CV} {k n : Nat} {sh : List (Nat × Nat)} {ex : Bool} {R R' : RM} {M M' : MM}
theorem ne_b {E : EE} {s : State} {w : CW} {H : Heap} (h : RepC E s w H) (a : Nat) : E.2.2.2.2.1 ≠ E.2.1 + a := by
  have := h.2.2.1.1; omega
theorem I_put {ci kf N idx a : Nat} {C : String} {T : u_T} {v : CV} (hc : Cls ci C T N) (hk : kf < N) (hf : Cond.fieldLink md.1.cls idx (T kf).1 (T kf).2.1 (T kf).2.2.1 ∈ TS) (hsh : sh[a]? = some (ci, N)) (hfin : (T kf).2.2.2 = false ∨ ((T kf).2.2.2 = true ∧ md.1.name = "<init>" ∧ (T kf).1 = md.1.cls))
    (hR : ∀ x j, ¬ (x = a ∧ j = kf) → R' x j = R x j) (hM : ∀ x j, ¬ (x = a ∧ j = kf) → M' x j = M x j) (hv : fv E (tyF ci kf) (R' a kf) (M' a kf) = cv E v) (hn : narrow (tyF ci kf) (cv E v) = cv E v) (hfit : fits (tyF ci kf) (cv E v) = true) (ho : okv v → okf (tyF ci kf) (M' a kf))
    (hd : decode md.2.1 pc = .ok (.putfield idx, 3)) : Sp E md mc ms pc L (v :: rV a :: S) (sh, ex, R, M) k n (pc + 3) L S (sh, ex, R', M') k n := by
  intro K g p e s m args below meth c H locs ls cx rc hS hb hl ol os
  have hx := hc
  obtain ⟨c1, c2, c3, c4, c5⟩ := hx
  have he : (wl E (sh, ex, R, M))[a]? = some (E.2.1 + a, .inr (ci, (List.range N).map (fun j => fv E (tyF ci j) (R a j) (M a j)))) := by
    rw [wl_at E (sh, ex, R, M) hsh, cellO c1]
  have hts := rc.hts args
  have hP := rc.2.2.2.1
  have hK := rc.1.2
  have hD := wl_D E (sh, ex, R, M)
  have hap := va_apart (own := md.1.cls) hts c3 (tyF ci) c4 c5 hK c2
  have hoW : okWd (sh, ex, R', M') := rc.2.2.2.2.1.put hsh hM (by rw [tyS_o c1]; exact ho os.h)
  obtain ⟨r, h1, cell, q1, q2, q3, q4⟩ := hP a _ he
  have hr : r = (C, T, N) := Option.some.inj (h1.symm.trans c2)
  subst hr
  obtain ⟨hSl, hfc, kC, hkC, hkind⟩ := hK.1 ci _ c2
  obtain ⟨cf, kf2, fi, f, hi, hsl⟩ := hSl kf hk
  have hst := (u_facts hfc hkC (u_lays hts c3 hk) hi).1
  have hlen : kf < ((List.range N).map (fun j => fv E (tyF ci j) (R a j) (M a j))).length := by simpa using hk
  have fin : ∀ H' : Heap, H'[E.2.1 + a]? = some (cell.setSlot (E.2.2.1.2 ci kf) (cv E v)) → H'.size = H.size → (∀ q, q ≠ E.2.1 + a → H'[q]? = H[q]?) → ∀ (locs' : List Loc), locs' = locs ++ [⟨E.2.1 + a, E.2.2.1.2 ci kf⟩] →
      W p E.1 e md.2.2.2.2 s m args below meth c H' locs' k n (MQ below (QQ E K) args s mc ms (fun q => E.2.1 ≤ q)) (F0 m (pc + 3) ls (S.map (cv E))) := by
    intro H' e1 e2 e3 locs' el
    have hP' := hP.set hD he (e := .inr (ci, ((List.range N).map (fun j => fv E (tyF ci j) (R a j) (M a j))).set kf (cv E v))) ⟨_, c2, t_OB.to (V := updV (vp_V ((List.range N).map (fun j => fv E (tyF ci j) (R a j) (M a j)))) kf (cv E v)) ⟨_, e1, q2, q3, t_set q4 hap hk (cv E v)⟩ (fun j _ => vp_updV_set hlen (cv E v) j)⟩ e3
    have hw : (wl E (sh, ex, R, M)).set a (E.2.1 + a, .inr (ci, ((List.range N).map (fun j => fv E (tyF ci j) (R a j) (M a j))).set kf (cv E v))) = wl E (sh, ex, R', M') := by
      rw [wl_set E sh ex R R' M M' hsh (fun x hx => funext fun j => hR x j (fun z => hx z.1)) (fun x hx => funext fun j => hM x j (fun z => hx z.1)), cellO c1, ← hv]
      rw [set_map (fun j => fv E (tyF ci j) (R a j) (M a j)) (fun j => fv E (tyF ci j) (R' a j) (M' a j)) hk (fun j hj => by
        show fv E _ (R' a j) (M' a j) = fv E _ (R a j) (M a j)
        rw [hR a j (fun z => hj z.2), hM a j (fun z => hj z.2)])]
    rw [hw] at hP'
    rw [el]
    exact g p e s m args below meth c H' _ ls cx (RepC.put (s0 := H) (locs := locs) (locs1 := locs) rc hP' e2 hoW (fun x hx => e3 x (by omega))) (hS.put e2 e3 (Nat.le_add_right _ _)) hb hl ol os.t.t
  rcases hfin with hfin | ⟨hfin, hin2, hdecl⟩
  · have hlay := hts _ (c3 _ (u_in_lay hk))
    unfold u_lay at hlay
    rw [if_neg (by rw [hfin]; decide)] at hlay
    have h6 := u_store hfc hkC hkind hlay hi (c4 kf hk) hn hfit
    refine W.putK cx.1 cx.2.1 (f := f) ⟨cx.2.2.2.2.1, rc.1.1.use hf, ⟨_, _, _, hi⟩, hst⟩ (by rw [q2]; exact h6) q1 q3 (by rw [hsl]; exact k2_hasslot (q4 kf hk)) rfl rfl hd fun H' e1 e2 e3 => ?_
    rw [hsl] at e1
    exact fin H' e1 e2 e3 _ (by rw [hsl])
  · have hlay := hts _ (c3 _ (u_in_lay hk))
    unfold u_lay at hlay
    rw [if_pos hfin] at hlay
    have hcf : m.cls = cf := by
      obtain ⟨_, _, c', _, _, _, -, -, hf', -, -, -, hown2, -⟩ := Cond.laysFinal_spec hlay
      have e1 : c' = cf := by have := hi.symm.trans hf'; simp at this; exact this.1.symm
      rw [hdecl] at hown2
      rw [← e1]; exact Option.some.inj (cx.2.2.2.2.1.symm.trans hown2)
    have h6 := u_fits hfc hkC hkind (Or.inr hlay) hi (c4 kf hk) hn hfit
    refine W.putFinK cx.1 cx.2.1 cx.2.2.2.2.1 (rc.1.1.use hf) hi hst hcf (cx.2.2.2.2.2.2.trans hin2) (by rw [q2]; exact h6) q1 q3 (by rw [hsl]; exact k2_hasslot (q4 kf hk)) rfl rfl hd fun H' e1 e2 e3 => ?_
    rw [hsl] at e1
    exact fin H' e1 e2 e3 _ (by rw [hsl])
theorem upM_ne {M : MM} {a i : Nat} {v : Int} (x j : Nat) (h : ¬ (x = a ∧ j = i)) : upM M a i v x j = M x j := if_neg h
theorem upM_eq {M : MM} {a i : Nat} {v : Int} : upM M a i v a i = v := if_pos ⟨rfl, rfl⟩
theorem upR_ne {M : RM} {a i : Nat} {v : Option Nat} (x j : Nat) (h : ¬ (x = a ∧ j = i)) : upR M a i v x j = M x j := if_neg h
theorem upR_eq {M : RM} {a i : Nat} {v : Option Nat} : upR M a i v a i = v := if_pos ⟨rfl, rfl⟩
theorem I_putI {ci kf N idx a : Nat} {C : String} {T : u_T} {x : Int} (hc : Cls ci C T N) (hk : kf < N) (hf : Cond.fieldLink md.1.cls idx (T kf).1 (T kf).2.1 (T kf).2.2.1 ∈ TS) (hsh : sh[a]? = some (ci, N)) (hv : tyF ci kf = .int) (hfin : (T kf).2.2.2 = false)
    (hd : decode md.2.1 pc = .ok (.putfield idx, 3)) : Sp E md mc ms pc L (iV x :: rV a :: S) (sh, ex, R, M) k n (pc + 3) L S (sh, ex, R, upM M a kf x) k n :=
  I_put hc hk hf hsh (Or.inl hfin) (fun _ _ _ => rfl) upM_ne (by rw [hv, upM_eq]; rfl) (by rw [hv]; rfl) (by rw [hv]; rfl) (by rw [hv, upM_eq]; exact id) hd
theorem I_putZ {ci kf N idx a : Nat} {C : String} {T : u_T} {x : Int} (hc : Cls ci C T N) (hk : kf < N) (hf : Cond.fieldLink md.1.cls idx (T kf).1 (T kf).2.1 (T kf).2.2.1 ∈ TS) (hsh : sh[a]? = some (ci, N)) (hv : tyF ci kf = .boolean) (hfin : (T kf).2.2.2 = false) (hz : x = 0 ∨ x = 1)
    (hd : decode md.2.1 pc = .ok (.putfield idx, 3)) : Sp E md mc ms pc L (iV x :: rV a :: S) (sh, ex, R, M) k n (pc + 3) L S (sh, ex, R, upM M a kf x) k n :=
  I_put hc hk hf hsh (Or.inl hfin) (fun _ _ _ => rfl) upM_ne (by rw [hv, upM_eq]; rfl) (by rw [hv]; exact (nar_Z hz).1) (by rw [hv]; exact (nar_Z hz).2) (by rw [hv, upM_eq]; exact fun _ => hz) hd
theorem I_putJ {ci kf N idx a : Nat} {C : String} {T : u_T} {x : Int} (hc : Cls ci C T N) (hk : kf < N) (hf : Cond.fieldLink md.1.cls idx (T kf).1 (T kf).2.1 (T kf).2.2.1 ∈ TS) (hsh : sh[a]? = some (ci, N)) (hv : tyF ci kf = .long) (hfin : (T kf).2.2.2 = false)
    (hd : decode md.2.1 pc = .ok (.putfield idx, 3)) : Sp E md mc ms pc L (jV x :: rV a :: S) (sh, ex, R, M) k n (pc + 3) L S (sh, ex, R, upM M a kf x) k n :=
  I_put hc hk hf hsh (Or.inl hfin) (fun _ _ _ => rfl) upM_ne (by rw [hv, upM_eq]; rfl) (by rw [hv]; rfl) (by rw [hv]; rfl) (by rw [hv, upM_eq]; exact id) hd
theorem nar_R {ty : FieldType} {a : Nat} (h : isRf ty = true) : narrow ty (.ref a) = .ref a ∧ fits ty (.ref a) = true := by
  cases ty <;> first | exact ⟨rfl, rfl⟩ | cases h
theorem I_putH {ci kf N idx a h : Nat} {C : String} {T : u_T} (hc : Cls ci C T N) (hk : kf < N) (hf : Cond.fieldLink md.1.cls idx (T kf).1 (T kf).2.1 (T kf).2.2.1 ∈ TS) (hsh : sh[a]? = some (ci, N)) (hv : tyF ci kf = .object "KnobHall$House") (hp : 0 < h) (hfin : (T kf).2.2.2 = false)
    (hd : decode md.2.1 pc = .ok (.putfield idx, 3)) : Sp E md mc ms pc L (rV h :: rV a :: S) (sh, ex, R, M) k n (pc + 3) L S (sh, ex, R, upM M a kf (h : Int)) k n :=
  I_put hc hk hf hsh (Or.inl hfin) (fun _ _ _ => rfl) upM_ne (by rw [hv, upM_eq, fv_H hp]; rfl) (by rw [hv]; rfl) (by rw [hv]; rfl) (by rw [hv, upM_eq]; exact fun _ => trivial) hd
theorem I_putR {ci kf N idx a b : Nat} {C : String} {T : u_T} (hc : Cls ci C T N) (hk : kf < N) (hf : Cond.fieldLink md.1.cls idx (T kf).1 (T kf).2.1 (T kf).2.2.1 ∈ TS) (hsh : sh[a]? = some (ci, N)) (hv : isRf (tyF ci kf) = true) (hfin : (T kf).2.2.2 = false ∨ ((T kf).2.2.2 = true ∧ md.1.name = "<init>" ∧ (T kf).1 = md.1.cls))
    (hd : decode md.2.1 pc = .ok (.putfield idx, 3)) : Sp E md mc ms pc L (rV b :: rV a :: S) (sh, ex, R, M) k n (pc + 3) L S (sh, ex, upR R a kf (some b), M) k n :=
  I_put hc hk hf hsh hfin upR_ne (fun _ _ _ => rfl) (by rw [fv_rf hv, upR_eq]; rfl) (nar_R hv).1 (nar_R hv).2 (fun _ => okf_rf hv) hd
theorem taE_at {E : EE} {q : Nat} (h : q = 50 ∨ q = 51 ∨ q = 52 ∨ q = 53) : (taE E)[q - 50]? = some (E.2.2.2.1 q, tyA q) := by
  rcases h with rfl | rfl | rfl | rfl <;> rfl
theorem I_iald {a N : Nat} {i : Int} (hsh : sh[a]? = some (50, N)) (hi : 0 ≤ i ∧ i < (N : Int)) (hd : decode md.2.1 pc = .ok (.iaload, 1)) : Sp E md mc ms pc L (iV i :: rV a :: S) (sh, ex, R, M) k n (pc + 1) L (iV (M a i.toNat) :: S) (sh, ex, R, M) k n := by
  intro K g p e s m args below meth c H locs ls cx rc hS hb hl ol os
  have he : (wl E (sh, ex, R, M))[a]? = some (E.2.1 + a, .inl (E.2.2.2.1 50, N, .inl (fun i => Int32.ofInt (M a i)))) := by
    rw [wl_at E (sh, ex, R, M) hsh, cellI (by omega) (by omega)]
  refine va_iald cx.1 cx.2.1 rc.1.2 rc.2.2.2.1 a 0 he rfl (inI os.h hi) hd ?_
  rw [clI os.h]
  have h2 := (rc.2.2.2.2.1 a _ hsh).2 i.toNat
  exact g p e s m args below meth c H locs ls cx rc hS hb hl ol (okS.c h2 os.t.t)
theorem I_zald {a N : Nat} {i : Int} (hsh : sh[a]? = some (51, N)) (hi : 0 ≤ i ∧ i < (N : Int)) (hd : decode md.2.1 pc = .ok (.baload, 1)) : Sp E md mc ms pc L (iV i :: rV a :: S) (sh, ex, R, M) k n (pc + 1) L (iV (M a i.toNat) :: S) (sh, ex, R, M) k n := by
  intro K g p e s m args below meth c H locs ls cx rc hS hb hl ol os
  have he : (wl E (sh, ex, R, M))[a]? = some (E.2.1 + a, .inl (E.2.2.2.1 51, N, .inl (fun i => Int32.ofInt (M a i)))) := by
    rw [wl_at E (sh, ex, R, M) hsh, cellI (by omega) (by omega)]
  refine va_zald cx.1 cx.2.1 rc.1.2 rc.2.2.2.1 a 1 he rfl (inI os.h hi) hd ?_
  rw [clI os.h]
  have h2 : okf .boolean (M a i.toNat) := (rc.2.2.2.2.1 a _ hsh).2 i.toNat
  exact g p e s m args below meth c H locs ls cx rc hS hb hl ol (okS.c (by rcases h2 with h | h <;> (show r32 _; rw [h]; unfold r32; omega)) os.t.t)
theorem I_bald {a N : Nat} {i : Int} (hsh : sh[a]? = some (52, N)) (hi : 0 ≤ i ∧ i < (N : Int)) (hd : decode md.2.1 pc = .ok (.baload, 1)) : Sp E md mc ms pc L (iV i :: rV a :: S) (sh, ex, R, M) k n (pc + 1) L (iV (M a i.toNat) :: S) (sh, ex, R, M) k n := by
  intro K g p e s m args below meth c H locs ls cx rc hS hb hl ol os
  have he : (wl E (sh, ex, R, M))[a]? = some (E.2.1 + a, .inl (E.2.2.2.1 52, N, .inl (fun i => Int32.ofInt (M a i)))) := by
    rw [wl_at E (sh, ex, R, M) hsh, cellI (by omega) (by omega)]
  refine va_bald cx.1 cx.2.1 rc.1.2 rc.2.2.2.1 a 2 he rfl (inI os.h hi) hd ?_
  rw [clI os.h]
  have h2 : okf .byte (M a i.toNat) := (rc.2.2.2.2.1 a _ hsh).2 i.toNat
  exact g p e s m args below meth c H locs ls cx rc hS hb hl ol (okS.c (by have h3 : -128 ≤ M a i.toNat ∧ M a i.toNat < 128 := h2; show r32 _; unfold r32; omega) os.t.t)
theorem I_lald {a N : Nat} {i : Int} (hsh : sh[a]? = some (53, N)) (hi : 0 ≤ i ∧ i < (N : Int)) (hd : decode md.2.1 pc = .ok (.laload, 1)) : Sp E md mc ms pc L (iV i :: rV a :: S) (sh, ex, R, M) k n (pc + 1) L (jV (M a i.toNat) :: S) (sh, ex, R, M) k n := by
  intro K g p e s m args below meth c H locs ls cx rc hS hb hl ol os
  have he : (wl E (sh, ex, R, M))[a]? = some (E.2.1 + a, .inl (E.2.2.2.1 53, N, .inr (.inl (fun i => Int64.ofInt (M a i))))) := by
    rw [wl_at E (sh, ex, R, M) hsh, cellJ]
  refine va_lald cx.1 cx.2.1 rc.1.2 rc.2.2.2.1 a 3 he rfl (inI os.h hi) hd ?_
  rw [clI os.h]
  have h2 := (rc.2.2.2.2.1 a _ hsh).2 i.toNat
  exact g p e s m args below meth c H locs ls cx rc hS hb hl ol (okS.c h2 os.t.t)
theorem I_alen {a q N : Nat} (hsh : sh[a]? = some (q, N)) (hq : q = 50 ∨ q = 51 ∨ q = 52) (hN : r32 (N : Int)) (hd : decode md.2.1 pc = .ok (.arraylength, 1)) : Sp E md mc ms pc L (rV a :: S) (sh, ex, R, M) k n (pc + 1) L (iV (N : Int) :: S) (sh, ex, R, M) k n := by
  intro K g p e s m args below meth c H locs ls cx rc hS hb hl ol os
  have he : (wl E (sh, ex, R, M))[a]? = some (E.2.1 + a, .inl (E.2.2.2.1 q, N, .inl (fun i => Int32.ofInt (M a i)))) := by
    rw [wl_at E (sh, ex, R, M) hsh, cellI (by omega) (by omega)]
  exact va_alen cx.1 cx.2.1 rc.1.2 rc.2.2.2.1 a (q - 50) he (taE_at (by omega)) (v := Int32.ofInt (N : Int)) rfl hd (g p e s m args below meth c H locs ls cx rc hS hb hl ol (okS.c hN os.t))
theorem RepC.arr {E : EE} {s : State} {a : Nat} {q : Nat × Nat} {H H1 : Heap} (h : RepC E s (sh, ex, R, M) H) (hsh : sh[a]? = some q) {j : Nat} {v : Int} (ho : okf (tyS q.1 j) v) (hat : va_at E.2.2.1 vwCl (E.2.1 + a, cellE E R (upM M a j v) a q) H1) (hz : H1.size = H.size) (oq : ∀ x, x ≠ E.2.1 + a → H1[x]? = H[x]?) : RepC E s (sh, ex, R, upM M a j v) H1 := by
  have hP' := h.2.2.2.1.set (wl_D E (sh, ex, R, M)) (wl_at E (sh, ex, R, M) hsh) hat oq
  rw [← wl_set E sh ex R R M (upM M a j v) hsh (fun _ _ => rfl) (fun x hx => funext fun i => upM_ne x i (fun z => hx z.1))] at hP'
  exact RepC.put (s0 := H) (locs := []) (locs1 := []) h hP' hz (h.2.2.2.2.1.put hsh upM_ne (by rw [upM_eq]; exact ho)) (fun x hx => oq x (by omega))
theorem I_iast {a N : Nat} {i x : Int} (hsh : sh[a]? = some (50, N)) (hi : 0 ≤ i ∧ i < (N : Int)) (hd : decode md.2.1 pc = .ok (.iastore, 1)) : Sp E md mc ms pc L (iV x :: iV i :: rV a :: S) (sh, ex, R, M) k n (pc + 1) L S (sh, ex, R, upM M a i.toNat x) k n := by
  intro K g p e s m args below meth c H locs ls cx rc hS hb hl ol os
  have he : (wl E (sh, ex, R, M))[a]? = some (E.2.1 + a, .inl (E.2.2.2.1 50, N, .inl (fun i => Int32.ofInt (M a i)))) := by
    rw [wl_at E (sh, ex, R, M) hsh, cellI (by omega) (by omega)]
  refine W.iast cx.1 cx.2.1 (rc.2.2.2.1 a _ he) ((rc.1.2.2 0 _ rfl).1 N (fun j => .int (Int32.ofInt (M a j)))) (fun q => by cases q) (by show ¬ (_ < 0 ∨ (arrV _ _ _).slots.size ≤ _); rw [arrV_size]; exact inI os.t.h hi) rfl rfl hd fun H1 e1 z oq => ?_
  refine g p e s m args below meth c H1 _ ls cx (rc.arr hsh (os.h) ?_ z oq) (hS.put z oq (Nat.le_add_right _ _)) hb hl ol os.t.t.t
  rw [cellI (by omega) (by omega)]
  show H1[E.2.1 + a]? = some (vp_cell _ _)
  rw [e1, clI os.t.h]
  show some ((arrV _ _ _).setSlot _ _) = _
  rw [vp_cell_i, arrV_store]
  congr 2
  funext q
  by_cases hq : q = i.toNat
  · subst hq
    simp [updV, upM]
  · simp [updV, upM, hq]
theorem I_zast {a N : Nat} {i x : Int} (hsh : sh[a]? = some (51, N)) (hi : 0 ≤ i ∧ i < (N : Int)) (hx : x = 0 ∨ x = 1) (hd : decode md.2.1 pc = .ok (.bastore, 1)) : Sp E md mc ms pc L (iV x :: iV i :: rV a :: S) (sh, ex, R, M) k n (pc + 1) L S (sh, ex, R, upM M a i.toNat x) k n := by
  intro K g p e s m args below meth c H locs ls cx rc hS hb hl ol os
  have he : (wl E (sh, ex, R, M))[a]? = some (E.2.1 + a, .inl (E.2.2.2.1 51, N, .inl (fun i => Int32.ofInt (M a i)))) := by
    rw [wl_at E (sh, ex, R, M) hsh, cellI (by omega) (by omega)]
  refine W.zast cx.1 cx.2.1 (rc.2.2.2.1 a _ he) ((rc.1.2.2 1 _ rfl).1 N (fun j => .int (Int32.ofInt (M a j)))) (fun q => by cases q) (by show ¬ (_ < 0 ∨ (arrV _ _ _).slots.size ≤ _); rw [arrV_size]; exact inI os.t.h hi) rfl rfl hd fun H1 e1 z oq => ?_
  refine g p e s m args below meth c H1 _ ls cx (rc.arr hsh (by show okf .boolean x; exact hx) ?_ z oq) (hS.put z oq (Nat.le_add_right _ _)) hb hl ol os.t.t.t
  rw [cellI (by omega) (by omega)]
  show H1[E.2.1 + a]? = some (vp_cell _ _)
  rw [e1, clI os.t.h, (nar_Z hx).1]
  show some ((arrV _ _ _).setSlot _ _) = _
  rw [vp_cell_i, arrV_store]
  congr 2
  funext q
  by_cases hq : q = i.toNat
  · subst hq
    simp [updV, upM]
  · simp [updV, upM, hq]
theorem nar_B {x : Int} (h : r32 x) : narrow .byte (.int (Int32.ofInt x)) = .int (Int32.ofInt (w8 x)) := by
  show Value.int ((Int32.ofInt x).toInt8.toInt32) = _
  rw [i2bI h]
theorem I_bast {a N : Nat} {i x : Int} (hsh : sh[a]? = some (52, N)) (hi : 0 ≤ i ∧ i < (N : Int)) (hd : decode md.2.1 pc = .ok (.bastore, 1)) : Sp E md mc ms pc L (iV x :: iV i :: rV a :: S) (sh, ex, R, M) k n (pc + 1) L S (sh, ex, R, upM M a i.toNat (w8 x)) k n := by
  intro K g p e s m args below meth c H locs ls cx rc hS hb hl ol os
  have he : (wl E (sh, ex, R, M))[a]? = some (E.2.1 + a, .inl (E.2.2.2.1 52, N, .inl (fun i => Int32.ofInt (M a i)))) := by
    rw [wl_at E (sh, ex, R, M) hsh, cellI (by omega) (by omega)]
  refine W.bast cx.1 cx.2.1 (rc.2.2.2.1 a _ he) ((rc.1.2.2 2 _ rfl).1 N (fun j => .int (Int32.ofInt (M a j)))) (fun q => by cases q) (by show ¬ (_ < 0 ∨ (arrV _ _ _).slots.size ≤ _); rw [arrV_size]; exact inI os.t.h hi) rfl rfl hd fun H1 e1 z oq => ?_
  refine g p e s m args below meth c H1 _ ls cx (rc.arr hsh (by show okf .byte (w8 x); exact w8_r x) ?_ z oq) (hS.put z oq (Nat.le_add_right _ _)) hb hl ol os.t.t.t
  rw [cellI (by omega) (by omega)]
  show H1[E.2.1 + a]? = some (vp_cell _ _)
  rw [e1, clI os.t.h, nar_B os.h]
  show some ((arrV _ _ _).setSlot _ _) = _
  rw [vp_cell_i, arrV_store]
  congr 2
  funext q
  by_cases hq : q = i.toNat
  · subst hq
    simp [updV, upM]
  · simp [updV, upM, hq]
theorem I_last {a N : Nat} {i x : Int} (hsh : sh[a]? = some (53, N)) (hi : 0 ≤ i ∧ i < (N : Int)) (hd : decode md.2.1 pc = .ok (.lastore, 1)) : Sp E md mc ms pc L (jV x :: iV i :: rV a :: S) (sh, ex, R, M) k n (pc + 1) L S (sh, ex, R, upM M a i.toNat x) k n := by
  intro K g p e s m args below meth c H locs ls cx rc hS hb hl ol os
  have he : (wl E (sh, ex, R, M))[a]? = some (E.2.1 + a, .inl (E.2.2.2.1 53, N, .inr (.inl (fun i => Int64.ofInt (M a i))))) := by
    rw [wl_at E (sh, ex, R, M) hsh, cellJ]
  refine W.last cx.1 cx.2.1 (rc.2.2.2.1 a _ he) ((rc.1.2.2 3 _ rfl).1 N (fun j => .long (Int64.ofInt (M a j)))) (fun q => by cases q) (by show ¬ (_ < 0 ∨ (arrV _ _ _).slots.size ≤ _); rw [arrV_size]; exact inI os.t.h hi) rfl rfl hd fun H1 e1 z oq => ?_
  refine g p e s m args below meth c H1 _ ls cx (rc.arr hsh (by show okf .long x; exact os.h) ?_ z oq) (hS.put z oq (Nat.le_add_right _ _)) hb hl ol os.t.t.t
  rw [cellJ]
  show H1[E.2.1 + a]? = some (vp_cell _ _)
  rw [e1, clI os.t.h]
  show some ((arrV _ _ _).setSlot _ _) = _
  rw [vp_cell_l, arrV_store]
  congr 2
  funext q
  by_cases hq : q = i.toNat
  · subst hq
    simp [updV, upM]
  · simp [updV, upM, hq]
theorem I_sld {i : Int} {w : CW} (hi : 0 ≤ i ∧ i < (E.2.2.2.2.2.1 : Int)) (hd : decode md.2.1 pc = .ok (.iaload, 1)) : Sp E md mc ms pc L (iV i :: sV :: S) w k n (pc + 1) L (iV (E.2.2.2.2.2.2 i.toNat).toInt :: S) w k n := by
  intro K g p e s m args below meth c H locs ls cx rc hS hb hl ol os
  obtain ⟨scr, h1, h2, h3, h4, h5⟩ := rc.2.1
  have hlt : i.toNat < E.2.2.2.2.2.1 := by omega
  refine W.iald (v := .int (E.2.2.2.2.2.2 i.toNat)) cx.1 cx.2.1 h1 h2 h3 (by rw [h4]; exact inI os.h hi) (by rw [clI os.h]; exact h5 _ hlt) rfl rfl hd ?_
  have := g p e s m args below meth c H locs ls cx rc hS hb hl ol (okS.c (rI _) os.t.t)
  simp only [List.map_cons, cv, Int32.ofInt_toInt] at this
  exact this
theorem I_slen {w : CW} (hN : r32 (E.2.2.2.2.2.1 : Int)) (hd : decode md.2.1 pc = .ok (.arraylength, 1)) : Sp E md mc ms pc L (sV :: S) w k n (pc + 1) L (iV (E.2.2.2.2.2.1 : Int) :: S) w k n := by
  intro K g p e s m args below meth c H locs ls cx rc hS hb hl ol os
  obtain ⟨scr, h1, h2, h3, h4, h5⟩ := rc.2.1
  exact W.alen (n := Int32.ofInt (E.2.2.2.2.2.1 : Int)) cx.1 cx.2.1 h1 h2 (by rw [h4]; rfl) rfl rfl hd (g p e s m args below meth c H locs ls cx rc hS hb hl ol (okS.c hN os.t))
end PUT
