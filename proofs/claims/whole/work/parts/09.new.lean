section NEW
variable {E : EE} {md : MD} {mc ms : Nat} {pc : Nat} {L : List (Option CV)} {S : List CV} {k n : Nat} {sh : List (Nat × Nat)} {ex : Bool} {R : RM} {M : MM}
def clM (M : MM) (a : Nat) : MM := fun x j => if x = a then 0 else M x j
def clR (R : RM) (a : Nat) : RM := fun x j => if x = a then none else R x j
theorem wl_push (E : EE) (sh : List (Nat × Nat)) (ex : Bool) (R : RM) (M : MM) (q : Nat × Nat) : wl E (sh ++ [q], ex, clR R sh.length, clM M sh.length) = wl E (sh, ex, R, M) ++ [(E.2.1 + sh.length, cellE E (fun _ _ => none) (fun _ _ => 0) sh.length q)] := by
  apply List.ext_getElem?
  intro i
  have hlen : (wl E (sh, ex, R, M)).length = sh.length := by unfold wl; simp
  rcases Nat.lt_trichotomy i sh.length with h | h | h
  · rw [List.getElem?_append_left (by rw [hlen]; exact h)]
    unfold wl
    rw [List.getElem?_mapIdx, List.getElem?_mapIdx]
    show Option.map _ ((sh ++ [q])[i]?) = _
    rw [List.getElem?_append_left h]
    cases hq : sh[i]? with
    | none => rfl
    | some q' =>
      show some (_, cellE E (clR R sh.length) (clM M sh.length) i q') = some (_, cellE E R M i q')
      have e1 : clR R sh.length i = R i := by funext j; exact if_neg (by omega)
      have e2 : clM M sh.length i = M i := by funext j; exact if_neg (by omega)
      unfold cellE
      rw [e1, e2]
  · subst h
    rw [List.getElem?_append_right (by rw [hlen]; exact Nat.le_refl _), hlen, Nat.sub_self]
    unfold wl
    rw [List.getElem?_mapIdx]
    show Option.map _ ((sh ++ [q])[sh.length]?) = _
    rw [List.getElem?_append_right (Nat.le_refl _), Nat.sub_self]
    show some (_, cellE E (clR R sh.length) (clM M sh.length) sh.length q) = _
    have e1 : clR R sh.length sh.length = fun _ => none := by funext j; exact if_pos rfl
    have e2 : clM M sh.length sh.length = fun _ => 0 := by funext j; exact if_pos rfl
    unfold cellE
    rw [e1, e2]
    rfl
  · have l1 : (wl E (sh ++ [q], ex, clR R sh.length, clM M sh.length)).length ≤ i := by unfold wl; simp; omega
    have l2 : (wl E (sh, ex, R, M) ++ [(E.2.1 + sh.length, cellE E (fun _ _ => none) (fun _ _ => 0) sh.length q)]).length ≤ i := by rw [List.length_append, hlen]; simp; omega
    rw [List.getElem?_eq_none l1, List.getElem?_eq_none l2]
theorem okf0 (ty : FieldType) : okf ty 0 := by
  cases ty <;> first | trivial | exact r0 | exact r0L | exact Or.inl rfl | (show -128 ≤ (0 : Int) ∧ (0 : Int) < 128; omega)
theorem RepC.push {E : EE} {s : State} {q : Nat × Nat} {H H1 : Heap} (h : RepC E s (sh, true, R, M) H) (hz : H1.size = H.size + 1) (oq : ∀ x, x < H.size → H1[x]? = H[x]?) (hat : va_at E.2.2.1 vwCl (E.2.1 + sh.length, cellE E (fun _ _ => none) (fun _ _ => 0) sh.length q) H1) (hq : q.1 < 50 → ∃ C T, vwCl[q.1]? = some (C, T, q.2)) : RepC E s (sh ++ [q], true, clR R sh.length, clM M sh.length) H1 := by
  obtain ⟨h1, ⟨scr, x1, x2⟩, ⟨h3, nr⟩, h4, h5, h6, h7⟩ := h
  refine ⟨h1, ⟨scr, by rw [oq _ (by omega)]; exact x1, x2⟩, ⟨h3, nr.kept (fun a ha => oq a (by omega))⟩, ?_, ?_, fun _ => ?_, by omega⟩
  · rw [wl_push]
    refine (h4.kept fun j y hy => oq y.1 (h4 j y hy).lt).app fun j y hy => ?_
    have hj : j < 1 := (List.getElem?_eq_some_iff.mp hy).1
    rw [show j = 0 by omega] at hy
    cases hy
    exact hat
  · intro a y hy
    have hy' : (sh ++ [q])[a]? = some y := hy
    rcases Nat.lt_trichotomy a sh.length with c | c | c
    · rw [List.getElem?_append_left c] at hy'
      refine ⟨(h5 a y hy').1, fun j => ?_⟩
      have e2 : clM M sh.length a j = M a j := if_neg (by omega)
      show okf _ (clM M sh.length a j)
      rw [e2]
      exact (h5 a y hy').2 j
    · subst c
      rw [List.getElem?_append_right (Nat.le_refl _), Nat.sub_self] at hy'
      have : q = y := by simpa using hy'
      subst this
      refine ⟨hq, fun j => ?_⟩
      have e2 : clM M sh.length sh.length j = 0 := if_pos rfl
      show okf _ (clM M sh.length sh.length j)
      rw [e2]
      exact okf0 _
    · rw [List.getElem?_eq_none (by simp; omega)] at hy'
      cases hy'
  · have := h6 rfl
    simp only [List.length_append, List.length_cons, List.length_nil] at this ⊢
    omega
theorem va_S.grow {A : Nat → Prop} {H0 H H1 : Heap} {locs : List Loc} (h : va_S A H0 H locs) (hz : H1.size = H.size + 1) (oq : ∀ x, x < H.size → H1[x]? = H[x]?) : va_S A H0 H1 locs :=
  ⟨by have := h.1; omega, fun q h1 h2 => (oq q (Nat.lt_of_lt_of_le h1 h.1)).trans (h.2.1 q h1 h2), h.2.2⟩
theorem I_newa {q N : Nat} {atype : ArrayType} (hq : q = 50 ∨ q = 51 ∨ q = 52 ∨ q = 53) (hty : newarray.typeOf atype = tyA q) (hN : N < 2147483648) (hw : Cond.arrayClass (newarray.typeOf atype) ∈ TS) (hby : N * componentBytes (newarray.typeOf atype) ≤ 536870912) (hc : k + 1 ≤ md.2.2.2.2.cells) (hs : n + N ≤ md.2.2.2.2.slots) (hd : decode md.2.1 pc = .ok (.newarray atype, 2)) :
    Sp E md mc ms pc L (iV (N : Int) :: S) (sh, true, R, M) k n (pc + 2) L (rV sh.length :: S) (sh ++ [(q, N)], true, clR R sh.length, clM M sh.length) (k + 1) (n + N) := by
  intro K g p e s m args below meth c H locs ls cx rc hS hb hl ol os
  have hsz : H.size = E.2.1 + sh.length := rc.2.2.2.2.2.1 rfl
  refine va_newaK cx.1 cx.2.1 (rc.1.1.use hw) rfl hd (N := N) rfl (by rw [← z32, ltI os.h r0]; omega) (by rw [clI os.h]; simp) hby hc hs hsz fun H1 cA e1 z1 o1 hAr hNm => ?_
  have hcA : cA = E.2.2.2.1 q := by
    have h1 := (rc.1.2.2 (q - 50) _ (taE_at hq)).2
    have h2 : s.vm.findClass ("[" ++ (tyA q).toString) = some (E.2.2.2.1 q) := by
      rcases hq with rfl | rfl | rfl | rfl <;> exact h1
    rw [hty] at hNm
    exact Option.some.inj (hNm.symm.trans h2)
  subst hcA
  refine g p e s m args below meth c H1 locs ls cx (rc.push (q := (q, N)) (by rw [hsz]; exact z1) (by rw [hsz]; exact o1) ?_ (fun h => by omega)) (hS.grow (by rw [hsz]; exact z1) (by rw [hsz]; exact o1)) hb hl ol (okS.c trivial os.t)
  rw [hty] at e1
  rcases hq with rfl | rfl | rfl | rfl
  all_goals
    first
    | (rw [cellI (by omega) (by omega)]; exact e1)
    | (rw [cellJ]; exact e1)
def dfl (ty : FieldType) : Bool := match ty with
  | .int => true
  | .boolean => true
  | .byte => true
  | .long => true
  | .object _ => true
  | .array _ => true
  | _ => false
theorem I_new {ci N idx : Nat} {C : String} {T : u_T} (hc : Cls ci C T N) (hdf : ∀ j, j < N → dfl (tyF ci j) = true) (hcl : Cond.classLink md.1.cls idx C ∈ TS) (hins : Cond.instantiable C N ∈ TS) (hini : Cond.initialized C ∈ TS) (hce : k + 1 ≤ md.2.2.2.2.cells) (hsl : n + N ≤ md.2.2.2.2.slots) (hd : decode md.2.1 pc = .ok (.new idx, 3)) :
    Sp E md mc ms pc L S (sh, true, R, M) k n (pc + 3) L (rV sh.length :: S) (sh ++ [(ci, N)], true, clR R sh.length, clM M sh.length) (k + 1) (n + N) := by
  intro K g p e s m args below meth c H locs ls cx rc hS hb hl ol os
  obtain ⟨c1, c2, c3, c4, c5⟩ := hc
  have hsz : H.size = E.2.1 + sh.length := rc.2.2.2.2.2.1 rfl
  have hKn := rc.1.2.1 ci _ c2
  refine W.newcK cx.1 cx.2.1 cx.2.2.2.2.1 (rc.1.1.use hcl) (rc.1.1.use hins) (rc.1.1.use hini) rfl hd hce hsl hKn.2.1 hsz fun H1 kC hkC e1 z1 o1 => ?_
  refine g p e s m args below meth c H1 locs ls cx (rc.push (q := (ci, N)) (by rw [hsz]; exact z1) (by rw [hsz]; exact o1) ?_ (fun _ => ⟨C, T, c2⟩)) (hS.grow (by rw [hsz]; exact z1) (by rw [hsz]; exact o1)) hb hl ol (okS.c trivial os)
  rw [cellO c1]
  refine ⟨_, c2, (u_born (tyF ci) (rc.hts args) c3 hKn hkC e1 c4).to fun j hj => ?_⟩
  have hv : vp_V ((List.range N).map (fun j => fv E (tyF ci j) none 0)) j = fv E (tyF ci j) none 0 := by
    unfold vp_V
    rw [List.getD_eq_getElem?_getD, List.getElem?_map, List.getElem?_range hj]
    rfl
  show defaultValue (tyF ci j) = vp_V ((List.range N).map (fun j => fv E (tyF ci j) none 0)) j
  rw [hv]
  have := hdf j hj
  cases ht : tyF ci j with
  | object Cn =>
    have e9 : fv E (.object Cn) none 0 = (if Cn = "KnobHall$House" then (if (0 : Int) ≤ 0 then Value.null else .ref (E.2.1 + (0 : Int).toNat)) else va_rf (none.map (fun a => E.2.1 + a))) := rfl
    rw [e9]
    split <;> rfl
  | _ => rw [ht] at this; first | rfl | cases this
theorem I_oinit {idx a : Nat} (hlink : Cond.methodLink md.1.cls idx objectInit ∈ TS) (hinst : Cond.instanceMethod objectInit ∈ TS) (hcode : Cond.code objectInit ⟨#[0xb1]⟩ 1 none ∈ TS) (hfr : 1 ≤ md.2.2.2.2.frames) (hlo : catS S + 12 ≤ md.2.2.2.2.locals) {w : CW} (hd : decode md.2.1 pc = .ok (.invokespecial idx, 3)) :
    Sp E md mc ms pc L (rV a :: S) w k n (pc + 3) L S w k n := by
  intro K g p e s m args below meth c H locs ls cx rc hS hb hl ol os
  refine W.objInit cx.1 cx.2.1 cx.2.2.2.2.1 (rc.1.1.use hlink) (rc.1.1.use hinst) (rc.1.1.use hcode) rfl (by rw [cx.2.2.2.1]; exact hl.1) rfl hd hfr ?_ (g p e s m args below meth c H locs ls cx rc hS hb hl ol os.t)
  rw [catS_eq]
  show 2 * 0 + catS S + 12 ≤ _
  omega
theorem I_mmax {idx : Nat} {x y : Int} {w : CW} (hlink : Cond.methodLink md.1.cls idx Lib.Math.max.name ∈ TS) (hst : Cond.static Lib.Math.max.name ∈ TS) (hini : Cond.initialized "java/lang/Math" ∈ TS) (hcode : Cond.code Lib.Math.max.name Lib.Math.max.code 2 (some .int) ∈ TS) (hfr : 1 ≤ md.2.2.2.2.frames) (hlo : catS S + 13 ≤ md.2.2.2.2.locals) (hc : k ≤ md.2.2.2.2.cells) (hs : n ≤ md.2.2.2.2.slots) (hd : decode md.2.1 pc = .ok (.invokestatic idx, 3)) :
    Sp E md mc ms pc L (iV y :: iV x :: S) w k n (pc + 3) L (iV (if x < y then y else x) :: S) w k n := by
  intro K g p e s m args below meth c H locs ls cx rc hS hb hl ol os
  refine va_mmax cx.1 cx.2.1 (by rw [cx.2.2.2.1]; exact hl.1.symm) cx.2.2.2.2.1 (rc.1.1.use hlink) (rc.1.1.use hst) (rc.1.1.use hini) (rc.1.1.use hcode) hfr (by rw [catS_eq]; exact hlo) hc hs hd ?_
  have e1 : (if Int32.ofInt x < Int32.ofInt y then Int32.ofInt y else Int32.ofInt x) = Int32.ofInt (if x < y then y else x) := by
    by_cases q : x < y
    · rw [if_pos q, if_pos ((ltI os.t.h os.h).mpr q)]
    · rw [if_neg q, if_neg (fun z => q ((ltI os.t.h os.h).mp z))]
  rw [e1]
  exact g p e s m args below meth c H locs ls cx rc hS hb hl ol (okS.c (by show okv (iV _); split; exact os.h; exact os.t.h) os.t.t)
theorem I_mmin {idx : Nat} {x y : Int} {w : CW} (hlink : Cond.methodLink md.1.cls idx Lib.Math.min.name ∈ TS) (hst : Cond.static Lib.Math.min.name ∈ TS) (hini : Cond.initialized "java/lang/Math" ∈ TS) (hcode : Cond.code Lib.Math.min.name Lib.Math.min.code 2 (some .int) ∈ TS) (hfr : 1 ≤ md.2.2.2.2.frames) (hlo : catS S + 13 ≤ md.2.2.2.2.locals) (hc : k ≤ md.2.2.2.2.cells) (hs : n ≤ md.2.2.2.2.slots) (hd : decode md.2.1 pc = .ok (.invokestatic idx, 3)) :
    Sp E md mc ms pc L (iV y :: iV x :: S) w k n (pc + 3) L (iV (if y < x then y else x) :: S) w k n := by
  intro K g p e s m args below meth c H locs ls cx rc hS hb hl ol os
  refine va_mmin cx.1 cx.2.1 (by rw [cx.2.2.2.1]; exact hl.1.symm) cx.2.2.2.2.1 (rc.1.1.use hlink) (rc.1.1.use hst) (rc.1.1.use hini) (rc.1.1.use hcode) hfr (by rw [catS_eq]; exact hlo) hc hs hd ?_
  have e1 : (if Int32.ofInt y < Int32.ofInt x then Int32.ofInt y else Int32.ofInt x) = Int32.ofInt (if y < x then y else x) := by
    by_cases q : y < x
    · rw [if_pos q, if_pos ((ltI os.h os.t.h).mpr q)]
    · rw [if_neg q, if_neg (fun z => q ((ltI os.h os.t.h).mp z))]
  rw [e1]
  exact g p e s m args below meth c H locs ls cx rc hS hb hl ol (okS.c (by show okv (iV _); split; exact os.h; exact os.t.h) os.t.t)
theorem GG.exact {K : Option CV → CW → Prop} (g : GG E md mc ms K pc L S (sh, false, R, M) k n) : GG E md mc ms K pc L S (sh, ex, R, M) k n := by
  intro p e s m args below meth c H locs ls cx rc hS hb hl ol os
  obtain ⟨h1, h2, h3, h4, h5, h6, h7⟩ := rc
  exact g p e s m args below meth c H locs ls cx ⟨h1, h2, h3, h4, h5, fun z => (by cases z), h7⟩ hS hb hl ol os
def cpM (M : MM) (a0 a1 sp dp n : Nat) : MM := fun x j => if x = a1 ∧ dp ≤ j ∧ j < dp + n then M a0 (sp + (j - dp)) else M x j
theorem I_copy {idx a0 a1 N0 N1 : Nat} {sp dp len : Int} (hlink : Cond.methodLink md.1.cls idx arraycopyName ∈ TS) (hnat : Cond.native arraycopyName ∈ TS) (hst : Cond.static arraycopyName ∈ TS) (hini : Cond.initialized "java/lang/System" ∈ TS) (h0 : sh[a0]? = some (50, N0)) (h1 : sh[a1]? = some (50, N1)) (hb1 : 0 ≤ sp ∧ 0 ≤ dp ∧ 0 ≤ len ∧ sp + len ≤ (N0 : Int) ∧ dp + len ≤ (N1 : Int))
    (hfr : 1 ≤ md.2.2.2.2.frames) (hlo : catS S + (nativeFrameWords "java/lang/System" "arraycopy" 5 + 11) ≤ md.2.2.2.2.locals) (hd : decode md.2.1 pc = .ok (.invokestatic idx, 3)) :
    Sp E md mc ms pc L (iV len :: iV dp :: rV a1 :: iV sp :: rV a0 :: S) (sh, ex, R, M) k n (pc + 3) L S (sh, false, R, cpM M a0 a1 sp.toNat dp.toNat len.toNat) k n := by
  intro K g p e s m args below meth c H locs ls cx rc hS hb hl ol os
  have ol1 : r32 len := os.h
  have od1 : r32 dp := os.t.h
  have os1 : r32 sp := os.t.t.t.h
  have he0 : (wl E (sh, ex, R, M))[a0]? = some (E.2.1 + a0, .inl (E.2.2.2.1 50, N0, .inl (fun i => Int32.ofInt (M a0 i)))) := by
    rw [wl_at E (sh, ex, R, M) h0, cellI (by omega) (by omega)]
  have he1 : (wl E (sh, ex, R, M))[a1]? = some (E.2.1 + a1, .inl (E.2.2.2.1 50, N1, .inl (fun i => Int32.ofInt (M a1 i)))) := by
    rw [wl_at E (sh, ex, R, M) h1, cellI (by omega) (by omega)]
  refine va_copyi cx.1 cx.2.1 (by rw [cx.2.2.2.1]; exact hl.1.symm) cx.2.2.2.2.1 (rc.1.1.use hlink) (rc.1.1.use hnat) (rc.1.1.use hst) (rc.1.1.use hini) rc.1.2 rc.2.2.2.1 (wl_D E (sh, ex, R, M)) hS a0 a1 0 0 he0 he1 (ty := .int) rfl rfl rfl (sp := Int32.ofInt sp) (dp := Int32.ofInt dp) (n := Int32.ofInt len)
    (by rw [← z32, ltI os1 r0]; omega) (by rw [← z32, ltI od1 r0]; omega) (by rw [← z32, ltI ol1 r0]; omega) (by rw [clI os1, clI ol1]; omega) (by rw [clI od1, clI ol1]; omega) (fun _ _ => rfl) hfr (by rw [catS_eq]; exact hlo) hd fun H1 locs1 hP' hD' hS' => ?_
  rw [clI os1, clI od1, clI ol1] at hP'
  have hM : ∀ x, x ≠ a1 → cpM M a0 a1 sp.toNat dp.toNat len.toNat x = M x := fun x hx => funext fun j => if_neg (fun z => hx z.1)
  have hc : cellE E R (cpM M a0 a1 sp.toNat dp.toNat len.toNat) a1 (50, N1) = .inl (E.2.2.2.1 50, N1, .inl (va_cpy (fun i => Int32.ofInt (M a0 i)) (fun i => Int32.ofInt (M a1 i)) sp.toNat dp.toNat len.toNat)) := by
    rw [cellI (by omega) (by omega)]
    congr 4
    funext j
    unfold cpM va_cpy
    by_cases q : dp.toNat ≤ j ∧ j < dp.toNat + len.toNat
    · rw [if_pos q, if_pos ⟨rfl, q⟩]
    · rw [if_neg q, if_neg (fun z => q z.2)]
  rw [← hc, ← wl_set E sh ex R R M (cpM M a0 a1 sp.toNat dp.toNat len.toNat) h1 (fun _ _ => rfl) hM] at hP'
  have hoW : okWd (sh, false, R, cpM M a0 a1 sp.toNat dp.toNat len.toNat) := by
    intro x q hx
    refine ⟨(rc.2.2.2.2.1 x q hx).1, fun j => ?_⟩
    show okf _ (cpM M a0 a1 sp.toNat dp.toNat len.toNat x j)
    unfold cpM
    split
    · rename_i cc
      obtain ⟨rfl, -⟩ := cc
      have e9 : q = (50, N1) := Option.some.inj (hx.symm.trans h1)
      subst e9
      exact (rc.2.2.2.2.1 a0 _ h0).2 _
    · exact (rc.2.2.2.2.1 x q hx).2 j
  obtain ⟨r1, ⟨scr, x1, x2⟩, ⟨r3, nr⟩, -, -, -, r7⟩ := rc
  have hbs := hS.1
  have hxa : ∀ x : Nat, x < E.2.1 → H1[x]? = H[x]? := fun x hx => by
    rw [hS'.2.1 x (by omega) (by omega), hS.2.1 x (by omega) (by omega)]
  have hx9 : H1[E.2.2.2.2.1]? = H[E.2.2.2.2.1]? := hxa _ r3
  exact g p e s m args below meth c H1 locs1 ls cx ⟨r1, ⟨scr, by rw [hx9]; exact x1, x2⟩, ⟨r3, nr.kept hxa⟩, hP', hoW, fun z => (by cases z), by have := hS'.1; omega⟩ hS' hb hl ol os.t.t.t.t.t
end NEW
