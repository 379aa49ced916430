section MEM
variable {E : EE} {md : MD} {mc ms : Nat} {pc : Nat} {L : List (Option CV)} {S : List CV} {k n : Nat} {sh : List (Nat × Nat)} {ex : Bool} {R : RM} {M : MM}
/-- what is known of a kind of objects -/
def Cls (ci : Nat) (C : String) (T : u_T) (N : Nat) : Prop := ci < 50 ∧ vwCl[ci]? = some (C, T, N) ∧ (∀ w ∈ u_ws C T N, w ∈ TS) ∧ (∀ j, j < N → parseFieldDescriptor (T j).2.2.1 = some (tyF ci j)) ∧ (∀ a, a < N → ∀ b, b < N → a ≠ b → (T a).2.1 ≠ (T b).2.1)
theorem RepC.hts {E : EE} {s : State} {w : CW} {H : Heap} (h : RepC E s w H) (args : Array Value) : ∀ x ∈ TS, x.before args s = true := fun _ hx => h.1.1.use hx
theorem cellO {E : EE} {R : RM} {M : MM} {a ci N : Nat} (h : ci < 50) : cellE E R M a (ci, N) = .inr (ci, (List.range N).map (fun j => fv E (tyF ci j) (R a j) (M a j))) := by
  unfold cellE; rw [if_pos h]
theorem cellI {E : EE} {R : RM} {M : MM} {a q N : Nat} (h : ¬ q < 50) (h2 : ¬ q = 53) : cellE E R M a (q, N) = .inl (E.2.2.2.1 q, N, .inl (fun i => Int32.ofInt (M a i))) := by
  unfold cellE; rw [if_neg h, if_neg h2]
theorem cellJ {E : EE} {R : RM} {M : MM} {a N : Nat} : cellE E R M a (53, N) = .inl (E.2.2.2.1 53, N, .inr (.inl (fun i => Int64.ofInt (M a i)))) := by
  unfold cellE; rw [if_neg (by omega), if_pos rfl]
theorem tyS_o {ci j : Nat} (h : ci < 50) : tyS ci j = tyF ci j := if_pos h
theorem tyS_a {q j : Nat} (h : ¬ q < 50) : tyS q j = tyA q := if_neg h
theorem I_get {ci kf N idx a : Nat} {C : String} {T : u_T} {v : CV} (hc : Cls ci C T N) (hk : kf < N) (hf : Cond.fieldLink md.1.cls idx (T kf).1 (T kf).2.1 (T kf).2.2.1 ∈ TS) (hsh : sh[a]? = some (ci, N)) (hv : fv E (tyF ci kf) (R a kf) (M a kf) = cv E v) (ho : okf (tyF ci kf) (M a kf) → okv v)
    (hd : decode md.2.1 pc = .ok (.getfield idx, 3)) : Sp E md mc ms pc L (rV a :: S) (sh, ex, R, M) k n (pc + 3) L (v :: S) (sh, ex, R, M) k n := by
  intro K g p e s m args below meth c H locs ls cx rc hS hb hl ol os
  obtain ⟨c1, c2, c3, c4, c5⟩ := hc
  have he : (wl E (sh, ex, R, M))[a]? = some (E.2.1 + a, .inr (ci, (List.range N).map (fun j => fv E (tyF ci j) (R a j) (M a j)))) := by
    rw [wl_at E (sh, ex, R, M) hsh, cellO c1]
  have hval : ((List.range N).map (fun j => fv E (tyF ci j) (R a j) (M a j)))[kf]? = some (cv E v) := by
    rw [List.getElem?_map, List.getElem?_range hk, ← hv]; rfl
  refine va_get cx.1 cx.2.1 (rc.hts args) c3 cx.2.2.2.2.1 rc.1.2 rc.2.2.2.1 a he c2 kf hk (rc.1.1.use hf) (fun _ h => h) hval hd ?_
  have h2 := (rc.2.2.2.2.1 a _ hsh).2 kf
  rw [tyS_o c1] at h2
  exact g p e s m args below meth c H locs ls cx rc hS hb hl ol (okS.c (ho h2) os.t)
theorem I_getI {ci kf N idx a : Nat} {C : String} {T : u_T} (hc : Cls ci C T N) (hk : kf < N) (hf : Cond.fieldLink md.1.cls idx (T kf).1 (T kf).2.1 (T kf).2.2.1 ∈ TS) (hsh : sh[a]? = some (ci, N)) (hv : tyF ci kf = .int)
    (hd : decode md.2.1 pc = .ok (.getfield idx, 3)) : Sp E md mc ms pc L (rV a :: S) (sh, ex, R, M) k n (pc + 3) L (iV (M a kf) :: S) (sh, ex, R, M) k n :=
  I_get hc hk hf hsh (by rw [hv]; rfl) (by rw [hv]; exact id) hd
theorem I_getZ {ci kf N idx a : Nat} {C : String} {T : u_T} (hc : Cls ci C T N) (hk : kf < N) (hf : Cond.fieldLink md.1.cls idx (T kf).1 (T kf).2.1 (T kf).2.2.1 ∈ TS) (hsh : sh[a]? = some (ci, N)) (hv : tyF ci kf = .boolean)
    (hd : decode md.2.1 pc = .ok (.getfield idx, 3)) : Sp E md mc ms pc L (rV a :: S) (sh, ex, R, M) k n (pc + 3) L (iV (M a kf) :: S) (sh, ex, R, M) k n :=
  I_get hc hk hf hsh (by rw [hv]; rfl) (by rw [hv]; intro h; rcases h with h | h <;> (show r32 _; rw [h]; unfold r32; omega)) hd
theorem I_getJ {ci kf N idx a : Nat} {C : String} {T : u_T} (hc : Cls ci C T N) (hk : kf < N) (hf : Cond.fieldLink md.1.cls idx (T kf).1 (T kf).2.1 (T kf).2.2.1 ∈ TS) (hsh : sh[a]? = some (ci, N)) (hv : tyF ci kf = .long)
    (hd : decode md.2.1 pc = .ok (.getfield idx, 3)) : Sp E md mc ms pc L (rV a :: S) (sh, ex, R, M) k n (pc + 3) L (jV (M a kf) :: S) (sh, ex, R, M) k n :=
  I_get hc hk hf hsh (by rw [hv]; rfl) (by rw [hv]; exact id) hd
def isRf (ty : FieldType) : Bool := match ty with
  | .object C => decide (C ≠ "KnobHall$House")
  | .array _ => true
  | _ => false
theorem fv_rf {E : EE} {ty : FieldType} {r : Option Nat} {z : Int} (h : isRf ty = true) : fv E ty r z = va_rf (r.map (fun a => E.2.1 + a)) := by
  cases ty with
  | object C =>
    have h2 : C ≠ "KnobHall$House" := of_decide_eq_true h
    show (if C = "KnobHall$House" then _ else _) = _
    rw [if_neg h2]
  | array _ => rfl
  | _ => cases h
theorem okf_rf {ty : FieldType} {z : Int} (h : isRf ty = true) : okf ty z := by
  cases ty <;> first | trivial | cases h
theorem I_getR {ci kf N idx a b : Nat} {C : String} {T : u_T} (hc : Cls ci C T N) (hk : kf < N) (hf : Cond.fieldLink md.1.cls idx (T kf).1 (T kf).2.1 (T kf).2.2.1 ∈ TS) (hsh : sh[a]? = some (ci, N)) (hv : isRf (tyF ci kf) = true) (hr : R a kf = some b)
    (hd : decode md.2.1 pc = .ok (.getfield idx, 3)) : Sp E md mc ms pc L (rV a :: S) (sh, ex, R, M) k n (pc + 3) L (rV b :: S) (sh, ex, R, M) k n :=
  I_get hc hk hf hsh (by rw [fv_rf hv, hr]; rfl) (fun _ => trivial) hd
theorem fv_H {E : EE} {r : Option Nat} {h : Nat} (hp : 0 < h) : fv E (.object "KnobHall$House") r (h : Int) = .ref (E.2.1 + h) := by
  have e1 : fv E (.object "KnobHall$House") r (h : Int) = (if "KnobHall$House" = "KnobHall$House" then (if (h : Int) ≤ 0 then Value.null else .ref (E.2.1 + (h : Int).toNat)) else va_rf (r.map (fun a => E.2.1 + a))) := rfl
  rw [e1, if_pos rfl, if_neg (by omega)]
  rfl
theorem I_getH {ci kf N idx a h : Nat} {C : String} {T : u_T} (hc : Cls ci C T N) (hk : kf < N) (hf : Cond.fieldLink md.1.cls idx (T kf).1 (T kf).2.1 (T kf).2.2.1 ∈ TS) (hsh : sh[a]? = some (ci, N)) (hv : tyF ci kf = .object "KnobHall$House") (hz : M a kf = (h : Int)) (hp : 0 < h)
    (hd : decode md.2.1 pc = .ok (.getfield idx, 3)) : Sp E md mc ms pc L (rV a :: S) (sh, ex, R, M) k n (pc + 3) L (rV h :: S) (sh, ex, R, M) k n :=
  I_get hc hk hf hsh (by rw [hv, hz, fv_H hp]; rfl) (fun _ => trivial) hd
theorem set_map {N kf : Nat} (f h : Nat → Value) (hk : kf < N) (hne : ∀ j, j ≠ kf → h j = f j) : ((List.range N).map f).set kf (h kf) = (List.range N).map h := by
  apply List.ext_getElem?
  intro i
  by_cases e : i = kf
  · subst e
    rw [List.getElem?_set_self (by simpa using hk), List.getElem?_map, List.getElem?_range hk]; rfl
  · rw [List.getElem?_set_ne (fun z => e z.symm), List.getElem?_map, List.getElem?_map]
    cases hq : (List.range N)[i]? with
    | none => rfl
    | some q =>
      have e2 : q = i := by
        obtain ⟨h1, h2⟩ := List.getElem?_eq_some_iff.mp hq
        rw [List.getElem_range] at h2
        exact h2.symm
      subst e2
      show some (f q) = some (h q)
      rw [hne q e]
theorem okWd.put {sh : List (Nat × Nat)} {ex : Bool} {R R' : RM} {M M' : MM} {a kf : Nat} {q : Nat × Nat} (h : okWd (sh, ex, R, M)) (hsh : sh[a]? = some q) (hM : ∀ x j, ¬ (x = a ∧ j = kf) → M' x j = M x j) (ho : okf (tyS q.1 kf) (M' a kf)) : okWd (sh, ex, R', M') := by
  intro x y hx
  refine ⟨(h x y hx).1, fun j => ?_⟩
  show okf _ (M' x j)
  by_cases c : x = a ∧ j = kf
  · obtain ⟨rfl, rfl⟩ := c
    have : y = q := Option.some.inj (hx.symm.trans hsh)
    subst this
    exact ho
  · rw [hM x j c]
    exact (h x y hx).2 j
theorem RepC.put {E : EE} {s : State} {sh : List (Nat × Nat)} {ex : Bool} {R R' : RM} {M M' : MM} {H H1 : Heap} {s0 : Heap} {locs locs1 : List Loc} (h : RepC E s (sh, ex, R, M) H) (hP : va_P E.2.2.1 vwCl (wl E (sh, ex, R', M')) H1) (hz : H1.size = H.size) (ho : okWd (sh, ex, R', M')) (hx : ∀ x : Nat, x < E.2.1 → H1[x]? = H[x]?) : RepC E s (sh, ex, R', M') H1 := by
  obtain ⟨h1, ⟨scr, x1, x2⟩, ⟨h3, nr⟩, h4, h5, h6, h7⟩ := h
  exact ⟨h1, ⟨scr, by rw [hx _ h3]; exact x1, x2⟩, ⟨h3, nr.kept hx⟩, hP, ho, fun e => by rw [hz]; exact h6 e, by rw [hz]; exact h7⟩
theorem fit_I (z : Int) : fits .int (.int (Int32.ofInt z)) = true := rfl
theorem fit_J (z : Int) : fits .long (.long (Int64.ofInt z)) = true := rfl
theorem nar_Z {z : Int} (h : z = 0 ∨ z = 1) : narrow .boolean (.int (Int32.ofInt z)) = .int (Int32.ofInt z) ∧ fits .boolean (.int (Int32.ofInt z)) = true := by
  rcases h with h | h <;> subst h <;> exact ⟨by decide +kernel, by decide +kernel⟩
end MEM
