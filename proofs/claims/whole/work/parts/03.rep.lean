def cv (E : EE) (v : CV) : Value := match v with
  | .inl x => .int (Int32.ofInt x)
  | .inr (.inl x) => .long (Int64.ofInt x)
  | .inr (.inr (.inl a)) => .ref (E.2.1 + a)
  | .inr (.inr (.inr _)) => .ref E.2.2.2.2.1
def okv (v : CV) : Prop := match v with
  | .inl x => r32 x
  | .inr (.inl x) => r64 x
  | _ => True
def tyF (k : Nat) : Nat → FieldType := match k with
  | 0 => tyX0
  | 1 => tyX1
  | 2 => tyX2
  | 3 => tyX3
  | 4 => tyX4
  | 5 => tyX5
  | 6 => tyX6
  | 7 => tyX7
  | 8 => tyX8
  | 9 => tyX9
  | 10 => tyX10
  | 11 => tyX11
  | _ => tyX12
def tyA (k : Nat) : FieldType := match k with
  | 50 => .int
  | 51 => .boolean
  | 52 => .byte
  | _ => .long
def tyS (k : Nat) (j : Nat) : FieldType := if k < 50 then tyF k j else tyA k
def fv (E : EE) (ty : FieldType) (r : Option Nat) (z : Int) : Value := match ty with
  | .long => .long (Int64.ofInt z)
  | .object C => if C = "KnobHall$House" then (if z ≤ 0 then .null else .ref (E.2.1 + z.toNat)) else va_rf (r.map (fun a => E.2.1 + a))
  | .array _ => va_rf (r.map (fun a => E.2.1 + a))
  | _ => .int (Int32.ofInt z)
def okf (ty : FieldType) (z : Int) : Prop := match ty with
  | .long => r64 z
  | .boolean => z = 0 ∨ z = 1
  | .byte => -128 ≤ z ∧ z < 128
  | .object _ => True
  | .array _ => True
  | _ => r32 z
def cellE (E : EE) (R : RM) (M : MM) (a : Nat) (q : Nat × Nat) : va_E :=
  if q.1 < 50 then .inr (q.1, (List.range q.2).map (fun j => fv E (tyF q.1 j) (R a j) (M a j)))
  else if q.1 = 53 then .inl (E.2.2.2.1 q.1, q.2, .inr (.inl (fun i => Int64.ofInt (M a i))))
  else .inl (E.2.2.2.1 q.1, q.2, .inl (fun i => Int32.ofInt (M a i)))
def wl (E : EE) (w : CW) : va_W := w.1.mapIdx (fun a q => (E.2.1 + a, cellE E w.2.2.1 w.2.2.2 a q))
def taE (E : EE) : List (ClassId × FieldType) := [(E.2.2.2.1 50, .int), (E.2.2.2.1 51, .boolean), (E.2.2.2.1 52, .byte), (E.2.2.2.1 53, .long)]
theorem wl_at (E : EE) (w : CW) {a : Nat} {q : Nat × Nat} (h : w.1[a]? = some q) : (wl E w)[a]? = some (E.2.1 + a, cellE E w.2.2.1 w.2.2.2 a q) := by
  unfold wl; rw [List.getElem?_mapIdx, h]; rfl
theorem wl_of (E : EE) (w : CW) {a : Nat} {x : Nat × va_E} (h : (wl E w)[a]? = some x) : ∃ q, w.1[a]? = some q ∧ x = (E.2.1 + a, cellE E w.2.2.1 w.2.2.2 a q) := by
  unfold wl at h; rw [List.getElem?_mapIdx] at h
  cases hq : w.1[a]? with
  | none => rw [hq] at h; cases h
  | some q => rw [hq] at h; exact ⟨q, rfl, (Option.some.inj h).symm⟩
theorem wl_D (E : EE) (w : CW) : va_D (fun q => E.2.1 ≤ q) (wl E w) := by
  refine ⟨fun i j p q hp hq e => ?_, fun k q hq => ?_⟩
  · obtain ⟨_, _, rfl⟩ := wl_of E w hp
    obtain ⟨_, _, rfl⟩ := wl_of E w hq
    have e1 : E.2.1 + i = E.2.1 + j := e
    omega
  · obtain ⟨_, _, rfl⟩ := wl_of E w hq
    exact Nat.le_add_right _ _
theorem wl_set (E : EE) (sh : List (Nat × Nat)) (ex : Bool) (R R' : RM) (M M' : MM) {a : Nat} {q : Nat × Nat} (h : sh[a]? = some q) (hR : ∀ x, x ≠ a → R' x = R x) (hM : ∀ x, x ≠ a → M' x = M x) : wl E (sh, ex, R', M') = (wl E (sh, ex, R, M)).set a (E.2.1 + a, cellE E R' M' a q) := by
  apply List.ext_getElem?
  intro i
  by_cases e : i = a
  · subst e
    rw [wl_at E (sh, ex, R', M') h, List.getElem?_set_self]
    exact (List.getElem?_eq_some_iff.mp (wl_at E (sh, ex, R, M) h)).1
  · rw [List.getElem?_set_ne (fun z => e z.symm)]
    unfold wl
    rw [List.getElem?_mapIdx, List.getElem?_mapIdx]
    cases hq : sh[i]? with
    | none => rfl
    | some q' =>
      show some (_, cellE E R' M' i q') = some (_, cellE E R M i q')
      unfold cellE
      rw [hR i e, hM i e]
def okW (w : Cond) : Bool := goodWord w || (match w with
  | .methodLinkNest .. => true
  | _ => false)
def TS : List Cond := lw_tbl.filter okW
theorem inTS {w : Cond} (i : Nat) (h : lw_tbl[i]? = some w) (ho : okW w = true) : w ∈ TS := List.mem_filter.mpr ⟨List.mem_of_getElem? h, ho⟩
def GW (U : State) : Prop := ∀ w ∈ TS, w.before #[] U = true
theorem okW_warm {w : Cond} {A B : Array Value} {s U : State} (ho : okW w = true) (hW : s.WarmedH U.vm) (h : w.before A s = true) : w.before B U = true := by
  unfold okW at ho
  rw [Bool.or_eq_true] at ho
  rcases ho with ho | ho
  · exact word_at hW (good_of_word ho) h
  · split at ho
    · exact va_Nw.use rfl (va_Nw.warmM hW (va_Nw.of rfl h))
    · cases ho
theorem GW.use {s : State} (h : GW s) {args : Array Value} {w : Cond} (hm : w ∈ TS) : w.before args s = true :=
  okW_warm (List.mem_filter.mp hm).2 (State.WarmedH.refl s) (h w hm)
theorem GW.warm {s U : State} (hW : s.WarmedH U.vm) (h : GW s) : GW U := fun w hm => okW_warm (List.mem_filter.mp hm).2 hW (h w hm)
def RepV (E : EE) (U : State) : Prop := GW U ∧ va_K E.2.2.1 vwCl (taE E) U
def okWd (w : CW) : Prop := ∀ a q, w.1[a]? = some q → (q.1 < 50 → ∃ C T, vwCl[q.1]? = some (C, T, q.2)) ∧ ∀ j, okf (tyS q.1 j) (w.2.2.2 a j)
/-- the state in which the law was called: what it knew, and what of its heap stands -/
def NR (E : EE) (U : State) (H : Heap) : Prop := ∃ s0 : State, s0.heap.size = E.2.1 ∧ (Jvm.Cond.and given_1 narrow_1).before #[Value.ref E.2.2.2.2.1] s0 = true ∧ (∀ w ∈ lw_tbl, w.before #[Value.ref E.2.2.2.2.1] s0 = true) ∧ s0.WarmedH U.vm ∧ ∀ a : Nat, a < E.2.1 → H[a]? = s0.heap[a]?
theorem NR.warm {E : EE} {s U : State} {H : Heap} (h : NR E s H) (hW : s.WarmedH U.vm) : NR E U H := by
  obtain ⟨s0, h1, h2, h3, h4, h5⟩ := h
  exact ⟨s0, h1, h2, h3, State.WarmedH.trans h4 hW, h5⟩
theorem NR.kept {E : EE} {s : State} {H H1 : Heap} (h : NR E s H) (hq : ∀ a : Nat, a < E.2.1 → H1[a]? = H[a]?) : NR E s H1 := by
  obtain ⟨s0, h1, h2, h3, h4, h5⟩ := h
  exact ⟨s0, h1, h2, h3, h4, fun a ha => (hq a ha).trans (h5 a ha)⟩
def RepC (E : EE) (s : State) (w : CW) (H : Heap) : Prop := RepV E s ∧ va_X E.2.2.2.2.1 E.2.2.2.2.2.1 E.2.2.2.2.2.2 s H ∧ (E.2.2.2.2.1 < E.2.1 ∧ NR E s H) ∧ va_P E.2.2.1 vwCl (wl E w) H ∧ okWd w ∧ (w.2.1 = true → H.size = E.2.1 + w.1.length) ∧ E.2.1 ≤ H.size
def RepS (E : EE) (w : CW) (U : State) : Prop := RepC E U w U.heap
theorem va_X.warm {b L : Nat} {xs : Nat → Int32} {s U : State} {H : Heap} (hvm : s.vm.Alike U.vm) (h : va_X b L xs s H) : va_X b L xs U H := by
  obtain ⟨scr, h1, h2, h3⟩ := h
  exact ⟨scr, h1, State.isArrayOf_alike hvm h2, h3⟩
theorem RepC.enter {E : EE} {s U : State} {w : CW} {H : Heap} (h : RepC E s w H) (hU : U.heap = H) (hW : s.WarmedH U.vm) : RepS E w U := by
  obtain ⟨⟨g, kk⟩, x, ⟨lt, nr⟩, rest⟩ := h
  refine ⟨⟨g.warm hW, kk.moved hW.alike⟩, ?_, ⟨lt, ?_⟩, ?_⟩
  · rw [hU]; exact x.warm hW.alike
  · rw [hU]; exact nr.warm hW
  · rw [hU]; exact rest
def QQ (E : EE) (K : Option CV → CW → Prop) : Array Value → State → Outcome → State → Prop := fun _ st o t =>
  (∃ (r : Option CV) (w' : CW), o = .returned (r.map (cv E)) ∧ K r w' ∧ (∀ v, r = some v → okv v) ∧ RepS E w' t) ∧ va_F (fun q => E.2.1 ≤ q) st t
def lsF (E : EE) : Nat → List (Option CV) → List (Nat × Value)
  | _, [] => []
  | i, none :: t => lsF E (i + 1) t
  | i, some v :: t => (i, cv E v) :: lsF E (i + 1) t
theorem lsF_of (E : EE) : ∀ (L : List (Option CV)) (i : Nat) (q : Nat × Value), q ∈ lsF E i L → ∃ (k : Nat) (v : CV), q.1 = i + k ∧ L[k]? = some (some v) ∧ q.2 = cv E v
  | [], i, q, h => by cases h
  | none :: t, i, q, h => by
    obtain ⟨k, v, h1, h2, h3⟩ := lsF_of E t (i + 1) q h
    exact ⟨k + 1, v, by omega, by simpa using h2, h3⟩
  | some u :: t, i, q, h => by
    rcases List.mem_cons.mp h with e | h
    · subst e; exact ⟨0, u, rfl, rfl, rfl⟩
    · obtain ⟨k, v, h1, h2, h3⟩ := lsF_of E t (i + 1) q h
      exact ⟨k + 1, v, by omega, by simpa using h2, h3⟩
theorem lsF_in (E : EE) : ∀ (L : List (Option CV)) (i k : Nat) (v : CV), L[k]? = some (some v) → (i + k, cv E v) ∈ lsF E i L
  | [], i, k, v, h => by simp at h
  | none :: t, i, 0, v, h => by simp at h
  | none :: t, i, k + 1, v, h => by
    have := lsF_in E t (i + 1) k v (by simpa using h)
    rw [show i + 1 + k = i + (k + 1) by omega] at this
    exact this
  | some u :: t, i, 0, v, h => by
    have e : u = v := by simpa using h
    subst e; exact List.mem_cons_self
  | some u :: t, i, k + 1, v, h => by
    have := lsF_in E t (i + 1) k v (by simpa using h)
    rw [show i + 1 + k = i + (k + 1) by omega] at this
    exact List.mem_cons_of_mem _ this
def LH (E : EE) (ls : Array Slot) (n : Nat) (L : List (Option CV)) : Prop := lv_has ls n (lsF E 0 L)
theorem LH.at {E : EE} {ls : Array Slot} {n : Nat} {L : List (Option CV)} (h : LH E ls n L) {i : Nat} {v : CV} (hi : L[i]? = some (some v)) : ls[i]? = some (.val (cv E v)) := by
  have := h.2.2 (0 + i, cv E v) (lsF_in E L 0 i v hi)
  rw [Nat.zero_add] at this
  exact this
def LH2 (ls : Array Slot) (n : Nat) : Prop := ls.size = n ∧ lv_wf ls
theorem LH.mk {E : EE} {ls : Array Slot} {n : Nat} {L : List (Option CV)} (h1 : ls.size = n) (h2 : lv_wf ls) (h : ∀ (i : Nat) (v : CV), L[i]? = some (some v) → ls[i]? = some (Slot.val (cv E v))) : LH E ls n L := by
  refine ⟨h1, h2, fun q hq => ?_⟩
  obtain ⟨k, v, e1, e2, e3⟩ := lsF_of E L 0 q hq
  rw [Nat.zero_add] at e1
  rw [e1, e3]
  exact h k v e2
def nlong (L : List (Option CV)) (i : Nat) : Bool := match i with
  | 0 => true
  | i + 1 => match L[i]? with
    | some (some (.inr (.inl _))) => false
    | _ => true
theorem cat_long {E : EE} {v : CV} (h : (cv E v).category = 2) : ∃ x, v = jV x := by
  rcases v with x | x | x | x
  · simp [cv, Value.category] at h
  · exact ⟨x, rfl⟩
  · simp [cv, Value.category] at h
  · simp [cv, Value.category] at h
theorem LH.set1 {E : EE} {ls' : Array Slot} {n : Nat} {L : List (Option CV)} {i : Nat} {v : CV} (hn : nlong L i = true)
    (h : lv_has ls' n ((i, cv E v) :: (lsF E 0 L).filter (fun q => !(q.1 == i) && !(q.1 + 1 == i && q.2.category == 2)))) : LH E ls' n (L.set i (some v)) := by
  refine LH.mk h.1 h.2.1 fun j u hj => ?_
  by_cases e : j = i
  · subst e
    rw [List.getElem?_set] at hj
    split at hj
    · split at hj
      · have : v = u := by simpa using hj
        subst this
        exact h.2.2 _ List.mem_cons_self
      · cases hj
    · rename_i c; exact absurd rfl c
  · rw [List.getElem?_set_ne (fun z => e z.symm)] at hj
    have hm := lsF_in E L 0 j u hj
    rw [Nat.zero_add] at hm
    refine h.2.2 (j, cv E u) (List.mem_cons_of_mem _ (List.mem_filter.mpr ⟨hm, ?_⟩))
    by_cases c : j + 1 = i
    · by_cases d : (cv E u).category = 2
      · exfalso
        obtain ⟨x, rfl⟩ := cat_long d
        subst c
        simp [nlong, hj] at hn
      · simp [e, d]
    · simp [e, c]
theorem LH.set2 {E : EE} {ls' : Array Slot} {n : Nat} {L : List (Option CV)} {i : Nat} {v : CV} (hn : nlong L i = true)
    (h : lv_has ls' n ((i, cv E v) :: (lsF E 0 L).filter (fun q => !(q.1 == i) && (!(q.1 == i + 1) && !(q.1 + 1 == i && q.2.category == 2))))) : LH E ls' n ((L.set i (some v)).set (i + 1) none) := by
  refine LH.mk h.1 h.2.1 fun j u hj => ?_
  by_cases e1 : j = i + 1
  · subst e1
    rw [List.getElem?_set] at hj
    split at hj
    · split at hj <;> simp at hj
    · rename_i c; exact absurd rfl c
  rw [List.getElem?_set_ne (fun z => e1 z.symm)] at hj
  by_cases e : j = i
  · subst e
    rw [List.getElem?_set] at hj
    split at hj
    · split at hj
      · have : v = u := by simpa using hj
        subst this
        exact h.2.2 _ List.mem_cons_self
      · cases hj
    · rename_i c; exact absurd rfl c
  · rw [List.getElem?_set_ne (fun z => e z.symm)] at hj
    have hm := lsF_in E L 0 j u hj
    rw [Nat.zero_add] at hm
    refine h.2.2 (j, cv E u) (List.mem_cons_of_mem _ (List.mem_filter.mpr ⟨hm, ?_⟩))
    by_cases c : j + 1 = i
    · by_cases d : (cv E u).category = 2
      · exfalso
        obtain ⟨x, rfl⟩ := cat_long d
        subst c
        simp [nlong, hj] at hn
      · simp [e, e1, d]
    · simp [e, e1, c]
def enL : List CV → List (Option CV)
  | [] => []
  | .inl x :: t => some (.inl x) :: enL t
  | .inr (.inl x) :: t => some (.inr (.inl x)) :: none :: enL t
  | .inr (.inr x) :: t => some (.inr (.inr x)) :: enL t
theorem enL_in (E : EE) : ∀ (vs : List CV) (i : Nat) (q : Nat × Value), q ∈ lsF E i (enL vs) → q ∈ lv_args i (vs.map (cv E))
  | [], i, q, h => by cases h
  | .inl x :: t, i, q, h => by
    rcases List.mem_cons.mp h with e | h
    · subst e; exact List.mem_cons_self
    · refine List.mem_cons_of_mem _ ?_
      have := enL_in E t (i + 1) q h
      simpa [cv, Value.category] using this
  | .inr (.inl x) :: t, i, q, h => by
    rcases List.mem_cons.mp h with e | h
    · subst e; exact List.mem_cons_self
    · refine List.mem_cons_of_mem _ ?_
      have := enL_in E t (i + 1 + 1) q h
      simpa [cv, Value.category] using this
  | .inr (.inr (.inl x)) :: t, i, q, h => by
    rcases List.mem_cons.mp h with e | h
    · subst e; exact List.mem_cons_self
    · refine List.mem_cons_of_mem _ ?_
      have := enL_in E t (i + 1) q h
      simpa [cv, Value.category] using this
  | .inr (.inr (.inr x)) :: t, i, q, h => by
    rcases List.mem_cons.mp h with e | h
    · subst e; exact List.mem_cons_self
    · refine List.mem_cons_of_mem _ ?_
      have := enL_in E t (i + 1) q h
      simpa [cv, Value.category] using this
