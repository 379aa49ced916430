/-- the class's knot on its stack -/
def knt (a0 : Nat) (sp i : Int) (M : MM) (x7 : Int) : Option ((Int × MM) ⊕ (Int × MM)) :=
(if x7 = 2 then
(gd (0 ≤ i ∧ i < (64 : Int)) <|
gd (0 ≤ sp ∧ sp < (64 : Int)) <|
bM (upM M (a0 + 5) (sp).toNat (M (a0 + 2) (i).toNat)) fun M11 =>
some (Sum.inl (w32 (sp + 1), M11)))
else
(f_X9_isName M x7).bind fun x12 =>
if x12 = 0 then
(if 0 < sp then
(if x7 = 312 then
(gd (0 ≤ w32 (sp - 1) ∧ w32 (sp - 1) < (64 : Int)) <|
((if (cmpI (M (a0 + 5) (w32 (sp - 1)).toNat) 0) = 0 then
(some 1)
else
some 0) : Option (Int)).bind fun x18 =>
gd (0 ≤ w32 (sp - 1) ∧ w32 (sp - 1) < (64 : Int)) <|
bM (upM M (a0 + 5) (w32 (sp - 1)).toNat x18) fun M20 =>
some (Sum.inl (sp, M20)))
else
if 1 < sp then
(gd (0 ≤ w32 ((w32 (sp + (-1))) - 1) ∧ w32 ((w32 (sp + (-1))) - 1) < (64 : Int)) <|
gd (0 ≤ w32 (sp + (-1)) ∧ w32 (sp + (-1)) < (64 : Int)) <|
(f_X3_joined M x7 (M (a0 + 5) (w32 ((w32 (sp + (-1))) - 1)).toNat) (M (a0 + 5) (w32 (sp + (-1))).toNat)).bind fun x24 =>
if 0 < (cmpI x24 1000000000000) then
(some (Sum.inr ((-9223372036854775808), M)))
else
if (cmpI x24 (-1000000000000)) < 0 then
(some (Sum.inr ((-9223372036854775808), M)))
else
gd (0 ≤ w32 ((w32 (sp + (-1))) - 1) ∧ w32 ((w32 (sp + (-1))) - 1) < (64 : Int)) <|
bM (upM M (a0 + 5) (w32 ((w32 (sp + (-1))) - 1)).toNat x24) fun M28 =>
some (Sum.inl (w32 (sp + (-1)), M28)))
else
some (Sum.inl (sp, M)))
else
if 1 < sp then
(gd (0 ≤ w32 ((w32 (sp + (-1))) - 1) ∧ w32 ((w32 (sp + (-1))) - 1) < (64 : Int)) <|
gd (0 ≤ w32 (sp + (-1)) ∧ w32 (sp + (-1)) < (64 : Int)) <|
(f_X3_joined M x7 (M (a0 + 5) (w32 ((w32 (sp + (-1))) - 1)).toNat) (M (a0 + 5) (w32 (sp + (-1))).toNat)).bind fun x32 =>
if 0 < (cmpI x32 1000000000000) then
(some (Sum.inr ((-9223372036854775808), M)))
else
if (cmpI x32 (-1000000000000)) < 0 then
(some (Sum.inr ((-9223372036854775808), M)))
else
gd (0 ≤ w32 ((w32 (sp + (-1))) - 1) ∧ w32 ((w32 (sp + (-1))) - 1) < (64 : Int)) <|
bM (upM M (a0 + 5) (w32 ((w32 (sp + (-1))) - 1)).toNat x32) fun M36 =>
some (Sum.inl (w32 (sp + (-1)), M36)))
else
some (Sum.inl (sp, M)))
else
gd (0 ≤ w32 (x7 - 313) ∧ w32 (x7 - 313) < (7 : Int)) <|
gd (0 ≤ sp ∧ sp < (64 : Int)) <|
bM (upM M (a0 + 5) (sp).toNat (M (a0 + 6) (w32 (x7 - 313)).toNat)) fun M39 =>
some (Sum.inl (w32 (sp + 1), M39)))
def cs3 (a0 : Nat) (p1 : Int) : Int × Int × MM → Option ((Int × Int × MM) ⊕ ((Int × MM) ⊕ (Int × MM))) := fun x3 =>
gd (0 ≤ p1 ∧ p1 < (3 : Int)) <|
if x3.2.1 < (x3.2.2 (a0 + 4) (p1).toNat) then
(gd (0 ≤ x3.2.1 ∧ x3.2.1 < (64 : Int)) <|
bI (x3.2.2 (a0 + 1) (x3.2.1).toNat) fun x7 =>
bS (knt a0 x3.1 x3.2.1 x3.2.2 x7) (fun x40 =>
some (Sum.inl (x40.1, w32 (x3.2.1 + 1), x40.2))) (fun r => (Sum.inr (Sum.inr r))))
else
some (Sum.inr (Sum.inl (x3.1, x3.2.2)))
/-- a name's value in a law -/
def lfv (nm : Nat → Int) (x : Int) : Int := cl (nm ((x - 313).toNat % 7)) (-1000000) 1000000
/-- one knot on a stack, newest first -/
def stk1 (nm : Nat → Int) (x v : Int) (s : List Int) : Option (List Int) := if x = 2 then some (v :: s) else if 313 ≤ x then some (lfv nm x :: s) else if x = 312 then some (b1 (s.headD 0 = 0) :: s.tail) else (jn x (s.tail.headD 0) (s.headD 0)).map fun r => r :: s.tail.tail
def rv (nm : Nat → Int) : List Int → List Int → Option (List Int)
  | [], _ => some []
  | _ :: _, [] => none
  | x :: K, v :: V => (rv nm K V).bind (stk1 nm x v)
/-- what a knot may be, above a stack of n -/
def KN (x v : Int) (n : Nat) : Prop := (x = 2 ∧ 0 ≤ v ∧ v ≤ 9999) ∨ (313 ≤ x ∧ x < 320) ∨ (x = 312 ∧ 1 ≤ n) ∨ (JB x ∧ 2 ≤ n)
theorem OKK_nil {st : Nat} {V A B : List Int} (h : OKK st [] V A B) : V = [] ∧ A = [] ∧ B = [] := by
  cases V with
  | nil =>
    cases A with
    | nil =>
      cases B with
      | nil => exact ⟨rfl, rfl, rfl⟩
      | cons b B => exact h.elim
    | cons a A => exact h.elim
  | cons v V => exact h.elim
theorem OKK_cons {st : Nat} {x : Int} {K V A B : List Int} (h : OKK st (x :: K) V A B) : ∃ v V' a A' b B', V = v :: V' ∧ A = a :: A' ∧ B = b :: B' ∧ OKK st K V' A' B' ∧ ((x = 2 ∧ 0 ≤ v ∧ v ≤ 9999 ∧ a = v) ∨ (313 ≤ x ∧ x < 320 ∧ a = x - 313) ∨ (JK x ∧ x ≠ 40 ∧ a = lA x (plc st K) ∧ b = lB x (plc st K) ∧ (if x = 312 then 1 else 2) ≤ (plc st K).length)) := by
  cases V with
  | nil => exact h.elim
  | cons v V =>
    cases A with
    | nil => exact h.elim
    | cons a A =>
      cases B with
      | nil => exact h.elim
      | cons b B => exact ⟨v, V, a, A, b, B, rfl, rfl, rfl, h.1, h.2⟩
theorem OKK_len {st : Nat} : ∀ {K V A B : List Int}, OKK st K V A B → V.length = K.length ∧ A.length = K.length ∧ B.length = K.length
  | [], V, A, B, h => by obtain ⟨rfl, rfl, rfl⟩ := OKK_nil h; exact ⟨rfl, rfl, rfl⟩
  | x :: K, V, A, B, h => by
    obtain ⟨v, V', a, A', b, B', rfl, rfl, rfl, h1, _⟩ := OKK_cons h
    obtain ⟨i1, i2, i3⟩ := OKK_len h1
    exact ⟨by rw [List.length_cons, List.length_cons, i1], by rw [List.length_cons, List.length_cons, i2], by rw [List.length_cons, List.length_cons, i3]⟩
theorem KN_of {st : Nat} {x v a b : Int} {K : List Int} (h : (x = 2 ∧ 0 ≤ v ∧ v ≤ 9999 ∧ a = v) ∨ (313 ≤ x ∧ x < 320 ∧ a = x - 313) ∨ (JK x ∧ x ≠ 40 ∧ a = lA x (plc st K) ∧ b = lB x (plc st K) ∧ (if x = 312 then 1 else 2) ≤ (plc st K).length)) : KN x v (plc st K).length := by
  rcases h with ⟨h1, h2, h3, _⟩ | ⟨h1, h2, _⟩ | ⟨h1, h2, _, _, h3⟩
  · exact Or.inl ⟨h1, h2, h3⟩
  · exact Or.inr (Or.inl ⟨h1, h2⟩)
  · by_cases q : x = 312
    · rw [if_pos q] at h3
      exact Or.inr (Or.inr (Or.inl ⟨q, h3⟩))
    · rw [if_neg q] at h3
      exact Or.inr (Or.inr (Or.inr ⟨⟨h1, h2, q⟩, h3⟩))
theorem JB_lt {x : Int} (h : JB x) : x ≠ 2 ∧ ¬ 313 ≤ x ∧ x ≠ 312 := by
  obtain ⟨h, h1, h2⟩ := h
  rcases h with h | h | h | h | h | h | h | h | h | h | h | h | h | h <;> subst h <;> first | exact ⟨by decide, by decide, by decide⟩ | exact absurd rfl h1 | exact absurd rfl h2
theorem hd_bd {s : List Int} (h : ∀ v, v ∈ s → bd v) : bd (s.headD 0) := by
  cases s with
  | nil => exact ⟨by decide, by decide⟩
  | cons a s => exact h a List.mem_cons_self
theorem tl_bd {s : List Int} (h : ∀ v, v ∈ s → bd v) : ∀ v, v ∈ s.tail → bd v := fun v hv => h v (List.mem_of_mem_tail hv)
theorem cl_bd (y : Int) : bd (cl y (-1000000) 1000000) := by
  unfold cl bd
  by_cases q : y < -1000000
  · rw [if_pos q]; omega
  · rw [if_neg q]
    by_cases r : 1000000 < y
    · rw [if_pos r]; omega
    · rw [if_neg r]; omega
/-- a knot's stack: its length and its values -/
theorem stk1_ok {nm : Nat → Int} {x v : Int} {s0 s : List Int} (k : KN x v s0.length) (hb : ∀ v, v ∈ s0 → bd v) (h : stk1 nm x v s0 = some s) : (∀ v, v ∈ s → bd v) ∧ s.length = if LF x then s0.length + 1 else if x = 312 then s0.length else s0.length - 1 := by
  have cons : ∀ {y : Int} {L : List Int}, bd y → (∀ v, v ∈ L → bd v) → ∀ v, v ∈ y :: L → bd v := fun {y L} h1 h2 v hv => by
    rcases List.mem_cons.mp hv with e | e
    · rw [e]; exact h1
    · exact h2 v e
  unfold stk1 at h
  rcases k with ⟨h1, h2, h3⟩ | ⟨h1, h2⟩ | ⟨h1, h2⟩ | ⟨h1, h2⟩
  · rw [if_pos h1] at h
    have e := Option.some.inj h
    subst e
    exact ⟨cons ⟨by omega, by omega⟩ hb, by rw [if_pos (Or.inl h1), List.length_cons]⟩
  · rw [if_neg (show ¬ x = 2 by omega), if_pos h1] at h
    have e := Option.some.inj h
    subst e
    exact ⟨cons (cl_bd _) hb, by rw [if_pos (Or.inr ⟨h1, h2⟩), List.length_cons]⟩
  · rw [if_neg (show ¬ x = 2 by omega), if_neg (show ¬ 313 ≤ x by omega), if_pos h1] at h
    have e := Option.some.inj h
    subst e
    exact ⟨cons (bd_b1 _) (tl_bd hb), by rw [if_neg (show ¬ LF x by unfold LF; omega), if_pos h1, List.length_cons, List.length_tail]; omega⟩
  · obtain ⟨n1, n2, n3⟩ := JB_lt h1
    rw [if_neg n1, if_neg n2, if_neg n3] at h
    cases e : jn x (s0.tail.headD 0) (s0.headD 0) with
    | none => rw [e] at h; exact absurd h (by simp)
    | some r =>
      rw [e] at h
      have e' := Option.some.inj h
      subst e'
      refine ⟨cons (jn_bd (hd_bd (tl_bd hb)) e) (tl_bd (tl_bd hb)), ?_⟩
      rw [if_neg (show ¬ LF x by unfold LF; omega), if_neg n3, List.length_cons, List.length_tail, List.length_tail]
      omega
theorem plc_len {st : Nat} {x : Int} {K : List Int} {v : Int} (k : KN x v (plc st K).length) : (plc st (x :: K)).length = if LF x then (plc st K).length + 1 else if x = 312 then (plc st K).length else (plc st K).length - 1 := by
  show (if LF x then ((st + K.length : Nat) : Int) :: plc st K else nP x (st + K.length) (plc st K)).length = _
  by_cases q : LF x
  · rw [if_pos q, if_pos q, List.length_cons]
  · rw [if_neg q, if_neg q]
    show (((st + K.length : Nat) : Int) :: (if x = 312 then (plc st K).tail else (plc st K).tail.tail)).length = _
    have n : x = 312 ∧ 1 ≤ (plc st K).length ∨ x ≠ 312 ∧ 2 ≤ (plc st K).length := by
      rcases k with h | h | h | h
      · exact absurd (Or.inl h.1) q
      · exact absurd (Or.inr h) q
      · exact Or.inl h
      · exact Or.inr ⟨h.1.2.2, h.2⟩
    by_cases r : x = 312
    · rw [if_pos r, if_pos r, List.length_cons, List.length_tail]; omega
    · rw [if_neg r, if_neg r, List.length_cons, List.length_tail, List.length_tail]; omega
theorem rv_ok {nm : Nat → Int} {st : Nat} : ∀ {K V A B s : List Int}, OKK st K V A B → rv nm K V = some s → (∀ v, v ∈ s → bd v) ∧ s.length = (plc st K).length
  | [], V, A, B, s, _, h => by
    have e : some [] = some s := h
    have e := Option.some.inj e
    subst e
    exact ⟨fun v hv => absurd hv List.not_mem_nil, rfl⟩
  | x :: K, V, A, B, s, hk, h => by
    obtain ⟨v, V', a, A', b, B', rfl, rfl, rfl, h1, h2⟩ := OKK_cons hk
    have h : (rv nm K V').bind (stk1 nm x v) = some s := h
    cases e : rv nm K V' with
    | none => rw [e] at h; exact absurd h (by simp)
    | some s0 =>
      rw [e, Option.bind_some] at h
      obtain ⟨i1, i2⟩ := rv_ok h1 e
      have k := KN_of h2
      obtain ⟨j1, j2⟩ := stk1_ok (by rw [i2]; exact k) i1 h
      exact ⟨j1, by rw [j2, plc_len k, i2]⟩
theorem plc_lt {st : Nat} : ∀ {K : List Int} {p : Int}, p ∈ plc st K → 0 ≤ p ∧ p < ((st + K.length : Nat) : Int)
  | [], p, h => absurd h List.not_mem_nil
  | x :: K, p, h => by
    have h : p ∈ (if LF x then ((st + K.length : Nat) : Int) :: plc st K else nP x (st + K.length) (plc st K)) := h
    have ih : ∀ {q : Int}, q ∈ plc st K → 0 ≤ q ∧ q < ((st + (x :: K).length : Nat) : Int) := fun hq => by
      have := plc_lt hq
      rw [List.length_cons]
      omega
    have h0 : 0 ≤ ((st + K.length : Nat) : Int) ∧ ((st + K.length : Nat) : Int) < ((st + (x :: K).length : Nat) : Int) := by rw [List.length_cons]; omega
    by_cases q : LF x
    · rw [if_pos q] at h
      rcases List.mem_cons.mp h with e | e
      · rw [e]; exact h0
      · exact ih e
    · rw [if_neg q] at h
      have h : p ∈ ((st + K.length : Nat) : Int) :: (if x = 312 then (plc st K).tail else (plc st K).tail.tail) := h
      rcases List.mem_cons.mp h with e | e
      · rw [e]; exact h0
      · by_cases r : x = 312
        · rw [if_pos r] at e; exact ih (List.mem_of_mem_tail e)
        · rw [if_neg r] at e; exact ih (List.mem_of_mem_tail (List.mem_of_mem_tail e))
section CVAL
variable {M : MM} {g w : Nat}
theorem lf_nm {nm : Nat → Int} {x : Int} (h : NmOK nm) (h1 : 313 ≤ x) (h2 : x < 320) : lfv nm x = nm (x - 313).toNat := by
  have e : (x - 313).toNat % 7 = (x - 313).toNat := by omega
  have b := h (x - 313).toNat (by omega)
  unfold lfv cl
  rw [e, if_neg (by omega), if_neg (by omega)]
/-- the class's knot -/
theorem c_knot {i : Nat} {x v : Int} {s0 : List Int} (hi : i < 64) (hv : M (g + 14) i = v) (hs : STK (M (g + 17)) s0) (hl : s0.length < 64) (hb : ∀ v, v ∈ s0 → bd v) (nm : NmOK (M (g + 18))) (k : KN x v s0.length) : (∃ s M', stk1 (M (g + 18)) x v s0 = some s ∧ knt (g + 12) (s0.length : Int) (i : Int) M x = some (Sum.inl ((s.length : Int), M')) ∧ STK (M' (g + 17)) s ∧ ∀ a, a ≠ g + 17 → M' a = M a) ∨ (stk1 (M (g + 18)) x v s0 = none ∧ knt (g + 12) (s0.length : Int) (i : Int) M x = some (Sum.inr (ERR, M))) := by
  have zi : 0 ≤ (i : Int) ∧ (i : Int) < 64 := by omega
  have zs : 0 ≤ (s0.length : Int) ∧ (s0.length : Int) < 64 := by omega
  have hv' : M (g + 12 + 2) i = v := hv
  unfold knt stk1
  rcases k with ⟨h1, h2, h3⟩ | ⟨h1, h2⟩ | ⟨h1, h2⟩ | ⟨h1, h2⟩
  · left
    refine ⟨v :: s0, upM M (g + 17) s0.length v, by rw [if_pos h1], ?_, ⟨upM_eq, hs.cg (fun j hj => up_ni (by omega))⟩, fun a ha => up_row ha⟩
    rw [if_pos h1, gd_t zi, gd_t zs, bM_eq, Int.toNat_natCast, Int.toNat_natCast, hv', wi7 (by omega), List.length_cons]
  · left
    have w1 : w32 (x - 313) = x - 313 := w32_i (by omega) (by omega)
    have zn : 0 ≤ x - 313 ∧ x - 313 < 7 := by omega
    refine ⟨lfv (M (g + 18)) x :: s0, upM M (g + 17) s0.length (lfv (M (g + 18)) x), by rw [if_neg (show ¬ x = 2 by omega), if_pos h1], ?_, ⟨upM_eq, hs.cg (fun j hj => up_ni (by omega))⟩, fun a ha => up_row ha⟩
    rw [if_neg (show ¬ x = 2 by omega), c_isName, Option.bind_some, if_b1, if_pos ⟨h1, h2⟩, w1, gd_t zn, gd_t zs, bM_eq, Int.toNat_natCast, wi7 (by omega), List.length_cons, lf_nm nm h1 h2]
  · left
    obtain ⟨a, s1, rfl⟩ : ∃ a s1, s0 = a :: s1 := by
      cases s0 with
      | nil => exact absurd h2 (by show ¬ 1 ≤ 0; omega)
      | cons a s1 => exact ⟨a, s1, rfl⟩
    rw [List.length_cons] at hl zs
    have z1 : 0 ≤ (s1.length : Int) ∧ (s1.length : Int) < 64 := by omega
    obtain ⟨hs1, hs2⟩ := hs
    have hs1 : M (g + 12 + 5) s1.length = a := hs1
    refine ⟨b1 (a = 0) :: s1, upM M (g + 17) s1.length (b1 (a = 0)), by rw [if_neg (show ¬ x = 2 by omega), if_neg (show ¬ 313 ≤ x by omega), if_pos h1]; rfl, ?_, ⟨upM_eq, hs2.cg (fun j hj => up_ni (by omega))⟩, fun a ha => up_row ha⟩
    rw [if_neg (show ¬ x = 2 by omega), c_isName, Option.bind_some, if_b1, if_neg (show ¬ (313 ≤ x ∧ x < 320) by omega), List.length_cons, if_pos (show 0 < ((s1.length + 1 : Nat) : Int) by omega), if_pos h1, wp1 (by omega), gd_t z1, Int.toNat_natCast, hs1, cb_p (cmpI_eq a 0), Option.bind_some, gd_t z1, bM_eq, List.length_cons]
  · obtain ⟨n1, n2, n3⟩ := JB_lt h1
    obtain ⟨b, a, s2, rfl⟩ : ∃ b a s2, s0 = b :: a :: s2 := by
      cases s0 with
      | nil => exact absurd h2 (by show ¬ 2 ≤ 0; omega)
      | cons b s1 =>
        cases s1 with
        | nil => exact absurd h2 (by show ¬ 2 ≤ 1; omega)
        | cons a s2 => exact ⟨b, a, s2, rfl⟩
    rw [List.length_cons, List.length_cons] at hl zs
    have z1 : 0 ≤ (s2.length : Int) ∧ (s2.length : Int) < 64 := by omega
    have z2 : 0 ≤ ((s2.length + 1 : Nat) : Int) ∧ ((s2.length + 1 : Nat) : Int) < 64 := by omega
    obtain ⟨hs1, hs2, hs3⟩ := hs
    have hs1 : M (g + 12 + 5) (s2.length + 1) = b := hs1
    have hs2 : M (g + 12 + 5) s2.length = a := hs2
    have ba : bd a := hb a (List.mem_cons_of_mem _ List.mem_cons_self)
    have bb : bd b := hb b List.mem_cons_self
    have wa : w32 (((s2.length + 1 + 1 : Nat) : Int) + (-1)) = ((s2.length + 1 : Nat) : Int) := wp1 (k := s2.length + 1) (by omega)
    have e : knt (g + 12) (((b :: a :: s2).length : Nat) : Int) (i : Int) M x = ((f_X3_joined M x a b).bind fun x24 => if 0 < (cmpI x24 1000000000000) then (some (Sum.inr ((-9223372036854775808), M))) else if (cmpI x24 (-1000000000000)) < 0 then (some (Sum.inr ((-9223372036854775808), M))) else some (Sum.inl (((s2.length + 1 : Nat) : Int), upM M (g + 17) s2.length x24))) := by
      unfold knt
      rw [List.length_cons, List.length_cons, if_neg n1, c_isName, Option.bind_some, if_b1, if_neg (show ¬ (313 ≤ x ∧ x < 320) by omega), if_pos (show 0 < ((s2.length + 1 + 1 : Nat) : Int) by omega), if_neg n3, if_pos (show 1 < ((s2.length + 1 + 1 : Nat) : Int) by omega), wa, wp1 (by omega), gd_t z1, gd_t z2, Int.toNat_natCast, Int.toNat_natCast, hs1, hs2]
      simp only [gd_t z1]
      rfl
    unfold knt at e
    rw [e]
    rw [if_neg n1, if_neg n2, if_neg n3]
    show (∃ s M', (jn x a b).map _ = some s ∧ _) ∨ _
    obtain ⟨r, r1, r2⟩ := c_joined M h1 ba bb
    rcases r2 with ⟨r2, r3⟩ | ⟨r2, r3⟩
    · left
      refine ⟨r :: s2, upM M (g + 17) s2.length r, by rw [r2]; rfl, ?_, ⟨upM_eq, hs3.cg (fun j hj => up_ni (by omega))⟩, fun a ha => up_row ha⟩
      rw [r1, Option.bind_some, if_neg (show ¬ 0 < cmpI r 1000000000000 by rw [cmpI_gt]; have := r3.2; omega), if_neg (show ¬ cmpI r (-1000000000000) < 0 by rw [cmpI_lt]; have := r3.1; omega), List.length_cons]
    · right
      refine ⟨by show (jn x a b).map _ = none; rw [r2]; rfl, ?_⟩
      rw [r1, Option.bind_some]
      by_cases q1 : 1000000000000 < r
      · rw [if_pos ((cmpI_gt _ _).mpr q1)]; rfl
      · rw [if_neg (fun z => q1 ((cmpI_gt _ _).mp z)), if_pos ((cmpI_lt _ _).mpr (by unfold bd at r3; omega))]; rfl
end CVAL
