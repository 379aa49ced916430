def ns6 (p1 : Int) : Int × MM → Option ((Int × MM) ⊕ MM) := fun x4 =>
gd (0 ≤ p1 ∧ p1 < (6 : Int)) <|
if x4.1 < (x4.2 108 (p1).toNat) then
((f_X12_valueOf x4.2 x4.1).bind fun x7 =>
gd (0 ≤ x4.1 ∧ x4.1 < (64 : Int)) <|
bM (upM x7.2 115 (x4.1).toNat x7.1) fun M9 =>
some (Sum.inl (w32 (x4.1 + 1), M9)))
else
some (Sum.inr x4.2)
section NRUN
variable {N : MM} {w st : Nat}
/-- the values at the places held -/
def vs (N : MM) (P : List Int) : List Int := P.map fun p => N 115 p.toNat
theorem vs_cg {N N' : MM} : ∀ {P : List Int}, (∀ p, p ∈ P → N' 115 p.toNat = N 115 p.toNat) → vs N' P = vs N P
  | [], _ => rfl
  | p :: P, h => by
    show N' 115 p.toNat :: vs N' P = N 115 p.toNat :: vs N P
    rw [h p List.mem_cons_self, vs_cg (fun q hq => h q (List.mem_cons_of_mem _ hq))]
/-- one knot, to the second system -/
theorem n_knot {q : Nat} {x v a b : Int} {P : List Int} (hq : q < 64) (h9 : N 109 q = mk x) (h0 : N 110 q = a) (h1 : N 111 q = b) (hP : ∀ p, p ∈ P → 0 ≤ p ∧ p < (q : Int)) (hB : ∀ p, p ∈ P → bd (N 115 p.toNat)) (nm : NmOK (N 114)) (hf : N 88 53 = 0 ∨ N 88 53 = 1) (h : (x = 2 ∧ 0 ≤ v ∧ v ≤ 9999 ∧ a = v) ∨ (313 ≤ x ∧ x < 320 ∧ a = x - 313) ∨ (JK x ∧ x ≠ 40 ∧ a = lA x P ∧ b = lB x P ∧ (if x = 312 then 1 else 2) ≤ P.length)) : ∃ u N', f_X12_valueOf N (q : Int) = some (u, N') ∧ (∀ a j, ¬ (a = 88 ∧ j = 53) → N' a j = N a j) ∧ bd u ∧ ((N 88 53 = 0 ∧ N' 88 53 = 0 ∧ stk1 (N 114) x v (vs N P) = some (u :: (if LF x then vs N P else if x = 312 then (vs N P).tail else (vs N P).tail.tail))) ∨ (¬ (N 88 53 = 0 ∧ stk1 (N 114) x v (vs N P) ≠ none) ∧ N' 88 53 = 1)) := by
  have z : 0 ≤ (q : Int) ∧ (q : Int) < 128 := by omega
  rcases h with ⟨e1, e2, e3, e4⟩ | ⟨e1, e2, e3⟩ | ⟨e1, e2, e3, e4, e5⟩
  · have ev : f_X12_valueOf N (q : Int) = some (v, N) := by
      unfold f_X12_valueOf
      rw [gd_t z, Int.toNat_natCast, h9, if_pos (show mk x = 0 by rw [e1]; rfl), gd_t z, h0, e4]
    refine ⟨v, N, ev, fun _ _ _ => rfl, ⟨by omega, by omega⟩, ?_⟩
    rcases hf with f | f
    · refine Or.inl ⟨f, f, ?_⟩
      unfold stk1
      rw [if_pos e1, if_pos (Or.inl e1)]
    · exact Or.inr ⟨fun z => by have := z.1; omega, f⟩
  · have em : mk x = 1 := by unfold mk; rw [if_neg (by omega), if_pos e1]
    have zn : 0 ≤ x - 313 ∧ x - 313 < 7 := by omega
    have ev : f_X12_valueOf N (q : Int) = some (N 114 (x - 313).toNat, N) := by
      unfold f_X12_valueOf
      rw [gd_t z, Int.toNat_natCast, h9, em, if_neg (show ¬ (1 : Int) = 0 by decide), gd_t z, if_pos (show (1 : Int) = 1 from rfl), gd_t z, h0, e3, gd_t zn]
    have bn := nm (x - 313).toNat (by omega)
    refine ⟨_, N, ev, fun _ _ _ => rfl, ⟨by omega, by omega⟩, ?_⟩
    rcases hf with f | f
    · refine Or.inl ⟨f, f, ?_⟩
      unfold stk1
      rw [if_neg (show ¬ x = 2 by omega), if_pos e1, if_pos (Or.inr ⟨e1, e2⟩), lf_nm nm e1 e2]
    · exact Or.inr ⟨fun z => by have := z.1; omega, f⟩
  · have nl : ¬ LF x := JK_LF e1
    have n2 : ¬ x = 2 := fun z => nl (Or.inl z)
    have n3 : ¬ 313 ≤ x := fun z => by
      rcases e1 with h | h | h | h | h | h | h | h | h | h | h | h | h | h <;> omega
    by_cases q3 : x = 312
    · rw [if_pos q3] at e5
      obtain ⟨p, P1, rfl⟩ : ∃ p P1, P = p :: P1 := by
        cases P with
        | nil => exact absurd e5 (by show ¬ 1 ≤ 0; omega)
        | cons p P1 => exact ⟨p, P1, rfl⟩
      have ep : a = p := by rw [e3]; unfold lA; rw [if_pos q3]; rfl
      obtain ⟨i, hi⟩ := nat_of (hP p List.mem_cons_self).1
      have hi2 := (hP p List.mem_cons_self).2
      have zi : 0 ≤ (i : Int) ∧ (i : Int) < 64 := by omega
      have em : mk x = 2 := by rw [q3]; rfl
      have ev : f_X12_valueOf N (q : Int) = some (b1 (N 115 i = 0), N) := by
        unfold f_X12_valueOf
        rw [gd_t z, Int.toNat_natCast, h9, em, if_neg (show ¬ (2 : Int) = 0 by decide), gd_t z, if_neg (show ¬ (2 : Int) = 1 by decide), gd_t z, h0, ep, hi, gd_t zi, Int.toNat_natCast, bI_eq, gd_t z, if_pos (show (2 : Int) = 2 from rfl)]
        unfold b1
        by_cases c : N 115 i = 0
        · rw [if_pos ((cmpI_eq _ _).mpr c), if_pos c]
        · rw [if_neg (fun z => c ((cmpI_eq _ _).mp z)), if_neg c]
      refine ⟨_, N, ev, fun _ _ _ => rfl, bd_b1 _, ?_⟩
      rcases hf with f | f
      · refine Or.inl ⟨f, f, ?_⟩
        unfold stk1
        rw [if_neg n2, if_neg n3, if_pos q3, if_neg nl, if_pos q3]
        show some (b1 (N 115 p.toNat = 0) :: vs N P1) = _
        rw [hi, Int.toNat_natCast]
        rfl
      · exact Or.inr ⟨fun z => by have := z.1; omega, f⟩
    · rw [if_neg q3] at e5
      obtain ⟨pb, pa, P2, rfl⟩ : ∃ pb pa P2, P = pb :: pa :: P2 := by
        cases P with
        | nil => exact absurd e5 (by show ¬ 2 ≤ 0; omega)
        | cons pb P1 =>
          cases P1 with
          | nil => exact absurd e5 (by show ¬ 2 ≤ 1; omega)
          | cons pa P2 => exact ⟨pb, pa, P2, rfl⟩
      have ea : a = pa := by rw [e3]; unfold lA; rw [if_neg q3]; rfl
      have eb : b = pb := by rw [e4]; unfold lB; rw [if_neg q3]; rfl
      have ma : pa ∈ pb :: pa :: P2 := List.mem_cons_of_mem _ List.mem_cons_self
      have mb : pb ∈ pb :: pa :: P2 := List.mem_cons_self
      obtain ⟨i, hi⟩ := nat_of (hP pa ma).1
      obtain ⟨j, hj⟩ := nat_of (hP pb mb).1
      have hi2 := (hP pa ma).2
      have hj2 := (hP pb mb).2
      have ba := hB pa ma
      have bb := hB pb mb
      rw [hi, Int.toNat_natCast] at ba
      rw [hj, Int.toNat_natCast] at bb
      have jb : JB x := ⟨e1, e2, q3⟩
      have kk : cd x = 3 ∨ cd x = 4 ∨ cd x = 5 ∨ cd x = 6 ∨ cd x = 7 ∨ cd x = 8 ∨ cd x = 9 ∨ cd x = 10 ∨ cd x = 11 ∨ cd x = 12 ∨ cd x = 13 ∨ cd x = 14 := by
        rcases e1 with h | h | h | h | h | h | h | h | h | h | h | h | h | h <;> subst h <;> first | decide | exact absurd rfl e2 | exact absurd rfl q3
      have ev := vo_eq (N := N) (p := q) (i := i) (j := j) hq (h9.trans (mk_j e1)) kk (by rw [h0, ea, hi]) (by omega) (by rw [h1, eb, hj]) (by omega)
      obtain ⟨u, N', k1, k2, k3, k4⟩ := m_knot (N := N) jb ba bb hf
      have sj : stk1 (N 114) x v (vs N (pb :: pa :: P2)) = (jn x (N 115 i) (N 115 j)).map fun r => r :: vs N P2 := by
        unfold stk1
        rw [if_neg n2, if_neg n3, if_neg q3]
        show (jn x (N 115 pa.toNat) (N 115 pb.toNat)).map _ = _
        rw [hi, hj, Int.toNat_natCast, Int.toNat_natCast]
        rfl
      refine ⟨u, N', ev.trans k1, k2, k3, ?_⟩
      rw [sj]
      rcases k4 with ⟨f1, f2, f3⟩ | ⟨f1, f2⟩
      · refine Or.inl ⟨f1, f3, ?_⟩
        rw [f2, if_neg nl, if_neg q3]
        rfl
      · refine Or.inr ⟨fun z => f1 ⟨z.1, fun y => z.2 (by rw [y]; rfl)⟩, f2⟩
/-- the second system's run over the knots of a law -/
theorem n_run {e : Nat} (hw : w < 6) (he : N 108 w = (e : Int)) (h64 : e ≤ 64) (nm : NmOK (N 114)) (hf : N 88 53 = 0) : ∀ {K V A B : List Int} (m : Nat), OKK st K V A B → STK (fun i => N 109 (st + i)) (K.map mk) → STK (fun i => N 110 (st + i)) A → STK (fun i => N 111 (st + i)) B → st + K.length ≤ e → ∃ N', lp (ns6 (w : Int)) (m + K.length) ((st : Int), N) = lp (ns6 (w : Int)) m (((st + K.length : Nat) : Int), N') ∧ (∀ a j, a ≠ 115 → ¬ (a = 88 ∧ j = 53) → N' a j = N a j) ∧ (∀ p, p ∈ plc st K → bd (N' 115 p.toNat)) ∧ ((N' 88 53 = 0 ∧ rv (N 114) K V = some (vs N' (plc st K))) ∨ (N' 88 53 = 1 ∧ rv (N 114) K V = none))
  | [], V, A, B, m, _, _, _, _, _ => ⟨N, rfl, fun _ _ _ _ => rfl, fun p hp => absurd hp List.not_mem_nil, Or.inl ⟨hf, by cases V <;> rfl⟩⟩
  | x :: K, V, A, B, m, hk, s1, s2, s3, hl => by
    obtain ⟨v, V', a, A', b, B', rfl, rfl, rfl, h1, h2⟩ := OKK_cons hk
    obtain ⟨s1a, s1b⟩ := s1
    obtain ⟨s2a, s2b⟩ := s2
    obtain ⟨s3a, s3b⟩ := s3
    obtain ⟨vl, al, bl⟩ := OKK_len h1
    rw [List.length_map] at s1a
    rw [al] at s2a
    rw [bl] at s3a
    rw [List.length_cons] at hl
    have fu : m + (x :: K).length = m + 1 + K.length := by rw [List.length_cons]; omega
    rw [fu]
    obtain ⟨N1, i1, i2, i3, i4⟩ := n_run hw he h64 nm hf (m + 1) h1 s1b s2b s3b (by omega)
    have hq : st + K.length < 64 := by omega
    have r114 : N1 114 = N 114 := funext fun j => i2 114 j (by decide) (by omega)
    have zw : 0 ≤ (w : Int) ∧ (w : Int) < 6 := by omega
    have zi : 0 ≤ ((st + K.length : Nat) : Int) ∧ ((st + K.length : Nat) : Int) < 64 := by omega
    have lt : ((st + K.length : Nat) : Int) < (e : Int) := by omega
    have r108 : N1 108 w = (e : Int) := by rw [i2 108 w (by decide) (by omega)]; exact he
    obtain ⟨u, N2, j1, j2, j3, j4⟩ := n_knot (N := N1) (q := st + K.length) (x := x) (v := v) (a := a) (b := b) (P := plc st K) hq (by rw [i2 109 _ (by decide) (by omega)]; exact s1a) (by rw [i2 110 _ (by decide) (by omega)]; exact s2a) (by rw [i2 111 _ (by decide) (by omega)]; exact s3a) (fun p hp => plc_lt hp) i3 (by rw [r114]; exact nm) (by rcases i4 with h | h; exact Or.inl h.1; exact Or.inr h.1) h2
    have es : ns6 (w : Int) (((st + K.length : Nat) : Int), N1) = some (Sum.inl (((st + (K.length + 1) : Nat) : Int), upM N2 115 (st + K.length) u)) := by
      show gd (0 ≤ (w : Int) ∧ (w : Int) < (6 : Int)) (if ((st + K.length : Nat) : Int) < (N1 108 ((w : Int)).toNat) then ((f_X12_valueOf N1 ((st + K.length : Nat) : Int)).bind fun x7 => gd (0 ≤ ((st + K.length : Nat) : Int) ∧ ((st + K.length : Nat) : Int) < (64 : Int)) <| bM (upM x7.2 115 (((st + K.length : Nat) : Int)).toNat x7.1) fun M9 => some (Sum.inl (w32 (((st + K.length : Nat) : Int) + 1), M9))) else some (Sum.inr N1)) = _
      rw [gd_t zw, Int.toNat_natCast, r108, if_pos lt, j1, Option.bind_some, gd_t zi, bM_eq, Int.toNat_natCast, wi7 (by omega)]
      rfl
    have old : ∀ p, p ∈ plc st K → upM N2 115 (st + K.length) u 115 p.toNat = N1 115 p.toNat := fun p hp => by
      have := plc_lt hp
      rw [up_ni (by omega), j2 115 _ (by omega)]
    have new : upM N2 115 (st + K.length) u 115 (((st + K.length : Nat) : Int)).toNat = u := by rw [Int.toNat_natCast, upM_eq]
    refine ⟨upM N2 115 (st + K.length) u, ?_, fun a j h3 h4 => by rw [up_na h3, j2 a j h4, i2 a j h3 h4], ?_, ?_⟩
    · rw [i1, lp_s m es, List.length_cons]
    · intro p hp
      have hp : p ∈ (if LF x then ((st + K.length : Nat) : Int) :: plc st K else ((st + K.length : Nat) : Int) :: (if x = 312 then (plc st K).tail else (plc st K).tail.tail)) := hp
      have key : p = ((st + K.length : Nat) : Int) ∨ p ∈ plc st K := by
        by_cases q : LF x
        · rw [if_pos q] at hp; exact List.mem_cons.mp hp
        · rw [if_neg q] at hp
          rcases List.mem_cons.mp hp with e | e
          · exact Or.inl e
          · right
            by_cases r : x = 312
            · rw [if_pos r] at e; exact List.mem_of_mem_tail e
            · rw [if_neg r] at e; exact List.mem_of_mem_tail (List.mem_of_mem_tail e)
      rcases key with e | e
      · rw [e, new]; exact j3
      · rw [old p e]; exact i3 p e
    · have f' : upM N2 115 (st + K.length) u 88 53 = N2 88 53 := up_na (by decide)
      rw [f']
      have vt : ∀ {Q : List Int}, (∀ p, p ∈ Q → p ∈ plc st K) → vs (upM N2 115 (st + K.length) u) Q = vs N1 Q := fun hQ => vs_cg (fun p hp => old p (hQ p hp))
      have ep : vs (upM N2 115 (st + K.length) u) (plc st (x :: K)) = u :: (if LF x then vs N1 (plc st K) else if x = 312 then (vs N1 (plc st K)).tail else (vs N1 (plc st K)).tail.tail) := by
        show vs (upM N2 115 (st + K.length) u) (if LF x then ((st + K.length : Nat) : Int) :: plc st K else ((st + K.length : Nat) : Int) :: (if x = 312 then (plc st K).tail else (plc st K).tail.tail)) = _
        have vc : ∀ {Q : List Int}, vs (upM N2 115 (st + K.length) u) (((st + K.length : Nat) : Int) :: Q) = u :: vs (upM N2 115 (st + K.length) u) Q := fun {Q} => by
          show upM N2 115 (st + K.length) u 115 (((st + K.length : Nat) : Int)).toNat :: vs (upM N2 115 (st + K.length) u) Q = _
          rw [new]
        have tm : ∀ {Q : List Int}, vs N1 Q.tail = (vs N1 Q).tail := fun {Q} => by cases Q <;> rfl
        by_cases q : LF x
        · rw [if_pos q, if_pos q, vc, vt (fun p hp => hp)]
        · rw [if_neg q, if_neg q, vc]
          by_cases r : x = 312
          · rw [if_pos r, if_pos r, vt (fun p hp => List.mem_of_mem_tail hp), tm]
          · rw [if_neg r, if_neg r, vt (fun p hp => List.mem_of_mem_tail (List.mem_of_mem_tail hp)), tm, tm]
      rw [ep]
      have er : rv (N 114) (x :: K) (v :: V') = (rv (N 114) K V').bind (stk1 (N 114) x v) := rfl
      rw [er]
      rw [r114] at j4
      rcases i4 with ⟨f, r⟩ | ⟨f, r⟩
      · rw [r, Option.bind_some]
        rcases j4 with ⟨k1, k2, k3⟩ | ⟨k1, k2⟩
        · exact Or.inl ⟨k2, k3⟩
        · refine Or.inr ⟨k2, ?_⟩
          cases eo : stk1 (N 114) x v (vs N1 (plc st K)) with
          | none => rfl
          | some y => exact absurd ⟨f, by rw [eo]; simp⟩ k1
      · rw [r]
        rcases j4 with ⟨k1, k2, k3⟩ | ⟨k1, k2⟩
        · exact absurd (f.symm.trans k1) (by decide)
        · exact Or.inr ⟨k2, rfl⟩
theorem lof_eq (p1 : Int) : f_X12_lawOf N p1 = bM (upM N 88 53 0) fun M1 => gd (0 ≤ p1 ∧ p1 < (6 : Int)) (bI (M1 107 (p1).toNat) fun x3 => (lp (ns6 p1) FU (x3, M1)).bind fun x10 => if (x10 88 53) = 0 then (gd (0 ≤ p1 ∧ p1 < (6 : Int)) <| gd (0 ≤ w32 ((x10 108 (p1).toNat) - 1) ∧ w32 ((x10 108 (p1).toNat) - 1) < (64 : Int)) <| some (x10 115 (w32 ((x10 108 (p1).toNat) - 1)).toNat, x10)) else some (0, x10)) := rfl
/-- a law's value: the second system's -/
theorem n_law {K V A B : List Int} (hw : w < 6) (h0 : N 107 w = (st : Int)) (he : N 108 w = ((st + K.length : Nat) : Int)) (h64 : st + K.length ≤ 64) (nm : NmOK (N 114)) (hk : OKK st K V A B) (hp : (plc st K).length = 1) (s1 : STK (fun i => N 109 (st + i)) (K.map mk)) (s2 : STK (fun i => N 110 (st + i)) A) (s3 : STK (fun i => N 111 (st + i)) B) : ∃ v N', f_X12_lawOf N (w : Int) = some (v, N') ∧ (∀ a j, a ≠ 115 → a ≠ 88 ∨ j ≠ 53 → N' a j = N a j) ∧ (((rv (N 114) K V).map (fun s => s.headD 0) = none ∧ N' 88 53 ≠ 0) ∨ ((rv (N 114) K V).map (fun s => s.headD 0) = some v ∧ N' 88 53 = 0)) := by
  have zw : 0 ≤ (w : Int) ∧ (w : Int) < 6 := by omega
  have u : ∀ a j, a ≠ 88 → upM N 88 53 0 a j = N a j := fun a j h => up_na h
  have u14 : upM N 88 53 0 114 = N 114 := funext fun j => u 114 j (by decide)
  have fu : FU = (FU - 1 - K.length) + 1 + K.length := by unfold FU; omega
  rw [lof_eq, bM_eq, gd_t zw, Int.toNat_natCast, u 107 w (by decide), h0, bI_eq, fu]
  obtain ⟨N1, i1, i2, i3, i4⟩ := n_run (N := upM N 88 53 0) (st := st) hw ((u 108 w (by decide)).trans he) h64 (by rw [u14]; exact nm) upM_eq (FU - 1 - K.length + 1) hk (s1.cg (fun j _ => u 109 _ (by decide))) (s2.cg (fun j _ => u 110 _ (by decide))) (s3.cg (fun j _ => u 111 _ (by decide))) (Nat.le_refl _)
  have r108 : N1 108 w = ((st + K.length : Nat) : Int) := by rw [i2 108 w (by decide) (by omega), u 108 w (by decide)]; exact he
  have ee : ns6 (w : Int) (((st + K.length : Nat) : Int), N1) = some (Sum.inr N1) := by
    show gd (0 ≤ (w : Int) ∧ (w : Int) < (6 : Int)) (if ((st + K.length : Nat) : Int) < (N1 108 ((w : Int)).toNat) then _ else some (Sum.inr N1)) = _
    rw [gd_t zw, Int.toNat_natCast, r108, if_neg (by omega)]
  rw [i1, lp_e _ ee, Option.bind_some, r108]
  rw [u14] at i4
  have fr : ∀ a j, a ≠ 115 → a ≠ 88 ∨ j ≠ 53 → N1 a j = N a j := fun a j h1 h2 => by rw [i2 a j h1 (by omega), upM_ne a j (by omega)]
  rcases i4 with ⟨f, r⟩ | ⟨f, r⟩
  · obtain ⟨x, K', rfl⟩ : ∃ x K', K = x :: K' := by
      cases K with
      | nil => exact absurd hp (by show ¬ 0 = 1; omega)
      | cons x K' => exact ⟨x, K', rfl⟩
    rw [List.length_cons] at h64
    have el : st + (x :: K').length = st + K'.length + 1 := by rw [List.length_cons]; omega
    have zl : 0 ≤ ((st + K'.length : Nat) : Int) ∧ ((st + K'.length : Nat) : Int) < 64 := by omega
    have hh : (vs N1 (plc st (x :: K'))).headD 0 = N1 115 (st + K'.length) := by
      show (vs N1 (if LF x then ((st + K'.length : Nat) : Int) :: plc st K' else nP x (st + K'.length) (plc st K'))).headD 0 = _
      by_cases q : LF x
      · rw [if_pos q]
        show N1 115 (((st + K'.length : Nat) : Int)).toNat = _
        rw [Int.toNat_natCast]
      · rw [if_neg q]
        show N1 115 (((st + K'.length : Nat) : Int)).toNat = _
        rw [Int.toNat_natCast]
    rw [if_pos f, gd_t zw, el, wp1 (by omega), gd_t zl, Int.toNat_natCast, r]
    refine ⟨_, N1, rfl, fr, Or.inr ⟨?_, f⟩⟩
    show some ((vs N1 (plc st (x :: K'))).headD 0) = _
    rw [hh]
  · rw [if_neg (by omega), r]
    exact ⟨0, N1, rfl, fr, Or.inl ⟨rfl, by omega⟩⟩
end NRUN
