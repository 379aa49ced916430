section LAWSN
theorem STK_drop {row : Nat → Int} : ∀ (A : List Int) {L : List Int}, STK row (A ++ L) → STK row L
  | [], _, h => h
  | _ :: A, _, h => STK_drop A h.2
theorem STK_up {row : Nat → Int} {B : List Int} : ∀ {K : List Int}, STK row (K ++ B) → STK (fun i => row (B.length + i)) K
  | [], _ => trivial
  | x :: K, h => ⟨by
      have h1 : row (K ++ B).length = x := h.1
      rw [List.length_append] at h1
      show row (B.length + K.length) = x
      rw [Nat.add_comm]; exact h1, STK_up h.2⟩
theorem STK_sl {row : Nat → Int} {A K B : List Int} {st : Nat} (h : STK row (A ++ (K ++ B))) (e : B.length = st) : STK (fun i => row (st + i)) K := by
  subst e
  exact STK_up (STK_drop A h)
/-- the value of a law, told or not -/
def lvo : Option (List Int × List Int) → (Nat → Int) → Option Int
  | none, _ => none
  | some (K, V), nm => (rv nm K V).map fun s => s.headD 0
/-- a law as it was read, on both sides -/
def LPD (M N : MM) (g l : Nat) (D : Option (List Int × List Int)) : Prop := (D = none ∧ N 106 (3 + l) = 0 ∧ ¬ M (g + 15) l < M (g + 16) l) ∨ ∃ (st : Nat) (K V A B : List Int), D = some (K, V) ∧ N 106 (3 + l) = 1 ∧ (M (g + 15) l = (st : Int) ∧ M (g + 16) l = ((st + K.length : Nat) : Int)) ∧ (N 107 (3 + l) = (st : Int) ∧ N 108 (3 + l) = ((st + K.length : Nat) : Int)) ∧ st + K.length ≤ 64 ∧ OKK st K V A B ∧ (plc st K).length = 1 ∧ (STK (fun i => M (g + 13) (st + i)) K ∧ STK (fun i => M (g + 14) (st + i)) V) ∧ STK (fun i => N 109 (64 + (st + i))) (K.map mk) ∧ STK (fun i => N 110 (64 + (st + i))) A ∧ STK (fun i => N 111 (64 + (st + i))) B
variable {M N N' : MM} {g l : Nat}
theorem LW.lp (w : LW M N g) (hl : l < 3) : ∃ D, LPD M N g l D := by
  obtain ⟨Ko, Vo, Ao, Bo, wb, lt⟩ := w
  rcases lt l hl with ⟨u1, u2⟩ | ⟨u1, st, K, V, A, B, ⟨K1, K0, V1, V0, A1, A0, B1, B0, ⟨a1, a2⟩, ⟨b1, b2⟩, ⟨c1, c2⟩, d1, d2⟩, h1, h2, h3, h4⟩
  · exact ⟨none, Or.inl ⟨rfl, u1, u2⟩⟩
  · obtain ⟨⟨w1, w2, w3⟩, ⟨w4, w5, w6⟩, ⟨w7, w8⟩, w9, ⟨w10, w11⟩, w12, w13⟩ := wb
    rw [a1, List.length_append, List.length_append] at w3
    refine ⟨some (K, V), Or.inr ⟨st, K, V, A, B, rfl, u1, h1, h2, by omega, h3, h4, ⟨?_, ?_⟩, ?_, ?_, ?_⟩⟩
    · rw [a1] at w4; exact STK_sl w4 a2
    · rw [b1] at w5; exact STK_sl w5 b2
    · rw [a1, List.map_append, List.map_append] at w9
      exact STK_sl (row := fun i => N 109 (64 + i)) w9 (by rw [List.length_map]; exact a2)
    · rw [c1] at w10; exact STK_sl (row := fun i => N 110 (64 + i)) w10 c2
    · rw [d1] at w12; exact STK_sl (row := fun i => N 111 (64 + i)) w12 d2
theorem lfv_cg {a b : Nat → Int} (h : ∀ j, j < 7 → a j = b j) (x : Int) : lfv a x = lfv b x := by
  unfold lfv
  rw [h _ (Nat.mod_lt _ (by decide))]
theorem rv_cg {a b : Nat → Int} (h : ∀ j, j < 7 → a j = b j) : ∀ K V : List Int, rv a K V = rv b K V
  | [], _ => rfl
  | _ :: _, [] => rfl
  | x :: K, v :: V => by
    show (rv a K V).bind (stk1 a x v) = (rv b K V).bind (stk1 b x v)
    have e : stk1 a x v = stk1 b x v := funext fun s => by
      unfold stk1
      rw [lfv_cg h x]
    rw [rv_cg h K V, e]
/-- the laws' values: they are as they must be -/
theorem lvo_c (D : Option (List Int × List Int)) {a b : Nat → Int} (h : ∀ j, j < 7 → a j = b j) : lvo D a = lvo D b := by
  cases D with
  | none => rfl
  | some p =>
    obtain ⟨K, V⟩ := p
    show (rv a K V).map _ = (rv b K V).map _
    rw [rv_cg h]
theorem lvo_r {D : Option (List Int × List Int)} (hD : D = none ∨ ∃ (st : Nat) (K V A B : List Int), D = some (K, V) ∧ OKK st K V A B) {a : Nat → Int} {v : Int} (h : lvo D a = some v) : bd v := by
  rcases hD with e | ⟨st, K, V, A, B, e, ok⟩
  · rw [e] at h
    exact absurd h (by show ¬ none = some v; simp)
  · rw [e] at h
    have h : (rv a K V).map (fun s => s.headD 0) = some v := h
    cases es : rv a K V with
    | none => rw [es] at h; exact absurd h (by simp)
    | some s =>
      rw [es] at h
      have h' := Option.some.inj h
      obtain ⟨b0, _⟩ := rv_ok ok es
      have hh := hd_bd b0
      rw [← h']; exact hh
theorem LPD.ok {D : Option (List Int × List Int)} (h : LPD M N g l D) : D = none ∨ ∃ (st : Nat) (K V A B : List Int), D = some (K, V) ∧ OKK st K V A B := by
  rcases h with h | ⟨st, K, V, A, B, e, _, _, _, _, ok, _⟩
  · exact Or.inl h.1
  · exact Or.inr ⟨st, K, V, A, B, e, ok⟩
/-- the class answers by them -/
theorem LPD.cl {D : Option (List Int × List Int)} (h : LPD M N g l D) (hl : l < 3) {m : MM} (hm : ∀ k : Nat, 13 ≤ k → k ≤ 16 → m (g + k) = M (g + k)) (nm : NmOK (m (g + 18))) : ∃ m', f_X3_value m (g + 12) (l : Int) = some ((lvo D (m (g + 18))).getD ERR, m') ∧ ∀ a, a ≠ g + 17 → m' a = m a := by
  rcases h with ⟨e, _, u⟩ | ⟨st, K, V, A, B, e, _, ⟨h1, h2⟩, _, h64, ok, pl, ⟨s1, s2⟩, _⟩
  · subst e
    have zw : 0 ≤ (l : Int) ∧ (l : Int) < 3 := by omega
    have e3 : m (g + 12 + 3) l = M (g + 15) l := congrFun (hm 15 (by decide) (by decide)) l
    have e4 : m (g + 12 + 4) l = M (g + 16) l := congrFun (hm 16 (by decide) (by decide)) l
    have ee : cs3 (g + 12) (l : Int) (0, m (g + 12 + 3) l, m) = some (Sum.inr (Sum.inl (0, m))) := by
      show gd (0 ≤ (l : Int) ∧ (l : Int) < (3 : Int)) (if m (g + 12 + 3) l < (m (g + 12 + 4) ((l : Int)).toNat) then _ else some (Sum.inr (Sum.inl (0, m)))) = _
      rw [gd_t zw, Int.toNat_natCast, e3, e4, if_neg u]
    refine ⟨m, ?_, fun _ _ => rfl⟩
    rw [val_eq, gd_t zw, Int.toNat_natCast, bI_eq]
    rw [show lp (cs3 (g + 12) (l : Int)) FU (0, m (g + 12 + 3) l, m) = some (Sum.inl (0, m)) from lp_e 999999 ee, bS_l]
    rfl
  · subst e
    have e13 : m (g + 13) = M (g + 13) := hm 13 (by decide) (by decide)
    have e14 : m (g + 14) = M (g + 14) := hm 14 (by decide) (by decide)
    have e15 : m (g + 15) = M (g + 15) := hm 15 (by decide) (by decide)
    have e16 : m (g + 16) = M (g + 16) := hm 16 (by decide) (by decide)
    exact c_law (M := m) hl (by rw [e15]; exact h1) (by rw [e16]; exact h2) h64 nm ok pl (by rw [e13]; exact s1) (by rw [e14]; exact s2)
/-- the second system answers by them -/
theorem LPD.ml {D : Option (List Int × List Int)} (h : LPD M N g l D) (hl : l < 3) (h3 : ∀ a j, 106 ≤ a ∧ a ≤ 108 → j < 3 → N' a j = N a (3 + j)) (h6 : ∀ a j, 109 ≤ a ∧ a ≤ 111 → j < 64 → N' a j = N a (64 + j)) {n : MM} (hn : ∀ a j, (106 ≤ a ∧ a ≤ 108 ∧ j < 3) ∨ (109 ≤ a ∧ a ≤ 111 ∧ j < 64) → n a j = N' a j) (nm : NmOK (n 114)) : (N' 106 l = 0 → ∀ x, lvo D x = none) ∧ (N' 106 l ≠ 0 → ∃ v n', f_X12_lawOf n (l : Int) = some (v, n') ∧ (∀ a j, a ≠ 115 → a ≠ 88 ∨ j ≠ 53 → n' a j = n a j) ∧ ((lvo D (n 114) = none ∧ n' 88 53 ≠ 0) ∨ (lvo D (n 114) = some v ∧ n' 88 53 = 0))) := by
  rw [h3 106 l (by decide) hl]
  have l3 : ∀ a, 106 ≤ a ∧ a ≤ 108 → n a l = N a (3 + l) := fun a ha => by rw [hn a l (by omega), h3 a l ha hl]
  have l6 : ∀ a j, 109 ≤ a ∧ a ≤ 111 → j < 64 → n a j = N a (64 + j) := fun a j ha hj => by rw [hn a j (by omega), h6 a j ha hj]
  rcases h with ⟨e, u, _⟩ | ⟨st, K, V, A, B, e, u, _, ⟨h1, h2⟩, h64, ok, pl, _, s1, s2, s3⟩
  · subst e
    exact ⟨fun _ _ => rfl, fun z => absurd u z⟩
  · subst e
    refine ⟨fun z => by rw [u] at z; exact absurd z (by decide), fun _ => ?_⟩
    obtain ⟨vl, al, bl⟩ := OKK_len ok
    exact n_law (N := n) (by omega) (by rw [l3 107 (by decide)]; exact h1) (by rw [l3 108 (by decide)]; exact h2) h64 nm ok pl (s1.cg (fun j hj => l6 109 _ (by decide) (by rw [List.length_map] at hj; omega))) (s2.cg (fun j hj => l6 110 _ (by decide) (by omega))) (s3.cg (fun j hj => l6 111 _ (by decide) (by omega)))
end LAWSN
